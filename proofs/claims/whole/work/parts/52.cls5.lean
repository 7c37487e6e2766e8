/-! the class's slip -/
def ff_c (h : ez_H) (o f x y i : Int) : Prop := h (o + 2) i = -1 ∧ fx_far (h (2 + 3 * f + 1) i) (h (2 + 3 * f + 2) i) (h o 4 * fx_tx (h o 3) x y + h o 5) (h o 4 * fx_ty (h o 3) x y + h o 6) ≤ h 0 7
theorem sp_find_iff {pr : Int → Int} {i : Int} {n : Nat} : sp_find pr i n = -1 ↔ ¬ ∃ k : Int, 0 ≤ k ∧ k < (n : Int) ∧ pr k = i := by
  constructor
  · rintro q ⟨k, k0, k1, k2⟩
    exact sp_find_none n q k k0 k1 k2
  · intro q
    rcases sp_find_rng (pr := pr) (i := i) n with z | ⟨z1, z2, z3⟩
    · exact z
    · exact absurd ⟨_, z1, z2, z3⟩ q
theorem cd_slf {h h1 : ez_H} {p : Int} (v : cd_V h) (v1 : cd_V h1) (b1 : bf_fr h h1) (hn : h 0 5 ≠ 0) (hp : 0 ≤ p ∧ p < h 0 5) (hf : h1 (18 + 3 * (h 0 6 * 5 + p)) 0 ≠ 0) (hh : sp_has (cd_S h) (h 0 6) p) (x y : Int) : sp_first (ff_c h1 (18 + 3 * (h 0 6 * 5 + p)) (h 0 6) x y) (h (2 + 3 * h 0 6) 1).toNat = sp_slf (cd_S h) p x y := by
  have fr := v.b.fr
  have n := v.b.n
  have fb : 0 ≤ h 0 6 ∧ h 0 6 < h 0 5 := by omega
  have e5 : h1 0 5 = h 0 5 := b1 0 5 (by omega)
  have sS : cd_S h1 = cd_S h := b1.cd.S n.2
  have FF := v1.F (a := h 0 6) (b := p) (by omega) (by omega) hf
  rw [sS, b1 0 7 (by omega)] at FF
  have n2 := cd_n2 v.b fb.1 fb.2
  have wn := (v.b.w _ fb.1 fb.2).1.n
  unfold sp_slf
  rw [← v.b.f, show ((cd_S h).2.2.2 (h 0 6)).1 = (h (2 + 3 * h 0 6) 1).toNat by omega]
  refine sp_first_cong _ (fun i i0 i1 => ?_)
  rcases FF with z | ⟨z1, z2, z3, z4, z5, z6, -⟩
  · exact absurd hh z.1
  · have xy := cd_xy v.b fb (j := i) (by omega)
    unfold ff_c sp_slp
    rw [← v.b.f, z5 i i0 (by omega), sp_find_iff, show (cd_S h).2.1 = h 0 7 from rfl, z6, xy.1, xy.2, b1 0 7 (by omega), b1 (2 + 3 * h 0 6 + 1) i (by omega), b1 (2 + 3 * h 0 6 + 2) i (by omega)]

theorem lp_ff {o x y : Int} {h : ez_H} (ho : ez_isL o) (hf : 0 ≤ h 0 6 ∧ h 0 6 < 5) (W : cd_W h (2 + 3 * h 0 6)) (hx : (0 ≤ x ∧ x ≤ 999) ∧ (0 ≤ y ∧ y ≤ 999)) (h4 : 0 ≤ h o 4 ∧ h o 4 ≤ 3) (h5 : -4000 ≤ h o 5 ∧ h o 5 ≤ 4000) (h6 : -4000 ≤ h o 6 ∧ h o 6 ≤ 4000) : ∀ (n : Nat) (i : Nat), ((i : Int) ≤ h (2 + 3 * h 0 6) 1) → (sp_first (ff_c h o (h 0 6) x y) i = -1) → h (2 + 3 * h 0 6) 1 - i < n → ez_En M_X5_firstFreeNear 30 [ez_R 0, ez_R o, ez_I x, ez_I y, ez_R (2 + 3 * h 0 6), ez_I (h o 4 * fx_tx (h o 3) x y + h o 5), ez_I (h o 4 * fx_ty (h o 3) x y + h o 6), ez_I (i : Nat)] [] h (ez_F h (sp_first (ff_c h o (h 0 6) x y) (h (2 + 3 * h 0 6) 1).toNat)) := by
  intro n
  induction n with
  | zero =>
    intro i i0 no hm
    exfalso
    omega
  | succ n ih =>
    intro i i0 no hm
    have wn := W.n
    have bd := fx_t_bd (k := h o 3) hx
    have bm : (-3000 ≤ h o 4 * fx_tx (h o 3) x y ∧ h o 4 * fx_tx (h o 3) x y ≤ 3000) ∧ (-3000 ≤ h o 4 * fx_ty (h o 3) x y ∧ h o 4 * fx_ty (h o 3) x y ≤ 3000) := by
      rcases (show h o 4 = 0 ∨ h o 4 = 1 ∨ h o 4 = 2 ∨ h o 4 = 3 by omega) with e | e | e | e <;> rw [e] <;> omega
    refine ez_iload dX5_firstFreeNear_30 rfl ?_
    refine ez_aload dX5_firstFreeNear_32 rfl ?_
    refine g3_1 (by first | assumption | exact ez_isP.mk (by omega)) dX5_firstFreeNear_34 fl_X5_92 ?_
    refine ez_ic_ge 92 dX5_firstFreeNear_37 (by decide) (fun c_37 => ?_) (fun c_37 => ?_)
    · refine ez_iconst dX5_firstFreeNear_92 (by decide) ?_
      refine ez_ireturn (st := []) dX5_firstFreeNear_93 rfl ?_
      refine ez_F.in ?_
      rw [show (h (2 + 3 * h 0 6) 1).toNat = i by omega, no]
    · refine ez_aload_n dX5_firstFreeNear_40 rfl ?_
      refine g1_8 (by first | assumption | exact ez_isL.mk (by omega)) dX5_firstFreeNear_41 fl_X5_211 ?_
      refine ez_iload dX5_firstFreeNear_44 rfl ?_
      refine alL2 (by first | assumption | exact ez_isL.mk (by omega)) dX5_firstFreeNear_46 (by omega) ?_
      refine ez_iconst dX5_firstFreeNear_47 (by decide) ?_
      refine ez_ic_ne 86 dX5_firstFreeNear_48 (by decide) (fun c_48 => ?_) (fun c_48 => ?_)
      · have n1 := sp_first_no no (fun z : ff_c h o (h 0 6) x y i => by
          obtain ⟨z1, z2⟩ := z
          unfold fx_far at z2
          omega)
        refine ez_iinc dX5_firstFreeNear_86 rfl (by decide) (by decide) (by omega) ?_
        refine ez_goto 30 dX5_firstFreeNear_89 (by decide) ?_
        exact ih (i + 1) (by omega) n1 (by omega)
      · have wx := W.x i (by omega) (by omega)
        refine ez_aload dX5_firstFreeNear_51 rfl ?_
        refine g3_2 (by first | assumption | exact ez_isP.mk (by omega)) dX5_firstFreeNear_53 fl_X5_95 ?_
        refine ez_iload dX5_firstFreeNear_56 rfl ?_
        refine alP1 (by first | assumption | exact ez_isP.mk (by omega)) dX5_firstFreeNear_58 (by omega) ?_
        refine ez_iload dX5_firstFreeNear_59 rfl ?_
        refine ez_isub dX5_firstFreeNear_61 (by omega) ?_
        refine ez_aload dX5_firstFreeNear_62 rfl ?_
        refine g3_3 (by first | assumption | exact ez_isP.mk (by omega)) dX5_firstFreeNear_64 fl_X5_99 ?_
        refine ez_iload dX5_firstFreeNear_67 rfl ?_
        refine alP2 (by first | assumption | exact ez_isP.mk (by omega)) dX5_firstFreeNear_69 (by omega) ?_
        refine ez_iload dX5_firstFreeNear_70 rfl ?_
        refine ez_isub dX5_firstFreeNear_72 (by omega) ?_
        refine cl_X5_farOf dX5_firstFreeNear_73 ml_X5_214 ft_X5_firstFreeNear__X5_farOf (Nat.le_of_ble_eq_true rfl) (c_X5_farOf (by omega)) (ez_kF ?_)
        refine ez_aload_n dX5_firstFreeNear_76 rfl ?_
        refine g5_7 dX5_firstFreeNear_77 fl_X5_48 ?_
        refine ez_ic_gt 86 dX5_firstFreeNear_80 (by decide) (fun c_80 => ?_) (fun c_80 => ?_)
        · have n1 := sp_first_no no (fun z : ff_c h o (h 0 6) x y i => by
            obtain ⟨z1, z2⟩ := z
            unfold fx_far at z2
            omega)
          refine ez_iinc dX5_firstFreeNear_86 rfl (by decide) (by decide) (by omega) ?_
          refine ez_goto 30 dX5_firstFreeNear_89 (by decide) ?_
          exact ih (i + 1) (by omega) n1 (by omega)
        · refine ez_iload dX5_firstFreeNear_83 rfl ?_
          refine ez_ireturn (st := []) dX5_firstFreeNear_85 rfl ?_
          exact ez_F.in (sp_first_hit no ⟨c_48, by unfold fx_far; omega⟩ (by omega)).symm
theorem c_X5_firstFreeNear {o x y : Int} {h : ez_H} (ho : ez_isL o) (hf : 0 ≤ h 0 6 ∧ h 0 6 < 5) (W : cd_W h (2 + 3 * h 0 6)) (hx : (0 ≤ x ∧ x ≤ 999) ∧ (0 ≤ y ∧ y ≤ 999)) (h4 : 0 ≤ h o 4 ∧ h o 4 ≤ 3) (h5 : -4000 ≤ h o 5 ∧ h o 5 ≤ 4000) (h6 : -4000 ≤ h o 6 ∧ h o 6 ≤ 4000) : ez_Ct M_X5_firstFreeNear [ez_R 0, ez_R o, ez_I x, ez_I y] h ((ez_F h (sp_first (ff_c h o (h 0 6) x y) (h (2 + 3 * h 0 6) 1).toNat))) := by
  refine ez_of (by decide) (Nat.le_of_ble_eq_true rfl) (L0 := [ez_R 0, ez_R o, ez_I x, ez_I y, ez_N, ez_N, ez_N, ez_N]) rfl ?_
  refine ez_aload_n dX5_firstFreeNear_0 rfl ?_
  refine g5_0 dX5_firstFreeNear_1 fl_X5_11 ?_
  refine ez_aload_n dX5_firstFreeNear_4 rfl ?_
  refine g5_6 dX5_firstFreeNear_5 fl_X5_45 ?_
  refine ez_aaloadP dX5_firstFreeNear_8 (by omega) ?_
  refine ez_astore dX5_firstFreeNear_9 (by decide) ?_
  refine ez_aload_n dX5_firstFreeNear_11 rfl ?_
  refine ez_iload_n dX5_firstFreeNear_12 rfl ?_
  refine ez_iload_n dX5_firstFreeNear_13 rfl ?_
  refine cl_X1_bringX (by first | assumption | exact ez_isL.mk (by omega)) dX5_firstFreeNear_14 ml_X5_205 ft_X5_firstFreeNear__X1_bringX (Nat.le_of_ble_eq_true rfl) (c_X1_bringX ho hx h4 (by omega)) (ez_kF ?_)
  refine ez_istore dX5_firstFreeNear_17 (by decide) ?_
  refine ez_aload_n dX5_firstFreeNear_19 rfl ?_
  refine ez_iload_n dX5_firstFreeNear_20 rfl ?_
  refine ez_iload_n dX5_firstFreeNear_21 rfl ?_
  refine cl_X1_bringY (by first | assumption | exact ez_isL.mk (by omega)) dX5_firstFreeNear_22 ml_X5_208 ft_X5_firstFreeNear__X1_bringY (Nat.le_of_ble_eq_true rfl) (c_X1_bringY ho hx h4 (by omega)) (ez_kF ?_)
  refine ez_istore dX5_firstFreeNear_25 (by decide) ?_
  refine ez_iconst dX5_firstFreeNear_27 (by decide) ?_
  refine ez_istore dX5_firstFreeNear_28 (by decide) ?_
  have wn := W.n
  exact lp_ff ho hf W hx h4 h5 h6 9 0 (by omega) rfl (by omega)
theorem sl_it1 {S : sp_S} {p j what X Y O d : Int} {h1 : ez_H} {Q : ez_H → Option ez_V → Prop} (kL : ez_isL O) (hf : 0 ≤ h1 0 6 ∧ h1 0 6 < 5) (WF : cd_W h1 (2 + 3 * h1 0 6)) (q7 : 0 ≤ h1 O 4 ∧ h1 O 4 ≤ 3) (q8 : -4000 ≤ h1 O 5 ∧ h1 O 5 ≤ 4000) (q9 : -4000 ≤ h1 O 6 ∧ h1 O 6 ≤ 4000) (bX : 0 ≤ X ∧ X ≤ 999) (bY : 0 ≤ Y ∧ Y ≤ 999) (hd : d = 0 ∨ d = 1) (hsl : ∀ x y : Int, sp_first (ff_c h1 O (h1 0 6) x y) (h1 (2 + 3 * h1 0 6) 1).toNat = sp_slf S p x y) (kq : sp_slf S p (fx_sl X d) Y ≠ -1 → Q h1 (some (ez_I (sp_sla what 1 d (sp_slf S p (fx_sl X d) Y))))) (kx : sp_slf S p (fx_sl X d) Y = -1 → ez_En M_X5_slip 184 [ez_R 0, ez_I p, ez_I j, ez_I what, ez_R O, ez_I X, ez_I Y, ez_I 1, ez_I d, ez_N, ez_N, ez_N] [] h1 Q) : ez_En M_X5_slip 104 [ez_R 0, ez_I p, ez_I j, ez_I what, ez_R O, ez_I X, ez_I Y, ez_I 1, ez_I d, ez_N, ez_N, ez_N] [] h1 Q := by
  have s1 := fx_sl_bd (place := d) bX
  have s2 := fx_sl_bd (place := d) bY
  refine ez_iload dX5_slip_104 rfl ?_
  refine ez_iconst dX5_slip_106 (by decide) ?_
  refine ez_ic_ne 120 dX5_slip_107 (by decide) (fun c_107 => ?_) (fun c_107 => ?_)
  · exact absurd c_107 (by decide)
  · refine ez_iload dX5_slip_110 rfl ?_
    refine ez_iload dX5_slip_112 rfl ?_
    refine cl_X5_exchanged dX5_slip_114 ml_X5_183 ft_X5_slip__X5_exchanged (Nat.le_of_ble_eq_true rfl) (c_X5_exchanged (by omega) hd) (ez_kF ?_)
    refine ez_goto 122 dX5_slip_117 (by decide) ?_
    refine ez_istore dX5_slip_122 (by decide) ?_
    refine ez_iload dX5_slip_124 rfl ?_
    refine ez_iconst dX5_slip_126 (by decide) ?_
    refine ez_ic_ne 140 dX5_slip_127 (by decide) (fun c_127 => ?_) (fun c_127 => ?_)
    · refine ez_iload dX5_slip_140 rfl ?_
      refine ez_istore dX5_slip_142 (by decide) ?_
      refine ez_aload_n dX5_slip_144 rfl ?_
      refine ez_aload dX5_slip_145 rfl ?_
      refine ez_iload dX5_slip_147 rfl ?_
      refine ez_iload dX5_slip_149 rfl ?_
      refine cl_X5_firstFreeNear dX5_slip_151 ml_X5_186 ft_X5_slip__X5_firstFreeNear (Nat.le_of_ble_eq_true rfl) (c_X5_firstFreeNear kL hf WF (by omega) q7 q8 q9) (ez_kF ?_)
      rw [hsl]
      refine ez_istore dX5_slip_154 (by decide) ?_
      refine ez_iload dX5_slip_156 rfl ?_
      refine ez_iconst dX5_slip_158 (by decide) ?_
      refine ez_ic_eq 184 dX5_slip_159 (by decide) (fun c_159 => ?_) (fun c_159 => ?_)
      · refine ez_lessS (L' := [ez_R 0, ez_I p, ez_I j, ez_I what, ez_R O, ez_I X, ez_I Y, ez_I 1, ez_I d, ez_N, ez_N, ez_N]) ⟨Or.inr rfl, Or.inr rfl, Or.inr rfl, Or.inr rfl, Or.inr rfl, Or.inr rfl, Or.inr rfl, Or.inr rfl, Or.inr rfl, Or.inl rfl, Or.inl rfl, Or.inl rfl, trivial⟩ ?_
        exact kx c_159
      · refine ez_iload_n dX5_slip_162 rfl ?_
        refine ez_if_ne 171 dX5_slip_163 (by decide) (fun c_163 => ?_) (fun c_163 => ?_)
        · refine ez_iload_n dX5_slip_171 rfl ?_
          refine ez_iconst dX5_slip_172 (by decide) ?_
          refine ez_ic_ne 181 dX5_slip_173 (by decide) (fun c_173 => ?_) (fun c_173 => ?_)
          · refine ez_iload dX5_slip_181 rfl ?_
            refine ez_ireturn (st := []) dX5_slip_183 rfl ?_
            have aa := kq c_159
            unfold sp_sla at aa
            first
             | (rw [if_pos c_163] at aa; exact aa)
             | (rw [if_neg c_163, if_pos c_173] at aa; exact aa)
             | (rw [if_neg c_163, if_neg c_173] at aa; exact aa)
          · refine ez_iload dX5_slip_176 rfl ?_
            refine ez_goto 183 dX5_slip_178 (by decide) ?_
            refine ez_ireturn (st := []) dX5_slip_183 rfl ?_
            have aa := kq c_159
            unfold sp_sla at aa
            first
             | (rw [if_pos c_163] at aa; exact aa)
             | (rw [if_neg c_163, if_pos c_173] at aa; exact aa)
             | (rw [if_neg c_163, if_neg c_173] at aa; exact aa)
        · refine ez_iload dX5_slip_166 rfl ?_
          refine ez_goto 183 dX5_slip_168 (by decide) ?_
          refine ez_ireturn (st := []) dX5_slip_183 rfl ?_
          have aa := kq c_159
          unfold sp_sla at aa
          first
           | (rw [if_pos c_163] at aa; exact aa)
           | (rw [if_neg c_163, if_pos c_173] at aa; exact aa)
           | (rw [if_neg c_163, if_neg c_173] at aa; exact aa)
    · exact absurd c_127 (by decide)
theorem sl_it2 {S : sp_S} {p j what X Y O d : Int} {h1 : ez_H} {Q : ez_H → Option ez_V → Prop} (kL : ez_isL O) (hf : 0 ≤ h1 0 6 ∧ h1 0 6 < 5) (WF : cd_W h1 (2 + 3 * h1 0 6)) (q7 : 0 ≤ h1 O 4 ∧ h1 O 4 ≤ 3) (q8 : -4000 ≤ h1 O 5 ∧ h1 O 5 ≤ 4000) (q9 : -4000 ≤ h1 O 6 ∧ h1 O 6 ≤ 4000) (bX : 0 ≤ X ∧ X ≤ 999) (bY : 0 ≤ Y ∧ Y ≤ 999) (hd : d = 0 ∨ d = 1) (hsl : ∀ x y : Int, sp_first (ff_c h1 O (h1 0 6) x y) (h1 (2 + 3 * h1 0 6) 1).toNat = sp_slf S p x y) (kq : sp_slf S p X (fx_sl Y d) ≠ -1 → Q h1 (some (ez_I (sp_sla what 2 d (sp_slf S p X (fx_sl Y d)))))) (kx : sp_slf S p X (fx_sl Y d) = -1 → ez_En M_X5_slip 184 [ez_R 0, ez_I p, ez_I j, ez_I what, ez_R O, ez_I X, ez_I Y, ez_I 2, ez_I d, ez_N, ez_N, ez_N] [] h1 Q) : ez_En M_X5_slip 104 [ez_R 0, ez_I p, ez_I j, ez_I what, ez_R O, ez_I X, ez_I Y, ez_I 2, ez_I d, ez_N, ez_N, ez_N] [] h1 Q := by
  have s1 := fx_sl_bd (place := d) bX
  have s2 := fx_sl_bd (place := d) bY
  refine ez_iload dX5_slip_104 rfl ?_
  refine ez_iconst dX5_slip_106 (by decide) ?_
  refine ez_ic_ne 120 dX5_slip_107 (by decide) (fun c_107 => ?_) (fun c_107 => ?_)
  · refine ez_iload dX5_slip_120 rfl ?_
    refine ez_istore dX5_slip_122 (by decide) ?_
    refine ez_iload dX5_slip_124 rfl ?_
    refine ez_iconst dX5_slip_126 (by decide) ?_
    refine ez_ic_ne 140 dX5_slip_127 (by decide) (fun c_127 => ?_) (fun c_127 => ?_)
    · exact absurd c_127 (by decide)
    · refine ez_iload dX5_slip_130 rfl ?_
      refine ez_iload dX5_slip_132 rfl ?_
      refine cl_X5_exchanged dX5_slip_134 ml_X5_183 ft_X5_slip__X5_exchanged (Nat.le_of_ble_eq_true rfl) (c_X5_exchanged (by omega) hd) (ez_kF ?_)
      refine ez_goto 142 dX5_slip_137 (by decide) ?_
      refine ez_istore dX5_slip_142 (by decide) ?_
      refine ez_aload_n dX5_slip_144 rfl ?_
      refine ez_aload dX5_slip_145 rfl ?_
      refine ez_iload dX5_slip_147 rfl ?_
      refine ez_iload dX5_slip_149 rfl ?_
      refine cl_X5_firstFreeNear dX5_slip_151 ml_X5_186 ft_X5_slip__X5_firstFreeNear (Nat.le_of_ble_eq_true rfl) (c_X5_firstFreeNear kL hf WF (by omega) q7 q8 q9) (ez_kF ?_)
      rw [hsl]
      refine ez_istore dX5_slip_154 (by decide) ?_
      refine ez_iload dX5_slip_156 rfl ?_
      refine ez_iconst dX5_slip_158 (by decide) ?_
      refine ez_ic_eq 184 dX5_slip_159 (by decide) (fun c_159 => ?_) (fun c_159 => ?_)
      · refine ez_lessS (L' := [ez_R 0, ez_I p, ez_I j, ez_I what, ez_R O, ez_I X, ez_I Y, ez_I 2, ez_I d, ez_N, ez_N, ez_N]) ⟨Or.inr rfl, Or.inr rfl, Or.inr rfl, Or.inr rfl, Or.inr rfl, Or.inr rfl, Or.inr rfl, Or.inr rfl, Or.inr rfl, Or.inl rfl, Or.inl rfl, Or.inl rfl, trivial⟩ ?_
        exact kx c_159
      · refine ez_iload_n dX5_slip_162 rfl ?_
        refine ez_if_ne 171 dX5_slip_163 (by decide) (fun c_163 => ?_) (fun c_163 => ?_)
        · refine ez_iload_n dX5_slip_171 rfl ?_
          refine ez_iconst dX5_slip_172 (by decide) ?_
          refine ez_ic_ne 181 dX5_slip_173 (by decide) (fun c_173 => ?_) (fun c_173 => ?_)
          · refine ez_iload dX5_slip_181 rfl ?_
            refine ez_ireturn (st := []) dX5_slip_183 rfl ?_
            have aa := kq c_159
            unfold sp_sla at aa
            first
             | (rw [if_pos c_163] at aa; exact aa)
             | (rw [if_neg c_163, if_pos c_173] at aa; exact aa)
             | (rw [if_neg c_163, if_neg c_173] at aa; exact aa)
          · refine ez_iload dX5_slip_176 rfl ?_
            refine ez_goto 183 dX5_slip_178 (by decide) ?_
            refine ez_ireturn (st := []) dX5_slip_183 rfl ?_
            have aa := kq c_159
            unfold sp_sla at aa
            first
             | (rw [if_pos c_163] at aa; exact aa)
             | (rw [if_neg c_163, if_pos c_173] at aa; exact aa)
             | (rw [if_neg c_163, if_neg c_173] at aa; exact aa)
        · refine ez_iload dX5_slip_166 rfl ?_
          refine ez_goto 183 dX5_slip_168 (by decide) ?_
          refine ez_ireturn (st := []) dX5_slip_183 rfl ?_
          have aa := kq c_159
          unfold sp_sla at aa
          first
           | (rw [if_pos c_163] at aa; exact aa)
           | (rw [if_neg c_163, if_pos c_173] at aa; exact aa)
           | (rw [if_neg c_163, if_neg c_173] at aa; exact aa)
  · exact absurd c_107 (by decide)
theorem c_X5_slip {p j what : Int} {h : ez_H} (v : cd_V h) : ez_Ct M_X5_slip [ez_R 0, ez_I p, ez_I j, ez_I what] h (cd_Q h (sp_slA (cd_S h) p j what)) := by
  have n := v.b.n
  have ff := v.b.fr
  refine ez_of (by decide) (Nat.le_of_ble_eq_true rfl) (L0 := [ez_R 0, ez_I p, ez_I j, ez_I what, ez_N, ez_N, ez_N, ez_N, ez_N, ez_N, ez_N, ez_N]) rfl ?_
  refine ez_aload_n dX5_slip_0 rfl ?_
  refine ez_iload_n dX5_slip_1 rfl ?_
  refine ez_iload_n dX5_slip_2 rfl ?_
  refine cl_X5_isSpot dX5_slip_3 ml_X5_72 ft_X5_slip__X5_isSpot (Nat.le_of_ble_eq_true rfl) (c_X5_isSpot n) (ez_kB (fun b_3 => ?_) (fun b_3 => ?_))
  · refine ez_if_eq 26 dX5_slip_6 (by decide) (fun c_6 => ?_) (fun c_6 => ?_)
    · exact absurd c_6 (by decide)
    · refine ez_iload_n dX5_slip_9 rfl ?_
      refine ez_aload_n dX5_slip_10 rfl ?_
      refine g5_6 dX5_slip_11 fl_X5_45 ?_
      refine ez_ic_eq 26 dX5_slip_14 (by decide) (fun c_14 => ?_) (fun c_14 => ?_)
      · refine ez_iconst dX5_slip_26 (by decide) ?_
        refine ez_ireturn (st := []) dX5_slip_27 rfl ?_
        first
         | exact cd_Q.in (cd_g.rf v) (sp_dec_f (fun q => b_3 ⟨q.1, by have := cd_n2 v.b q.1.1 q.1.2; have := q.2.2.1; omega⟩)).symm
         | exact cd_Q.in (cd_g.rf v) (sp_dec_f (fun q => q.2.1 (by rw [← v.b.f]; exact c_14))).symm
         | exact cd_Q.in (cd_g.rf v) (sp_dec_f (fun q => absurd q.2.2.2.1 (by omega))).symm
      · refine ez_iload_n dX5_slip_17 rfl ?_
        refine ez_if_lt 26 dX5_slip_18 (by decide) (fun c_18 => ?_) (fun c_18 => ?_)
        · refine ez_iconst dX5_slip_26 (by decide) ?_
          refine ez_ireturn (st := []) dX5_slip_27 rfl ?_
          first
           | exact cd_Q.in (cd_g.rf v) (sp_dec_f (fun q => b_3 ⟨q.1, by have := cd_n2 v.b q.1.1 q.1.2; have := q.2.2.1; omega⟩)).symm
           | exact cd_Q.in (cd_g.rf v) (sp_dec_f (fun q => q.2.1 (by rw [← v.b.f]; exact c_14))).symm
           | exact cd_Q.in (cd_g.rf v) (sp_dec_f (fun q => absurd q.2.2.2.1 (by omega))).symm
        · refine ez_iload_n dX5_slip_21 rfl ?_
          refine ez_iconst dX5_slip_22 (by decide) ?_
          refine ez_ic_le 28 dX5_slip_23 (by decide) (fun c_23 => ?_) (fun c_23 => ?_)
          · refine ez_aload_n dX5_slip_28 rfl ?_
            refine ez_aload_n dX5_slip_29 rfl ?_
            refine g5_6 dX5_slip_30 fl_X5_45 ?_
            refine ez_iload_n dX5_slip_33 rfl ?_
            refine cl_X5_bestLay dX5_slip_34 ml_X5_102 ft_X5_slip__X5_bestLay (Nat.le_of_ble_eq_true rfl) (c_X5_bestLay (a := h 0 6) (b := p) v (by omega) b_3.1) (ez_kR (fun h1 z ⟨e1, v1, b1, f1⟩ => ?_))
            rw [e1]
            have g1 : cd_g h h1 := ⟨v1, b1.cd⟩
            have kL : ez_isL (18 + 3 * (h 0 6 * 5 + p)) := ez_isL.mk (by omega)
            have e5 : h1 0 5 = h 0 5 := b1 0 5 (by omega)
            have e6 : h1 0 6 = h 0 6 := b1 0 6 (by omega)
            have sS : cd_S h1 = cd_S h := g1.2.S n.2
            have FF := v1.F (a := h 0 6) (b := p) (by omega) (by omega) f1
            rw [sS] at FF
            have n2 := cd_n2 v.b b_3.1.1 b_3.1.2
            have wn := (v.b.w p b_3.1.1 b_3.1.2).1.n
            refine ez_astore dX5_slip_37 (by decide) ?_
            refine ez_aload dX5_slip_39 rfl ?_
            refine g1_1 (by first | assumption | exact ez_isL.mk (by omega)) dX5_slip_41 fl_X5_106 ?_
            refine ez_if_eq 58 dX5_slip_44 (by decide) (fun c_44 => ?_) (fun c_44 => ?_)
            · refine ez_iconst dX5_slip_58 (by decide) ?_
              refine ez_ireturn (st := []) dX5_slip_59 rfl ?_
              refine cd_Q.in g1 (sp_dec_f (fun q => ?_)).symm
              rw [← v.b.f] at q
              rcases FF with y | y
              · exact y.1 q.2.2.2.2.1
              · first
                  | exact y.2.1 c_44
                  | exact c_55 ((y.2.2.2.1 j b_3.2.1 (by rw [b1 _ _ (by omega)]; exact b_3.2.2)).trans q.2.2.2.2.2)
            · refine ez_aload dX5_slip_47 rfl ?_
              refine g1_7 (by first | assumption | exact ez_isL.mk (by omega)) dX5_slip_49 fl_X5_122 ?_
              refine ez_iload_n dX5_slip_52 rfl ?_
              refine alL1 (by first | assumption | exact ez_isL.mk (by omega)) dX5_slip_53 (by omega) ?_
              refine ez_iconst dX5_slip_54 (by decide) ?_
              refine ez_ic_eq 60 dX5_slip_55 (by decide) (fun c_55 => ?_) (fun c_55 => ?_)
              · obtain ⟨hh, q4, q7, q8, q9⟩ : sp_has (cd_S h) (h 0 6) p ∧ (∀ j : Int, 0 ≤ j → j < h1 (2 + 3 * p) 1 → h1 ((18 + 3 * (h 0 6 * 5 + p)) + 1) j = sp_pr (cd_S h) (h 0 6) p j) ∧ (0 ≤ h1 (18 + 3 * (h 0 6 * 5 + p)) 4 ∧ h1 (18 + 3 * (h 0 6 * 5 + p)) 4 ≤ 3) ∧ (-4000 ≤ h1 (18 + 3 * (h 0 6 * 5 + p)) 5 ∧ h1 (18 + 3 * (h 0 6 * 5 + p)) 5 ≤ 4000) ∧ (-4000 ≤ h1 (18 + 3 * (h 0 6 * 5 + p)) 6 ∧ h1 (18 + 3 * (h 0 6 * 5 + p)) 6 ≤ 4000) := by
                  rcases FF with y | y
                  · exact absurd y.2.1 c_44
                  · exact ⟨y.1, y.2.2.2.1, y.2.2.2.2.2.2⟩
                have xy := cd_xy v.b b_3.1 b_3.2
                have wx := (v.b.w p b_3.1.1 b_3.1.2).1.x j b_3.2.1 b_3.2.2
                have hX : ((cd_S h).2.2.2 p).2.1 j = h1 (2 + 3 * p + 1) j := xy.1.trans (b1 _ _ (by omega)).symm
                have hY : ((cd_S h).2.2.2 p).2.2 j = h1 (2 + 3 * p + 2) j := xy.2.trans (b1 _ _ (by omega)).symm
                have bX : 0 ≤ h1 (2 + 3 * p + 1) j ∧ h1 (2 + 3 * p + 1) j ≤ 999 := by rw [← hX, xy.1]; exact wx.1
                have bY : 0 ≤ h1 (2 + 3 * p + 2) j ∧ h1 (2 + 3 * p + 2) j ≤ 999 := by rw [← hY, xy.2]; exact wx.2
                have s10 := fx_sl_bd (place := 0) bX
                have s11 := fx_sl_bd (place := 1) bX
                have s20 := fx_sl_bd (place := 0) bY
                have s21 := fx_sl_bd (place := 1) bY
                have hn0 : h 0 5 ≠ 0 := by omega
                have WF : cd_W h1 (2 + 3 * h1 0 6) := (v1.b.w _ (by omega) (by omega)).1
                have hsl := cd_slf v v1 b1 hn0 b_3.1 f1 hh
                have ew : ∀ x y : Int, sp_first (ff_c h1 (18 + 3 * (h 0 6 * 5 + p)) (h1 0 6) x y) (h1 (2 + 3 * h1 0 6) 1).toNat = sp_first (ff_c h1 (18 + 3 * (h 0 6 * 5 + p)) (h 0 6) x y) (h (2 + 3 * h 0 6) 1).toNat := fun x y => by rw [e6, b1 _ _ (by omega)]
                have j1 := q4 j b_3.2.1 (by rw [b1 _ _ (by omega)]; exact b_3.2.2)
                have acc : ∀ z : Int, z = _ → cd_Q h (sp_slA (cd_S h) p j what) h1 (some (ez_I z)) := fun z hz => cd_Q.in g1 (hz.trans (sp_dec_t (show (0 ≤ p ∧ p < (cd_S h).1) ∧ p ≠ sp_f (cd_S h) ∧ (0 ≤ j ∧ j < (((cd_S h).2.2.2 p).1 : Int)) ∧ (0 ≤ what ∧ what ≤ 2) ∧ sp_has (cd_S h) (sp_f (cd_S h)) p ∧ sp_pr (cd_S h) (sp_f (cd_S h)) p j = -1 from ⟨b_3.1, by rw [← v.b.f]; exact c_14, by omega, by omega, by rw [← v.b.f]; exact hh, by rw [← v.b.f, ← j1]; exact c_55⟩)).symm)
                rw [hX, hY] at acc
                have hf6 : 0 ≤ h1 0 6 ∧ h1 0 6 < 5 := by omega
                have hsl2 := fun x y => (ew x y).trans (hsl x y)
                refine ez_aload_n dX5_slip_60 rfl ?_
                refine g5_0 dX5_slip_61 fl_X5_11 ?_
                refine ez_iload_n dX5_slip_64 rfl ?_
                refine ez_aaloadP dX5_slip_65 (by omega) ?_
                refine g3_2 (by first | assumption | exact ez_isP.mk (by omega)) dX5_slip_66 fl_X5_95 ?_
                refine ez_iload_n dX5_slip_69 rfl ?_
                refine alP1 (by first | assumption | exact ez_isP.mk (by omega)) dX5_slip_70 (by omega) ?_
                refine ez_istore dX5_slip_71 (by decide) ?_
                refine ez_aload_n dX5_slip_73 rfl ?_
                refine g5_0 dX5_slip_74 fl_X5_11 ?_
                refine ez_iload_n dX5_slip_77 rfl ?_
                refine ez_aaloadP dX5_slip_78 (by omega) ?_
                refine g3_3 (by first | assumption | exact ez_isP.mk (by omega)) dX5_slip_79 fl_X5_99 ?_
                refine ez_iload_n dX5_slip_82 rfl ?_
                refine alP2 (by first | assumption | exact ez_isP.mk (by omega)) dX5_slip_83 (by omega) ?_
                refine ez_istore dX5_slip_84 (by decide) ?_
                refine ez_iconst dX5_slip_86 (by decide) ?_
                refine ez_istore dX5_slip_87 (by decide) ?_
                refine ez_iload dX5_slip_89 rfl ?_
                refine ez_iconst dX5_slip_91 (by decide) ?_
                refine ez_ic_gt 196 dX5_slip_92 (by decide) (fun c_92 => ?_) (fun c_92 => ?_)
                · exact absurd c_92 (by decide)
                · refine ez_iconst dX5_slip_95 (by decide) ?_
                  refine ez_istore dX5_slip_96 (by decide) ?_
                  refine ez_iload dX5_slip_98 rfl ?_
                  refine ez_iconst dX5_slip_100 (by decide) ?_
                  refine ez_ic_gt 190 dX5_slip_101 (by decide) (fun c_101 => ?_) (fun c_101 => ?_)
                  · exact absurd c_101 (by decide)
                  · try rw [show (0 : Int) + 1 = 1 from rfl]
                    try rw [show (1 : Int) + 1 = 2 from rfl]
                    first
                     | refine sl_it1 (S := (cd_S h)) (d := 0) kL hf6 WF q7 q8 q9 bX bY (Or.inl rfl) hsl2 (fun c => ?_) (fun c => ?_)
                     | refine sl_it1 (S := (cd_S h)) (d := 1) kL hf6 WF q7 q8 q9 bX bY (Or.inr rfl) hsl2 (fun c => ?_) (fun c => ?_)
                     | refine sl_it2 (S := (cd_S h)) (d := 0) kL hf6 WF q7 q8 q9 bX bY (Or.inl rfl) hsl2 (fun c => ?_) (fun c => ?_)
                     | refine sl_it2 (S := (cd_S h)) (d := 1) kL hf6 WF q7 q8 q9 bX bY (Or.inr rfl) hsl2 (fun c => ?_) (fun c => ?_)
                    · exact acc _ (if_pos c).symm
                    replace acc := sl_no acc c
                    refine ez_iinc dX5_slip_184 rfl (by decide) (by decide) (by omega) ?_
                    refine ez_goto 98 dX5_slip_187 (by decide) ?_
                    refine ez_iload dX5_slip_98 rfl ?_
                    refine ez_iconst dX5_slip_100 (by decide) ?_
                    refine ez_ic_gt 190 dX5_slip_101 (by decide) (fun c_101 => ?_) (fun c_101 => ?_)
                    · exact absurd c_101 (by decide)
                    · try rw [show (0 : Int) + 1 = 1 from rfl]
                      try rw [show (1 : Int) + 1 = 2 from rfl]
                      first
                       | refine sl_it1 (S := (cd_S h)) (d := 0) kL hf6 WF q7 q8 q9 bX bY (Or.inl rfl) hsl2 (fun c => ?_) (fun c => ?_)
                       | refine sl_it1 (S := (cd_S h)) (d := 1) kL hf6 WF q7 q8 q9 bX bY (Or.inr rfl) hsl2 (fun c => ?_) (fun c => ?_)
                       | refine sl_it2 (S := (cd_S h)) (d := 0) kL hf6 WF q7 q8 q9 bX bY (Or.inl rfl) hsl2 (fun c => ?_) (fun c => ?_)
                       | refine sl_it2 (S := (cd_S h)) (d := 1) kL hf6 WF q7 q8 q9 bX bY (Or.inr rfl) hsl2 (fun c => ?_) (fun c => ?_)
                      · exact acc _ (if_pos c).symm
                      replace acc := sl_no acc c
                      refine ez_iinc dX5_slip_184 rfl (by decide) (by decide) (by omega) ?_
                      refine ez_goto 98 dX5_slip_187 (by decide) ?_
                      refine ez_iload dX5_slip_98 rfl ?_
                      refine ez_iconst dX5_slip_100 (by decide) ?_
                      refine ez_ic_gt 190 dX5_slip_101 (by decide) (fun c_101 => ?_) (fun c_101 => ?_)
                      · refine ez_iinc dX5_slip_190 rfl (by decide) (by decide) (by omega) ?_
                        refine ez_goto 89 dX5_slip_193 (by decide) ?_
                        refine ez_iload dX5_slip_89 rfl ?_
                        refine ez_iconst dX5_slip_91 (by decide) ?_
                        refine ez_ic_gt 196 dX5_slip_92 (by decide) (fun c_92 => ?_) (fun c_92 => ?_)
                        · exact absurd c_92 (by decide)
                        · refine ez_iconst dX5_slip_95 (by decide) ?_
                          refine ez_istore dX5_slip_96 (by decide) ?_
                          refine ez_iload dX5_slip_98 rfl ?_
                          refine ez_iconst dX5_slip_100 (by decide) ?_
                          refine ez_ic_gt 190 dX5_slip_101 (by decide) (fun c_101 => ?_) (fun c_101 => ?_)
                          · exact absurd c_101 (by decide)
                          · try rw [show (0 : Int) + 1 = 1 from rfl]
                            try rw [show (1 : Int) + 1 = 2 from rfl]
                            first
                             | refine sl_it1 (S := (cd_S h)) (d := 0) kL hf6 WF q7 q8 q9 bX bY (Or.inl rfl) hsl2 (fun c => ?_) (fun c => ?_)
                             | refine sl_it1 (S := (cd_S h)) (d := 1) kL hf6 WF q7 q8 q9 bX bY (Or.inr rfl) hsl2 (fun c => ?_) (fun c => ?_)
                             | refine sl_it2 (S := (cd_S h)) (d := 0) kL hf6 WF q7 q8 q9 bX bY (Or.inl rfl) hsl2 (fun c => ?_) (fun c => ?_)
                             | refine sl_it2 (S := (cd_S h)) (d := 1) kL hf6 WF q7 q8 q9 bX bY (Or.inr rfl) hsl2 (fun c => ?_) (fun c => ?_)
                            · exact acc _ (if_pos c).symm
                            replace acc := sl_no acc c
                            refine ez_iinc dX5_slip_184 rfl (by decide) (by decide) (by omega) ?_
                            refine ez_goto 98 dX5_slip_187 (by decide) ?_
                            refine ez_iload dX5_slip_98 rfl ?_
                            refine ez_iconst dX5_slip_100 (by decide) ?_
                            refine ez_ic_gt 190 dX5_slip_101 (by decide) (fun c_101 => ?_) (fun c_101 => ?_)
                            · exact absurd c_101 (by decide)
                            · try rw [show (0 : Int) + 1 = 1 from rfl]
                              try rw [show (1 : Int) + 1 = 2 from rfl]
                              first
                               | refine sl_it1 (S := (cd_S h)) (d := 0) kL hf6 WF q7 q8 q9 bX bY (Or.inl rfl) hsl2 (fun c => ?_) (fun c => ?_)
                               | refine sl_it1 (S := (cd_S h)) (d := 1) kL hf6 WF q7 q8 q9 bX bY (Or.inr rfl) hsl2 (fun c => ?_) (fun c => ?_)
                               | refine sl_it2 (S := (cd_S h)) (d := 0) kL hf6 WF q7 q8 q9 bX bY (Or.inl rfl) hsl2 (fun c => ?_) (fun c => ?_)
                               | refine sl_it2 (S := (cd_S h)) (d := 1) kL hf6 WF q7 q8 q9 bX bY (Or.inr rfl) hsl2 (fun c => ?_) (fun c => ?_)
                              · exact acc _ (if_pos c).symm
                              replace acc := sl_no acc c
                              refine ez_iinc dX5_slip_184 rfl (by decide) (by decide) (by omega) ?_
                              refine ez_goto 98 dX5_slip_187 (by decide) ?_
                              refine ez_iload dX5_slip_98 rfl ?_
                              refine ez_iconst dX5_slip_100 (by decide) ?_
                              refine ez_ic_gt 190 dX5_slip_101 (by decide) (fun c_101 => ?_) (fun c_101 => ?_)
                              · refine ez_iinc dX5_slip_190 rfl (by decide) (by decide) (by omega) ?_
                                refine ez_goto 89 dX5_slip_193 (by decide) ?_
                                refine ez_iload dX5_slip_89 rfl ?_
                                refine ez_iconst dX5_slip_91 (by decide) ?_
                                refine ez_ic_gt 196 dX5_slip_92 (by decide) (fun c_92 => ?_) (fun c_92 => ?_)
                                · refine ez_iconst dX5_slip_196 (by decide) ?_
                                  refine ez_ireturn (st := []) dX5_slip_197 rfl ?_
                                  exact acc _ rfl
                                · exact absurd c_92 (by decide)
                              · exact absurd c_101 (by decide)
                      · exact absurd c_101 (by decide)
              · refine ez_iconst dX5_slip_58 (by decide) ?_
                refine ez_ireturn (st := []) dX5_slip_59 rfl ?_
                refine cd_Q.in g1 (sp_dec_f (fun q => ?_)).symm
                rw [← v.b.f] at q
                rcases FF with y | y
                · exact y.1 q.2.2.2.2.1
                · first
                    | exact y.2.1 c_44
                    | exact c_55 ((y.2.2.2.1 j b_3.2.1 (by rw [b1 _ _ (by omega)]; exact b_3.2.2)).trans q.2.2.2.2.2)
          · refine ez_iconst dX5_slip_26 (by decide) ?_
            refine ez_ireturn (st := []) dX5_slip_27 rfl ?_
            first
             | exact cd_Q.in (cd_g.rf v) (sp_dec_f (fun q => b_3 ⟨q.1, by have := cd_n2 v.b q.1.1 q.1.2; have := q.2.2.1; omega⟩)).symm
             | exact cd_Q.in (cd_g.rf v) (sp_dec_f (fun q => q.2.1 (by rw [← v.b.f]; exact c_14))).symm
             | exact cd_Q.in (cd_g.rf v) (sp_dec_f (fun q => absurd q.2.2.2.1 (by omega))).symm
  · refine ez_if_eq 26 dX5_slip_6 (by decide) (fun c_6 => ?_) (fun c_6 => ?_)
    · refine ez_iconst dX5_slip_26 (by decide) ?_
      refine ez_ireturn (st := []) dX5_slip_27 rfl ?_
      first
       | exact cd_Q.in (cd_g.rf v) (sp_dec_f (fun q => b_3 ⟨q.1, by have := cd_n2 v.b q.1.1 q.1.2; have := q.2.2.1; omega⟩)).symm
       | exact cd_Q.in (cd_g.rf v) (sp_dec_f (fun q => q.2.1 (by rw [← v.b.f]; exact c_14))).symm
       | exact cd_Q.in (cd_g.rf v) (sp_dec_f (fun q => absurd q.2.2.2.1 (by omega))).symm
    · exact absurd c_6 (by decide)
