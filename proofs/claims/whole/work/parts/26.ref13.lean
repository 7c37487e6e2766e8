/-! the reference's of and slip -/
noncomputable def sp_ofA (S : sp_S) (p what : Int) : Int := sp_dec (0 ≤ p ∧ p < S.1) (if what = 0 then S.2.2.1 p else if what = 1 then ((S.2.2.2 p).1 : Int) else if 10 ≤ what ∧ what ≤ 9 + 2 * (S.2.2.2 p).1 then (if what % 2 = 0 then (S.2.2.2 p).2.1 ((what - 10) / 2) else (S.2.2.2 p).2.2 ((what - 10) / 2)) else -1) (-1)
theorem c_X6_of {p what : Int} {h : ez_H} (v : md_V h) : ez_Ct M_X6_of [ez_R 121, ez_I p, ez_I what] h (md_Q h (sp_ofA (md_S h) p what)) := by
  have v0 := v.1
  refine ez_of (by decide) (Nat.le_of_ble_eq_true rfl) (L0 := [ez_R 121, ez_I p, ez_I what, ez_N]) rfl ?_
  refine ez_aload_n dX6_of_0 rfl ?_
  refine ez_iload_n dX6_of_1 rfl ?_
  refine cl_X6_isPlate dX6_of_2 ml_X6_58 ft_X6_of__X6_isPlate (Nat.le_of_ble_eq_true rfl) (c_X6_isPlate v.1) (ez_kB (fun b_2 => ?_) (fun b_2 => ?_))
  · have hw := (v.2.2.1 p b_2.1 b_2.2).1
    have hm := hw.2.1
    have hn2 := md_n2 v b_2.1 b_2.2
    have hy := md_S_yr b_2.1 b_2.2
    refine ez_if_ne 10 dX6_of_5 (by decide) (fun c_5 => ?_) (fun c_5 => ?_)
    · refine ez_iload_n dX6_of_10 rfl ?_
      refine ez_if_ne 21 dX6_of_11 (by decide) (fun c_11 => ?_) (fun c_11 => ?_)
      · refine ez_iload_n dX6_of_21 rfl ?_
        refine ez_iconst dX6_of_22 (by decide) ?_
        refine ez_ic_ne 33 dX6_of_23 (by decide) (fun c_23 => ?_) (fun c_23 => ?_)
        · refine ez_iload_n dX6_of_33 rfl ?_
          refine ez_bipush dX6_of_34 (by decide) (by decide) ?_
          refine ez_bipush dX6_of_36 (by decide) (by decide) ?_
          refine ez_iconst dX6_of_38 (by decide) ?_
          refine ez_aload_n dX6_of_39 rfl ?_
          refine g6_3 dX6_of_40 fl_X6_17 ?_
          refine ez_iload_n dX6_of_43 rfl ?_
          refine al123 dX6_of_44 (by omega) ?_
          refine ez_imul dX6_of_45 (by omega) ?_
          refine ez_iadd dX6_of_46 (by omega) ?_
          refine cl_X6_isIn dX6_of_47 ml_X6_51 ft_X6_of__X6_isIn (Nat.le_of_ble_eq_true rfl) c_X6_isIn (ez_kB (fun b_47 => ?_) (fun b_47 => ?_))
          · have xy := md_xy v b_2 (j := (what - 10) / 2) (by omega)
            refine ez_if_ne 55 dX6_of_50 (by decide) (fun c_50 => ?_) (fun c_50 => ?_)
            · refine ez_iload_n dX6_of_55 rfl ?_
              refine ez_bipush dX6_of_56 (by decide) (by decide) ?_
              refine ez_isub dX6_of_58 (by omega) ?_
              refine ez_iconst dX6_of_59 (by decide) ?_
              refine ez_idivN dX6_of_60 (by omega) (by omega) ?_
              refine ez_istore_n dX6_of_61 (by decide) ?_
              refine ez_iload_n dX6_of_62 rfl ?_
              refine ez_iconst dX6_of_63 (by decide) ?_
              refine ez_iremN dX6_of_64 (by omega) (by omega) ?_
              refine ez_if_ne 82 dX6_of_65 (by decide) (fun c_65 => ?_) (fun c_65 => ?_)
              · refine ez_aload_n dX6_of_82 rfl ?_
                refine g6_5 dX6_of_83 fl_X6_23 ?_
                refine ez_bipush dX6_of_86 (by decide) (by decide) ?_
                refine ez_iload_n dX6_of_88 rfl ?_
                refine ez_imul dX6_of_89 (by omega) ?_
                refine ez_iload_n dX6_of_90 rfl ?_
                refine ez_iadd dX6_of_91 (by omega) ?_
                refine al125 dX6_of_92 (by omega) ?_
                refine ez_ireturn (st := []) dX6_of_93 rfl ?_
                first
                  | exact md_Q.in (md_g.rf v) (by unfold sp_ofA; rw [sp_dec_t (show 0 ≤ p ∧ p < (md_S h).1 from b_2), if_neg c_11, if_neg c_23, if_pos (by omega), if_pos c_65, xy.1.1])
                  | exact md_Q.in (md_g.rf v) (by unfold sp_ofA; rw [sp_dec_t (show 0 ≤ p ∧ p < (md_S h).1 from b_2), if_neg c_11, if_neg c_23, if_pos (by omega), if_neg c_65, xy.1.2])
              · refine ez_aload_n dX6_of_68 rfl ?_
                refine g6_4 dX6_of_69 fl_X6_20 ?_
                refine ez_bipush dX6_of_72 (by decide) (by decide) ?_
                refine ez_iload_n dX6_of_74 rfl ?_
                refine ez_imul dX6_of_75 (by omega) ?_
                refine ez_iload_n dX6_of_76 rfl ?_
                refine ez_iadd dX6_of_77 (by omega) ?_
                refine al124 dX6_of_78 (by omega) ?_
                refine ez_goto 93 dX6_of_79 (by decide) ?_
                refine ez_ireturn (st := []) dX6_of_93 rfl ?_
                first
                  | exact md_Q.in (md_g.rf v) (by unfold sp_ofA; rw [sp_dec_t (show 0 ≤ p ∧ p < (md_S h).1 from b_2), if_neg c_11, if_neg c_23, if_pos (by omega), if_pos c_65, xy.1.1])
                  | exact md_Q.in (md_g.rf v) (by unfold sp_ofA; rw [sp_dec_t (show 0 ≤ p ∧ p < (md_S h).1 from b_2), if_neg c_11, if_neg c_23, if_pos (by omega), if_neg c_65, xy.1.2])
            · exact absurd c_50 (by decide)
          · refine ez_if_ne 55 dX6_of_50 (by decide) (fun c_50 => ?_) (fun c_50 => ?_)
            · exact absurd c_50 (by decide)
            · refine ez_iconst dX6_of_53 (by decide) ?_
              refine ez_ireturn (st := []) dX6_of_54 rfl ?_
              exact md_Q.in (md_g.rf v) (by unfold sp_ofA; rw [sp_dec_t (show 0 ≤ p ∧ p < (md_S h).1 from b_2), if_neg c_11, if_neg c_23, if_neg (by omega)])
        · refine ez_aload_n dX6_of_26 rfl ?_
          refine g6_3 dX6_of_27 fl_X6_17 ?_
          refine ez_iload_n dX6_of_30 rfl ?_
          refine al123 dX6_of_31 (by omega) ?_
          refine ez_ireturn (st := []) dX6_of_32 rfl ?_
          exact md_Q.in (md_g.rf v) (by unfold sp_ofA; rw [sp_dec_t (show 0 ≤ p ∧ p < (md_S h).1 from b_2), if_neg c_11, if_pos c_23, hn2])
      · refine ez_aload_n dX6_of_14 rfl ?_
        refine g6_2 dX6_of_15 fl_X6_13 ?_
        refine ez_iload_n dX6_of_18 rfl ?_
        refine al122 dX6_of_19 (by omega) ?_
        refine ez_ireturn (st := []) dX6_of_20 rfl ?_
        exact md_Q.in (md_g.rf v) (by unfold sp_ofA; rw [sp_dec_t (show 0 ≤ p ∧ p < (md_S h).1 from b_2), if_pos c_11, hy])
    · exact absurd c_5 (by decide)
  · refine ez_if_ne 10 dX6_of_5 (by decide) (fun c_5 => ?_) (fun c_5 => ?_)
    · exact absurd c_5 (by decide)
    · refine ez_iconst dX6_of_8 (by decide) ?_
      refine ez_ireturn (st := []) dX6_of_9 rfl ?_
      exact md_Q.in (md_g.rf v) (sp_dec_f b_2).symm
def fx_sl (v place : Int) : Int := if place = 0 then 100 * (v / 10 % 10) + 10 * (v / 100) + v % 10 else 100 * (v / 100) + 10 * (v % 10) + v / 10 % 10
theorem fx_sl_bd {v place : Int} (hv : 0 ≤ v ∧ v ≤ 999) : 0 ≤ fx_sl v place ∧ fx_sl v place ≤ 999 := by
  unfold fx_sl
  split <;> omega
theorem c_X6_slipped {v place : Int} {h : ez_H} (hv : 0 ≤ v ∧ v ≤ 999) : ez_Ct M_X6_slipped [ez_I v, ez_I place] h (ez_F h (fx_sl v place)) := by
  refine ez_of (by decide) (Nat.le_of_ble_eq_true rfl) (L0 := [ez_I v, ez_I place, ez_N, ez_N, ez_N]) rfl ?_
  refine ez_iload_n dX6_slipped_0 rfl ?_
  refine ez_bipush dX6_slipped_1 (by decide) (by decide) ?_
  refine ez_idivN dX6_slipped_3 (by omega) (by omega) ?_
  refine ez_istore_n dX6_slipped_4 (by decide) ?_
  refine ez_iload_n dX6_slipped_5 rfl ?_
  refine ez_bipush dX6_slipped_6 (by decide) (by decide) ?_
  refine ez_idivN dX6_slipped_8 (by omega) (by omega) ?_
  refine ez_bipush dX6_slipped_9 (by decide) (by decide) ?_
  refine ez_iremN dX6_slipped_11 (by omega) (by omega) ?_
  refine ez_istore_n dX6_slipped_12 (by decide) ?_
  refine ez_iload_n dX6_slipped_13 rfl ?_
  refine ez_bipush dX6_slipped_14 (by decide) (by decide) ?_
  refine ez_iremN dX6_slipped_16 (by omega) (by omega) ?_
  refine ez_istore dX6_slipped_17 (by decide) ?_
  refine ez_iload_n dX6_slipped_19 rfl ?_
  refine ez_if_ne 38 dX6_slipped_20 (by decide) (fun c_20 => ?_) (fun c_20 => ?_)
  · refine ez_bipush dX6_slipped_38 (by decide) (by decide) ?_
    refine ez_iload_n dX6_slipped_40 rfl ?_
    refine ez_imul dX6_slipped_41 (by omega) ?_
    refine ez_bipush dX6_slipped_42 (by decide) (by decide) ?_
    refine ez_iload dX6_slipped_44 rfl ?_
    refine ez_imul dX6_slipped_46 (by omega) ?_
    refine ez_iadd dX6_slipped_47 (by omega) ?_
    refine ez_iload_n dX6_slipped_48 rfl ?_
    refine ez_iadd dX6_slipped_49 (by omega) ?_
    refine ez_ireturn (st := []) dX6_slipped_50 rfl ?_
    first
      | exact ez_F.in (by unfold fx_sl; rw [if_pos c_20])
      | exact ez_F.in (by unfold fx_sl; rw [if_neg c_20])
  · refine ez_bipush dX6_slipped_23 (by decide) (by decide) ?_
    refine ez_iload_n dX6_slipped_25 rfl ?_
    refine ez_imul dX6_slipped_26 (by omega) ?_
    refine ez_bipush dX6_slipped_27 (by decide) (by decide) ?_
    refine ez_iload_n dX6_slipped_29 rfl ?_
    refine ez_imul dX6_slipped_30 (by omega) ?_
    refine ez_iadd dX6_slipped_31 (by omega) ?_
    refine ez_iload dX6_slipped_32 rfl ?_
    refine ez_iadd dX6_slipped_34 (by omega) ?_
    refine ez_goto 50 dX6_slipped_35 (by decide) ?_
    refine ez_ireturn (st := []) dX6_slipped_50 rfl ?_
    first
      | exact ez_F.in (by unfold fx_sl; rw [if_pos c_20])
      | exact ez_F.in (by unfold fx_sl; rw [if_neg c_20])
theorem lp_ip {f p i : Int} {h : ez_H} {nP : Nat} {pr : Int → Int} (hf : 0 ≤ f ∧ f < 5) (hp : 0 ≤ p ∧ p < 5) (hn : h 123 p = nP) (hn8 : nP ≤ 8) (hpr : ∀ j : Int, 0 ≤ j → j < nP → h 128 (8 * (5 * f + p) + j) = pr j) : ∀ (n : Nat) (j : Nat) (b : Int), (j ≤ nP) → (b = 0 ∨ b = 1) → (b = 1 ↔ ∃ k : Int, 0 ≤ k ∧ k < (j : Int) ∧ pr k = i) → nP - j < n → ez_En M_X6_isPaired 6 [ez_R 121, ez_I f, ez_I p, ez_I i, ez_I b, ez_I (j : Nat)] [] h (ez_B h (∃ k : Int, 0 ≤ k ∧ k < (nP : Int) ∧ pr k = i)) := by
  intro n
  induction n with
  | zero =>
    intro j b j1 b1 b2 hm
    exfalso
    omega
  | succ n ih =>
    intro j b j1 b1 b2 hm
    refine ez_iload dX6_isPaired_6 rfl ?_
    refine ez_aload_n dX6_isPaired_8 rfl ?_
    refine g6_3 dX6_isPaired_9 fl_X6_17 ?_
    refine ez_iload_n dX6_isPaired_12 rfl ?_
    refine al123 dX6_isPaired_13 (by omega) ?_
    refine ez_ic_ge 55 dX6_isPaired_14 (by decide) (fun c_14 => ?_) (fun c_14 => ?_)
    · refine ez_iload dX6_isPaired_55 rfl ?_
      refine ez_zreturn (st := []) dX6_isPaired_57 rfl (by first | exact Or.inl rfl | exact Or.inr rfl | omega | (split <;> omega)) ?_
      rw [show (nP : Int) = j by omega]
      rcases b1 with rfl | rfl
      · exact ez_B.f (fun q => absurd (b2.mpr q) (by decide))
      · exact ez_B.t (b2.mp rfl)
    · have hx := hpr j (by omega) (by omega)
      refine ez_iload dX6_isPaired_17 rfl ?_
      refine ez_if_ne 42 dX6_isPaired_19 (by decide) (fun c_19 => ?_) (fun c_19 => ?_)
      · have hb' : ((1 : Int) = 0 ∨ (1 : Int) = 1) ∧ ((1 : Int) = 1 ↔ ∃ k : Int, 0 ≤ k ∧ k < ((j + 1 : Nat) : Int) ∧ pr k = i) := ⟨Or.inr rfl, fun _ => by
            obtain ⟨k, k0, k1, k2⟩ := b2.mp (by omega)
            exact ⟨k, k0, by omega, k2⟩, fun _ => rfl⟩
        refine ez_iconst dX6_isPaired_42 (by decide) ?_
        refine ez_goto 47 dX6_isPaired_43 (by decide) ?_
        refine ez_istore dX6_isPaired_47 (by decide) ?_
        refine ez_iinc dX6_isPaired_49 rfl (by decide) (by decide) (by omega) ?_
        refine ez_goto 6 dX6_isPaired_52 (by decide) ?_
        refine ez_lessS (L' := [ez_R 121, ez_I f, ez_I p, ez_I i, ez_I _, ez_I ((j + 1 : Nat) : Int)]) ⟨Or.inr rfl, Or.inr rfl, Or.inr rfl, Or.inr rfl, Or.inr rfl, Or.inr rfl, trivial⟩ ?_
        exact ih (j + 1) _ (by omega) hb'.1 hb'.2 (by omega)
      · refine ez_aload_n dX6_isPaired_22 rfl ?_
        refine g6_8 dX6_isPaired_23 fl_X6_33 ?_
        refine ez_bipush dX6_isPaired_26 (by decide) (by decide) ?_
        refine ez_iconst dX6_isPaired_28 (by decide) ?_
        refine ez_iload_n dX6_isPaired_29 rfl ?_
        refine ez_imul dX6_isPaired_30 (by omega) ?_
        refine ez_iload_n dX6_isPaired_31 rfl ?_
        refine ez_iadd dX6_isPaired_32 (by omega) ?_
        refine ez_imul dX6_isPaired_33 (by omega) ?_
        refine ez_iload dX6_isPaired_34 rfl ?_
        refine ez_iadd dX6_isPaired_36 (by omega) ?_
        refine al128 dX6_isPaired_37 (by omega) ?_
        refine ez_iload_n dX6_isPaired_38 rfl ?_
        refine ez_ic_ne 46 dX6_isPaired_39 (by decide) (fun c_39 => ?_) (fun c_39 => ?_)
        · have hb' : ((0 : Int) = 0 ∨ (0 : Int) = 1) ∧ ((0 : Int) = 1 ↔ ∃ k : Int, 0 ≤ k ∧ k < ((j + 1 : Nat) : Int) ∧ pr k = i) := ⟨Or.inl rfl, fun q => absurd q (by decide), fun ⟨k, k0, k1, k2⟩ => by
              by_cases e : k = j
              · rw [e, ← hx] at k2
                exact absurd k2 c_39
              · have := b2.mpr ⟨k, k0, by omega, k2⟩
                omega⟩
          refine ez_iconst dX6_isPaired_46 (by decide) ?_
          refine ez_istore dX6_isPaired_47 (by decide) ?_
          refine ez_iinc dX6_isPaired_49 rfl (by decide) (by decide) (by omega) ?_
          refine ez_goto 6 dX6_isPaired_52 (by decide) ?_
          refine ez_lessS (L' := [ez_R 121, ez_I f, ez_I p, ez_I i, ez_I _, ez_I ((j + 1 : Nat) : Int)]) ⟨Or.inr rfl, Or.inr rfl, Or.inr rfl, Or.inr rfl, Or.inr rfl, Or.inr rfl, trivial⟩ ?_
          exact ih (j + 1) _ (by omega) hb'.1 hb'.2 (by omega)
        · have hb' : ((1 : Int) = 0 ∨ (1 : Int) = 1) ∧ ((1 : Int) = 1 ↔ ∃ k : Int, 0 ≤ k ∧ k < ((j + 1 : Nat) : Int) ∧ pr k = i) := ⟨Or.inr rfl, fun _ => ⟨j, by omega, by omega, by rw [← hx]; exact c_39⟩, fun _ => rfl⟩
          refine ez_iconst dX6_isPaired_42 (by decide) ?_
          refine ez_goto 47 dX6_isPaired_43 (by decide) ?_
          refine ez_istore dX6_isPaired_47 (by decide) ?_
          refine ez_iinc dX6_isPaired_49 rfl (by decide) (by decide) (by omega) ?_
          refine ez_goto 6 dX6_isPaired_52 (by decide) ?_
          refine ez_lessS (L' := [ez_R 121, ez_I f, ez_I p, ez_I i, ez_I _, ez_I ((j + 1 : Nat) : Int)]) ⟨Or.inr rfl, Or.inr rfl, Or.inr rfl, Or.inr rfl, Or.inr rfl, Or.inr rfl, trivial⟩ ?_
          exact ih (j + 1) _ (by omega) hb'.1 hb'.2 (by omega)
theorem c_X6_isPaired {f p i : Int} {h : ez_H} {nP : Nat} {pr : Int → Int} (hf : 0 ≤ f ∧ f < 5) (hp : 0 ≤ p ∧ p < 5) (hn : h 123 p = nP) (hn8 : nP ≤ 8) (hpr : ∀ j : Int, 0 ≤ j → j < nP → h 128 (8 * (5 * f + p) + j) = pr j) : ez_Ct M_X6_isPaired [ez_R 121, ez_I f, ez_I p, ez_I i] h (ez_B h (∃ k : Int, 0 ≤ k ∧ k < (nP : Int) ∧ pr k = i)) := by
  refine ez_of (by decide) (Nat.le_of_ble_eq_true rfl) (L0 := [ez_R 121, ez_I f, ez_I p, ez_I i, ez_N, ez_N]) rfl ?_
  refine ez_iconst dX6_isPaired_0 (by decide) ?_
  refine ez_istore dX6_isPaired_1 (by decide) ?_
  refine ez_iconst dX6_isPaired_3 (by decide) ?_
  refine ez_istore dX6_isPaired_4 (by decide) ?_
  exact lp_ip hf hp hn hn8 hpr (nP + 1) 0 0 (by omega) (Or.inl rfl) ⟨fun q => absurd q (by decide), fun ⟨k, k0, k1, _⟩ => absurd k1 (by omega)⟩ (by omega)
/-- the first of 0 .. n - 1 with c, or -1 -/
noncomputable def sp_first (c : Int → Prop) : Nat → Int
  | 0 => -1
  | k + 1 => if sp_first c k ≠ -1 then sp_first c k else sp_dec (c k) k (-1)
theorem sp_first_stay {c : Int → Prop} {k : Nat} (h : sp_first c k ≠ -1) : ∀ d : Nat, sp_first c (k + d) = sp_first c k
  | 0 => rfl
  | d + 1 => by
    have ih := sp_first_stay h d
    show (if sp_first c (k + d) ≠ -1 then sp_first c (k + d) else _) = _
    rw [if_pos (by rw [ih]; exact h), ih]
theorem sp_first_hit {c : Int → Prop} {j n : Nat} (h : sp_first c j = -1) (hp : c j) (hj : j < n) : sp_first c n = j := by
  have e : sp_first c (j + 1) = j := by
    unfold sp_first
    rw [if_neg (by rw [h]; exact fun z => z rfl), sp_dec_t hp]
  have := sp_first_stay (k := j + 1) (show sp_first c (j + 1) ≠ -1 by rw [e]; omega) (n - (j + 1))
  rw [show j + 1 + (n - (j + 1)) = n by omega, e] at this
  exact this
theorem sp_first_no {c : Int → Prop} {j : Nat} (h : sp_first c j = -1) (hp : ¬ c j) : sp_first c (j + 1) = -1 := by
  unfold sp_first
  rw [if_neg (by rw [h]; exact fun z => z rfl), sp_dec_f hp]
/-- a place x, y of plate p comes near spot i of the FRAME, which is in no pair with p -/
def sp_slp (S : sp_S) (p x y i : Int) : Prop := ¬ (∃ k : Int, 0 ≤ k ∧ k < ((S.2.2.2 p).1 : Int) ∧ sp_pr S (sp_f S) p k = i) ∧ fx_far ((S.2.2.2 (sp_f S)).2.1 i) ((S.2.2.2 (sp_f S)).2.2 i) ((bl_F S.2.1 (S.2.2.2 (sp_f S)) (S.2.2.2 p)).2.1 * fx_tx (bl_F S.2.1 (S.2.2.2 (sp_f S)) (S.2.2.2 p)).1 x y + (bl_F S.2.1 (S.2.2.2 (sp_f S)) (S.2.2.2 p)).2.2.1) ((bl_F S.2.1 (S.2.2.2 (sp_f S)) (S.2.2.2 p)).2.1 * fx_ty (bl_F S.2.1 (S.2.2.2 (sp_f S)) (S.2.2.2 p)).1 x y + (bl_F S.2.1 (S.2.2.2 (sp_f S)) (S.2.2.2 p)).2.2.2) ≤ S.2.1
noncomputable def sp_slf (S : sp_S) (p x y : Int) : Int := sp_first (sp_slp S p x y) (S.2.2.2 (sp_f S)).1
def sp_sla (what axis place i : Int) : Int := if what = 0 then axis else if what = 1 then place else i
noncomputable def sp_slA (S : sp_S) (p j what : Int) : Int := sp_dec ((0 ≤ p ∧ p < S.1) ∧ p ≠ sp_f S ∧ (0 ≤ j ∧ j < ((S.2.2.2 p).1 : Int)) ∧ (0 ≤ what ∧ what ≤ 2) ∧ sp_has S (sp_f S) p ∧ sp_pr S (sp_f S) p j = -1)
  (if sp_slf S p (fx_sl ((S.2.2.2 p).2.1 j) 0) ((S.2.2.2 p).2.2 j) ≠ -1 then sp_sla what 1 0 (sp_slf S p (fx_sl ((S.2.2.2 p).2.1 j) 0) ((S.2.2.2 p).2.2 j))
   else if sp_slf S p (fx_sl ((S.2.2.2 p).2.1 j) 1) ((S.2.2.2 p).2.2 j) ≠ -1 then sp_sla what 1 1 (sp_slf S p (fx_sl ((S.2.2.2 p).2.1 j) 1) ((S.2.2.2 p).2.2 j))
   else if sp_slf S p ((S.2.2.2 p).2.1 j) (fx_sl ((S.2.2.2 p).2.2 j) 0) ≠ -1 then sp_sla what 2 0 (sp_slf S p ((S.2.2.2 p).2.1 j) (fx_sl ((S.2.2.2 p).2.2 j) 0))
   else if sp_slf S p ((S.2.2.2 p).2.1 j) (fx_sl ((S.2.2.2 p).2.2 j) 1) ≠ -1 then sp_sla what 2 1 (sp_slf S p ((S.2.2.2 p).2.1 j) (fx_sl ((S.2.2.2 p).2.2 j) 1))
   else -1) (-1)
theorem lp_sl {p j what f at_ axis place px py cx cy R : Int} {h : ez_H} {nP nF : Nat} {pr : Int → Int} {Q : ez_H → Option ez_V → Prop} (hf : 0 ≤ f ∧ f < 5) (hp : 0 ≤ p ∧ p < 5) (hn : h 123 p = nP) (hn8 : nP ≤ 8) (hnF : h 123 f = nF) (hnF8 : nF ≤ 8) (hR : h 121 1 = R) (hpr : ∀ j : Int, 0 ≤ j → j < nP → h 128 (8 * (5 * f + p) + j) = pr j) (hx : ∀ i : Int, 0 ≤ i → i < nF → (0 ≤ h 124 (8 * f + i) ∧ h 124 (8 * f + i) ≤ 999) ∧ (0 ≤ h 125 (8 * f + i) ∧ h 125 (8 * f + i) ≤ 999)) (hc : (-10000 ≤ cx ∧ cx ≤ 10000) ∧ (-10000 ≤ cy ∧ cy ≤ 10000)) (kq : ∀ i : Nat, sp_first (fun i : Int => ¬ (∃ k : Int, 0 ≤ k ∧ k < (nP : Int) ∧ pr k = i) ∧ fx_far (h 124 (8 * f + i)) (h 125 (8 * f + i)) cx cy ≤ R) nF = i → Q h (some (ez_I (sp_sla what axis place i)))) (kx : sp_first (fun i : Int => ¬ (∃ k : Int, 0 ≤ k ∧ k < (nP : Int) ∧ pr k = i) ∧ fx_far (h 124 (8 * f + i)) (h 125 (8 * f + i)) cx cy ≤ R) nF = -1 → ez_En M_X6_slip 353 [ez_R 121, ez_I p, ez_I j, ez_I what, ez_I f, ez_I at_, ez_I axis, ez_I place, ez_I px, ez_I py, ez_N, ez_N, ez_N] [] h Q) : ∀ (n : Nat) (i : Nat), (i ≤ nF) → (sp_first (fun i : Int => ¬ (∃ k : Int, 0 ≤ k ∧ k < (nP : Int) ∧ pr k = i) ∧ fx_far (h 124 (8 * f + i)) (h 125 (8 * f + i)) cx cy ≤ R) i = -1) → nF - i < n → ez_En M_X6_slip 261 [ez_R 121, ez_I p, ez_I j, ez_I what, ez_I f, ez_I at_, ez_I axis, ez_I place, ez_I px, ez_I py, ez_I cx, ez_I cy, ez_I (i : Nat)] [] h Q := by
  intro n
  induction n with
  | zero =>
    intro i i1 en hm
    exfalso
    omega
  | succ n ih =>
    intro i i1 en hm
    refine ez_iload dX6_slip_261 rfl ?_
    refine ez_aload_n dX6_slip_263 rfl ?_
    refine g6_3 dX6_slip_264 fl_X6_17 ?_
    refine ez_iload dX6_slip_267 rfl ?_
    refine al123 dX6_slip_269 (by omega) ?_
    refine ez_ic_ge 353 dX6_slip_270 (by decide) (fun c_270 => ?_) (fun c_270 => ?_)
    · refine ez_lessS (L' := [ez_R 121, ez_I p, ez_I j, ez_I what, ez_I f, ez_I at_, ez_I axis, ez_I place, ez_I px, ez_I py, ez_N, ez_N, ez_N]) ⟨Or.inr rfl, Or.inr rfl, Or.inr rfl, Or.inr rfl, Or.inr rfl, Or.inr rfl, Or.inr rfl, Or.inr rfl, Or.inr rfl, Or.inr rfl, Or.inl rfl, Or.inl rfl, Or.inl rfl, trivial⟩ ?_
      exact kx (by rw [show nF = i by omega]; exact en)
    · have x1 := hx i (by omega) (by omega)
      refine ez_aload_n dX6_slip_273 rfl ?_
      refine ez_iload dX6_slip_274 rfl ?_
      refine ez_iload_n dX6_slip_276 rfl ?_
      refine ez_iload dX6_slip_277 rfl ?_
      refine cl_X6_isPaired dX6_slip_279 ml_X6_162 ft_X6_slip__X6_isPaired (Nat.le_of_ble_eq_true rfl) (c_X6_isPaired (nP := nP) (pr := pr) (by omega) (by omega) hn hn8 hpr) (ez_kB (fun b_279 => ?_) (fun b_279 => ?_))
      · refine ez_if_ne 347 dX6_slip_282 (by decide) (fun c_282 => ?_) (fun c_282 => ?_)
        · refine ez_iinc dX6_slip_347 rfl (by decide) (by decide) (by omega) ?_
          refine ez_goto 261 dX6_slip_350 (by decide) ?_
          refine ez_lessS (L' := [ez_R 121, ez_I p, ez_I j, ez_I what, ez_I f, ez_I at_, ez_I axis, ez_I place, ez_I px, ez_I py, ez_I cx, ez_I cy, ez_I ((i + 1 : Nat) : Int)]) ⟨Or.inr rfl, Or.inr rfl, Or.inr rfl, Or.inr rfl, Or.inr rfl, Or.inr rfl, Or.inr rfl, Or.inr rfl, Or.inr rfl, Or.inr rfl, Or.inr rfl, Or.inr rfl, Or.inr rfl, trivial⟩ ?_
          first
            | exact ih (i + 1) (by omega) (sp_first_no en (fun q => q.1 b_279)) (by omega)
            | exact ih (i + 1) (by omega) (sp_first_no en (fun q => by have q2 := q.2; omega)) (by omega)
        · exact absurd c_282 (by decide)
      · refine ez_if_ne 347 dX6_slip_282 (by decide) (fun c_282 => ?_) (fun c_282 => ?_)
        · exact absurd c_282 (by decide)
        · refine ez_aload_n dX6_slip_285 rfl ?_
          refine g6_4 dX6_slip_286 fl_X6_20 ?_
          refine ez_bipush dX6_slip_289 (by decide) (by decide) ?_
          refine ez_iload dX6_slip_291 rfl ?_
          refine ez_imul dX6_slip_293 (by omega) ?_
          refine ez_iload dX6_slip_294 rfl ?_
          refine ez_iadd dX6_slip_296 (by omega) ?_
          refine al124 dX6_slip_297 (by omega) ?_
          refine ez_aload_n dX6_slip_298 rfl ?_
          refine g6_5 dX6_slip_299 fl_X6_23 ?_
          refine ez_bipush dX6_slip_302 (by decide) (by decide) ?_
          refine ez_iload dX6_slip_304 rfl ?_
          refine ez_imul dX6_slip_306 (by omega) ?_
          refine ez_iload dX6_slip_307 rfl ?_
          refine ez_iadd dX6_slip_309 (by omega) ?_
          refine al125 dX6_slip_310 (by omega) ?_
          refine ez_iload dX6_slip_311 rfl ?_
          refine ez_iload dX6_slip_313 rfl ?_
          refine cl_X6_apart dX6_slip_315 ml_X6_73 ft_X6_slip__X6_apart (Nat.le_of_ble_eq_true rfl) (c_X6_apart (by omega)) (ez_kF ?_)
          refine ez_aload_n dX6_slip_318 rfl ?_
          refine g6_1 dX6_slip_319 fl_X6_7 ?_
          refine ez_ic_gt 347 dX6_slip_322 (by decide) (fun c_322 => ?_) (fun c_322 => ?_)
          · refine ez_iinc dX6_slip_347 rfl (by decide) (by decide) (by omega) ?_
            refine ez_goto 261 dX6_slip_350 (by decide) ?_
            refine ez_lessS (L' := [ez_R 121, ez_I p, ez_I j, ez_I what, ez_I f, ez_I at_, ez_I axis, ez_I place, ez_I px, ez_I py, ez_I cx, ez_I cy, ez_I ((i + 1 : Nat) : Int)]) ⟨Or.inr rfl, Or.inr rfl, Or.inr rfl, Or.inr rfl, Or.inr rfl, Or.inr rfl, Or.inr rfl, Or.inr rfl, Or.inr rfl, Or.inr rfl, Or.inr rfl, Or.inr rfl, Or.inr rfl, trivial⟩ ?_
            first
              | exact ih (i + 1) (by omega) (sp_first_no en (fun q => q.1 b_279)) (by omega)
              | exact ih (i + 1) (by omega) (sp_first_no en (fun q => by have q2 := q.2; omega)) (by omega)
          · refine ez_iload_n dX6_slip_325 rfl ?_
            refine ez_if_ne 334 dX6_slip_326 (by decide) (fun c_326 => ?_) (fun c_326 => ?_)
            · refine ez_iload_n dX6_slip_334 rfl ?_
              refine ez_iconst dX6_slip_335 (by decide) ?_
              refine ez_ic_ne 344 dX6_slip_336 (by decide) (fun c_336 => ?_) (fun c_336 => ?_)
              · refine ez_iload dX6_slip_344 rfl ?_
                refine ez_ireturn (st := []) dX6_slip_346 rfl ?_
                have hh := sp_first_hit (n := nF) en ⟨b_279, by omega⟩ (by omega)
                have hq := kq i hh
                unfold sp_sla at hq
                first
                  | (rw [if_pos c_326] at hq; exact hq)
                  | (rw [if_neg c_326, if_pos c_336] at hq; exact hq)
                  | (rw [if_neg c_326, if_neg c_336] at hq; exact hq)
              · refine ez_iload dX6_slip_339 rfl ?_
                refine ez_goto 346 dX6_slip_341 (by decide) ?_
                refine ez_ireturn (st := []) dX6_slip_346 rfl ?_
                have hh := sp_first_hit (n := nF) en ⟨b_279, by omega⟩ (by omega)
                have hq := kq i hh
                unfold sp_sla at hq
                first
                  | (rw [if_pos c_326] at hq; exact hq)
                  | (rw [if_neg c_326, if_pos c_336] at hq; exact hq)
                  | (rw [if_neg c_326, if_neg c_336] at hq; exact hq)
            · refine ez_iload dX6_slip_329 rfl ?_
              refine ez_goto 346 dX6_slip_331 (by decide) ?_
              refine ez_ireturn (st := []) dX6_slip_346 rfl ?_
              have hh := sp_first_hit (n := nF) en ⟨b_279, by omega⟩ (by omega)
              have hq := kq i hh
              unfold sp_sla at hq
              first
                | (rw [if_pos c_326] at hq; exact hq)
                | (rw [if_neg c_326, if_pos c_336] at hq; exact hq)
                | (rw [if_neg c_326, if_neg c_336] at hq; exact hq)
theorem sp_first_cong {c c' : Int → Prop} : ∀ n : Nat, (∀ k : Int, 0 ≤ k → k < n → (c k ↔ c' k)) → sp_first c n = sp_first c' n
  | 0, _ => rfl
  | n + 1, h => by
    unfold sp_first
    rw [sp_first_cong n (fun k k0 k1 => h k k0 (by omega))]
    by_cases q : c n
    · rw [sp_dec_t q, sp_dec_t ((h n (by omega) (by omega)).mp q)]
    · rw [sp_dec_f q, sp_dec_f (fun z => q ((h n (by omega) (by omega)).mpr z))]
theorem sl_no {P : Int → Prop} {a r t : Int} (acc : ∀ z, z = (if a ≠ -1 then t else r) → P z) (ha : a = -1) : ∀ z, z = r → P z := fun z hz => acc z (by rw [if_neg (fun q => q ha)]; exact hz)
theorem sl_yes {P : Int → Prop} {a r w x y : Int} (acc : ∀ z, z = (if a ≠ -1 then sp_sla w x y a else r) → P z) {i : Int} (ha : a = i) (hi : i ≠ -1) : P (sp_sla w x y i) := acc _ (by rw [if_pos (by rw [ha]; exact hi), ha])
theorem md_slf {h h1 : ez_H} {p : Int} (v : md_V h) (g1 : md_g h h1) (hf : 0 ≤ sp_f (md_S h) ∧ sp_f (md_S h) < h 121 0) (hp : 0 ≤ p ∧ p < h 121 0) (hne : sp_f (md_S h) ≠ p) (hk : h1 126 (5 * sp_f (md_S h) + p) ≠ 0) (hh : sp_has (md_S h) (sp_f (md_S h)) p) (x y : Int) :
    sp_first (fun i : Int => ¬ (∃ k : Int, 0 ≤ k ∧ k < (((md_S h).2.2.2 p).1 : Int) ∧ sp_pr (md_S h) (sp_f (md_S h)) p k = i) ∧ fx_far (h1 124 (8 * sp_f (md_S h) + i)) (h1 125 (8 * sp_f (md_S h) + i)) (h1 127 (6 * (5 * sp_f (md_S h) + p) + 3) * fx_tx (h1 127 (6 * (5 * sp_f (md_S h) + p) + 2)) x y + h1 127 (6 * (5 * sp_f (md_S h) + p) + 4)) (h1 127 (6 * (5 * sp_f (md_S h) + p) + 3) * fx_ty (h1 127 (6 * (5 * sp_f (md_S h) + p) + 2)) x y + h1 127 (6 * (5 * sp_f (md_S h) + p) + 5)) ≤ h 121 1) ((md_S h).2.2.2 (sp_f (md_S h))).1 = sp_slf (md_S h) p x y := by
  have en := g1.n
  have r1 := (md_lay_rng g1.1 (a := sp_f (md_S h)) (b := p) (by omega) (by omega) hne hk (by rw [g1.2.1.S]; exact hh)).1
  rw [g1.2.1.S, g1.2.1 121 1 (by omega) (by omega)] at r1
  refine sp_first_cong _ (fun i i0 i1 => ?_)
  have hm := md_n2 v hf.1 hf.2
  have xy := md_xy v hf (j := i) (by omega)
  unfold sp_slp
  rw [show (md_S h).2.1 = h 121 1 from rfl, r1, xy.1.1, xy.1.2, g1.2.1 124 _ (by omega) (by omega), g1.2.1 125 _ (by omega) (by omega)]
theorem c_X6_slip {p j what : Int} {h : ez_H} (v : md_V h) : ez_Ct M_X6_slip [ez_R 121, ez_I p, ez_I j, ez_I what] h (md_Q h (sp_slA (md_S h) p j what)) := by
  have v0 := v.1
  have v1 := v.2.1
  refine ez_of (by decide) (Nat.le_of_ble_eq_true rfl) (L0 := [ez_R 121, ez_I p, ez_I j, ez_I what, ez_N, ez_N, ez_N, ez_N, ez_N, ez_N, ez_N, ez_N, ez_N]) rfl ?_
  refine ez_aload_n dX6_slip_0 rfl ?_
  refine cl_X6_frame dX6_slip_1 ml_X6_109 ft_X6_slip__X6_frame (Nat.le_of_ble_eq_true rfl) (c_X6_frame v.1) (ez_kF ?_)
  refine ez_istore dX6_slip_4 (by decide) ?_
  refine ez_aload_n dX6_slip_6 rfl ?_
  refine ez_iload_n dX6_slip_7 rfl ?_
  refine cl_X6_isPlate dX6_slip_8 ml_X6_58 ft_X6_slip__X6_isPlate (Nat.le_of_ble_eq_true rfl) (c_X6_isPlate v.1) (ez_kB (fun b_8 => ?_) (fun b_8 => ?_))
  · have hf := md_f v (by omega)
    have hm := md_n2 v b_8.1 b_8.2
    have hmF := md_n2 v hf.1 hf.2
    have hw := (v.2.2.1 p b_8.1 b_8.2).1.2.1
    have hwF := (v.2.2.1 _ hf.1 hf.2).1.2.1
    refine ez_if_eq 75 dX6_slip_11 (by decide) (fun c_11 => ?_) (fun c_11 => ?_)
    · exact absurd c_11 (by decide)
    · refine ez_iload_n dX6_slip_14 rfl ?_
      refine ez_iload dX6_slip_15 rfl ?_
      refine ez_ic_eq 75 dX6_slip_17 (by decide) (fun c_17 => ?_) (fun c_17 => ?_)
      · refine ez_iconst dX6_slip_75 (by decide) ?_
        refine ez_ireturn (st := []) dX6_slip_76 rfl ?_
        first
          | exact md_Q.in g1 (sp_dec_f (fun q => c_72 (hj1.trans q.2.2.2.2.2))).symm
          | exact md_Q.in g1 (sp_dec_f (fun q => b_49 q.2.2.2.2.1)).symm
          | exact md_Q.in (md_g.rf v) (sp_dec_f (fun q => b_39 q.2.2.2.1)).symm
          | exact md_Q.in (md_g.rf v) (sp_dec_f (fun q => b_30 (by have := q.2.2.1; omega))).symm
          | exact md_Q.in (md_g.rf v) (sp_dec_f (fun q => b_8 q.1)).symm
          | exact md_Q.in (md_g.rf v) (sp_dec_f (fun q => absurd c_17 q.2.1)).symm
      · refine ez_iload_n dX6_slip_20 rfl ?_
        refine ez_iconst dX6_slip_21 (by decide) ?_
        refine ez_aload_n dX6_slip_22 rfl ?_
        refine g6_3 dX6_slip_23 fl_X6_17 ?_
        refine ez_iload_n dX6_slip_26 rfl ?_
        refine al123 dX6_slip_27 (by omega) ?_
        refine ez_iconst dX6_slip_28 (by decide) ?_
        refine ez_isub dX6_slip_29 (by omega) ?_
        refine cl_X6_isIn dX6_slip_30 ml_X6_51 ft_X6_slip__X6_isIn (Nat.le_of_ble_eq_true rfl) c_X6_isIn (ez_kB (fun b_30 => ?_) (fun b_30 => ?_))
        · refine ez_if_eq 75 dX6_slip_33 (by decide) (fun c_33 => ?_) (fun c_33 => ?_)
          · exact absurd c_33 (by decide)
          · refine ez_iload_n dX6_slip_36 rfl ?_
            refine ez_iconst dX6_slip_37 (by decide) ?_
            refine ez_iconst dX6_slip_38 (by decide) ?_
            refine cl_X6_isIn dX6_slip_39 ml_X6_51 ft_X6_slip__X6_isIn (Nat.le_of_ble_eq_true rfl) c_X6_isIn (ez_kB (fun b_39 => ?_) (fun b_39 => ?_))
            · refine ez_if_eq 75 dX6_slip_42 (by decide) (fun c_42 => ?_) (fun c_42 => ?_)
              · exact absurd c_42 (by decide)
              · refine ez_aload_n dX6_slip_45 rfl ?_
                refine ez_iload dX6_slip_46 rfl ?_
                refine ez_iload_n dX6_slip_48 rfl ?_
                refine cl_X6_hasLay dX6_slip_49 ml_X6_105 ft_X6_slip__X6_hasLay (Nat.le_of_ble_eq_true rfl) (c_X6_hasLay v hf b_8 (fun q => c_17 q.symm)) (ez_kPB (fun h1 hh b_49 => ?_) (fun h1 hh b_49 => ?_))
                · obtain ⟨g1, k1, -⟩ := hh
                  have hkn := md_known g1 hf b_8 (fun q => c_17 q.symm) k1 b_49
                  have hj1 := hkn.2 j (by omega) (by omega)
                  have en := g1.n
                  refine ez_if_eq 75 dX6_slip_52 (by decide) (fun c_52 => ?_) (fun c_52 => ?_)
                  · exact absurd c_52 (by decide)
                  · refine ez_aload_n dX6_slip_55 rfl ?_
                    refine g6_8 dX6_slip_56 fl_X6_33 ?_
                    refine ez_bipush dX6_slip_59 (by decide) (by decide) ?_
                    refine ez_iconst dX6_slip_61 (by decide) ?_
                    refine ez_iload dX6_slip_62 rfl ?_
                    refine ez_imul dX6_slip_64 (by omega) ?_
                    refine ez_iload_n dX6_slip_65 rfl ?_
                    refine ez_iadd dX6_slip_66 (by omega) ?_
                    refine ez_imul dX6_slip_67 (by omega) ?_
                    refine ez_iload_n dX6_slip_68 rfl ?_
                    refine ez_iadd dX6_slip_69 (by omega) ?_
                    refine al128 dX6_slip_70 (by omega) ?_
                    refine ez_iconst dX6_slip_71 (by decide) ?_
                    refine ez_ic_eq 77 dX6_slip_72 (by decide) (fun c_72 => ?_) (fun c_72 => ?_)
                    · obtain ⟨r1, r2, r3, r4, r5⟩ := md_lay_rng g1.1 (a := sp_f (md_S h)) (b := p) (by omega) (by omega) (fun q => c_17 q.symm) k1 (by rw [g1.2.1.S]; exact b_49)
                      have xy := md_xy v b_8 (j := j) (by omega)
                      have hX : ((md_S h).2.2.2 p).2.1 j = h1 124 (8 * p + j) := xy.1.1.trans (g1.2.1 124 _ (by omega) (by omega)).symm
                      have hY : ((md_S h).2.2.2 p).2.2 j = h1 125 (8 * p + j) := xy.1.2.trans (g1.2.1 125 _ (by omega) (by omega)).symm
                      have bX : 0 ≤ h1 124 (8 * p + j) ∧ h1 124 (8 * p + j) ≤ 999 := by rw [← hX, xy.1.1]; exact xy.2.1
                      have bY : 0 ≤ h1 125 (8 * p + j) ∧ h1 125 (8 * p + j) ≤ 999 := by rw [← hY, xy.1.2]; exact xy.2.2
                      have s10 := fx_sl_bd (place := 0) bX
                      have s11 := fx_sl_bd (place := 1) bX
                      have s20 := fx_sl_bd (place := 0) bY
                      have s21 := fx_sl_bd (place := 1) bY
                      have hsl := md_slf v g1 hf b_8 (fun q => c_17 q.symm) k1 b_49
                      have acc : ∀ z : Int, z = _ → md_Q h (sp_slA (md_S h) p j what) h1 (some (ez_I z)) := fun z hz => md_Q.in g1 (hz.trans (sp_dec_t (show (0 ≤ p ∧ p < (md_S h).1) ∧ p ≠ sp_f (md_S h) ∧ (0 ≤ j ∧ j < (((md_S h).2.2.2 p).1 : Int)) ∧ (0 ≤ what ∧ what ≤ 2) ∧ sp_has (md_S h) (sp_f (md_S h)) p ∧ sp_pr (md_S h) (sp_f (md_S h)) p j = -1 from ⟨b_8, c_17, by omega, b_39, b_49, by rw [← hj1]; exact c_72⟩)).symm)
                      rw [hX, hY] at acc
                      refine ez_bipush dX6_slip_77 (by decide) (by decide) ?_
                      refine ez_iconst dX6_slip_79 (by decide) ?_
                      refine ez_iload dX6_slip_80 rfl ?_
                      refine ez_imul dX6_slip_82 (by omega) ?_
                      refine ez_iload_n dX6_slip_83 rfl ?_
                      refine ez_iadd dX6_slip_84 (by omega) ?_
                      refine ez_imul dX6_slip_85 (by omega) ?_
                      refine ez_istore dX6_slip_86 (by decide) ?_
                      refine ez_iconst dX6_slip_88 (by decide) ?_
                      refine ez_istore dX6_slip_89 (by decide) ?_
                      refine ez_iload dX6_slip_91 rfl ?_
                      refine ez_iconst dX6_slip_93 (by decide) ?_
                      try rw [show (1 : Int) + 1 = 2 from rfl]
                      refine ez_ic_ge 365 dX6_slip_94 (by decide) (fun c_94 => ?_) (fun c_94 => ?_)
                      · exact absurd c_94 (by decide)
                      · refine ez_iconst dX6_slip_97 (by decide) ?_
                        refine ez_istore dX6_slip_98 (by decide) ?_
                        refine ez_iload dX6_slip_100 rfl ?_
                        refine ez_iconst dX6_slip_102 (by decide) ?_
                        try rw [show (0 : Int) + 1 = 1 from rfl]
                        try rw [show (1 : Int) + 1 = 2 from rfl]
                        refine ez_ic_ge 359 dX6_slip_103 (by decide) (fun c_103 => ?_) (fun c_103 => ?_)
                        · exact absurd c_103 (by decide)
                        · refine ez_iload dX6_slip_106 rfl ?_
                          refine ez_iconst dX6_slip_108 (by decide) ?_
                          refine ez_ic_ne 131 dX6_slip_109 (by decide) (fun c_109 => ?_) (fun c_109 => ?_)
                          · exact absurd c_109 (by decide)
                          · refine ez_aload_n dX6_slip_112 rfl ?_
                            refine g6_4 dX6_slip_113 fl_X6_20 ?_
                            refine ez_bipush dX6_slip_116 (by decide) (by decide) ?_
                            refine ez_iload_n dX6_slip_118 rfl ?_
                            refine ez_imul dX6_slip_119 (by omega) ?_
                            refine ez_iload_n dX6_slip_120 rfl ?_
                            refine ez_iadd dX6_slip_121 (by omega) ?_
                            refine al124 dX6_slip_122 (by omega) ?_
                            refine ez_iload dX6_slip_123 rfl ?_
                            refine cl_X6_slipped dX6_slip_125 ml_X6_159 ft_X6_slip__X6_slipped (Nat.le_of_ble_eq_true rfl) (c_X6_slipped (by omega)) (ez_kF ?_)
                            refine ez_goto 142 dX6_slip_128 (by decide) ?_
                            refine ez_istore dX6_slip_142 (by decide) ?_
                            refine ez_iload dX6_slip_144 rfl ?_
                            refine ez_iconst dX6_slip_146 (by decide) ?_
                            refine ez_ic_ne 169 dX6_slip_147 (by decide) (fun c_147 => ?_) (fun c_147 => ?_)
                            · refine ez_aload_n dX6_slip_169 rfl ?_
                              refine g6_5 dX6_slip_170 fl_X6_23 ?_
                              refine ez_bipush dX6_slip_173 (by decide) (by decide) ?_
                              refine ez_iload_n dX6_slip_175 rfl ?_
                              refine ez_imul dX6_slip_176 (by omega) ?_
                              refine ez_iload_n dX6_slip_177 rfl ?_
                              refine ez_iadd dX6_slip_178 (by omega) ?_
                              refine al125 dX6_slip_179 (by omega) ?_
                              refine ez_istore dX6_slip_180 (by decide) ?_
                              have cb : ∀ x y : Int, (0 ≤ x ∧ x ≤ 999) ∧ (0 ≤ y ∧ y ≤ 999) → ((-999 ≤ fx_tx (h1 127 (6 * (5 * sp_f (md_S h) + p) + 2)) x y ∧ fx_tx (h1 127 (6 * (5 * sp_f (md_S h) + p) + 2)) x y ≤ 999) ∧ (-999 ≤ fx_ty (h1 127 (6 * (5 * sp_f (md_S h) + p) + 2)) x y ∧ fx_ty (h1 127 (6 * (5 * sp_f (md_S h) + p) + 2)) x y ≤ 999)) ∧ (-2997 ≤ h1 127 (6 * (5 * sp_f (md_S h) + p) + 3) * fx_tx (h1 127 (6 * (5 * sp_f (md_S h) + p) + 2)) x y ∧ h1 127 (6 * (5 * sp_f (md_S h) + p) + 3) * fx_tx (h1 127 (6 * (5 * sp_f (md_S h) + p) + 2)) x y ≤ 2997) ∧ (-2997 ≤ h1 127 (6 * (5 * sp_f (md_S h) + p) + 3) * fx_ty (h1 127 (6 * (5 * sp_f (md_S h) + p) + 2)) x y ∧ h1 127 (6 * (5 * sp_f (md_S h) + p) + 3) * fx_ty (h1 127 (6 * (5 * sp_f (md_S h) + p) + 2)) x y ≤ 2997) := fun x y hxy => ⟨fx_t_bd hxy, fx_s_bd r3 (fx_t_bd hxy).1, fx_s_bd r3 (fx_t_bd hxy).2⟩
                              have q10 := cb (fx_sl (h1 124 (8 * p + j)) 0) (h1 125 (8 * p + j)) ⟨s10, bY⟩
                              have q11 := cb (fx_sl (h1 124 (8 * p + j)) 1) (h1 125 (8 * p + j)) ⟨s11, bY⟩
                              have q20 := cb (h1 124 (8 * p + j)) (fx_sl (h1 125 (8 * p + j)) 0) ⟨bX, s20⟩
                              have q21 := cb (h1 124 (8 * p + j)) (fx_sl (h1 125 (8 * p + j)) 1) ⟨bX, s21⟩
                              refine ez_aload_n dX6_slip_182 rfl ?_
                              refine g6_7 dX6_slip_183 fl_X6_30 ?_
                              refine ez_iload dX6_slip_186 rfl ?_
                              refine ez_iconst dX6_slip_188 (by decide) ?_
                              refine ez_iadd dX6_slip_189 (by omega) ?_
                              refine al127 dX6_slip_190 (by omega) ?_
                              refine ez_aload_n dX6_slip_191 rfl ?_
                              refine g6_7 dX6_slip_192 fl_X6_30 ?_
                              refine ez_iload dX6_slip_195 rfl ?_
                              refine ez_iconst dX6_slip_197 (by decide) ?_
                              refine ez_iadd dX6_slip_198 (by omega) ?_
                              refine al127 dX6_slip_199 (by omega) ?_
                              refine ez_iload dX6_slip_200 rfl ?_
                              refine ez_iload dX6_slip_202 rfl ?_
                              refine cl_X6_turnX dX6_slip_204 ml_X6_66 ft_X6_slip__X6_turnX (Nat.le_of_ble_eq_true rfl) (c_X6_turnX (by omega)) (ez_kF ?_)
                              refine ez_imul dX6_slip_207 (by omega) ?_
                              refine ez_aload_n dX6_slip_208 rfl ?_
                              refine g6_7 dX6_slip_209 fl_X6_30 ?_
                              refine ez_iload dX6_slip_212 rfl ?_
                              refine ez_iconst dX6_slip_214 (by decide) ?_
                              refine ez_iadd dX6_slip_215 (by omega) ?_
                              refine al127 dX6_slip_216 (by omega) ?_
                              refine ez_iadd dX6_slip_217 (by omega) ?_
                              refine ez_istore dX6_slip_218 (by decide) ?_
                              refine ez_aload_n dX6_slip_220 rfl ?_
                              refine g6_7 dX6_slip_221 fl_X6_30 ?_
                              refine ez_iload dX6_slip_224 rfl ?_
                              refine ez_iconst dX6_slip_226 (by decide) ?_
                              refine ez_iadd dX6_slip_227 (by omega) ?_
                              refine al127 dX6_slip_228 (by omega) ?_
                              refine ez_aload_n dX6_slip_229 rfl ?_
                              refine g6_7 dX6_slip_230 fl_X6_30 ?_
                              refine ez_iload dX6_slip_233 rfl ?_
                              refine ez_iconst dX6_slip_235 (by decide) ?_
                              refine ez_iadd dX6_slip_236 (by omega) ?_
                              refine al127 dX6_slip_237 (by omega) ?_
                              refine ez_iload dX6_slip_238 rfl ?_
                              refine ez_iload dX6_slip_240 rfl ?_
                              refine cl_X6_turnY dX6_slip_242 ml_X6_70 ft_X6_slip__X6_turnY (Nat.le_of_ble_eq_true rfl) (c_X6_turnY (by omega)) (ez_kF ?_)
                              refine ez_imul dX6_slip_245 (by omega) ?_
                              refine ez_aload_n dX6_slip_246 rfl ?_
                              refine g6_7 dX6_slip_247 fl_X6_30 ?_
                              refine ez_iload dX6_slip_250 rfl ?_
                              refine ez_iconst dX6_slip_252 (by decide) ?_
                              refine ez_iadd dX6_slip_253 (by omega) ?_
                              refine al127 dX6_slip_254 (by omega) ?_
                              refine ez_iadd dX6_slip_255 (by omega) ?_
                              refine ez_istore dX6_slip_256 (by decide) ?_
                              refine ez_iconst dX6_slip_258 (by decide) ?_
                              refine ez_istore dX6_slip_259 (by decide) ?_
                              refine lp_sl (nP := ((md_S h).2.2.2 p).1) (nF := ((md_S h).2.2.2 (sp_f (md_S h))).1) (pr := sp_pr (md_S h) (sp_f (md_S h)) p) (R := h 121 1) (by omega) (by omega) (by have := g1.m p; omega) (by omega) (by have := g1.m (sp_f (md_S h)); omega) (by omega) (g1.2.1 121 1 (by omega) (by omega)) (fun k k0 k1 => hkn.2 k k0 (by omega)) (fun k k0 k1 => by rw [g1.2.1 124 _ (by omega) (by omega), g1.2.1 125 _ (by omega) (by omega)]; exact (v.2.2.1 _ hf.1 hf.2).1.2.2 k k0 (by omega)) (by omega) (fun i hi => sl_yes acc ((hsl _ _).symm.trans hi) (by omega)) (fun hno => ?_) (((md_S h).2.2.2 (sp_f (md_S h))).1 + 1) 0 (by omega) rfl (by omega)
                              replace acc := sl_no acc ((hsl _ _).symm.trans hno)
                              refine ez_iinc dX6_slip_353 rfl (by decide) (by decide) (by omega) ?_
                              refine ez_goto 100 dX6_slip_356 (by decide) ?_
                              refine ez_iload dX6_slip_100 rfl ?_
                              refine ez_iconst dX6_slip_102 (by decide) ?_
                              try rw [show (0 : Int) + 1 = 1 from rfl]
                              try rw [show (1 : Int) + 1 = 2 from rfl]
                              refine ez_ic_ge 359 dX6_slip_103 (by decide) (fun c_103 => ?_) (fun c_103 => ?_)
                              · exact absurd c_103 (by decide)
                              · refine ez_iload dX6_slip_106 rfl ?_
                                refine ez_iconst dX6_slip_108 (by decide) ?_
                                refine ez_ic_ne 131 dX6_slip_109 (by decide) (fun c_109 => ?_) (fun c_109 => ?_)
                                · exact absurd c_109 (by decide)
                                · refine ez_aload_n dX6_slip_112 rfl ?_
                                  refine g6_4 dX6_slip_113 fl_X6_20 ?_
                                  refine ez_bipush dX6_slip_116 (by decide) (by decide) ?_
                                  refine ez_iload_n dX6_slip_118 rfl ?_
                                  refine ez_imul dX6_slip_119 (by omega) ?_
                                  refine ez_iload_n dX6_slip_120 rfl ?_
                                  refine ez_iadd dX6_slip_121 (by omega) ?_
                                  refine al124 dX6_slip_122 (by omega) ?_
                                  refine ez_iload dX6_slip_123 rfl ?_
                                  refine cl_X6_slipped dX6_slip_125 ml_X6_159 ft_X6_slip__X6_slipped (Nat.le_of_ble_eq_true rfl) (c_X6_slipped (by omega)) (ez_kF ?_)
                                  refine ez_goto 142 dX6_slip_128 (by decide) ?_
                                  refine ez_istore dX6_slip_142 (by decide) ?_
                                  refine ez_iload dX6_slip_144 rfl ?_
                                  refine ez_iconst dX6_slip_146 (by decide) ?_
                                  refine ez_ic_ne 169 dX6_slip_147 (by decide) (fun c_147 => ?_) (fun c_147 => ?_)
                                  · refine ez_aload_n dX6_slip_169 rfl ?_
                                    refine g6_5 dX6_slip_170 fl_X6_23 ?_
                                    refine ez_bipush dX6_slip_173 (by decide) (by decide) ?_
                                    refine ez_iload_n dX6_slip_175 rfl ?_
                                    refine ez_imul dX6_slip_176 (by omega) ?_
                                    refine ez_iload_n dX6_slip_177 rfl ?_
                                    refine ez_iadd dX6_slip_178 (by omega) ?_
                                    refine al125 dX6_slip_179 (by omega) ?_
                                    refine ez_istore dX6_slip_180 (by decide) ?_
                                    have cb : ∀ x y : Int, (0 ≤ x ∧ x ≤ 999) ∧ (0 ≤ y ∧ y ≤ 999) → ((-999 ≤ fx_tx (h1 127 (6 * (5 * sp_f (md_S h) + p) + 2)) x y ∧ fx_tx (h1 127 (6 * (5 * sp_f (md_S h) + p) + 2)) x y ≤ 999) ∧ (-999 ≤ fx_ty (h1 127 (6 * (5 * sp_f (md_S h) + p) + 2)) x y ∧ fx_ty (h1 127 (6 * (5 * sp_f (md_S h) + p) + 2)) x y ≤ 999)) ∧ (-2997 ≤ h1 127 (6 * (5 * sp_f (md_S h) + p) + 3) * fx_tx (h1 127 (6 * (5 * sp_f (md_S h) + p) + 2)) x y ∧ h1 127 (6 * (5 * sp_f (md_S h) + p) + 3) * fx_tx (h1 127 (6 * (5 * sp_f (md_S h) + p) + 2)) x y ≤ 2997) ∧ (-2997 ≤ h1 127 (6 * (5 * sp_f (md_S h) + p) + 3) * fx_ty (h1 127 (6 * (5 * sp_f (md_S h) + p) + 2)) x y ∧ h1 127 (6 * (5 * sp_f (md_S h) + p) + 3) * fx_ty (h1 127 (6 * (5 * sp_f (md_S h) + p) + 2)) x y ≤ 2997) := fun x y hxy => ⟨fx_t_bd hxy, fx_s_bd r3 (fx_t_bd hxy).1, fx_s_bd r3 (fx_t_bd hxy).2⟩
                                    have q10 := cb (fx_sl (h1 124 (8 * p + j)) 0) (h1 125 (8 * p + j)) ⟨s10, bY⟩
                                    have q11 := cb (fx_sl (h1 124 (8 * p + j)) 1) (h1 125 (8 * p + j)) ⟨s11, bY⟩
                                    have q20 := cb (h1 124 (8 * p + j)) (fx_sl (h1 125 (8 * p + j)) 0) ⟨bX, s20⟩
                                    have q21 := cb (h1 124 (8 * p + j)) (fx_sl (h1 125 (8 * p + j)) 1) ⟨bX, s21⟩
                                    refine ez_aload_n dX6_slip_182 rfl ?_
                                    refine g6_7 dX6_slip_183 fl_X6_30 ?_
                                    refine ez_iload dX6_slip_186 rfl ?_
                                    refine ez_iconst dX6_slip_188 (by decide) ?_
                                    refine ez_iadd dX6_slip_189 (by omega) ?_
                                    refine al127 dX6_slip_190 (by omega) ?_
                                    refine ez_aload_n dX6_slip_191 rfl ?_
                                    refine g6_7 dX6_slip_192 fl_X6_30 ?_
                                    refine ez_iload dX6_slip_195 rfl ?_
                                    refine ez_iconst dX6_slip_197 (by decide) ?_
                                    refine ez_iadd dX6_slip_198 (by omega) ?_
                                    refine al127 dX6_slip_199 (by omega) ?_
                                    refine ez_iload dX6_slip_200 rfl ?_
                                    refine ez_iload dX6_slip_202 rfl ?_
                                    refine cl_X6_turnX dX6_slip_204 ml_X6_66 ft_X6_slip__X6_turnX (Nat.le_of_ble_eq_true rfl) (c_X6_turnX (by omega)) (ez_kF ?_)
                                    refine ez_imul dX6_slip_207 (by omega) ?_
                                    refine ez_aload_n dX6_slip_208 rfl ?_
                                    refine g6_7 dX6_slip_209 fl_X6_30 ?_
                                    refine ez_iload dX6_slip_212 rfl ?_
                                    refine ez_iconst dX6_slip_214 (by decide) ?_
                                    refine ez_iadd dX6_slip_215 (by omega) ?_
                                    refine al127 dX6_slip_216 (by omega) ?_
                                    refine ez_iadd dX6_slip_217 (by omega) ?_
                                    refine ez_istore dX6_slip_218 (by decide) ?_
                                    refine ez_aload_n dX6_slip_220 rfl ?_
                                    refine g6_7 dX6_slip_221 fl_X6_30 ?_
                                    refine ez_iload dX6_slip_224 rfl ?_
                                    refine ez_iconst dX6_slip_226 (by decide) ?_
                                    refine ez_iadd dX6_slip_227 (by omega) ?_
                                    refine al127 dX6_slip_228 (by omega) ?_
                                    refine ez_aload_n dX6_slip_229 rfl ?_
                                    refine g6_7 dX6_slip_230 fl_X6_30 ?_
                                    refine ez_iload dX6_slip_233 rfl ?_
                                    refine ez_iconst dX6_slip_235 (by decide) ?_
                                    refine ez_iadd dX6_slip_236 (by omega) ?_
                                    refine al127 dX6_slip_237 (by omega) ?_
                                    refine ez_iload dX6_slip_238 rfl ?_
                                    refine ez_iload dX6_slip_240 rfl ?_
                                    refine cl_X6_turnY dX6_slip_242 ml_X6_70 ft_X6_slip__X6_turnY (Nat.le_of_ble_eq_true rfl) (c_X6_turnY (by omega)) (ez_kF ?_)
                                    refine ez_imul dX6_slip_245 (by omega) ?_
                                    refine ez_aload_n dX6_slip_246 rfl ?_
                                    refine g6_7 dX6_slip_247 fl_X6_30 ?_
                                    refine ez_iload dX6_slip_250 rfl ?_
                                    refine ez_iconst dX6_slip_252 (by decide) ?_
                                    refine ez_iadd dX6_slip_253 (by omega) ?_
                                    refine al127 dX6_slip_254 (by omega) ?_
                                    refine ez_iadd dX6_slip_255 (by omega) ?_
                                    refine ez_istore dX6_slip_256 (by decide) ?_
                                    refine ez_iconst dX6_slip_258 (by decide) ?_
                                    refine ez_istore dX6_slip_259 (by decide) ?_
                                    refine lp_sl (nP := ((md_S h).2.2.2 p).1) (nF := ((md_S h).2.2.2 (sp_f (md_S h))).1) (pr := sp_pr (md_S h) (sp_f (md_S h)) p) (R := h 121 1) (by omega) (by omega) (by have := g1.m p; omega) (by omega) (by have := g1.m (sp_f (md_S h)); omega) (by omega) (g1.2.1 121 1 (by omega) (by omega)) (fun k k0 k1 => hkn.2 k k0 (by omega)) (fun k k0 k1 => by rw [g1.2.1 124 _ (by omega) (by omega), g1.2.1 125 _ (by omega) (by omega)]; exact (v.2.2.1 _ hf.1 hf.2).1.2.2 k k0 (by omega)) (by omega) (fun i hi => sl_yes acc ((hsl _ _).symm.trans hi) (by omega)) (fun hno => ?_) (((md_S h).2.2.2 (sp_f (md_S h))).1 + 1) 0 (by omega) rfl (by omega)
                                    replace acc := sl_no acc ((hsl _ _).symm.trans hno)
                                    refine ez_iinc dX6_slip_353 rfl (by decide) (by decide) (by omega) ?_
                                    refine ez_goto 100 dX6_slip_356 (by decide) ?_
                                    refine ez_iload dX6_slip_100 rfl ?_
                                    refine ez_iconst dX6_slip_102 (by decide) ?_
                                    try rw [show (0 : Int) + 1 = 1 from rfl]
                                    try rw [show (1 : Int) + 1 = 2 from rfl]
                                    refine ez_ic_ge 359 dX6_slip_103 (by decide) (fun c_103 => ?_) (fun c_103 => ?_)
                                    · refine ez_iinc dX6_slip_359 rfl (by decide) (by decide) (by omega) ?_
                                      refine ez_goto 91 dX6_slip_362 (by decide) ?_
                                      refine ez_iload dX6_slip_91 rfl ?_
                                      refine ez_iconst dX6_slip_93 (by decide) ?_
                                      try rw [show (1 : Int) + 1 = 2 from rfl]
                                      refine ez_ic_ge 365 dX6_slip_94 (by decide) (fun c_94 => ?_) (fun c_94 => ?_)
                                      · exact absurd c_94 (by decide)
                                      · refine ez_iconst dX6_slip_97 (by decide) ?_
                                        refine ez_istore dX6_slip_98 (by decide) ?_
                                        refine ez_iload dX6_slip_100 rfl ?_
                                        refine ez_iconst dX6_slip_102 (by decide) ?_
                                        try rw [show (0 : Int) + 1 = 1 from rfl]
                                        try rw [show (1 : Int) + 1 = 2 from rfl]
                                        refine ez_ic_ge 359 dX6_slip_103 (by decide) (fun c_103 => ?_) (fun c_103 => ?_)
                                        · exact absurd c_103 (by decide)
                                        · refine ez_iload dX6_slip_106 rfl ?_
                                          refine ez_iconst dX6_slip_108 (by decide) ?_
                                          refine ez_ic_ne 131 dX6_slip_109 (by decide) (fun c_109 => ?_) (fun c_109 => ?_)
                                          · refine ez_aload_n dX6_slip_131 rfl ?_
                                            refine g6_4 dX6_slip_132 fl_X6_20 ?_
                                            refine ez_bipush dX6_slip_135 (by decide) (by decide) ?_
                                            refine ez_iload_n dX6_slip_137 rfl ?_
                                            refine ez_imul dX6_slip_138 (by omega) ?_
                                            refine ez_iload_n dX6_slip_139 rfl ?_
                                            refine ez_iadd dX6_slip_140 (by omega) ?_
                                            refine al124 dX6_slip_141 (by omega) ?_
                                            refine ez_istore dX6_slip_142 (by decide) ?_
                                            refine ez_iload dX6_slip_144 rfl ?_
                                            refine ez_iconst dX6_slip_146 (by decide) ?_
                                            refine ez_ic_ne 169 dX6_slip_147 (by decide) (fun c_147 => ?_) (fun c_147 => ?_)
                                            · exact absurd c_147 (by decide)
                                            · refine ez_aload_n dX6_slip_150 rfl ?_
                                              refine g6_5 dX6_slip_151 fl_X6_23 ?_
                                              refine ez_bipush dX6_slip_154 (by decide) (by decide) ?_
                                              refine ez_iload_n dX6_slip_156 rfl ?_
                                              refine ez_imul dX6_slip_157 (by omega) ?_
                                              refine ez_iload_n dX6_slip_158 rfl ?_
                                              refine ez_iadd dX6_slip_159 (by omega) ?_
                                              refine al125 dX6_slip_160 (by omega) ?_
                                              refine ez_iload dX6_slip_161 rfl ?_
                                              refine cl_X6_slipped dX6_slip_163 ml_X6_159 ft_X6_slip__X6_slipped (Nat.le_of_ble_eq_true rfl) (c_X6_slipped (by omega)) (ez_kF ?_)
                                              refine ez_goto 180 dX6_slip_166 (by decide) ?_
                                              refine ez_istore dX6_slip_180 (by decide) ?_
                                              have cb : ∀ x y : Int, (0 ≤ x ∧ x ≤ 999) ∧ (0 ≤ y ∧ y ≤ 999) → ((-999 ≤ fx_tx (h1 127 (6 * (5 * sp_f (md_S h) + p) + 2)) x y ∧ fx_tx (h1 127 (6 * (5 * sp_f (md_S h) + p) + 2)) x y ≤ 999) ∧ (-999 ≤ fx_ty (h1 127 (6 * (5 * sp_f (md_S h) + p) + 2)) x y ∧ fx_ty (h1 127 (6 * (5 * sp_f (md_S h) + p) + 2)) x y ≤ 999)) ∧ (-2997 ≤ h1 127 (6 * (5 * sp_f (md_S h) + p) + 3) * fx_tx (h1 127 (6 * (5 * sp_f (md_S h) + p) + 2)) x y ∧ h1 127 (6 * (5 * sp_f (md_S h) + p) + 3) * fx_tx (h1 127 (6 * (5 * sp_f (md_S h) + p) + 2)) x y ≤ 2997) ∧ (-2997 ≤ h1 127 (6 * (5 * sp_f (md_S h) + p) + 3) * fx_ty (h1 127 (6 * (5 * sp_f (md_S h) + p) + 2)) x y ∧ h1 127 (6 * (5 * sp_f (md_S h) + p) + 3) * fx_ty (h1 127 (6 * (5 * sp_f (md_S h) + p) + 2)) x y ≤ 2997) := fun x y hxy => ⟨fx_t_bd hxy, fx_s_bd r3 (fx_t_bd hxy).1, fx_s_bd r3 (fx_t_bd hxy).2⟩
                                              have q10 := cb (fx_sl (h1 124 (8 * p + j)) 0) (h1 125 (8 * p + j)) ⟨s10, bY⟩
                                              have q11 := cb (fx_sl (h1 124 (8 * p + j)) 1) (h1 125 (8 * p + j)) ⟨s11, bY⟩
                                              have q20 := cb (h1 124 (8 * p + j)) (fx_sl (h1 125 (8 * p + j)) 0) ⟨bX, s20⟩
                                              have q21 := cb (h1 124 (8 * p + j)) (fx_sl (h1 125 (8 * p + j)) 1) ⟨bX, s21⟩
                                              refine ez_aload_n dX6_slip_182 rfl ?_
                                              refine g6_7 dX6_slip_183 fl_X6_30 ?_
                                              refine ez_iload dX6_slip_186 rfl ?_
                                              refine ez_iconst dX6_slip_188 (by decide) ?_
                                              refine ez_iadd dX6_slip_189 (by omega) ?_
                                              refine al127 dX6_slip_190 (by omega) ?_
                                              refine ez_aload_n dX6_slip_191 rfl ?_
                                              refine g6_7 dX6_slip_192 fl_X6_30 ?_
                                              refine ez_iload dX6_slip_195 rfl ?_
                                              refine ez_iconst dX6_slip_197 (by decide) ?_
                                              refine ez_iadd dX6_slip_198 (by omega) ?_
                                              refine al127 dX6_slip_199 (by omega) ?_
                                              refine ez_iload dX6_slip_200 rfl ?_
                                              refine ez_iload dX6_slip_202 rfl ?_
                                              refine cl_X6_turnX dX6_slip_204 ml_X6_66 ft_X6_slip__X6_turnX (Nat.le_of_ble_eq_true rfl) (c_X6_turnX (by omega)) (ez_kF ?_)
                                              refine ez_imul dX6_slip_207 (by omega) ?_
                                              refine ez_aload_n dX6_slip_208 rfl ?_
                                              refine g6_7 dX6_slip_209 fl_X6_30 ?_
                                              refine ez_iload dX6_slip_212 rfl ?_
                                              refine ez_iconst dX6_slip_214 (by decide) ?_
                                              refine ez_iadd dX6_slip_215 (by omega) ?_
                                              refine al127 dX6_slip_216 (by omega) ?_
                                              refine ez_iadd dX6_slip_217 (by omega) ?_
                                              refine ez_istore dX6_slip_218 (by decide) ?_
                                              refine ez_aload_n dX6_slip_220 rfl ?_
                                              refine g6_7 dX6_slip_221 fl_X6_30 ?_
                                              refine ez_iload dX6_slip_224 rfl ?_
                                              refine ez_iconst dX6_slip_226 (by decide) ?_
                                              refine ez_iadd dX6_slip_227 (by omega) ?_
                                              refine al127 dX6_slip_228 (by omega) ?_
                                              refine ez_aload_n dX6_slip_229 rfl ?_
                                              refine g6_7 dX6_slip_230 fl_X6_30 ?_
                                              refine ez_iload dX6_slip_233 rfl ?_
                                              refine ez_iconst dX6_slip_235 (by decide) ?_
                                              refine ez_iadd dX6_slip_236 (by omega) ?_
                                              refine al127 dX6_slip_237 (by omega) ?_
                                              refine ez_iload dX6_slip_238 rfl ?_
                                              refine ez_iload dX6_slip_240 rfl ?_
                                              refine cl_X6_turnY dX6_slip_242 ml_X6_70 ft_X6_slip__X6_turnY (Nat.le_of_ble_eq_true rfl) (c_X6_turnY (by omega)) (ez_kF ?_)
                                              refine ez_imul dX6_slip_245 (by omega) ?_
                                              refine ez_aload_n dX6_slip_246 rfl ?_
                                              refine g6_7 dX6_slip_247 fl_X6_30 ?_
                                              refine ez_iload dX6_slip_250 rfl ?_
                                              refine ez_iconst dX6_slip_252 (by decide) ?_
                                              refine ez_iadd dX6_slip_253 (by omega) ?_
                                              refine al127 dX6_slip_254 (by omega) ?_
                                              refine ez_iadd dX6_slip_255 (by omega) ?_
                                              refine ez_istore dX6_slip_256 (by decide) ?_
                                              refine ez_iconst dX6_slip_258 (by decide) ?_
                                              refine ez_istore dX6_slip_259 (by decide) ?_
                                              refine lp_sl (nP := ((md_S h).2.2.2 p).1) (nF := ((md_S h).2.2.2 (sp_f (md_S h))).1) (pr := sp_pr (md_S h) (sp_f (md_S h)) p) (R := h 121 1) (by omega) (by omega) (by have := g1.m p; omega) (by omega) (by have := g1.m (sp_f (md_S h)); omega) (by omega) (g1.2.1 121 1 (by omega) (by omega)) (fun k k0 k1 => hkn.2 k k0 (by omega)) (fun k k0 k1 => by rw [g1.2.1 124 _ (by omega) (by omega), g1.2.1 125 _ (by omega) (by omega)]; exact (v.2.2.1 _ hf.1 hf.2).1.2.2 k k0 (by omega)) (by omega) (fun i hi => sl_yes acc ((hsl _ _).symm.trans hi) (by omega)) (fun hno => ?_) (((md_S h).2.2.2 (sp_f (md_S h))).1 + 1) 0 (by omega) rfl (by omega)
                                              replace acc := sl_no acc ((hsl _ _).symm.trans hno)
                                              refine ez_iinc dX6_slip_353 rfl (by decide) (by decide) (by omega) ?_
                                              refine ez_goto 100 dX6_slip_356 (by decide) ?_
                                              refine ez_iload dX6_slip_100 rfl ?_
                                              refine ez_iconst dX6_slip_102 (by decide) ?_
                                              try rw [show (0 : Int) + 1 = 1 from rfl]
                                              try rw [show (1 : Int) + 1 = 2 from rfl]
                                              refine ez_ic_ge 359 dX6_slip_103 (by decide) (fun c_103 => ?_) (fun c_103 => ?_)
                                              · exact absurd c_103 (by decide)
                                              · refine ez_iload dX6_slip_106 rfl ?_
                                                refine ez_iconst dX6_slip_108 (by decide) ?_
                                                refine ez_ic_ne 131 dX6_slip_109 (by decide) (fun c_109 => ?_) (fun c_109 => ?_)
                                                · refine ez_aload_n dX6_slip_131 rfl ?_
                                                  refine g6_4 dX6_slip_132 fl_X6_20 ?_
                                                  refine ez_bipush dX6_slip_135 (by decide) (by decide) ?_
                                                  refine ez_iload_n dX6_slip_137 rfl ?_
                                                  refine ez_imul dX6_slip_138 (by omega) ?_
                                                  refine ez_iload_n dX6_slip_139 rfl ?_
                                                  refine ez_iadd dX6_slip_140 (by omega) ?_
                                                  refine al124 dX6_slip_141 (by omega) ?_
                                                  refine ez_istore dX6_slip_142 (by decide) ?_
                                                  refine ez_iload dX6_slip_144 rfl ?_
                                                  refine ez_iconst dX6_slip_146 (by decide) ?_
                                                  refine ez_ic_ne 169 dX6_slip_147 (by decide) (fun c_147 => ?_) (fun c_147 => ?_)
                                                  · exact absurd c_147 (by decide)
                                                  · refine ez_aload_n dX6_slip_150 rfl ?_
                                                    refine g6_5 dX6_slip_151 fl_X6_23 ?_
                                                    refine ez_bipush dX6_slip_154 (by decide) (by decide) ?_
                                                    refine ez_iload_n dX6_slip_156 rfl ?_
                                                    refine ez_imul dX6_slip_157 (by omega) ?_
                                                    refine ez_iload_n dX6_slip_158 rfl ?_
                                                    refine ez_iadd dX6_slip_159 (by omega) ?_
                                                    refine al125 dX6_slip_160 (by omega) ?_
                                                    refine ez_iload dX6_slip_161 rfl ?_
                                                    refine cl_X6_slipped dX6_slip_163 ml_X6_159 ft_X6_slip__X6_slipped (Nat.le_of_ble_eq_true rfl) (c_X6_slipped (by omega)) (ez_kF ?_)
                                                    refine ez_goto 180 dX6_slip_166 (by decide) ?_
                                                    refine ez_istore dX6_slip_180 (by decide) ?_
                                                    have cb : ∀ x y : Int, (0 ≤ x ∧ x ≤ 999) ∧ (0 ≤ y ∧ y ≤ 999) → ((-999 ≤ fx_tx (h1 127 (6 * (5 * sp_f (md_S h) + p) + 2)) x y ∧ fx_tx (h1 127 (6 * (5 * sp_f (md_S h) + p) + 2)) x y ≤ 999) ∧ (-999 ≤ fx_ty (h1 127 (6 * (5 * sp_f (md_S h) + p) + 2)) x y ∧ fx_ty (h1 127 (6 * (5 * sp_f (md_S h) + p) + 2)) x y ≤ 999)) ∧ (-2997 ≤ h1 127 (6 * (5 * sp_f (md_S h) + p) + 3) * fx_tx (h1 127 (6 * (5 * sp_f (md_S h) + p) + 2)) x y ∧ h1 127 (6 * (5 * sp_f (md_S h) + p) + 3) * fx_tx (h1 127 (6 * (5 * sp_f (md_S h) + p) + 2)) x y ≤ 2997) ∧ (-2997 ≤ h1 127 (6 * (5 * sp_f (md_S h) + p) + 3) * fx_ty (h1 127 (6 * (5 * sp_f (md_S h) + p) + 2)) x y ∧ h1 127 (6 * (5 * sp_f (md_S h) + p) + 3) * fx_ty (h1 127 (6 * (5 * sp_f (md_S h) + p) + 2)) x y ≤ 2997) := fun x y hxy => ⟨fx_t_bd hxy, fx_s_bd r3 (fx_t_bd hxy).1, fx_s_bd r3 (fx_t_bd hxy).2⟩
                                                    have q10 := cb (fx_sl (h1 124 (8 * p + j)) 0) (h1 125 (8 * p + j)) ⟨s10, bY⟩
                                                    have q11 := cb (fx_sl (h1 124 (8 * p + j)) 1) (h1 125 (8 * p + j)) ⟨s11, bY⟩
                                                    have q20 := cb (h1 124 (8 * p + j)) (fx_sl (h1 125 (8 * p + j)) 0) ⟨bX, s20⟩
                                                    have q21 := cb (h1 124 (8 * p + j)) (fx_sl (h1 125 (8 * p + j)) 1) ⟨bX, s21⟩
                                                    refine ez_aload_n dX6_slip_182 rfl ?_
                                                    refine g6_7 dX6_slip_183 fl_X6_30 ?_
                                                    refine ez_iload dX6_slip_186 rfl ?_
                                                    refine ez_iconst dX6_slip_188 (by decide) ?_
                                                    refine ez_iadd dX6_slip_189 (by omega) ?_
                                                    refine al127 dX6_slip_190 (by omega) ?_
                                                    refine ez_aload_n dX6_slip_191 rfl ?_
                                                    refine g6_7 dX6_slip_192 fl_X6_30 ?_
                                                    refine ez_iload dX6_slip_195 rfl ?_
                                                    refine ez_iconst dX6_slip_197 (by decide) ?_
                                                    refine ez_iadd dX6_slip_198 (by omega) ?_
                                                    refine al127 dX6_slip_199 (by omega) ?_
                                                    refine ez_iload dX6_slip_200 rfl ?_
                                                    refine ez_iload dX6_slip_202 rfl ?_
                                                    refine cl_X6_turnX dX6_slip_204 ml_X6_66 ft_X6_slip__X6_turnX (Nat.le_of_ble_eq_true rfl) (c_X6_turnX (by omega)) (ez_kF ?_)
                                                    refine ez_imul dX6_slip_207 (by omega) ?_
                                                    refine ez_aload_n dX6_slip_208 rfl ?_
                                                    refine g6_7 dX6_slip_209 fl_X6_30 ?_
                                                    refine ez_iload dX6_slip_212 rfl ?_
                                                    refine ez_iconst dX6_slip_214 (by decide) ?_
                                                    refine ez_iadd dX6_slip_215 (by omega) ?_
                                                    refine al127 dX6_slip_216 (by omega) ?_
                                                    refine ez_iadd dX6_slip_217 (by omega) ?_
                                                    refine ez_istore dX6_slip_218 (by decide) ?_
                                                    refine ez_aload_n dX6_slip_220 rfl ?_
                                                    refine g6_7 dX6_slip_221 fl_X6_30 ?_
                                                    refine ez_iload dX6_slip_224 rfl ?_
                                                    refine ez_iconst dX6_slip_226 (by decide) ?_
                                                    refine ez_iadd dX6_slip_227 (by omega) ?_
                                                    refine al127 dX6_slip_228 (by omega) ?_
                                                    refine ez_aload_n dX6_slip_229 rfl ?_
                                                    refine g6_7 dX6_slip_230 fl_X6_30 ?_
                                                    refine ez_iload dX6_slip_233 rfl ?_
                                                    refine ez_iconst dX6_slip_235 (by decide) ?_
                                                    refine ez_iadd dX6_slip_236 (by omega) ?_
                                                    refine al127 dX6_slip_237 (by omega) ?_
                                                    refine ez_iload dX6_slip_238 rfl ?_
                                                    refine ez_iload dX6_slip_240 rfl ?_
                                                    refine cl_X6_turnY dX6_slip_242 ml_X6_70 ft_X6_slip__X6_turnY (Nat.le_of_ble_eq_true rfl) (c_X6_turnY (by omega)) (ez_kF ?_)
                                                    refine ez_imul dX6_slip_245 (by omega) ?_
                                                    refine ez_aload_n dX6_slip_246 rfl ?_
                                                    refine g6_7 dX6_slip_247 fl_X6_30 ?_
                                                    refine ez_iload dX6_slip_250 rfl ?_
                                                    refine ez_iconst dX6_slip_252 (by decide) ?_
                                                    refine ez_iadd dX6_slip_253 (by omega) ?_
                                                    refine al127 dX6_slip_254 (by omega) ?_
                                                    refine ez_iadd dX6_slip_255 (by omega) ?_
                                                    refine ez_istore dX6_slip_256 (by decide) ?_
                                                    refine ez_iconst dX6_slip_258 (by decide) ?_
                                                    refine ez_istore dX6_slip_259 (by decide) ?_
                                                    refine lp_sl (nP := ((md_S h).2.2.2 p).1) (nF := ((md_S h).2.2.2 (sp_f (md_S h))).1) (pr := sp_pr (md_S h) (sp_f (md_S h)) p) (R := h 121 1) (by omega) (by omega) (by have := g1.m p; omega) (by omega) (by have := g1.m (sp_f (md_S h)); omega) (by omega) (g1.2.1 121 1 (by omega) (by omega)) (fun k k0 k1 => hkn.2 k k0 (by omega)) (fun k k0 k1 => by rw [g1.2.1 124 _ (by omega) (by omega), g1.2.1 125 _ (by omega) (by omega)]; exact (v.2.2.1 _ hf.1 hf.2).1.2.2 k k0 (by omega)) (by omega) (fun i hi => sl_yes acc ((hsl _ _).symm.trans hi) (by omega)) (fun hno => ?_) (((md_S h).2.2.2 (sp_f (md_S h))).1 + 1) 0 (by omega) rfl (by omega)
                                                    replace acc := sl_no acc ((hsl _ _).symm.trans hno)
                                                    refine ez_iinc dX6_slip_353 rfl (by decide) (by decide) (by omega) ?_
                                                    refine ez_goto 100 dX6_slip_356 (by decide) ?_
                                                    refine ez_iload dX6_slip_100 rfl ?_
                                                    refine ez_iconst dX6_slip_102 (by decide) ?_
                                                    try rw [show (0 : Int) + 1 = 1 from rfl]
                                                    try rw [show (1 : Int) + 1 = 2 from rfl]
                                                    refine ez_ic_ge 359 dX6_slip_103 (by decide) (fun c_103 => ?_) (fun c_103 => ?_)
                                                    · refine ez_iinc dX6_slip_359 rfl (by decide) (by decide) (by omega) ?_
                                                      refine ez_goto 91 dX6_slip_362 (by decide) ?_
                                                      refine ez_iload dX6_slip_91 rfl ?_
                                                      refine ez_iconst dX6_slip_93 (by decide) ?_
                                                      try rw [show (1 : Int) + 1 = 2 from rfl]
                                                      refine ez_ic_ge 365 dX6_slip_94 (by decide) (fun c_94 => ?_) (fun c_94 => ?_)
                                                      · refine ez_iconst dX6_slip_365 (by decide) ?_
                                                        refine ez_ireturn (st := []) dX6_slip_366 rfl ?_
                                                        exact acc _ rfl
                                                      · exact absurd c_94 (by decide)
                                                    · exact absurd c_103 (by decide)
                                                · exact absurd c_109 (by decide)
                                          · exact absurd c_109 (by decide)
                                    · exact absurd c_103 (by decide)
                                  · exact absurd c_147 (by decide)
                            · exact absurd c_147 (by decide)
                    · refine ez_iconst dX6_slip_75 (by decide) ?_
                      refine ez_ireturn (st := []) dX6_slip_76 rfl ?_
                      first
                        | exact md_Q.in g1 (sp_dec_f (fun q => c_72 (hj1.trans q.2.2.2.2.2))).symm
                        | exact md_Q.in g1 (sp_dec_f (fun q => b_49 q.2.2.2.2.1)).symm
                        | exact md_Q.in (md_g.rf v) (sp_dec_f (fun q => b_39 q.2.2.2.1)).symm
                        | exact md_Q.in (md_g.rf v) (sp_dec_f (fun q => b_30 (by have := q.2.2.1; omega))).symm
                        | exact md_Q.in (md_g.rf v) (sp_dec_f (fun q => b_8 q.1)).symm
                        | exact md_Q.in (md_g.rf v) (sp_dec_f (fun q => absurd c_17 q.2.1)).symm
                · obtain ⟨g1, k1, -⟩ := hh
                  refine ez_if_eq 75 dX6_slip_52 (by decide) (fun c_52 => ?_) (fun c_52 => ?_)
                  · refine ez_iconst dX6_slip_75 (by decide) ?_
                    refine ez_ireturn (st := []) dX6_slip_76 rfl ?_
                    first
                      | exact md_Q.in g1 (sp_dec_f (fun q => c_72 (hj1.trans q.2.2.2.2.2))).symm
                      | exact md_Q.in g1 (sp_dec_f (fun q => b_49 q.2.2.2.2.1)).symm
                      | exact md_Q.in (md_g.rf v) (sp_dec_f (fun q => b_39 q.2.2.2.1)).symm
                      | exact md_Q.in (md_g.rf v) (sp_dec_f (fun q => b_30 (by have := q.2.2.1; omega))).symm
                      | exact md_Q.in (md_g.rf v) (sp_dec_f (fun q => b_8 q.1)).symm
                      | exact md_Q.in (md_g.rf v) (sp_dec_f (fun q => absurd c_17 q.2.1)).symm
                  · exact absurd c_52 (by decide)
            · refine ez_if_eq 75 dX6_slip_42 (by decide) (fun c_42 => ?_) (fun c_42 => ?_)
              · refine ez_iconst dX6_slip_75 (by decide) ?_
                refine ez_ireturn (st := []) dX6_slip_76 rfl ?_
                first
                  | exact md_Q.in g1 (sp_dec_f (fun q => c_72 (hj1.trans q.2.2.2.2.2))).symm
                  | exact md_Q.in g1 (sp_dec_f (fun q => b_49 q.2.2.2.2.1)).symm
                  | exact md_Q.in (md_g.rf v) (sp_dec_f (fun q => b_39 q.2.2.2.1)).symm
                  | exact md_Q.in (md_g.rf v) (sp_dec_f (fun q => b_30 (by have := q.2.2.1; omega))).symm
                  | exact md_Q.in (md_g.rf v) (sp_dec_f (fun q => b_8 q.1)).symm
                  | exact md_Q.in (md_g.rf v) (sp_dec_f (fun q => absurd c_17 q.2.1)).symm
              · exact absurd c_42 (by decide)
        · refine ez_if_eq 75 dX6_slip_33 (by decide) (fun c_33 => ?_) (fun c_33 => ?_)
          · refine ez_iconst dX6_slip_75 (by decide) ?_
            refine ez_ireturn (st := []) dX6_slip_76 rfl ?_
            first
              | exact md_Q.in g1 (sp_dec_f (fun q => c_72 (hj1.trans q.2.2.2.2.2))).symm
              | exact md_Q.in g1 (sp_dec_f (fun q => b_49 q.2.2.2.2.1)).symm
              | exact md_Q.in (md_g.rf v) (sp_dec_f (fun q => b_39 q.2.2.2.1)).symm
              | exact md_Q.in (md_g.rf v) (sp_dec_f (fun q => b_30 (by have := q.2.2.1; omega))).symm
              | exact md_Q.in (md_g.rf v) (sp_dec_f (fun q => b_8 q.1)).symm
              | exact md_Q.in (md_g.rf v) (sp_dec_f (fun q => absurd c_17 q.2.1)).symm
          · exact absurd c_33 (by decide)
  · refine ez_if_eq 75 dX6_slip_11 (by decide) (fun c_11 => ?_) (fun c_11 => ?_)
    · refine ez_iconst dX6_slip_75 (by decide) ?_
      refine ez_ireturn (st := []) dX6_slip_76 rfl ?_
      first
        | exact md_Q.in g1 (sp_dec_f (fun q => c_72 (hj1.trans q.2.2.2.2.2))).symm
        | exact md_Q.in g1 (sp_dec_f (fun q => b_49 q.2.2.2.2.1)).symm
        | exact md_Q.in (md_g.rf v) (sp_dec_f (fun q => b_39 q.2.2.2.1)).symm
        | exact md_Q.in (md_g.rf v) (sp_dec_f (fun q => b_30 (by have := q.2.2.1; omega))).symm
        | exact md_Q.in (md_g.rf v) (sp_dec_f (fun q => b_8 q.1)).symm
        | exact md_Q.in (md_g.rf v) (sp_dec_f (fun q => absurd c_17 q.2.1)).symm
    · exact absurd c_11 (by decide)
