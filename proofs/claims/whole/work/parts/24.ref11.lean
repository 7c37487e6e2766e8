/-! the reference's motion, steadiness, companions, foretelling -/
theorem en_mul_bd {a b A B : Int} (ha : -A ≤ a ∧ a ≤ A) (hb : -B ≤ b ∧ b ≤ B) : -(A * B) ≤ a * b ∧ a * b ≤ A * B := by
  have h1 : (a.natAbs : Int) ≤ A := by omega
  have h2 : (b.natAbs : Int) ≤ B := by omega
  have h3 : ((a * b).natAbs : Int) ≤ A * B := by
    rw [Int.natAbs_mul]
    push_cast
    exact Int.mul_le_mul h1 h2 (by omega) (by omega)
  omega
theorem en_tdiv_bd {v g B : Int} (hg : 0 < g) (hv : -B ≤ v ∧ v ≤ B) : -B ≤ v.tdiv g ∧ v.tdiv g ≤ B := by
  by_cases h0 : 0 ≤ v
  · obtain ⟨e, h1, h2, -⟩ := en_div h0 hg
    rw [e]
    omega
  · obtain ⟨e, h1, h2, -⟩ := en_div (show 0 ≤ -v by omega) hg
    have e2 : v.tdiv g = -((-v).tdiv g) := by rw [Int.neg_tdiv, Int.neg_neg]
    rw [e2, e]
    omega
theorem en_tdiv32 {v g : Int} (hg : 0 < g) (hv : -8000 ≤ v ∧ v ≤ 8000) : in32 (v.tdiv g) := by
  have := en_tdiv_bd hg hv
  omega
theorem lp_cm {a b : Int} {h : ez_H} {G : Nat} : ∀ (n : Nat) (x : Nat) (y : Nat), (Nat.gcd x y = G) → (0 ≤ y) → y < n → ez_En M_X6_common 7 [ez_I a, ez_I b, ez_I (x : Nat), ez_I (y : Nat), ez_N] [] h (ez_F h (G : Int)) := by
  intro n
  induction n with
  | zero =>
    intro x y hG _y0 hm
    exfalso
    omega
  | succ n ih =>
    intro x y hG _y0 hm
    refine ez_iload_n dX6_common_7 rfl ?_
    refine ez_if_eq 24 dX6_common_8 (by decide) (fun c_8 => ?_) (fun c_8 => ?_)
    · refine ez_iload_n dX6_common_24 rfl ?_
      refine ez_ireturn (st := []) dX6_common_25 rfl ?_
      exact ez_F.in (by rw [← hG, show y = 0 by omega, Nat.gcd_zero_right])
    · refine ez_iload_n dX6_common_11 rfl ?_
      refine ez_iload_n dX6_common_12 rfl ?_
      refine ez_iremN dX6_common_13 (by omega) (by omega) ?_
      refine ez_istore dX6_common_14 (by decide) ?_
      refine ez_iload_n dX6_common_16 rfl ?_
      refine ez_istore_n dX6_common_17 (by decide) ?_
      refine ez_iload dX6_common_18 rfl ?_
      refine ez_istore_n dX6_common_20 (by decide) ?_
      refine ez_goto 7 dX6_common_21 (by decide) ?_
      refine ez_lessS (L' := [ez_I a, ez_I b, ez_I (y : Nat), ez_I ((x % y : Nat) : Int), ez_N]) ⟨Or.inr rfl, Or.inr rfl, Or.inr rfl, Or.inr (by push_cast; rfl), Or.inl rfl, trivial⟩ ?_
      exact ih y (x % y) (by rw [← hG, Nat.gcd_comm x y, Nat.gcd_rec y x]; exact Nat.gcd_comm _ _) (by omega) (by have := Nat.mod_lt x (show 0 < y by omega); omega)
def sp_gcd (a b : Int) : Int := (Nat.gcd a.natAbs b.natAbs : Nat)
theorem sp_gcd_pos {a b : Int} (hb : 0 < b) : 0 < sp_gcd a b ∧ sp_gcd a b ≤ b := by
  unfold sp_gcd
  have h1 : 0 < Nat.gcd a.natAbs b.natAbs := Nat.gcd_pos_of_pos_right _ (by omega)
  have h2 : Nat.gcd a.natAbs b.natAbs ≤ b.natAbs := Nat.gcd_le_right _ (by omega)
  omega
theorem c_X6_common {a b : Int} {h : ez_H} (ha : -1000000 ≤ a ∧ a ≤ 1000000) (hb : 0 < b ∧ b ≤ 1000000) : ez_Ct M_X6_common [ez_I a, ez_I b] h (ez_F h (sp_gcd a b)) := by
  refine ez_of (by decide) (Nat.le_of_ble_eq_true rfl) (L0 := [ez_I a, ez_I b, ez_N, ez_N, ez_N]) rfl ?_
  refine ez_iload_n dX6_common_0 rfl ?_
  refine cl_X6_abs dX6_common_1 ml_X6_62 ft_X6_common__X6_abs (Nat.le_of_ble_eq_true rfl) (c_X6_abs (by omega)) (ez_kF ?_)
  refine ez_istore_n dX6_common_4 (by decide) ?_
  refine ez_iload_n dX6_common_5 rfl ?_
  refine ez_istore_n dX6_common_6 (by decide) ?_
  refine ez_lessS (L' := [ez_I a, ez_I b, ez_I (a.natAbs : Nat), ez_I (b.natAbs : Nat), ez_N]) ⟨Or.inr rfl, Or.inr rfl, Or.inr rfl, Or.inr (congrArg ez_I (by omega)), Or.inl rfl, trivial⟩ ?_
  exact lp_cm (b.natAbs + 1) a.natAbs b.natAbs rfl (by omega) (by omega)
noncomputable def sp_moA (S : sp_S) (i what : Int) : Int := sp_dec ((0 ≤ i ∧ i < sp_tr S) ∧ (0 ≤ what ∧ what ≤ 3) ∧ sp_la S i ≠ sp_f S) (if what % 2 = 0 then (if what < 2 then sp_wx S i else sp_wy S i).tdiv (sp_gcd (if what < 2 then sp_wx S i else sp_wy S i) (sp_ys S i)) else (sp_ys S i).tdiv (sp_gcd (if what < 2 then sp_wx S i else sp_wy S i) (sp_ys S i))) (-10000)
theorem c_X6_motion {i what : Int} {h : ez_H} (v : md_V h) : ez_Ct M_X6_motion [ez_R 121, ez_I i, ez_I what] h (md_Q h (sp_moA (md_S h) i what)) := by
  have v0 := v.1
  refine ez_of (by decide) (Nat.le_of_ble_eq_true rfl) (L0 := [ez_R 121, ez_I i, ez_I what, ez_N, ez_N]) rfl ?_
  refine ez_aload_n dX6_motion_0 rfl ?_
  refine ez_iload_n dX6_motion_1 rfl ?_
  refine cl_X6_isTrack dX6_motion_2 ml_X6_116 ft_X6_motion__X6_isTrack (Nat.le_of_ble_eq_true rfl) (c_X6_isTrack v) (ez_kB (fun b_2 => ?_) (fun b_2 => ?_))
  · refine ez_if_eq 25 dX6_motion_5 (by decide) (fun c_5 => ?_) (fun c_5 => ?_)
    · exact absurd c_5 (by decide)
    · refine ez_iload_n dX6_motion_8 rfl ?_
      refine ez_iconst dX6_motion_9 (by decide) ?_
      refine ez_iconst dX6_motion_10 (by decide) ?_
      refine cl_X6_isIn dX6_motion_11 ml_X6_51 ft_X6_motion__X6_isIn (Nat.le_of_ble_eq_true rfl) c_X6_isIn (ez_kB (fun b_11 => ?_) (fun b_11 => ?_))
      · refine ez_if_eq 25 dX6_motion_14 (by decide) (fun c_14 => ?_) (fun c_14 => ?_)
        · exact absurd c_14 (by decide)
        · refine ez_aload_n dX6_motion_17 rfl ?_
          refine ez_iload_n dX6_motion_18 rfl ?_
          refine cl_X6_moves dX6_motion_19 ml_X6_143 ft_X6_motion__X6_moves (Nat.le_of_ble_eq_true rfl) (c_X6_moves v b_2) (ez_kPB (fun h1 hh b_19 => ?_) (fun h1 hh b_19 => ?_))
          · obtain ⟨g1, w17, w18, ww⟩ := hh
            obtain ⟨w14, w15, w16, r1, r2, r3⟩ := ww b_19
            refine ez_if_ne 29 dX6_motion_22 (by decide) (fun c_22 => ?_) (fun c_22 => ?_)
            · refine ez_iload_n dX6_motion_29 rfl ?_
              refine ez_iconst dX6_motion_30 (by decide) ?_
              refine ez_ic_ge 41 dX6_motion_31 (by decide) (fun c_31 => ?_) (fun c_31 => ?_)
              · have eG : (if what < 2 then sp_wx (md_S h) i else sp_wy (md_S h) i) = h1 121 15 := by rw [if_neg (by omega)]; exact w15.symm
                refine ez_aload_n dX6_motion_41 rfl ?_
                refine g6_15 dX6_motion_42 fl_X6_137 ?_
                refine ez_istore_n dX6_motion_45 (by decide) ?_
                refine ez_iload_n dX6_motion_46 rfl ?_
                refine ez_aload_n dX6_motion_47 rfl ?_
                refine g6_16 dX6_motion_48 fl_X6_140 ?_
                refine cl_X6_common dX6_motion_51 ml_X6_146 ft_X6_motion__X6_common (Nat.le_of_ble_eq_true rfl) (c_X6_common (by omega) (by omega)) (ez_kF ?_)
                refine ez_istore dX6_motion_54 (by decide) ?_
                have hg := sp_gcd_pos (a := (if what < 2 then sp_wx (md_S h) i else sp_wy (md_S h) i)) (b := sp_ys (md_S h) i) r3.1
                rw [eG, ← w16] at hg
                refine ez_iload_n dX6_motion_56 rfl ?_
                refine ez_iconst dX6_motion_57 (by decide) ?_
                refine ez_iremN dX6_motion_58 (by omega) (by omega) ?_
                refine ez_if_ne 69 dX6_motion_59 (by decide) (fun c_59 => ?_) (fun c_59 => ?_)
                · refine ez_aload_n dX6_motion_69 rfl ?_
                  refine g6_16 dX6_motion_70 fl_X6_140 ?_
                  refine ez_iload dX6_motion_73 rfl ?_
                  refine ez_idiv dX6_motion_75 (by omega) (en_tdiv32 hg.1 (by omega)) ?_
                  refine ez_ireturn (st := []) dX6_motion_76 rfl ?_
                  refine md_Q.in g1 ?_
                  unfold sp_moA
                  rw [sp_dec_t ⟨b_2, b_11, b_19⟩, eG, ← w16]
                  first
                    | rw [if_pos c_59]
                    | rw [if_neg c_59]
                · refine ez_iload_n dX6_motion_62 rfl ?_
                  refine ez_iload dX6_motion_63 rfl ?_
                  refine ez_idiv dX6_motion_65 (by omega) (en_tdiv32 hg.1 (by omega)) ?_
                  refine ez_goto 76 dX6_motion_66 (by decide) ?_
                  refine ez_ireturn (st := []) dX6_motion_76 rfl ?_
                  refine md_Q.in g1 ?_
                  unfold sp_moA
                  rw [sp_dec_t ⟨b_2, b_11, b_19⟩, eG, ← w16]
                  first
                    | rw [if_pos c_59]
                    | rw [if_neg c_59]
              · have eG : (if what < 2 then sp_wx (md_S h) i else sp_wy (md_S h) i) = h1 121 14 := by rw [if_pos (by omega)]; exact w14.symm
                refine ez_aload_n dX6_motion_34 rfl ?_
                refine g6_14 dX6_motion_35 fl_X6_134 ?_
                refine ez_goto 45 dX6_motion_38 (by decide) ?_
                refine ez_istore_n dX6_motion_45 (by decide) ?_
                refine ez_iload_n dX6_motion_46 rfl ?_
                refine ez_aload_n dX6_motion_47 rfl ?_
                refine g6_16 dX6_motion_48 fl_X6_140 ?_
                refine cl_X6_common dX6_motion_51 ml_X6_146 ft_X6_motion__X6_common (Nat.le_of_ble_eq_true rfl) (c_X6_common (by omega) (by omega)) (ez_kF ?_)
                refine ez_istore dX6_motion_54 (by decide) ?_
                have hg := sp_gcd_pos (a := (if what < 2 then sp_wx (md_S h) i else sp_wy (md_S h) i)) (b := sp_ys (md_S h) i) r3.1
                rw [eG, ← w16] at hg
                refine ez_iload_n dX6_motion_56 rfl ?_
                refine ez_iconst dX6_motion_57 (by decide) ?_
                refine ez_iremN dX6_motion_58 (by omega) (by omega) ?_
                refine ez_if_ne 69 dX6_motion_59 (by decide) (fun c_59 => ?_) (fun c_59 => ?_)
                · refine ez_aload_n dX6_motion_69 rfl ?_
                  refine g6_16 dX6_motion_70 fl_X6_140 ?_
                  refine ez_iload dX6_motion_73 rfl ?_
                  refine ez_idiv dX6_motion_75 (by omega) (en_tdiv32 hg.1 (by omega)) ?_
                  refine ez_ireturn (st := []) dX6_motion_76 rfl ?_
                  refine md_Q.in g1 ?_
                  unfold sp_moA
                  rw [sp_dec_t ⟨b_2, b_11, b_19⟩, eG, ← w16]
                  first
                    | rw [if_pos c_59]
                    | rw [if_neg c_59]
                · refine ez_iload_n dX6_motion_62 rfl ?_
                  refine ez_iload dX6_motion_63 rfl ?_
                  refine ez_idiv dX6_motion_65 (by omega) (en_tdiv32 hg.1 (by omega)) ?_
                  refine ez_goto 76 dX6_motion_66 (by decide) ?_
                  refine ez_ireturn (st := []) dX6_motion_76 rfl ?_
                  refine md_Q.in g1 ?_
                  unfold sp_moA
                  rw [sp_dec_t ⟨b_2, b_11, b_19⟩, eG, ← w16]
                  first
                    | rw [if_pos c_59]
                    | rw [if_neg c_59]
            · exact absurd c_22 (by decide)
          · obtain ⟨g1, w17, w18, ww⟩ := hh
            refine ez_if_ne 29 dX6_motion_22 (by decide) (fun c_22 => ?_) (fun c_22 => ?_)
            · exact absurd c_22 (by decide)
            · refine ez_sipush dX6_motion_25 (by decide) (by decide) ?_
              refine ez_ireturn (st := []) dX6_motion_28 rfl ?_
              first
                | exact md_Q.in (md_g.rf v) (sp_dec_f (fun q => b_11 q.2.1)).symm
                | exact md_Q.in (md_g.rf v) (sp_dec_f (fun q => b_2 q.1)).symm
                | exact md_Q.in g1 (sp_dec_f (fun q => b_19 q.2.2)).symm
      · refine ez_if_eq 25 dX6_motion_14 (by decide) (fun c_14 => ?_) (fun c_14 => ?_)
        · refine ez_sipush dX6_motion_25 (by decide) (by decide) ?_
          refine ez_ireturn (st := []) dX6_motion_28 rfl ?_
          first
            | exact md_Q.in (md_g.rf v) (sp_dec_f (fun q => b_11 q.2.1)).symm
            | exact md_Q.in (md_g.rf v) (sp_dec_f (fun q => b_2 q.1)).symm
            | exact md_Q.in g1 (sp_dec_f (fun q => b_19 q.2.2)).symm
        · exact absurd c_14 (by decide)
  · refine ez_if_eq 25 dX6_motion_5 (by decide) (fun c_5 => ?_) (fun c_5 => ?_)
    · refine ez_sipush dX6_motion_25 (by decide) (by decide) ?_
      refine ez_ireturn (st := []) dX6_motion_28 rfl ?_
      first
        | exact md_Q.in (md_g.rf v) (sp_dec_f (fun q => b_11 q.2.1)).symm
        | exact md_Q.in (md_g.rf v) (sp_dec_f (fun q => b_2 q.1)).symm
        | exact md_Q.in g1 (sp_dec_f (fun q => b_19 q.2.2)).symm
    · exact absurd c_5 (by decide)
/-- track i is where it would be, on plate p -/
def sp_stp (S : sp_S) (i p : Int) : Prop := sp_so S i p ≠ -1 → ((((sp_on S p (sp_so S i p) 0 - (S.2.2.2 (sp_f S)).2.1 i) * sp_ys S i - sp_wx S i * (S.2.2.1 p - S.2.2.1 (sp_f S))).natAbs : Int) ≤ S.2.1 * sp_ys S i ∧ (((sp_on S p (sp_so S i p) 1 - (S.2.2.2 (sp_f S)).2.2 i) * sp_ys S i - sp_wy S i * (S.2.2.1 p - S.2.2.1 (sp_f S))).natAbs : Int) ≤ S.2.1 * sp_ys S i)
def sp_sty (S : sp_S) (i : Int) : Prop := ∀ p : Int, 0 ≤ p → p < S.1 → sp_stp S i p
theorem lp_st {i : Int} {h : ez_H} (v : md_V h) (hi : 0 ≤ i ∧ i < sp_tr (md_S h)) (hr : sp_rg (md_S h) i) : ∀ (n : Nat) (p : Nat) (b : Int) (h' : ez_H), ((p : Int) ≤ h 121 0) → (md_g h h') → (h' 121 14 = sp_wx (md_S h) i) → (h' 121 15 = sp_wy (md_S h) i) → (h' 121 16 = sp_ys (md_S h) i) → (b = 0 ∨ b = 1) → (b = 1 ↔ ∀ q : Int, 0 ≤ q → q < p → sp_stp (md_S h) i q) → h 121 0 - p < n → ez_En M_X6_isSteady 10 [ez_R 121, ez_I i, ez_I (sp_f (md_S h)), ez_I b, ez_I (p : Nat), ez_N, ez_N] [] h' (ez_PB (fun h' => md_g h h' ∧ h' 121 14 = sp_wx (md_S h) i ∧ h' 121 15 = sp_wy (md_S h) i ∧ h' 121 16 = sp_ys (md_S h) i) (sp_sty (md_S h) i)) := by
  intro n
  induction n with
  | zero =>
    intro p b h' p1 g w14 w15 w16 b1 b2 hm
    exfalso
    (have := v.1; omega)
  | succ n ih =>
    intro p b h' p1 g w14 w15 w16 b1 b2 hm
    have hn := md_tr0 hi
    have hf := md_f v hn
    have v0 := v.1
    have v1 := v.2.1
    have hi2 := hi
    rw [md_tr v hn] at hi2
    have hmf := (v.2.2.1 _ hf.1 hf.2).1.2.1
    have yf2 := (v.2.2.1 _ hf.1 hf.2).2
    have xy := md_xy v hf hi2
    obtain ⟨rx, ry, rz⟩ := id hr
    refine ez_iload dX6_isSteady_10 rfl ?_
    refine ez_aload_n dX6_isSteady_12 rfl ?_
    refine g6_0 dX6_isSteady_13 fl_X6_48 ?_
    refine ez_ic_ge 167 dX6_isSteady_16 (by decide) (fun c_16 => ?_) (fun c_16 => ?_)
    · refine ez_iload_n dX6_isSteady_167 rfl ?_
      refine ez_zreturn (st := []) dX6_isSteady_168 rfl (by first | exact Or.inl rfl | exact Or.inr rfl | omega | (split <;> omega)) ?_
      have hS : (md_S h).1 = h 121 0 := rfl
      have en := g.n
      rcases b1 with rfl | rfl
      · exact ez_PB.f ⟨g, w14, w15, w16⟩ (fun q => absurd (b2.mpr (fun a a0 a1 => q a a0 (by omega))) (by decide))
      · exact ez_PB.t ⟨g, w14, w15, w16⟩ (fun a a0 a1 => b2.mp rfl a a0 (by omega))
    · have en := g.n
      refine ez_aload_n dX6_isSteady_19 rfl ?_
      refine ez_iload_n dX6_isSteady_20 rfl ?_
      refine ez_iload dX6_isSteady_21 rfl ?_
      refine cl_X6_spotOf dX6_isSteady_23 ml_X6_119 ft_X6_isSteady__X6_spotOf (Nat.le_of_ble_eq_true rfl) (c_X6_spotOf (h := h') g.1 (by omega)) (ez_kI (fun h1 z hz => ?_))
      obtain ⟨g1, ez1, hk1, k121⟩ := hz
      rw [g.2.1.S] at ez1 hk1
      have g2 := g.tr g1
      have k14 := (k121 14).trans w14
      have k15 := (k121 15).trans w15
      have k16 := (k121 16).trans w16
      have en2 := g2.n
      have kr := k121 1
      have kr2 := g.2.1 121 1 (by omega) (by omega)
      refine ez_istore dX6_isSteady_26 (by decide) ?_
      refine ez_iload dX6_isSteady_28 rfl ?_
      refine ez_iconst dX6_isSteady_30 (by decide) ?_
      refine ez_ic_ne 37 dX6_isSteady_31 (by decide) (fun c_31 => ?_) (fun c_31 => ?_)
      · have yp := g2.y p
        have yf := g2.y (sp_f (md_S h))
        have yp2 := (v.2.2.1 p (by omega) (by omega)).2
        have hon := md_onk (p := p) v g2 (by omega) hi hk1 (by rw [← ez1]; exact c_31)
        rw [← ez1] at hon
        have r0 := md_on_rng (what := 0) g2.1 hon.1 hon.2.1 hon.2.2
        have r1 := md_on_rng (what := 1) g2.1 hon.1 hon.2.1 hon.2.2
        have f4 := g2.2.1 124 (8 * sp_f (md_S h) + i) (by omega) (by omega)
        have f5 := g2.2.1 125 (8 * sp_f (md_S h) + i) (by omega) (by omega)
        have m1 := en_mul_bd (a := sp_on (md_S h1) p z 0 - h1 124 (8 * sp_f (md_S h) + i)) (b := h1 121 16) (A := 8000) (B := 999) (by omega) (by omega)
        have m2 := en_mul_bd (a := sp_on (md_S h1) p z 1 - h1 125 (8 * sp_f (md_S h) + i)) (b := h1 121 16) (A := 8000) (B := 999) (by omega) (by omega)
        have m3 := en_mul_bd (a := h1 121 14) (b := h1 122 p - h1 122 (sp_f (md_S h))) (A := 8000) (B := 999) (by omega) (by omega)
        have m4 := en_mul_bd (a := h1 121 15) (b := h1 122 p - h1 122 (sp_f (md_S h))) (A := 8000) (B := 999) (by omega) (by omega)
        have m5 := en_mul_bd (a := h1 121 1) (b := h1 121 16) (A := 50) (B := 999) (by omega) (by omega)
        have hstp : sp_stp (md_S h) i p ↔ ((((sp_on (md_S h) p z 0 - h 124 (8 * sp_f (md_S h) + i)) * sp_ys (md_S h) i - sp_wx (md_S h) i * (h 122 p - h 122 (sp_f (md_S h)))).natAbs : Int) ≤ h 121 1 * sp_ys (md_S h) i ∧ (((sp_on (md_S h) p z 1 - h 125 (8 * sp_f (md_S h) + i)) * sp_ys (md_S h) i - sp_wy (md_S h) i * (h 122 p - h 122 (sp_f (md_S h)))).natAbs : Int) ≤ h 121 1 * sp_ys (md_S h) i) := by
          unfold sp_stp
          rw [xy.1.1, xy.1.2, md_S_yr (p := p) (by omega) (by omega), md_S_yr hf.1 hf.2, ← ez1]
          exact ⟨fun q => q c_31, fun q _ => q⟩
        refine ez_aload_n dX6_isSteady_37 rfl ?_
        refine g6_2 dX6_isSteady_38 fl_X6_13 ?_
        refine ez_iload dX6_isSteady_41 rfl ?_
        refine al122 dX6_isSteady_43 (by omega) ?_
        refine ez_aload_n dX6_isSteady_44 rfl ?_
        refine g6_2 dX6_isSteady_45 fl_X6_13 ?_
        refine ez_iload_n dX6_isSteady_48 rfl ?_
        refine al122 dX6_isSteady_49 (by omega) ?_
        refine ez_isub dX6_isSteady_50 (by omega) ?_
        refine ez_istore dX6_isSteady_51 (by decide) ?_
        refine ez_iload_n dX6_isSteady_53 rfl ?_
        refine ez_if_eq 159 dX6_isSteady_54 (by decide) (fun c_54 => ?_) (fun c_54 => ?_)
        · have hb0 : ¬ ∀ q : Int, 0 ≤ q → q < p → sp_stp (md_S h) i q := fun q => by have := b2.mpr q; omega
          have hno : ¬ ∀ q : Int, 0 ≤ q → q < ((p + 1 : Nat) : Int) → sp_stp (md_S h) i q := fun q => hb0 (fun a a0 a1 => q a a0 (by omega))
          have hb' : ((0 : Int) = 0 ∨ (0 : Int) = 1) ∧ ((0 : Int) = 1 ↔ ∀ q : Int, 0 ≤ q → q < ((p + 1 : Nat) : Int) → sp_stp (md_S h) i q) := ⟨Or.inl rfl, fun q => absurd q (by decide), fun q => absurd q hno⟩
          refine ez_iconst dX6_isSteady_159 (by decide) ?_
          refine ez_istore_n dX6_isSteady_160 (by decide) ?_
          refine ez_iinc dX6_isSteady_161 rfl (by decide) (by decide) (by omega) ?_
          refine ez_goto 10 dX6_isSteady_164 (by decide) ?_
          refine ez_lessS (L' := [ez_R 121, ez_I i, ez_I (sp_f (md_S h)), ez_I _, ez_I ((p + 1 : Nat) : Int), ez_N, ez_N]) ⟨Or.inr rfl, Or.inr rfl, Or.inr rfl, Or.inr rfl, Or.inr rfl, Or.inl rfl, Or.inl rfl, trivial⟩ ?_
          exact ih (p + 1) _ h1 (by omega) g2 k14 k15 k16 hb'.1 hb'.2 (by omega)
        · have hb1 := b2.mp (by omega)
          refine ez_aload_n dX6_isSteady_57 rfl ?_
          refine ez_iload dX6_isSteady_58 rfl ?_
          refine ez_iload dX6_isSteady_60 rfl ?_
          refine ez_iconst dX6_isSteady_62 (by decide) ?_
          refine cl_X6_onFrame dX6_isSteady_63 ml_X6_122 ft_X6_isSteady__X6_onFrame (Nat.le_of_ble_eq_true rfl) (c_X6_onFrame (what := 0) g2.1 hon.1 hon.2.1 (by omega) hon.2.2) (ez_kF ?_)
          refine ez_aload_n dX6_isSteady_66 rfl ?_
          refine g6_4 dX6_isSteady_67 fl_X6_20 ?_
          refine ez_bipush dX6_isSteady_70 (by decide) (by decide) ?_
          refine ez_iload_n dX6_isSteady_72 rfl ?_
          refine ez_imul dX6_isSteady_73 (by omega) ?_
          refine ez_iload_n dX6_isSteady_74 rfl ?_
          refine ez_iadd dX6_isSteady_75 (by omega) ?_
          refine al124 dX6_isSteady_76 (by omega) ?_
          refine ez_isub dX6_isSteady_77 (by omega) ?_
          refine ez_aload_n dX6_isSteady_78 rfl ?_
          refine g6_16 dX6_isSteady_79 fl_X6_140 ?_
          refine ez_imul dX6_isSteady_82 (by omega) ?_
          refine ez_aload_n dX6_isSteady_83 rfl ?_
          refine g6_14 dX6_isSteady_84 fl_X6_134 ?_
          refine ez_iload dX6_isSteady_87 rfl ?_
          refine ez_imul dX6_isSteady_89 (by omega) ?_
          refine ez_isub dX6_isSteady_90 (by omega) ?_
          refine cl_X6_abs dX6_isSteady_91 ml_X6_62 ft_X6_isSteady__X6_abs (Nat.le_of_ble_eq_true rfl) (c_X6_abs (by omega)) (ez_kF ?_)
          refine ez_aload_n dX6_isSteady_94 rfl ?_
          refine g6_1 dX6_isSteady_95 fl_X6_7 ?_
          refine ez_aload_n dX6_isSteady_98 rfl ?_
          refine g6_16 dX6_isSteady_99 fl_X6_140 ?_
          refine ez_imul dX6_isSteady_102 (by omega) ?_
          refine ez_ic_gt 159 dX6_isSteady_103 (by decide) (fun c_103 => ?_) (fun c_103 => ?_)
          · rw [g2.2.1.S, f4, k16, k14, yp, yf, kr, kr2] at c_103
            have hno : ¬ ∀ q : Int, 0 ≤ q → q < ((p + 1 : Nat) : Int) → sp_stp (md_S h) i q := fun q => by have q1 := (hstp.mp (q p (by omega) (by omega))).1; exact absurd c_103 (by omega)
            have hb' : ((0 : Int) = 0 ∨ (0 : Int) = 1) ∧ ((0 : Int) = 1 ↔ ∀ q : Int, 0 ≤ q → q < ((p + 1 : Nat) : Int) → sp_stp (md_S h) i q) := ⟨Or.inl rfl, fun q => absurd q (by decide), fun q => absurd q hno⟩
            refine ez_iconst dX6_isSteady_159 (by decide) ?_
            refine ez_istore_n dX6_isSteady_160 (by decide) ?_
            refine ez_iinc dX6_isSteady_161 rfl (by decide) (by decide) (by omega) ?_
            refine ez_goto 10 dX6_isSteady_164 (by decide) ?_
            refine ez_lessS (L' := [ez_R 121, ez_I i, ez_I (sp_f (md_S h)), ez_I _, ez_I ((p + 1 : Nat) : Int), ez_N, ez_N]) ⟨Or.inr rfl, Or.inr rfl, Or.inr rfl, Or.inr rfl, Or.inr rfl, Or.inl rfl, Or.inl rfl, trivial⟩ ?_
            exact ih (p + 1) _ h1 (by omega) g2 k14 k15 k16 hb'.1 hb'.2 (by omega)
          · rw [g2.2.1.S, f4, k16, k14, yp, yf, kr, kr2] at c_103
            refine ez_aload_n dX6_isSteady_106 rfl ?_
            refine ez_iload dX6_isSteady_107 rfl ?_
            refine ez_iload dX6_isSteady_109 rfl ?_
            refine ez_iconst dX6_isSteady_111 (by decide) ?_
            refine cl_X6_onFrame dX6_isSteady_112 ml_X6_122 ft_X6_isSteady__X6_onFrame (Nat.le_of_ble_eq_true rfl) (c_X6_onFrame (what := 1) g2.1 hon.1 hon.2.1 (by omega) hon.2.2) (ez_kF ?_)
            refine ez_aload_n dX6_isSteady_115 rfl ?_
            refine g6_5 dX6_isSteady_116 fl_X6_23 ?_
            refine ez_bipush dX6_isSteady_119 (by decide) (by decide) ?_
            refine ez_iload_n dX6_isSteady_121 rfl ?_
            refine ez_imul dX6_isSteady_122 (by omega) ?_
            refine ez_iload_n dX6_isSteady_123 rfl ?_
            refine ez_iadd dX6_isSteady_124 (by omega) ?_
            refine al125 dX6_isSteady_125 (by omega) ?_
            refine ez_isub dX6_isSteady_126 (by omega) ?_
            refine ez_aload_n dX6_isSteady_127 rfl ?_
            refine g6_16 dX6_isSteady_128 fl_X6_140 ?_
            refine ez_imul dX6_isSteady_131 (by omega) ?_
            refine ez_aload_n dX6_isSteady_132 rfl ?_
            refine g6_15 dX6_isSteady_133 fl_X6_137 ?_
            refine ez_iload dX6_isSteady_136 rfl ?_
            refine ez_imul dX6_isSteady_138 (by omega) ?_
            refine ez_isub dX6_isSteady_139 (by omega) ?_
            refine cl_X6_abs dX6_isSteady_140 ml_X6_62 ft_X6_isSteady__X6_abs (Nat.le_of_ble_eq_true rfl) (c_X6_abs (by omega)) (ez_kF ?_)
            refine ez_aload_n dX6_isSteady_143 rfl ?_
            refine g6_1 dX6_isSteady_144 fl_X6_7 ?_
            refine ez_aload_n dX6_isSteady_147 rfl ?_
            refine g6_16 dX6_isSteady_148 fl_X6_140 ?_
            refine ez_imul dX6_isSteady_151 (by omega) ?_
            refine ez_ic_gt 159 dX6_isSteady_152 (by decide) (fun c_152 => ?_) (fun c_152 => ?_)
            · rw [g2.2.1.S, f5, k16, k15, yp, yf, kr, kr2] at c_152
              have hno : ¬ ∀ q : Int, 0 ≤ q → q < ((p + 1 : Nat) : Int) → sp_stp (md_S h) i q := fun q => by have q1 := (hstp.mp (q p (by omega) (by omega))).2; exact absurd c_152 (by omega)
              have hb' : ((0 : Int) = 0 ∨ (0 : Int) = 1) ∧ ((0 : Int) = 1 ↔ ∀ q : Int, 0 ≤ q → q < ((p + 1 : Nat) : Int) → sp_stp (md_S h) i q) := ⟨Or.inl rfl, fun q => absurd q (by decide), fun q => absurd q hno⟩
              refine ez_iconst dX6_isSteady_159 (by decide) ?_
              refine ez_istore_n dX6_isSteady_160 (by decide) ?_
              refine ez_iinc dX6_isSteady_161 rfl (by decide) (by decide) (by omega) ?_
              refine ez_goto 10 dX6_isSteady_164 (by decide) ?_
              refine ez_lessS (L' := [ez_R 121, ez_I i, ez_I (sp_f (md_S h)), ez_I _, ez_I ((p + 1 : Nat) : Int), ez_N, ez_N]) ⟨Or.inr rfl, Or.inr rfl, Or.inr rfl, Or.inr rfl, Or.inr rfl, Or.inl rfl, Or.inl rfl, trivial⟩ ?_
              exact ih (p + 1) _ h1 (by omega) g2 k14 k15 k16 hb'.1 hb'.2 (by omega)
            · rw [g2.2.1.S, f5, k16, k15, yp, yf, kr, kr2] at c_152
              have hyes : ∀ q : Int, 0 ≤ q → q < ((p + 1 : Nat) : Int) → sp_stp (md_S h) i q := fun q q0 q1 => by
                by_cases e : q = p
                · rw [e]
                  exact hstp.mpr ⟨by omega, by omega⟩
                · exact hb1 q q0 (by omega)
              have hb' : ((1 : Int) = 0 ∨ (1 : Int) = 1) ∧ ((1 : Int) = 1 ↔ ∀ q : Int, 0 ≤ q → q < ((p + 1 : Nat) : Int) → sp_stp (md_S h) i q) := ⟨Or.inr rfl, fun _ => hyes, fun _ => rfl⟩
              refine ez_iconst dX6_isSteady_155 (by decide) ?_
              refine ez_goto 160 dX6_isSteady_156 (by decide) ?_
              refine ez_istore_n dX6_isSteady_160 (by decide) ?_
              refine ez_iinc dX6_isSteady_161 rfl (by decide) (by decide) (by omega) ?_
              refine ez_goto 10 dX6_isSteady_164 (by decide) ?_
              refine ez_lessS (L' := [ez_R 121, ez_I i, ez_I (sp_f (md_S h)), ez_I _, ez_I ((p + 1 : Nat) : Int), ez_N, ez_N]) ⟨Or.inr rfl, Or.inr rfl, Or.inr rfl, Or.inr rfl, Or.inr rfl, Or.inl rfl, Or.inl rfl, trivial⟩ ?_
              exact ih (p + 1) _ h1 (by omega) g2 k14 k15 k16 hb'.1 hb'.2 (by omega)
      · have hb' : (b = 0 ∨ b = 1) ∧ (b = 1 ↔ ∀ q : Int, 0 ≤ q → q < ((p + 1 : Nat) : Int) → sp_stp (md_S h) i q) := ⟨b1, fun hb q q0 q1 => by
            by_cases e : q = p
            · rw [e]
              exact fun z0 => absurd (ez1.symm.trans c_31) z0
            · exact b2.mp hb q q0 (by omega), fun hq => b2.mpr (fun q q0 q1 => hq q q0 (by omega))⟩
        refine ez_goto 161 dX6_isSteady_34 (by decide) ?_
        refine ez_iinc dX6_isSteady_161 rfl (by decide) (by decide) (by omega) ?_
        refine ez_goto 10 dX6_isSteady_164 (by decide) ?_
        refine ez_lessS (L' := [ez_R 121, ez_I i, ez_I (sp_f (md_S h)), ez_I _, ez_I ((p + 1 : Nat) : Int), ez_N, ez_N]) ⟨Or.inr rfl, Or.inr rfl, Or.inr rfl, Or.inr rfl, Or.inr rfl, Or.inl rfl, Or.inl rfl, trivial⟩ ?_
        exact ih (p + 1) _ h1 (by omega) g2 k14 k15 k16 hb'.1 hb'.2 (by omega)
theorem c_X6_isSteady {i : Int} {h : ez_H} (v : md_V h) (hi : 0 ≤ i ∧ i < sp_tr (md_S h)) (hr : sp_rg (md_S h) i) (w14 : h 121 14 = sp_wx (md_S h) i) (w15 : h 121 15 = sp_wy (md_S h) i) (w16 : h 121 16 = sp_ys (md_S h) i) : ez_Ct M_X6_isSteady [ez_R 121, ez_I i] h ((ez_PB (fun h' => md_g h h' ∧ h' 121 14 = sp_wx (md_S h) i ∧ h' 121 15 = sp_wy (md_S h) i ∧ h' 121 16 = sp_ys (md_S h) i) (sp_sty (md_S h) i))) := by
  refine ez_of (by decide) (Nat.le_of_ble_eq_true rfl) (L0 := [ez_R 121, ez_I i, ez_N, ez_N, ez_N, ez_N, ez_N]) rfl ?_
  refine ez_aload_n dX6_isSteady_0 rfl ?_
  refine cl_X6_frame dX6_isSteady_1 ml_X6_109 ft_X6_isSteady__X6_frame (Nat.le_of_ble_eq_true rfl) (c_X6_frame v.1) (ez_kF ?_)
  refine ez_istore_n dX6_isSteady_4 (by decide) ?_
  refine ez_iconst dX6_isSteady_5 (by decide) ?_
  refine ez_istore_n dX6_isSteady_6 (by decide) ?_
  refine ez_iconst dX6_isSteady_7 (by decide) ?_
  refine ez_istore dX6_isSteady_8 (by decide) ?_
  exact lp_st v hi hr 6 0 1 h (by have := v.1; omega) (md_g.rf v) w14 w15 w16 (Or.inr rfl) ⟨fun _ q q0 q1 => absurd q1 (by omega), fun _ => rfl⟩ (by have := v.1; omega)
def sp_tgp (S : sp_S) (i k : Int) : Prop := k ≠ i ∧ sp_la S k ≠ sp_f S ∧ sp_wx S i * sp_ys S k = sp_wx S k * sp_ys S i ∧ sp_wy S i * sp_ys S k = sp_wy S k * sp_ys S i
noncomputable def sp_tgf (S : sp_S) (i : Int) : Nat → Int
  | 0 => -1
  | k + 1 => if sp_tgf S i k ≠ -1 then sp_tgf S i k else sp_dec (sp_tgp S i k) k (-1)
noncomputable def sp_tg (S : sp_S) (i : Int) : Int := if sp_wx S i = 0 ∧ sp_wy S i = 0 then -1 else sp_tgf S i (sp_tr S).toNat
theorem sp_tgf_stay {S : sp_S} {i : Int} {k : Nat} (h : sp_tgf S i k ≠ -1) : ∀ d : Nat, sp_tgf S i (k + d) = sp_tgf S i k
  | 0 => rfl
  | d + 1 => by
    have ih := sp_tgf_stay h d
    show (if sp_tgf S i (k + d) ≠ -1 then sp_tgf S i (k + d) else _) = _
    rw [if_pos (by rw [ih]; exact h), ih]
theorem lp_tg {i a b n0 : Int} {h : ez_H} (v : md_V h) (hi : 0 ≤ i ∧ i < sp_tr (md_S h)) (hr : sp_rg (md_S h) i) (hnz : ¬ (sp_wx (md_S h) i = 0 ∧ sp_wy (md_S h) i = 0)) (ea : a = sp_wx (md_S h) i) (eb : b = sp_wy (md_S h) i) (en0 : n0 = sp_ys (md_S h) i) : ∀ (n : Nat) (k : Nat) (f : Int) (h' : ez_H), ((k : Int) ≤ sp_tr (md_S h)) → (md_g h h') → (f = sp_tgf (md_S h) i k) → sp_tr (md_S h) - k < n → ez_En M_X6_together 38 [ez_R 121, ez_I i, ez_I a, ez_I b, ez_I n0, ez_I f, ez_I (k : Nat)] [] h' (md_Q h (sp_tg (md_S h) i)) := by
  intro n
  induction n with
  | zero =>
    intro k f h' k1 g ef hm
    exfalso
    omega
  | succ n ih =>
    intro k f h' k1 g ef hm
    have ht := md_trb v
    obtain ⟨rx, ry, rz⟩ := id hr
    refine ez_iload dX6_together_38 rfl ?_
    refine ez_aload_n dX6_together_40 rfl ?_
    refine cl_X6_tracks dX6_together_41 ml_X6_113 ft_X6_together__X6_tracks (Nat.le_of_ble_eq_true rfl) (c_X6_tracks g.1) (ez_kF ?_)
    rw [g.2.1.S]
    refine ez_ic_ge 110 dX6_together_44 (by decide) (fun c_44 => ?_) (fun c_44 => ?_)
    · refine ez_iload dX6_together_110 rfl ?_
      refine ez_ireturn (st := []) dX6_together_112 rfl ?_
      refine md_Q.in g ?_
      unfold sp_tg
      rw [if_neg hnz, ef]
      have ht := md_trb v
      by_cases q : (k : Int) = sp_tr (md_S h)
      · rw [show k = (sp_tr (md_S h)).toNat by omega]
      · have hst := sp_tgf_stay (show sp_tgf (md_S h) i k ≠ -1 from by rw [← ef]; omega) ((sp_tr (md_S h)).toNat - k)
        rw [show k + ((sp_tr (md_S h)).toNat - k) = (sp_tr (md_S h)).toNat by omega] at hst
        exact hst.symm
    · refine ez_iload dX6_together_47 rfl ?_
      refine ez_iconst dX6_together_49 (by decide) ?_
      refine ez_ic_ne 110 dX6_together_50 (by decide) (fun c_50 => ?_) (fun c_50 => ?_)
      · refine ez_iload dX6_together_110 rfl ?_
        refine ez_ireturn (st := []) dX6_together_112 rfl ?_
        refine md_Q.in g ?_
        unfold sp_tg
        rw [if_neg hnz, ef]
        have ht := md_trb v
        by_cases q : (k : Int) = sp_tr (md_S h)
        · rw [show k = (sp_tr (md_S h)).toNat by omega]
        · have hst := sp_tgf_stay (show sp_tgf (md_S h) i k ≠ -1 from by rw [← ef]; omega) ((sp_tr (md_S h)).toNat - k)
          rw [show k + ((sp_tr (md_S h)).toNat - k) = (sp_tr (md_S h)).toNat by omega] at hst
          exact hst.symm
      · refine ez_iload dX6_together_53 rfl ?_
        refine ez_iload_n dX6_together_55 rfl ?_
        refine ez_ic_eq 104 dX6_together_56 (by decide) (fun c_56 => ?_) (fun c_56 => ?_)
        · have hs1 : sp_tgf (md_S h) i (k + 1) = f := by
            unfold sp_tgf
            rw [← ef, if_neg (by omega), sp_dec_f (fun q => q.1 c_56)]
            omega
          have gx := g
          refine ez_iinc dX6_together_104 rfl (by decide) (by decide) (by omega) ?_
          refine ez_goto 38 dX6_together_107 (by decide) ?_
          refine ez_lessS (L' := [ez_R 121, ez_I i, ez_I a, ez_I b, ez_I n0, ez_I (sp_tgf (md_S h) i (k + 1)), ez_I ((k + 1 : Nat) : Int)]) ⟨Or.inr rfl, Or.inr rfl, Or.inr rfl, Or.inr rfl, Or.inr rfl, Or.inr (congrArg ez_I hs1), Or.inr rfl, trivial⟩ ?_
          exact ih (k + 1) _ _ (by omega) gx rfl (by omega)
        · refine ez_aload_n dX6_together_59 rfl ?_
          refine ez_iload dX6_together_60 rfl ?_
          refine cl_X6_moves dX6_together_62 ml_X6_143 ft_X6_together__X6_moves (Nat.le_of_ble_eq_true rfl) (c_X6_moves (h := h') (i := k) g.1 (by rw [g.2.1.S]; omega)) (ez_kPB (fun h1 hh b_62 => ?_) (fun h1 hh b_62 => ?_))
          · obtain ⟨g1, w17, w18, ww⟩ := hh
            rw [g.2.1.S] at ww
            have g2 := g.tr g1
            rw [g.2.1.S] at b_62
            obtain ⟨w14, w15, w16, r1, r2, r3⟩ := ww b_62
            have m1 := en_mul_bd (a := a) (b := h1 121 16) (A := 8000) (B := 999) (by omega) (by omega)
            have m2 := en_mul_bd (a := h1 121 14) (b := n0) (A := 8000) (B := 999) (by omega) (by omega)
            have m3 := en_mul_bd (a := b) (b := h1 121 16) (A := 8000) (B := 999) (by omega) (by omega)
            have m4 := en_mul_bd (a := h1 121 15) (b := n0) (A := 8000) (B := 999) (by omega) (by omega)
            refine ez_if_eq 104 dX6_together_65 (by decide) (fun c_65 => ?_) (fun c_65 => ?_)
            · exact absurd c_65 (by decide)
            · refine ez_iload_n dX6_together_68 rfl ?_
              refine ez_aload_n dX6_together_69 rfl ?_
              refine g6_16 dX6_together_70 fl_X6_140 ?_
              refine ez_imul dX6_together_73 (by omega) ?_
              refine ez_aload_n dX6_together_74 rfl ?_
              refine g6_14 dX6_together_75 fl_X6_134 ?_
              refine ez_iload dX6_together_78 rfl ?_
              refine ez_imul dX6_together_80 (by omega) ?_
              refine ez_ic_ne 104 dX6_together_81 (by decide) (fun c_81 => ?_) (fun c_81 => ?_)
              · rw [w14, w16, ea, en0] at c_81
                have hs1 : sp_tgf (md_S h) i (k + 1) = f := by
                  unfold sp_tgf
                  rw [← ef, if_neg (by omega), sp_dec_f (fun q => c_81 q.2.2.1)]
                  omega
                have gx := g2
                refine ez_iinc dX6_together_104 rfl (by decide) (by decide) (by omega) ?_
                refine ez_goto 38 dX6_together_107 (by decide) ?_
                refine ez_lessS (L' := [ez_R 121, ez_I i, ez_I a, ez_I b, ez_I n0, ez_I (sp_tgf (md_S h) i (k + 1)), ez_I ((k + 1 : Nat) : Int)]) ⟨Or.inr rfl, Or.inr rfl, Or.inr rfl, Or.inr rfl, Or.inr rfl, Or.inr (congrArg ez_I hs1), Or.inr rfl, trivial⟩ ?_
                exact ih (k + 1) _ _ (by omega) gx rfl (by omega)
              · rw [w14, w16, ea, en0] at c_81
                refine ez_iload_n dX6_together_84 rfl ?_
                refine ez_aload_n dX6_together_85 rfl ?_
                refine g6_16 dX6_together_86 fl_X6_140 ?_
                refine ez_imul dX6_together_89 (by omega) ?_
                refine ez_aload_n dX6_together_90 rfl ?_
                refine g6_15 dX6_together_91 fl_X6_137 ?_
                refine ez_iload dX6_together_94 rfl ?_
                refine ez_imul dX6_together_96 (by omega) ?_
                refine ez_ic_ne 104 dX6_together_97 (by decide) (fun c_97 => ?_) (fun c_97 => ?_)
                · rw [w15, w16, eb, en0] at c_97
                  have hs1 : sp_tgf (md_S h) i (k + 1) = f := by
                    unfold sp_tgf
                    rw [← ef, if_neg (by omega), sp_dec_f (fun q => c_97 q.2.2.2)]
                    omega
                  have gx := g2
                  refine ez_iinc dX6_together_104 rfl (by decide) (by decide) (by omega) ?_
                  refine ez_goto 38 dX6_together_107 (by decide) ?_
                  refine ez_lessS (L' := [ez_R 121, ez_I i, ez_I a, ez_I b, ez_I n0, ez_I (sp_tgf (md_S h) i (k + 1)), ez_I ((k + 1 : Nat) : Int)]) ⟨Or.inr rfl, Or.inr rfl, Or.inr rfl, Or.inr rfl, Or.inr rfl, Or.inr (congrArg ez_I hs1), Or.inr rfl, trivial⟩ ?_
                  exact ih (k + 1) _ _ (by omega) gx rfl (by omega)
                · rw [w15, w16, eb, en0] at c_97
                  have hs1 : sp_tgf (md_S h) i (k + 1) = k := by
                    unfold sp_tgf
                    rw [← ef, if_neg (by omega), sp_dec_t ⟨c_56, b_62, c_81, c_97⟩]
                  have gx := g2
                  refine ez_iload dX6_together_100 rfl ?_
                  refine ez_istore dX6_together_102 (by decide) ?_
                  refine ez_iinc dX6_together_104 rfl (by decide) (by decide) (by omega) ?_
                  refine ez_goto 38 dX6_together_107 (by decide) ?_
                  refine ez_lessS (L' := [ez_R 121, ez_I i, ez_I a, ez_I b, ez_I n0, ez_I (sp_tgf (md_S h) i (k + 1)), ez_I ((k + 1 : Nat) : Int)]) ⟨Or.inr rfl, Or.inr rfl, Or.inr rfl, Or.inr rfl, Or.inr rfl, Or.inr (congrArg ez_I hs1), Or.inr rfl, trivial⟩ ?_
                  exact ih (k + 1) _ _ (by omega) gx rfl (by omega)
          · obtain ⟨g1, w17, w18, ww⟩ := hh
            rw [g.2.1.S] at ww
            have g2 := g.tr g1
            rw [g.2.1.S] at b_62
            have hs1 : sp_tgf (md_S h) i (k + 1) = f := by
              unfold sp_tgf
              rw [← ef, if_neg (by omega), sp_dec_f (fun q => b_62 q.2.1)]
              omega
            have gx := g2
            refine ez_if_eq 104 dX6_together_65 (by decide) (fun c_65 => ?_) (fun c_65 => ?_)
            · refine ez_iinc dX6_together_104 rfl (by decide) (by decide) (by omega) ?_
              refine ez_goto 38 dX6_together_107 (by decide) ?_
              refine ez_lessS (L' := [ez_R 121, ez_I i, ez_I a, ez_I b, ez_I n0, ez_I (sp_tgf (md_S h) i (k + 1)), ez_I ((k + 1 : Nat) : Int)]) ⟨Or.inr rfl, Or.inr rfl, Or.inr rfl, Or.inr rfl, Or.inr rfl, Or.inr (congrArg ez_I hs1), Or.inr rfl, trivial⟩ ?_
              exact ih (k + 1) _ _ (by omega) gx rfl (by omega)
            · exact absurd c_65 (by decide)
theorem c_X6_together {i : Int} {h : ez_H} (v : md_V h) (hi : 0 ≤ i ∧ i < sp_tr (md_S h)) (hr : sp_rg (md_S h) i) (w14 : h 121 14 = sp_wx (md_S h) i) (w15 : h 121 15 = sp_wy (md_S h) i) (w16 : h 121 16 = sp_ys (md_S h) i) : ez_Ct M_X6_together [ez_R 121, ez_I i] h (md_Q h (sp_tg (md_S h) i)) := by
  refine ez_of (by decide) (Nat.le_of_ble_eq_true rfl) (L0 := [ez_R 121, ez_I i, ez_N, ez_N, ez_N, ez_N, ez_N]) rfl ?_
  refine ez_aload_n dX6_together_0 rfl ?_
  refine g6_14 dX6_together_1 fl_X6_134 ?_
  refine ez_if_ne 16 dX6_together_4 (by decide) (fun c_4 => ?_) (fun c_4 => ?_)
  · refine ez_aload_n dX6_together_16 rfl ?_
    refine g6_14 dX6_together_17 fl_X6_134 ?_
    refine ez_istore_n dX6_together_20 (by decide) ?_
    refine ez_aload_n dX6_together_21 rfl ?_
    refine g6_15 dX6_together_22 fl_X6_137 ?_
    refine ez_istore_n dX6_together_25 (by decide) ?_
    refine ez_aload_n dX6_together_26 rfl ?_
    refine g6_16 dX6_together_27 fl_X6_140 ?_
    refine ez_istore dX6_together_30 (by decide) ?_
    refine ez_iconst dX6_together_32 (by decide) ?_
    refine ez_istore dX6_together_33 (by decide) ?_
    refine ez_iconst dX6_together_35 (by decide) ?_
    refine ez_istore dX6_together_36 (by decide) ?_
    exact lp_tg v hi hr (by omega) w14 w15 w16 ((sp_tr (md_S h)).toNat + 1) 0 _ h (by have := md_trb v; omega) (md_g.rf v) rfl (by have := md_trb v; omega)
  · refine ez_aload_n dX6_together_7 rfl ?_
    refine g6_15 dX6_together_8 fl_X6_137 ?_
    refine ez_if_ne 16 dX6_together_11 (by decide) (fun c_11 => ?_) (fun c_11 => ?_)
    · refine ez_aload_n dX6_together_16 rfl ?_
      refine g6_14 dX6_together_17 fl_X6_134 ?_
      refine ez_istore_n dX6_together_20 (by decide) ?_
      refine ez_aload_n dX6_together_21 rfl ?_
      refine g6_15 dX6_together_22 fl_X6_137 ?_
      refine ez_istore_n dX6_together_25 (by decide) ?_
      refine ez_aload_n dX6_together_26 rfl ?_
      refine g6_16 dX6_together_27 fl_X6_140 ?_
      refine ez_istore dX6_together_30 (by decide) ?_
      refine ez_iconst dX6_together_32 (by decide) ?_
      refine ez_istore dX6_together_33 (by decide) ?_
      refine ez_iconst dX6_together_35 (by decide) ?_
      refine ez_istore dX6_together_36 (by decide) ?_
      exact lp_tg v hi hr (by omega) w14 w15 w16 ((sp_tr (md_S h)).toNat + 1) 0 _ h (by have := md_trb v; omega) (md_g.rf v) rfl (by have := md_trb v; omega)
    · refine ez_iconst dX6_together_14 (by decide) ?_
      refine ez_ireturn (st := []) dX6_together_15 rfl ?_
      exact md_Q.in (md_g.rf v) (by unfold sp_tg; rw [if_pos (by omega)])
