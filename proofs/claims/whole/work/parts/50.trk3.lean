/-! the class's Tracks: questions -/
theorem c_X4_hasMotion {i : Int} {h : ez_H} (hi : 0 ≤ i ∧ i < 8) : ez_Ct M_X4_hasMotion [ez_R 110, ez_I i] h (ez_B h (0 < h 114 i)) := by
  refine ez_of (by decide) (Nat.le_of_ble_eq_true rfl) (L0 := [ez_R 110, ez_I i]) rfl ?_
  refine ez_aload_n dX4_hasMotion_0 rfl ?_
  refine g4_6 dX4_hasMotion_1 fl_X4_21 ?_
  refine ez_iload_n dX4_hasMotion_4 rfl ?_
  refine al114 dX4_hasMotion_5 (by omega) ?_
  refine ez_if_le 13 dX4_hasMotion_6 (by decide) (fun c_6 => ?_) (fun c_6 => ?_)
  · refine ez_iconst dX4_hasMotion_13 (by decide) ?_
    refine ez_zreturn (st := []) dX4_hasMotion_14 rfl (by first | exact Or.inl rfl | exact Or.inr rfl | omega | (split <;> omega)) ?_
    first | exact ez_B.t (by omega) | exact ez_B.f (by omega)
  · refine ez_iconst dX4_hasMotion_9 (by decide) ?_
    refine ez_goto 14 dX4_hasMotion_10 (by decide) ?_
    refine ez_zreturn (st := []) dX4_hasMotion_14 rfl (by first | exact Or.inl rfl | exact Or.inr rfl | omega | (split <;> omega)) ?_
    first | exact ez_B.t (by omega) | exact ez_B.f (by omega)
theorem c_X4_isStill {i : Int} {h : ez_H} (hi : 0 ≤ i ∧ i < 8) : ez_Ct M_X4_isStill [ez_R 110, ez_I i] h (ez_B h (0 < h 114 i ∧ h 115 i = 0 ∧ h 116 i = 0)) := by
  refine ez_of (by decide) (Nat.le_of_ble_eq_true rfl) (L0 := [ez_R 110, ez_I i]) rfl ?_
  refine ez_aload_n dX4_isStill_0 rfl ?_
  refine ez_iload_n dX4_isStill_1 rfl ?_
  refine cl_X4_hasMotion dX4_isStill_2 ml_X4_86 ft_X4_isStill__X4_hasMotion (Nat.le_of_ble_eq_true rfl) (c_X4_hasMotion hi) (ez_kB (fun b_2 => ?_) (fun b_2 => ?_))
  · refine ez_if_eq 30 dX4_isStill_5 (by decide) (fun c_5 => ?_) (fun c_5 => ?_)
    · exact absurd c_5 (by decide)
    · refine ez_aload_n dX4_isStill_8 rfl ?_
      refine g4_7 dX4_isStill_9 fl_X4_24 ?_
      refine ez_iload_n dX4_isStill_12 rfl ?_
      refine al115 dX4_isStill_13 (by omega) ?_
      refine ez_if_ne 30 dX4_isStill_14 (by decide) (fun c_14 => ?_) (fun c_14 => ?_)
      · refine ez_iconst dX4_isStill_30 (by decide) ?_
        refine ez_zreturn (st := []) dX4_isStill_31 rfl (by first | exact Or.inl rfl | exact Or.inr rfl | omega | (split <;> omega)) ?_
        first | exact ez_B.t (by omega) | exact ez_B.f (by omega)
      · refine ez_aload_n dX4_isStill_17 rfl ?_
        refine g4_8 dX4_isStill_18 fl_X4_27 ?_
        refine ez_iload_n dX4_isStill_21 rfl ?_
        refine al116 dX4_isStill_22 (by omega) ?_
        refine ez_if_ne 30 dX4_isStill_23 (by decide) (fun c_23 => ?_) (fun c_23 => ?_)
        · refine ez_iconst dX4_isStill_30 (by decide) ?_
          refine ez_zreturn (st := []) dX4_isStill_31 rfl (by first | exact Or.inl rfl | exact Or.inr rfl | omega | (split <;> omega)) ?_
          first | exact ez_B.t (by omega) | exact ez_B.f (by omega)
        · refine ez_iconst dX4_isStill_26 (by decide) ?_
          refine ez_goto 31 dX4_isStill_27 (by decide) ?_
          refine ez_zreturn (st := []) dX4_isStill_31 rfl (by first | exact Or.inl rfl | exact Or.inr rfl | omega | (split <;> omega)) ?_
          first | exact ez_B.t (by omega) | exact ez_B.f (by omega)
  · refine ez_if_eq 30 dX4_isStill_5 (by decide) (fun c_5 => ?_) (fun c_5 => ?_)
    · refine ez_iconst dX4_isStill_30 (by decide) ?_
      refine ez_zreturn (st := []) dX4_isStill_31 rfl (by first | exact Or.inl rfl | exact Or.inr rfl | omega | (split <;> omega)) ?_
      first | exact ez_B.t (by omega) | exact ez_B.f (by omega)
    · exact absurd c_5 (by decide)
def st_n (h : ez_H) : Nat → Int
  | 0 => 0
  | i + 1 => st_n h i + (if 0 < h 114 i ∧ h 115 i = 0 ∧ h 116 i = 0 then 1 else 0)
theorem lp_so4 {h : ez_H} (hc : 0 ≤ h 110 0 ∧ h 110 0 ≤ 8) : ∀ (n : Nat) (c : Nat) (f : Int), ((c : Int) ≤ h 110 0) → (f = st_n h c) → (0 ≤ f ∧ f ≤ c) → h 110 0 - c < n → ez_En M_X4_stillOnes 4 [ez_R 110, ez_I f, ez_I (c : Nat)] [] h (ez_F h (st_n h (h 110 0).toNat)) := by
  intro n
  induction n with
  | zero =>
    intro c f c0 ef fb hm
    exfalso
    omega
  | succ n ih =>
    intro c f c0 ef fb hm
    refine ez_iload_n dX4_stillOnes_4 rfl ?_
    refine ez_aload_n dX4_stillOnes_5 rfl ?_
    refine g4_0 dX4_stillOnes_6 fl_X4_48 ?_
    refine ez_ic_ge 29 dX4_stillOnes_9 (by decide) (fun c_9 => ?_) (fun c_9 => ?_)
    · refine ez_iload_n dX4_stillOnes_29 rfl ?_
      refine ez_ireturn (st := []) dX4_stillOnes_30 rfl ?_
      refine ez_F.in ?_
      rw [ef, show (h 110 0).toNat = c by omega]
    · refine ez_aload_n dX4_stillOnes_12 rfl ?_
      refine ez_iload_n dX4_stillOnes_13 rfl ?_
      refine cl_X4_isStill dX4_stillOnes_14 ml_X4_90 ft_X4_stillOnes__X4_isStill (Nat.le_of_ble_eq_true rfl) (c_X4_isStill (by omega)) (ez_kB (fun b_14 => ?_) (fun b_14 => ?_))
      · have n1 : f + 1 = st_n h (c + 1) := by
          rw [st_n, if_pos b_14, ef]
        refine ez_if_eq 23 dX4_stillOnes_17 (by decide) (fun c_17 => ?_) (fun c_17 => ?_)
        · exact absurd c_17 (by decide)
        · refine ez_iinc dX4_stillOnes_20 rfl (by decide) (by decide) (by omega) ?_
          refine ez_iinc dX4_stillOnes_23 rfl (by decide) (by decide) (by omega) ?_
          refine ez_goto 4 dX4_stillOnes_26 (by decide) ?_
          exact ih (c + 1) _ (by omega) n1 (by omega) (by omega)
      · have n1 : f = st_n h (c + 1) := by
          rw [st_n, if_neg b_14, ef]
          omega
        refine ez_if_eq 23 dX4_stillOnes_17 (by decide) (fun c_17 => ?_) (fun c_17 => ?_)
        · refine ez_iinc dX4_stillOnes_23 rfl (by decide) (by decide) (by omega) ?_
          refine ez_goto 4 dX4_stillOnes_26 (by decide) ?_
          exact ih (c + 1) _ (by omega) n1 (by omega) (by omega)
        · exact absurd c_17 (by decide)
theorem c_X4_stillOnes {h : ez_H} (hc : 0 ≤ h 110 0 ∧ h 110 0 ≤ 8) : ez_Ct M_X4_stillOnes [ez_R 110] h (ez_F h (st_n h (h 110 0).toNat)) := by
  refine ez_of (by decide) (Nat.le_of_ble_eq_true rfl) (L0 := [ez_R 110, ez_N, ez_N]) rfl ?_
  refine ez_iconst dX4_stillOnes_0 (by decide) ?_
  refine ez_istore_n dX4_stillOnes_1 (by decide) ?_
  refine ez_iconst dX4_stillOnes_2 (by decide) ?_
  refine ez_istore_n dX4_stillOnes_3 (by decide) ?_
  exact lp_so4 hc 9 0 0 (by omega) rfl (by omega) (by omega)
def sd_x (h : ez_H) (i p : Int) : Int := (h 118 (p * 8 + i) - h 111 i) * h 114 i - h 115 i * h 120 p
def sd_y (h : ez_H) (i p : Int) : Int := (h 119 (p * 8 + i) - h 112 i) * h 114 i - h 116 i * h 120 p
def sd_c (h : ez_H) (i r p : Int) : Prop := h 117 (p * 8 + i) ≠ -1 → max ((sd_x h i p).natAbs : Int) ((sd_y h i p).natAbs : Int) ≤ r * h 114 i
theorem lp_sd {i r : Int} {h : ez_H} (hi : 0 ≤ i ∧ i < 8) (hr : 0 ≤ r ∧ r ≤ 50) (rg : (-8000 ≤ h 115 i ∧ h 115 i ≤ 8000) ∧ (-8000 ≤ h 116 i ∧ h 116 i ≤ 8000) ∧ (0 ≤ h 114 i ∧ h 114 i ≤ 999) ∧ (0 ≤ h 111 i ∧ h 111 i ≤ 999) ∧ (0 ≤ h 112 i ∧ h 112 i ≤ 999)) (ro : ∀ p : Int, 0 ≤ p → p < 5 → h 117 (p * 8 + i) ≠ -1 → (-7000 ≤ h 118 (p * 8 + i) ∧ h 118 (p * 8 + i) ≤ 7000) ∧ (-7000 ≤ h 119 (p * 8 + i) ∧ h 119 (p * 8 + i) ≤ 7000) ∧ (-999 ≤ h 120 p ∧ h 120 p ≤ 999)) : ∀ (n : Nat) (p : Int), (0 ≤ p ∧ p ≤ 5) → (∀ q : Int, 0 ≤ q → q < p → sd_c h i r q) → 5 - p < n → ez_En M_X4_isSteady 2 [ez_R 110, ez_I i, ez_I r, ez_I p, ez_N, ez_N, ez_N] [] h (ez_B h (∀ p : Int, 0 ≤ p → p < 5 → sd_c h i r p)) := by
  intro n
  induction n with
  | zero =>
    intro p p0 ok hm
    exfalso
    omega
  | succ n ih =>
    intro p p0 ok hm
    refine ez_iload_n dX4_isSteady_2 rfl ?_
    refine ez_iconst dX4_isSteady_3 (by decide) ?_
    refine ez_ic_ge 129 dX4_isSteady_4 (by decide) (fun c_4 => ?_) (fun c_4 => ?_)
    · refine ez_iconst dX4_isSteady_129 (by decide) ?_
      refine ez_zreturn (st := []) dX4_isSteady_130 rfl (by first | exact Or.inl rfl | exact Or.inr rfl | omega | (split <;> omega)) ?_
      exact ez_B.t (fun q q0 q1 => ok q q0 (by omega))
    · refine ez_iload_n dX4_isSteady_7 rfl ?_
      refine ez_bipush dX4_isSteady_8 (by decide) (by decide) ?_
      refine ez_imul dX4_isSteady_10 (by omega) ?_
      refine ez_iload_n dX4_isSteady_11 rfl ?_
      refine ez_iadd dX4_isSteady_12 (by omega) ?_
      refine ez_istore dX4_isSteady_13 (by decide) ?_
      refine ez_aload_n dX4_isSteady_15 rfl ?_
      refine g4_9 dX4_isSteady_16 fl_X4_30 ?_
      refine ez_iload dX4_isSteady_19 rfl ?_
      refine al117 dX4_isSteady_21 (by omega) ?_
      refine ez_iconst dX4_isSteady_22 (by decide) ?_
      refine ez_ic_ne 29 dX4_isSteady_23 (by decide) (fun c_23 => ?_) (fun c_23 => ?_)
      · have rp := ro p (by omega) (by omega) c_23
        have m1 := en_mul_bd (A := 8000) (B := 999) (a := h 118 (p * 8 + i) - h 111 i) (b := h 114 i) (by omega) (by omega)
        have m2 := en_mul_bd (A := 8000) (B := 999) (a := h 115 i) (b := h 120 p) (by omega) (by omega)
        have m3 := en_mul_bd (A := 8000) (B := 999) (a := h 119 (p * 8 + i) - h 112 i) (b := h 114 i) (by omega) (by omega)
        have m4 := en_mul_bd (A := 8000) (B := 999) (a := h 116 i) (b := h 120 p) (by omega) (by omega)
        have m5 := en_mul_bd (A := 50) (B := 999) (a := r) (b := h 114 i) (by omega) (by omega)
        refine ez_aload_n dX4_isSteady_29 rfl ?_
        refine g4_10 dX4_isSteady_30 fl_X4_33 ?_
        refine ez_iload dX4_isSteady_33 rfl ?_
        refine al118 dX4_isSteady_35 (by omega) ?_
        refine ez_aload_n dX4_isSteady_36 rfl ?_
        refine g4_3 dX4_isSteady_37 fl_X4_9 ?_
        refine ez_iload_n dX4_isSteady_40 rfl ?_
        refine al111 dX4_isSteady_41 (by omega) ?_
        refine ez_isub dX4_isSteady_42 (by omega) ?_
        refine ez_aload_n dX4_isSteady_43 rfl ?_
        refine g4_6 dX4_isSteady_44 fl_X4_21 ?_
        refine ez_iload_n dX4_isSteady_47 rfl ?_
        refine al114 dX4_isSteady_48 (by omega) ?_
        refine ez_imul dX4_isSteady_49 (by omega) ?_
        refine ez_aload_n dX4_isSteady_50 rfl ?_
        refine g4_7 dX4_isSteady_51 fl_X4_24 ?_
        refine ez_iload_n dX4_isSteady_54 rfl ?_
        refine al115 dX4_isSteady_55 (by omega) ?_
        refine ez_aload_n dX4_isSteady_56 rfl ?_
        refine g4_12 dX4_isSteady_57 fl_X4_39 ?_
        refine ez_iload_n dX4_isSteady_60 rfl ?_
        refine al120 dX4_isSteady_61 (by omega) ?_
        refine ez_imul dX4_isSteady_62 (by omega) ?_
        refine ez_isub dX4_isSteady_63 (by omega) ?_
        refine ez_istore dX4_isSteady_64 (by decide) ?_
        refine ez_aload_n dX4_isSteady_66 rfl ?_
        refine g4_11 dX4_isSteady_67 fl_X4_36 ?_
        refine ez_iload dX4_isSteady_70 rfl ?_
        refine al119 dX4_isSteady_72 (by omega) ?_
        refine ez_aload_n dX4_isSteady_73 rfl ?_
        refine g4_4 dX4_isSteady_74 fl_X4_15 ?_
        refine ez_iload_n dX4_isSteady_77 rfl ?_
        refine al112 dX4_isSteady_78 (by omega) ?_
        refine ez_isub dX4_isSteady_79 (by omega) ?_
        refine ez_aload_n dX4_isSteady_80 rfl ?_
        refine g4_6 dX4_isSteady_81 fl_X4_21 ?_
        refine ez_iload_n dX4_isSteady_84 rfl ?_
        refine al114 dX4_isSteady_85 (by omega) ?_
        refine ez_imul dX4_isSteady_86 (by omega) ?_
        refine ez_aload_n dX4_isSteady_87 rfl ?_
        refine g4_8 dX4_isSteady_88 fl_X4_27 ?_
        refine ez_iload_n dX4_isSteady_91 rfl ?_
        refine al116 dX4_isSteady_92 (by omega) ?_
        refine ez_aload_n dX4_isSteady_93 rfl ?_
        refine g4_12 dX4_isSteady_94 fl_X4_39 ?_
        refine ez_iload_n dX4_isSteady_97 rfl ?_
        refine al120 dX4_isSteady_98 (by omega) ?_
        refine ez_imul dX4_isSteady_99 (by omega) ?_
        refine ez_isub dX4_isSteady_100 (by omega) ?_
        refine ez_istore dX4_isSteady_101 (by decide) ?_
        refine ez_iload dX4_isSteady_103 rfl ?_
        refine ez_iload dX4_isSteady_105 rfl ?_
        refine cn_X5_farOf dX4_isSteady_107 ml_X4_93 ft_X4_isSteady__X5_farOf (Nat.le_of_ble_eq_true rfl) (c_X5_farOf (by omega)) (ez_kF ?_)
        refine ez_iload_n dX4_isSteady_110 rfl ?_
        refine ez_aload_n dX4_isSteady_111 rfl ?_
        refine g4_6 dX4_isSteady_112 fl_X4_21 ?_
        refine ez_iload_n dX4_isSteady_115 rfl ?_
        refine al114 dX4_isSteady_116 (by omega) ?_
        refine ez_imul dX4_isSteady_117 (by omega) ?_
        refine ez_ic_le 123 dX4_isSteady_118 (by decide) (fun c_118 => ?_) (fun c_118 => ?_)
        · have n1 : ∀ q : Int, 0 ≤ q → q < p + 1 → sd_c h i r q := fun q q0 q1 => by
            by_cases e : q = p
            · rw [e]
              intro z
              first | exact absurd c_23 z | (unfold sd_x sd_y; omega)
            · exact ok q q0 (by omega)
          refine ez_iinc dX4_isSteady_123 rfl (by decide) (by decide) (by omega) ?_
          refine ez_goto 2 dX4_isSteady_126 (by decide) ?_
          refine ez_lessS (L' := [ez_R 110, ez_I i, ez_I r, ez_I (p + 1), ez_N, ez_N, ez_N]) ⟨Or.inr rfl, Or.inr rfl, Or.inr rfl, Or.inr rfl, Or.inl rfl, Or.inl rfl, Or.inl rfl, trivial⟩ ?_
          exact ih (p + 1) (by omega) n1 (by omega)
        · refine ez_iconst dX4_isSteady_121 (by decide) ?_
          refine ez_zreturn (st := []) dX4_isSteady_122 rfl (by first | exact Or.inl rfl | exact Or.inr rfl | omega | (split <;> omega)) ?_
          refine ez_B.f (fun q => ?_)
          have z := q p (by omega) (by omega) c_23
          unfold sd_x sd_y at z
          omega
      · have n1 : ∀ q : Int, 0 ≤ q → q < p + 1 → sd_c h i r q := fun q q0 q1 => by
          by_cases e : q = p
          · rw [e]
            intro z
            first | exact absurd c_23 z | (unfold sd_x sd_y; omega)
          · exact ok q q0 (by omega)
        refine ez_goto 123 dX4_isSteady_26 (by decide) ?_
        refine ez_iinc dX4_isSteady_123 rfl (by decide) (by decide) (by omega) ?_
        refine ez_goto 2 dX4_isSteady_126 (by decide) ?_
        refine ez_lessS (L' := [ez_R 110, ez_I i, ez_I r, ez_I (p + 1), ez_N, ez_N, ez_N]) ⟨Or.inr rfl, Or.inr rfl, Or.inr rfl, Or.inr rfl, Or.inl rfl, Or.inl rfl, Or.inl rfl, trivial⟩ ?_
        exact ih (p + 1) (by omega) n1 (by omega)
theorem c_X4_isSteady {i r : Int} {h : ez_H} (hi : 0 ≤ i ∧ i < 8) (hr : 0 ≤ r ∧ r ≤ 50) (rg : (-8000 ≤ h 115 i ∧ h 115 i ≤ 8000) ∧ (-8000 ≤ h 116 i ∧ h 116 i ≤ 8000) ∧ (0 ≤ h 114 i ∧ h 114 i ≤ 999) ∧ (0 ≤ h 111 i ∧ h 111 i ≤ 999) ∧ (0 ≤ h 112 i ∧ h 112 i ≤ 999)) (ro : ∀ p : Int, 0 ≤ p → p < 5 → h 117 (p * 8 + i) ≠ -1 → (-7000 ≤ h 118 (p * 8 + i) ∧ h 118 (p * 8 + i) ≤ 7000) ∧ (-7000 ≤ h 119 (p * 8 + i) ∧ h 119 (p * 8 + i) ≤ 7000) ∧ (-999 ≤ h 120 p ∧ h 120 p ≤ 999)) : ez_Ct M_X4_isSteady [ez_R 110, ez_I i, ez_I r] h ((ez_B h (∀ p : Int, 0 ≤ p → p < 5 → sd_c h i r p))) := by
  refine ez_of (by decide) (Nat.le_of_ble_eq_true rfl) (L0 := [ez_R 110, ez_I i, ez_I r, ez_N, ez_N, ez_N, ez_N]) rfl ?_
  refine ez_iconst dX4_isSteady_0 (by decide) ?_
  refine ez_istore_n dX4_isSteady_1 (by decide) ?_
  exact lp_sd hi hr rg ro 6 0 (by omega) (fun q q0 q1 => by omega) (by omega)
def tw_c (h : ez_H) (i k : Int) : Prop := k ≠ i ∧ 0 < h 114 k ∧ h 115 k * h 114 i = h 115 i * h 114 k ∧ h 116 k * h 114 i = h 116 i * h 114 k
theorem lp_tw {i : Int} {h : ez_H} (hc : 0 ≤ h 110 0 ∧ h 110 0 ≤ 8) (hi : 0 ≤ i ∧ i < h 110 0) (rg : ∀ k : Int, 0 ≤ k → k < h 110 0 → (-8000 ≤ h 115 k ∧ h 115 k ≤ 8000) ∧ (-8000 ≤ h 116 k ∧ h 116 k ≤ 8000) ∧ (0 ≤ h 114 k ∧ h 114 k ≤ 999)) : ∀ (n : Nat) (k : Nat), ((k : Int) ≤ h 110 0) → (sp_first (tw_c h i) k = -1) → h 110 0 - k < n → ez_En M_X4_firstTogetherWith 12 [ez_R 110, ez_I i, ez_I (k : Nat)] [] h (ez_F h (sp_first (tw_c h i) (h 110 0).toNat)) := by
  intro n
  induction n with
  | zero =>
    intro k k0 no hm
    exfalso
    omega
  | succ n ih =>
    intro k k0 no hm
    have ri := rg i hi.1 hi.2
    refine ez_iload_n dX4_firstTogetherWith_12 rfl ?_
    refine ez_aload_n dX4_firstTogetherWith_13 rfl ?_
    refine g4_0 dX4_firstTogetherWith_14 fl_X4_48 ?_
    refine ez_ic_ge 99 dX4_firstTogetherWith_17 (by decide) (fun c_17 => ?_) (fun c_17 => ?_)
    · refine ez_iconst dX4_firstTogetherWith_99 (by decide) ?_
      refine ez_ireturn (st := []) dX4_firstTogetherWith_100 rfl ?_
      refine ez_F.in ?_
      rw [show (h 110 0).toNat = k by omega, no]
    · refine ez_iload_n dX4_firstTogetherWith_20 rfl ?_
      refine ez_iload_n dX4_firstTogetherWith_21 rfl ?_
      refine ez_ic_eq 93 dX4_firstTogetherWith_22 (by decide) (fun c_22 => ?_) (fun c_22 => ?_)
      · have n1 := sp_first_no no (fun z : tw_c h i k => by
          obtain ⟨z1, z2, z3, z4⟩ := z
          omega)
        refine ez_iinc dX4_firstTogetherWith_93 rfl (by decide) (by decide) (by omega) ?_
        refine ez_goto 12 dX4_firstTogetherWith_96 (by decide) ?_
        exact ih (k + 1) (by omega) n1 (by omega)
      · refine ez_aload_n dX4_firstTogetherWith_25 rfl ?_
        refine ez_iload_n dX4_firstTogetherWith_26 rfl ?_
        refine cl_X4_hasMotion dX4_firstTogetherWith_27 ml_X4_86 ft_X4_firstTogetherWith__X4_hasMotion (Nat.le_of_ble_eq_true rfl) (c_X4_hasMotion (by omega)) (ez_kB (fun b_27 => ?_) (fun b_27 => ?_))
        · refine ez_if_eq 93 dX4_firstTogetherWith_30 (by decide) (fun c_30 => ?_) (fun c_30 => ?_)
          · exact absurd c_30 (by decide)
          · have rk := rg k (by omega) (by omega)
            have m1 := en_mul_bd (A := 8000) (B := 999) (a := h 115 k) (b := h 114 i) (by omega) (by omega)
            have m2 := en_mul_bd (A := 8000) (B := 999) (a := h 115 i) (b := h 114 k) (by omega) (by omega)
            have m3 := en_mul_bd (A := 8000) (B := 999) (a := h 116 k) (b := h 114 i) (by omega) (by omega)
            have m4 := en_mul_bd (A := 8000) (B := 999) (a := h 116 i) (b := h 114 k) (by omega) (by omega)
            refine ez_aload_n dX4_firstTogetherWith_33 rfl ?_
            refine g4_7 dX4_firstTogetherWith_34 fl_X4_24 ?_
            refine ez_iload_n dX4_firstTogetherWith_37 rfl ?_
            refine al115 dX4_firstTogetherWith_38 (by omega) ?_
            refine ez_aload_n dX4_firstTogetherWith_39 rfl ?_
            refine g4_6 dX4_firstTogetherWith_40 fl_X4_21 ?_
            refine ez_iload_n dX4_firstTogetherWith_43 rfl ?_
            refine al114 dX4_firstTogetherWith_44 (by omega) ?_
            refine ez_imul dX4_firstTogetherWith_45 (by omega) ?_
            refine ez_aload_n dX4_firstTogetherWith_46 rfl ?_
            refine g4_7 dX4_firstTogetherWith_47 fl_X4_24 ?_
            refine ez_iload_n dX4_firstTogetherWith_50 rfl ?_
            refine al115 dX4_firstTogetherWith_51 (by omega) ?_
            refine ez_aload_n dX4_firstTogetherWith_52 rfl ?_
            refine g4_6 dX4_firstTogetherWith_53 fl_X4_21 ?_
            refine ez_iload_n dX4_firstTogetherWith_56 rfl ?_
            refine al114 dX4_firstTogetherWith_57 (by omega) ?_
            refine ez_imul dX4_firstTogetherWith_58 (by omega) ?_
            refine ez_ic_ne 93 dX4_firstTogetherWith_59 (by decide) (fun c_59 => ?_) (fun c_59 => ?_)
            · have n1 := sp_first_no no (fun z : tw_c h i k => by
                obtain ⟨z1, z2, z3, z4⟩ := z
                omega)
              refine ez_iinc dX4_firstTogetherWith_93 rfl (by decide) (by decide) (by omega) ?_
              refine ez_goto 12 dX4_firstTogetherWith_96 (by decide) ?_
              exact ih (k + 1) (by omega) n1 (by omega)
            · refine ez_aload_n dX4_firstTogetherWith_62 rfl ?_
              refine g4_8 dX4_firstTogetherWith_63 fl_X4_27 ?_
              refine ez_iload_n dX4_firstTogetherWith_66 rfl ?_
              refine al116 dX4_firstTogetherWith_67 (by omega) ?_
              refine ez_aload_n dX4_firstTogetherWith_68 rfl ?_
              refine g4_6 dX4_firstTogetherWith_69 fl_X4_21 ?_
              refine ez_iload_n dX4_firstTogetherWith_72 rfl ?_
              refine al114 dX4_firstTogetherWith_73 (by omega) ?_
              refine ez_imul dX4_firstTogetherWith_74 (by omega) ?_
              refine ez_aload_n dX4_firstTogetherWith_75 rfl ?_
              refine g4_8 dX4_firstTogetherWith_76 fl_X4_27 ?_
              refine ez_iload_n dX4_firstTogetherWith_79 rfl ?_
              refine al116 dX4_firstTogetherWith_80 (by omega) ?_
              refine ez_aload_n dX4_firstTogetherWith_81 rfl ?_
              refine g4_6 dX4_firstTogetherWith_82 fl_X4_21 ?_
              refine ez_iload_n dX4_firstTogetherWith_85 rfl ?_
              refine al114 dX4_firstTogetherWith_86 (by omega) ?_
              refine ez_imul dX4_firstTogetherWith_87 (by omega) ?_
              refine ez_ic_ne 93 dX4_firstTogetherWith_88 (by decide) (fun c_88 => ?_) (fun c_88 => ?_)
              · have n1 := sp_first_no no (fun z : tw_c h i k => by
                  obtain ⟨z1, z2, z3, z4⟩ := z
                  omega)
                refine ez_iinc dX4_firstTogetherWith_93 rfl (by decide) (by decide) (by omega) ?_
                refine ez_goto 12 dX4_firstTogetherWith_96 (by decide) ?_
                exact ih (k + 1) (by omega) n1 (by omega)
              · refine ez_iload_n dX4_firstTogetherWith_91 rfl ?_
                refine ez_ireturn (st := []) dX4_firstTogetherWith_92 rfl ?_
                exact ez_F.in (sp_first_hit no ⟨c_22, b_27, c_59, c_88⟩ (by omega)).symm
        · refine ez_if_eq 93 dX4_firstTogetherWith_30 (by decide) (fun c_30 => ?_) (fun c_30 => ?_)
          · have n1 := sp_first_no no (fun z : tw_c h i k => by
              obtain ⟨z1, z2, z3, z4⟩ := z
              omega)
            refine ez_iinc dX4_firstTogetherWith_93 rfl (by decide) (by decide) (by omega) ?_
            refine ez_goto 12 dX4_firstTogetherWith_96 (by decide) ?_
            exact ih (k + 1) (by omega) n1 (by omega)
          · exact absurd c_30 (by decide)
theorem c_X4_firstTogetherWith {i : Int} {h : ez_H} (hc : 0 ≤ h 110 0 ∧ h 110 0 ≤ 8) (hi : 0 ≤ i ∧ i < h 110 0) (rg : ∀ k : Int, 0 ≤ k → k < h 110 0 → (-8000 ≤ h 115 k ∧ h 115 k ≤ 8000) ∧ (-8000 ≤ h 116 k ∧ h 116 k ≤ 8000) ∧ (0 ≤ h 114 k ∧ h 114 k ≤ 999)) : ez_Ct M_X4_firstTogetherWith [ez_R 110, ez_I i] h (ez_F h (if 0 < h 114 i ∧ h 115 i = 0 ∧ h 116 i = 0 then -1 else sp_first (tw_c h i) (h 110 0).toNat)) := by
  refine ez_of (by decide) (Nat.le_of_ble_eq_true rfl) (L0 := [ez_R 110, ez_I i, ez_N]) rfl ?_
  refine ez_aload_n dX4_firstTogetherWith_0 rfl ?_
  refine ez_iload_n dX4_firstTogetherWith_1 rfl ?_
  refine cl_X4_isStill dX4_firstTogetherWith_2 ml_X4_90 ft_X4_firstTogetherWith__X4_isStill (Nat.le_of_ble_eq_true rfl) (c_X4_isStill (by omega)) (ez_kB (fun b_2 => ?_) (fun b_2 => ?_))
  · refine ez_if_eq 10 dX4_firstTogetherWith_5 (by decide) (fun c_5 => ?_) (fun c_5 => ?_)
    · exact absurd c_5 (by decide)
    · refine ez_iconst dX4_firstTogetherWith_8 (by decide) ?_
      refine ez_ireturn (st := []) dX4_firstTogetherWith_9 rfl ?_
      exact ez_F.in (by rw [if_pos b_2])
  · refine ez_if_eq 10 dX4_firstTogetherWith_5 (by decide) (fun c_5 => ?_) (fun c_5 => ?_)
    · refine ez_iconst dX4_firstTogetherWith_10 (by decide) ?_
      refine ez_istore_n dX4_firstTogetherWith_11 (by decide) ?_
      rw [if_neg b_2]
      exact lp_tw hc hi rg 9 0 (by omega) rfl (by omega)
    · exact absurd c_5 (by decide)
