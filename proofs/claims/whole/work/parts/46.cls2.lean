/-! the class's small methods -/
theorem c_X5_isPlate {p : Int} {h : ez_H} : ez_Ct M_X5_isPlate [ez_R 0, ez_I p] h (ez_B h (0 ≤ p ∧ p < h 0 5)) := by
  refine ez_of (by decide) (Nat.le_of_ble_eq_true rfl) (L0 := [ez_R 0, ez_I p]) rfl ?_
  refine ez_iload_n dX5_isPlate_0 rfl ?_
  refine ez_if_lt 16 dX5_isPlate_1 (by decide) (fun c_1 => ?_) (fun c_1 => ?_)
  · refine ez_iconst dX5_isPlate_16 (by decide) ?_
    refine ez_zreturn (st := []) dX5_isPlate_17 rfl (by first | exact Or.inl rfl | exact Or.inr rfl | omega | (split <;> omega)) ?_
    first | exact ez_B.t (by omega) | exact ez_B.f (by omega)
  · refine ez_iload_n dX5_isPlate_4 rfl ?_
    refine ez_aload_n dX5_isPlate_5 rfl ?_
    refine g5_5 dX5_isPlate_6 fl_X5_41 ?_
    refine ez_ic_ge 16 dX5_isPlate_9 (by decide) (fun c_9 => ?_) (fun c_9 => ?_)
    · refine ez_iconst dX5_isPlate_16 (by decide) ?_
      refine ez_zreturn (st := []) dX5_isPlate_17 rfl (by first | exact Or.inl rfl | exact Or.inr rfl | omega | (split <;> omega)) ?_
      first | exact ez_B.t (by omega) | exact ez_B.f (by omega)
    · refine ez_iconst dX5_isPlate_12 (by decide) ?_
      refine ez_goto 17 dX5_isPlate_13 (by decide) ?_
      refine ez_zreturn (st := []) dX5_isPlate_17 rfl (by first | exact Or.inl rfl | exact Or.inr rfl | omega | (split <;> omega)) ?_
      first | exact ez_B.t (by omega) | exact ez_B.f (by omega)
theorem c_X5_isSpot {p i : Int} {h : ez_H} (hn : 0 ≤ h 0 5 ∧ h 0 5 ≤ 5) : ez_Ct M_X5_isSpot [ez_R 0, ez_I p, ez_I i] h (ez_B h ((0 ≤ p ∧ p < h 0 5) ∧ (0 ≤ i ∧ i < h (2 + 3 * p) 1))) := by
  refine ez_of (by decide) (Nat.le_of_ble_eq_true rfl) (L0 := [ez_R 0, ez_I p, ez_I i]) rfl ?_
  refine ez_aload_n dX5_isSpot_0 rfl ?_
  refine ez_iload_n dX5_isSpot_1 rfl ?_
  refine cl_X5_isPlate dX5_isSpot_2 ml_X5_58 ft_X5_isSpot__X5_isPlate (Nat.le_of_ble_eq_true rfl) c_X5_isPlate (ez_kB (fun b_2 => ?_) (fun b_2 => ?_))
  · refine ez_if_eq 29 dX5_isSpot_5 (by decide) (fun c_5 => ?_) (fun c_5 => ?_)
    · exact absurd c_5 (by decide)
    · refine ez_iload_n dX5_isSpot_8 rfl ?_
      refine ez_if_lt 29 dX5_isSpot_9 (by decide) (fun c_9 => ?_) (fun c_9 => ?_)
      · refine ez_iconst dX5_isSpot_29 (by decide) ?_
        refine ez_zreturn (st := []) dX5_isSpot_30 rfl (by first | exact Or.inl rfl | exact Or.inr rfl | omega | (split <;> omega)) ?_
        first | exact ez_B.t (by omega) | exact ez_B.f (by omega)
      · refine ez_iload_n dX5_isSpot_12 rfl ?_
        refine ez_aload_n dX5_isSpot_13 rfl ?_
        refine g5_0 dX5_isSpot_14 fl_X5_11 ?_
        refine ez_iload_n dX5_isSpot_17 rfl ?_
        refine ez_aaloadP dX5_isSpot_18 (by omega) ?_
        refine g3_1 (by first | assumption | exact ez_isP.mk (by omega)) dX5_isSpot_19 fl_X5_92 ?_
        refine ez_ic_ge 29 dX5_isSpot_22 (by decide) (fun c_22 => ?_) (fun c_22 => ?_)
        · refine ez_iconst dX5_isSpot_29 (by decide) ?_
          refine ez_zreturn (st := []) dX5_isSpot_30 rfl (by first | exact Or.inl rfl | exact Or.inr rfl | omega | (split <;> omega)) ?_
          first | exact ez_B.t (by omega) | exact ez_B.f (by omega)
        · refine ez_iconst dX5_isSpot_25 (by decide) ?_
          refine ez_goto 30 dX5_isSpot_26 (by decide) ?_
          refine ez_zreturn (st := []) dX5_isSpot_30 rfl (by first | exact Or.inl rfl | exact Or.inr rfl | omega | (split <;> omega)) ?_
          first | exact ez_B.t (by omega) | exact ez_B.f (by omega)
  · refine ez_if_eq 29 dX5_isSpot_5 (by decide) (fun c_5 => ?_) (fun c_5 => ?_)
    · refine ez_iconst dX5_isSpot_29 (by decide) ?_
      refine ez_zreturn (st := []) dX5_isSpot_30 rfl (by first | exact Or.inl rfl | exact Or.inr rfl | omega | (split <;> omega)) ?_
      first | exact ez_B.t (by omega) | exact ez_B.f (by omega)
    · exact absurd c_5 (by decide)
def cd_tr (h : ez_H) : Int := if h 0 6 = -1 then 0 else h (2 + 3 * h 0 6) 1
theorem c_X5_trackCount {h : ez_H} (hf : h 0 6 = -1 ∨ (0 ≤ h 0 6 ∧ h 0 6 < 5)) : ez_Ct M_X5_trackCount [ez_R 0] h (ez_F h (cd_tr h)) := by
  refine ez_of (by decide) (Nat.le_of_ble_eq_true rfl) (L0 := [ez_R 0]) rfl ?_
  refine ez_aload_n dX5_trackCount_0 rfl ?_
  refine g5_6 dX5_trackCount_1 fl_X5_45 ?_
  refine ez_iconst dX5_trackCount_4 (by decide) ?_
  refine ez_ic_ne 12 dX5_trackCount_5 (by decide) (fun c_5 => ?_) (fun c_5 => ?_)
  · refine ez_aload_n dX5_trackCount_12 rfl ?_
    refine g5_0 dX5_trackCount_13 fl_X5_11 ?_
    refine ez_aload_n dX5_trackCount_16 rfl ?_
    refine g5_6 dX5_trackCount_17 fl_X5_45 ?_
    refine ez_aaloadP dX5_trackCount_20 (by omega) ?_
    refine g3_1 (by first | assumption | exact ez_isP.mk (by omega)) dX5_trackCount_21 fl_X5_92 ?_
    refine ez_ireturn (st := []) dX5_trackCount_24 rfl ?_
    exact ez_F.in (by unfold cd_tr; first | rw [if_pos (by omega)] | rw [if_neg (by omega)])
  · refine ez_iconst dX5_trackCount_8 (by decide) ?_
    refine ez_goto 24 dX5_trackCount_9 (by decide) ?_
    refine ez_ireturn (st := []) dX5_trackCount_24 rfl ?_
    exact ez_F.in (by unfold cd_tr; first | rw [if_pos (by omega)] | rw [if_neg (by omega)])
theorem c_X5_isTrack {i : Int} {h : ez_H} (hf : h 0 6 = -1 ∨ (0 ≤ h 0 6 ∧ h 0 6 < 5)) : ez_Ct M_X5_isTrack [ez_R 0, ez_I i] h (ez_B h (0 ≤ i ∧ i < cd_tr h)) := by
  refine ez_of (by decide) (Nat.le_of_ble_eq_true rfl) (L0 := [ez_R 0, ez_I i]) rfl ?_
  refine ez_iload_n dX5_isTrack_0 rfl ?_
  refine ez_if_lt 16 dX5_isTrack_1 (by decide) (fun c_1 => ?_) (fun c_1 => ?_)
  · refine ez_iconst dX5_isTrack_16 (by decide) ?_
    refine ez_zreturn (st := []) dX5_isTrack_17 rfl (by first | exact Or.inl rfl | exact Or.inr rfl | omega | (split <;> omega)) ?_
    first | exact ez_B.t (by omega) | exact ez_B.f (by omega)
  · refine ez_iload_n dX5_isTrack_4 rfl ?_
    refine ez_aload_n dX5_isTrack_5 rfl ?_
    refine cl_X5_trackCount dX5_isTrack_6 ml_X5_79 ft_X5_isTrack__X5_trackCount (Nat.le_of_ble_eq_true rfl) (c_X5_trackCount hf) (ez_kF ?_)
    refine ez_ic_ge 16 dX5_isTrack_9 (by decide) (fun c_9 => ?_) (fun c_9 => ?_)
    · refine ez_iconst dX5_isTrack_16 (by decide) ?_
      refine ez_zreturn (st := []) dX5_isTrack_17 rfl (by first | exact Or.inl rfl | exact Or.inr rfl | omega | (split <;> omega)) ?_
      first | exact ez_B.t (by omega) | exact ez_B.f (by omega)
    · refine ez_iconst dX5_isTrack_12 (by decide) ?_
      refine ez_goto 17 dX5_isTrack_13 (by decide) ?_
      refine ez_zreturn (st := []) dX5_isTrack_17 rfl (by first | exact Or.inl rfl | exact Or.inr rfl | omega | (split <;> omega)) ?_
      first | exact ez_B.t (by omega) | exact ez_B.f (by omega)
theorem lp_hy {y : Int} {h : ez_H} (hn : 0 ≤ h 0 5 ∧ h 0 5 ≤ 5) : ∀ (n : Nat) (p : Int), (0 ≤ p ∧ p ≤ h 0 5) → (∀ q : Int, 0 ≤ q → q < p → h (2 + 3 * q) 0 ≠ y) → h 0 5 - p < n → ez_En M_X5_hasYear 2 [ez_R 0, ez_I y, ez_I p] [] h (ez_B h (∃ q : Int, 0 ≤ q ∧ q < h 0 5 ∧ h (2 + 3 * q) 0 = y)) := by
  intro n
  induction n with
  | zero =>
    intro p p0 no hm
    exfalso
    omega
  | succ n ih =>
    intro p p0 no hm
    refine ez_iload_n dX5_hasYear_2 rfl ?_
    refine ez_aload_n dX5_hasYear_3 rfl ?_
    refine g5_5 dX5_hasYear_4 fl_X5_41 ?_
    refine ez_ic_ge 31 dX5_hasYear_7 (by decide) (fun c_7 => ?_) (fun c_7 => ?_)
    · refine ez_iconst dX5_hasYear_31 (by decide) ?_
      refine ez_zreturn (st := []) dX5_hasYear_32 rfl (by first | exact Or.inl rfl | exact Or.inr rfl | omega | (split <;> omega)) ?_
      exact ez_B.f (fun ⟨q, q0, q1, q2⟩ => no q q0 (by omega) q2)
    · refine ez_aload_n dX5_hasYear_10 rfl ?_
      refine g5_0 dX5_hasYear_11 fl_X5_11 ?_
      refine ez_iload_n dX5_hasYear_14 rfl ?_
      refine ez_aaloadP dX5_hasYear_15 (by omega) ?_
      refine g3_0 (by first | assumption | exact ez_isP.mk (by omega)) dX5_hasYear_16 fl_X5_55 ?_
      refine ez_iload_n dX5_hasYear_19 rfl ?_
      refine ez_ic_ne 25 dX5_hasYear_20 (by decide) (fun c_20 => ?_) (fun c_20 => ?_)
      · refine ez_iinc dX5_hasYear_25 rfl (by decide) (by decide) (by omega) ?_
        refine ez_goto 2 dX5_hasYear_28 (by decide) ?_
        exact ih (p + 1) (by omega) (fun q q0 q1 => by
          by_cases e : q = p
          · rw [e]
            omega
          · exact no q q0 (by omega)) (by omega)
      · refine ez_iconst dX5_hasYear_23 (by decide) ?_
        refine ez_zreturn (st := []) dX5_hasYear_24 rfl (by first | exact Or.inl rfl | exact Or.inr rfl | omega | (split <;> omega)) ?_
        exact ez_B.t ⟨p, by omega, by omega, by omega⟩
theorem c_X5_hasYear {y : Int} {h : ez_H} (hn : 0 ≤ h 0 5 ∧ h 0 5 ≤ 5) : ez_Ct M_X5_hasYear [ez_R 0, ez_I y] h ((ez_B h (∃ q : Int, 0 ≤ q ∧ q < h 0 5 ∧ h (2 + 3 * q) 0 = y))) := by
  refine ez_of (by decide) (Nat.le_of_ble_eq_true rfl) (L0 := [ez_R 0, ez_I y, ez_N]) rfl ?_
  refine ez_iconst dX5_hasYear_0 (by decide) ?_
  refine ez_istore_n dX5_hasYear_1 (by decide) ?_
  exact lp_hy hn 6 0 (by omega) (fun q q0 q1 => by omega) (by omega)
theorem lp_it {o x y : Int} {h : ez_H} (ho : ez_isP o) (hn : 0 ≤ h o 1 ∧ h o 1 ≤ 8) : ∀ (n : Nat) (c : Int), (0 ≤ c ∧ c ≤ h o 1) → (∀ q : Int, 0 ≤ q → q < c → ¬ (h (o + 1) q = x ∧ h (o + 2) q = y)) → h o 1 - c < n → ez_En M_X3_isTaken 2 [ez_R o, ez_I x, ez_I y, ez_I c] [] h (ez_B h (∃ n : Int, (0 ≤ n ∧ n < h o 1) ∧ h (o + 1) n = x ∧ h (o + 2) n = y)) := by
  intro n
  induction n with
  | zero =>
    intro c c0 no hm
    exfalso
    omega
  | succ n ih =>
    intro c c0 no hm
    refine ez_iload_n dX3_isTaken_2 rfl ?_
    refine ez_aload_n dX3_isTaken_3 rfl ?_
    refine g3_1 (by first | assumption | exact ez_isP.mk (by omega)) dX3_isTaken_4 fl_X3_18 ?_
    refine ez_ic_ge 38 dX3_isTaken_7 (by decide) (fun c_7 => ?_) (fun c_7 => ?_)
    · refine ez_iconst dX3_isTaken_38 (by decide) ?_
      refine ez_zreturn (st := []) dX3_isTaken_39 rfl (by first | exact Or.inl rfl | exact Or.inr rfl | omega | (split <;> omega)) ?_
      exact ez_B.f (fun ⟨q, q0, q2⟩ => no q (by omega) (by omega) q2)
    · refine ez_aload_n dX3_isTaken_10 rfl ?_
      refine g3_2 (by first | assumption | exact ez_isP.mk (by omega)) dX3_isTaken_11 fl_X3_9 ?_
      refine ez_iload_n dX3_isTaken_14 rfl ?_
      refine alP1 (by first | assumption | exact ez_isP.mk (by omega)) dX3_isTaken_15 (by omega) ?_
      refine ez_iload_n dX3_isTaken_16 rfl ?_
      refine ez_ic_ne 32 dX3_isTaken_17 (by decide) (fun c_17 => ?_) (fun c_17 => ?_)
      · refine ez_iinc dX3_isTaken_32 rfl (by decide) (by decide) (by omega) ?_
        refine ez_goto 2 dX3_isTaken_35 (by decide) ?_
        exact ih (c + 1) (by omega) (fun q q0 q1 => by
          by_cases e : q = c
          · rw [e]
            omega
          · exact no q q0 (by omega)) (by omega)
      · refine ez_aload_n dX3_isTaken_20 rfl ?_
        refine g3_3 (by first | assumption | exact ez_isP.mk (by omega)) dX3_isTaken_21 fl_X3_15 ?_
        refine ez_iload_n dX3_isTaken_24 rfl ?_
        refine alP2 (by first | assumption | exact ez_isP.mk (by omega)) dX3_isTaken_25 (by omega) ?_
        refine ez_iload_n dX3_isTaken_26 rfl ?_
        refine ez_ic_ne 32 dX3_isTaken_27 (by decide) (fun c_27 => ?_) (fun c_27 => ?_)
        · refine ez_iinc dX3_isTaken_32 rfl (by decide) (by decide) (by omega) ?_
          refine ez_goto 2 dX3_isTaken_35 (by decide) ?_
          exact ih (c + 1) (by omega) (fun q q0 q1 => by
            by_cases e : q = c
            · rw [e]
              omega
            · exact no q q0 (by omega)) (by omega)
        · refine ez_iconst dX3_isTaken_30 (by decide) ?_
          refine ez_zreturn (st := []) dX3_isTaken_31 rfl (by first | exact Or.inl rfl | exact Or.inr rfl | omega | (split <;> omega)) ?_
          exact ez_B.t ⟨c, by omega, by omega, by omega⟩
theorem c_X3_isTaken {o x y : Int} {h : ez_H} (ho : ez_isP o) (hn : 0 ≤ h o 1 ∧ h o 1 ≤ 8) : ez_Ct M_X3_isTaken [ez_R o, ez_I x, ez_I y] h ((ez_B h (∃ n : Int, (0 ≤ n ∧ n < h o 1) ∧ h (o + 1) n = x ∧ h (o + 2) n = y))) := by
  refine ez_of (by decide) (Nat.le_of_ble_eq_true rfl) (L0 := [ez_R o, ez_I x, ez_I y, ez_N]) rfl ?_
  refine ez_iconst dX3_isTaken_0 (by decide) ?_
  refine ez_istore_n dX3_isTaken_1 (by decide) ?_
  exact lp_it ho hn 9 0 (by omega) (fun q q0 q1 => by omega) (by omega)
theorem c_X3_add {o x y : Int} {h : ez_H} (ho : ez_isP o) (hn : 0 ≤ h o 1 ∧ h o 1 ≤ 8) : ez_Ct M_X3_add [ez_R o, ez_I x, ez_I y] h (ez_PI (fun h' z => (h o 1 < 8 ∧ ¬ (∃ n : Int, (0 ≤ n ∧ n < h o 1) ∧ h (o + 1) n = x ∧ h (o + 2) n = y) ∧ z = h o 1 ∧ h' o 1 = h o 1 + 1 ∧ (∀ k : Int, h' (o + 1) k = if k = h o 1 then x else h (o + 1) k) ∧ (∀ k : Int, h' (o + 2) k = if k = h o 1 then y else h (o + 2) k) ∧ ∀ o' k : Int, o' ≠ o + 1 → o' ≠ o + 2 → ¬ (o' = o ∧ k = 1) → h' o' k = h o' k) ∨ (¬ (h o 1 < 8 ∧ ¬ (∃ n : Int, (0 ≤ n ∧ n < h o 1) ∧ h (o + 1) n = x ∧ h (o + 2) n = y)) ∧ z = -1 ∧ h' = h))) := by
  refine ez_of (by decide) (Nat.le_of_ble_eq_true rfl) (L0 := [ez_R o, ez_I x, ez_I y]) rfl ?_
  refine ez_aload_n dX3_add_0 rfl ?_
  refine g3_1 (by first | assumption | exact ez_isP.mk (by omega)) dX3_add_1 fl_X3_18 ?_
  refine ez_bipush dX3_add_4 (by decide) (by decide) ?_
  refine ez_ic_ge 18 dX3_add_6 (by decide) (fun c_6 => ?_) (fun c_6 => ?_)
  · refine ez_iconst dX3_add_18 (by decide) ?_
    refine ez_ireturn (st := []) dX3_add_19 rfl ?_
    exact ez_PI.in (Or.inr ⟨by first | exact fun z => absurd z.1 (by omega) | exact fun z => z.2 b_12, rfl, rfl⟩)
  · refine ez_aload_n dX3_add_9 rfl ?_
    refine ez_iload_n dX3_add_10 rfl ?_
    refine ez_iload_n dX3_add_11 rfl ?_
    refine cl_X3_isTaken (by first | assumption | exact ez_isP.mk (by omega)) dX3_add_12 ml_X3_22 ft_X3_add__X3_isTaken (Nat.le_of_ble_eq_true rfl) (c_X3_isTaken ho (by omega)) (ez_kB (fun b_12 => ?_) (fun b_12 => ?_))
    · refine ez_if_eq 20 dX3_add_15 (by decide) (fun c_15 => ?_) (fun c_15 => ?_)
      · exact absurd c_15 (by decide)
      · refine ez_iconst dX3_add_18 (by decide) ?_
        refine ez_ireturn (st := []) dX3_add_19 rfl ?_
        exact ez_PI.in (Or.inr ⟨by first | exact fun z => absurd z.1 (by omega) | exact fun z => z.2 b_12, rfl, rfl⟩)
    · refine ez_if_eq 20 dX3_add_15 (by decide) (fun c_15 => ?_) (fun c_15 => ?_)
      · have u1 : ez_up h (o + 1) (h o 1) x o 1 = h o 1 := ez_up_ne (by omega)
        refine ez_aload_n dX3_add_20 rfl ?_
        refine g3_2 (by first | assumption | exact ez_isP.mk (by omega)) dX3_add_21 fl_X3_9 ?_
        refine ez_aload_n dX3_add_24 rfl ?_
        refine g3_1 (by first | assumption | exact ez_isP.mk (by omega)) dX3_add_25 fl_X3_18 ?_
        refine ez_iload_n dX3_add_28 rfl ?_
        refine asP1 (by first | assumption | exact ez_isP.mk (by omega)) dX3_add_29 (by omega) ?_
        refine ez_aload_n dX3_add_30 rfl ?_
        refine g3_3 (by first | assumption | exact ez_isP.mk (by omega)) dX3_add_31 fl_X3_15 ?_
        refine ez_aload_n dX3_add_34 rfl ?_
        refine g3_1 (by first | assumption | exact ez_isP.mk (by omega)) dX3_add_35 fl_X3_18 ?_
        rw [u1]
        have u2 : ez_up (ez_up h (o + 1) (h o 1) x) (o + 2) (h o 1) y o 1 = h o 1 := (ez_up_ne (by omega)).trans u1
        refine ez_iload_n dX3_add_38 rfl ?_
        refine asP2 (by first | assumption | exact ez_isP.mk (by omega)) dX3_add_39 (by omega) ?_
        refine ez_aload_n dX3_add_40 rfl ?_
        refine ez_dup dX3_add_41 rfl ?_
        refine g3_1 (by first | assumption | exact ez_isP.mk (by omega)) dX3_add_42 fl_X3_18 ?_
        rw [u2]
        refine ez_iconst dX3_add_45 (by decide) ?_
        refine ez_iadd dX3_add_46 (by omega) ?_
        refine p3_1 (by first | assumption | exact ez_isP.mk (by omega)) dX3_add_47 fl_X3_18 ?_
        refine ez_aload_n dX3_add_50 rfl ?_
        refine g3_1 (by first | assumption | exact ez_isP.mk (by omega)) dX3_add_51 fl_X3_18 ?_
        rw [ez_up_eq]
        refine ez_iconst dX3_add_54 (by decide) ?_
        refine ez_isub dX3_add_55 (by omega) ?_
        refine ez_ireturn (st := []) dX3_add_56 rfl ?_
        refine ez_PI.in (Or.inl ⟨by omega, b_12, by omega, ez_up_eq, fun k => ?_, fun k => ?_, fun o' k a b c => ?_⟩)
        · rw [ez_up_ne (by omega), ez_up_ne (by omega)]
          by_cases e : k = h o 1
          · rw [if_pos e, e, ez_up_eq]
          · rw [if_neg e, ez_up_ne (by omega)]
        · rw [ez_up_ne (by omega)]
          by_cases e : k = h o 1
          · rw [if_pos e, e, ez_up_eq]
          · rw [if_neg e, ez_up_ne (by omega), ez_up_ne (by omega)]
        · rw [ez_up_ne (by omega), ez_up_ne (by omega), ez_up_ne (by omega)]
      · exact absurd c_15 (by decide)
theorem lp_rm {o i m : Int} {h : ez_H} (ho : ez_isP o) (hm0 : h o 1 = m) (hi : 0 ≤ i ∧ i < m ∧ m ≤ 8) : ∀ (n : Nat) (c : Int) (h' : ez_H), (i ≤ c ∧ c < m) → (∀ k : Int, h' (o + 1) k = if i ≤ k ∧ k < c then h (o + 1) (k + 1) else h (o + 1) k) → (∀ k : Int, h' (o + 2) k = if i ≤ k ∧ k < c then h (o + 2) (k + 1) else h (o + 2) k) → (∀ o' k : Int, o' ≠ o + 1 → o' ≠ o + 2 → h' o' k = h o' k) → m - c < n → ez_En M_X3_remove 2 [ez_R o, ez_I i, ez_I c] [] h' (ez_PV (fun h' => h' o 1 = m - 1 ∧ (∀ k : Int, h' (o + 1) k = if i ≤ k ∧ k < m - 1 then h (o + 1) (k + 1) else h (o + 1) k) ∧ (∀ k : Int, h' (o + 2) k = if i ≤ k ∧ k < m - 1 then h (o + 2) (k + 1) else h (o + 2) k) ∧ ∀ o' k : Int, o' ≠ o + 1 → o' ≠ o + 2 → ¬ (o' = o ∧ k = 1) → h' o' k = h o' k)) := by
  intro n
  induction n with
  | zero =>
    intro c h' c0 x1 x2 fr hm
    exfalso
    omega
  | succ n ih =>
    intro c h' c0 x1 x2 fr hm
    have kd := ho.kd.1
    have e1 : h' o 1 = m := (fr o 1 (by omega) (by omega)).trans hm0
    refine ez_iload_n dX3_remove_2 rfl ?_
    refine ez_iconst dX3_remove_3 (by decide) ?_
    refine ez_iadd dX3_remove_4 (by omega) ?_
    refine ez_aload_n dX3_remove_5 rfl ?_
    refine g3_1 (by first | assumption | exact ez_isP.mk (by omega)) dX3_remove_6 fl_X3_18 ?_
    refine ez_ic_ge 46 dX3_remove_9 (by decide) (fun c_9 => ?_) (fun c_9 => ?_)
    · refine ez_aload_n dX3_remove_46 rfl ?_
      refine ez_dup dX3_remove_47 rfl ?_
      refine g3_1 (by first | assumption | exact ez_isP.mk (by omega)) dX3_remove_48 fl_X3_18 ?_
      refine ez_iconst dX3_remove_51 (by decide) ?_
      refine ez_isub dX3_remove_52 (by omega) ?_
      refine p3_1 (by first | assumption | exact ez_isP.mk (by omega)) dX3_remove_53 fl_X3_18 ?_
      refine ez_vreturn (st := []) dX3_remove_56 rfl ?_
      rw [e1]
      refine ez_PV.in ⟨ez_up_eq, fun k => ?_, fun k => ?_, fun o' k a b d => (ez_up_ne (by omega)).trans (fr o' k a b)⟩
      · rw [ez_up_ne (by omega), x1]
        by_cases z : i ≤ k ∧ k < c
        · rw [if_pos z, if_pos (by omega)]
        · rw [if_neg z, if_neg (by omega)]
      · rw [ez_up_ne (by omega), x2]
        by_cases z : i ≤ k ∧ k < c
        · rw [if_pos z, if_pos (by omega)]
        · rw [if_neg z, if_neg (by omega)]
    · have n1 : (∀ k : Int, ez_up (ez_up h' (o + 1) c (h' (o + 1) (c + 1))) (o + 2) c (h' (o + 2) (c + 1)) (o + 1) k = if i ≤ k ∧ k < c + 1 then h (o + 1) (k + 1) else h (o + 1) k) ∧ (∀ k : Int, ez_up (ez_up h' (o + 1) c (h' (o + 1) (c + 1))) (o + 2) c (h' (o + 2) (c + 1)) (o + 2) k = if i ≤ k ∧ k < c + 1 then h (o + 2) (k + 1) else h (o + 2) k) := by
        refine ⟨fun k => ?_, fun k => ?_⟩
        · rw [ez_up_ne (by omega)]
          by_cases e : k = c
          · rw [e, ez_up_eq, if_pos (by omega), x1, if_neg (by omega)]
          · rw [ez_up_ne (by omega), x1]
            by_cases z : i ≤ k ∧ k < c
            · rw [if_pos z, if_pos (by omega)]
            · rw [if_neg z, if_neg (by omega)]
        · by_cases e : k = c
          · rw [e, ez_up_eq, if_pos (by omega), x2, if_neg (by omega)]
          · rw [ez_up_ne (by omega), ez_up_ne (by omega), x2]
            by_cases z : i ≤ k ∧ k < c
            · rw [if_pos z, if_pos (by omega)]
            · rw [if_neg z, if_neg (by omega)]
      have u2 : ez_up h' (o + 1) c (h' (o + 1) (c + 1)) (o + 2) (c + 1) = h' (o + 2) (c + 1) := ez_up_ne (by omega)
      refine ez_aload_n dX3_remove_12 rfl ?_
      refine g3_2 (by first | assumption | exact ez_isP.mk (by omega)) dX3_remove_13 fl_X3_9 ?_
      refine ez_iload_n dX3_remove_16 rfl ?_
      refine ez_aload_n dX3_remove_17 rfl ?_
      refine g3_2 (by first | assumption | exact ez_isP.mk (by omega)) dX3_remove_18 fl_X3_9 ?_
      refine ez_iload_n dX3_remove_21 rfl ?_
      refine ez_iconst dX3_remove_22 (by decide) ?_
      refine ez_iadd dX3_remove_23 (by omega) ?_
      refine alP1 (by first | assumption | exact ez_isP.mk (by omega)) dX3_remove_24 (by omega) ?_
      refine asP1 (by first | assumption | exact ez_isP.mk (by omega)) dX3_remove_25 (by omega) ?_
      refine ez_aload_n dX3_remove_26 rfl ?_
      refine g3_3 (by first | assumption | exact ez_isP.mk (by omega)) dX3_remove_27 fl_X3_15 ?_
      refine ez_iload_n dX3_remove_30 rfl ?_
      refine ez_aload_n dX3_remove_31 rfl ?_
      refine g3_3 (by first | assumption | exact ez_isP.mk (by omega)) dX3_remove_32 fl_X3_15 ?_
      refine ez_iload_n dX3_remove_35 rfl ?_
      refine ez_iconst dX3_remove_36 (by decide) ?_
      refine ez_iadd dX3_remove_37 (by omega) ?_
      refine alP2 (by first | assumption | exact ez_isP.mk (by omega)) dX3_remove_38 (by omega) ?_
      rw [u2]
      refine asP2 (by first | assumption | exact ez_isP.mk (by omega)) dX3_remove_39 (by omega) ?_
      refine ez_iinc dX3_remove_40 rfl (by decide) (by decide) (by omega) ?_
      refine ez_goto 2 dX3_remove_43 (by decide) ?_
      exact ih (c + 1) _ (by omega) n1.1 n1.2 (fun o' k a b => (ez_up_ne (by omega)).trans ((ez_up_ne (by omega)).trans (fr o' k a b))) (by omega)
theorem c_X3_remove {o i m : Int} {h : ez_H} (ho : ez_isP o) (hm0 : h o 1 = m) (hi : 0 ≤ i ∧ i < m ∧ m ≤ 8) : ez_Ct M_X3_remove [ez_R o, ez_I i] h ((ez_PV (fun h' => h' o 1 = m - 1 ∧ (∀ k : Int, h' (o + 1) k = if i ≤ k ∧ k < m - 1 then h (o + 1) (k + 1) else h (o + 1) k) ∧ (∀ k : Int, h' (o + 2) k = if i ≤ k ∧ k < m - 1 then h (o + 2) (k + 1) else h (o + 2) k) ∧ ∀ o' k : Int, o' ≠ o + 1 → o' ≠ o + 2 → ¬ (o' = o ∧ k = 1) → h' o' k = h o' k))) := by
  refine ez_of (by decide) (Nat.le_of_ble_eq_true rfl) (L0 := [ez_R o, ez_I i, ez_N]) rfl ?_
  refine ez_iload_n dX3_remove_0 rfl ?_
  refine ez_istore_n dX3_remove_1 (by decide) ?_
  exact lp_rm ho hm0 hi 9 i h (by omega) (fun k => by rw [if_neg (by omega)]) (fun k => by rw [if_neg (by omega)]) (fun _ _ _ _ => rfl) (by omega)
theorem lp_fg {p : Int} {h : ez_H} (hp : 0 ≤ p ∧ p < 5) (hn : 0 ≤ h 0 5 ∧ h 0 5 ≤ 5) : ∀ (n : Nat) (c : Int) (h' : ez_H), (0 ≤ c ∧ c ≤ h 0 5) → (∀ q : Int, 0 ≤ q → q < c → h' (18 + 3 * (p * 5 + q)) 0 = 0 ∧ h' (18 + 3 * (q * 5 + p)) 0 = 0) → (∀ o k : Int, (k ≠ 0 ∨ o < 18 ∨ 92 < o ∨ (o - 18) % 3 ≠ 0) → h' o k = h o k) → (∀ o : Int, 18 ≤ o → h' o 0 = h o 0 ∨ h' o 0 = 0) → h 0 5 - c < n → ez_En M_X5_forgetLaysOf 2 [ez_R 0, ez_I p, ez_I c] [] h' (ez_PV (fun h' => h' 0 4 = 0 ∧ (∀ q : Int, 0 ≤ q → q < h 0 5 → h' (18 + 3 * (p * 5 + q)) 0 = 0 ∧ h' (18 + 3 * (q * 5 + p)) 0 = 0) ∧ (∀ o k : Int, ¬ (o = 0 ∧ k = 4) → (k ≠ 0 ∨ o < 18 ∨ 92 < o ∨ (o - 18) % 3 ≠ 0) → h' o k = h o k) ∧ (∀ o : Int, 18 ≤ o → h' o 0 = h o 0 ∨ h' o 0 = 0))) := by
  intro n
  induction n with
  | zero =>
    intro c h' c0 zz fr mo hm
    exfalso
    omega
  | succ n ih =>
    intro c h' c0 zz fr mo hm
    have e5 : h' 0 5 = h 0 5 := fr 0 5 (by omega)
    refine ez_iload_n dX5_forgetLaysOf_2 rfl ?_
    refine ez_aload_n dX5_forgetLaysOf_3 rfl ?_
    refine g5_5 dX5_forgetLaysOf_4 fl_X5_41 ?_
    refine ez_ic_ge 44 dX5_forgetLaysOf_7 (by decide) (fun c_7 => ?_) (fun c_7 => ?_)
    · refine ez_aload_n dX5_forgetLaysOf_44 rfl ?_
      refine ez_iconst dX5_forgetLaysOf_45 (by decide) ?_
      refine p5_4 dX5_forgetLaysOf_46 fl_X5_37 (by first | exact Or.inl rfl | exact Or.inr rfl | omega) ?_
      refine ez_vreturn (st := []) dX5_forgetLaysOf_49 rfl ?_
      refine ez_PV.in ⟨ez_up_eq, fun q q0 q1 => ?_, fun o k a b => (ez_up_ne a).trans (fr o k b), fun o o0 => ?_⟩
      · rw [ez_up_ne (by omega), ez_up_ne (by omega)]
        exact zz q q0 (by omega)
      · rw [ez_up_ne (by omega)]
        exact mo o o0
    · have n1 : (∀ q : Int, 0 ≤ q → q < c + 1 → (ez_up (ez_up h' (18 + 3 * (p * 5 + c)) 0 0) (18 + 3 * (c * 5 + p)) 0 0) (18 + 3 * (p * 5 + q)) 0 = 0 ∧ (ez_up (ez_up h' (18 + 3 * (p * 5 + c)) 0 0) (18 + 3 * (c * 5 + p)) 0 0) (18 + 3 * (q * 5 + p)) 0 = 0) ∧ (∀ o : Int, 18 ≤ o → (ez_up (ez_up h' (18 + 3 * (p * 5 + c)) 0 0) (18 + 3 * (c * 5 + p)) 0 0) o 0 = h o 0 ∨ (ez_up (ez_up h' (18 + 3 * (p * 5 + c)) 0 0) (18 + 3 * (c * 5 + p)) 0 0) o 0 = 0) := by
        have val : ∀ o : Int, (ez_up (ez_up h' (18 + 3 * (p * 5 + c)) 0 0) (18 + 3 * (c * 5 + p)) 0 0) o 0 = h' o 0 ∨ (ez_up (ez_up h' (18 + 3 * (p * 5 + c)) 0 0) (18 + 3 * (c * 5 + p)) 0 0) o 0 = 0 := fun o => by
          by_cases e1 : o = 18 + 3 * (c * 5 + p)
          · right
            rw [e1, ez_up_eq]
          · by_cases e2 : o = 18 + 3 * (p * 5 + c)
            · right
              rw [ez_up_ne (by omega), e2, ez_up_eq]
            · left
              rw [ez_up_ne (by omega), ez_up_ne (by omega)]
        refine ⟨fun q q0 q1 => ⟨?_, ?_⟩, fun o o0 => ?_⟩
        · by_cases e : q = c
          · rw [e]
            by_cases e1 : p = c
            · rw [e1, ez_up_eq]
            · rw [ez_up_ne (by omega), ez_up_eq]
          · have z := (zz q q0 (by omega)).1
            rcases val (18 + 3 * (p * 5 + q)) with y | y <;> omega
        · by_cases e : q = c
          · rw [e, ez_up_eq]
          · have z := (zz q q0 (by omega)).2
            rcases val (18 + 3 * (q * 5 + p)) with y | y <;> omega
        · have z := mo o o0
          rcases val o with y | y <;> omega
      refine ez_aload_n dX5_forgetLaysOf_10 rfl ?_
      refine g5_1 dX5_forgetLaysOf_11 fl_X5_18 ?_
      refine ez_iload_n dX5_forgetLaysOf_14 rfl ?_
      refine ez_iconst dX5_forgetLaysOf_15 (by decide) ?_
      refine ez_imul dX5_forgetLaysOf_16 (by omega) ?_
      refine ez_iload_n dX5_forgetLaysOf_17 rfl ?_
      refine ez_iadd dX5_forgetLaysOf_18 (by omega) ?_
      refine ez_aaloadL dX5_forgetLaysOf_19 (by omega) ?_
      refine ez_iconst dX5_forgetLaysOf_20 (by decide) ?_
      refine p1_0 (by first | assumption | exact ez_isL.mk (by omega)) dX5_forgetLaysOf_21 fl_X5_190 (by first | exact Or.inl rfl | exact Or.inr rfl | omega) ?_
      refine ez_aload_n dX5_forgetLaysOf_24 rfl ?_
      refine g5_1 dX5_forgetLaysOf_25 fl_X5_18 ?_
      refine ez_iload_n dX5_forgetLaysOf_28 rfl ?_
      refine ez_iconst dX5_forgetLaysOf_29 (by decide) ?_
      refine ez_imul dX5_forgetLaysOf_30 (by omega) ?_
      refine ez_iload_n dX5_forgetLaysOf_31 rfl ?_
      refine ez_iadd dX5_forgetLaysOf_32 (by omega) ?_
      refine ez_aaloadL dX5_forgetLaysOf_33 (by omega) ?_
      refine ez_iconst dX5_forgetLaysOf_34 (by decide) ?_
      refine p1_0 (by first | assumption | exact ez_isL.mk (by omega)) dX5_forgetLaysOf_35 fl_X5_190 (by first | exact Or.inl rfl | exact Or.inr rfl | omega) ?_
      refine ez_iinc dX5_forgetLaysOf_38 rfl (by decide) (by decide) (by omega) ?_
      refine ez_goto 2 dX5_forgetLaysOf_41 (by decide) ?_
      exact ih (c + 1) _ (by omega) n1.1 (fun o k a => (ez_up_ne (by omega)).trans ((ez_up_ne (by omega)).trans (fr o k a))) n1.2 (by omega)
theorem c_X5_forgetLaysOf {p : Int} {h : ez_H} (hp : 0 ≤ p ∧ p < 5) (hn : 0 ≤ h 0 5 ∧ h 0 5 ≤ 5) : ez_Ct M_X5_forgetLaysOf [ez_R 0, ez_I p] h ((ez_PV (fun h' => h' 0 4 = 0 ∧ (∀ q : Int, 0 ≤ q → q < h 0 5 → h' (18 + 3 * (p * 5 + q)) 0 = 0 ∧ h' (18 + 3 * (q * 5 + p)) 0 = 0) ∧ (∀ o k : Int, ¬ (o = 0 ∧ k = 4) → (k ≠ 0 ∨ o < 18 ∨ 92 < o ∨ (o - 18) % 3 ≠ 0) → h' o k = h o k) ∧ (∀ o : Int, 18 ≤ o → h' o 0 = h o 0 ∨ h' o 0 = 0)))) := by
  refine ez_of (by decide) (Nat.le_of_ble_eq_true rfl) (L0 := [ez_R 0, ez_I p, ez_N]) rfl ?_
  refine ez_iconst dX5_forgetLaysOf_0 (by decide) ?_
  refine ez_istore_n dX5_forgetLaysOf_1 (by decide) ?_
  exact lp_fg hp hn 6 0 h (by omega) (fun q q0 q1 => by omega) (fun _ _ _ => rfl) (fun _ _ => Or.inl rfl) (by omega)
