/-! the reference's small methods -/
def fx_far (ax ay bx by_ : Int) : Int := max ((ax - bx).natAbs : Int) ((ay - by_).natAbs : Int)
def fx_tx (k x y : Int) : Int := if k = 0 then x else if k = 1 then -y else if k = 2 then -x else y
def fx_ty (k x y : Int) : Int := if k = 0 then y else if k = 1 then x else if k = 2 then -y else -x
theorem c_X6_isIn {v a b : Int} {h : ez_H} : ez_Ct M_X6_isIn [ez_I v, ez_I a, ez_I b] h (ez_B h (a ≤ v ∧ v ≤ b)) := by
  refine ez_of (by decide) (Nat.le_of_ble_eq_true rfl) (L0 := [ez_I v, ez_I a, ez_I b]) rfl ?_
  refine ez_iload_n dX6_isIn_0 rfl ?_
  refine ez_iload_n dX6_isIn_1 rfl ?_
  refine ez_ic_lt 14 dX6_isIn_2 (by decide) (fun c_2 => ?_) (fun c_2 => ?_)
  · refine ez_iconst dX6_isIn_14 (by decide) ?_
    refine ez_zreturn (st := []) dX6_isIn_15 rfl (by first | exact Or.inl rfl | exact Or.inr rfl | omega | (split <;> omega)) ?_
    first | exact ez_B.t (by omega) | exact ez_B.f (by omega)
  · refine ez_iload_n dX6_isIn_5 rfl ?_
    refine ez_iload_n dX6_isIn_6 rfl ?_
    refine ez_ic_gt 14 dX6_isIn_7 (by decide) (fun c_7 => ?_) (fun c_7 => ?_)
    · refine ez_iconst dX6_isIn_14 (by decide) ?_
      refine ez_zreturn (st := []) dX6_isIn_15 rfl (by first | exact Or.inl rfl | exact Or.inr rfl | omega | (split <;> omega)) ?_
      first | exact ez_B.t (by omega) | exact ez_B.f (by omega)
    · refine ez_iconst dX6_isIn_10 (by decide) ?_
      refine ez_goto 15 dX6_isIn_11 (by decide) ?_
      refine ez_zreturn (st := []) dX6_isIn_15 rfl (by first | exact Or.inl rfl | exact Or.inr rfl | omega | (split <;> omega)) ?_
      first | exact ez_B.t (by omega) | exact ez_B.f (by omega)
theorem c_X6_isPlate {p : Int} {h : ez_H} (hp : 0 ≤ h 121 0 ∧ h 121 0 ≤ 5) : ez_Ct M_X6_isPlate [ez_R 121, ez_I p] h (ez_B h (0 ≤ p ∧ p < h 121 0)) := by
  refine ez_of (by decide) (Nat.le_of_ble_eq_true rfl) (L0 := [ez_R 121, ez_I p]) rfl ?_
  refine ez_iload_n dX6_isPlate_0 rfl ?_
  refine ez_iconst dX6_isPlate_1 (by decide) ?_
  refine ez_aload_n dX6_isPlate_2 rfl ?_
  refine g6_0 dX6_isPlate_3 fl_X6_48 ?_
  refine ez_iconst dX6_isPlate_6 (by decide) ?_
  refine ez_isub dX6_isPlate_7 (by omega) ?_
  refine cl_X6_isIn dX6_isPlate_8 ml_X6_51 ft_X6_isPlate__X6_isIn (Nat.le_of_ble_eq_true rfl) c_X6_isIn (ez_kB (fun b_8 => ?_) (fun b_8 => ?_))
  · refine ez_zreturn (st := []) dX6_isPlate_11 rfl (by first | exact Or.inl rfl | exact Or.inr rfl | omega | (split <;> omega)) ?_
    first | exact ez_B.t (by omega) | exact ez_B.f (by omega)
  · refine ez_zreturn (st := []) dX6_isPlate_11 rfl (by first | exact Or.inl rfl | exact Or.inr rfl | omega | (split <;> omega)) ?_
    first | exact ez_B.t (by omega) | exact ez_B.f (by omega)
theorem c_X6_abs {v : Int} {h : ez_H} (hv : -1000000000 ≤ v ∧ v ≤ 1000000000) : ez_Ct M_X6_abs [ez_I v] h (ez_F h (v.natAbs : Int)) := by
  refine ez_of (by decide) (Nat.le_of_ble_eq_true rfl) (L0 := [ez_I v]) rfl ?_
  refine ez_iload_n dX6_abs_0 rfl ?_
  refine ez_if_ge 9 dX6_abs_1 (by decide) (fun c_1 => ?_) (fun c_1 => ?_)
  · refine ez_iload_n dX6_abs_9 rfl ?_
    refine ez_ireturn (st := []) dX6_abs_10 rfl ?_
    exact ez_F.in (by omega)
  · refine ez_iload_n dX6_abs_4 rfl ?_
    refine ez_ineg dX6_abs_5 (by omega) ?_
    refine ez_goto 10 dX6_abs_6 (by decide) ?_
    refine ez_ireturn (st := []) dX6_abs_10 rfl ?_
    exact ez_F.in (by omega)
theorem c_X6_apart {ax ay bx by_ : Int} {h : ez_H} (hv : (-1000000 ≤ ax ∧ ax ≤ 1000000) ∧ (-1000000 ≤ ay ∧ ay ≤ 1000000) ∧ (-1000000 ≤ bx ∧ bx ≤ 1000000) ∧ (-1000000 ≤ by_ ∧ by_ ≤ 1000000)) : ez_Ct M_X6_apart [ez_I ax, ez_I ay, ez_I bx, ez_I by_] h (ez_F h (fx_far ax ay bx by_)) := by
  refine ez_of (by decide) (Nat.le_of_ble_eq_true rfl) (L0 := [ez_I ax, ez_I ay, ez_I bx, ez_I by_]) rfl ?_
  refine ez_iload_n dX6_apart_0 rfl ?_
  refine ez_iload_n dX6_apart_1 rfl ?_
  refine ez_isub dX6_apart_2 (by omega) ?_
  refine cl_X6_abs dX6_apart_3 ml_X6_62 ft_X6_apart__X6_abs (Nat.le_of_ble_eq_true rfl) (c_X6_abs (by omega)) (ez_kF ?_)
  refine ez_iload_n dX6_apart_6 rfl ?_
  refine ez_iload_n dX6_apart_7 rfl ?_
  refine ez_isub dX6_apart_8 (by omega) ?_
  refine cl_X6_abs dX6_apart_9 ml_X6_62 ft_X6_apart__X6_abs (Nat.le_of_ble_eq_true rfl) (c_X6_abs (by omega)) (ez_kF ?_)
  refine ez_ic_le 24 dX6_apart_12 (by decide) (fun c_12 => ?_) (fun c_12 => ?_)
  · refine ez_iload_n dX6_apart_24 rfl ?_
    refine ez_iload_n dX6_apart_25 rfl ?_
    refine ez_isub dX6_apart_26 (by omega) ?_
    refine cl_X6_abs dX6_apart_27 ml_X6_62 ft_X6_apart__X6_abs (Nat.le_of_ble_eq_true rfl) (c_X6_abs (by omega)) (ez_kF ?_)
    refine ez_ireturn (st := []) dX6_apart_30 rfl ?_
    exact ez_F.in (by unfold fx_far; omega)
  · refine ez_iload_n dX6_apart_15 rfl ?_
    refine ez_iload_n dX6_apart_16 rfl ?_
    refine ez_isub dX6_apart_17 (by omega) ?_
    refine cl_X6_abs dX6_apart_18 ml_X6_62 ft_X6_apart__X6_abs (Nat.le_of_ble_eq_true rfl) (c_X6_abs (by omega)) (ez_kF ?_)
    refine ez_goto 30 dX6_apart_21 (by decide) ?_
    refine ez_ireturn (st := []) dX6_apart_30 rfl ?_
    exact ez_F.in (by unfold fx_far; omega)
theorem c_X6_turnX {k x y : Int} {h : ez_H} (hv : (-1000000 ≤ x ∧ x ≤ 1000000) ∧ (-1000000 ≤ y ∧ y ≤ 1000000)) : ez_Ct M_X6_turnX [ez_I k, ez_I x, ez_I y] h (ez_F h (fx_tx k x y)) := by
  refine ez_of (by decide) (Nat.le_of_ble_eq_true rfl) (L0 := [ez_I k, ez_I x, ez_I y]) rfl ?_
  refine ez_iload_n dX6_turnX_0 rfl ?_
  refine ez_if_ne 8 dX6_turnX_1 (by decide) (fun c_1 => ?_) (fun c_1 => ?_)
  · refine ez_iload_n dX6_turnX_8 rfl ?_
    refine ez_iconst dX6_turnX_9 (by decide) ?_
    refine ez_ic_ne 18 dX6_turnX_10 (by decide) (fun c_10 => ?_) (fun c_10 => ?_)
    · refine ez_iload_n dX6_turnX_18 rfl ?_
      refine ez_iconst dX6_turnX_19 (by decide) ?_
      refine ez_ic_ne 28 dX6_turnX_20 (by decide) (fun c_20 => ?_) (fun c_20 => ?_)
      · refine ez_iload_n dX6_turnX_28 rfl ?_
        refine ez_ireturn (st := []) dX6_turnX_29 rfl ?_
        exact ez_F.in (by unfold fx_tx; simp [*])
      · refine ez_iload_n dX6_turnX_23 rfl ?_
        refine ez_ineg dX6_turnX_24 (by omega) ?_
        refine ez_goto 29 dX6_turnX_25 (by decide) ?_
        refine ez_ireturn (st := []) dX6_turnX_29 rfl ?_
        exact ez_F.in (by unfold fx_tx; simp [*])
    · refine ez_iload_n dX6_turnX_13 rfl ?_
      refine ez_ineg dX6_turnX_14 (by omega) ?_
      refine ez_goto 29 dX6_turnX_15 (by decide) ?_
      refine ez_ireturn (st := []) dX6_turnX_29 rfl ?_
      exact ez_F.in (by unfold fx_tx; simp [*])
  · refine ez_iload_n dX6_turnX_4 rfl ?_
    refine ez_goto 29 dX6_turnX_5 (by decide) ?_
    refine ez_ireturn (st := []) dX6_turnX_29 rfl ?_
    exact ez_F.in (by unfold fx_tx; simp [*])
theorem c_X6_turnY {k x y : Int} {h : ez_H} (hv : (-1000000 ≤ x ∧ x ≤ 1000000) ∧ (-1000000 ≤ y ∧ y ≤ 1000000)) : ez_Ct M_X6_turnY [ez_I k, ez_I x, ez_I y] h (ez_F h (fx_ty k x y)) := by
  refine ez_of (by decide) (Nat.le_of_ble_eq_true rfl) (L0 := [ez_I k, ez_I x, ez_I y]) rfl ?_
  refine ez_iload_n dX6_turnY_0 rfl ?_
  refine ez_if_ne 8 dX6_turnY_1 (by decide) (fun c_1 => ?_) (fun c_1 => ?_)
  · refine ez_iload_n dX6_turnY_8 rfl ?_
    refine ez_iconst dX6_turnY_9 (by decide) ?_
    refine ez_ic_ne 17 dX6_turnY_10 (by decide) (fun c_10 => ?_) (fun c_10 => ?_)
    · refine ez_iload_n dX6_turnY_17 rfl ?_
      refine ez_iconst dX6_turnY_18 (by decide) ?_
      refine ez_ic_ne 27 dX6_turnY_19 (by decide) (fun c_19 => ?_) (fun c_19 => ?_)
      · refine ez_iload_n dX6_turnY_27 rfl ?_
        refine ez_ineg dX6_turnY_28 (by omega) ?_
        refine ez_ireturn (st := []) dX6_turnY_29 rfl ?_
        exact ez_F.in (by unfold fx_ty; simp [*])
      · refine ez_iload_n dX6_turnY_22 rfl ?_
        refine ez_ineg dX6_turnY_23 (by omega) ?_
        refine ez_goto 29 dX6_turnY_24 (by decide) ?_
        refine ez_ireturn (st := []) dX6_turnY_29 rfl ?_
        exact ez_F.in (by unfold fx_ty; simp [*])
    · refine ez_iload_n dX6_turnY_13 rfl ?_
      refine ez_goto 29 dX6_turnY_14 (by decide) ?_
      refine ez_ireturn (st := []) dX6_turnY_29 rfl ?_
      exact ez_F.in (by unfold fx_ty; simp [*])
  · refine ez_iload_n dX6_turnY_4 rfl ?_
    refine ez_goto 29 dX6_turnY_5 (by decide) ?_
    refine ez_ireturn (st := []) dX6_turnY_29 rfl ?_
    exact ez_F.in (by unfold fx_ty; simp [*])
theorem c_X6_count {v : Int} {h : ez_H} (hv : 0 ≤ v ∧ v ≤ 1000000) : ez_Ct M_X6_count [ez_I v] h (ez_F h ((v + 999) / 1000)) := by
  refine ez_of (by decide) (Nat.le_of_ble_eq_true rfl) (L0 := [ez_I v]) rfl ?_
  refine ez_iload_n dX6_count_0 rfl ?_
  refine ez_sipush dX6_count_1 (by decide) (by decide) ?_
  refine ez_iadd dX6_count_4 (by omega) ?_
  refine ez_iconst dX6_count_5 (by decide) ?_
  refine ez_isub dX6_count_6 (by omega) ?_
  refine ez_sipush dX6_count_7 (by decide) (by decide) ?_
  refine ez_idivN dX6_count_10 (by omega) (by omega) ?_
  refine ez_ireturn (st := []) dX6_count_11 rfl ?_
  exact ez_F.in (by omega)
