/-! the class: the JDK's own, and small methods -/
theorem ez_ofF {M : ez_M} {As L0 : List ez_V} {h : ez_H} {Q : ez_H → Option ez_V → Prop} (hp : plainFor M.1 = true) (hn : (ez_fl As).length ≤ M.2.2.1) (hL : ez_ini M.2.2.1 As = L0) (k : ez_En M 0 L0 [] h Q) : ez_Ct M As h Q := by
  intro l G base ad hok
  refine va_MetF (cc := M.2.1) (maxL := M.2.2.1) (ret := M.2.2.2.1) hp rfl ?_
  intro p e s m args below meth c s₁ B hml hv
  obtain ⟨rfl, hK, hP, hD, hO, hb, hZ, hT, hNW⟩ := hv
  have hts := atoms_spec (ws := ez_w M) B.pre
  rw [lg_entry_eq]
  subst hL
  exact k p l e s m _ below meth c G base ad ⟨B.exec, B.bytes, B.returns, hml, findClass_of_methodNamed B.named, fun w hw => hts w (List.mem_cons_of_mem _ hw), B.notSynchronized, hK, hZ, hT, hb, hNW⟩ s.heap [] _ ⟨hP, hD, va_S.rf, hO⟩ (ez_ini_ls hn) (ez_ini_ok hok) (fun w hw => by cases hw)
theorem lp_fi {o v : Int} {h : ez_H} (ho : 0 ≤ o ∧ o < 133) (hk : ez_kd o = 7) (hr : 0 ≤ ez_len o ∧ ez_len o < 3000) : ∀ (n : Nat) (i : Int), (0 ≤ i) → (i ≤ ez_len o) → ez_len o - i < n → ez_En M_J7_fill_53178 5 [ez_R o, ez_I v, ez_I i, ez_I (ez_len o)] [] (ez_fill h o i v) (ez_S (ez_fill h o (ez_len o) v)) := by
  intro n
  induction n with
  | zero =>
    intro i i0 i1 hm
    exfalso
    omega
  | succ n ih =>
    intro i i0 i1 hm
    refine ez_iload_n dJ7_fill_53178_5 rfl ?_
    refine ez_iload_n dJ7_fill_53178_6 rfl ?_
    refine ez_ic_ge 20 dJ7_fill_53178_7 (by decide) (fun c_7 => ?_) (fun c_7 => ?_)
    · refine ez_vreturn (st := []) dJ7_fill_53178_20 rfl ?_
      exact ez_S.in (by rw [show i = ez_len o by omega])
    · refine ez_aload_n dJ7_fill_53178_10 rfl ?_
      refine ez_iload_n dJ7_fill_53178_11 rfl ?_
      refine ez_iload_n dJ7_fill_53178_12 rfl ?_
      refine ez_iastore dJ7_fill_53178_13 ho hk (by omega) ?_
      refine ez_iinc dJ7_fill_53178_14 rfl (by decide) (by decide) (by omega) ?_
      refine ez_goto 5 dJ7_fill_53178_17 (by decide) ?_
      rw [ez_fill_s (by omega)]
      exact ih (i + 1) (by omega) (by omega) (by omega)
theorem c_J7_fill_53178 {o v : Int} {h : ez_H} (ho : 0 ≤ o ∧ o < 133) (hk : ez_kd o = 7) (hr : 0 ≤ ez_len o ∧ ez_len o < 3000) : ez_Ct M_J7_fill_53178 [ez_R o, ez_I v] h (ez_S (ez_fill h o (ez_len o) v)) := by
  refine ez_of (by decide) (Nat.le_of_ble_eq_true rfl) (L0 := [ez_R o, ez_I v, ez_N, ez_N]) rfl ?_
  refine ez_iconst dJ7_fill_53178_0 (by decide) ?_
  refine ez_istore_n dJ7_fill_53178_1 (by decide) ?_
  refine ez_aload_n dJ7_fill_53178_2 rfl ?_
  refine ez_alenI dJ7_fill_53178_3 ho hk hr ?_
  refine ez_istore_n dJ7_fill_53178_4 (by decide) ?_
  have k := lp_fi (v := v) (h := h) ho hk hr ((ez_len o).toNat + 1) 0 (by omega) (by omega) (by omega)
  rw [ez_fill_0] at k
  exact k
theorem lp_fl {o v : Int} {h : ez_H} (ho : 0 ≤ o ∧ o < 133) (hk : ez_kd o = 8) (hr : 0 ≤ ez_len o ∧ ez_len o < 3000) : ∀ (n : Nat) (i : Int), (0 ≤ i) → (i ≤ ez_len o) → ez_len o - i < n → ez_En M_J7_fill_d0a16 6 [ez_R o, ez_L v, ez_N, ez_I i, ez_I (ez_len o)] [] (ez_fill h o i v) (ez_S (ez_fill h o (ez_len o) v)) := by
  intro n
  induction n with
  | zero =>
    intro i i0 i1 hm
    exfalso
    omega
  | succ n ih =>
    intro i i0 i1 hm
    refine ez_iload_n dJ7_fill_d0a16_6 rfl ?_
    refine ez_iload dJ7_fill_d0a16_7 rfl ?_
    refine ez_ic_ge 22 dJ7_fill_d0a16_9 (by decide) (fun c_9 => ?_) (fun c_9 => ?_)
    · refine ez_vreturn (st := []) dJ7_fill_d0a16_22 rfl ?_
      exact ez_S.in (by rw [show i = ez_len o by omega])
    · refine ez_aload_n dJ7_fill_d0a16_12 rfl ?_
      refine ez_iload_n dJ7_fill_d0a16_13 rfl ?_
      refine ez_lload_n dJ7_fill_d0a16_14 rfl ?_
      refine ez_lastore dJ7_fill_d0a16_15 ho hk (by omega) ?_
      refine ez_iinc dJ7_fill_d0a16_16 rfl (by decide) (by decide) (by omega) ?_
      refine ez_goto 6 dJ7_fill_d0a16_19 (by decide) ?_
      rw [ez_fill_s (by omega)]
      exact ih (i + 1) (by omega) (by omega) (by omega)
theorem c_J7_fill_d0a16 {o v : Int} {h : ez_H} (ho : 0 ≤ o ∧ o < 133) (hk : ez_kd o = 8) (hr : 0 ≤ ez_len o ∧ ez_len o < 3000) : ez_Ct M_J7_fill_d0a16 [ez_R o, ez_L v] h (ez_S (ez_fill h o (ez_len o) v)) := by
  refine ez_of (by decide) (Nat.le_of_ble_eq_true rfl) (L0 := [ez_R o, ez_L v, ez_N, ez_N, ez_N]) rfl ?_
  refine ez_iconst dJ7_fill_d0a16_0 (by decide) ?_
  refine ez_istore_n dJ7_fill_d0a16_1 (by decide) ?_
  refine ez_aload_n dJ7_fill_d0a16_2 rfl ?_
  refine ez_alenJ dJ7_fill_d0a16_3 ho hk hr ?_
  refine ez_istore dJ7_fill_d0a16_4 (by decide) ?_
  have k := lp_fl (v := v) (h := h) ho hk hr ((ez_len o).toNat + 1) 0 (by omega) (by omega) (by omega)
  rw [ez_fill_0] at k
  exact k
theorem c_J9_abs_0f7a4 {v : Int} {h : ez_H} (hv : -1000000000 ≤ v ∧ v ≤ 1000000000) : ez_Ct M_J9_abs_0f7a4 [ez_I v] h (ez_F h (v.natAbs : Int)) := by
  refine ez_ofF (by decide +kernel) (Nat.le_of_ble_eq_true rfl) (L0 := [ez_I v]) rfl ?_
  refine ez_iload_n dJ9_abs_0f7a4_0 rfl ?_
  refine ez_if_ge 9 dJ9_abs_0f7a4_1 (by decide) (fun c_1 => ?_) (fun c_1 => ?_)
  · refine ez_iload_n dJ9_abs_0f7a4_9 rfl ?_
    refine ez_ireturn (st := []) dJ9_abs_0f7a4_10 rfl ?_
    exact ez_F.in (by omega)
  · refine ez_iload_n dJ9_abs_0f7a4_4 rfl ?_
    refine ez_ineg dJ9_abs_0f7a4_5 (by omega) ?_
    refine ez_goto 10 dJ9_abs_0f7a4_6 (by decide) ?_
    refine ez_ireturn (st := []) dJ9_abs_0f7a4_10 rfl ?_
    exact ez_F.in (by omega)
theorem c_J9_max_7cf53 {a b : Int} {h : ez_H} : ez_Ct M_J9_max_7cf53 [ez_I a, ez_I b] h (ez_F h (max a b)) := by
  refine ez_ofF (by decide +kernel) (Nat.le_of_ble_eq_true rfl) (L0 := [ez_I a, ez_I b]) rfl ?_
  refine ez_iload_n dJ9_max_7cf53_0 rfl ?_
  refine ez_iload_n dJ9_max_7cf53_1 rfl ?_
  refine ez_ic_lt 9 dJ9_max_7cf53_2 (by decide) (fun c_2 => ?_) (fun c_2 => ?_)
  · refine ez_iload_n dJ9_max_7cf53_9 rfl ?_
    refine ez_ireturn (st := []) dJ9_max_7cf53_10 rfl ?_
    exact ez_F.in (by omega)
  · refine ez_iload_n dJ9_max_7cf53_5 rfl ?_
    refine ez_goto 10 dJ9_max_7cf53_6 (by decide) ?_
    refine ez_ireturn (st := []) dJ9_max_7cf53_10 rfl ?_
    exact ez_F.in (by omega)
theorem en_up {m y : Int} (hy : 0 < y) (hm : 0 ≤ m) : (m / y * y = m → (m + y - 1) / y = m / y) ∧ (m / y * y ≠ m → (m + y - 1) / y = m / y + 1) := by
  obtain ⟨-, -, -, h4, h5, h6, -, -⟩ := en_div hm hy
  have e0 : y * (m / y) = m / y * y := Int.mul_comm _ _
  constructor
  · intro h
    have e : m + y - 1 = (y - 1) + y * (m / y) := by omega
    rw [e, Int.add_mul_ediv_left _ _ (show y ≠ 0 by omega), Int.ediv_eq_zero_of_lt (by omega) (by omega)]
    omega
  · intro h
    have e1 : y * (m / y + 1) = y * (m / y) + y := by rw [Int.mul_add, Int.mul_one]
    have e : m + y - 1 = (m % y - 1) + y * (m / y + 1) := by omega
    rw [e, Int.add_mul_ediv_left _ _ (show y ≠ 0 by omega), Int.ediv_eq_zero_of_lt (by omega) (by omega)]
    omega
theorem c_J9_floorDiv_7cf53 {x y : Int} {h : ez_H} (hx : -1000000000 ≤ x ∧ x ≤ 1000000000) (hy : 0 < y ∧ y ≤ 1000000) : ez_Ct M_J9_floorDiv_7cf53 [ez_I x, ez_I y] h (ez_F h (x / y)) := by
  refine ez_ofF (by decide +kernel) (Nat.le_of_ble_eq_true rfl) (L0 := [ez_I x, ez_I y, ez_N]) rfl ?_
  refine ez_iload_n dJ9_floorDiv_7cf53_0 rfl ?_
  refine ez_iload_n dJ9_floorDiv_7cf53_1 rfl ?_
  refine ez_idiv dJ9_floorDiv_7cf53_2 (by omega) (by have := en_tdiv_bd (v := x) hy.1 hx; omega) ?_
  refine ez_istore_n dJ9_floorDiv_7cf53_3 (by decide) ?_
  refine ez_iload_n dJ9_floorDiv_7cf53_4 rfl ?_
  refine ez_iload_n dJ9_floorDiv_7cf53_5 rfl ?_
  refine ez_ixor dJ9_floorDiv_7cf53_6 (fun z_6 hz_6 => ?_)
  refine ez_if_ge 21 dJ9_floorDiv_7cf53_7 (by decide) (fun c_7 => ?_) (fun c_7 => ?_)
  · refine ez_iload_n dJ9_floorDiv_7cf53_21 rfl ?_
    refine ez_ireturn (st := []) dJ9_floorDiv_7cf53_22 rfl ?_
    first
      | exact ez_F.in (by rw [(en_div (show 0 ≤ x by omega) hy.1).1])
      | exact ez_F.in (by rw [← e1, e2.1 (by omega)])
  · have hxn : x < 0 := by omega
    have e0 : x.tdiv y = -(-x / y) := by rw [← (en_div (show 0 ≤ -x by omega) hy.1).1, Int.neg_tdiv, Int.neg_neg]
    obtain ⟨-, d2, d3, -, -, -, d7, d8⟩ := en_div (show 0 ≤ -x by omega) hy.1
    have e1 := en_down hy.1 hxn
    have e2 := en_up (m := -x) hy.1 (by omega)
    rw [e0]
    have e3 : -(-x / y) * y = -(-x / y * y) := Int.neg_mul _ _
    refine ez_iload_n dJ9_floorDiv_7cf53_10 rfl ?_
    refine ez_iload_n dJ9_floorDiv_7cf53_11 rfl ?_
    refine ez_imul dJ9_floorDiv_7cf53_12 (by rw [e3]; omega) ?_
    rw [e3]
    refine ez_iload_n dJ9_floorDiv_7cf53_13 rfl ?_
    refine ez_ic_eq 21 dJ9_floorDiv_7cf53_14 (by decide) (fun c_14 => ?_) (fun c_14 => ?_)
    · refine ez_iload_n dJ9_floorDiv_7cf53_21 rfl ?_
      refine ez_ireturn (st := []) dJ9_floorDiv_7cf53_22 rfl ?_
      first
        | exact ez_F.in (by rw [(en_div (show 0 ≤ x by omega) hy.1).1])
        | exact ez_F.in (by rw [← e1, e2.1 (by omega)])
    · refine ez_iload_n dJ9_floorDiv_7cf53_17 rfl ?_
      refine ez_iconst dJ9_floorDiv_7cf53_18 (by decide) ?_
      refine ez_isub dJ9_floorDiv_7cf53_19 (by omega) ?_
      refine ez_ireturn (st := []) dJ9_floorDiv_7cf53_20 rfl ?_
      exact ez_F.in (by rw [← e1, e2.2 (by omega)]; omega)
theorem c_X5_farOf {x y : Int} {h : ez_H} (hv : (-1000000000 ≤ x ∧ x ≤ 1000000000) ∧ (-1000000000 ≤ y ∧ y ≤ 1000000000)) : ez_Ct M_X5_farOf [ez_I x, ez_I y] h (ez_F h (max (x.natAbs : Int) (y.natAbs : Int))) := by
  refine ez_of (by decide) (Nat.le_of_ble_eq_true rfl) (L0 := [ez_I x, ez_I y]) rfl ?_
  refine ez_iload_n dX5_farOf_0 rfl ?_
  refine cl_J9_abs_0f7a4 dX5_farOf_1 ml_X5_146 ft_X5_farOf__J9_abs_0f7a4 (Nat.le_of_ble_eq_true rfl) (c_J9_abs_0f7a4 (by omega)) (ez_kF ?_)
  refine ez_iload_n dX5_farOf_4 rfl ?_
  refine cl_J9_abs_0f7a4 dX5_farOf_5 ml_X5_146 ft_X5_farOf__J9_abs_0f7a4 (Nat.le_of_ble_eq_true rfl) (c_J9_abs_0f7a4 (by omega)) (ez_kF ?_)
  refine cl_J9_max_7cf53 dX5_farOf_8 ml_X5_217 ft_X5_farOf__J9_max_7cf53 (Nat.le_of_ble_eq_true rfl) c_J9_max_7cf53 (ez_kF ?_)
  refine ez_ireturn (st := []) dX5_farOf_11 rfl ?_
  exact ez_F.in rfl
theorem c_X5_turnedX {k x y : Int} {h : ez_H} (hv : (-1000000 ≤ x ∧ x ≤ 1000000) ∧ (-1000000 ≤ y ∧ y ≤ 1000000)) : ez_Ct M_X5_turnedX [ez_I k, ez_I x, ez_I y] h (ez_F h (fx_tx k x y)) := by
  refine ez_of (by decide) (Nat.le_of_ble_eq_true rfl) (L0 := [ez_I k, ez_I x, ez_I y]) rfl ?_
  refine ez_iload_n dX5_turnedX_0 rfl ?_
  refine ez_ts3 28 30 33  36 dX5_turnedX_1 (by decide) (fun c_1 => ?_) (fun c_1 => ?_) (fun c_1 => ?_) (fun c_1 => ?_)
  · refine ez_iload_n dX5_turnedX_28 rfl ?_
    refine ez_ireturn (st := []) dX5_turnedX_29 rfl ?_
    first
      | exact ez_F.in (by unfold fx_tx; rw [c_1]; rfl)
      | exact ez_F.in (by unfold fx_tx; rw [if_neg (by omega), if_neg (by omega), if_neg (by omega)])
  · refine ez_iload_n dX5_turnedX_30 rfl ?_
    refine ez_ineg dX5_turnedX_31 (by omega) ?_
    refine ez_ireturn (st := []) dX5_turnedX_32 rfl ?_
    first
      | exact ez_F.in (by unfold fx_tx; rw [c_1]; rfl)
      | exact ez_F.in (by unfold fx_tx; rw [if_neg (by omega), if_neg (by omega), if_neg (by omega)])
  · refine ez_iload_n dX5_turnedX_33 rfl ?_
    refine ez_ineg dX5_turnedX_34 (by omega) ?_
    refine ez_ireturn (st := []) dX5_turnedX_35 rfl ?_
    first
      | exact ez_F.in (by unfold fx_tx; rw [c_1]; rfl)
      | exact ez_F.in (by unfold fx_tx; rw [if_neg (by omega), if_neg (by omega), if_neg (by omega)])
  · refine ez_iload_n dX5_turnedX_36 rfl ?_
    refine ez_ireturn (st := []) dX5_turnedX_37 rfl ?_
    first
      | exact ez_F.in (by unfold fx_tx; rw [c_1]; rfl)
      | exact ez_F.in (by unfold fx_tx; rw [if_neg (by omega), if_neg (by omega), if_neg (by omega)])
theorem c_X5_turnedY {k x y : Int} {h : ez_H} (hv : (-1000000 ≤ x ∧ x ≤ 1000000) ∧ (-1000000 ≤ y ∧ y ≤ 1000000)) : ez_Ct M_X5_turnedY [ez_I k, ez_I x, ez_I y] h (ez_F h (fx_ty k x y)) := by
  refine ez_of (by decide) (Nat.le_of_ble_eq_true rfl) (L0 := [ez_I k, ez_I x, ez_I y]) rfl ?_
  refine ez_iload_n dX5_turnedY_0 rfl ?_
  refine ez_ts3 28 30 32  35 dX5_turnedY_1 (by decide) (fun c_1 => ?_) (fun c_1 => ?_) (fun c_1 => ?_) (fun c_1 => ?_)
  · refine ez_iload_n dX5_turnedY_28 rfl ?_
    refine ez_ireturn (st := []) dX5_turnedY_29 rfl ?_
    first
      | exact ez_F.in (by unfold fx_ty; rw [c_1]; rfl)
      | exact ez_F.in (by unfold fx_ty; rw [if_neg (by omega), if_neg (by omega), if_neg (by omega)])
  · refine ez_iload_n dX5_turnedY_30 rfl ?_
    refine ez_ireturn (st := []) dX5_turnedY_31 rfl ?_
    first
      | exact ez_F.in (by unfold fx_ty; rw [c_1]; rfl)
      | exact ez_F.in (by unfold fx_ty; rw [if_neg (by omega), if_neg (by omega), if_neg (by omega)])
  · refine ez_iload_n dX5_turnedY_32 rfl ?_
    refine ez_ineg dX5_turnedY_33 (by omega) ?_
    refine ez_ireturn (st := []) dX5_turnedY_34 rfl ?_
    first
      | exact ez_F.in (by unfold fx_ty; rw [c_1]; rfl)
      | exact ez_F.in (by unfold fx_ty; rw [if_neg (by omega), if_neg (by omega), if_neg (by omega)])
  · refine ez_iload_n dX5_turnedY_35 rfl ?_
    refine ez_ineg dX5_turnedY_36 (by omega) ?_
    refine ez_ireturn (st := []) dX5_turnedY_37 rfl ?_
    first
      | exact ez_F.in (by unfold fx_ty; rw [c_1]; rfl)
      | exact ez_F.in (by unfold fx_ty; rw [if_neg (by omega), if_neg (by omega), if_neg (by omega)])
theorem c_X5_isOnPlate {v : Int} {h : ez_H} : ez_Ct M_X5_isOnPlate [ez_I v] h (ez_B h (0 ≤ v ∧ v ≤ 999)) := by
  refine ez_of (by decide) (Nat.le_of_ble_eq_true rfl) (L0 := [ez_I v]) rfl ?_
  refine ez_iload_n dX5_isOnPlate_0 rfl ?_
  refine ez_if_lt 15 dX5_isOnPlate_1 (by decide) (fun c_1 => ?_) (fun c_1 => ?_)
  · refine ez_iconst dX5_isOnPlate_15 (by decide) ?_
    refine ez_zreturn (st := []) dX5_isOnPlate_16 rfl (by first | exact Or.inl rfl | exact Or.inr rfl | omega | (split <;> omega)) ?_
    first | exact ez_B.t (by omega) | exact ez_B.f (by omega)
  · refine ez_iload_n dX5_isOnPlate_4 rfl ?_
    refine ez_sipush dX5_isOnPlate_5 (by decide) (by decide) ?_
    refine ez_ic_gt 15 dX5_isOnPlate_8 (by decide) (fun c_8 => ?_) (fun c_8 => ?_)
    · refine ez_iconst dX5_isOnPlate_15 (by decide) ?_
      refine ez_zreturn (st := []) dX5_isOnPlate_16 rfl (by first | exact Or.inl rfl | exact Or.inr rfl | omega | (split <;> omega)) ?_
      first | exact ez_B.t (by omega) | exact ez_B.f (by omega)
    · refine ez_iconst dX5_isOnPlate_11 (by decide) ?_
      refine ez_goto 16 dX5_isOnPlate_12 (by decide) ?_
      refine ez_zreturn (st := []) dX5_isOnPlate_16 rfl (by first | exact Or.inl rfl | exact Or.inr rfl | omega | (split <;> omega)) ?_
      first | exact ez_B.t (by omega) | exact ez_B.f (by omega)
theorem c_X5_exchanged {v d : Int} {h : ez_H} (hv : 0 ≤ v ∧ v ≤ 999) (hd : d = 0 ∨ d = 1) : ez_Ct M_X5_exchanged [ez_I v, ez_I d] h (ez_F h (fx_sl v d)) := by
  refine ez_of (by decide) (Nat.le_of_ble_eq_true rfl) (L0 := [ez_I v, ez_I d, ez_N, ez_N, ez_N]) rfl ?_
  refine ez_iload_n dX5_exchanged_0 rfl ?_
  refine ez_if_ne 9 dX5_exchanged_1 (by decide) (fun c_1 => ?_) (fun c_1 => ?_)
  · refine ez_iconst dX5_exchanged_9 (by decide) ?_
    refine ez_istore_n dX5_exchanged_10 (by decide) ?_
    refine ez_iload_n dX5_exchanged_11 rfl ?_
    refine ez_bipush dX5_exchanged_12 (by decide) (by decide) ?_
    refine ez_iload_n dX5_exchanged_14 rfl ?_
    refine ez_imul dX5_exchanged_15 (by omega) ?_
    refine ez_idivN dX5_exchanged_16 (by omega) (by omega) ?_
    refine ez_bipush dX5_exchanged_17 (by decide) (by decide) ?_
    refine ez_iremN dX5_exchanged_19 (by omega) (by omega) ?_
    refine ez_istore_n dX5_exchanged_20 (by decide) ?_
    refine ez_iload_n dX5_exchanged_21 rfl ?_
    refine ez_iload_n dX5_exchanged_22 rfl ?_
    refine ez_idivN dX5_exchanged_23 (by omega) (by omega) ?_
    refine ez_bipush dX5_exchanged_24 (by decide) (by decide) ?_
    refine ez_iremN dX5_exchanged_26 (by omega) (by omega) ?_
    refine ez_istore dX5_exchanged_27 (by decide) ?_
    refine ez_iload_n dX5_exchanged_29 rfl ?_
    refine ez_iload dX5_exchanged_30 rfl ?_
    refine ez_iload_n dX5_exchanged_32 rfl ?_
    refine ez_isub dX5_exchanged_33 (by omega) ?_
    refine ez_bipush dX5_exchanged_34 (by decide) (by decide) ?_
    refine ez_imul dX5_exchanged_36 (by omega) ?_
    refine ez_iload_n dX5_exchanged_37 rfl ?_
    refine ez_imul dX5_exchanged_38 (by omega) ?_
    refine ez_iadd dX5_exchanged_39 (by omega) ?_
    refine ez_ireturn (st := []) dX5_exchanged_40 rfl ?_
    exact ez_F.in (by unfold fx_sl; split <;> omega)
  · refine ez_bipush dX5_exchanged_4 (by decide) (by decide) ?_
    refine ez_goto 10 dX5_exchanged_6 (by decide) ?_
    refine ez_istore_n dX5_exchanged_10 (by decide) ?_
    refine ez_iload_n dX5_exchanged_11 rfl ?_
    refine ez_bipush dX5_exchanged_12 (by decide) (by decide) ?_
    refine ez_iload_n dX5_exchanged_14 rfl ?_
    refine ez_imul dX5_exchanged_15 (by omega) ?_
    refine ez_idivN dX5_exchanged_16 (by omega) (by omega) ?_
    refine ez_bipush dX5_exchanged_17 (by decide) (by decide) ?_
    refine ez_iremN dX5_exchanged_19 (by omega) (by omega) ?_
    refine ez_istore_n dX5_exchanged_20 (by decide) ?_
    refine ez_iload_n dX5_exchanged_21 rfl ?_
    refine ez_iload_n dX5_exchanged_22 rfl ?_
    refine ez_idivN dX5_exchanged_23 (by omega) (by omega) ?_
    refine ez_bipush dX5_exchanged_24 (by decide) (by decide) ?_
    refine ez_iremN dX5_exchanged_26 (by omega) (by omega) ?_
    refine ez_istore dX5_exchanged_27 (by decide) ?_
    refine ez_iload_n dX5_exchanged_29 rfl ?_
    refine ez_iload dX5_exchanged_30 rfl ?_
    refine ez_iload_n dX5_exchanged_32 rfl ?_
    refine ez_isub dX5_exchanged_33 (by omega) ?_
    refine ez_bipush dX5_exchanged_34 (by decide) (by decide) ?_
    refine ez_imul dX5_exchanged_36 (by omega) ?_
    refine ez_iload_n dX5_exchanged_37 rfl ?_
    refine ez_imul dX5_exchanged_38 (by omega) ?_
    refine ez_iadd dX5_exchanged_39 (by omega) ?_
    refine ez_ireturn (st := []) dX5_exchanged_40 rfl ?_
    exact ez_F.in (by unfold fx_sl; split <;> omega)
def cp_I (x y s : Nat) : Prop := (s = 0 ∧ x * y < 8388608) ∨ (y < x ∧ x * y * 2 ^ s < 16777216)
theorem cp_step {x y s : Nat} (h : cp_I x y s) (hy : 0 < y) : cp_I y (x % y) (s + 1) := by
  have hm := Nat.mod_lt x hy
  have hle := Nat.mod_le x y
  refine Or.inr ⟨hm, ?_⟩
  rcases h with ⟨h0, h1⟩ | ⟨h0, h1⟩
  · subst h0
    have : y * (x % y) ≤ x * y := by rw [Nat.mul_comm x y]; exact Nat.mul_le_mul_left y hle
    omega
  · have h2 : 2 * (x % y) ≤ x := by
      have e := Nat.div_add_mod x y
      have q1 : 1 ≤ x / y := (Nat.one_le_div_iff hy).mpr (by omega)
      have : y * 1 ≤ y * (x / y) := Nat.mul_le_mul_left y q1
      omega
    have h3 : y * (x % y) * 2 ^ (s + 1) ≤ x * y * 2 ^ s := by
      rw [Nat.pow_succ, show y * (x % y) * (2 ^ s * 2) = y * (2 * (x % y)) * 2 ^ s by simp [Nat.mul_comm, Nat.mul_left_comm, Nat.mul_assoc], Nat.mul_comm x y]
      exact Nat.mul_le_mul_right _ (Nat.mul_le_mul_left y h2)
    omega
theorem cp_end {x y s : Nat} (h : cp_I x y s) (hs : 64 ≤ s) : y = 0 := by
  rcases h with ⟨h0, -⟩ | ⟨h0, h1⟩
  · omega
  · rcases Nat.eq_zero_or_pos y with q | q
    · exact q
    · have h2 : 2 ^ 64 ≤ 2 ^ s := Nat.pow_le_pow_right (by decide) hs
      have h3 : 1 ≤ x * y := Nat.mul_pos (by omega) q
      have h4 : 1 * 2 ^ s ≤ x * y * 2 ^ s := Nat.mul_le_mul_right _ h3
      omega
theorem lp_cp {a b : Int} {h : ez_H} {G : Nat} {Q : ez_H → Option ez_V → Prop} (kx : ez_En M_X5_commonPart 34 [ez_I a, ez_I b, ez_I (G : Nat), ez_N, ez_N, ez_N] [] h Q) : ∀ (n : Nat) (x : Nat) (y : Nat) (s : Nat), (Nat.gcd x y = G) → (s ≤ 64) → (cp_I x y s) → 64 - s < n → ez_En M_X5_commonPart 7 [ez_I a, ez_I b, ez_I (x : Nat), ez_I (y : Nat), ez_I (s : Nat), ez_N] [] h Q := by
  intro n
  induction n with
  | zero =>
    intro x y s hG s1 hs hm
    exfalso
    omega
  | succ n ih =>
    intro x y s hG s1 hs hm
    refine ez_iload dX5_commonPart_7 rfl ?_
    refine ez_bipush dX5_commonPart_9 (by decide) (by decide) ?_
    refine ez_ic_ge 34 dX5_commonPart_11 (by decide) (fun c_11 => ?_) (fun c_11 => ?_)
    · have hy0 : y = 0 := by
        first
          | omega
          | exact cp_end hs (by omega)
      refine ez_lessS (L' := [ez_I a, ez_I b, ez_I (x : Nat), ez_N, ez_N, ez_N]) ⟨Or.inr rfl, Or.inr rfl, Or.inr rfl, Or.inl rfl, Or.inl rfl, Or.inl rfl, trivial⟩ ?_
      rw [show x = G from by rw [← hG, hy0, Nat.gcd_zero_right]]
      exact kx
    · refine ez_iload_n dX5_commonPart_14 rfl ?_
      refine ez_if_eq 34 dX5_commonPart_15 (by decide) (fun c_15 => ?_) (fun c_15 => ?_)
      · have hy0 : y = 0 := by
          first
            | omega
            | exact cp_end hs (by omega)
        refine ez_lessS (L' := [ez_I a, ez_I b, ez_I (x : Nat), ez_N, ez_N, ez_N]) ⟨Or.inr rfl, Or.inr rfl, Or.inr rfl, Or.inl rfl, Or.inl rfl, Or.inl rfl, trivial⟩ ?_
        rw [show x = G from by rw [← hG, hy0, Nat.gcd_zero_right]]
        exact kx
      · refine ez_iload_n dX5_commonPart_18 rfl ?_
        refine ez_iload_n dX5_commonPart_19 rfl ?_
        refine ez_iremN dX5_commonPart_20 (by omega) (by omega) ?_
        refine ez_istore dX5_commonPart_21 (by decide) ?_
        refine ez_iload_n dX5_commonPart_23 rfl ?_
        refine ez_istore_n dX5_commonPart_24 (by decide) ?_
        refine ez_iload dX5_commonPart_25 rfl ?_
        refine ez_istore_n dX5_commonPart_27 (by decide) ?_
        refine ez_iinc dX5_commonPart_28 rfl (by decide) (by decide) (by omega) ?_
        refine ez_goto 7 dX5_commonPart_31 (by decide) ?_
        refine ez_lessS (L' := [ez_I a, ez_I b, ez_I (y : Nat), ez_I ((x % y : Nat) : Int), ez_I ((s + 1 : Nat) : Int), ez_N]) ⟨Or.inr rfl, Or.inr rfl, Or.inr rfl, Or.inr (by push_cast; rfl), Or.inr rfl, Or.inl rfl, trivial⟩ ?_
        exact ih y (x % y) (s + 1) (by rw [← hG, Nat.gcd_comm x y, Nat.gcd_rec y x]; exact Nat.gcd_comm _ _) (by omega) (cp_step hs (by omega)) (by omega)
theorem c_X5_commonPart {a b : Int} {h : ez_H} (ha : 0 ≤ a ∧ a ≤ 8000) (hb : 0 < b ∧ b ≤ 999) : ez_Ct M_X5_commonPart [ez_I a, ez_I b] h (ez_F h (sp_gcd a b)) := by
  refine ez_of (by decide) (Nat.le_of_ble_eq_true rfl) (L0 := [ez_I a, ez_I b, ez_N, ez_N, ez_N, ez_N]) rfl ?_
  refine ez_iload_n dX5_commonPart_0 rfl ?_
  refine ez_istore_n dX5_commonPart_1 (by decide) ?_
  refine ez_iload_n dX5_commonPart_2 rfl ?_
  refine ez_istore_n dX5_commonPart_3 (by decide) ?_
  refine ez_iconst dX5_commonPart_4 (by decide) ?_
  refine ez_istore dX5_commonPart_5 (by decide) ?_
  refine ez_lessS (L' := [ez_I a, ez_I b, ez_I (a.natAbs : Nat), ez_I (b.natAbs : Nat), ez_I ((0 : Nat) : Int), ez_N]) ⟨Or.inr rfl, Or.inr rfl, Or.inr (congrArg ez_I (by omega)), Or.inr (congrArg ez_I (by omega)), Or.inr rfl, Or.inl rfl, trivial⟩ ?_
  refine lp_cp (G := Nat.gcd a.natAbs b.natAbs) ?_ 65 a.natAbs b.natAbs 0 rfl (by omega) (Or.inl ⟨rfl, ?_⟩) (by omega)
  rotate_left
  · have h1 : a.natAbs * b.natAbs ≤ 8000 * 999 := Nat.mul_le_mul (by omega) (by omega)
    omega
  refine ez_iconst dX5_commonPart_34 (by decide) ?_
  refine ez_iload_n dX5_commonPart_35 rfl ?_
  refine cl_J9_max_7cf53 dX5_commonPart_36 ml_X5_217 ft_X5_commonPart__J9_max_7cf53 (Nat.le_of_ble_eq_true rfl) c_J9_max_7cf53 (ez_kF ?_)
  refine ez_ireturn (st := []) dX5_commonPart_39 rfl ?_
  have hg := sp_gcd_pos (a := a) hb.1
  exact ez_F.in (by unfold sp_gcd at hg ⊢; omega)
