/-! the class's Lay -/
def ly_fr (h h' : ez_H) (o : Int) : Prop := ∀ o' k : Int, o' < o ∨ o + 2 < o' → h' o' k = h o' k
theorem c_X1_clear {o : Int} {h : ez_H} (ho : ez_isL o) : ez_Ct M_X1_clear [ez_R o] h (ez_PV (fun h' => h' o 1 = 0 ∧ h' o 2 = 0 ∧ (∀ j : Int, 0 ≤ j → j < 8 → h' (o + 1) j = -1 ∧ h' (o + 2) j = -1) ∧ ∀ o' k : Int, ¬ (o' = o ∧ (k = 1 ∨ k = 2)) → o' ≠ o + 1 → o' ≠ o + 2 → h' o' k = h o' k)) := by
  refine ez_of (by decide) (Nat.le_of_ble_eq_true rfl) (L0 := [ez_R o]) rfl ?_
  refine ez_aload_n dX1_clear_0 rfl ?_
  refine ez_iconst dX1_clear_1 (by decide) ?_
  refine p1_1 (by first | assumption | exact ez_isL.mk (by omega)) dX1_clear_2 fl_X1_18 ?_
  refine ez_aload_n dX1_clear_5 rfl ?_
  refine ez_iconst dX1_clear_6 (by decide) ?_
  refine p1_2 (by first | assumption | exact ez_isL.mk (by omega)) dX1_clear_7 fl_X1_22 ?_
  refine ez_aload_n dX1_clear_10 rfl ?_
  refine g1_7 (by first | assumption | exact ez_isL.mk (by omega)) dX1_clear_11 fl_X1_9 ?_
  refine ez_iconst dX1_clear_14 (by decide) ?_
  refine cl_J7_fill_53178 dX1_clear_15 ml_X1_25 ft_X1_clear__J7_fill_53178 (Nat.le_of_ble_eq_true rfl) (c_J7_fill_53178 (by have := ho.kd.1; omega) ho.kd.2.2.1 (by rw [ho.kd.2.2.2.2.1]; decide)) (ez_kS ?_)
  rw [ho.kd.2.2.2.2.1]
  refine ez_aload_n dX1_clear_18 rfl ?_
  refine g1_8 (by first | assumption | exact ez_isL.mk (by omega)) dX1_clear_19 fl_X1_15 ?_
  refine ez_iconst dX1_clear_22 (by decide) ?_
  refine cl_J7_fill_53178 dX1_clear_23 ml_X1_25 ft_X1_clear__J7_fill_53178 (Nat.le_of_ble_eq_true rfl) (c_J7_fill_53178 (by have := ho.kd.1; omega) ho.kd.2.2.2.1 (by rw [ho.kd.2.2.2.2.2]; decide)) (ez_kS ?_)
  rw [ho.kd.2.2.2.2.2]
  refine ez_vreturn (st := []) dX1_clear_26 rfl ?_
  refine ez_PV.in ⟨?_, ?_, fun j j0 j1 => ⟨?_, ?_⟩, fun o' k h1 h2 h3 => ?_⟩
  · unfold ez_fill
    rw [if_neg (by omega), if_neg (by omega), ez_up_ne (by omega), ez_up_eq]
  · unfold ez_fill
    rw [if_neg (by omega), if_neg (by omega), ez_up_eq]
  · unfold ez_fill
    rw [if_neg (by omega), if_pos (by omega)]
  · unfold ez_fill
    rw [if_pos (by omega)]
  · unfold ez_fill
    rw [if_neg (by omega), if_neg (by omega), ez_up_ne (by omega), ez_up_ne (by omega)]
theorem c_X1_isBehind {o c s : Int} {h : ez_H} (ho : ez_isL o) : ez_Ct M_X1_isBehind [ez_R o, ez_I c, ez_I s] h (ez_B h (h o 1 < c ∨ (c = h o 1 ∧ s < h o 2))) := by
  refine ez_of (by decide) (Nat.le_of_ble_eq_true rfl) (L0 := [ez_R o, ez_I c, ez_I s]) rfl ?_
  refine ez_iload_n dX1_isBehind_0 rfl ?_
  refine ez_aload_n dX1_isBehind_1 rfl ?_
  refine g1_1 (by first | assumption | exact ez_isL.mk (by omega)) dX1_isBehind_2 fl_X1_18 ?_
  refine ez_ic_gt 24 dX1_isBehind_5 (by decide) (fun c_5 => ?_) (fun c_5 => ?_)
  · refine ez_iconst dX1_isBehind_24 (by decide) ?_
    refine ez_goto 29 dX1_isBehind_25 (by decide) ?_
    refine ez_zreturn (st := []) dX1_isBehind_29 rfl (by first | exact Or.inl rfl | exact Or.inr rfl | omega | (split <;> omega)) ?_
    first | exact ez_B.t (by omega) | exact ez_B.f (by omega)
  · refine ez_iload_n dX1_isBehind_8 rfl ?_
    refine ez_aload_n dX1_isBehind_9 rfl ?_
    refine g1_1 (by first | assumption | exact ez_isL.mk (by omega)) dX1_isBehind_10 fl_X1_18 ?_
    refine ez_ic_ne 28 dX1_isBehind_13 (by decide) (fun c_13 => ?_) (fun c_13 => ?_)
    · refine ez_iconst dX1_isBehind_28 (by decide) ?_
      refine ez_zreturn (st := []) dX1_isBehind_29 rfl (by first | exact Or.inl rfl | exact Or.inr rfl | omega | (split <;> omega)) ?_
      first | exact ez_B.t (by omega) | exact ez_B.f (by omega)
    · refine ez_iload_n dX1_isBehind_16 rfl ?_
      refine ez_aload_n dX1_isBehind_17 rfl ?_
      refine g1_2 (by first | assumption | exact ez_isL.mk (by omega)) dX1_isBehind_18 fl_X1_22 ?_
      refine ez_ic_ge 28 dX1_isBehind_21 (by decide) (fun c_21 => ?_) (fun c_21 => ?_)
      · refine ez_iconst dX1_isBehind_28 (by decide) ?_
        refine ez_zreturn (st := []) dX1_isBehind_29 rfl (by first | exact Or.inl rfl | exact Or.inr rfl | omega | (split <;> omega)) ?_
        first | exact ez_B.t (by omega) | exact ez_B.f (by omega)
      · refine ez_iconst dX1_isBehind_24 (by decide) ?_
        refine ez_goto 29 dX1_isBehind_25 (by decide) ?_
        refine ez_zreturn (st := []) dX1_isBehind_29 rfl (by first | exact Or.inl rfl | exact Or.inr rfl | omega | (split <;> omega)) ?_
        first | exact ez_B.t (by omega) | exact ez_B.f (by omega)
theorem c_X1_put {o k s x y : Int} {h : ez_H} (ho : ez_isL o) : ez_Ct M_X1_put [ez_R o, ez_I k, ez_I s, ez_I x, ez_I y] h (ez_PV (fun h' => h' o 3 = k ∧ h' o 4 = s ∧ h' o 5 = x ∧ h' o 6 = y ∧ ∀ o' k : Int, ¬ (o' = o ∧ 3 ≤ k ∧ k ≤ 6) → h' o' k = h o' k)) := by
  refine ez_of (by decide) (Nat.le_of_ble_eq_true rfl) (L0 := [ez_R o, ez_I k, ez_I s, ez_I x, ez_I y]) rfl ?_
  refine ez_aload_n dX1_put_0 rfl ?_
  refine ez_iload_n dX1_put_1 rfl ?_
  refine p1_3 (by first | assumption | exact ez_isL.mk (by omega)) dX1_put_2 fl_X1_31 ?_
  refine ez_aload_n dX1_put_5 rfl ?_
  refine ez_iload_n dX1_put_6 rfl ?_
  refine p1_4 (by first | assumption | exact ez_isL.mk (by omega)) dX1_put_7 fl_X1_34 ?_
  refine ez_aload_n dX1_put_10 rfl ?_
  refine ez_iload_n dX1_put_11 rfl ?_
  refine p1_5 (by first | assumption | exact ez_isL.mk (by omega)) dX1_put_12 fl_X1_37 ?_
  refine ez_aload_n dX1_put_15 rfl ?_
  refine ez_iload dX1_put_16 rfl ?_
  refine p1_6 (by first | assumption | exact ez_isL.mk (by omega)) dX1_put_18 fl_X1_40 ?_
  refine ez_vreturn (st := []) dX1_put_21 rfl ?_
  refine ez_PV.in ⟨?_, ?_, ?_, ?_, fun o' k h1 => ?_⟩
  · rw [ez_up_ne (by omega), ez_up_ne (by omega), ez_up_ne (by omega), ez_up_eq]
  · rw [ez_up_ne (by omega), ez_up_ne (by omega), ez_up_eq]
  · rw [ez_up_ne (by omega), ez_up_eq]
  · rw [ez_up_eq]
  · rw [ez_up_ne (by omega), ez_up_ne (by omega), ez_up_ne (by omega), ez_up_ne (by omega)]
theorem c_X1_bringX {o x y : Int} {h : ez_H} (ho : ez_isL o) (hv : (0 ≤ x ∧ x ≤ 999) ∧ (0 ≤ y ∧ y ≤ 999)) (hs : 0 ≤ h o 4 ∧ h o 4 ≤ 3) (hx : -100000 ≤ h o 5 ∧ h o 5 ≤ 100000) : ez_Ct M_X1_bringX [ez_R o, ez_I x, ez_I y] h (ez_F h (h o 4 * fx_tx (h o 3) x y + h o 5)) := by
  refine ez_of (by decide) (Nat.le_of_ble_eq_true rfl) (L0 := [ez_R o, ez_I x, ez_I y]) rfl ?_
  refine ez_aload_n dX1_bringX_0 rfl ?_
  refine g1_4 (by first | assumption | exact ez_isL.mk (by omega)) dX1_bringX_1 fl_X1_34 ?_
  refine ez_aload_n dX1_bringX_4 rfl ?_
  refine g1_3 (by first | assumption | exact ez_isL.mk (by omega)) dX1_bringX_5 fl_X1_31 ?_
  refine ez_iload_n dX1_bringX_8 rfl ?_
  refine ez_iload_n dX1_bringX_9 rfl ?_
  refine cn_X5_turnedX dX1_bringX_10 ml_X1_53 ft_X1_bringX__X5_turnedX (Nat.le_of_ble_eq_true rfl) (c_X5_turnedX (by omega)) (ez_kF ?_)
  have bd := fx_t_bd (k := h o 3) hv
  have bm : -3000 ≤ h o 4 * fx_tx (h o 3) x y ∧ h o 4 * fx_tx (h o 3) x y ≤ 3000 := by
    rcases (show h o 4 = 0 ∨ h o 4 = 1 ∨ h o 4 = 2 ∨ h o 4 = 3 by omega) with e | e | e | e <;> rw [e] <;> omega
  refine ez_imul dX1_bringX_13 (by omega) ?_
  refine ez_aload_n dX1_bringX_14 rfl ?_
  refine g1_5 (by first | assumption | exact ez_isL.mk (by omega)) dX1_bringX_15 fl_X1_37 ?_
  refine ez_iadd dX1_bringX_18 (by omega) ?_
  refine ez_ireturn (st := []) dX1_bringX_19 rfl ?_
  exact ez_F.in rfl
theorem c_X1_bringY {o x y : Int} {h : ez_H} (ho : ez_isL o) (hv : (0 ≤ x ∧ x ≤ 999) ∧ (0 ≤ y ∧ y ≤ 999)) (hs : 0 ≤ h o 4 ∧ h o 4 ≤ 3) (hx : -100000 ≤ h o 6 ∧ h o 6 ≤ 100000) : ez_Ct M_X1_bringY [ez_R o, ez_I x, ez_I y] h (ez_F h (h o 4 * fx_ty (h o 3) x y + h o 6)) := by
  refine ez_of (by decide) (Nat.le_of_ble_eq_true rfl) (L0 := [ez_R o, ez_I x, ez_I y]) rfl ?_
  refine ez_aload_n dX1_bringY_0 rfl ?_
  refine g1_4 (by first | assumption | exact ez_isL.mk (by omega)) dX1_bringY_1 fl_X1_34 ?_
  refine ez_aload_n dX1_bringY_4 rfl ?_
  refine g1_3 (by first | assumption | exact ez_isL.mk (by omega)) dX1_bringY_5 fl_X1_31 ?_
  refine ez_iload_n dX1_bringY_8 rfl ?_
  refine ez_iload_n dX1_bringY_9 rfl ?_
  refine cn_X5_turnedY dX1_bringY_10 ml_X1_57 ft_X1_bringY__X5_turnedY (Nat.le_of_ble_eq_true rfl) (c_X5_turnedY (by omega)) (ez_kF ?_)
  have bd := fx_t_bd (k := h o 3) hv
  have bm : -3000 ≤ h o 4 * fx_ty (h o 3) x y ∧ h o 4 * fx_ty (h o 3) x y ≤ 3000 := by
    rcases (show h o 4 = 0 ∨ h o 4 = 1 ∨ h o 4 = 2 ∨ h o 4 = 3 by omega) with e | e | e | e <;> rw [e] <;> omega
  refine ez_imul dX1_bringY_13 (by omega) ?_
  refine ez_aload_n dX1_bringY_14 rfl ?_
  refine g1_6 (by first | assumption | exact ez_isL.mk (by omega)) dX1_bringY_15 fl_X1_40 ?_
  refine ez_iadd dX1_bringY_18 (by omega) ?_
  refine ez_ireturn (st := []) dX1_bringY_19 rfl ?_
  exact ez_F.in rfl
/-- the pairs of a Lay: by the upper plate's spots, and the other way round -/
def ly_T (h' : ez_H) (o : Int) (pr : Int → Int) (c : Int) : Prop := (∀ j : Int, 0 ≤ j → j < c → h' (o + 1) j = pr j) ∧ (∀ j : Int, 0 ≤ j → j < c → pr j ≠ -1 → h' (o + 2) (pr j) = j) ∧ ∀ i : Int, 0 ≤ i → i < 8 → (∀ j : Int, 0 ≤ j → j < c → pr j ≠ i) → h' (o + 2) i = -1
def ly_fr2 (h h' : ez_H) (o : Int) : Prop := ∀ o' k : Int, o' ≠ o + 1 → o' ≠ o + 2 → h' o' k = h o' k
theorem lp_tp {o : Int} {h : ez_H} (ho : ez_isL o) (hb : o < 93) (hp : ∀ j : Int, 0 ≤ j → j < 8 → h 102 j = -1 ∨ (0 ≤ h 102 j ∧ h 102 j < 8)) (hi : ∀ j j' : Int, 0 ≤ j → j < j' → j' < 8 → h 102 j ≠ -1 → h 102 j ≠ h 102 j') {Q : ez_H → Option ez_V → Prop} (kx : ∀ h', ly_T h' o (h 102) 8 → ly_fr2 h h' o → Q h' none) : ∀ (n : Nat) (c : Int) (h' : ez_H), (0 ≤ c) → (c ≤ 8) → (ly_T h' o (h 102) c) → (ly_fr2 h h' o) → 8 - c < n → ez_En M_X1_takePairs 22 [ez_R o, ez_R 101, ez_I c, ez_N] [] h' Q := by
  intro n
  induction n with
  | zero =>
    intro c h' c0 c1 t1 fr hm
    exfalso
    omega
  | succ n ih =>
    intro c h' c0 c1 t1 fr hm
    refine ez_iload_n dX1_takePairs_22 rfl ?_
    refine ez_bipush dX1_takePairs_23 (by decide) (by decide) ?_
    refine ez_ic_ge 60 dX1_takePairs_25 (by decide) (fun c_25 => ?_) (fun c_25 => ?_)
    · refine ez_vreturn (st := []) dX1_takePairs_60 rfl ?_
      refine kx _ ?_ fr
      rw [show (8 : Int) = c by omega]
      exact t1
    · have ec := fr 102 c (by omega) (by omega)
      have pc := hp c (by omega) (by omega)
      refine ez_aload_n dX1_takePairs_28 rfl ?_
      refine g2_2 dX1_takePairs_29 fl_X1_50 ?_
      refine ez_iload_n dX1_takePairs_32 rfl ?_
      refine al102 dX1_takePairs_33 (by omega) ?_
      refine ez_istore_n dX1_takePairs_34 (by decide) ?_
      refine ez_aload_n dX1_takePairs_35 rfl ?_
      refine g1_7 (by first | assumption | exact ez_isL.mk (by omega)) dX1_takePairs_36 fl_X1_9 ?_
      refine ez_iload_n dX1_takePairs_39 rfl ?_
      refine ez_iload_n dX1_takePairs_40 rfl ?_
      refine asL1 (by first | assumption | exact ez_isL.mk (by omega)) dX1_takePairs_41 (by omega) ?_
      refine ez_iload_n dX1_takePairs_42 rfl ?_
      refine ez_iconst dX1_takePairs_43 (by decide) ?_
      refine ez_ic_eq 54 dX1_takePairs_44 (by decide) (fun c_44 => ?_) (fun c_44 => ?_)
      · have n1 : ly_T (ez_up h' (o + 1) c (h' 102 c)) o (h 102) (c + 1) ∧ ly_fr2 h (ez_up h' (o + 1) c (h' 102 c)) o := by
          refine ⟨⟨fun j j0 j1 => ?_, fun j j0 j1 j2 => ?_, fun i i0 i1 i2 => ?_⟩, fun o' k h1 h2 => (ez_up_ne (by omega)).trans (fr o' k h1 h2)⟩
          · by_cases e : j = c
            · rw [e, ez_up_eq, ec]
            · rw [ez_up_ne (by omega)]
              exact t1.1 j j0 (by omega)
          · by_cases e : j = c
            · rw [e] at j2
              omega
            · rw [ez_up_ne (by omega)]
              exact t1.2.1 j j0 (by omega) j2
          · rw [ez_up_ne (by omega)]
            exact t1.2.2 i i0 i1 (fun j j0 j1 => i2 j j0 (by omega))
        refine ez_iinc dX1_takePairs_54 rfl (by decide) (by decide) (by omega) ?_
        refine ez_goto 22 dX1_takePairs_57 (by decide) ?_
        refine ez_lessS (L' := [ez_R o, ez_R 101, ez_I (c + 1), ez_N]) ⟨Or.inr rfl, Or.inr rfl, Or.inr rfl, Or.inl rfl, trivial⟩ ?_
        exact ih (c + 1) _ (by omega) (by omega) n1.1 n1.2 (by omega)
      · have n1 : ly_T (ez_up (ez_up h' (o + 1) c (h' 102 c)) (o + 2) (h' 102 c) c) o (h 102) (c + 1) ∧ ly_fr2 h (ez_up (ez_up h' (o + 1) c (h' 102 c)) (o + 2) (h' 102 c) c) o := by
          refine ⟨⟨fun j j0 j1 => ?_, fun j j0 j1 j2 => ?_, fun i i0 i1 i2 => ?_⟩, fun o' k h1 h2 => (ez_up_ne (by omega)).trans ((ez_up_ne (by omega)).trans (fr o' k h1 h2))⟩
          · by_cases e : j = c
            · rw [e, ez_up_ne (by omega), ez_up_eq, ec]
            · rw [ez_up_ne (by omega), ez_up_ne (by omega)]
              exact t1.1 j j0 (by omega)
          · by_cases e : j = c
            · rw [e, ec, ez_up_eq]
            · have := hi j c j0 (by omega) (by omega) j2
              rw [ez_up_ne (by omega), ez_up_ne (by omega)]
              exact t1.2.1 j j0 (by omega) j2
          · have := i2 c (by omega) (by omega)
            rw [ez_up_ne (by omega), ez_up_ne (by omega)]
            exact t1.2.2 i i0 i1 (fun j j0 j1 => i2 j j0 (by omega))
        refine ez_aload_n dX1_takePairs_47 rfl ?_
        refine g1_8 (by first | assumption | exact ez_isL.mk (by omega)) dX1_takePairs_48 fl_X1_15 ?_
        refine ez_iload_n dX1_takePairs_51 rfl ?_
        refine ez_iload_n dX1_takePairs_52 rfl ?_
        refine asL2 (by first | assumption | exact ez_isL.mk (by omega)) dX1_takePairs_53 (by omega) ?_
        refine ez_iinc dX1_takePairs_54 rfl (by decide) (by decide) (by omega) ?_
        refine ez_goto 22 dX1_takePairs_57 (by decide) ?_
        refine ez_lessS (L' := [ez_R o, ez_R 101, ez_I (c + 1), ez_N]) ⟨Or.inr rfl, Or.inr rfl, Or.inr rfl, Or.inl rfl, trivial⟩ ?_
        exact ih (c + 1) _ (by omega) (by omega) n1.1 n1.2 (by omega)
theorem c_X1_takePairs {o : Int} {h : ez_H} (ho : ez_isL o) (hb : o < 93) (hp : ∀ j : Int, 0 ≤ j → j < 8 → h 102 j = -1 ∨ (0 ≤ h 102 j ∧ h 102 j < 8)) (hi : ∀ j j' : Int, 0 ≤ j → j < j' → j' < 8 → h 102 j ≠ -1 → h 102 j ≠ h 102 j') : ez_Ct M_X1_takePairs [ez_R o, ez_R 101] h (ez_PV (fun h' => h' o 1 = h 101 0 ∧ h' o 2 = h 101 1 ∧ ly_T h' o (h 102) 8 ∧ ∀ o' k : Int, ¬ (o' = o ∧ (k = 1 ∨ k = 2)) → o' ≠ o + 1 → o' ≠ o + 2 → h' o' k = h o' k)) := by
  have hk := ho.kd.1
  refine ez_of (by decide) (Nat.le_of_ble_eq_true rfl) (L0 := [ez_R o, ez_R 101, ez_N, ez_N]) rfl ?_
  refine ez_aload_n dX1_takePairs_0 rfl ?_
  refine cl_X1_clear (by first | assumption | exact ez_isL.mk (by omega)) dX1_takePairs_1 ml_X1_43 ft_X1_takePairs__X1_clear (Nat.le_of_ble_eq_true rfl) (c_X1_clear ho) (ez_kV (fun h1 ⟨c1, c2, c3, c4⟩ => ?_))
  refine ez_aload_n dX1_takePairs_4 rfl ?_
  refine ez_aload_n dX1_takePairs_5 rfl ?_
  refine g2_0 dX1_takePairs_6 fl_X1_46 ?_
  refine p1_1 (by first | assumption | exact ez_isL.mk (by omega)) dX1_takePairs_9 fl_X1_18 ?_
  refine ez_aload_n dX1_takePairs_12 rfl ?_
  refine ez_aload_n dX1_takePairs_13 rfl ?_
  refine g2_1 dX1_takePairs_14 fl_X1_49 ?_
  refine p1_2 (by first | assumption | exact ez_isL.mk (by omega)) dX1_takePairs_17 fl_X1_22 ?_
  refine ez_iconst dX1_takePairs_20 (by decide) ?_
  refine ez_istore_n dX1_takePairs_21 (by decide) ?_
  have v0 : h1 101 0 = h 101 0 := c4 101 0 (by omega) (by omega) (by omega)
  have v1 : ez_up h1 o 1 (h1 101 0) 101 1 = h 101 1 := (ez_up_ne (by omega)).trans (c4 101 1 (by omega) (by omega) (by omega))
  rw [v1, v0]
  have ep : ∀ j : Int, (ez_up (ez_up h1 o 1 (h 101 0)) o 2 (h 101 1)) 102 j = h 102 j := fun j => (ez_up_ne (by omega)).trans ((ez_up_ne (by omega)).trans (c4 102 j (by omega) (by omega) (by omega)))
  have eq2 : (ez_up (ez_up h1 o 1 (h 101 0)) o 2 (h 101 1)) 102 = h 102 := funext ep
  refine lp_tp ho hb (h := ez_up (ez_up h1 o 1 (h 101 0)) o 2 (h 101 1)) (by rw [eq2]; exact hp) (by rw [eq2]; exact hi) (fun h2 t2 f2 => ?_) 9 0 _ (by omega) (by omega) ⟨fun j j0 j1 => by omega, fun j j0 j1 => by omega, fun i i0 i1 _ => ?_⟩ (fun _ _ _ _ => rfl) (by omega)
  · refine ez_PV.in ⟨?_, ?_, by rw [← eq2]; exact t2, fun o' k h1' h2' h3' => ?_⟩
    · rw [f2 o 1 (by omega) (by omega), ez_up_ne (by omega), ez_up_eq]
    · rw [f2 o 2 (by omega) (by omega), ez_up_eq]
    · rw [f2 o' k h2' h3', ez_up_ne (by omega), ez_up_ne (by omega)]
      exact c4 o' k h1' h2' h3'
  · rw [ez_up_ne (by omega), ez_up_ne (by omega)]
    exact (c3 i i0 i1).2
