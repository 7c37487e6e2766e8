/-! what the Matcher's rows cost: row r with column k of m; fars 99, reach R -/
def mt_cst (h : ez_H) (m R r k : Int) : Int := if k ≤ m ∧ h 99 (8 * (r - 1) + (k - 1)) ≤ R then h 99 (8 * (r - 1) + (k - 1)) * pm_O + (k - 1) * pm_wt (r - 1) else 1000 * pm_O + 8 * pm_wt (r - 1)
def mt_C (h h' : ez_H) (w m R r c : Int) : Prop := (∀ o k : Int, o ≠ 103 → h' o k = h o k) ∧ ∀ r' k' : Int, 1 ≤ r' → 1 ≤ k' → k' ≤ w → (r' < r ∨ (r' = r ∧ k' < c)) → h' 103 (9 * r' + k') = mt_cst h m R r' k'
def mt_W (h : ez_H) (n w m R : Int) : Prop := (1 ≤ w ∧ w ≤ 8) ∧ (0 ≤ n ∧ n ≤ w) ∧ (0 ≤ m ∧ m ≤ w) ∧ (0 ≤ R ∧ R ≤ 50) ∧ ∀ i : Int, 0 ≤ i → i < 64 → 0 ≤ h 99 i
theorem lp_c1 {w m R N : Int} {h : ez_H} {Q : ez_H → Option ez_V → Prop} (HW : mt_W h N w m R) {r : Int} (hr : 1 ≤ r ∧ r ≤ N) (kx : ∀ h', mt_C h h' w m R r (w + 1) → ez_En M_X2_setCosts 112 [ez_R 101, ez_R 99, ez_I N, ez_I w, ez_I m, ez_I R, ez_L (pm_wt (r - 1)), ez_N, ez_I r, ez_N, ez_N, ez_N, ez_N] [] h' Q) : ∀ (n : Nat) (c : Int) (h' : ez_H), (1 ≤ c) → (c ≤ w + 1) → (mt_C h h' w m R r c) → w + 1 - c < n → ez_En M_X2_setCosts 25 [ez_R 101, ez_R 99, ez_I N, ez_I w, ez_I m, ez_I R, ez_L (pm_wt (r - 1)), ez_N, ez_I r, ez_I c, ez_N, ez_N, ez_N] [] h' Q := by
  intro n
  induction n with
  | zero =>
    intro c h' c0 c1 C hm
    exfalso
    omega
  | succ n ih =>
    intro c h' c0 c1 C hm
    obtain ⟨h1, h2, h3, h4, h5⟩ := HW
    refine ez_iload dX2_setCosts_25 rfl ?_
    refine ez_iload_n dX2_setCosts_27 rfl ?_
    refine ez_ic_gt 112 dX2_setCosts_28 (by decide) (fun c_28 => ?_) (fun c_28 => ?_)
    · refine ez_lessS (L' := [ez_R 101, ez_R 99, ez_I N, ez_I w, ez_I m, ez_I R, ez_L (pm_wt (r - 1)), ez_N, ez_I r, ez_N, ez_N, ez_N, ez_N]) ⟨Or.inr rfl, Or.inr rfl, Or.inr rfl, Or.inr rfl, Or.inr rfl, Or.inr rfl, Or.inr rfl, Or.inl rfl, Or.inr rfl, Or.inl rfl, Or.inl rfl, Or.inl rfl, Or.inl rfl, trivial⟩ ?_
      exact kx h' (by rw [show w + 1 = c by omega]; exact C)
    · have wl := pm_wt_le (show 0 ≤ r - 1 by omega)
      have wp := pm_wt_pos (r - 1)
      refine ez_ldc2 (43046721000) dX2_setCosts_31 cn_X2_69 rfl (by decide) ?_
      refine ez_ldc2 (8) dX2_setCosts_34 cn_X2_71 rfl (by decide) ?_
      refine ez_lload dX2_setCosts_37 rfl ?_
      refine ez_lmul dX2_setCosts_39 (by omega) ?_
      refine ez_ladd dX2_setCosts_40 (by omega) ?_
      refine ez_lstore dX2_setCosts_41 (by decide) ?_
      refine ez_iload dX2_setCosts_43 rfl ?_
      refine ez_iload dX2_setCosts_45 rfl ?_
      refine ez_ic_gt 91 dX2_setCosts_47 (by decide) (fun c_47 => ?_) (fun c_47 => ?_)
      · have hv : mt_cst h m R r c = 43046721000 + 8 * pm_wt (r - 1) := by
          unfold mt_cst
          rw [if_neg (by omega)]
          rfl
        have n1 : mt_C h (ez_up h' 103 (r * 9 + c) (43046721000 + 8 * pm_wt (r - 1))) w m R r (c + 1) := by
          refine ⟨fun o k ho => (ez_up_ne (by omega)).trans (C.1 o k ho), fun r' k' r0 k0 k1 hh => ?_⟩
          by_cases e : r' = r ∧ k' = c
          · rw [e.1, e.2, show 9 * r + c = r * 9 + c by omega, ez_up_eq]
            exact hv.symm
          · rw [ez_up_ne (by omega)]
            exact C.2 r' k' r0 k0 k1 (by omega)
        refine ez_aload_n dX2_setCosts_91 rfl ?_
        refine g2_3 dX2_setCosts_92 fl_X2_15 ?_
        refine ez_iload dX2_setCosts_95 rfl ?_
        refine ez_bipush dX2_setCosts_97 (by decide) (by decide) ?_
        refine ez_imul dX2_setCosts_99 (by omega) ?_
        refine ez_iload dX2_setCosts_100 rfl ?_
        refine ez_iadd dX2_setCosts_102 (by omega) ?_
        refine ez_lload dX2_setCosts_103 rfl ?_
        refine as103 dX2_setCosts_105 (by omega) ?_
        refine ez_iinc dX2_setCosts_106 rfl (by decide) (by decide) (by omega) ?_
        refine ez_goto 25 dX2_setCosts_109 (by decide) ?_
        refine ez_lessS (L' := [ez_R 101, ez_R 99, ez_I N, ez_I w, ez_I m, ez_I R, ez_L (pm_wt (r - 1)), ez_N, ez_I r, ez_I (c + 1), ez_N, ez_N, ez_N]) ⟨Or.inr rfl, Or.inr rfl, Or.inr rfl, Or.inr rfl, Or.inr rfl, Or.inr rfl, Or.inr rfl, Or.inl rfl, Or.inr rfl, Or.inr rfl, Or.inl rfl, Or.inl rfl, Or.inl rfl, trivial⟩ ?_
        exact ih (c + 1) _ (by omega) (by omega) n1 (by omega)
      · have fi := h5 ((r - 1) * 8 + c - 1) (by omega) (by omega)
        have f1 := C.1 99 ((r - 1) * 8 + c - 1) (by decide)
        refine ez_aload_n dX2_setCosts_50 rfl ?_
        refine ez_iload dX2_setCosts_51 rfl ?_
        refine ez_iconst dX2_setCosts_53 (by decide) ?_
        refine ez_isub dX2_setCosts_54 (by omega) ?_
        refine ez_bipush dX2_setCosts_55 (by decide) (by decide) ?_
        refine ez_imul dX2_setCosts_57 (by omega) ?_
        refine ez_iload dX2_setCosts_58 rfl ?_
        refine ez_iadd dX2_setCosts_60 (by omega) ?_
        refine ez_iconst dX2_setCosts_61 (by decide) ?_
        refine ez_isub dX2_setCosts_62 (by omega) ?_
        refine al99 dX2_setCosts_63 (by omega) ?_
        refine ez_istore dX2_setCosts_64 (by decide) ?_
        refine ez_iload dX2_setCosts_66 rfl ?_
        refine ez_iload dX2_setCosts_68 rfl ?_
        refine ez_ic_gt 91 dX2_setCosts_70 (by decide) (fun c_70 => ?_) (fun c_70 => ?_)
        · have hv : mt_cst h m R r c = 43046721000 + 8 * pm_wt (r - 1) := by
            unfold mt_cst
            rw [if_neg (by rw [show 8 * (r - 1) + (c - 1) = (r - 1) * 8 + c - 1 by omega, ← f1]; omega)]
            rfl
          have n1 : mt_C h (ez_up h' 103 (r * 9 + c) (43046721000 + 8 * pm_wt (r - 1))) w m R r (c + 1) := by
            refine ⟨fun o k ho => (ez_up_ne (by omega)).trans (C.1 o k ho), fun r' k' r0 k0 k1 hh => ?_⟩
            by_cases e : r' = r ∧ k' = c
            · rw [e.1, e.2, show 9 * r + c = r * 9 + c by omega, ez_up_eq]
              exact hv.symm
            · rw [ez_up_ne (by omega)]
              exact C.2 r' k' r0 k0 k1 (by omega)
          refine ez_aload_n dX2_setCosts_91 rfl ?_
          refine g2_3 dX2_setCosts_92 fl_X2_15 ?_
          refine ez_iload dX2_setCosts_95 rfl ?_
          refine ez_bipush dX2_setCosts_97 (by decide) (by decide) ?_
          refine ez_imul dX2_setCosts_99 (by omega) ?_
          refine ez_iload dX2_setCosts_100 rfl ?_
          refine ez_iadd dX2_setCosts_102 (by omega) ?_
          refine ez_lload dX2_setCosts_103 rfl ?_
          refine as103 dX2_setCosts_105 (by omega) ?_
          refine ez_iinc dX2_setCosts_106 rfl (by decide) (by decide) (by omega) ?_
          refine ez_goto 25 dX2_setCosts_109 (by decide) ?_
          refine ez_lessS (L' := [ez_R 101, ez_R 99, ez_I N, ez_I w, ez_I m, ez_I R, ez_L (pm_wt (r - 1)), ez_N, ez_I r, ez_I (c + 1), ez_N, ez_N, ez_N]) ⟨Or.inr rfl, Or.inr rfl, Or.inr rfl, Or.inr rfl, Or.inr rfl, Or.inr rfl, Or.inr rfl, Or.inl rfl, Or.inr rfl, Or.inr rfl, Or.inl rfl, Or.inl rfl, Or.inl rfl, trivial⟩ ?_
          exact ih (c + 1) _ (by omega) (by omega) n1 (by omega)
        · have hv : mt_cst h m R r c = h' 99 ((r - 1) * 8 + c - 1) * 43046721 + (c - 1) * pm_wt (r - 1) := by
            unfold mt_cst
            rw [show 8 * (r - 1) + (c - 1) = (r - 1) * 8 + c - 1 by omega, ← f1, if_pos (by omega)]
            rfl
          have n1 : mt_C h (ez_up h' 103 (r * 9 + c) (h' 99 ((r - 1) * 8 + c - 1) * 43046721 + (c - 1) * pm_wt (r - 1))) w m R r (c + 1) := by
            refine ⟨fun o k ho => (ez_up_ne (by omega)).trans (C.1 o k ho), fun r' k' r0 k0 k1 hh => ?_⟩
            by_cases e : r' = r ∧ k' = c
            · rw [e.1, e.2, show 9 * r + c = r * 9 + c by omega, ez_up_eq]
              exact hv.symm
            · rw [ez_up_ne (by omega)]
              exact C.2 r' k' r0 k0 k1 (by omega)
          refine ez_iload dX2_setCosts_73 rfl ?_
          refine ez_i2l dX2_setCosts_75 ?_
          refine ez_ldc2 (43046721) dX2_setCosts_76 cn_X2_65 rfl (by decide) ?_
          refine ez_lmul dX2_setCosts_79 (by omega) ?_
          have hm0 := Int.mul_nonneg (show 0 ≤ c - 1 by omega) (Int.le_of_lt wp)
          have hm1 := Int.mul_le_mul_of_nonneg_right (show c - 1 ≤ 7 by omega) (Int.le_of_lt wp)
          refine ez_iload dX2_setCosts_80 rfl ?_
          refine ez_iconst dX2_setCosts_82 (by decide) ?_
          refine ez_isub dX2_setCosts_83 (by omega) ?_
          refine ez_i2l dX2_setCosts_84 ?_
          refine ez_lload dX2_setCosts_85 rfl ?_
          refine ez_lmul dX2_setCosts_87 (by omega) ?_
          refine ez_ladd dX2_setCosts_88 (by omega) ?_
          refine ez_lstore dX2_setCosts_89 (by decide) ?_
          refine ez_aload_n dX2_setCosts_91 rfl ?_
          refine g2_3 dX2_setCosts_92 fl_X2_15 ?_
          refine ez_iload dX2_setCosts_95 rfl ?_
          refine ez_bipush dX2_setCosts_97 (by decide) (by decide) ?_
          refine ez_imul dX2_setCosts_99 (by omega) ?_
          refine ez_iload dX2_setCosts_100 rfl ?_
          refine ez_iadd dX2_setCosts_102 (by omega) ?_
          refine ez_lload dX2_setCosts_103 rfl ?_
          refine as103 dX2_setCosts_105 (by omega) ?_
          refine ez_iinc dX2_setCosts_106 rfl (by decide) (by decide) (by omega) ?_
          refine ez_goto 25 dX2_setCosts_109 (by decide) ?_
          refine ez_lessS (L' := [ez_R 101, ez_R 99, ez_I N, ez_I w, ez_I m, ez_I R, ez_L (pm_wt (r - 1)), ez_N, ez_I r, ez_I (c + 1), ez_N, ez_N, ez_N]) ⟨Or.inr rfl, Or.inr rfl, Or.inr rfl, Or.inr rfl, Or.inr rfl, Or.inr rfl, Or.inr rfl, Or.inl rfl, Or.inr rfl, Or.inr rfl, Or.inl rfl, Or.inl rfl, Or.inl rfl, trivial⟩ ?_
          exact ih (c + 1) _ (by omega) (by omega) n1 (by omega)
theorem lp_c2 {w m R N : Int} {h : ez_H} (HW : mt_W h N w m R) : ∀ (n : Nat) (r : Int) (h' : ez_H), (1 ≤ r) → (r ≤ N + 1) → (mt_C h h' w m R r 1) → N + 1 - r < n → ez_En M_X2_setCosts 8 [ez_R 101, ez_R 99, ez_I N, ez_I w, ez_I m, ez_I R, ez_L (pm_wt (r - 2)), ez_N, ez_I (r), ez_N, ez_N, ez_N, ez_N] [] h' (ez_PV (fun h' => mt_C h h' w m R (N + 1) 1)) := by
  intro n
  induction n with
  | zero =>
    intro r h' r0 r1 C hm
    exfalso
    omega
  | succ n ih =>
    intro r h' r0 r1 C hm
    obtain ⟨h1, h2, h3, h4, h5⟩ := id HW
    refine ez_iload dX2_setCosts_8 rfl ?_
    refine ez_iload_n dX2_setCosts_10 rfl ?_
    refine ez_ic_gt 118 dX2_setCosts_11 (by decide) (fun c_11 => ?_) (fun c_11 => ?_)
    · refine ez_vreturn (st := []) dX2_setCosts_118 rfl ?_
      exact ez_PV.in (by rw [show N + 1 = r by omega]; exact C)
    · have wl := pm_wt_succ (show r - 2 < 7 by omega)
      rw [show r - 2 + 1 = r - 1 by omega] at wl
      have wp := pm_wt_pos (r - 1)
      refine ez_lload dX2_setCosts_14 rfl ?_
      refine ez_ldc2 (9) dX2_setCosts_16 cn_X2_67 rfl (by decide) ?_
      refine ez_ldivN dX2_setCosts_19 (by omega) (by omega) ?_
      rw [show pm_wt (r - 2) / 9 = pm_wt (r - 1) by omega]
      refine ez_lstore dX2_setCosts_20 (by decide) ?_
      refine ez_iconst dX2_setCosts_22 (by decide) ?_
      refine ez_istore dX2_setCosts_23 (by decide) ?_
      refine lp_c1 HW (by omega) (fun h2 C2 => ?_) (w + 1).toNat 1 h' (by omega) (by omega) ⟨C.1, fun r' k' r0 k0 k1 hh => C.2 r' k' r0 k0 k1 (by omega)⟩ (by omega)
      refine ez_iinc dX2_setCosts_112 rfl (by decide) (by decide) (by omega) ?_
      refine ez_goto 8 dX2_setCosts_115 (by decide) ?_
      refine ez_lessS (L' := [ez_R 101, ez_R 99, ez_I N, ez_I w, ez_I m, ez_I R, ez_L (pm_wt (r + 1 - 2)), ez_N, ez_I (r + 1), ez_N, ez_N, ez_N, ez_N]) ⟨Or.inr rfl, Or.inr rfl, Or.inr rfl, Or.inr rfl, Or.inr rfl, Or.inr rfl, Or.inr (by rw [show r + 1 - 2 = r - 1 by omega]), Or.inl rfl, Or.inr rfl, Or.inl rfl, Or.inl rfl, Or.inl rfl, Or.inl rfl, trivial⟩ ?_
      exact ih (r + 1) h2 (by omega) (by omega) ⟨C2.1, fun r' k' r0 k0 k1 hh => C2.2 r' k' r0 k0 k1 (by omega)⟩ (by omega)
theorem c_X2_setCosts {w m R N : Int} {h : ez_H} (HW : mt_W h N w m R) : ez_Ct M_X2_setCosts [ez_R 101, ez_R 99, ez_I N, ez_I w, ez_I m, ez_I R] h (ez_PV (fun h' => mt_C h h' w m R (N + 1) 1)) := by
  refine ez_of (by decide) (Nat.le_of_ble_eq_true rfl) (L0 := [ez_R 101, ez_R 99, ez_I N, ez_I w, ez_I m, ez_I R, ez_N, ez_N, ez_N, ez_N, ez_N, ez_N, ez_N]) rfl ?_
  refine ez_ldc2 (43046721) dX2_setCosts_0 cn_X2_65 rfl (by decide) ?_
  refine ez_lstore dX2_setCosts_3 (by decide) ?_
  refine ez_iconst dX2_setCosts_5 (by decide) ?_
  refine ez_istore dX2_setCosts_6 (by decide) ?_
  have k := lp_c2 HW (N + 1).toNat 1 h (by omega) (by have := HW.2.1; omega) ⟨fun _ _ _ => rfl, fun r' k' r0 k0 k1 hh => by omega⟩ (by have := HW.2.1; omega)
  exact k
