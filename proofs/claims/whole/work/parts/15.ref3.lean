/-! where the spots of b come, and how many of them come near one of a -/
def pm_any (g : Int → Int → Int) (R : Int) (j : Int) : Nat → Bool
  | 0 => false
  | i + 1 => pm_any g R j i || decide (g i j ≤ R)
theorem pm_any_of {g : Int → Int → Int} {R j : Int} : ∀ (n i : Nat), i < n → g i j ≤ R → pm_any g R j n = true
  | 0, i, h, _ => absurd h (Nat.not_lt_zero i)
  | n + 1, i, h, hg => by
    unfold pm_any
    by_cases q : i = n
    · subst q
      simp [hg]
    · simp [pm_any_of n i (by omega) hg]
/-- of the rows from nB - t on those with a spot that is near -/
def pm_nr (g : Int → Int → Int) (R : Int) (nA : Nat) (nB : Int) : Nat → Int
  | 0 => 0
  | t + 1 => (if pm_any g R (nB - 1 - t) nA = true then 1 else 0) + pm_nr g R nA nB t
theorem pm_nr_bd {g : Int → Int → Int} {R : Int} {nA : Nat} {nB : Int} : ∀ t : Nat, 0 ≤ pm_nr g R nA nB t ∧ pm_nr g R nA nB t ≤ t
  | 0 => by simp [pm_nr]
  | t + 1 => by
    have ih := pm_nr_bd (g := g) (R := R) (nA := nA) (nB := nB) t
    unfold pm_nr
    push_cast
    split <;> omega
theorem pm_nr_val {g : Int → Int → Int} {R : Int} {nA : Nat} {nB : Int} (hg : ∀ (i : Nat) (j : Int), i < nA → 0 ≤ j → j < nB → 0 ≤ g i j) : ∀ (t : Nat), (t : Int) ≤ nB → ∀ s : Nat, pm_val g R nA nB t s ≤ 1000 * pm_nr g R nA nB t
  | 0, _, s => by simp [pm_nr, pm_val]
  | t + 1, ht, s => by
    have ih := pm_nr_val (R := R) hg t (by omega)
    have hv : pm_val g R nA nB (t + 1) s = pm_fold g R (pm_val g R nA nB t) (nB - 1 - t) s nA := rfl
    rcases pm_fold_at (g := g) (R := R) (nxt := pm_val g R nA nB t) (j := nB - 1 - t) (set := s) nA with q | ⟨i, q1, q2, q3⟩
    · rw [hv, q]
      have := ih s
      unfold pm_nr
      split <;> omega
    · rw [hv, q3]
      have h1 := ih (s ||| 2 ^ i)
      have h2 := hg i (nB - 1 - t) q1 (by omega) (by omega)
      unfold pm_nr
      rw [if_pos (pm_any_of nA i q1 (by omega))]
      omega
theorem fx_t_bd {k x y : Int} (h : (0 ≤ x ∧ x ≤ 999) ∧ (0 ≤ y ∧ y ≤ 999)) : (-999 ≤ fx_tx k x y ∧ fx_tx k x y ≤ 999) ∧ (-999 ≤ fx_ty k x y ∧ fx_ty k x y ≤ 999) := by
  unfold fx_tx fx_ty
  constructor <;> (repeat' split) <;> omega
theorem fx_s_bd {s t : Int} (hs : 1 ≤ s ∧ s ≤ 3) (ht : -999 ≤ t ∧ t ≤ 999) : -2997 ≤ s * t ∧ s * t ≤ 2997 := by
  rcases (show s = 1 ∨ s = 2 ∨ s = 3 by omega) with rfl | rfl | rfl <;> omega
theorem lp_comes {b k s sx sy : Int} {h : ez_H} {nB : Nat} (hb : 0 ≤ b ∧ b < 5) (hB : h 123 b = nB) (hB8 : nB ≤ 8) (hx : ∀ i : Int, 0 ≤ i → i < nB → (0 ≤ h 124 (8 * b + i) ∧ h 124 (8 * b + i) ≤ 999) ∧ (0 ≤ h 125 (8 * b + i) ∧ h 125 (8 * b + i) ≤ 999)) (hs : 1 ≤ s ∧ s ≤ 3) (hsx : -4000 ≤ sx ∧ sx ≤ 4000) (hsy : -4000 ≤ sy ∧ sy ≤ 4000) : ∀ (n : Nat) (j : Nat) (h' : ez_H), (j ≤ nB) → (∀ o k : Int, o ≠ 129 → o ≠ 130 → h' o k = h o k) → (∀ j' : Int, 0 ≤ j' → j' < j → h' 129 j' = s * fx_tx k (h 124 (8 * b + j')) (h 125 (8 * b + j')) + sx ∧ h' 130 j' = s * fx_ty k (h 124 (8 * b + j')) (h 125 (8 * b + j')) + sy) → nB - j < n → ez_En M_X6_comes 3 [ez_R 121, ez_I b, ez_I k, ez_I s, ez_I sx, ez_I sy, ez_I (j : Nat)] [] h' (ez_PV (fun h' => (∀ o k : Int, o ≠ 129 → o ≠ 130 → h' o k = h o k) ∧ ∀ j' : Int, 0 ≤ j' → j' < nB → h' 129 j' = s * fx_tx k (h 124 (8 * b + j')) (h 125 (8 * b + j')) + sx ∧ h' 130 j' = s * fx_ty k (h 124 (8 * b + j')) (h 125 (8 * b + j')) + sy)) := by
  intro n
  induction n with
  | zero =>
    intro j h' j1 ag dn hm
    exfalso
    omega
  | succ n ih =>
    intro j h' j1 ag dn hm
    have eB := ag 123 b (by decide) (by decide)
    refine ez_iload dX6_comes_3 rfl ?_
    refine ez_aload_n dX6_comes_5 rfl ?_
    refine g6_3 dX6_comes_6 fl_X6_17 ?_
    refine ez_iload_n dX6_comes_9 rfl ?_
    refine al123 dX6_comes_10 (by omega) ?_
    refine ez_ic_ge 100 dX6_comes_11 (by decide) (fun c_11 => ?_) (fun c_11 => ?_)
    · refine ez_vreturn (st := []) dX6_comes_100 rfl ?_
      exact ez_PV.in ⟨ag, fun j' j0 j1 => dn j' j0 (by omega)⟩
    · have e1 := ag 124 (8 * b + j) (by decide) (by decide)
      have e2 := ag 125 (8 * b + j) (by decide) (by decide)
      have x1 := hx j (by omega) (by omega)
      rw [← e1, ← e2] at x1
      have t1 := fx_t_bd (k := k) x1
      have t2 := fx_s_bd hs t1.1
      have t3 := fx_s_bd hs t1.2
      refine ez_aload_n dX6_comes_14 rfl ?_
      refine g6_9 dX6_comes_15 fl_X6_36 ?_
      refine ez_iload dX6_comes_18 rfl ?_
      refine ez_iload_n dX6_comes_20 rfl ?_
      refine ez_iload_n dX6_comes_21 rfl ?_
      refine ez_aload_n dX6_comes_22 rfl ?_
      refine g6_4 dX6_comes_23 fl_X6_20 ?_
      refine ez_bipush dX6_comes_26 (by decide) (by decide) ?_
      refine ez_iload_n dX6_comes_28 rfl ?_
      refine ez_imul dX6_comes_29 (by omega) ?_
      refine ez_iload dX6_comes_30 rfl ?_
      refine ez_iadd dX6_comes_32 (by omega) ?_
      refine al124 dX6_comes_33 (by omega) ?_
      refine ez_aload_n dX6_comes_34 rfl ?_
      refine g6_5 dX6_comes_35 fl_X6_23 ?_
      refine ez_bipush dX6_comes_38 (by decide) (by decide) ?_
      refine ez_iload_n dX6_comes_40 rfl ?_
      refine ez_imul dX6_comes_41 (by omega) ?_
      refine ez_iload dX6_comes_42 rfl ?_
      refine ez_iadd dX6_comes_44 (by omega) ?_
      refine al125 dX6_comes_45 (by omega) ?_
      refine cl_X6_turnX dX6_comes_46 ml_X6_66 ft_X6_comes__X6_turnX (Nat.le_of_ble_eq_true rfl) (c_X6_turnX (by omega)) (ez_kF ?_)
      refine ez_imul dX6_comes_49 (by omega) ?_
      refine ez_iload dX6_comes_50 rfl ?_
      refine ez_iadd dX6_comes_52 (by omega) ?_
      refine as129 dX6_comes_53 (by omega) ?_
      have u1 : ∀ z : Int, ez_up h' 129 j z 124 (8 * b + j) = h' 124 (8 * b + j) := fun z => ez_up_ne (by omega)
      have u2 : ∀ z : Int, ez_up h' 129 j z 125 (8 * b + j) = h' 125 (8 * b + j) := fun z => ez_up_ne (by omega)
      refine ez_aload_n dX6_comes_54 rfl ?_
      refine g6_10 dX6_comes_55 fl_X6_39 ?_
      refine ez_iload dX6_comes_58 rfl ?_
      refine ez_iload_n dX6_comes_60 rfl ?_
      refine ez_iload_n dX6_comes_61 rfl ?_
      refine ez_aload_n dX6_comes_62 rfl ?_
      refine g6_4 dX6_comes_63 fl_X6_20 ?_
      refine ez_bipush dX6_comes_66 (by decide) (by decide) ?_
      refine ez_iload_n dX6_comes_68 rfl ?_
      refine ez_imul dX6_comes_69 (by omega) ?_
      refine ez_iload dX6_comes_70 rfl ?_
      refine ez_iadd dX6_comes_72 (by omega) ?_
      refine al124 dX6_comes_73 (by omega) ?_
      refine ez_aload_n dX6_comes_74 rfl ?_
      refine g6_5 dX6_comes_75 fl_X6_23 ?_
      refine ez_bipush dX6_comes_78 (by decide) (by decide) ?_
      refine ez_iload_n dX6_comes_80 rfl ?_
      refine ez_imul dX6_comes_81 (by omega) ?_
      refine ez_iload dX6_comes_82 rfl ?_
      refine ez_iadd dX6_comes_84 (by omega) ?_
      refine al125 dX6_comes_85 (by omega) ?_
      rw [u1, u2]
      refine cl_X6_turnY dX6_comes_86 ml_X6_70 ft_X6_comes__X6_turnY (Nat.le_of_ble_eq_true rfl) (c_X6_turnY (by omega)) (ez_kF ?_)
      refine ez_imul dX6_comes_89 (by omega) ?_
      refine ez_iload dX6_comes_90 rfl ?_
      refine ez_iadd dX6_comes_92 (by omega) ?_
      refine as130 dX6_comes_93 (by omega) ?_
      refine ez_iinc dX6_comes_94 rfl (by decide) (by decide) (by omega) ?_
      refine ez_goto 3 dX6_comes_97 (by decide) ?_
      refine ez_lessS (L' := [ez_R 121, ez_I b, ez_I k, ez_I s, ez_I sx, ez_I sy, ez_I ((j + 1 : Nat) : Int)]) ⟨Or.inr rfl, Or.inr rfl, Or.inr rfl, Or.inr rfl, Or.inr rfl, Or.inr rfl, Or.inr rfl, trivial⟩ ?_
      refine ih (j + 1) _ (by omega) (fun o k' h1 h2 => (ez_up_ne (by omega)).trans ((ez_up_ne (by omega)).trans (ag o k' h1 h2))) (fun j' j0 j1 => ?_) (by omega)
      by_cases q : j' = j
      · subst q
        rw [← e1, ← e2]
        exact ⟨(ez_up_ne (by omega)).trans ez_up_eq, ez_up_eq⟩
      · have d1 := dn j' j0 (by omega)
        exact ⟨(ez_up_ne (by omega)).trans ((ez_up_ne (by omega)).trans d1.1), (ez_up_ne (by omega)).trans ((ez_up_ne (by omega)).trans d1.2)⟩
theorem c_X6_comes {b k s sx sy : Int} {h : ez_H} {nB : Nat} (hb : 0 ≤ b ∧ b < 5) (hB : h 123 b = nB) (hB8 : nB ≤ 8) (hx : ∀ i : Int, 0 ≤ i → i < nB → (0 ≤ h 124 (8 * b + i) ∧ h 124 (8 * b + i) ≤ 999) ∧ (0 ≤ h 125 (8 * b + i) ∧ h 125 (8 * b + i) ≤ 999)) (hs : 1 ≤ s ∧ s ≤ 3) (hsx : -4000 ≤ sx ∧ sx ≤ 4000) (hsy : -4000 ≤ sy ∧ sy ≤ 4000) : ez_Ct M_X6_comes [ez_R 121, ez_I b, ez_I k, ez_I s, ez_I sx, ez_I sy] h ((ez_PV (fun h' => (∀ o k : Int, o ≠ 129 → o ≠ 130 → h' o k = h o k) ∧ ∀ j' : Int, 0 ≤ j' → j' < nB → h' 129 j' = s * fx_tx k (h 124 (8 * b + j')) (h 125 (8 * b + j')) + sx ∧ h' 130 j' = s * fx_ty k (h 124 (8 * b + j')) (h 125 (8 * b + j')) + sy))) := by
  refine ez_of (by decide) (Nat.le_of_ble_eq_true rfl) (L0 := [ez_R 121, ez_I b, ez_I k, ez_I s, ez_I sx, ez_I sy, ez_N]) rfl ?_
  refine ez_iconst dX6_comes_0 (by decide) ?_
  refine ez_istore dX6_comes_1 (by decide) ?_
  exact lp_comes hb hB hB8 hx hs hsx hsy (nB + 1) 0 h (by omega) (fun _ _ _ _ => rfl) (fun j' j0 j1 => absurd j1 (by omega)) (by omega)
theorem lp_n2 {a b : Int} {h : ez_H} {nA nB : Nat} {R : Int} {g : Int → Int → Int} {n0 : Int} {j : Nat} {Q : ez_H → Option ez_V → Prop} (H : rf_G h a b nA nB R g) (hj : j < nB) (kx : ez_En M_X6_near 67 [ez_R 121, ez_I a, ez_I b, ez_I n0, ez_I (j : Nat), ez_I (if pm_any g R j nA = true then 1 else 0), ez_N] [] h Q) : ∀ (n : Nat) (i : Nat) (v : Int), (i ≤ nA) → (v = if pm_any g R j i = true then 1 else 0) → nA - i < n → ez_En M_X6_near 22 [ez_R 121, ez_I a, ez_I b, ez_I n0, ez_I (j : Nat), ez_I v, ez_I (i : Nat)] [] h Q := by
  intro n
  induction n with
  | zero =>
    intro i v i1 ev hm
    exfalso
    omega
  | succ n ih =>
    intro i v i1 ev hm
    obtain ⟨ha, hb, hA, hA8, hB, hB8, hR, hR0, hR1, -⟩ := id H
    refine ez_iload dX6_near_22 rfl ?_
    refine ez_aload_n dX6_near_24 rfl ?_
    refine g6_3 dX6_near_25 fl_X6_17 ?_
    refine ez_iload_n dX6_near_28 rfl ?_
    refine al123 dX6_near_29 (by omega) ?_
    refine ez_ic_ge 67 dX6_near_30 (by decide) (fun c_30 => ?_) (fun c_30 => ?_)
    · refine ez_lessS (L' := [ez_R 121, ez_I a, ez_I b, ez_I n0, ez_I (j : Nat), ez_I v, ez_N]) ⟨Or.inr rfl, Or.inr rfl, Or.inr rfl, Or.inr rfl, Or.inr rfl, Or.inr rfl, Or.inl rfl, trivial⟩ ?_
      rw [show v = (if pm_any g R j nA = true then 1 else 0) from by rw [ev, show i = nA by omega]]
      exact kx
    · refine ez_iload dX6_near_33 rfl ?_
      refine ez_if_ne 54 dX6_near_35 (by decide) (fun c_35 => ?_) (fun c_35 => ?_)
      · have hs1 : pm_any g R j (i + 1) = true := by
          unfold pm_any
          rw [ev] at c_35
          cases q : pm_any g R j i
          · rw [q] at c_35; exact absurd rfl c_35
          · rfl
        refine ez_iconst dX6_near_54 (by decide) ?_
        refine ez_goto 59 dX6_near_55 (by decide) ?_
        refine ez_istore dX6_near_59 (by decide) ?_
        refine ez_iinc dX6_near_61 rfl (by decide) (by decide) (by omega) ?_
        refine ez_goto 22 dX6_near_64 (by decide) ?_
        refine ez_lessS (L' := [ez_R 121, ez_I a, ez_I b, ez_I n0, ez_I (j : Nat), ez_I (if pm_any g R j (i + 1) = true then 1 else 0), ez_I ((i + 1 : Nat) : Int)]) ⟨Or.inr rfl, Or.inr rfl, Or.inr rfl, Or.inr rfl, Or.inr rfl, Or.inr (by rw [hs1]; rfl), Or.inr rfl, trivial⟩ ?_
        exact ih (i + 1) _ (by omega) rfl (by omega)
      · refine ez_aload_n dX6_near_38 rfl ?_
        refine ez_iload_n dX6_near_39 rfl ?_
        refine ez_iload dX6_near_40 rfl ?_
        refine ez_iload dX6_near_42 rfl ?_
        refine cl_X6_farTo dX6_near_44 ml_X6_77 ft_X6_near__X6_farTo (Nat.le_of_ble_eq_true rfl) (c_X6_farTo H (by omega) (by omega)) (ez_kF ?_)
        refine ez_aload_n dX6_near_47 rfl ?_
        refine g6_1 dX6_near_48 fl_X6_7 ?_
        refine ez_ic_gt 58 dX6_near_51 (by decide) (fun c_51 => ?_) (fun c_51 => ?_)
        · have hs1 : pm_any g R j (i + 1) = false := by
            unfold pm_any
            rw [ev] at c_35
            cases q : pm_any g R j i
            · simp; omega
            · rw [q] at c_35; exact absurd c_35 (by decide)
          refine ez_iconst dX6_near_58 (by decide) ?_
          refine ez_istore dX6_near_59 (by decide) ?_
          refine ez_iinc dX6_near_61 rfl (by decide) (by decide) (by omega) ?_
          refine ez_goto 22 dX6_near_64 (by decide) ?_
          refine ez_lessS (L' := [ez_R 121, ez_I a, ez_I b, ez_I n0, ez_I (j : Nat), ez_I (if pm_any g R j (i + 1) = true then 1 else 0), ez_I ((i + 1 : Nat) : Int)]) ⟨Or.inr rfl, Or.inr rfl, Or.inr rfl, Or.inr rfl, Or.inr rfl, Or.inr (by rw [hs1]; rfl), Or.inr rfl, trivial⟩ ?_
          exact ih (i + 1) _ (by omega) rfl (by omega)
        · have hs1 : pm_any g R j (i + 1) = true := by
            unfold pm_any
            simp; omega
          refine ez_iconst dX6_near_54 (by decide) ?_
          refine ez_goto 59 dX6_near_55 (by decide) ?_
          refine ez_istore dX6_near_59 (by decide) ?_
          refine ez_iinc dX6_near_61 rfl (by decide) (by decide) (by omega) ?_
          refine ez_goto 22 dX6_near_64 (by decide) ?_
          refine ez_lessS (L' := [ez_R 121, ez_I a, ez_I b, ez_I n0, ez_I (j : Nat), ez_I (if pm_any g R j (i + 1) = true then 1 else 0), ez_I ((i + 1 : Nat) : Int)]) ⟨Or.inr rfl, Or.inr rfl, Or.inr rfl, Or.inr rfl, Or.inr rfl, Or.inr (by rw [hs1]; rfl), Or.inr rfl, trivial⟩ ?_
          exact ih (i + 1) _ (by omega) rfl (by omega)
theorem lp_n1 {a b : Int} {h : ez_H} {nA nB : Nat} {R : Int} {g : Int → Int → Int} (H : rf_G h a b nA nB R g) : ∀ (n : Nat) (j : Nat) (n0 : Int), (j ≤ nB) → (n0 + pm_nr g R nA nB (nB - j) = pm_nr g R nA nB nB) → nB - j < n → ez_En M_X6_near 5 [ez_R 121, ez_I a, ez_I b, ez_I n0, ez_I (j : Nat), ez_N, ez_N] [] h (ez_F h (pm_nr g R nA nB nB)) := by
  intro n
  induction n with
  | zero =>
    intro j n0 j1 en hm
    exfalso
    omega
  | succ n ih =>
    intro j n0 j1 en hm
    obtain ⟨ha, hb, hA, hA8, hB, hB8, hR, hR0, hR1, -⟩ := id H
    refine ez_iload dX6_near_5 rfl ?_
    refine ez_aload_n dX6_near_7 rfl ?_
    refine g6_3 dX6_near_8 fl_X6_17 ?_
    refine ez_iload_n dX6_near_11 rfl ?_
    refine al123 dX6_near_12 (by omega) ?_
    refine ez_ic_ge 86 dX6_near_13 (by decide) (fun c_13 => ?_) (fun c_13 => ?_)
    · refine ez_iload_n dX6_near_86 rfl ?_
      refine ez_ireturn (st := []) dX6_near_87 rfl ?_
      exact ez_F.in (by rw [← en, show nB - j = 0 by omega]; simp [pm_nr])
    · refine ez_iconst dX6_near_16 (by decide) ?_
      refine ez_istore dX6_near_17 (by decide) ?_
      refine ez_iconst dX6_near_19 (by decide) ?_
      refine ez_istore dX6_near_20 (by decide) ?_
      refine lp_n2 H (by omega) ?_ (nA + 1) 0 _ (by omega) rfl (by omega)
      have hst : pm_nr g R nA nB (nB - j) = (if pm_any g R j nA = true then 1 else 0) + pm_nr g R nA nB (nB - (j + 1)) := by
        rw [show nB - j = (nB - (j + 1)) + 1 by omega]
        show (if pm_any g R ((nB : Int) - 1 - ((nB - (j + 1) : Nat) : Int)) nA = true then (1 : Int) else 0) + _ = _
        rw [show (nB : Int) - 1 - ((nB - (j + 1) : Nat) : Int) = j by omega]
      have hbd := pm_nr_bd (g := g) (R := R) (nA := nA) (nB := nB) (nB - (j + 1))
      have hbd2 := pm_nr_bd (g := g) (R := R) (nA := nA) (nB := nB) nB
      refine ez_iload_n dX6_near_67 rfl ?_
      refine ez_iload dX6_near_68 rfl ?_
      refine ez_if_eq 77 dX6_near_70 (by decide) (fun c_70 => ?_) (fun c_70 => ?_)
      · have ha : ¬ pm_any g R j nA = true := fun q => by rw [if_pos q] at c_70; exact absurd c_70 (by decide)
        rw [if_neg ha] at hst
        refine ez_iconst dX6_near_77 (by decide) ?_
        refine ez_iadd dX6_near_78 (by omega) ?_
        refine ez_istore_n dX6_near_79 (by decide) ?_
        refine ez_iinc dX6_near_80 rfl (by decide) (by decide) (by omega) ?_
        refine ez_goto 5 dX6_near_83 (by decide) ?_
        refine ez_lessS (L' := [ez_R 121, ez_I a, ez_I b, ez_I _, ez_I ((j + 1 : Nat) : Int), ez_N, ez_N]) ⟨Or.inr rfl, Or.inr rfl, Or.inr rfl, Or.inr rfl, Or.inr rfl, Or.inl rfl, Or.inl rfl, trivial⟩ ?_
        exact ih (j + 1) _ (by omega) (by omega) (by omega)
      · have ha : pm_any g R j nA = true := Decidable.byContradiction (fun q => by rw [if_neg q] at c_70; exact absurd rfl c_70)
        rw [if_pos ha] at hst
        refine ez_iconst dX6_near_73 (by decide) ?_
        refine ez_goto 78 dX6_near_74 (by decide) ?_
        refine ez_iadd dX6_near_78 (by omega) ?_
        refine ez_istore_n dX6_near_79 (by decide) ?_
        refine ez_iinc dX6_near_80 rfl (by decide) (by decide) (by omega) ?_
        refine ez_goto 5 dX6_near_83 (by decide) ?_
        refine ez_lessS (L' := [ez_R 121, ez_I a, ez_I b, ez_I _, ez_I ((j + 1 : Nat) : Int), ez_N, ez_N]) ⟨Or.inr rfl, Or.inr rfl, Or.inr rfl, Or.inr rfl, Or.inr rfl, Or.inl rfl, Or.inl rfl, trivial⟩ ?_
        exact ih (j + 1) _ (by omega) (by omega) (by omega)
theorem c_X6_near {a b : Int} {h : ez_H} {nA nB : Nat} {R : Int} {g : Int → Int → Int} (H : rf_G h a b nA nB R g) : ez_Ct M_X6_near [ez_R 121, ez_I a, ez_I b] h (ez_F h (pm_nr g R nA nB nB)) := by
  refine ez_of (by decide) (Nat.le_of_ble_eq_true rfl) (L0 := [ez_R 121, ez_I a, ez_I b, ez_N, ez_N, ez_N, ez_N]) rfl ?_
  refine ez_iconst dX6_near_0 (by decide) ?_
  refine ez_istore_n dX6_near_1 (by decide) ?_
  refine ez_iconst dX6_near_2 (by decide) ?_
  refine ez_istore dX6_near_3 (by decide) ?_
  exact lp_n1 H (nB + 1) 0 0 (by omega) (by simp) (by omega)
