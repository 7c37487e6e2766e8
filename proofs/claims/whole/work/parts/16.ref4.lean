/-! PURE: the best lay of a plate B on a plate A. A plate: how many spots, their x, their y -/
abbrev bl_P : Type := Nat × (Int → Int) × (Int → Int)
def bl_g (A B : bl_P) (k s sx sy : Int) : Int → Int → Int := fun i j => fx_far (A.2.1 i) (A.2.2 i) (s * fx_tx k (B.2.1 j) (B.2.2 j) + sx) (s * fx_ty k (B.2.1 j) (B.2.2 j) + sy)
def bl_v (R : Int) (A B : bl_P) (k s sx sy : Int) : Int := pm_val (bl_g A B k s sx sy) R A.1 B.1 B.1 0
/-- a lay by numbers: TURN k, STRETCH s, spot j of B right upon spot i of A -/
def bl_ok (A B : bl_P) (k s i j : Int) : Prop := (0 ≤ k ∧ k < 4) ∧ (1 ≤ s ∧ s < 4) ∧ (0 ≤ i ∧ i < A.1) ∧ (0 ≤ j ∧ j < B.1)
def bl_sx (A B : bl_P) (k s i j : Int) : Int := A.2.1 i - s * fx_tx k (B.2.1 j) (B.2.2 j)
def bl_sy (A B : bl_P) (k s i j : Int) : Int := A.2.2 i - s * fx_ty k (B.2.1 j) (B.2.2 j)
def bl_w (R : Int) (A B : bl_P) (k s i j : Int) : Int := bl_v R A B k s (bl_sx A B k s i j) (bl_sy A B k s i j)
/-- the order of lays of one worth -/
def bl_le (k s x y k' s' x' y' : Int) : Prop := k < k' ∨ (k = k' ∧ (s < s' ∨ (s = s' ∧ (x < x' ∨ (x = x' ∧ y ≤ y')))))
/-- of the lays in P the best one is k, s, x, y -/
def bl_top (R : Int) (A B : bl_P) (P : Int → Int → Int → Int → Prop) (k s x y : Int) : Prop :=
  (∃ i j : Int, bl_ok A B k s i j ∧ P k s i j ∧ x = bl_sx A B k s i j ∧ y = bl_sy A B k s i j) ∧
  ∀ k' s' i' j' : Int, bl_ok A B k' s' i' j' → P k' s' i' j' → bl_w R A B k' s' i' j' < bl_v R A B k s x y ∨ (bl_w R A B k' s' i' j' = bl_v R A B k s x y ∧ bl_le k s x y k' s' (bl_sx A B k' s' i' j') (bl_sy A B k' s' i' j'))
/-- the best lay -/
def bl_B (R : Int) (A B : bl_P) (k s x y : Int) : Prop := bl_top R A B (fun _ _ _ _ => True) k s x y
theorem bl_B_one {R : Int} {A B : bl_P} {k s x y k' s' x' y' : Int} (h1 : bl_B R A B k s x y) (h2 : bl_B R A B k' s' x' y') : k = k' ∧ s = s' ∧ x = x' ∧ y = y' := by
  obtain ⟨⟨i, j, a1, -, a2, a3⟩, a4⟩ := h1
  obtain ⟨⟨i', j', b1, -, b2, b3⟩, b4⟩ := h2
  have c1 := a4 k' s' i' j' b1 trivial
  have c2 := b4 k s i j a1 trivial
  have d1 : bl_w R A B k' s' i' j' = bl_v R A B k' s' x' y' := by unfold bl_w; rw [b2, b3]
  have d2 : bl_w R A B k s i j = bl_v R A B k s x y := by unfold bl_w; rw [a2, a3]
  rw [d1, ← b2, ← b3] at c1
  rw [d2, ← a2, ← a3] at c2
  unfold bl_le at c1 c2
  omega
/-- the best one so far, and one more -/
def bl_new (R : Int) (A B : bl_P) (k s i j : Int) (best k0 s0 x0 y0 : Int) : Prop := best < bl_w R A B k s i j ∨ (bl_w R A B k s i j = best ∧ k = k0 ∧ s = s0 ∧ (bl_sx A B k s i j < x0 ∨ (bl_sx A B k s i j = x0 ∧ bl_sy A B k s i j < y0)))
theorem bl_top_new {R : Int} {A B : bl_P} {P P' : Int → Int → Int → Int → Prop} {k s i j best k0 s0 x0 y0 : Int} (hok : bl_ok A B k s i j) (hP : ∀ k' s' i' j' : Int, bl_ok A B k' s' i' j' → (P' k' s' i' j' ↔ P k' s' i' j' ∨ (k' = k ∧ s' = s ∧ i' = i ∧ j' = j)))
    (hks : ∀ k' s' i' j' : Int, bl_ok A B k' s' i' j' → P k' s' i' j' → k' < k ∨ (k' = k ∧ s' ≤ s))
    (h : (best = -1 ∧ ∀ k' s' i' j' : Int, bl_ok A B k' s' i' j' → ¬ P k' s' i' j') ∨ (bl_top R A B P k0 s0 x0 y0 ∧ best = bl_v R A B k0 s0 x0 y0)) (hn : bl_new R A B k s i j best k0 s0 x0 y0) (hv : 0 ≤ bl_w R A B k s i j) :
    bl_top R A B P' k s (bl_sx A B k s i j) (bl_sy A B k s i j) := by
  have hme : P' k s i j := (hP k s i j hok).mpr (Or.inr ⟨rfl, rfl, rfl, rfl⟩)
  refine ⟨⟨i, j, hok, hme, rfl, rfl⟩, fun k' s' i' j' hok' hp' => ?_⟩
  have hself : bl_v R A B k s (bl_sx A B k s i j) (bl_sy A B k s i j) = bl_w R A B k s i j := rfl
  rw [hself]
  rcases (hP k' s' i' j' hok').mp hp' with hp | ⟨e1, e2, e3, e4⟩
  · rcases h with ⟨-, h⟩ | ⟨⟨-, h⟩, hb⟩
    · exact absurd hp (h k' s' i' j' hok')
    · have h1 := h k' s' i' j' hok' hp
      have h2 := hks k' s' i' j' hok' hp
      rw [← hb] at h1
      unfold bl_new at hn
      unfold bl_le at h1 ⊢
      omega
  · subst e1; subst e2; subst e3; subst e4
    refine Or.inr ⟨rfl, ?_⟩
    unfold bl_le
    omega
theorem bl_top_old {R : Int} {A B : bl_P} {P P' : Int → Int → Int → Int → Prop} {k s i j best k0 s0 x0 y0 : Int} (hok : bl_ok A B k s i j) (hP : ∀ k' s' i' j' : Int, bl_ok A B k' s' i' j' → (P' k' s' i' j' ↔ P k' s' i' j' ∨ (k' = k ∧ s' = s ∧ i' = i ∧ j' = j)))
    (hks : ∀ k' s' i' j' : Int, bl_ok A B k' s' i' j' → P k' s' i' j' → k' < k ∨ (k' = k ∧ s' ≤ s))
    (h : (best = -1 ∧ ∀ k' s' i' j' : Int, bl_ok A B k' s' i' j' → ¬ P k' s' i' j') ∨ (bl_top R A B P k0 s0 x0 y0 ∧ best = bl_v R A B k0 s0 x0 y0)) (hn : ¬ bl_new R A B k s i j best k0 s0 x0 y0) (hv : 0 ≤ bl_w R A B k s i j) :
    bl_top R A B P' k0 s0 x0 y0 ∧ best = bl_v R A B k0 s0 x0 y0 := by
  rcases h with ⟨hb, -⟩ | ⟨⟨⟨i0, j0, a1, a2, a3, a4⟩, h⟩, hb⟩
  · unfold bl_new at hn
    omega
  · refine ⟨⟨⟨i0, j0, a1, (hP _ _ _ _ a1).mpr (Or.inl a2), a3, a4⟩, fun k' s' i' j' hok' hp' => ?_⟩, hb⟩
    rcases (hP k' s' i' j' hok').mp hp' with hp | ⟨e1, e2, e3, e4⟩
    · exact h k' s' i' j' hok' hp
    · subst e1; subst e2; subst e3; subst e4
      have h2 := hks k0 s0 i0 j0 a1 a2
      rw [← hb]
      unfold bl_new at hn
      unfold bl_le
      omega
theorem bl_top_iff {R : Int} {A B : bl_P} {P P' : Int → Int → Int → Int → Prop} {k s x y : Int} (h : bl_top R A B P k s x y) (hP : ∀ k' s' i' j' : Int, bl_ok A B k' s' i' j' → (P' k' s' i' j' ↔ P k' s' i' j')) : bl_top R A B P' k s x y := by
  obtain ⟨⟨i, j, a1, a2, a3, a4⟩, h⟩ := h
  exact ⟨⟨i, j, a1, (hP _ _ _ _ a1).mpr a2, a3, a4⟩, fun k' s' i' j' h1 h2 => h k' s' i' j' h1 ((hP _ _ _ _ h1).mp h2)⟩
theorem fx_far_0 (x y : Int) : fx_far x y x y = 0 := by unfold fx_far; omega
/-- a lay that brings a spot right upon another one is worth something -/
theorem bl_w_pos {R : Int} {A B : bl_P} {k s i j : Int} (hR : 0 ≤ R) (hok : bl_ok A B k s i j) : 1000 ≤ bl_w R A B k s i j := by
  obtain ⟨-, -, ⟨i0, i1⟩, ⟨j0, j1⟩⟩ := hok
  obtain ⟨n, rfl⟩ := Int.eq_ofNat_of_zero_le i0
  have hg0 : bl_g A B k s (bl_sx A B k s n j) (bl_sy A B k s n j) n j = 0 := by
    unfold bl_g bl_sx bl_sy
    rw [show s * fx_tx k (B.2.1 j) (B.2.2 j) + (A.2.1 n - s * fx_tx k (B.2.1 j) (B.2.2 j)) = A.2.1 n by omega, show s * fx_ty k (B.2.1 j) (B.2.2 j) + (A.2.2 n - s * fx_ty k (B.2.1 j) (B.2.2 j)) = A.2.2 n by omega]
    exact fx_far_0 _ _
  have hg : ∀ (i' : Nat) (j' : Int), i' < A.1 → 0 ≤ j' → j' < (B.1 : Int) → 0 ≤ bl_g A B k s (bl_sx A B k s n j) (bl_sy A B k s n j) i' j' := fun i' j' _ _ _ => by unfold bl_g fx_far; omega
  -- by the rows from j on
  have key : ∀ t : Nat, t ≤ B.1 → (B.1 : Int) - t ≤ j → 1000 ≤ pm_val (bl_g A B k s (bl_sx A B k s n j) (bl_sy A B k s n j)) R A.1 B.1 t 0 := by
    intro t
    induction t with
    | zero =>
      intro _ h
      exfalso
      omega
    | succ t ih =>
      intro h1 h2
      obtain ⟨f1, f2⟩ := pm_fold_le (g := bl_g A B k s (bl_sx A B k s n j) (bl_sy A B k s n j)) (R := R) (nxt := pm_val (bl_g A B k s (bl_sx A B k s n j) (bl_sy A B k s n j)) R A.1 B.1 t) (j := (B.1 : Int) - 1 - t) (set := 0) A.1
      show 1000 ≤ pm_fold _ R _ _ 0 A.1
      by_cases q : (B.1 : Int) - 1 - t = j
      · have f3 := f2 n (by omega) (by rw [q, hg0]; simp; omega)
        rw [q, hg0] at f3
        have f4 := (pm_val_bd (R := R) (nA := A.1) (nB := B.1) hg t (by omega) (0 ||| 2 ^ n)).1
        rw [q]
        omega
      · have := ih (by omega) (by omega)
        omega
  exact key B.1 (Nat.le_refl _) (by omega)
