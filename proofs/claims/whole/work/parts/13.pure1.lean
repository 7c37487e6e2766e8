/-! PURE: the best set of pairs, as the reference finds it. g i j: FAR of spot i of A from spot j of B as it comes; R the reach; set: the spots of A that are taken -/
def pm_fold (g : Int → Int → Int) (R : Int) (nxt : Nat → Int) (j : Int) (set : Nat) : Nat → Int
  | 0 => nxt set
  | i + 1 => if set / 2 ^ i % 2 = 1 ∨ R < g i j then pm_fold g R nxt j set i else max (pm_fold g R nxt j set i) (1000 - g i j + nxt (set ||| 2 ^ i))
def pm_val (g : Int → Int → Int) (R : Int) (nA : Nat) (nB : Int) : Nat → Nat → Int
  | 0, _ => 0
  | t + 1, set => pm_fold g R (pm_val g R nA nB t) (nB - 1 - t) set nA
theorem pm_fold_le {g : Int → Int → Int} {R : Int} {nxt : Nat → Int} {j : Int} {set : Nat} : ∀ n : Nat, nxt set ≤ pm_fold g R nxt j set n ∧ ∀ i : Nat, i < n → ¬ (set / 2 ^ i % 2 = 1 ∨ R < g i j) → 1000 - g i j + nxt (set ||| 2 ^ i) ≤ pm_fold g R nxt j set n
  | 0 => ⟨Int.le_refl _, fun i hi => absurd hi (Nat.not_lt_zero i)⟩
  | n + 1 => by
    obtain ⟨h1, h2⟩ := pm_fold_le (g := g) (R := R) (nxt := nxt) (j := j) (set := set) n
    unfold pm_fold
    by_cases hc : set / 2 ^ n % 2 = 1 ∨ R < g n j
    · rw [if_pos hc]
      refine ⟨h1, fun i hi hn => ?_⟩
      by_cases hin : i = n
      · subst hin
        exact absurd hc hn
      · exact h2 i (by omega) hn
    · rw [if_neg hc]
      refine ⟨by omega, fun i hi hn => ?_⟩
      by_cases hin : i = n
      · subst hin
        omega
      · have := h2 i (by omega) hn
        omega
theorem pm_fold_at {g : Int → Int → Int} {R : Int} {nxt : Nat → Int} {j : Int} {set : Nat} : ∀ n : Nat, pm_fold g R nxt j set n = nxt set ∨ ∃ i : Nat, i < n ∧ ¬ (set / 2 ^ i % 2 = 1 ∨ R < g i j) ∧ pm_fold g R nxt j set n = 1000 - g i j + nxt (set ||| 2 ^ i)
  | 0 => Or.inl rfl
  | n + 1 => by
    have ih := pm_fold_at (g := g) (R := R) (nxt := nxt) (j := j) (set := set) n
    unfold pm_fold
    by_cases hc : set / 2 ^ n % 2 = 1 ∨ R < g n j
    · rw [if_pos hc]
      rcases ih with h | ⟨i, h1, h2, h3⟩
      · exact Or.inl h
      · exact Or.inr ⟨i, by omega, h2, h3⟩
    · rw [if_neg hc]
      by_cases hm : pm_fold g R nxt j set n ≤ 1000 - g n j + nxt (set ||| 2 ^ n)
      · exact Or.inr ⟨n, by omega, hc, by omega⟩
      · rcases ih with h | ⟨i, h1, h2, h3⟩
        · exact Or.inl (by omega)
        · exact Or.inr ⟨i, by omega, h2, by omega⟩
/-- a spot of A with which row j of B reaches the value v, the first one; or -1 -/
def pm_pick (g : Int → Int → Int) (R : Int) (nxt : Nat → Int) (j : Int) (set : Nat) (v : Int) : Nat → Int
  | 0 => -1
  | i + 1 => if pm_pick g R nxt j set v i ≠ -1 then pm_pick g R nxt j set v i else if ¬ (set / 2 ^ i % 2 = 1 ∨ R < g i j) ∧ 1000 - g i j + nxt (set ||| 2 ^ i) = v then i else -1
theorem pm_pick_spec {g : Int → Int → Int} {R : Int} {nxt : Nat → Int} {j : Int} {set : Nat} {v : Int} : ∀ n : Nat,
    (pm_pick g R nxt j set v n = -1 ∧ ∀ i : Nat, i < n → ¬ (¬ (set / 2 ^ i % 2 = 1 ∨ R < g i j) ∧ 1000 - g i j + nxt (set ||| 2 ^ i) = v)) ∨
    (∃ i : Nat, i < n ∧ pm_pick g R nxt j set v n = i ∧ (¬ (set / 2 ^ i % 2 = 1 ∨ R < g i j) ∧ 1000 - g i j + nxt (set ||| 2 ^ i) = v) ∧ ∀ k : Nat, k < i → ¬ (¬ (set / 2 ^ k % 2 = 1 ∨ R < g k j) ∧ 1000 - g k j + nxt (set ||| 2 ^ k) = v))
  | 0 => Or.inl ⟨rfl, fun i hi => absurd hi (Nat.not_lt_zero i)⟩
  | n + 1 => by
    have ih := pm_pick_spec (g := g) (R := R) (nxt := nxt) (j := j) (set := set) (v := v) n
    unfold pm_pick
    rcases ih with ⟨h1, h2⟩ | ⟨i, h1, h2, h3, h4⟩
    · rw [if_neg (by rw [h1]; exact fun h => h rfl)]
      by_cases hc : ¬ (set / 2 ^ n % 2 = 1 ∨ R < g n j) ∧ 1000 - g n j + nxt (set ||| 2 ^ n) = v
      · rw [if_pos hc]
        exact Or.inr ⟨n, by omega, rfl, hc, h2⟩
      · rw [if_neg hc]
        refine Or.inl ⟨rfl, fun i hi => ?_⟩
        by_cases hin : i = n
        · subst hin
          exact hc
        · exact h2 i (by omega)
    · rw [if_pos (by rw [h2]; omega)]
      exact Or.inr ⟨i, by omega, h2, h3, h4⟩
/-- what is behind set when row j takes i -/
def pm_add (set : Nat) (i : Int) : Nat := if i = -1 then set else set ||| 2 ^ i.toNat
/-- the set taken behind the rows 0 .. n - 1 -/
def pm_set (pr : Int → Int) : Nat → Nat
  | 0 => 0
  | n + 1 => pm_add (pm_set pr n) (pr n)
def pm_O : Int := 43046721
def pm_wt (j : Int) : Int := 9 ^ (7 - j).toNat
/-- what row j costs -/
def pm_rc (g : Int → Int → Int) (pr : Int → Int) (j : Int) : Int := if pr j = -1 then 1000 * pm_O + 8 * pm_wt j else g (pr j) j * pm_O + pr j * pm_wt j
/-- what the rows from nB - t on cost -/
def pm_tc (g : Int → Int → Int) (pr : Int → Int) (nB : Int) : Nat → Int
  | 0 => 0
  | t + 1 => pm_rc g pr (nB - 1 - t) + pm_tc g pr nB t
/-- the rows from nB - t on are pairs that can be, none with a spot of set -/
def pm_ok (g : Int → Int → Int) (R : Int) (nA : Nat) (pr : Int → Int) (nB : Int) : Nat → Nat → Prop
  | 0, _ => True
  | t + 1, set => (pr (nB - 1 - t) = -1 ∨ ∃ i : Nat, i < nA ∧ pr (nB - 1 - t) = i ∧ set / 2 ^ i % 2 = 0 ∧ g i (nB - 1 - t) ≤ R) ∧ pm_ok g R nA pr nB t (pm_add set (pr (nB - 1 - t)))
/-- the row pr is what the reference's choice gives from nB - t on -/
def pm_gr (g : Int → Int → Int) (R : Int) (nA : Nat) (pr : Int → Int) (nB : Int) : Nat → Nat → Prop
  | 0, _ => True
  | t + 1, set => pr (nB - 1 - t) = pm_pick g R (pm_val g R nA nB t) (nB - 1 - t) set (pm_val g R nA nB (t + 1) set) nA ∧ pm_gr g R nA pr nB t (pm_add set (pr (nB - 1 - t)))
theorem pm_wt_pos (j : Int) : 0 < pm_wt j := Int.pow_pos (by decide)
theorem pm_wt_succ {j : Int} (h : j < 7) : pm_wt j = 9 * pm_wt (j + 1) := by
  unfold pm_wt
  rw [show (7 - j).toNat = (7 - (j + 1)).toNat + 1 by omega, Int.pow_succ]
  omega
/-- the chosen row: it can be, its value is the greatest, and what the order of choices adds to its cost is small -/
theorem pm_gr_cost {g : Int → Int → Int} {R : Int} {nA : Nat} {pr : Int → Int} {nB : Int} (hA : nA ≤ 8) (hB : nB ≤ 8) : ∀ (t : Nat) (set : Nat), (t : Int) ≤ nB → pm_gr g R nA pr nB t set →
    pm_ok g R nA pr nB t set ∧ ∃ N : Int, 0 ≤ N ∧ (t = 0 → N = 0) ∧ (0 < t → N < 9 * pm_wt (nB - t)) ∧ pm_tc g pr nB t = pm_O * (1000 * t - pm_val g R nA nB t set) + N
  | 0, set, _, _ => ⟨trivial, 0, by omega, fun _ => rfl, fun h => absurd h (by omega), by simp [pm_tc, pm_val]⟩
  | t + 1, set, ht, hg => by
    obtain ⟨h1, h2⟩ := hg
    obtain ⟨ih1, N, n0, n1, n2, n3⟩ := pm_gr_cost hA hB t _ (by omega) h2
    have hw := pm_wt_pos (nB - 1 - t)
    have hN : N < pm_wt (nB - 1 - t) := by
      by_cases h0 : t = 0
      · rw [n1 h0]; exact hw
      · have := n2 (by omega)
        rw [pm_wt_succ (show nB - 1 - (t : Int) < 7 by omega), show nB - 1 - (t : Int) + 1 = nB - t by omega]
        exact this
    have hv : pm_val g R nA nB (t + 1) set = pm_fold g R (pm_val g R nA nB t) (nB - 1 - t) set nA := rfl
    have e1 : nB - ((t + 1 : Nat) : Int) = nB - 1 - t := by omega
    rcases pm_pick_spec (g := g) (R := R) (nxt := pm_val g R nA nB t) (j := nB - 1 - t) (set := set) (v := pm_val g R nA nB (t + 1) set) nA with ⟨p1, p2⟩ | ⟨i, p1, p2, p3, p4⟩
    · rw [p1] at h1
      have hadd : pm_add set (pr (nB - 1 - t)) = set := by rw [h1]; rfl
      have hval : pm_val g R nA nB (t + 1) set = pm_val g R nA nB t set := by
        rcases pm_fold_at (g := g) (R := R) (nxt := pm_val g R nA nB t) (j := nB - 1 - t) (set := set) nA with q | ⟨i, q1, q2, q3⟩
        · rw [hv, q]
        · exact absurd ⟨q2, by rw [hv]; exact q3.symm⟩ (p2 i q1)
      rw [hadd] at ih1 n3
      refine ⟨⟨Or.inl h1, by rw [hadd]; exact ih1⟩, 8 * pm_wt (nB - 1 - t) + N, by omega, fun h => absurd h (by omega), fun _ => by rw [e1]; omega, ?_⟩
      show pm_rc g pr (nB - 1 - t) + pm_tc g pr nB t = _
      rw [n3, hval]
      unfold pm_rc pm_O
      rw [if_pos h1]
      push_cast
      omega
    · rw [p2] at h1
      have hadd : pm_add set (pr (nB - 1 - t)) = set ||| 2 ^ i := by
        rw [h1]
        unfold pm_add
        rw [if_neg (by omega), Int.toNat_natCast]
      rw [hadd] at ih1 n3
      have hi8 : (i : Int) ≤ 7 := by omega
      refine ⟨⟨Or.inr ⟨i, p1, h1, by omega, by omega⟩, by rw [hadd]; exact ih1⟩, i * pm_wt (nB - 1 - t) + N, ?_, fun h => absurd h (by omega), fun _ => ?_, ?_⟩
      · have := Int.mul_nonneg (show (0 : Int) ≤ i by omega) (Int.le_of_lt hw)
        omega
      · rw [e1]
        have := Int.mul_le_mul_of_nonneg_right hi8 (Int.le_of_lt hw)
        omega
      · show pm_rc g pr (nB - 1 - t) + pm_tc g pr nB t = _
        rw [n3, ← p3.2]
        unfold pm_rc pm_O
        rw [if_neg (by rw [h1]; omega), h1]
        push_cast
        omega
theorem pm_wt_le {j : Int} (h : 0 ≤ j) : pm_wt j ≤ 4782969 := by
  unfold pm_wt
  have h1 : (7 - j).toNat ≤ 7 := by omega
  generalize (7 - j).toNat = n at h1
  rcases (show n = 0 ∨ n = 1 ∨ n = 2 ∨ n = 3 ∨ n = 4 ∨ n = 5 ∨ n = 6 ∨ n = 7 by omega) with rfl | rfl | rfl | rfl | rfl | rfl | rfl | rfl <;> decide
theorem pm_gr_cong {g : Int → Int → Int} {R : Int} {nA : Nat} {pr pr' : Int → Int} {nB : Int} : ∀ (t : Nat) (set : Nat), (∀ j : Int, nB - t ≤ j → pr j = pr' j) → pm_gr g R nA pr nB t set → pm_gr g R nA pr' nB t set
  | 0, _, _, _ => trivial
  | t + 1, set, h, hg => by
    have e : pr (nB - 1 - t) = pr' (nB - 1 - t) := h _ (by omega)
    obtain ⟨h1, h2⟩ := hg
    rw [e] at h1 h2
    exact ⟨h1, pm_gr_cong t _ (fun j hj => h j (by omega)) h2⟩
theorem pm_gr_ex (g : Int → Int → Int) (R : Int) (nA : Nat) (nB : Int) : ∀ (t : Nat) (set : Nat), ∃ pr : Int → Int, pm_gr g R nA pr nB t set
  | 0, _ => ⟨fun _ => 0, trivial⟩
  | t + 1, set => by
    obtain ⟨q, hq⟩ := pm_gr_ex g R nA nB t (pm_add set (pm_pick g R (pm_val g R nA nB t) (nB - 1 - t) set (pm_val g R nA nB (t + 1) set) nA))
    refine ⟨fun j => if j = nB - 1 - t then pm_pick g R (pm_val g R nA nB t) (nB - 1 - t) set (pm_val g R nA nB (t + 1) set) nA else q j, ?_, ?_⟩
    · exact if_pos rfl
    · show pm_gr g R nA _ nB t (pm_add set (if (nB - 1 - (t : Int)) = nB - 1 - t then _ else _))
      rw [if_pos rfl]
      refine pm_gr_cong t _ (fun j hj => ?_) hq
      show q j = if j = nB - 1 - t then _ else q j
      rw [if_neg (by omega)]
theorem pm_gr_tail {g : Int → Int → Int} {R : Int} {nA : Nat} {pr : Int → Int} {nB : Int} (hA : nA ≤ 8) (hB : nB ≤ 8) {t set : Nat} (ht : (t : Int) + 1 ≤ nB) (hg : pm_gr g R nA pr nB t set) : ∃ N : Int, 0 ≤ N ∧ N < pm_wt (nB - 1 - t) ∧ pm_tc g pr nB t = pm_O * (1000 * t - pm_val g R nA nB t set) + N := by
  obtain ⟨-, N, n0, n1, n2, n3⟩ := pm_gr_cost hA hB t set (by omega) hg
  refine ⟨N, n0, ?_, n3⟩
  have hw := pm_wt_pos (nB - 1 - t)
  by_cases h0 : t = 0
  · rw [n1 h0]; exact hw
  · have := n2 (by omega)
    rw [pm_wt_succ (show nB - 1 - (t : Int) < 7 by omega), show nB - 1 - (t : Int) + 1 = nB - t by omega]
    exact this
/-- any row that can be costs as much at least -/
theorem pm_gr_min {g : Int → Int → Int} {R : Int} {nA : Nat} {nB : Int} (hA : nA ≤ 8) (hB : nB ≤ 8) : ∀ (t : Nat) (set : Nat), (t : Int) ≤ nB → ∀ pr : Int → Int, pm_gr g R nA pr nB t set → ∀ (pr' : Int → Int), pm_ok g R nA pr' nB t set → pm_tc g pr nB t ≤ pm_tc g pr' nB t
  | 0, _, _, _, _, _, _ => Int.le_refl _
  | t + 1, set, ht, pr, hg, pr', hok => by
    obtain ⟨h1, h2⟩ := hg
    obtain ⟨k1, k2⟩ := hok
    obtain ⟨q, hq⟩ := pm_gr_ex g R nA nB t (pm_add set (pr' (nB - 1 - t)))
    have ih := pm_gr_min hA hB t _ (by omega) q hq pr' k2
    obtain ⟨N1, a0, a1, a2⟩ := pm_gr_tail hA hB (by omega) hq
    obtain ⟨N, b0, b1, b2⟩ := pm_gr_tail hA hB (by omega) h2
    have hw := pm_wt_pos (nB - 1 - t)
    have hwl := pm_wt_le (show 0 ≤ nB - 1 - (t : Int) by omega)
    have hv : pm_val g R nA nB (t + 1) set = pm_fold g R (pm_val g R nA nB t) (nB - 1 - t) set nA := rfl
    obtain ⟨f1, f2⟩ := pm_fold_le (g := g) (R := R) (nxt := pm_val g R nA nB t) (j := nB - 1 - t) (set := set) nA
    rw [← hv] at f1 f2
    show pm_rc g pr (nB - 1 - t) + pm_tc g pr nB t ≤ pm_rc g pr' (nB - 1 - t) + pm_tc g pr' nB t
    -- what the chosen row costs
    have key : ∃ d : Int, 0 ≤ d ∧ d ≤ 8 ∧ pm_rc g pr (nB - 1 - t) + pm_tc g pr nB t = pm_O * (1000 * (t + 1) - pm_val g R nA nB (t + 1) set) + d * pm_wt (nB - 1 - t) + N ∧ (d = if pr (nB - 1 - t) = -1 then 8 else pr (nB - 1 - t)) := by
      rcases pm_pick_spec (g := g) (R := R) (nxt := pm_val g R nA nB t) (j := nB - 1 - t) (set := set) (v := pm_val g R nA nB (t + 1) set) nA with ⟨p1, p2⟩ | ⟨i, p1, p2, p3, p4⟩
      · rw [p1] at h1
        have hval : pm_val g R nA nB (t + 1) set = pm_val g R nA nB t set := by
          rcases pm_fold_at (g := g) (R := R) (nxt := pm_val g R nA nB t) (j := nB - 1 - t) (set := set) nA with q | ⟨i, q1, q2, q3⟩
          · rw [hv, q]
          · exact absurd ⟨q2, by rw [hv]; exact q3.symm⟩ (p2 i q1)
        have hadd : pm_add set (pr (nB - 1 - t)) = set := by rw [h1]; rfl
        rw [hadd] at b2
        refine ⟨8, by omega, by omega, ?_, by rw [if_pos h1]⟩
        rw [b2, hval]
        unfold pm_rc pm_O
        rw [if_pos h1]
        omega
      · rw [p2] at h1
        have hadd : pm_add set (pr (nB - 1 - t)) = set ||| 2 ^ i := by
          rw [h1]
          unfold pm_add
          rw [if_neg (by omega), Int.toNat_natCast]
        rw [hadd] at b2
        refine ⟨i, by omega, by omega, ?_, by rw [h1, if_neg (by omega)]⟩
        rw [b2, ← p3.2]
        unfold pm_rc pm_O
        rw [if_neg (by rw [h1]; omega), h1]
        omega
    obtain ⟨d, d0, d1, d2, d3⟩ := key
    have hd8 := Int.mul_le_mul_of_nonneg_right d1 (Int.le_of_lt hw)
    rcases k1 with k1 | ⟨i, i1, i2, i3, i4⟩
    · -- the other one leaves row j alone
      have hadd : pm_add set (pr' (nB - 1 - t)) = set := by rw [k1]; rfl
      rw [hadd] at a2 hq
      have e2 : pm_rc g pr' (nB - 1 - t) = 1000 * pm_O + 8 * pm_wt (nB - 1 - t) := by
        unfold pm_rc
        rw [if_pos k1]
      rw [d2, e2]
      by_cases hvv : pm_val g R nA nB (t + 1) set = pm_val g R nA nB t set
      · by_cases hn : pr (nB - 1 - t) = -1
        · -- both leave it alone
          have hadd2 : pm_add set (pr (nB - 1 - t)) = set := by rw [hn]; rfl
          rw [hadd2] at h2
          have ih2 := pm_gr_min hA hB t _ (by omega) pr h2 pr' (by rw [← hadd]; exact k2)
          rw [← d2]
          have e3 : pm_rc g pr (nB - 1 - t) = 1000 * pm_O + 8 * pm_wt (nB - 1 - t) := by
            unfold pm_rc
            rw [if_pos hn]
          omega
        · rw [if_neg hn] at d3
          have hd7 : d ≤ 7 := by
            rcases pm_pick_spec (g := g) (R := R) (nxt := pm_val g R nA nB t) (j := nB - 1 - t) (set := set) (v := pm_val g R nA nB (t + 1) set) nA with ⟨p1, p2⟩ | ⟨i, p1, p2, p3, p4⟩
            · exact absurd (h1.trans p1) hn
            · rw [d3, h1, p2]; omega
          have hd7w := Int.mul_le_mul_of_nonneg_right hd7 (Int.le_of_lt hw)
          unfold pm_O at a2 ⊢
          rw [hvv]
          omega
      · unfold pm_O at a2 ⊢
        omega
    · have hadd : pm_add set (pr' (nB - 1 - t)) = set ||| 2 ^ i := by
        rw [i2]
        unfold pm_add
        rw [if_neg (by omega), Int.toNat_natCast]
      rw [hadd] at a2 hq
      have e2 : pm_rc g pr' (nB - 1 - t) = g i (nB - 1 - t) * pm_O + i * pm_wt (nB - 1 - t) := by
        unfold pm_rc
        rw [if_neg (by rw [i2]; omega), i2]
      have hu := f2 i i1 (by omega)
      have hi0 := Int.mul_nonneg (show (0 : Int) ≤ i by omega) (Int.le_of_lt hw)
      rw [d2, e2]
      by_cases hvv : 1000 - g i (nB - 1 - t) + pm_val g R nA nB t (set ||| 2 ^ i) = pm_val g R nA nB (t + 1) set
      · rcases pm_pick_spec (g := g) (R := R) (nxt := pm_val g R nA nB t) (j := nB - 1 - t) (set := set) (v := pm_val g R nA nB (t + 1) set) nA with ⟨p1, p2⟩ | ⟨i', p1, p2, p3, p4⟩
        · exact absurd ⟨by omega, hvv⟩ (p2 i i1)
        · rw [p2] at h1
          rw [h1, if_neg (by omega)] at d3
          rcases Nat.lt_trichotomy i' i with c | c | c
          · have hm := Int.mul_le_mul_of_nonneg_right (show d + 1 ≤ i by omega) (Int.le_of_lt hw)
            rw [Int.add_mul] at hm
            unfold pm_O at a2 ⊢
            omega
          · subst c
            have hadd2 : pm_add set (pr (nB - 1 - t)) = set ||| 2 ^ i' := by
              rw [h1]
              unfold pm_add
              rw [if_neg (by omega), Int.toNat_natCast]
            rw [hadd2] at h2
            have ih2 := pm_gr_min hA hB t _ (by omega) pr h2 pr' (by rw [← hadd]; exact k2)
            rw [← d2]
            have e3 : pm_rc g pr (nB - 1 - t) = g i' (nB - 1 - t) * pm_O + i' * pm_wt (nB - 1 - t) := by
              unfold pm_rc
              rw [if_neg (by rw [h1]; omega), h1]
            omega
          · exact absurd ⟨by omega, hvv⟩ (p4 i c)
      · unfold pm_O at a2 ⊢
        omega
