/-! PURE: rows that can be, one by one; their costs as sums; the cheapest row is the reference's -/
theorem bt_or (s a i : Nat) : (s ||| 2 ^ a) / 2 ^ i % 2 = 1 ↔ s / 2 ^ i % 2 = 1 ∨ i = a := by
  have h1 := Nat.testBit_eq_decide_div_mod_eq (x := s ||| 2 ^ a) (i := i)
  have h2 := Nat.testBit_eq_decide_div_mod_eq (x := s) (i := i)
  have h3 : (s ||| 2 ^ a).testBit i = (s.testBit i || (2 ^ a).testBit i) := Nat.testBit_or ..
  have h4 : (2 ^ a).testBit i = decide (a = i) := Nat.testBit_two_pow ..
  rw [h1, h2, h4] at h3
  constructor
  · intro h
    rw [decide_eq_true h] at h3
    by_cases c : s / 2 ^ i % 2 = 1
    · exact Or.inl c
    · rw [decide_eq_false c] at h3
      by_cases d : a = i
      · exact Or.inr d.symm
      · rw [decide_eq_false d] at h3
        exact absurd h3 (by decide)
  · intro h
    by_cases c : (s ||| 2 ^ a) / 2 ^ i % 2 = 1
    · exact c
    · rw [decide_eq_false c] at h3
      rcases h with h | h
      · rw [decide_eq_true h] at h3
        exact absurd h3 (by simp)
      · rw [decide_eq_true h.symm] at h3
        exact absurd h3 (by simp)
theorem pm_ok_in {g : Int → Int → Int} {R : Int} {nA : Nat} {pr : Int → Int} {nB : Int} : ∀ (t : Nat) (set : Nat), pm_ok g R nA pr nB t set → ∀ j : Int, nB - t ≤ j → j < nB → pr j = -1 ∨ ∃ i : Nat, i < nA ∧ pr j = i ∧ set / 2 ^ i % 2 = 0 ∧ g i j ≤ R
  | 0, _, _, j, h1, h2 => by omega
  | t + 1, set, hk, j, h1, h2 => by
    obtain ⟨k1, k2⟩ := hk
    by_cases e : j = nB - 1 - t
    · rw [e]; exact k1
    · rcases pm_ok_in t _ k2 j (by omega) h2 with q | ⟨i, i1, i2, i3, i4⟩
      · exact Or.inl q
      · refine Or.inr ⟨i, i1, i2, ?_, i4⟩
        unfold pm_add at i3
        by_cases c : pr (nB - 1 - t) = -1
        · rw [if_pos c] at i3; exact i3
        · rw [if_neg c] at i3
          have := (bt_or set (pr (nB - 1 - t)).toNat i).2
          by_cases d : set / 2 ^ i % 2 = 1
          · have := this (Or.inl d)
            omega
          · omega
theorem pm_ok_inj {g : Int → Int → Int} {R : Int} {nA : Nat} {pr : Int → Int} {nB : Int} : ∀ (t : Nat) (set : Nat), pm_ok g R nA pr nB t set → ∀ j j' : Int, nB - t ≤ j → j < j' → j' < nB → pr j ≠ -1 → pr j ≠ pr j'
  | 0, _, _, j, j', h1, h2, h3, h4 => by omega
  | t + 1, set, hk, j, j', h1, h2, h3, h4 => by
    obtain ⟨k1, k2⟩ := hk
    by_cases e : j = nB - 1 - t
    · intro hq
      rcases pm_ok_in t _ k2 j' (by omega) h3 with q | ⟨i, i1, i2, i3, i4⟩
      · exact h4 (hq.trans q)
      · rw [← e] at i3
        unfold pm_add at i3
        rw [if_neg h4, hq, i2, Int.toNat_natCast] at i3
        have := (bt_or set i i).2 (Or.inr rfl)
        omega
    · exact pm_ok_inj t _ k2 j j' (by omega) h2 h3 h4
theorem pm_ok_mk {g : Int → Int → Int} {R : Int} {nA : Nat} {pr : Int → Int} {nB : Int} (h1 : ∀ j : Int, 0 ≤ j → j < nB → pr j = -1 ∨ (0 ≤ pr j ∧ pr j < nA ∧ g (pr j) j ≤ R)) (h2 : ∀ j j' : Int, 0 ≤ j → j < j' → j' < nB → pr j ≠ -1 → pr j ≠ pr j') : ∀ (t : Nat) (set : Nat), (t : Int) ≤ nB → (∀ j : Int, nB - t ≤ j → j < nB → pr j ≠ -1 → set / 2 ^ (pr j).toNat % 2 = 0) → pm_ok g R nA pr nB t set
  | 0, _, _, _ => trivial
  | t + 1, set, ht, hs => by
    have j0 : 0 ≤ nB - 1 - (t : Int) := by omega
    refine ⟨?_, pm_ok_mk h1 h2 t _ (by omega) (fun j q1 q2 q3 => ?_)⟩
    · rcases h1 (nB - 1 - t) j0 (by omega) with q | ⟨q1, q2, q3⟩
      · exact Or.inl q
      · refine Or.inr ⟨(pr (nB - 1 - t)).toNat, by omega, by omega, hs _ (by omega) (by omega) (by omega), ?_⟩
        rw [show ((pr (nB - 1 - t)).toNat : Int) = pr (nB - 1 - t) by omega]
        exact q3
    · have a := hs j (by omega) q2 q3
      unfold pm_add
      by_cases c : pr (nB - 1 - t) = -1
      · rw [if_pos c]; exact a
      · rw [if_neg c]
        have b := h2 (nB - 1 - t) j j0 (by omega) q2 c
        rcases h1 (nB - 1 - t) j0 (by omega) with q | ⟨p1, p2, p3⟩
        · exact absurd q c
        · rcases h1 j (by omega) q2 with q | ⟨r1, r2, r3⟩
          · exact absurd q q3
          · by_cases d : (set ||| 2 ^ (pr (nB - 1 - t)).toNat) / 2 ^ (pr j).toNat % 2 = 1
            · rcases (bt_or _ _ _).1 d with x | x
              · omega
              · omega
            · omega
theorem pm_gr_cong' {g : Int → Int → Int} {R : Int} {nA : Nat} {pr pr' : Int → Int} {nB : Int} : ∀ (t : Nat) (set : Nat), (∀ j : Int, nB - t ≤ j → j < nB → pr j = pr' j) → pm_gr g R nA pr nB t set → pm_gr g R nA pr' nB t set
  | 0, _, _, _ => trivial
  | t + 1, set, h, hg => by
    have e : pr (nB - 1 - t) = pr' (nB - 1 - t) := h _ (by omega) (by omega)
    obtain ⟨h1, h2⟩ := hg
    rw [e] at h1 h2
    exact ⟨h1, pm_gr_cong' t _ (fun j hj hj2 => h j (by omega) hj2) h2⟩
/-- a sum from above -/
def rs_ (f : Int → Int) (nB : Int) : Nat → Int
  | 0 => 0
  | t + 1 => f (nB - 1 - t) + rs_ f nB t
theorem rs_sm {f : Int → Int} {n : Nat} : ∀ t : Nat, t ≤ n → rs_ f n t + sm_ f (n - t) = sm_ f n
  | 0, _ => by unfold rs_; rw [Nat.sub_zero, Int.zero_add]
  | t + 1, h => by
    have a := rs_sm (f := f) (n := n) t (by omega)
    rw [show n - t = (n - (t + 1)) + 1 by omega] at a
    have b : sm_ f ((n - (t + 1)) + 1) = sm_ f (n - (t + 1)) + f ((n - (t + 1) : Nat) : Int) := rfl
    rw [b, show ((n - (t + 1) : Nat) : Int) = (n : Int) - 1 - t by omega] at a
    unfold rs_
    omega
theorem rs_all (f : Int → Int) (n : Nat) : rs_ f n n = sm_ f n := by
  have a := rs_sm (f := f) (n := n) n (Nat.le_refl n)
  rw [Nat.sub_self] at a
  have b : sm_ f 0 = 0 := rfl
  omega
theorem pm_tc_rs {g : Int → Int → Int} {pr : Int → Int} {nB : Int} : ∀ t : Nat, pm_tc g pr nB t = rs_ (pm_rc g pr) nB t
  | 0 => rfl
  | t + 1 => by
    unfold pm_tc rs_
    rw [pm_tc_rs t]
theorem pm_tc_sm (g : Int → Int → Int) (pr : Int → Int) (n : Nat) : pm_tc g pr n n = sm_ (pm_rc g pr) n := (pm_tc_rs n).trans (rs_all _ n)
def pm_dg (pr : Int → Int) (j : Int) : Int := if pr j = -1 then 8 else pr j
def pm_x (g : Int → Int → Int) (pr : Int → Int) (j : Int) : Int := if pr j = -1 then 1000 else g (pr j) j
theorem pm_tc_XN {g : Int → Int → Int} {pr : Int → Int} {nB : Int} : ∀ t : Nat, pm_tc g pr nB t = pm_O * rs_ (pm_x g pr) nB t + rs_ (fun j => pm_dg pr j * pm_wt j) nB t
  | 0 => by unfold pm_tc rs_; simp
  | t + 1 => by
    unfold pm_tc rs_
    rw [pm_tc_XN t]
    have e : pm_rc g pr (nB - 1 - t) = pm_O * pm_x g pr (nB - 1 - t) + pm_dg pr (nB - 1 - t) * pm_wt (nB - 1 - t) := by
      unfold pm_rc pm_x pm_dg
      by_cases c : pr (nB - 1 - t) = -1
      · rw [if_pos c, if_pos c, if_pos c, Int.mul_comm pm_O]
      · rw [if_neg c, if_neg c, if_neg c, Int.mul_comm pm_O]
    rw [e, Int.mul_add]
    omega
theorem pm_N_lt {pr : Int → Int} {nB : Int} (hB : nB ≤ 8) (hp : ∀ j : Int, 0 ≤ j → j < nB → -1 ≤ pr j ∧ pr j ≤ 7) : ∀ t : Nat, (t : Int) ≤ nB → 0 ≤ rs_ (fun j => pm_dg pr j * pm_wt j) nB t ∧ rs_ (fun j => pm_dg pr j * pm_wt j) nB t < pm_wt (nB - 1 - t)
  | 0, _ => ⟨Int.le_refl _, pm_wt_pos _⟩
  | t + 1, ht => by
    have a := pm_N_lt hB hp t (by omega)
    have w := pm_wt_succ (show nB - 1 - ((t + 1 : Nat) : Int) < 7 by omega)
    rw [show nB - 1 - ((t + 1 : Nat) : Int) + 1 = nB - 1 - t by omega] at w
    have p := hp (nB - 1 - t) (by omega) (by omega)
    have wp := pm_wt_pos (nB - 1 - t)
    have d : 0 ≤ pm_dg pr (nB - 1 - t) ∧ pm_dg pr (nB - 1 - t) ≤ 8 := by
      unfold pm_dg
      split <;> omega
    have m0 := Int.mul_nonneg d.1 (Int.le_of_lt wp)
    have m1 := Int.mul_le_mul_of_nonneg_right d.2 (Int.le_of_lt wp)
    unfold rs_
    omega
theorem pm_N_eq {pr pr' : Int → Int} {nB : Int} (hB : nB ≤ 8) (hp : ∀ j : Int, 0 ≤ j → j < nB → -1 ≤ pr j ∧ pr j ≤ 7) (hp' : ∀ j : Int, 0 ≤ j → j < nB → -1 ≤ pr' j ∧ pr' j ≤ 7) : ∀ t : Nat, (t : Int) ≤ nB → rs_ (fun j => pm_dg pr j * pm_wt j) nB t = rs_ (fun j => pm_dg pr' j * pm_wt j) nB t → ∀ j : Int, nB - t ≤ j → j < nB → pr j = pr' j
  | 0, _, _, j, h1, h2 => by omega
  | t + 1, ht, he, j, h1, h2 => by
    have a := pm_N_lt hB hp t (by omega)
    have a' := pm_N_lt hB hp' t (by omega)
    have p := hp (nB - 1 - t) (by omega) (by omega)
    have p' := hp' (nB - 1 - t) (by omega) (by omega)
    unfold rs_ at he
    have key : pm_dg pr (nB - 1 - t) = pm_dg pr' (nB - 1 - t) := by
      have wp := pm_wt_pos (nB - 1 - t)
      rcases Int.lt_trichotomy (pm_dg pr (nB - 1 - t)) (pm_dg pr' (nB - 1 - t)) with c | c | c
      · have m := Int.mul_le_mul_of_nonneg_right (show pm_dg pr (nB - 1 - t) + 1 ≤ pm_dg pr' (nB - 1 - t) by omega) (Int.le_of_lt wp)
        rw [Int.add_mul] at m
        omega
      · exact c
      · have m := Int.mul_le_mul_of_nonneg_right (show pm_dg pr' (nB - 1 - t) + 1 ≤ pm_dg pr (nB - 1 - t) by omega) (Int.le_of_lt wp)
        rw [Int.add_mul] at m
        omega
    by_cases e : j = nB - 1 - t
    · rw [e]
      unfold pm_dg at key
      split at key <;> split at key <;> omega
    · rw [key] at he
      exact pm_N_eq hB hp hp' t (by omega) (by omega) j (by omega) h2
theorem pm_wt_m1 : pm_wt (-1) = pm_O := by decide
/-- a row that can be and costs no more than any other is the reference's; its value -/
theorem pm_cheapest {g : Int → Int → Int} {R : Int} {nA n : Nat} {pr : Int → Int} (hA : nA ≤ 8) (hn : n ≤ 8) (n0 : 0 < n) (hok : pm_ok g R nA pr n n 0) (hmin : ∀ pr' : Int → Int, pm_ok g R nA pr' n n 0 → pm_tc g pr n n ≤ pm_tc g pr' n n) : pm_gr g R nA pr n n 0 ∧ sm_ (pm_x g pr) n = 1000 * n - pm_val g R nA n n 0 := by
  obtain ⟨q, hq⟩ := pm_gr_ex g R nA n n 0
  have hn' : (n : Int) ≤ 8 := by omega
  have rng : ∀ p : Int → Int, pm_ok g R nA p n n 0 → ∀ j : Int, 0 ≤ j → j < (n : Int) → -1 ≤ p j ∧ p j ≤ 7 := fun p hp j j0 j1 => by
    rcases pm_ok_in n 0 hp j (by omega) j1 with z | ⟨i, i1, i2, i3, i4⟩ <;> omega
  have qok := (pm_gr_cost hA hn' n 0 (by omega) hq).1
  have e : pm_tc g pr n n = pm_tc g q n n := Int.le_antisymm (hmin q qok) (pm_gr_min hA hn' n 0 (by omega) q hq pr hok)
  have a := pm_N_lt hn' (rng pr hok) n (by omega)
  have b := pm_N_lt hn' (rng q qok) n (by omega)
  rw [show (n : Int) - 1 - (n : Nat) = -1 by omega, pm_wt_m1] at a b
  have e2 := e
  rw [pm_tc_XN, pm_tc_XN] at e2
  have key : rs_ (fun j => pm_dg pr j * pm_wt j) n n = rs_ (fun j => pm_dg q j * pm_wt j) n n := by
    unfold pm_O at a b e2
    omega
  have same := pm_N_eq hn' (rng pr hok) (rng q qok) n (by omega) key
  have gr := pm_gr_cong' (pr := q) (pr' := pr) n 0 (fun j j0 j1 => (same j j0 j1).symm) hq
  refine ⟨gr, ?_⟩
  obtain ⟨-, N, c0, c1, c2, c3⟩ := pm_gr_cost hA hn' n 0 (by omega) gr
  have c2' := c2 n0
  have w := pm_wt_succ (show ((n : Int) - (n : Nat)) - 1 < 7 by omega)
  rw [show (n : Int) - (n : Nat) - 1 + 1 = (n : Int) - (n : Nat) by omega, show (n : Int) - (n : Nat) - 1 = -1 by omega, pm_wt_m1] at w
  rw [pm_tc_XN] at c3
  rw [← rs_all]
  unfold pm_O at a b w c3
  omega
/-- sums of column prices -/
theorem sv_le {σ : Int → Int} {w : Nat} : ∀ (n : Nat) (f : Int → Int), (∀ k : Int, 0 ≤ k → k < w → f k ≤ 0) → (∀ j : Int, 0 ≤ j → j < n → σ j = -1 ∨ (0 ≤ σ j ∧ σ j < w)) → (∀ j j' : Int, 0 ≤ j → j < j' → j' < n → σ j ≠ -1 → σ j ≠ σ j') → sm_ f w ≤ sm_ (fun j => if σ j = -1 then 0 else f (σ j)) n
  | 0, f, hf, _, _ => by
    have := sm_le (f := f) (g := fun _ => 0) w (fun k k0 k1 => hf k k0 k1)
    rw [sm_0 (f := fun _ => (0 : Int)) w (fun _ _ _ => rfl)] at this
    exact this
  | n + 1, f, hf, hs, hi => by
    show sm_ f w ≤ sm_ (fun j => if σ j = -1 then 0 else f (σ j)) n + (if σ n = -1 then 0 else f (σ n))
    by_cases c : σ n = -1
    · rw [if_pos c]
      have := sv_le n f hf (fun j j0 j1 => hs j j0 (by omega)) (fun j j' a b d => hi j j' a b (by omega))
      omega
    · have h0 := hs n (by omega) (by omega)
      have ih := sv_le (σ := σ) (w := w) n (fun k => if k = σ n then 0 else f k) (fun k k0 k1 => by
        split
        · omega
        · exact hf k k0 k1) (fun j j0 j1 => hs j j0 (by omega)) (fun j j' a b d => hi j j' a b (by omega))
      rw [sm_set (f := f) (g := fun k => if k = σ n then 0 else f k) (c := σ n) (by omega) (fun k hk => if_neg hk) w (by omega), if_pos rfl] at ih
      rw [sm_cong (f := fun j => if σ j = -1 then 0 else if σ j = σ n then 0 else f (σ j)) (g := fun j => if σ j = -1 then 0 else f (σ j)) n (fun j j0 j1 => by
        by_cases d : σ j = -1
        · rw [if_pos d, if_pos d]
        · rw [if_neg d, if_neg d, if_neg (hi j n j0 (by omega) (by omega) d)])] at ih
      rw [if_neg c]
      omega
theorem sv_eq {σ : Int → Int} {w : Nat} : ∀ (n : Nat) (f : Int → Int), (∀ k : Int, 0 ≤ k → k < w → (∀ j : Int, 0 ≤ j → j < n → σ j ≠ k) → f k = 0) → (∀ j : Int, 0 ≤ j → j < n → 0 ≤ σ j ∧ σ j < w) → (∀ j j' : Int, 0 ≤ j → j < j' → j' < n → σ j ≠ σ j') → sm_ f w = sm_ (fun j => f (σ j)) n
  | 0, f, hf, _, _ => by
    rw [sm_0 w (fun k k0 k1 => hf k k0 k1 (fun j j0 j1 => by omega))]
    rfl
  | n + 1, f, hf, hs, hi => by
    show sm_ f w = sm_ (fun j => f (σ j)) n + f (σ n)
    have h0 := hs n (by omega) (by omega)
    have ih := sv_eq (σ := σ) (w := w) n (fun k => if k = σ n then 0 else f k) (fun k k0 k1 hk => by
      by_cases d : k = σ n
      · rw [if_pos d]
      · rw [if_neg d]
        refine hf k k0 k1 (fun j j0 j1 => ?_)
        by_cases e : j = n
        · rw [e]; exact fun q => d q.symm
        · exact hk j j0 (by omega)) (fun j j0 j1 => hs j j0 (by omega)) (fun j j' a b d => hi j j' a b (by omega))
    rw [sm_set (f := f) (g := fun k => if k = σ n then 0 else f k) (c := σ n) (by omega) (fun k hk => if_neg hk) w (by omega), if_pos rfl] at ih
    rw [sm_cong (f := fun j => if σ j = σ n then 0 else f (σ j)) (g := fun j => f (σ j)) n (fun j j0 j1 => by
        rw [if_neg (hi j n j0 (by omega) (by omega))])] at ih
    omega
theorem sm_ext {f : Int → Int} {n : Nat} : ∀ d : Nat, (∀ k : Int, n ≤ k → k < n + d → f k = 0) → sm_ f (n + d) = sm_ f n
  | 0, _ => rfl
  | d + 1, h => by
    have a : sm_ f (n + (d + 1)) = sm_ f (n + d) + f ((n + d : Nat) : Int) := rfl
    rw [a, sm_ext d (fun k k0 k1 => h k k0 (by omega)), h ((n + d : Nat) : Int) (by omega) (by omega)]
    omega
