/-! how many of f 0 .. f (n - 1) are not 0 -/
def mt_cnt (f : Int → Int) : Nat → Int
  | 0 => 0
  | n + 1 => mt_cnt f n + (if f n = 0 then 0 else 1)
theorem mt_cnt_le {f : Int → Int} : ∀ n : Nat, 0 ≤ mt_cnt f n ∧ mt_cnt f n ≤ n
  | 0 => by unfold mt_cnt; omega
  | n + 1 => by
    have := mt_cnt_le (f := f) n
    unfold mt_cnt
    split <;> omega
theorem mt_cnt_lt {f : Int → Int} {k : Int} (k0 : 0 ≤ k) (hf : f k = 0) : ∀ n : Nat, k < n → mt_cnt f n < n
  | 0, h => by omega
  | n + 1, h => by
    unfold mt_cnt
    by_cases e : k = n
    · rw [← e, if_pos hf]
      have := (mt_cnt_le (f := f) n).2
      omega
    · have := mt_cnt_lt k0 hf n (by omega)
      split <;> omega
theorem mt_cnt_ex {f : Int → Int} : ∀ n : Nat, mt_cnt f n < n → ∃ k : Int, (0 ≤ k ∧ k < n) ∧ f k = 0
  | 0, h => by have := (mt_cnt_le (f := f) 0).1; omega
  | n + 1, h => by
    unfold mt_cnt at h
    by_cases e : f n = 0
    · exact ⟨n, by omega, e⟩
    · rw [if_neg e] at h
      obtain ⟨k, k0, k1⟩ := mt_cnt_ex (f := f) n (by omega)
      exact ⟨k, by omega, k1⟩
theorem mt_cnt_cong {f g : Int → Int} : ∀ n : Nat, (∀ k : Int, 0 ≤ k → k < n → (f k = 0 ↔ g k = 0)) → mt_cnt f n = mt_cnt g n
  | 0, _ => rfl
  | n + 1, h => by
    unfold mt_cnt
    rw [mt_cnt_cong n (fun k k0 k1 => h k k0 (by omega))]
    have := h n (by omega) (by omega)
    by_cases e : f n = 0
    · rw [if_pos e, if_pos (this.1 e)]
    · rw [if_neg e, if_neg (fun q => e (this.2 q))]
theorem mt_cnt_set {f g : Int → Int} {c : Int} (c0 : 0 ≤ c) (hf : f c = 0) (hg : g c ≠ 0) (he : ∀ k : Int, k ≠ c → (f k = 0 ↔ g k = 0)) : ∀ n : Nat, c < n → mt_cnt g n = mt_cnt f n + 1
  | 0, h => by omega
  | n + 1, h => by
    unfold mt_cnt
    by_cases e : c = n
    · rw [← e, if_pos hf, if_neg hg, mt_cnt_cong (f := f) (g := g) n (fun k k0 k1 => he k (by omega)), Int.add_zero]
    · rw [mt_cnt_set c0 hf hg he n (by omega)]
      have := he n (by omega)
      by_cases q : f n = 0
      · rw [if_pos q, if_pos (this.1 q), Int.add_zero, Int.add_zero]
      · rw [if_neg q, if_neg (fun z => q (this.2 z))]
/-! the Matcher's prices: what holds of them all the time. Rows below `row` may have a price -/
def mt_D (h : ez_H) (n w row : Int) : Prop := (1 ≤ w ∧ w ≤ 8 ∧ 0 ≤ n ∧ n ≤ w) ∧ (∀ r k : Int, 1 ≤ r → r ≤ n → 1 ≤ k → k ≤ w → 0 ≤ h 103 (9 * r + k) ∧ h 103 (9 * r + k) ≤ 100000000000) ∧ (∀ r k : Int, 1 ≤ r → r ≤ n → 1 ≤ k → k ≤ w → 0 ≤ mt_red h r k) ∧ (∀ k : Int, 1 ≤ k → k ≤ w → h 105 k ≤ 0) ∧ (∀ r : Int, 0 ≤ r → r ≤ 8 → 0 ≤ h 104 r) ∧ (∀ r : Int, 0 ≤ r → r ≤ 8 → (r = 0 ∨ row ≤ r) → h 104 r = 0) ∧ (∀ k : Int, w < k → k ≤ 8 → h 105 k = 0)
theorem mt_D.w1 {h : ez_H} {n w row : Int} (x_ : mt_D h n w row) : 1 ≤ w ∧ w ≤ 8 ∧ 0 ≤ n ∧ n ≤ w := x_.1
theorem mt_D.c {h : ez_H} {n w row : Int} (x_ : mt_D h n w row) : ∀ r k : Int, 1 ≤ r → r ≤ n → 1 ≤ k → k ≤ w → 0 ≤ h 103 (9 * r + k) ∧ h 103 (9 * r + k) ≤ 100000000000 := x_.2.1
theorem mt_D.f {h : ez_H} {n w row : Int} (x_ : mt_D h n w row) : ∀ r k : Int, 1 ≤ r → r ≤ n → 1 ≤ k → k ≤ w → 0 ≤ mt_red h r k := x_.2.2.1
theorem mt_D.v {h : ez_H} {n w row : Int} (x_ : mt_D h n w row) : ∀ k : Int, 1 ≤ k → k ≤ w → h 105 k ≤ 0 := x_.2.2.2.1
theorem mt_D.u {h : ez_H} {n w row : Int} (x_ : mt_D h n w row) : ∀ r : Int, 0 ≤ r → r ≤ 8 → 0 ≤ h 104 r := x_.2.2.2.2.1
theorem mt_D.u0 {h : ez_H} {n w row : Int} (x_ : mt_D h n w row) : ∀ r : Int, 0 ≤ r → r ≤ 8 → (r = 0 ∨ row ≤ r) → h 104 r = 0 := x_.2.2.2.2.2.1
theorem mt_D.v9 {h : ez_H} {n w row : Int} (x_ : mt_D h n w row) : ∀ k : Int, w < k → k ≤ 8 → h 105 k = 0 := x_.2.2.2.2.2.2
/-- the columns of the rows 1 .. row - 1 -/
def mt_A (h : ez_H) (w row : Int) : Prop := (∀ k : Int, 1 ≤ k → k ≤ w → 0 ≤ h 107 k ∧ h 107 k < row) ∧ (∀ k k' : Int, 1 ≤ k → k ≤ w → 1 ≤ k' → k' ≤ w → h 107 k ≠ 0 → h 107 k = h 107 k' → k = k') ∧ (∀ r : Int, 1 ≤ r → r < row → ∃ k : Int, (1 ≤ k ∧ k ≤ w) ∧ h 107 k = r) ∧ (∀ k : Int, 1 ≤ k → k ≤ w → h 107 k ≠ 0 → mt_red h (h 107 k) k = 0) ∧ (∀ k : Int, 1 ≤ k → k ≤ w → h 107 k = 0 → h 105 k = 0) ∧ (mt_cnt (fun k => h 107 (k + 1)) w.toNat = row - 1)
theorem mt_A.r {h : ez_H} {w row : Int} (x_ : mt_A h w row) : ∀ k : Int, 1 ≤ k → k ≤ w → 0 ≤ h 107 k ∧ h 107 k < row := x_.1
theorem mt_A.i {h : ez_H} {w row : Int} (x_ : mt_A h w row) : ∀ k k' : Int, 1 ≤ k → k ≤ w → 1 ≤ k' → k' ≤ w → h 107 k ≠ 0 → h 107 k = h 107 k' → k = k' := x_.2.1
theorem mt_A.s {h : ez_H} {w row : Int} (x_ : mt_A h w row) : ∀ r : Int, 1 ≤ r → r < row → ∃ k : Int, (1 ≤ k ∧ k ≤ w) ∧ h 107 k = r := x_.2.2.1
theorem mt_A.t {h : ez_H} {w row : Int} (x_ : mt_A h w row) : ∀ k : Int, 1 ≤ k → k ≤ w → h 107 k ≠ 0 → mt_red h (h 107 k) k = 0 := x_.2.2.2.1
theorem mt_A.z {h : ez_H} {w row : Int} (x_ : mt_A h w row) : ∀ k : Int, 1 ≤ k → k ≤ w → h 107 k = 0 → h 105 k = 0 := x_.2.2.2.2.1
theorem mt_A.n {h : ez_H} {w row : Int} (x_ : mt_A h w row) : mt_cnt (fun k => h 107 (k + 1)) w.toNat = row - 1 := x_.2.2.2.2.2
/-- bounds, where a column is free -/
theorem mt_D.bd {h : ez_H} {n w row row' : Int} (D : mt_D h n w row') (A : mt_A h w row) (hn : row' ≤ n + 1) (hn2 : row ≤ n + 1) {q : Int} (q1 : 1 ≤ q ∧ q ≤ w) (q2 : h 107 q = 0) : (∀ r : Int, 0 ≤ r → r ≤ 8 → 0 ≤ h 104 r ∧ h 104 r ≤ 100000000000) ∧ ∀ k : Int, 1 ≤ k → k ≤ 8 → -100000000000 ≤ h 105 k ∧ h 105 k ≤ 0 := by
  have w1 := D.w1
  have U : ∀ r : Int, 0 ≤ r → r ≤ 8 → 0 ≤ h 104 r ∧ h 104 r ≤ 100000000000 := fun r r0 r1 => by
    refine ⟨D.u r r0 r1, ?_⟩
    by_cases c : 1 ≤ r ∧ r ≤ n
    · have a := D.f r q c.1 c.2 q1.1 q1.2
      have b := D.c r q c.1 c.2 q1.1 q1.2
      have d := A.z q q1.1 q1.2 q2
      unfold mt_red at a
      omega
    · rw [D.u0 r r0 r1 (by omega)]
      decide
  refine ⟨U, fun k k0 k1 => ?_⟩
  by_cases c : k ≤ w
  · refine ⟨?_, D.v k k0 c⟩
    have a := A.r k k0 c
    by_cases e : h 107 k = 0
    · rw [A.z k k0 c e]
      decide
    · have b := A.t k k0 c e
      have d := D.c (h 107 k) k (by omega) (by omega) k0 c
      have e2 := U (h 107 k) (by omega) (by omega)
      unfold mt_red at b
      omega
  · rw [D.v9 k (by omega) k1]
    decide
/-- the search for a free column: s columns are passed, at_ is next; t: when each was passed -/
def mt_K (h : ez_H) (n w row at_ s : Int) (t : Int → Int) : Prop := (mt_D h n w (row + 1)) ∧ (mt_A h w row) ∧ (1 ≤ row ∧ row ≤ n) ∧ (h 107 0 = row) ∧ (-(100000000000 * (row - 1)) - h 104 row ≤ h 105 0 ∧ h 105 0 ≤ 0) ∧ (∀ k : Int, 0 ≤ k → k ≤ w → h 109 k ≠ 0 → h 107 k ≠ 0 ∧ 0 ≤ t k ∧ t k < s) ∧ (∀ k : Int, 1 ≤ k → k ≤ w → h 109 k ≠ 0 → (0 ≤ h 108 k ∧ h 108 k ≤ w) ∧ h 109 (h 108 k) ≠ 0 ∧ t (h 108 k) < t k ∧ mt_red h (h 107 (h 108 k)) k = 0) ∧ (∀ k : Int, 1 ≤ k → k ≤ w → h 109 k = 0 → (s = 0 ∧ h 106 k = 1152921504606846976) ∨ (0 < s ∧ (0 ≤ h 108 k ∧ h 108 k ≤ w) ∧ h 109 (h 108 k) ≠ 0 ∧ h 106 k = mt_red h (h 107 (h 108 k)) k)) ∧ (∀ k q : Int, 1 ≤ k → k ≤ w → h 109 k = 0 → 0 ≤ q → q ≤ w → h 109 q ≠ 0 → h 106 k ≤ mt_red h (h 107 q) k) ∧ ((0 ≤ at_ ∧ at_ ≤ w) ∧ h 109 at_ = 0 ∧ (s = 0 → at_ = 0) ∧ (0 < s → 1 ≤ at_ ∧ h 106 at_ = 0 ∧ h 109 0 ≠ 0)) ∧ (0 ≤ s) ∧ (mt_cnt (h 109) (w.toNat + 1) = s)
theorem mt_K.D {h : ez_H} {n w row at_ s : Int} {t : Int → Int} (x_ : mt_K h n w row at_ s t) : mt_D h n w (row + 1) := x_.1
theorem mt_K.A {h : ez_H} {n w row at_ s : Int} {t : Int → Int} (x_ : mt_K h n w row at_ s t) : mt_A h w row := x_.2.1
theorem mt_K.row {h : ez_H} {n w row at_ s : Int} {t : Int → Int} (x_ : mt_K h n w row at_ s t) : 1 ≤ row ∧ row ≤ n := x_.2.2.1
theorem mt_K.r0 {h : ez_H} {n w row at_ s : Int} {t : Int → Int} (x_ : mt_K h n w row at_ s t) : h 107 0 = row := x_.2.2.2.1
theorem mt_K.j0 {h : ez_H} {n w row at_ s : Int} {t : Int → Int} (x_ : mt_K h n w row at_ s t) : -(100000000000 * (row - 1)) - h 104 row ≤ h 105 0 ∧ h 105 0 ≤ 0 := x_.2.2.2.2.1
theorem mt_K.p {h : ez_H} {n w row at_ s : Int} {t : Int → Int} (x_ : mt_K h n w row at_ s t) : ∀ k : Int, 0 ≤ k → k ≤ w → h 109 k ≠ 0 → h 107 k ≠ 0 ∧ 0 ≤ t k ∧ t k < s := x_.2.2.2.2.2.1
theorem mt_K.c {h : ez_H} {n w row at_ s : Int} {t : Int → Int} (x_ : mt_K h n w row at_ s t) : ∀ k : Int, 1 ≤ k → k ≤ w → h 109 k ≠ 0 → (0 ≤ h 108 k ∧ h 108 k ≤ w) ∧ h 109 (h 108 k) ≠ 0 ∧ t (h 108 k) < t k ∧ mt_red h (h 107 (h 108 k)) k = 0 := x_.2.2.2.2.2.2.1
theorem mt_K.g {h : ez_H} {n w row at_ s : Int} {t : Int → Int} (x_ : mt_K h n w row at_ s t) : ∀ k : Int, 1 ≤ k → k ≤ w → h 109 k = 0 → (s = 0 ∧ h 106 k = 1152921504606846976) ∨ (0 < s ∧ (0 ≤ h 108 k ∧ h 108 k ≤ w) ∧ h 109 (h 108 k) ≠ 0 ∧ h 106 k = mt_red h (h 107 (h 108 k)) k) := x_.2.2.2.2.2.2.2.1
theorem mt_K.l {h : ez_H} {n w row at_ s : Int} {t : Int → Int} (x_ : mt_K h n w row at_ s t) : ∀ k q : Int, 1 ≤ k → k ≤ w → h 109 k = 0 → 0 ≤ q → q ≤ w → h 109 q ≠ 0 → h 106 k ≤ mt_red h (h 107 q) k := x_.2.2.2.2.2.2.2.2.1
theorem mt_K.a {h : ez_H} {n w row at_ s : Int} {t : Int → Int} (x_ : mt_K h n w row at_ s t) : (0 ≤ at_ ∧ at_ ≤ w) ∧ h 109 at_ = 0 ∧ (s = 0 → at_ = 0) ∧ (0 < s → 1 ≤ at_ ∧ h 106 at_ = 0 ∧ h 109 0 ≠ 0) := x_.2.2.2.2.2.2.2.2.2.1
theorem mt_K.s0 {h : ez_H} {n w row at_ s : Int} {t : Int → Int} (x_ : mt_K h n w row at_ s t) : 0 ≤ s := x_.2.2.2.2.2.2.2.2.2.2.1
theorem mt_K.n {h : ez_H} {n w row at_ s : Int} {t : Int → Int} (x_ : mt_K h n w row at_ s t) : mt_cnt (h 109) (w.toNat + 1) = s := x_.2.2.2.2.2.2.2.2.2.2.2
theorem mt_K.free {h : ez_H} {n w row at_ s : Int} {t : Int → Int} (K : mt_K h n w row at_ s t) : ∃ q : Int, (1 ≤ q ∧ q ≤ w) ∧ h 107 q = 0 ∧ h 109 q = 0 := by
  have w1 := K.D.w1
  have r1 := K.row
  obtain ⟨k, k0, k1⟩ := mt_cnt_ex (f := fun k => h 107 (k + 1)) w.toNat (by rw [K.A.n]; omega)
  refine ⟨k + 1, by omega, k1, ?_⟩
  by_cases e : h 109 (k + 1) = 0
  · exact e
  · exact absurd k1 (K.p (k + 1) (by omega) (by omega) e).1
/-- rows of passed columns: each of one column -/
theorem mt_K.inj {h : ez_H} {n w row at_ s : Int} {t : Int → Int} (K : mt_K h n w row at_ s t) {k k' : Int} (k0 : 0 ≤ k) (k1 : k ≤ w) (k2 : 0 ≤ k') (k3 : k' ≤ w) (hz : h 107 k ≠ 0) (e : h 107 k = h 107 k') : k = k' := by
  have r0 := K.r0
  by_cases a : k = 0
  · by_cases b : k' = 0
    · omega
    · have := K.A.r k' (by omega) k3
      rw [a] at e
      omega
  · by_cases b : k' = 0
    · have := K.A.r k (by omega) k1
      rw [b] at e
      omega
    · exact K.A.i k k' (by omega) k1 (by omega) k3 hz e
theorem mt_K.rr {h : ez_H} {n w row at_ s : Int} {t : Int → Int} (K : mt_K h n w row at_ s t) {k : Int} (k0 : 0 ≤ k) (k1 : k ≤ w) : 0 ≤ h 107 k ∧ h 107 k ≤ row := by
  have r0 := K.r0
  have r1 := K.row
  by_cases a : k = 0
  · rw [a]; omega
  · have := K.A.r k (by omega) k1
    omega
/-- one step of the search -/
theorem mt_K.step {h h2 h' : ez_H} {n w row at_ s ls nx : Int} {t : Int → Int} (K : mt_K h n w row at_ s t) (hr : h 107 at_ ≠ 0)
    (m1 : mt_1 (ez_up h 109 at_ 1) h2 at_ (h 107 at_) (w + 1) ls nx) (m2 : mt_2 h2 h' (w + 1) ls) : mt_K h' n w row nx (s + 1) (fun k => if k = at_ then s else t k) := by
  have w1 := K.D.w1
  have row1 := K.row
  have ka := K.a
  have s0 := K.s0
  have ar := K.rr (k := at_) ka.1.1 ka.1.2
  -- what is as it was
  have e3 : ∀ k : Int, h' 103 k = h 103 k := fun k => (m2.1 103 k (by decide) (by decide) (by decide)).trans ((m1.1 103 k (by omega)).trans (ez_up_ne (by omega)))
  have e7 : ∀ k : Int, h' 107 k = h 107 k := fun k => (m2.1 107 k (by decide) (by decide) (by decide)).trans ((m1.1 107 k (by omega)).trans (ez_up_ne (by omega)))
  have e9 : ∀ k : Int, h' 109 k = ez_up h 109 at_ 1 109 k := fun k => (m2.1 109 k (by decide) (by decide) (by decide)).trans (m1.1 109 k (by omega))
  have g9 : ∀ k : Int, h2 109 k = ez_up h 109 at_ 1 109 k := fun k => m1.1 109 k (by omega)
  have g7 : ∀ k : Int, h2 107 k = h 107 k := fun k => (m1.1 107 k (by omega)).trans (ez_up_ne (by omega))
  have g4 : ∀ k : Int, h2 104 k = h 104 k := fun k => (m1.1 104 k (by omega)).trans (ez_up_ne (by omega))
  have g5 : ∀ k : Int, h2 105 k = h 105 k := fun k => (m1.1 105 k (by omega)).trans (ez_up_ne (by omega))
  have pat : ez_up h 109 at_ 1 109 at_ = 1 := ez_up_eq
  have pne : ∀ k : Int, k ≠ at_ → ez_up h 109 at_ 1 109 k = h 109 k := fun k hk => ez_up_ne (by omega)
  have rd : ∀ r k : Int, mt_red (ez_up h 109 at_ 1) r k = mt_red h r k := fun r k => by
    unfold mt_red
    rw [ez_up_ne (by omega), ez_up_ne (by omega), ez_up_ne (by omega)]
  -- passed now
  have P' : ∀ k : Int, 0 ≤ k → k ≤ w → h' 109 k ≠ 0 → h 107 k ≠ 0 := fun k k0 k1 k2 => by
    by_cases e : k = at_
    · rw [e]; exact hr
    · rw [e9, pne k e] at k2
      exact (K.p k k0 k1 k2).1
  have G0 : ∀ k : Int, 1 ≤ k → k ≤ w → h' 109 k = 0 → k ≠ at_ ∧ h 109 k = 0 := fun k k0 k1 k2 => by
    have e : k ≠ at_ := fun e => by
      rw [e9, e, pat] at k2
      exact absurd k2 (by decide)
    refine ⟨e, ?_⟩
    rw [e9, pne k e] at k2
    exact k2
  -- the gap behind the first pass
  have GG : ∀ k : Int, 1 ≤ k → k ≤ w → h' 109 k = 0 → h' 106 k = mt_G (ez_up h 109 at_ 1) (h 107 at_) k - ls ∧ h' 105 k = h 105 k ∧ h' 108 k = (if mt_red h (h 107 at_) k < h 106 k then at_ else h 108 k) ∧ ls ≤ mt_G (ez_up h 109 at_ 1) (h 107 at_) k := fun k k0 k1 k2 => by
    have a := m1.2.1 k k0 (by omega) (by rw [← e9]; exact k2)
    have b := m2.2.2.1 k (by omega) (by omega) (by rw [g9, ← e9]; exact k2)
    have c := m2.1 108 k (by decide) (by decide) (by decide)
    rw [rd, ez_up_ne (by omega), ez_up_ne (by omega)] at a
    exact ⟨by rw [b.2, a.1], by rw [b.1, g5], by rw [c, a.2.1], a.2.2⟩
  have GE : ∀ k : Int, mt_G (ez_up h 109 at_ 1) (h 107 at_) k = if mt_red h (h 107 at_) k < h 106 k then mt_red h (h 107 at_) k else h 106 k := fun k => by
    unfold mt_G
    rw [rd, ez_up_ne (by omega)]
  have PP : ∀ k : Int, 0 ≤ k → k ≤ w → h' 109 k ≠ 0 → h' 104 (h 107 k) = h 104 (h 107 k) + ls ∧ h' 105 k = h 105 k - ls := fun k k0 k1 k2 => by
    have b := m2.2.1 k k0 (by omega) (by rw [g9, ← e9]; exact k2)
    rw [g7, g4, g5] at b
    exact ⟨b.1, b.2.1⟩
  have PN : ∀ r : Int, (∀ k : Int, 0 ≤ k → k ≤ w → h' 109 k ≠ 0 → h 107 k ≠ r) → h' 104 r = h 104 r := fun r hh => by
    have b := m2.2.2.2.2 r (fun k k0 k1 k2 => by
      rw [g7]
      exact hh k k0 (by omega) (by rw [e9, ← g9]; exact k2))
    rw [b, g4]
  have P8 : ∀ k : Int, 1 ≤ k → h' 109 k ≠ 0 → h' 108 k = h 108 k := fun k k0 k2 =>
    (m2.1 108 k (by decide) (by decide) (by decide)).trans ((m1.1 108 k (fun q => k2 (by rw [e9]; exact q.2.2.2))).trans (ez_up_ne (by omega)))
  -- the least
  obtain ⟨q, q1, q2, q3⟩ := K.free
  have qne : q ≠ at_ := fun e => hr (by rw [← e]; exact q2)
  have g0 : ∀ k : Int, 1 ≤ k → k ≤ w → h 109 k = 0 → 0 ≤ h 106 k := fun k k0 k1 k2 => by
    rcases K.g k k0 k1 k2 with x | ⟨x0, x1, x2, x3⟩
    · rw [x.2]; decide
    · rw [x3]
      have y1 := K.rr (k := h 108 k) x1.1 x1.2
      have y2 := (K.p _ x1.1 x1.2 x2).1
      exact K.D.f _ k (by omega) (by omega) k0 k1
  have hn : (1 ≤ nx ∧ nx < w + 1) ∧ ez_up h 109 at_ 1 109 nx = 0 ∧ ls = mt_G (ez_up h 109 at_ 1) (h 107 at_) nx := by
    rcases m1.2.2.1 with x | x
    · have a := (m1.2.1 q q1.1 (by omega) (by rw [pne q qne]; exact q3)).2.2
      rw [GE] at a
      have bd := K.D.bd K.A (by omega) (by omega) q1 q2
      have b1 := K.D.c (h 107 at_) q (by omega) (by omega) q1.1 q1.2
      have b2 := bd.1 (h 107 at_) (by omega) (by omega)
      have b3 := bd.2 q q1.1 (by omega)
      have : mt_red h (h 107 at_) q ≤ 1000000000000 := by unfold mt_red; omega
      exfalso
      have x1 := x.1
      split at a <;> omega
    · exact ⟨x.1, x.2.1, x.2.2.1⟩
  have hnx : h' 109 nx = 0 := by rw [e9]; exact hn.2.1
  have n0 := G0 nx hn.1.1 (by omega) hnx
  have ls0 : 0 ≤ ls := by
    rw [hn.2.2, GE]
    split
    · exact K.D.f _ nx (by omega) (by omega) hn.1.1 (by omega)
    · exact g0 nx hn.1.1 (by omega) n0.2
  -- every passed row's price is at least the gap
  have GL : ∀ k p : Int, 1 ≤ k → k ≤ w → h' 109 k = 0 → 0 ≤ p → p ≤ w → h' 109 p ≠ 0 → mt_G (ez_up h 109 at_ 1) (h 107 at_) k ≤ mt_red h (h 107 p) k := fun k p k0 k1 k2 p0 p1 p2 => by
    have gk := G0 k k0 k1 k2
    rw [GE]
    by_cases e : p = at_
    · rw [e]
      split <;> omega
    · rw [e9, pne p e] at p2
      have := K.l k p k0 k1 gk.2 p0 p1 p2
      split <;> omega
  -- reduced costs: four cases
  have RA : ∀ p k : Int, 0 ≤ p → p ≤ w → h' 109 p ≠ 0 → 1 ≤ k → k ≤ w → h' 109 k ≠ 0 → mt_red h' (h 107 p) k = mt_red h (h 107 p) k := fun p k p0 p1 p2 k0 k1 k2 => by
    unfold mt_red
    rw [e3, (PP p p0 p1 p2).1, (PP k (by omega) k1 k2).2]
    omega
  have RB : ∀ p k : Int, 0 ≤ p → p ≤ w → h' 109 p ≠ 0 → 1 ≤ k → k ≤ w → h' 109 k = 0 → mt_red h' (h 107 p) k = mt_red h (h 107 p) k - ls := fun p k p0 p1 p2 k0 k1 k2 => by
    unfold mt_red
    rw [e3, (PP p p0 p1 p2).1, (GG k k0 k1 k2).2.1]
    omega
  have RC : ∀ r k : Int, (∀ k : Int, 0 ≤ k → k ≤ w → h' 109 k ≠ 0 → h 107 k ≠ r) → 1 ≤ k → k ≤ w → mt_red h' r k = mt_red h r k + (if h' 109 k = 0 then 0 else ls) := fun r k hh k0 k1 => by
    unfold mt_red
    rw [e3, PN r hh]
    by_cases c : h' 109 k = 0
    · rw [if_pos c, (GG k k0 k1 c).2.1]
      omega
    · rw [if_neg c, (PP k (by omega) k1 c).2]
      omega
  have UN : ∀ r : Int, r ≤ 0 ∨ row + 1 ≤ r → h' 104 r = h 104 r := fun r hh => PN r (fun k k0 k1 k2 e => by
    have a := K.rr k0 k1
    have b := P' k k0 k1 k2
    omega)
  have h90 : h' 109 0 ≠ 0 := by
    rw [e9]
    by_cases e : s = 0
    · rw [ka.2.2.1 e, ez_up_eq]
      decide
    · have z := ka.2.2.2 (by omega)
      rw [pne 0 (by omega)]
      exact z.2.2
  have z0 := PP 0 (by omega) (by omega) h90
  have U' : ∀ r : Int, h' 104 r = h 104 r ∨ h' 104 r = h 104 r + ls := fun r => by
    by_cases c : ∃ k : Int, (0 ≤ k ∧ k ≤ w) ∧ h' 109 k ≠ 0 ∧ h 107 k = r
    · obtain ⟨k, k0, k1, k2⟩ := c
      rw [← k2]
      exact Or.inr (PP k k0.1 k0.2 k1).1
    · exact Or.inl (PN r (fun k k0 k1 k2 e => c ⟨k, ⟨k0, k1⟩, k2, e⟩))
  refine ⟨⟨w1, fun r k r0 r1 k0 k1 => by rw [e3]; exact K.D.c r k r0 r1 k0 k1, fun r k r0 r1 k0 k1 => ?_, fun k k0 k1 => ?_, fun r r0 r1 => ?_, fun r r0 r1 hh => ?_, fun k k0 k1 => ?_⟩, ⟨fun k k0 k1 => by rw [e7]; exact K.A.r k k0 k1, fun k k' k0 k1 k2 k3 k4 k5 => ?_, fun r r0 r1 => ?_, fun k k0 k1 k2 => ?_, fun k k0 k1 k2 => ?_, ?_⟩, row1, by rw [e7]; exact K.r0, ?_, fun k k0 k1 k2 => ?_, fun k k0 k1 k2 => ?_, fun k k0 k1 k2 => ?_, fun k q k0 k1 k2 q0 q1 q2 => ?_, ⟨by omega, hnx, fun e => by omega, fun _ => ⟨hn.1.1, ?_, h90⟩⟩, by omega, ?_⟩
  · -- no price too high
    have a := K.D.f r k r0 r1 k0 k1
    by_cases c : ∃ p : Int, (0 ≤ p ∧ p ≤ w) ∧ h' 109 p ≠ 0 ∧ h 107 p = r
    · obtain ⟨p, p0, p1, p2⟩ := c
      rw [← p2] at a ⊢
      by_cases d : h' 109 k = 0
      · rw [RB p k p0.1 p0.2 p1 k0 k1 d]
        have x := GL k p k0 k1 d p0.1 p0.2 p1
        have y := (GG k k0 k1 d).2.2.2
        omega
      · rw [RA p k p0.1 p0.2 p1 k0 k1 d]
        exact a
    · rw [RC r k (fun p p0 p1 p2 e => c ⟨p, ⟨p0, p1⟩, p2, e⟩) k0 k1]
      split <;> omega
  · have a := K.D.v k k0 k1
    by_cases d : h' 109 k = 0
    · rw [(GG k k0 k1 d).2.1]; exact a
    · rw [(PP k (by omega) k1 d).2]; omega
  · have a := K.D.u r r0 r1
    rcases U' r with x | x <;> omega
  · rw [UN r (by omega)]
    exact K.D.u0 r r0 r1 hh
  · rw [(m2.2.2.2.1 k (by omega)).1, g5]
    exact K.D.v9 k k0 k1
  · rw [e7] at k4 k5
    rw [e7] at k5
    exact K.A.i k k' k0 k1 k2 k3 k4 k5
  · obtain ⟨k, k0, k1⟩ := K.A.s r r0 r1
    exact ⟨k, k0, by rw [e7]; exact k1⟩
  · rw [e7] at k2 ⊢
    have a := K.A.t k k0 k1 k2
    by_cases d : h' 109 k = 0
    · rw [RC (h 107 k) k (fun p p0 p1 p2 e => by
        have := K.inj p0 p1 (by omega) k1 (P' p p0 p1 p2) e
        rw [this] at p2
        exact p2 d) k0 k1, if_pos d]
      omega
    · rw [RA k k (by omega) k1 d k0 k1 d]
      exact a
  · rw [e7] at k2
    have d : h' 109 k = 0 := by
      by_cases d : h' 109 k = 0
      · exact d
      · exact absurd k2 (P' k (by omega) k1 d)
    rw [(GG k k0 k1 d).2.1]
    exact K.A.z k k0 k1 k2
  · rw [← K.A.n]
    exact mt_cnt_cong _ (fun k _ _ => by rw [e7])
  · have a := K.j0
    rw [K.r0] at z0
    omega
  · rw [e7]
    refine ⟨P' k k0 k1 k2, ?_⟩
    by_cases e : k = at_
    · dsimp only
      rw [if_pos e]
      omega
    · rw [e9, pne k e] at k2
      have := K.p k k0 k1 k2
      dsimp only
      rw [if_neg e]
      omega
  · rw [P8 k k0 k2, e7]
    dsimp only
    by_cases e : k = at_
    · have z : 0 < s := by
        by_cases z : s = 0
        · have := ka.2.2.1 z
          omega
        · omega
      have kk := ka.2.2.2 z
      rcases K.g at_ kk.1 ka.1.2 ka.2.1 with x | ⟨x0, x1, x2, x3⟩
      · omega
      · rw [← e] at x1 x2 x3 kk
        have ne : h 108 k ≠ at_ := fun q => x2 (by rw [q]; exact ka.2.1)
        have pd : h' 109 (h 108 k) ≠ 0 := by rw [e9, pne _ ne]; exact x2
        refine ⟨x1, pd, ?_, ?_⟩
        · rw [if_pos e, if_neg ne]
          exact (K.p _ x1.1 x1.2 x2).2.2
        · rw [RA _ k x1.1 x1.2 pd k0 k1 k2, ← x3]
          exact kk.2.1
    · have k2' : h 109 k ≠ 0 := by rw [← pne k e, ← e9]; exact k2
      obtain ⟨x1, x2, x3, x4⟩ := K.c k k0 k1 k2'
      have ne : h 108 k ≠ at_ := fun q => x2 (by rw [q]; exact ka.2.1)
      have pd : h' 109 (h 108 k) ≠ 0 := by rw [e9, pne _ ne]; exact x2
      refine ⟨x1, pd, by rw [if_neg e, if_neg ne]; exact x3, ?_⟩
      rw [RA _ k x1.1 x1.2 pd k0 k1 k2]
      exact x4
  · refine Or.inr ⟨by omega, ?_⟩
    obtain ⟨x1, x2, x3, x4⟩ := GG k k0 k1 k2
    have gk := G0 k k0 k1 k2
    rw [x1, x3, e7, GE]
    by_cases c : mt_red h (h 107 at_) k < h 106 k
    · rw [if_pos c, if_pos c]
      have pd : h' 109 at_ ≠ 0 := by rw [e9, pat]; decide
      exact ⟨ka.1, pd, by rw [RB at_ k ka.1.1 ka.1.2 pd k0 k1 k2]⟩
    · rw [if_neg c, if_neg c]
      rcases K.g k k0 k1 gk.2 with y | ⟨y0, y1, y2, y3⟩
      · exfalso
        have bd := K.D.bd K.A (by omega) (by omega) ⟨q1.1, q1.2⟩ q2
        have b1 := K.D.c (h 107 at_) k (by omega) (by omega) k0 k1
        have b2 := bd.1 (h 107 at_) (by omega) (by omega)
        have b3 := bd.2 k k0 (by omega)
        have y2 := y.2
        unfold mt_red at c
        omega
      · have ne : h 108 k ≠ at_ := fun q => y2 (by rw [q]; exact ka.2.1)
        have pd : h' 109 (h 108 k) ≠ 0 := by rw [e9, pne _ ne]; exact y2
        exact ⟨y1, pd, by rw [RB _ k y1.1 y1.2 pd k0 k1 k2, ← y3]⟩
  · rw [e7, (GG k k0 k1 k2).1, RB q k q0 q1 q2 k0 k1 k2]
    have := GL k q k0 k1 k2 q0 q1 q2
    omega
  · rw [(GG nx hn.1.1 (by omega) hnx).1, ← hn.2.2]
    omega
  · rw [← K.n]
    refine mt_cnt_set (c := at_) ka.1.1 ka.2.1 (by rw [e9, pat]; decide) (fun k hk => by rw [e9, pne k hk]) _ (by omega)
