/-! PURE: two rows of FARs that are alike as far as they are near -/
def pm_near (g g' : Int → Int → Int) (R : Int) (nA : Nat) (nB : Int) : Prop := ∀ i j : Int, 0 ≤ i → i < nA → 0 ≤ j → j < nB → g i j ≤ R ∨ g' i j ≤ R → g i j = g' i j
theorem pm_fold_near {g g' : Int → Int → Int} {R j : Int} {nxt nxt' : Nat → Int} {set : Nat} (hn : ∀ s : Nat, nxt s = nxt' s) : ∀ n : Nat, (∀ i : Nat, i < n → g i j ≤ R ∨ g' i j ≤ R → g i j = g' i j) → pm_fold g R nxt j set n = pm_fold g' R nxt' j set n
  | 0, _ => hn set
  | n + 1, h => by
    unfold pm_fold
    rw [pm_fold_near hn n (fun i hi => h i (by omega))]
    have q := h n (by omega)
    by_cases c : g n j ≤ R ∨ g' n j ≤ R
    · rw [q c, hn]
    · rw [if_pos (by omega), if_pos (by omega)]
theorem pm_val_near {g g' : Int → Int → Int} {R : Int} {nA : Nat} {nB : Int} (h : pm_near g g' R nA nB) : ∀ (t : Nat), (t : Int) ≤ nB → ∀ s : Nat, pm_val g R nA nB t s = pm_val g' R nA nB t s
  | 0, _, _ => rfl
  | t + 1, ht, s => by
    unfold pm_val
    exact pm_fold_near (pm_val_near h t (by omega)) nA (fun i hi => h i _ (by omega) (by omega) (by omega) (by omega))
theorem pm_pick_near {g g' : Int → Int → Int} {R j v : Int} {nxt nxt' : Nat → Int} {set : Nat} (hn : ∀ s : Nat, nxt s = nxt' s) : ∀ n : Nat, (∀ i : Nat, i < n → g i j ≤ R ∨ g' i j ≤ R → g i j = g' i j) → pm_pick g R nxt j set v n = pm_pick g' R nxt' j set v n
  | 0, _ => rfl
  | n + 1, h => by
    unfold pm_pick
    rw [pm_pick_near hn n (fun i hi => h i (by omega))]
    have q := h n (by omega)
    by_cases c : g n j ≤ R ∨ g' n j ≤ R
    · rw [q c, hn]
    · have e1 : ¬ (¬ (set / 2 ^ n % 2 = 1 ∨ R < g n j) ∧ 1000 - g n j + nxt (set ||| 2 ^ n) = v) := fun z => z.1 (Or.inr (by omega))
      have e2 : ¬ (¬ (set / 2 ^ n % 2 = 1 ∨ R < g' n j) ∧ 1000 - g' n j + nxt' (set ||| 2 ^ n) = v) := fun z => z.1 (Or.inr (by omega))
      rw [if_neg e1, if_neg e2]
theorem pm_gr_near {g g' : Int → Int → Int} {R : Int} {nA : Nat} {nB : Int} {pr : Int → Int} (h : pm_near g g' R nA nB) : ∀ (t : Nat), (t : Int) ≤ nB → ∀ s : Nat, pm_gr g R nA pr nB t s → pm_gr g' R nA pr nB t s
  | 0, _, _, _ => trivial
  | t + 1, ht, s, hg => by
    obtain ⟨h1, h2⟩ := hg
    refine ⟨?_, pm_gr_near h t (by omega) _ h2⟩
    rw [h1, pm_val_near h (t + 1) ht s]
    exact pm_pick_near (pm_val_near h t (by omega)) nA (fun i hi => h i _ (by omega) (by omega) (by omega) (by omega))
/-- what a set of pairs can be worth at most -/
theorem pm_val_le {g : Int → Int → Int} {R : Int} {nA : Nat} {nB : Int} {c : Int → Int} (h0 : ∀ j : Int, 0 ≤ j → j < nB → 0 ≤ c j) (h1 : ∀ i j : Int, 0 ≤ i → i < nA → 0 ≤ j → j < nB → g i j ≤ R → 1000 - g i j ≤ c j) : ∀ (t : Nat), (t : Int) ≤ nB → ∀ s : Nat, pm_val g R nA nB t s ≤ rs_ c nB t
  | 0, _, _ => Int.le_refl _
  | t + 1, ht, s => by
    have c0 := h0 (nB - 1 - t) (by omega) (by omega)
    unfold pm_val rs_
    rcases pm_fold_at (g := g) (R := R) (nxt := pm_val g R nA nB t) (j := nB - 1 - t) (set := s) nA with q | ⟨i, q1, q2, q3⟩
    · rw [q]
      have := pm_val_le h0 h1 t (by omega) s
      omega
    · rw [q3]
      have := pm_val_le h0 h1 t (by omega) (s ||| 2 ^ i)
      have := h1 i (nB - 1 - t) (by omega) (by omega) (by omega) (by omega) (by omega)
      omega
theorem sm_bd {f : Int → Int} {C : Int} : ∀ n : Nat, (∀ k : Int, 0 ≤ k → k < n → 0 ≤ f k ∧ f k ≤ C) → 0 ≤ sm_ f n ∧ sm_ f n ≤ C * n
  | 0, _ => by
    unfold sm_
    omega
  | n + 1, h => by
    have a := sm_bd n (fun k k0 k1 => h k k0 (by omega))
    have b := h n (by omega) (by omega)
    unfold sm_
    rw [show ((n + 1 : Nat) : Int) = (n : Int) + 1 by omega, Int.mul_add, Int.mul_one]
    omega
theorem sm_mono {f : Int → Int} {n : Nat} : ∀ d : Nat, (∀ k : Int, n ≤ k → k < n + d → 0 ≤ f k) → sm_ f n ≤ sm_ f (n + d)
  | 0, _ => Int.le_refl _
  | d + 1, h => by
    have a : sm_ f (n + (d + 1)) = sm_ f (n + d) + f ((n + d : Nat) : Int) := rfl
    have b := sm_mono (f := f) (n := n) d (fun k k0 k1 => h k k0 (by omega))
    have c := h ((n + d : Nat) : Int) (by omega) (by omega)
    omega
/-! what a shift could be worth at best. nearest 100, mostPairs 93 10, leastSum 93 11 -/
def gz_b (sd : Nat) (j : Int) : Prop := sd / 2 ^ j.toNat % 2 = 1
noncomputable def gz_1 (sd : Nat) (v : Int → Int) (j : Int) : Int := @ite Int (gz_b sd j) (Classical.propDecidable _) (v j) 0
theorem gz_1t {sd : Nat} {v : Int → Int} {j : Int} (h : gz_b sd j) : gz_1 sd v j = v j := by
  unfold gz_1
  rw [if_pos h]
theorem gz_1f {sd : Nat} {v : Int → Int} {j : Int} (h : ¬ gz_b sd j) : gz_1 sd v j = 0 := by
  unfold gz_1
  rw [if_neg h]
def gz_I (h : ez_H) (G : Int → Int → Int) (R f c : Int) (sd : Nat) : Prop := (sd < 256) ∧ (∀ m : Int, f ≤ m → m < c → G (h 97 m) (h 98 m) ≤ R → gz_b sd (h 98 m) ∧ h 100 (h 98 m) ≤ G (h 97 m) (h 98 m)) ∧ (∀ j : Int, 0 ≤ j → j < 8 → gz_b sd j → 0 ≤ h 100 j ∧ h 100 j ≤ 50) ∧ (h 93 10 = sm_ (gz_1 sd (fun _ => 1)) 8) ∧ (h 93 11 = sm_ (gz_1 sd (h 100)) 8)
theorem gz_I.l {h : ez_H} {G : Int → Int → Int} {R f c : Int} {sd : Nat} (x_ : gz_I h G R f c sd) : sd < 256 := x_.1
theorem gz_I.m {h : ez_H} {G : Int → Int → Int} {R f c : Int} {sd : Nat} (x_ : gz_I h G R f c sd) : ∀ m : Int, f ≤ m → m < c → G (h 97 m) (h 98 m) ≤ R → gz_b sd (h 98 m) ∧ h 100 (h 98 m) ≤ G (h 97 m) (h 98 m) := x_.2.1
theorem gz_I.b {h : ez_H} {G : Int → Int → Int} {R f c : Int} {sd : Nat} (x_ : gz_I h G R f c sd) : ∀ j : Int, 0 ≤ j → j < 8 → gz_b sd j → 0 ≤ h 100 j ∧ h 100 j ≤ 50 := x_.2.2.1
theorem gz_I.n {h : ez_H} {G : Int → Int → Int} {R f c : Int} {sd : Nat} (x_ : gz_I h G R f c sd) : h 93 10 = sm_ (gz_1 sd (fun _ => 1)) 8 := x_.2.2.2.1
theorem gz_I.s {h : ez_H} {G : Int → Int → Int} {R f c : Int} {sd : Nat} (x_ : gz_I h G R f c sd) : h 93 11 = sm_ (gz_1 sd (h 100)) 8 := x_.2.2.2.2
theorem gz_I.bd {h : ez_H} {G : Int → Int → Int} {R f c : Int} {sd : Nat} (I : gz_I h G R f c sd) : (0 ≤ h 93 10 ∧ h 93 10 ≤ 8) ∧ (0 ≤ h 93 11 ∧ h 93 11 ≤ 400) := by
  have a := sm_bd (f := gz_1 sd (fun _ => 1)) (C := 1) 8 (fun k k0 k1 => by
    by_cases q : gz_b sd k
    · rw [gz_1t q]; omega
    · rw [gz_1f q]; omega)
  have b := sm_bd (f := gz_1 sd (h 100)) (C := 50) 8 (fun k k0 k1 => by
    by_cases q : gz_b sd k
    · rw [gz_1t q]; exact I.b k k0 k1 q
    · rw [gz_1f q]; omega)
  rw [← I.n] at a
  rw [← I.s] at b
  omega
theorem gz_I.skip {h : ez_H} {G : Int → Int → Int} {R f c : Int} {sd : Nat} (I : gz_I h G R f c sd) (hc : G (h 97 c) (h 98 c) ≤ R → gz_b sd (h 98 c) ∧ h 100 (h 98 c) ≤ G (h 97 c) (h 98 c)) : gz_I h G R f (c + 1) sd :=
  ⟨I.l, fun m m0 m1 m2 => by
    by_cases e : m = c
    · rw [e] at m2 ⊢
      exact hc m2
    · exact I.m m m0 (by omega) m2, I.b, I.n, I.s⟩
theorem gz_b_or {sd : Nat} {j b : Int} (hj : 0 ≤ j) (hb : 0 ≤ b) : gz_b (sd ||| 2 ^ b.toNat) j ↔ gz_b sd j ∨ j = b := by
  unfold gz_b
  rw [bt_or]
  omega
theorem gz_I.add {h h' : ez_H} {G : Int → Int → Int} {R f c F : Int} {sd : Nat} (I : gz_I h G R f c sd) (hR : R ≤ 50) (hb : 0 ≤ h 98 c ∧ h 98 c < 8) (hF : F = G (h 97 c) (h 98 c)) (F0 : 0 ≤ F ∧ F ≤ R) (hn : ¬ gz_b sd (h 98 c)) (hm : ∀ m : Int, f ≤ m → m < c → 0 ≤ h 98 m)
    (e : ∀ o k : Int, o ≠ 100 → ¬ (o = 93 ∧ (k = 10 ∨ k = 11)) → h' o k = h o k) (e0 : h' 100 (h 98 c) = F) (e1 : ∀ j : Int, j ≠ h 98 c → h' 100 j = h 100 j) (e2 : h' 93 10 = h 93 10 + 1) (e3 : h' 93 11 = h 93 11 + F) : gz_I h' G R f (c + 1) (sd ||| 2 ^ (h 98 c).toNat) := by
  have e7 : ∀ m : Int, h' 97 m = h 97 m := fun m => e 97 m (by decide) (by omega)
  have e8 : ∀ m : Int, h' 98 m = h 98 m := fun m => e 98 m (by decide) (by omega)
  have self : gz_b (sd ||| 2 ^ (h 98 c).toNat) (h 98 c) := (gz_b_or hb.1 hb.1).2 (Or.inr rfl)
  refine ⟨?_, fun m m0 m1 m2 => ?_, fun j j0 j1 j2 => ?_, ?_, ?_⟩
  · have p : 2 ^ (h 98 c).toNat < 2 ^ 8 := Nat.pow_lt_pow_right (by decide) (by omega)
    exact Nat.or_lt_two_pow (n := 8) I.l p
  · rw [e7, e8] at m2 ⊢
    by_cases q : m = c
    · rw [q]
      exact ⟨self, by rw [e0, hF]; exact Int.le_refl _⟩
    · have z := I.m m m0 (by omega) m2
      have mm := hm m m0 (by omega)
      refine ⟨(gz_b_or mm hb.1).2 (Or.inl z.1), ?_⟩
      rw [e1 _ (fun q2 => hn (by rw [← q2]; exact z.1))]
      exact z.2
  · by_cases q : j = h 98 c
    · rw [q, e0]
      omega
    · rw [e1 j q]
      rcases (gz_b_or j0 hb.1).1 j2 with z | z
      · exact I.b j j0 j1 z
      · exact absurd z q
  · have fe : ∀ k : Int, 0 ≤ k → k < 8 → gz_1 (sd ||| 2 ^ (h 98 c).toNat) (fun _ => 1) k = (if k = h 98 c then 1 else gz_1 sd (fun _ => 1) k) := fun k k0 k1 => by
      by_cases q : k = h 98 c
      · rw [if_pos q, q, gz_1t self]
      · rw [if_neg q]
        by_cases z : gz_b sd k
        · rw [gz_1t z, gz_1t ((gz_b_or k0 hb.1).2 (Or.inl z))]
        · rw [gz_1f z, gz_1f (fun y => ((gz_b_or k0 hb.1).1 y).elim z q)]
    rw [e2, I.n, sm_cong 8 fe, sm_set (f := gz_1 sd (fun _ => 1)) (c := h 98 c) hb.1 (fun k hk => if_neg hk) 8 (by omega), if_pos rfl, gz_1f hn]
    omega
  · have fe : ∀ k : Int, 0 ≤ k → k < 8 → gz_1 (sd ||| 2 ^ (h 98 c).toNat) (h' 100) k = (if k = h 98 c then F else gz_1 sd (h 100) k) := fun k k0 k1 => by
      by_cases q : k = h 98 c
      · rw [if_pos q, q, gz_1t self, e0]
      · rw [if_neg q]
        by_cases z : gz_b sd k
        · rw [gz_1t z, gz_1t ((gz_b_or k0 hb.1).2 (Or.inl z)), e1 k q]
        · rw [gz_1f z, gz_1f (fun y => ((gz_b_or k0 hb.1).1 y).elim z q)]
    rw [e3, I.s, sm_cong 8 fe, sm_set (f := gz_1 sd (h 100)) (c := h 98 c) hb.1 (fun k hk => if_neg hk) 8 (by omega), if_pos rfl, gz_1f hn]
    omega
theorem gz_I.less {h h' : ez_H} {G : Int → Int → Int} {R f c F : Int} {sd : Nat} (I : gz_I h G R f c sd) (hR : R ≤ 50) (hb : 0 ≤ h 98 c ∧ h 98 c < 8) (hF : F = G (h 97 c) (h 98 c)) (F0 : 0 ≤ F ∧ F ≤ R) (hn : gz_b sd (h 98 c)) (hl : F < h 100 (h 98 c))
    (e : ∀ o k : Int, o ≠ 100 → ¬ (o = 93 ∧ (k = 10 ∨ k = 11)) → h' o k = h o k) (e0 : h' 100 (h 98 c) = F) (e1 : ∀ j : Int, j ≠ h 98 c → h' 100 j = h 100 j) (e2 : h' 93 10 = h 93 10) (e3 : h' 93 11 = h 93 11 + (F - h 100 (h 98 c))) : gz_I h' G R f (c + 1) sd := by
  have e7 : ∀ m : Int, h' 97 m = h 97 m := fun m => e 97 m (by decide) (by omega)
  have e8 : ∀ m : Int, h' 98 m = h 98 m := fun m => e 98 m (by decide) (by omega)
  refine ⟨I.l, fun m m0 m1 m2 => ?_, fun j j0 j1 j2 => ?_, by rw [e2]; exact I.n, ?_⟩
  · rw [e7, e8] at m2 ⊢
    by_cases q : m = c
    · rw [q]
      exact ⟨hn, by rw [e0, hF]; exact Int.le_refl _⟩
    · have z := I.m m m0 (by omega) m2
      refine ⟨z.1, ?_⟩
      by_cases y : h 98 m = h 98 c
      · rw [y] at z ⊢
        rw [e0]
        omega
      · rw [e1 _ y]
        exact z.2
  · by_cases q : j = h 98 c
    · rw [q, e0]
      omega
    · rw [e1 j q]
      exact I.b j j0 j1 j2
  · have fe : ∀ k : Int, 0 ≤ k → k < 8 → gz_1 sd (h' 100) k = (if k = h 98 c then F else gz_1 sd (h 100) k) := fun k k0 k1 => by
      by_cases q : k = h 98 c
      · rw [if_pos q, q, gz_1t hn, e0]
      · rw [if_neg q]
        by_cases z : gz_b sd k
        · rw [gz_1t z, gz_1t z, e1 k q]
        · rw [gz_1f z, gz_1f z]
    rw [e3, I.s, sm_cong 8 fe, sm_set (f := gz_1 sd (h 100)) (c := h 98 c) hb.1 (fun k hk => if_neg hk) 8 (by omega), if_pos rfl, gz_1t hn]
    omega
/-- FAR by a shift, from the list -/
theorem ft_L.far {h : ez_H} {A B : bl_P} {k s n m : Int} (L : ft_L h A B k s) (m0 : 0 ≤ m ∧ m < h 93 8) : bl_g A B k s (h 95 n) (h 96 n) (h 97 m) (h 98 m) = max ((h 95 m - h 95 n).natAbs : Int) ((h 96 m - h 96 n).natAbs : Int) := by
  have e := L.e m m0.1 m0.2
  unfold bl_g fx_far
  have e1 := e.2.2.1
  have e2 := e.2.2.2
  unfold bl_sx at e1
  unfold bl_sy at e2
  rw [show A.2.1 (h 97 m) - (s * fx_tx k (B.2.1 (h 98 m)) (B.2.2 (h 98 m)) + h 95 n) = h 95 m - h 95 n by omega, show A.2.2 (h 97 m) - (s * fx_ty k (B.2.1 (h 98 m)) (B.2.2 (h 98 m)) + h 96 n) = h 96 m - h 96 n by omega]
theorem gz_I.top {h : ez_H} {G : Int → Int → Int} {R : Int} {sd N M : Nat} (I : gz_I h G R 0 (h 93 8) sd) (hN : N ≤ 8) (ha : ∀ i j : Int, 0 ≤ i → i < M → 0 ≤ j → j < N → ∃ n : Int, (0 ≤ n ∧ n < h 93 8) ∧ h 97 n = i ∧ h 98 n = j) : pm_val G R M N N 0 ≤ 1000 * h 93 10 - h 93 11 := by
  have nn : ∀ j : Int, 0 ≤ j → j < 8 → 0 ≤ gz_1 sd (fun j => 1000 - h 100 j) j := fun j j0 j1 => by
    by_cases q : gz_b sd j
    · rw [gz_1t q]
      have := I.b j j0 j1 q
      omega
    · rw [gz_1f q]
      omega
  have a := pm_val_le (g := G) (R := R) (nA := M) (nB := N) (c := gz_1 sd (fun j => 1000 - h 100 j)) (fun j j0 j1 => nn j j0 (by omega)) (fun i j i0 i1 j0 j1 hg => by
    obtain ⟨n, n0, n1, n2⟩ := ha i j i0 i1 j0 j1
    have z := I.m n n0.1 n0.2 (by rw [n1, n2]; exact hg)
    rw [n1, n2] at z
    rw [gz_1t z.1]
    omega) N (by omega) 0
  rw [rs_all] at a
  have b := sm_mono (f := gz_1 sd (fun j => 1000 - h 100 j)) (n := N) (8 - N) (fun k k0 k1 => nn k (by omega) (by omega))
  rw [show N + (8 - N) = 8 by omega] at b
  have key : ∀ n : Nat, sm_ (gz_1 sd (fun j => 1000 - h 100 j)) n = 1000 * sm_ (gz_1 sd (fun _ => 1)) n - sm_ (gz_1 sd (h 100)) n := fun n => by
    induction n with
    | zero => rfl
    | succ n ih =>
      unfold sm_
      rw [ih]
      by_cases q : gz_b sd n
      · rw [gz_1t q, gz_1t q, gz_1t q]
        omega
      · rw [gz_1f q, gz_1f q, gz_1f q]
        omega
  have k8 := key 8
  rw [← I.n, ← I.s] at k8
  omega

