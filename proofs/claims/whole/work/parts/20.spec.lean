/-! PURE: the state of the document, and its answers. S: PLATES, REACH, YEARS, the plates -/
abbrev sp_S : Type := Int × Int × (Int → Int) × (Int → bl_P)
def sp_mk (n R : Int) (yr mn : Int → Int) (x y : Int → Int → Int) : sp_S := (n, R, (fun p => if 0 ≤ p ∧ p < n then yr p else 0), fun p => if 0 ≤ p ∧ p < n then ((mn p).toNat, (fun i => if 0 ≤ i ∧ i < mn p then x p i else 0), fun i => if 0 ≤ i ∧ i < mn p then y p i else 0) else (0, (fun _ => 0), fun _ => 0))
theorem sp_mk_eq {n R : Int} {yr mn yr' mn' : Int → Int} {x y x' y' : Int → Int → Int} (h1 : ∀ p : Int, 0 ≤ p → p < n → yr p = yr' p ∧ mn p = mn' p) (h2 : ∀ p i : Int, 0 ≤ p → p < n → 0 ≤ i → i < mn p → x p i = x' p i ∧ y p i = y' p i) : sp_mk n R yr mn x y = sp_mk n R yr' mn' x' y' := by
  unfold sp_mk
  refine Prod.ext rfl (Prod.ext rfl (Prod.ext (funext fun p => ?_) (funext fun p => ?_)))
  · dsimp only
    by_cases q : 0 ≤ p ∧ p < n
    · rw [if_pos q, if_pos q]
      exact (h1 p q.1 q.2).1
    · rw [if_neg q, if_neg q]
  · dsimp only
    by_cases q : 0 ≤ p ∧ p < n
    · rw [if_pos q, if_pos q, ← (h1 p q.1 q.2).2]
      refine Prod.ext rfl (Prod.ext (funext fun i => ?_) (funext fun i => ?_))
      · dsimp only
        by_cases q2 : 0 ≤ i ∧ i < mn p
        · rw [if_pos q2, if_pos q2]
          exact (h2 p i q.1 q.2 q2.1 q2.2).1
        · rw [if_neg q2, if_neg q2]
      · dsimp only
        by_cases q2 : 0 ≤ i ∧ i < mn p
        · rw [if_pos q2, if_pos q2]
          exact (h2 p i q.1 q.2 q2.1 q2.2).2
        · rw [if_neg q2, if_neg q2]
    · rw [if_neg q, if_neg q]
/-- two plates are alike as far as they have spots -/
def bl_eq (A A' : bl_P) : Prop := A.1 = A'.1 ∧ ∀ i : Int, 0 ≤ i → i < A.1 → A.2.1 i = A'.2.1 i ∧ A.2.2 i = A'.2.2 i
theorem pm_fold_cong {g g' : Int → Int → Int} {R j : Int} {nxt nxt' : Nat → Int} {set : Nat} (hn : ∀ s : Nat, nxt s = nxt' s) : ∀ n : Nat, (∀ i : Nat, i < n → g i j = g' i j) → pm_fold g R nxt j set n = pm_fold g' R nxt' j set n
  | 0, _ => hn set
  | n + 1, h => by
    unfold pm_fold
    rw [pm_fold_cong hn n (fun i hi => h i (by omega)), h n (by omega), hn]
theorem pm_val_cong {g g' : Int → Int → Int} {R : Int} {nA : Nat} {nB : Int} (h : ∀ i j : Int, 0 ≤ i → i < nA → 0 ≤ j → j < nB → g i j = g' i j) : ∀ (t : Nat), (t : Int) ≤ nB → ∀ s : Nat, pm_val g R nA nB t s = pm_val g' R nA nB t s
  | 0, _, _ => rfl
  | t + 1, ht, s => by
    unfold pm_val
    exact pm_fold_cong (pm_val_cong h t (by omega)) nA (fun i hi => h i _ (by omega) (by omega) (by omega) (by omega))
theorem pm_pick_cong {g g' : Int → Int → Int} {R j v : Int} {nxt nxt' : Nat → Int} {set : Nat} (hn : ∀ s : Nat, nxt s = nxt' s) : ∀ n : Nat, (∀ i : Nat, i < n → g i j = g' i j) → pm_pick g R nxt j set v n = pm_pick g' R nxt' j set v n
  | 0, _ => rfl
  | n + 1, h => by
    unfold pm_pick
    rw [pm_pick_cong hn n (fun i hi => h i (by omega)), h n (by omega), hn]
theorem pm_gr_gcong {g g' : Int → Int → Int} {R : Int} {nA : Nat} {nB : Int} {pr : Int → Int} (h : ∀ i j : Int, 0 ≤ i → i < nA → 0 ≤ j → j < nB → g i j = g' i j) : ∀ (t : Nat), (t : Int) ≤ nB → ∀ s : Nat, pm_gr g R nA pr nB t s → pm_gr g' R nA pr nB t s
  | 0, _, _, _ => trivial
  | t + 1, ht, s, hg => by
    obtain ⟨h1, h2⟩ := hg
    refine ⟨?_, pm_gr_gcong h t (by omega) _ h2⟩
    rw [h1, pm_val_cong h (t + 1) ht s]
    exact pm_pick_cong (pm_val_cong h t (by omega)) nA (fun i hi => h i _ (by omega) (by omega) (by omega) (by omega))
theorem pm_gr_uniq {g : Int → Int → Int} {R : Int} {nA : Nat} {nB : Int} {pr pr' : Int → Int} : ∀ (t : Nat) (s : Nat), pm_gr g R nA pr nB t s → pm_gr g R nA pr' nB t s → ∀ j : Int, nB - t ≤ j → j < nB → pr j = pr' j
  | 0, _, _, _, j, h1, h2 => by omega
  | t + 1, s, hg, hg', j, h1, h2 => by
    obtain ⟨a1, a2⟩ := hg
    obtain ⟨b1, b2⟩ := hg'
    have e : pr (nB - 1 - t) = pr' (nB - 1 - t) := a1.trans b1.symm
    by_cases q : j = nB - 1 - t
    · rw [q, e]
    · rw [e] at a2
      exact pm_gr_uniq t _ a2 b2 j (by omega) h2
theorem bl_g_eq {A B A' B' : bl_P} (hA : bl_eq A A') (hB : bl_eq B B') (k s x y : Int) : ∀ i j : Int, 0 ≤ i → i < A.1 → 0 ≤ j → j < (B.1 : Int) → bl_g A B k s x y i j = bl_g A' B' k s x y i j := fun i j i0 i1 j0 j1 => by
  unfold bl_g
  rw [(hA.2 i i0 i1).1, (hA.2 i i0 i1).2, (hB.2 j j0 j1).1, (hB.2 j j0 j1).2]
theorem bl_v_eq {R : Int} {A B A' B' : bl_P} (hA : bl_eq A A') (hB : bl_eq B B') (k s x y : Int) : bl_v R A B k s x y = bl_v R A' B' k s x y := by
  unfold bl_v
  rw [← hA.1, ← hB.1]
  exact pm_val_cong (bl_g_eq hA hB k s x y) B.1 (by omega) 0
theorem bl_B_eq {R : Int} {A B A' B' : bl_P} (hA : bl_eq A A') (hB : bl_eq B B') {k s x y : Int} (h : bl_B R A B k s x y) : bl_B R A' B' k s x y := by
  have ok : ∀ k s i j : Int, bl_ok A' B' k s i j → bl_ok A B k s i j := fun k s i j h => by
    unfold bl_ok at h ⊢
    rw [hA.1, hB.1]
    exact h
  have sx : ∀ k s i j : Int, bl_ok A B k s i j → bl_sx A B k s i j = bl_sx A' B' k s i j ∧ bl_sy A B k s i j = bl_sy A' B' k s i j := fun k s i j hk => by
    obtain ⟨-, -, ⟨i0, i1⟩, ⟨j0, j1⟩⟩ := hk
    unfold bl_sx bl_sy
    rw [(hA.2 i i0 i1).1, (hA.2 i i0 i1).2, (hB.2 j j0 j1).1, (hB.2 j j0 j1).2]
    exact ⟨rfl, rfl⟩
  obtain ⟨⟨i, j, a1, -, a2, a3⟩, h⟩ := h
  refine ⟨⟨i, j, by unfold bl_ok at a1 ⊢; rw [← hA.1, ← hB.1]; exact a1, trivial, by rw [← (sx _ _ _ _ a1).1]; exact a2, by rw [← (sx _ _ _ _ a1).2]; exact a3⟩, fun k' s' i' j' hk _ => ?_⟩
  have h1 := h k' s' i' j' (ok _ _ _ _ hk) trivial
  have e := sx _ _ _ _ (ok _ _ _ _ hk)
  have e2 : bl_w R A B k' s' i' j' = bl_w R A' B' k' s' i' j' := by
    unfold bl_w
    rw [e.1, e.2, bl_v_eq hA hB]
  rw [e2, e.1, e.2, bl_v_eq hA hB] at h1
  exact h1
/-- the best lay, and its pairs -/
noncomputable def bl_F (R : Int) (A B : bl_P) : Int × Int × Int × Int := Classical.epsilon (fun t => bl_B R A B t.1 t.2.1 t.2.2.1 t.2.2.2)
theorem bl_F_eq {R : Int} {A B : bl_P} {k s x y : Int} (h : bl_B R A B k s x y) : bl_F R A B = (k, s, x, y) := by
  have h1 := Classical.epsilon_spec (p := fun t : Int × Int × Int × Int => bl_B R A B t.1 t.2.1 t.2.2.1 t.2.2.2) ⟨(k, s, x, y), h⟩
  have h2 := bl_B_one h1 h
  exact Prod.ext h2.1 (Prod.ext h2.2.1 (Prod.ext h2.2.2.1 h2.2.2.2))
noncomputable def bl_pr (R : Int) (A B : bl_P) : Int → Int := Classical.choose (pm_gr_ex (bl_g A B (bl_F R A B).1 (bl_F R A B).2.1 (bl_F R A B).2.2.1 (bl_F R A B).2.2.2) R A.1 B.1 B.1 0)
theorem bl_pr_gr (R : Int) (A B : bl_P) : pm_gr (bl_g A B (bl_F R A B).1 (bl_F R A B).2.1 (bl_F R A B).2.2.1 (bl_F R A B).2.2.2) R A.1 (bl_pr R A B) B.1 B.1 0 := Classical.choose_spec (pm_gr_ex (bl_g A B (bl_F R A B).1 (bl_F R A B).2.1 (bl_F R A B).2.2.1 (bl_F R A B).2.2.2) R A.1 B.1 B.1 0)
noncomputable def bl_W (R : Int) (A B : bl_P) : Int := bl_v R A B (bl_F R A B).1 (bl_F R A B).2.1 (bl_F R A B).2.2.1 (bl_F R A B).2.2.2
def sp_has (S : sp_S) (a b : Int) : Prop := ¬ ((S.2.2.2 a).1 = 0 ∨ (S.2.2.2 b).1 = 0)
noncomputable def sp_lay (S : sp_S) (a b what : Int) : Int :=
  if what = 0 then (bl_W S.2.1 (S.2.2.2 a) (S.2.2.2 b) + 999) / 1000 else if what = 1 then 1000 * ((bl_W S.2.1 (S.2.2.2 a) (S.2.2.2 b) + 999) / 1000) - bl_W S.2.1 (S.2.2.2 a) (S.2.2.2 b)
  else if what = 2 then (bl_F S.2.1 (S.2.2.2 a) (S.2.2.2 b)).1 else if what = 3 then (bl_F S.2.1 (S.2.2.2 a) (S.2.2.2 b)).2.1 else if what = 4 then (bl_F S.2.1 (S.2.2.2 a) (S.2.2.2 b)).2.2.1 else (bl_F S.2.1 (S.2.2.2 a) (S.2.2.2 b)).2.2.2
noncomputable def sp_pr (S : sp_S) (a b : Int) : Int → Int := bl_pr S.2.1 (S.2.2.2 a) (S.2.2.2 b)
/-- the FRAME of the plates 0 .. n - 1 -/
def sp_fr (yr : Int → Int) : Nat → Int
  | 0 => -1
  | p + 1 => if sp_fr yr p = -1 ∨ yr p < yr (sp_fr yr p) then p else sp_fr yr p
def sp_f (S : sp_S) : Int := sp_fr S.2.2.1 S.1.toNat
theorem sp_fr_rng (yr : Int → Int) : ∀ n : Nat, (n = 0 → sp_fr yr n = -1) ∧ (0 < n → 0 ≤ sp_fr yr n ∧ sp_fr yr n < n)
  | 0 => ⟨fun _ => rfl, fun h => absurd h (by omega)⟩
  | n + 1 => by
    have ih := sp_fr_rng yr n
    refine ⟨fun h => absurd h (by omega), fun _ => ?_⟩
    unfold sp_fr
    by_cases q : sp_fr yr n = -1 ∨ yr n < yr (sp_fr yr n)
    · rw [if_pos q]
      omega
    · rw [if_neg q]
      have : ¬ n = 0 := fun e => q (Or.inl (ih.1 e))
      have := ih.2 (by omega)
      omega
theorem sp_fr_cong {yr yr' : Int → Int} : ∀ n : Nat, (∀ p : Int, 0 ≤ p → p < n → yr p = yr' p) → sp_fr yr n = sp_fr yr' n
  | 0, _ => rfl
  | n + 1, h => by
    have ih := sp_fr_cong n (fun p p0 p1 => h p p0 (by omega))
    unfold sp_fr
    rw [← ih, h n (by omega) (by omega)]
    by_cases q : sp_fr yr n = -1
    · rw [if_pos (Or.inl q), if_pos (Or.inl q)]
    · have := (sp_fr_rng yr n).2 (by
        rcases Nat.eq_zero_or_pos n with e | e
        · exact absurd ((sp_fr_rng yr n).1 e) q
        · exact e)
      rw [h _ this.1 (by omega)]
def sp_tr (S : sp_S) : Int := if S.1 = 0 then 0 else (S.2.2.2 (sp_f S)).1
/-- the first row that pr pairs with i -/
def sp_find (pr : Int → Int) (i : Int) : Nat → Int
  | 0 => -1
  | j + 1 => if sp_find pr i j ≠ -1 then sp_find pr i j else if pr j = i then j else -1
theorem sp_find_rng {pr : Int → Int} {i : Int} : ∀ n : Nat, sp_find pr i n = -1 ∨ (0 ≤ sp_find pr i n ∧ sp_find pr i n < n ∧ pr (sp_find pr i n) = i)
  | 0 => Or.inl rfl
  | n + 1 => by
    unfold sp_find
    rcases sp_find_rng (pr := pr) (i := i) n with q | ⟨q1, q2, q3⟩
    · rw [if_neg (by rw [q]; exact fun z => z rfl)]
      by_cases c : pr n = i
      · rw [if_pos c]
        exact Or.inr ⟨by omega, by omega, c⟩
      · rw [if_neg c]
        exact Or.inl rfl
    · rw [if_pos (by omega)]
      exact Or.inr ⟨q1, by omega, q3⟩
theorem sp_find_cong {pr pr' : Int → Int} {i : Int} : ∀ n : Nat, (∀ j : Int, 0 ≤ j → j < n → pr j = pr' j) → sp_find pr i n = sp_find pr' i n
  | 0, _ => rfl
  | n + 1, h => by
    unfold sp_find
    rw [sp_find_cong n (fun j j0 j1 => h j j0 (by omega)), h n (by omega) (by omega)]
noncomputable def sp_so (S : sp_S) (i p : Int) : Int := if p = sp_f S then i else if (S.2.2.2 (sp_f S)).1 = 0 ∨ (S.2.2.2 p).1 = 0 then -1 else sp_find (sp_pr S (sp_f S) p) i (S.2.2.2 p).1
/-- where spot j of plate p comes on the FRAME -/
noncomputable def sp_on (S : sp_S) (p j what : Int) : Int :=
  if p = sp_f S then (if what = 0 then (S.2.2.2 p).2.1 j else (S.2.2.2 p).2.2 j)
  else (bl_F S.2.1 (S.2.2.2 (sp_f S)) (S.2.2.2 p)).2.1 * (if what = 0 then fx_tx (bl_F S.2.1 (S.2.2.2 (sp_f S)) (S.2.2.2 p)).1 ((S.2.2.2 p).2.1 j) ((S.2.2.2 p).2.2 j) else fx_ty (bl_F S.2.1 (S.2.2.2 (sp_f S)) (S.2.2.2 p)).1 ((S.2.2.2 p).2.1 j) ((S.2.2.2 p).2.2 j)) + (if what = 0 then (bl_F S.2.1 (S.2.2.2 (sp_f S)) (S.2.2.2 p)).2.2.1 else (bl_F S.2.1 (S.2.2.2 (sp_f S)) (S.2.2.2 p)).2.2.2)
/-! the reference's heap and the state -/
def md_S (h : ez_H) : sp_S := sp_mk (h 121 0) (h 121 1) (h 122) (h 123) (fun p i => h 124 (8 * p + i)) (fun p i => h 125 (8 * p + i))
theorem md_S_yr {h : ez_H} {p : Int} (p0 : 0 ≤ p) (p1 : p < h 121 0) : (md_S h).2.2.1 p = h 122 p := if_pos ⟨p0, p1⟩
theorem md_S_pl {h : ez_H} {p : Int} (p0 : 0 ≤ p) (p1 : p < h 121 0) : (md_S h).2.2.2 p = ((h 123 p).toNat, (fun i => if 0 ≤ i ∧ i < h 123 p then h 124 (8 * p + i) else 0), fun i => if 0 ≤ i ∧ i < h 123 p then h 125 (8 * p + i) else 0) := if_pos ⟨p0, p1⟩
theorem md_S_eq {h : ez_H} {p : Int} (p0 : 0 ≤ p) (p1 : p < h 121 0) (w : md_W h p) : bl_eq (md_P h p) ((md_S h).2.2.2 p) := by
  rw [md_S_pl p0 p1]
  refine ⟨rfl, fun i i0 i1 => ?_⟩
  have := (md_n w).1
  dsimp only
  rw [if_pos (by omega), if_pos (by omega)]
  exact ⟨rfl, rfl⟩
theorem md_fr.S {h h' : ez_H} (f : md_fr h h') : md_S h' = md_S h := by
  unfold md_S
  rw [f 121 0 (by omega) (by omega), f 121 1 (by omega) (by omega)]
  have e2 : h' 122 = h 122 := funext fun k => f 122 k (by omega) (by omega)
  have e3 : h' 123 = h 123 := funext fun k => f 123 k (by omega) (by omega)
  have e4 : h' 124 = h 124 := funext fun k => f 124 k (by omega) (by omega)
  have e5 : h' 125 = h 125 := funext fun k => f 125 k (by omega) (by omega)
  rw [e2, e3, e4, e5]
/-- what the reference knows of a pair of plates is what the state says -/
theorem md_L.F {h : ez_H} {a b : Int} (v : md_V h) (ha : 0 ≤ a ∧ a < h 121 0) (hb : 0 ≤ b ∧ b < h 121 0) (hL : md_L h (5 * a + b) (h 121 1) (md_P h a) (md_P h b)) :
    (¬ sp_has (md_S h) a b ∧ h 127 (6 * (5 * a + b)) = -1) ∨ (sp_has (md_S h) a b ∧ h 127 (6 * (5 * a + b)) ≠ -1 ∧ (∀ what : Int, 0 ≤ what → what ≤ 5 → h 127 (6 * (5 * a + b) + what) = sp_lay (md_S h) a b what) ∧ ∀ j : Int, 0 ≤ j → j < h 123 b → h 128 (8 * (5 * a + b) + j) = sp_pr (md_S h) a b j) := by
  have wa := (v.2.2.1 a ha.1 ha.2).1
  have wb := (v.2.2.1 b hb.1 hb.2).1
  have eA := md_S_eq ha.1 ha.2 wa
  have eB := md_S_eq hb.1 hb.2 wb
  rcases hL with ⟨q1, q2⟩ | ⟨q1, q2, q3, q4, q5⟩
  · exact Or.inl ⟨fun z => z (by rw [← eA.1, ← eB.1]; exact q1), q2⟩
  · have hF : bl_F (h 121 1) ((md_S h).2.2.2 a) ((md_S h).2.2.2 b) = _ := bl_F_eq (bl_B_eq eA eB q2)
    have hR : (md_S h).2.1 = h 121 1 := rfl
    have hW : bl_W (h 121 1) ((md_S h).2.2.2 a) ((md_S h).2.2.2 b) = bl_v (h 121 1) (md_P h a) (md_P h b) (h 127 (6 * (5 * a + b) + 2)) (h 127 (6 * (5 * a + b) + 3)) (h 127 (6 * (5 * a + b) + 4)) (h 127 (6 * (5 * a + b) + 5)) := by
      unfold bl_W
      rw [hF]
      exact (bl_v_eq eA eB _ _ _ _).symm
    refine Or.inr ⟨fun z => q1 (by rw [eA.1, eB.1]; exact z), ?_, fun what w0 w1 => ?_, fun j j0 j1 => ?_⟩
    · have := bl_v_bd (R := h 121 1) (A := md_P h a) (B := md_P h b) (k := h 127 (6 * (5 * a + b) + 2)) (s := h 127 (6 * (5 * a + b) + 3)) (x := h 127 (6 * (5 * a + b) + 4)) (y := h 127 (6 * (5 * a + b) + 5)) (md_n wb).2
      omega
    · unfold sp_lay
      rw [hR, hW, hF]
      rcases (show what = 0 ∨ what = 1 ∨ what = 2 ∨ what = 3 ∨ what = 4 ∨ what = 5 by omega) with rfl | rfl | rfl | rfl | rfl | rfl
      · rw [if_pos rfl, Int.add_zero]
        exact q3
      · rw [if_neg (by decide), if_pos rfl]
        exact q4
      · rw [if_neg (by decide), if_neg (by decide), if_pos rfl]
      · rw [if_neg (by decide), if_neg (by decide), if_neg (by decide), if_pos rfl]
      · rw [if_neg (by decide), if_neg (by decide), if_neg (by decide), if_neg (by decide), if_pos rfl]
      · rw [if_neg (by decide), if_neg (by decide), if_neg (by decide), if_neg (by decide), if_neg (by decide)]
    · have g2 := bl_pr_gr (h 121 1) ((md_S h).2.2.2 a) ((md_S h).2.2.2 b)
      rw [hF] at g2
      have g1 := pm_gr_gcong (bl_g_eq eA eB (h 127 (6 * (5 * a + b) + 2)) (h 127 (6 * (5 * a + b) + 3)) (h 127 (6 * (5 * a + b) + 4)) (h 127 (6 * (5 * a + b) + 5))) (md_P h b).1 (by omega) 0 q5
      rw [eA.1, eB.1] at g1
      have hn := (md_n wb).1
      have := pm_gr_uniq _ _ g1 g2 j (by omega) (by have := eB.1; omega)
      exact this
