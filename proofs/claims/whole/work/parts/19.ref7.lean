/-! the reference's state, and what it knows of lays -/
def md_L (h : ez_H) (at_ R : Int) (A B : bl_P) : Prop :=
  ((A.1 = 0 ∨ B.1 = 0) ∧ h 127 (6 * at_) = -1) ∨
  (¬ (A.1 = 0 ∨ B.1 = 0) ∧ bl_B R A B (h 127 (6 * at_ + 2)) (h 127 (6 * at_ + 3)) (h 127 (6 * at_ + 4)) (h 127 (6 * at_ + 5)) ∧
   h 127 (6 * at_) = (bl_v R A B (h 127 (6 * at_ + 2)) (h 127 (6 * at_ + 3)) (h 127 (6 * at_ + 4)) (h 127 (6 * at_ + 5)) + 999) / 1000 ∧
   h 127 (6 * at_ + 1) = 1000 * ((bl_v R A B (h 127 (6 * at_ + 2)) (h 127 (6 * at_ + 3)) (h 127 (6 * at_ + 4)) (h 127 (6 * at_ + 5)) + 999) / 1000) - bl_v R A B (h 127 (6 * at_ + 2)) (h 127 (6 * at_ + 3)) (h 127 (6 * at_ + 4)) (h 127 (6 * at_ + 5)) ∧
   pm_gr (bl_g A B (h 127 (6 * at_ + 2)) (h 127 (6 * at_ + 3)) (h 127 (6 * at_ + 4)) (h 127 (6 * at_ + 5))) R A.1 (fun j' => h 128 (8 * at_ + j')) B.1 B.1 0)
theorem md_L.keep {h h' : ez_H} {at_ R : Int} {A B : bl_P} (hL : md_L h at_ R A B) (h1 : ∀ x : Int, 6 * at_ ≤ x → x ≤ 6 * at_ + 5 → h' 127 x = h 127 x) (h2 : ∀ x : Int, 8 * at_ ≤ x → x < 8 * at_ + 8 → h' 128 x = h 128 x) (hB : B.1 ≤ 8) : md_L h' at_ R A B := by
  unfold md_L at hL ⊢
  rw [h1 (6 * at_) (by omega) (by omega), h1 (6 * at_ + 1) (by omega) (by omega), h1 (6 * at_ + 2) (by omega) (by omega), h1 (6 * at_ + 3) (by omega) (by omega), h1 (6 * at_ + 4) (by omega) (by omega), h1 (6 * at_ + 5) (by omega) (by omega)]
  rcases hL with q | ⟨q1, q2, q3, q4, q5⟩
  · exact Or.inl q
  · exact Or.inr ⟨q1, q2, q3, q4, pm_gr_cong2 _ _ (fun j j0 j1 => (h2 _ (by omega) (by omega)).symm) q5⟩
def md_V (h : ez_H) : Prop :=
  (0 ≤ h 121 0 ∧ h 121 0 ≤ 5) ∧ (0 ≤ h 121 1 ∧ h 121 1 ≤ 50) ∧ (∀ p : Int, 0 ≤ p → p < h 121 0 → md_W h p ∧ (0 ≤ h 122 p ∧ h 122 p ≤ 999)) ∧ (∀ p q : Int, 0 ≤ p → p < h 121 0 → 0 ≤ q → q < h 121 0 → h 122 p = h 122 q → p = q) ∧
  ∀ a b : Int, 0 ≤ a → a < h 121 0 → 0 ≤ b → b < h 121 0 → a ≠ b → h 126 (5 * a + b) ≠ 0 → md_L h (5 * a + b) (h 121 1) (md_P h a) (md_P h b)
/-- what a question of the reference may change: its own numbers of tracks and its knowledge of lays -/
def md_fr (h h' : ez_H) : Prop := ∀ o k : Int, (o < 126 ∨ 132 < o) → (o ≠ 121 ∨ k < 13 ∨ 18 < k) → h' o k = h o k
theorem md_fr.rf (h : ez_H) : md_fr h h := fun _ _ _ _ => rfl
theorem md_fr.tr {h h1 h2 : ez_H} (f1 : md_fr h h1) (f2 : md_fr h1 h2) : md_fr h h2 := fun o k h1 h2 => (f2 o k h1 h2).trans (f1 o k h1 h2)
theorem md_fr.P {h h' : ez_H} (f : md_fr h h') (p : Int) : md_P h' p = md_P h p := by
  have f3 : ∀ k : Int, h' 123 k = h 123 k := fun k => f 123 k (by omega) (by omega)
  have f4 : ∀ k : Int, h' 124 k = h 124 k := fun k => f 124 k (by omega) (by omega)
  have f5 : ∀ k : Int, h' 125 k = h 125 k := fun k => f 125 k (by omega) (by omega)
  unfold md_P
  simp only [f3, f4, f5]
theorem md_fr.W {h h' : ez_H} {p : Int} (f : md_fr h h') (w : md_W h p) : md_W h' p := by
  have f3 : ∀ k : Int, h' 123 k = h 123 k := fun k => f 123 k (by omega) (by omega)
  have f4 : ∀ k : Int, h' 124 k = h 124 k := fun k => f 124 k (by omega) (by omega)
  have f5 : ∀ k : Int, h' 125 k = h 125 k := fun k => f 125 k (by omega) (by omega)
  unfold md_W at w ⊢
  simp only [f3, f4, f5]
  exact w
/-- the knowledge of one pair of plates is renewed -/
theorem md_V.lay {h h' : ez_H} {a b : Int} (v : md_V h) (f : md_fr h h') (hb : 0 ≤ b ∧ b < 5) (h6 : ∀ x : Int, x ≠ 5 * a + b → h' 126 x = h 126 x) (h7 : ∀ x : Int, (x < 6 * (5 * a + b) ∨ 6 * (5 * a + b) + 5 < x) → h' 127 x = h 127 x) (h8 : ∀ x : Int, (x < 8 * (5 * a + b) ∨ 8 * (5 * a + b) + 8 ≤ x) → h' 128 x = h 128 x)
    (hL : md_L h' (5 * a + b) (h 121 1) (md_P h a) (md_P h b)) : md_V h' := by
  obtain ⟨v1, v2, v3, v4, v5⟩ := v
  have e0 := f 121 0 (by omega) (by omega)
  have e1 := f 121 1 (by omega) (by omega)
  unfold md_V
  rw [e0, e1]
  refine ⟨v1, v2, fun p p0 p1 => ⟨f.W (v3 p p0 p1).1, by rw [f 122 p (by omega) (by omega)]; exact (v3 p p0 p1).2⟩, fun p q p0 p1 q0 q1 hpq => v4 p q p0 p1 q0 q1 (by rw [f 122 p (by omega) (by omega), f 122 q (by omega) (by omega)] at hpq; exact hpq), fun a' b' a0 a1 b0 b1 hne hk => ?_⟩
  rw [f.P a', f.P b']
  by_cases q : 5 * a' + b' = 5 * a + b
  · have ea : a' = a := by omega
    have eb : b' = b := by omega
    rw [ea, eb]
    exact hL
  · rw [h6 _ q] at hk
    exact (v5 a' b' a0 a1 b0 b1 hne hk).keep (fun x x0 x1 => h7 x (by omega)) (fun x x0 x1 => h8 x (by omega)) (md_n (v3 b' b0 b1).1).2
/-- numbers of tracks are no knowledge -/
theorem md_V.own {h h' : ez_H} (v : md_V h) (f : md_fr h h') (hk : ∀ o k : Int, 126 ≤ o → o ≤ 128 → h' o k = h o k) : md_V h' := by
  obtain ⟨v1, v2, v3, v4, v5⟩ := v
  have e0 := f 121 0 (by omega) (by omega)
  have e1 := f 121 1 (by omega) (by omega)
  unfold md_V
  rw [e0, e1]
  refine ⟨v1, v2, fun p p0 p1 => ⟨f.W (v3 p p0 p1).1, by rw [f 122 p (by omega) (by omega)]; exact (v3 p p0 p1).2⟩, fun p q p0 p1 q0 q1 hpq => v4 p q p0 p1 q0 q1 (by rw [f 122 p (by omega) (by omega), f 122 q (by omega) (by omega)] at hpq; exact hpq), fun a' b' a0 a1 b0 b1 hne hk2 => ?_⟩
  rw [f.P a', f.P b']
  rw [hk 126 _ (by omega) (by omega)] at hk2
  exact (v5 a' b' a0 a1 b0 b1 hne hk2).keep (fun x x0 x1 => hk 127 x (by omega) (by omega)) (fun x x0 x1 => hk 128 x (by omega) (by omega)) (md_n (v3 b' b0 b1).1).2
theorem md_I.all {h h' : ez_H} {at_ R best : Int} {A B : bl_P} (hI : md_I h at_ R best A B (be_ 4 1 0 0)) (hR : 0 ≤ R) (hB : B.1 ≤ 8) (e2 : h' 127 (6 * at_ + 2) = h 127 (6 * at_ + 2)) (e3 : h' 127 (6 * at_ + 3) = h 127 (6 * at_ + 3)) (e4 : h' 127 (6 * at_ + 4) = h 127 (6 * at_ + 4)) (e5 : h' 127 (6 * at_ + 5) = h 127 (6 * at_ + 5)) (e8 : ∀ x : Int, h' 128 x = h 128 x)
    (c0 : best = -1 → h' 127 (6 * at_) = -1) (c1 : best ≠ -1 → h' 127 (6 * at_) = (best + 999) / 1000 ∧ h' 127 (6 * at_ + 1) = 1000 * ((best + 999) / 1000) - best) : md_L h' at_ R A B := by
  have hr := hI.rng hR hB
  rcases hI with ⟨q1, q2⟩ | ⟨⟨q1, q2⟩, q3⟩
  · refine Or.inl ⟨?_, c0 q1⟩
    by_cases z : A.1 = 0 ∨ B.1 = 0
    · exact z
    · exact absurd (show be_ 4 1 0 0 0 1 0 0 by unfold be_; omega) (q2 0 1 0 0 ⟨by omega, by omega, by omega, by omega⟩)
  · have hne : best ≠ -1 := by
      have := bl_v_bd (R := R) (A := A) (B := B) (k := h 127 (6 * at_ + 2)) (s := h 127 (6 * at_ + 3)) (x := h 127 (6 * at_ + 4)) (y := h 127 (6 * at_ + 5)) hB
      omega
    obtain ⟨d1, d2⟩ := c1 hne
    refine Or.inr ⟨?_, ?_, ?_, ?_, ?_⟩
    · obtain ⟨⟨i, j, ⟨-, -, a1, a2⟩, -⟩, -⟩ := q1
      omega
    · rw [e2, e3, e4, e5]
      exact bl_top_iff q1 (fun k' s' i' j' hk => ⟨fun _ => by unfold be_; have := hk.1; omega, fun _ => trivial⟩)
    · rw [e2, e3, e4, e5, ← q2]
      exact d1
    · rw [e2, e3, e4, e5, ← q2]
      exact d2
    · rw [e2, e3, e4, e5]
      have e : (fun j' => h' 128 (8 * at_ + j')) = fun j' => h 128 (8 * at_ + j') := funext fun j' => e8 _
      rw [e]
      exact q3
theorem c_X6_lays {a b : Int} {h : ez_H} (v : md_V h) (ha : 0 ≤ a ∧ a < h 121 0) (hb : 0 ≤ b ∧ b < h 121 0) : ez_Ct M_X6_lays [ez_R 121, ez_I a, ez_I b] h (ez_PV (fun h' => md_V h' ∧ md_fr h h' ∧ h' 126 (5 * a + b) ≠ 0 ∧ (∀ x : Int, h 126 x ≠ 0 → h' 126 x ≠ 0) ∧ ∀ k : Int, h' 121 k = h 121 k)) := by
  have wa := (v.2.2.1 a ha.1 ha.2).1
  have wb := (v.2.2.1 b hb.1 hb.2).1
  have v1 := v.1
  refine ez_of (by decide) (Nat.le_of_ble_eq_true rfl) (L0 := [ez_R 121, ez_I a, ez_I b, ez_N, ez_N, ez_N, ez_N, ez_N, ez_N, ez_N, ez_N]) rfl ?_
  refine ez_iconst dX6_lays_0 (by decide) ?_
  refine ez_iload_n dX6_lays_1 rfl ?_
  refine ez_imul dX6_lays_2 (by omega) ?_
  refine ez_iload_n dX6_lays_3 rfl ?_
  refine ez_iadd dX6_lays_4 (by omega) ?_
  refine ez_istore_n dX6_lays_5 (by decide) ?_
  refine ez_aload_n dX6_lays_6 rfl ?_
  refine g6_6 dX6_lays_7 fl_X6_26 ?_
  refine ez_iload_n dX6_lays_10 rfl ?_
  refine al126 dX6_lays_11 (by omega) ?_
  refine ez_if_eq 16 dX6_lays_12 (by decide) (fun c_12 => ?_) (fun c_12 => ?_)
  · refine ez_aload_n dX6_lays_16 rfl ?_
    refine g6_6 dX6_lays_17 fl_X6_26 ?_
    refine ez_iload_n dX6_lays_20 rfl ?_
    refine ez_iconst dX6_lays_21 (by decide) ?_
    refine as126 dX6_lays_22 (by omega) (by first | exact Or.inl rfl | exact Or.inr rfl | omega) ?_
    refine ez_iconst dX6_lays_23 (by decide) ?_
    refine ez_istore dX6_lays_24 (by decide) ?_
    refine ez_iconst dX6_lays_26 (by decide) ?_
    refine ez_istore dX6_lays_27 (by decide) ?_
    refine lp_l1 (h := ez_up h 126 (5 * a + b) 1) (R := h 121 1) (wa.keep (fun o x ho => ez_up_ne (by omega))) (wb.keep (fun o x ho => ez_up_ne (by omega))) (ez_up_ne (by omega)) v.2.1 (fun best h' fr inv => ?_) 5 0 (-1) _ (by omega) (by omega) (md_F.rf _ _) (Or.inl ⟨rfl, fun k' s' i' j' hk hp => ?_⟩) (by omega)
    rotate_left
    · have q := hk.1
      have q1 := hk.2.1
      have q2 := hk.2.2.1
      have q3 := hk.2.2.2
      unfold be_ at hp
      omega
    rw [md_P.keep (h := h) (fun o x ho => ez_up_ne (by omega)) a, md_P.keep (h := h) (fun o x ho => ez_up_ne (by omega)) b] at inv
    have rb := inv.rng v.2.1.1 (md_n wb).2
    have e0 : ∀ o k : Int, (o < 126 ∨ 132 < o) → h' o k = h o k := fun o k ho => (fr.1 o k (by omega)).trans (ez_up_ne (by omega))
    have e6 : h' 126 (5 * a + b) = 1 := (fr.1 126 _ (by omega)).trans ez_up_eq
    have e6' : ∀ x : Int, x ≠ 5 * a + b → h' 126 x = h 126 x := fun x hx => (fr.1 126 x (by omega)).trans (ez_up_ne (by omega))
    refine ez_aload_n dX6_lays_208 rfl ?_
    refine g6_7 dX6_lays_209 fl_X6_30 ?_
    refine ez_bipush dX6_lays_212 (by decide) (by decide) ?_
    refine ez_iload_n dX6_lays_214 rfl ?_
    refine ez_imul dX6_lays_215 (by omega) ?_
    refine ez_iload dX6_lays_216 rfl ?_
    refine ez_iconst dX6_lays_218 (by decide) ?_
    refine ez_ic_ne 226 dX6_lays_219 (by decide) (fun c_219 => ?_) (fun c_219 => ?_)
    · refine ez_iload dX6_lays_226 rfl ?_
      refine cl_X6_count dX6_lays_228 ml_X6_84 ft_X6_lays__X6_count (Nat.le_of_ble_eq_true rfl) (c_X6_count (by omega)) (ez_kF ?_)
      refine as127 dX6_lays_231 (by omega) ?_
      refine ez_iload dX6_lays_232 rfl ?_
      refine ez_iconst dX6_lays_234 (by decide) ?_
      refine ez_ic_eq 261 dX6_lays_235 (by decide) (fun c_235 => ?_) (fun c_235 => ?_)
      · refine ez_vreturn (st := []) dX6_lays_261 rfl ?_
        by_cases q : best = -1
        · first
          | (exfalso; omega)
          | (have c_219 := q
             have f2 : md_fr h (ez_up h' 127 (6 * (5 * a + b)) (-1)) := fun o k ho _ => by
               unfold ez_up
               simp only [show ¬ o = 127 by omega, false_and, if_false]
               exact e0 o k ho
             refine ez_PV.in ⟨v.lay (a := a) (b := b) f2 (by omega) (fun x hx => ?_) (fun x hx => ?_) (fun x hx => ?_) ?_, f2, ?_, fun x hx => ?_, fun k => ?_⟩
             · unfold ez_up
               simp only [show ¬ (126 : Int) = 127 by decide, false_and, if_false]
               exact e6' x hx
             · unfold ez_up
               simp only [show ¬ x = 6 * (5 * a + b) by omega, show ¬ x = 6 * (5 * a + b) + 1 by omega, and_false, if_false]
               exact (fr.2.1 x (by omega)).trans (ez_up_ne (by omega))
             · unfold ez_up
               simp only [show ¬ (128 : Int) = 127 by decide, false_and, if_false]
               exact (fr.2.2 x (by omega)).trans (ez_up_ne (by omega))
             · exact inv.all v.2.1.1 (md_n wb).2 (by unfold ez_up; simp only [show ¬ 6 * (5 * a + b) + 2 = 6 * (5 * a + b) by omega, and_false, if_false]) (by unfold ez_up; simp only [show ¬ 6 * (5 * a + b) + 3 = 6 * (5 * a + b) by omega, and_false, if_false]) (by unfold ez_up; simp only [show ¬ 6 * (5 * a + b) + 4 = 6 * (5 * a + b) by omega, and_false, if_false]) (by unfold ez_up; simp only [show ¬ 6 * (5 * a + b) + 5 = 6 * (5 * a + b) by omega, and_false, if_false]) (fun x => by unfold ez_up; simp only [show ¬ (128 : Int) = 127 by decide, false_and, if_false]) (fun _ => ez_up_eq) (fun q => absurd c_219 q)
             · unfold ez_up
               simp only [show ¬ (126 : Int) = 127 by decide, false_and, if_false]
               rw [e6]
               decide
             · unfold ez_up
               simp only [show ¬ (126 : Int) = 127 by decide, false_and, if_false]
               by_cases qx : x = 5 * a + b
               · rw [qx, e6]
                 decide
               · rw [e6' x qx]
                 exact hx
             · unfold ez_up
               simp only [show ¬ (121 : Int) = 127 by decide, false_and, if_false]
               exact e0 121 k (by omega))
        · first
          | (exfalso; omega)
          | (have c_219 := q
             have f2 : md_fr h (ez_up (ez_up h' 127 (6 * (5 * a + b)) ((best + 999) / 1000)) 127 (6 * (5 * a + b) + 1) (1000 * ((best + 999) / 1000) - best)) := fun o k ho _ => by
               unfold ez_up
               simp only [show ¬ o = 127 by omega, false_and, if_false]
               exact e0 o k ho
             refine ez_PV.in ⟨v.lay (a := a) (b := b) f2 (by omega) (fun x hx => ?_) (fun x hx => ?_) (fun x hx => ?_) ?_, f2, ?_, fun x hx => ?_, fun k => ?_⟩
             · unfold ez_up
               simp only [show ¬ (126 : Int) = 127 by decide, false_and, if_false]
               exact e6' x hx
             · unfold ez_up
               simp only [show ¬ x = 6 * (5 * a + b) by omega, show ¬ x = 6 * (5 * a + b) + 1 by omega, and_false, if_false]
               exact (fr.2.1 x (by omega)).trans (ez_up_ne (by omega))
             · unfold ez_up
               simp only [show ¬ (128 : Int) = 127 by decide, false_and, if_false]
               exact (fr.2.2 x (by omega)).trans (ez_up_ne (by omega))
             · exact inv.all v.2.1.1 (md_n wb).2 (by unfold ez_up; simp only [show ¬ 6 * (5 * a + b) + 2 = 6 * (5 * a + b) by omega, show ¬ 6 * (5 * a + b) + 2 = 6 * (5 * a + b) + 1 by omega, and_false, if_false]) (by unfold ez_up; simp only [show ¬ 6 * (5 * a + b) + 3 = 6 * (5 * a + b) by omega, show ¬ 6 * (5 * a + b) + 3 = 6 * (5 * a + b) + 1 by omega, and_false, if_false]) (by unfold ez_up; simp only [show ¬ 6 * (5 * a + b) + 4 = 6 * (5 * a + b) by omega, show ¬ 6 * (5 * a + b) + 4 = 6 * (5 * a + b) + 1 by omega, and_false, if_false]) (by unfold ez_up; simp only [show ¬ 6 * (5 * a + b) + 5 = 6 * (5 * a + b) by omega, show ¬ 6 * (5 * a + b) + 5 = 6 * (5 * a + b) + 1 by omega, and_false, if_false]) (fun x => by unfold ez_up; simp only [show ¬ (128 : Int) = 127 by decide, false_and, if_false]) (fun q => absurd q c_219) (fun _ => ⟨(ez_up_ne (by omega)).trans ez_up_eq, ez_up_eq⟩)
             · unfold ez_up
               simp only [show ¬ (126 : Int) = 127 by decide, false_and, if_false]
               rw [e6]
               decide
             · unfold ez_up
               simp only [show ¬ (126 : Int) = 127 by decide, false_and, if_false]
               by_cases qx : x = 5 * a + b
               · rw [qx, e6]
                 decide
               · rw [e6' x qx]
                 exact hx
             · unfold ez_up
               simp only [show ¬ (121 : Int) = 127 by decide, false_and, if_false]
               exact e0 121 k (by omega))
      · refine ez_aload_n dX6_lays_238 rfl ?_
        refine g6_7 dX6_lays_239 fl_X6_30 ?_
        refine ez_bipush dX6_lays_242 (by decide) (by decide) ?_
        refine ez_iload_n dX6_lays_244 rfl ?_
        refine ez_imul dX6_lays_245 (by omega) ?_
        refine ez_iconst dX6_lays_246 (by decide) ?_
        refine ez_iadd dX6_lays_247 (by omega) ?_
        refine ez_sipush dX6_lays_248 (by decide) (by decide) ?_
        refine ez_iload dX6_lays_251 rfl ?_
        refine cl_X6_count dX6_lays_253 ml_X6_84 ft_X6_lays__X6_count (Nat.le_of_ble_eq_true rfl) (c_X6_count (by omega)) (ez_kF ?_)
        refine ez_imul dX6_lays_256 (by omega) ?_
        refine ez_iload dX6_lays_257 rfl ?_
        refine ez_isub dX6_lays_259 (by omega) ?_
        refine as127 dX6_lays_260 (by omega) ?_
        refine ez_vreturn (st := []) dX6_lays_261 rfl ?_
        by_cases q : best = -1
        · first
          | (exfalso; omega)
          | (have c_219 := q
             have f2 : md_fr h (ez_up h' 127 (6 * (5 * a + b)) (-1)) := fun o k ho _ => by
               unfold ez_up
               simp only [show ¬ o = 127 by omega, false_and, if_false]
               exact e0 o k ho
             refine ez_PV.in ⟨v.lay (a := a) (b := b) f2 (by omega) (fun x hx => ?_) (fun x hx => ?_) (fun x hx => ?_) ?_, f2, ?_, fun x hx => ?_, fun k => ?_⟩
             · unfold ez_up
               simp only [show ¬ (126 : Int) = 127 by decide, false_and, if_false]
               exact e6' x hx
             · unfold ez_up
               simp only [show ¬ x = 6 * (5 * a + b) by omega, show ¬ x = 6 * (5 * a + b) + 1 by omega, and_false, if_false]
               exact (fr.2.1 x (by omega)).trans (ez_up_ne (by omega))
             · unfold ez_up
               simp only [show ¬ (128 : Int) = 127 by decide, false_and, if_false]
               exact (fr.2.2 x (by omega)).trans (ez_up_ne (by omega))
             · exact inv.all v.2.1.1 (md_n wb).2 (by unfold ez_up; simp only [show ¬ 6 * (5 * a + b) + 2 = 6 * (5 * a + b) by omega, and_false, if_false]) (by unfold ez_up; simp only [show ¬ 6 * (5 * a + b) + 3 = 6 * (5 * a + b) by omega, and_false, if_false]) (by unfold ez_up; simp only [show ¬ 6 * (5 * a + b) + 4 = 6 * (5 * a + b) by omega, and_false, if_false]) (by unfold ez_up; simp only [show ¬ 6 * (5 * a + b) + 5 = 6 * (5 * a + b) by omega, and_false, if_false]) (fun x => by unfold ez_up; simp only [show ¬ (128 : Int) = 127 by decide, false_and, if_false]) (fun _ => ez_up_eq) (fun q => absurd c_219 q)
             · unfold ez_up
               simp only [show ¬ (126 : Int) = 127 by decide, false_and, if_false]
               rw [e6]
               decide
             · unfold ez_up
               simp only [show ¬ (126 : Int) = 127 by decide, false_and, if_false]
               by_cases qx : x = 5 * a + b
               · rw [qx, e6]
                 decide
               · rw [e6' x qx]
                 exact hx
             · unfold ez_up
               simp only [show ¬ (121 : Int) = 127 by decide, false_and, if_false]
               exact e0 121 k (by omega))
        · first
          | (exfalso; omega)
          | (have c_219 := q
             have f2 : md_fr h (ez_up (ez_up h' 127 (6 * (5 * a + b)) ((best + 999) / 1000)) 127 (6 * (5 * a + b) + 1) (1000 * ((best + 999) / 1000) - best)) := fun o k ho _ => by
               unfold ez_up
               simp only [show ¬ o = 127 by omega, false_and, if_false]
               exact e0 o k ho
             refine ez_PV.in ⟨v.lay (a := a) (b := b) f2 (by omega) (fun x hx => ?_) (fun x hx => ?_) (fun x hx => ?_) ?_, f2, ?_, fun x hx => ?_, fun k => ?_⟩
             · unfold ez_up
               simp only [show ¬ (126 : Int) = 127 by decide, false_and, if_false]
               exact e6' x hx
             · unfold ez_up
               simp only [show ¬ x = 6 * (5 * a + b) by omega, show ¬ x = 6 * (5 * a + b) + 1 by omega, and_false, if_false]
               exact (fr.2.1 x (by omega)).trans (ez_up_ne (by omega))
             · unfold ez_up
               simp only [show ¬ (128 : Int) = 127 by decide, false_and, if_false]
               exact (fr.2.2 x (by omega)).trans (ez_up_ne (by omega))
             · exact inv.all v.2.1.1 (md_n wb).2 (by unfold ez_up; simp only [show ¬ 6 * (5 * a + b) + 2 = 6 * (5 * a + b) by omega, show ¬ 6 * (5 * a + b) + 2 = 6 * (5 * a + b) + 1 by omega, and_false, if_false]) (by unfold ez_up; simp only [show ¬ 6 * (5 * a + b) + 3 = 6 * (5 * a + b) by omega, show ¬ 6 * (5 * a + b) + 3 = 6 * (5 * a + b) + 1 by omega, and_false, if_false]) (by unfold ez_up; simp only [show ¬ 6 * (5 * a + b) + 4 = 6 * (5 * a + b) by omega, show ¬ 6 * (5 * a + b) + 4 = 6 * (5 * a + b) + 1 by omega, and_false, if_false]) (by unfold ez_up; simp only [show ¬ 6 * (5 * a + b) + 5 = 6 * (5 * a + b) by omega, show ¬ 6 * (5 * a + b) + 5 = 6 * (5 * a + b) + 1 by omega, and_false, if_false]) (fun x => by unfold ez_up; simp only [show ¬ (128 : Int) = 127 by decide, false_and, if_false]) (fun q => absurd q c_219) (fun _ => ⟨(ez_up_ne (by omega)).trans ez_up_eq, ez_up_eq⟩)
             · unfold ez_up
               simp only [show ¬ (126 : Int) = 127 by decide, false_and, if_false]
               rw [e6]
               decide
             · unfold ez_up
               simp only [show ¬ (126 : Int) = 127 by decide, false_and, if_false]
               by_cases qx : x = 5 * a + b
               · rw [qx, e6]
                 decide
               · rw [e6' x qx]
                 exact hx
             · unfold ez_up
               simp only [show ¬ (121 : Int) = 127 by decide, false_and, if_false]
               exact e0 121 k (by omega))
    · refine ez_iconst dX6_lays_222 (by decide) ?_
      refine ez_goto 231 dX6_lays_223 (by decide) ?_
      refine as127 dX6_lays_231 (by omega) ?_
      refine ez_iload dX6_lays_232 rfl ?_
      refine ez_iconst dX6_lays_234 (by decide) ?_
      refine ez_ic_eq 261 dX6_lays_235 (by decide) (fun c_235 => ?_) (fun c_235 => ?_)
      · refine ez_vreturn (st := []) dX6_lays_261 rfl ?_
        by_cases q : best = -1
        · first
          | (exfalso; omega)
          | (have c_219 := q
             have f2 : md_fr h (ez_up h' 127 (6 * (5 * a + b)) (-1)) := fun o k ho _ => by
               unfold ez_up
               simp only [show ¬ o = 127 by omega, false_and, if_false]
               exact e0 o k ho
             refine ez_PV.in ⟨v.lay (a := a) (b := b) f2 (by omega) (fun x hx => ?_) (fun x hx => ?_) (fun x hx => ?_) ?_, f2, ?_, fun x hx => ?_, fun k => ?_⟩
             · unfold ez_up
               simp only [show ¬ (126 : Int) = 127 by decide, false_and, if_false]
               exact e6' x hx
             · unfold ez_up
               simp only [show ¬ x = 6 * (5 * a + b) by omega, show ¬ x = 6 * (5 * a + b) + 1 by omega, and_false, if_false]
               exact (fr.2.1 x (by omega)).trans (ez_up_ne (by omega))
             · unfold ez_up
               simp only [show ¬ (128 : Int) = 127 by decide, false_and, if_false]
               exact (fr.2.2 x (by omega)).trans (ez_up_ne (by omega))
             · exact inv.all v.2.1.1 (md_n wb).2 (by unfold ez_up; simp only [show ¬ 6 * (5 * a + b) + 2 = 6 * (5 * a + b) by omega, and_false, if_false]) (by unfold ez_up; simp only [show ¬ 6 * (5 * a + b) + 3 = 6 * (5 * a + b) by omega, and_false, if_false]) (by unfold ez_up; simp only [show ¬ 6 * (5 * a + b) + 4 = 6 * (5 * a + b) by omega, and_false, if_false]) (by unfold ez_up; simp only [show ¬ 6 * (5 * a + b) + 5 = 6 * (5 * a + b) by omega, and_false, if_false]) (fun x => by unfold ez_up; simp only [show ¬ (128 : Int) = 127 by decide, false_and, if_false]) (fun _ => ez_up_eq) (fun q => absurd c_219 q)
             · unfold ez_up
               simp only [show ¬ (126 : Int) = 127 by decide, false_and, if_false]
               rw [e6]
               decide
             · unfold ez_up
               simp only [show ¬ (126 : Int) = 127 by decide, false_and, if_false]
               by_cases qx : x = 5 * a + b
               · rw [qx, e6]
                 decide
               · rw [e6' x qx]
                 exact hx
             · unfold ez_up
               simp only [show ¬ (121 : Int) = 127 by decide, false_and, if_false]
               exact e0 121 k (by omega))
        · first
          | (exfalso; omega)
          | (have c_219 := q
             have f2 : md_fr h (ez_up (ez_up h' 127 (6 * (5 * a + b)) ((best + 999) / 1000)) 127 (6 * (5 * a + b) + 1) (1000 * ((best + 999) / 1000) - best)) := fun o k ho _ => by
               unfold ez_up
               simp only [show ¬ o = 127 by omega, false_and, if_false]
               exact e0 o k ho
             refine ez_PV.in ⟨v.lay (a := a) (b := b) f2 (by omega) (fun x hx => ?_) (fun x hx => ?_) (fun x hx => ?_) ?_, f2, ?_, fun x hx => ?_, fun k => ?_⟩
             · unfold ez_up
               simp only [show ¬ (126 : Int) = 127 by decide, false_and, if_false]
               exact e6' x hx
             · unfold ez_up
               simp only [show ¬ x = 6 * (5 * a + b) by omega, show ¬ x = 6 * (5 * a + b) + 1 by omega, and_false, if_false]
               exact (fr.2.1 x (by omega)).trans (ez_up_ne (by omega))
             · unfold ez_up
               simp only [show ¬ (128 : Int) = 127 by decide, false_and, if_false]
               exact (fr.2.2 x (by omega)).trans (ez_up_ne (by omega))
             · exact inv.all v.2.1.1 (md_n wb).2 (by unfold ez_up; simp only [show ¬ 6 * (5 * a + b) + 2 = 6 * (5 * a + b) by omega, show ¬ 6 * (5 * a + b) + 2 = 6 * (5 * a + b) + 1 by omega, and_false, if_false]) (by unfold ez_up; simp only [show ¬ 6 * (5 * a + b) + 3 = 6 * (5 * a + b) by omega, show ¬ 6 * (5 * a + b) + 3 = 6 * (5 * a + b) + 1 by omega, and_false, if_false]) (by unfold ez_up; simp only [show ¬ 6 * (5 * a + b) + 4 = 6 * (5 * a + b) by omega, show ¬ 6 * (5 * a + b) + 4 = 6 * (5 * a + b) + 1 by omega, and_false, if_false]) (by unfold ez_up; simp only [show ¬ 6 * (5 * a + b) + 5 = 6 * (5 * a + b) by omega, show ¬ 6 * (5 * a + b) + 5 = 6 * (5 * a + b) + 1 by omega, and_false, if_false]) (fun x => by unfold ez_up; simp only [show ¬ (128 : Int) = 127 by decide, false_and, if_false]) (fun q => absurd q c_219) (fun _ => ⟨(ez_up_ne (by omega)).trans ez_up_eq, ez_up_eq⟩)
             · unfold ez_up
               simp only [show ¬ (126 : Int) = 127 by decide, false_and, if_false]
               rw [e6]
               decide
             · unfold ez_up
               simp only [show ¬ (126 : Int) = 127 by decide, false_and, if_false]
               by_cases qx : x = 5 * a + b
               · rw [qx, e6]
                 decide
               · rw [e6' x qx]
                 exact hx
             · unfold ez_up
               simp only [show ¬ (121 : Int) = 127 by decide, false_and, if_false]
               exact e0 121 k (by omega))
      · refine ez_aload_n dX6_lays_238 rfl ?_
        refine g6_7 dX6_lays_239 fl_X6_30 ?_
        refine ez_bipush dX6_lays_242 (by decide) (by decide) ?_
        refine ez_iload_n dX6_lays_244 rfl ?_
        refine ez_imul dX6_lays_245 (by omega) ?_
        refine ez_iconst dX6_lays_246 (by decide) ?_
        refine ez_iadd dX6_lays_247 (by omega) ?_
        refine ez_sipush dX6_lays_248 (by decide) (by decide) ?_
        refine ez_iload dX6_lays_251 rfl ?_
        refine cl_X6_count dX6_lays_253 ml_X6_84 ft_X6_lays__X6_count (Nat.le_of_ble_eq_true rfl) (c_X6_count (by omega)) (ez_kF ?_)
        refine ez_imul dX6_lays_256 (by omega) ?_
        refine ez_iload dX6_lays_257 rfl ?_
        refine ez_isub dX6_lays_259 (by omega) ?_
        refine as127 dX6_lays_260 (by omega) ?_
        refine ez_vreturn (st := []) dX6_lays_261 rfl ?_
        by_cases q : best = -1
        · first
          | (exfalso; omega)
          | (have c_219 := q
             have f2 : md_fr h (ez_up h' 127 (6 * (5 * a + b)) (-1)) := fun o k ho _ => by
               unfold ez_up
               simp only [show ¬ o = 127 by omega, false_and, if_false]
               exact e0 o k ho
             refine ez_PV.in ⟨v.lay (a := a) (b := b) f2 (by omega) (fun x hx => ?_) (fun x hx => ?_) (fun x hx => ?_) ?_, f2, ?_, fun x hx => ?_, fun k => ?_⟩
             · unfold ez_up
               simp only [show ¬ (126 : Int) = 127 by decide, false_and, if_false]
               exact e6' x hx
             · unfold ez_up
               simp only [show ¬ x = 6 * (5 * a + b) by omega, show ¬ x = 6 * (5 * a + b) + 1 by omega, and_false, if_false]
               exact (fr.2.1 x (by omega)).trans (ez_up_ne (by omega))
             · unfold ez_up
               simp only [show ¬ (128 : Int) = 127 by decide, false_and, if_false]
               exact (fr.2.2 x (by omega)).trans (ez_up_ne (by omega))
             · exact inv.all v.2.1.1 (md_n wb).2 (by unfold ez_up; simp only [show ¬ 6 * (5 * a + b) + 2 = 6 * (5 * a + b) by omega, and_false, if_false]) (by unfold ez_up; simp only [show ¬ 6 * (5 * a + b) + 3 = 6 * (5 * a + b) by omega, and_false, if_false]) (by unfold ez_up; simp only [show ¬ 6 * (5 * a + b) + 4 = 6 * (5 * a + b) by omega, and_false, if_false]) (by unfold ez_up; simp only [show ¬ 6 * (5 * a + b) + 5 = 6 * (5 * a + b) by omega, and_false, if_false]) (fun x => by unfold ez_up; simp only [show ¬ (128 : Int) = 127 by decide, false_and, if_false]) (fun _ => ez_up_eq) (fun q => absurd c_219 q)
             · unfold ez_up
               simp only [show ¬ (126 : Int) = 127 by decide, false_and, if_false]
               rw [e6]
               decide
             · unfold ez_up
               simp only [show ¬ (126 : Int) = 127 by decide, false_and, if_false]
               by_cases qx : x = 5 * a + b
               · rw [qx, e6]
                 decide
               · rw [e6' x qx]
                 exact hx
             · unfold ez_up
               simp only [show ¬ (121 : Int) = 127 by decide, false_and, if_false]
               exact e0 121 k (by omega))
        · first
          | (exfalso; omega)
          | (have c_219 := q
             have f2 : md_fr h (ez_up (ez_up h' 127 (6 * (5 * a + b)) ((best + 999) / 1000)) 127 (6 * (5 * a + b) + 1) (1000 * ((best + 999) / 1000) - best)) := fun o k ho _ => by
               unfold ez_up
               simp only [show ¬ o = 127 by omega, false_and, if_false]
               exact e0 o k ho
             refine ez_PV.in ⟨v.lay (a := a) (b := b) f2 (by omega) (fun x hx => ?_) (fun x hx => ?_) (fun x hx => ?_) ?_, f2, ?_, fun x hx => ?_, fun k => ?_⟩
             · unfold ez_up
               simp only [show ¬ (126 : Int) = 127 by decide, false_and, if_false]
               exact e6' x hx
             · unfold ez_up
               simp only [show ¬ x = 6 * (5 * a + b) by omega, show ¬ x = 6 * (5 * a + b) + 1 by omega, and_false, if_false]
               exact (fr.2.1 x (by omega)).trans (ez_up_ne (by omega))
             · unfold ez_up
               simp only [show ¬ (128 : Int) = 127 by decide, false_and, if_false]
               exact (fr.2.2 x (by omega)).trans (ez_up_ne (by omega))
             · exact inv.all v.2.1.1 (md_n wb).2 (by unfold ez_up; simp only [show ¬ 6 * (5 * a + b) + 2 = 6 * (5 * a + b) by omega, show ¬ 6 * (5 * a + b) + 2 = 6 * (5 * a + b) + 1 by omega, and_false, if_false]) (by unfold ez_up; simp only [show ¬ 6 * (5 * a + b) + 3 = 6 * (5 * a + b) by omega, show ¬ 6 * (5 * a + b) + 3 = 6 * (5 * a + b) + 1 by omega, and_false, if_false]) (by unfold ez_up; simp only [show ¬ 6 * (5 * a + b) + 4 = 6 * (5 * a + b) by omega, show ¬ 6 * (5 * a + b) + 4 = 6 * (5 * a + b) + 1 by omega, and_false, if_false]) (by unfold ez_up; simp only [show ¬ 6 * (5 * a + b) + 5 = 6 * (5 * a + b) by omega, show ¬ 6 * (5 * a + b) + 5 = 6 * (5 * a + b) + 1 by omega, and_false, if_false]) (fun x => by unfold ez_up; simp only [show ¬ (128 : Int) = 127 by decide, false_and, if_false]) (fun q => absurd q c_219) (fun _ => ⟨(ez_up_ne (by omega)).trans ez_up_eq, ez_up_eq⟩)
             · unfold ez_up
               simp only [show ¬ (126 : Int) = 127 by decide, false_and, if_false]
               rw [e6]
               decide
             · unfold ez_up
               simp only [show ¬ (126 : Int) = 127 by decide, false_and, if_false]
               by_cases qx : x = 5 * a + b
               · rw [qx, e6]
                 decide
               · rw [e6' x qx]
                 exact hx
             · unfold ez_up
               simp only [show ¬ (121 : Int) = 127 by decide, false_and, if_false]
               exact e0 121 k (by omega))
  · refine ez_vreturn (st := []) dX6_lays_15 rfl ?_
    exact ez_PV.in ⟨v, md_fr.rf h, c_12, fun _ hx => hx, fun _ => rfl⟩
