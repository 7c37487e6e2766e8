/-! between two rows: rows 1 .. row - 1 have their columns -/
def mt_J (h : ez_H) (n w row : Int) : Prop := (mt_D h n w row) ∧ (mt_A h w row) ∧ (1 ≤ row ∧ row ≤ n + 1) ∧ (-(100000000000 * (row - 1)) ≤ h 105 0 ∧ h 105 0 ≤ 0) ∧ (∃ k : Int, (1 ≤ k ∧ k ≤ w) ∧ h 105 k = 0)
theorem mt_J.D {h : ez_H} {n w row : Int} (x_ : mt_J h n w row) : mt_D h n w row := x_.1
theorem mt_J.A {h : ez_H} {n w row : Int} (x_ : mt_J h n w row) : mt_A h w row := x_.2.1
theorem mt_J.row {h : ez_H} {n w row : Int} (x_ : mt_J h n w row) : 1 ≤ row ∧ row ≤ n + 1 := x_.2.2.1
theorem mt_J.j0 {h : ez_H} {n w row : Int} (x_ : mt_J h n w row) : -(100000000000 * (row - 1)) ≤ h 105 0 ∧ h 105 0 ≤ 0 := x_.2.2.2.1
theorem mt_J.z {h : ez_H} {n w row : Int} (x_ : mt_J h n w row) : ∃ k : Int, (1 ≤ k ∧ k ≤ w) ∧ h 105 k = 0 := x_.2.2.2.2
theorem mt_red_eq {h g : ez_H} {r k : Int} (e : ∀ o i : Int, o = 103 ∨ o = 104 ∨ o = 105 → h o i = g o i) : mt_red h r k = mt_red g r k := by
  unfold mt_red
  rw [e 103 _ (by omega), e 104 _ (by omega), e 105 _ (by omega)]
theorem mt_D.eq {h g : ez_H} {n w row row' : Int} (D : mt_D g n w row) (hr : row ≤ row') (e : ∀ o i : Int, o = 103 ∨ o = 104 ∨ o = 105 → h o i = g o i) : mt_D h n w row' :=
  ⟨D.w1, fun r k r0 r1 k0 k1 => by rw [e 103 _ (by omega)]; exact D.c r k r0 r1 k0 k1, fun r k r0 r1 k0 k1 => by rw [mt_red_eq e]; exact D.f r k r0 r1 k0 k1, fun k k0 k1 => by rw [e 105 _ (by omega)]; exact D.v k k0 k1, fun r r0 r1 => by rw [e 104 _ (by omega)]; exact D.u r r0 r1, fun r r0 r1 hh => by rw [e 104 _ (by omega)]; exact D.u0 r r0 r1 (by omega), fun k k0 k1 => by rw [e 105 _ (by omega)]; exact D.v9 k k0 k1⟩
theorem mt_cnt_0 {f : Int → Int} : ∀ n : Nat, (∀ k : Int, 0 ≤ k → k < n → f k = 0) → mt_cnt f n = 0
  | 0, _ => rfl
  | n + 1, h => by
    unfold mt_cnt
    rw [mt_cnt_0 n (fun k k0 k1 => h k k0 (by omega)), if_pos (h n (by omega) (by omega))]
    rfl
theorem mt_J.start {h h1 : ez_H} {n w row : Int} {t : Int → Int} (J : mt_J h n w row) (hn : row ≤ n) (e : ∀ o k : Int, o ≠ 106 → o ≠ 109 → ¬ (o = 107 ∧ k = 0) → h1 o k = h o k) (e0 : h1 107 0 = row) (e6 : ∀ k : Int, 0 ≤ k → k ≤ 8 → h1 106 k = 1152921504606846976) (e9 : ∀ k : Int, 0 ≤ k → k ≤ w → h1 109 k = 0) : mt_K h1 n w row 0 0 t := by
  have w1 := J.D.w1
  have ee : ∀ o i : Int, o = 103 ∨ o = 104 ∨ o = 105 → h1 o i = h o i := fun o i ho => e o i (by omega) (by omega) (by omega)
  have e7 : ∀ k : Int, 1 ≤ k → h1 107 k = h 107 k := fun k k0 => e 107 k (by decide) (by decide) (by omega)
  refine ⟨J.D.eq (by omega) ee, ⟨fun k k0 k1 => by rw [e7 k k0]; exact J.A.r k k0 k1, fun k k' k0 k1 k2 k3 k4 k5 => ?_, fun r r0 r1 => ?_, fun k k0 k1 k2 => ?_, fun k k0 k1 k2 => ?_, ?_⟩, by have := J.row; omega, e0, ?_, fun k k0 k1 k2 => absurd (e9 k k0 k1) k2, fun k k0 k1 k2 => absurd (e9 k (by omega) k1) k2, fun k k0 k1 k2 => Or.inl ⟨rfl, e6 k (by omega) (by omega)⟩, fun k q k0 k1 k2 q0 q1 q2 => absurd (e9 q q0 q1) q2, ⟨by omega, e9 0 (by omega) (by omega), fun _ => rfl, fun q => by omega⟩, by omega, mt_cnt_0 _ (fun k k0 k1 => e9 k k0 (by omega))⟩
  · rw [e7 k k0] at k4 k5
    rw [e7 k' k2] at k5
    exact J.A.i k k' k0 k1 k2 k3 k4 k5
  · obtain ⟨k, k0, k1⟩ := J.A.s r r0 r1
    exact ⟨k, k0, by rw [e7 k k0.1]; exact k1⟩
  · rw [e7 k k0] at k2 ⊢
    rw [mt_red_eq ee]
    exact J.A.t k k0 k1 k2
  · rw [e7 k k0] at k2
    rw [ee 105 k (by omega)]
    exact J.A.z k k0 k1 k2
  · rw [← J.A.n]
    exact mt_cnt_cong _ (fun k k0 k1 => by rw [e7 (k + 1) (by omega)])
  · have a := J.j0
    have b := J.D.u row (by omega) (by omega)
    rw [ee 104 row (by omega), ee 105 0 (by omega)]
    omega
/-- the way back: g the heap as the search left it, at_ the column that gets a row next -/
def mt_M (g : ez_H) (h : ez_H) (w row at_ T : Int) (t : Int → Int) : Prop := (∀ o k : Int, o ≠ 107 → h o k = g o k) ∧ (∀ k : Int, 1 ≤ k → k ≤ w → 0 ≤ h 107 k ∧ h 107 k ≤ row) ∧ (h 107 0 = row) ∧ (∀ k k' : Int, 0 ≤ k → k ≤ w → 0 ≤ k' → k' ≤ w → k ≠ at_ → k' ≠ at_ → h 107 k ≠ 0 → h 107 k = h 107 k' → k = k') ∧ (∀ r : Int, 1 ≤ r → r ≤ row → ∃ k : Int, (0 ≤ k ∧ k ≤ w) ∧ k ≠ at_ ∧ h 107 k = r) ∧ (∀ k : Int, 1 ≤ k → k ≤ w → k ≠ at_ → h 107 k ≠ 0 → mt_red g (h 107 k) k = 0) ∧ (∀ k : Int, 1 ≤ k → k ≤ w → k ≠ at_ → h 107 k = 0 → g 105 k = 0) ∧ (∀ k : Int, 0 ≤ k → k ≤ w → g 109 k ≠ 0 → t k < T → h 107 k = g 107 k) ∧ ((0 ≤ at_ ∧ at_ ≤ w) ∧ (at_ ≠ 0 → (0 ≤ g 108 at_ ∧ g 108 at_ ≤ w) ∧ g 109 (g 108 at_) ≠ 0 ∧ t (g 108 at_) < T ∧ mt_red g (g 107 (g 108 at_)) at_ = 0)) ∧ (mt_cnt (fun k => h 107 (k + 1)) w.toNat = row - 1 + (if h 107 at_ = 0 then 0 else 1))
theorem mt_M.o {g : ez_H} {h : ez_H} {w row at_ T : Int} {t : Int → Int} (x_ : mt_M g h w row at_ T t) : ∀ o k : Int, o ≠ 107 → h o k = g o k := x_.1
theorem mt_M.r {g : ez_H} {h : ez_H} {w row at_ T : Int} {t : Int → Int} (x_ : mt_M g h w row at_ T t) : ∀ k : Int, 1 ≤ k → k ≤ w → 0 ≤ h 107 k ∧ h 107 k ≤ row := x_.2.1
theorem mt_M.r0 {g : ez_H} {h : ez_H} {w row at_ T : Int} {t : Int → Int} (x_ : mt_M g h w row at_ T t) : h 107 0 = row := x_.2.2.1
theorem mt_M.i {g : ez_H} {h : ez_H} {w row at_ T : Int} {t : Int → Int} (x_ : mt_M g h w row at_ T t) : ∀ k k' : Int, 0 ≤ k → k ≤ w → 0 ≤ k' → k' ≤ w → k ≠ at_ → k' ≠ at_ → h 107 k ≠ 0 → h 107 k = h 107 k' → k = k' := x_.2.2.2.1
theorem mt_M.s {g : ez_H} {h : ez_H} {w row at_ T : Int} {t : Int → Int} (x_ : mt_M g h w row at_ T t) : ∀ r : Int, 1 ≤ r → r ≤ row → ∃ k : Int, (0 ≤ k ∧ k ≤ w) ∧ k ≠ at_ ∧ h 107 k = r := x_.2.2.2.2.1
theorem mt_M.t {g : ez_H} {h : ez_H} {w row at_ T : Int} {t : Int → Int} (x_ : mt_M g h w row at_ T t) : ∀ k : Int, 1 ≤ k → k ≤ w → k ≠ at_ → h 107 k ≠ 0 → mt_red g (h 107 k) k = 0 := x_.2.2.2.2.2.1
theorem mt_M.z {g : ez_H} {h : ez_H} {w row at_ T : Int} {t : Int → Int} (x_ : mt_M g h w row at_ T t) : ∀ k : Int, 1 ≤ k → k ≤ w → k ≠ at_ → h 107 k = 0 → g 105 k = 0 := x_.2.2.2.2.2.2.1
theorem mt_M.d {g : ez_H} {h : ez_H} {w row at_ T : Int} {t : Int → Int} (x_ : mt_M g h w row at_ T t) : ∀ k : Int, 0 ≤ k → k ≤ w → g 109 k ≠ 0 → t k < T → h 107 k = g 107 k := x_.2.2.2.2.2.2.2.1
theorem mt_M.a {g : ez_H} {h : ez_H} {w row at_ T : Int} {t : Int → Int} (x_ : mt_M g h w row at_ T t) : (0 ≤ at_ ∧ at_ ≤ w) ∧ (at_ ≠ 0 → (0 ≤ g 108 at_ ∧ g 108 at_ ≤ w) ∧ g 109 (g 108 at_) ≠ 0 ∧ t (g 108 at_) < T ∧ mt_red g (g 107 (g 108 at_)) at_ = 0) := x_.2.2.2.2.2.2.2.2.1
theorem mt_M.n {g : ez_H} {h : ez_H} {w row at_ T : Int} {t : Int → Int} (x_ : mt_M g h w row at_ T t) : mt_cnt (fun k => h 107 (k + 1)) w.toNat = row - 1 + (if h 107 at_ = 0 then 0 else 1) := x_.2.2.2.2.2.2.2.2.2
theorem mt_K.back {h : ez_H} {n w row at_ s : Int} {t : Int → Int} (K : mt_K h n w row at_ s t) (hz : h 107 at_ = 0) : mt_M h h w row at_ s t := by
  have w1 := K.D.w1
  have row1 := K.row
  have ka := K.a
  have r0 := K.r0
  refine ⟨fun _ _ _ => rfl, fun k k0 k1 => K.rr (by omega) k1, r0, fun k k' k0 k1 k2 k3 _ _ k4 k5 => K.inj k0 k1 k2 k3 k4 k5, fun r q0 q1 => ?_, fun k k0 k1 _ => K.A.t k k0 k1, fun k k0 k1 _ => K.A.z k k0 k1, fun _ _ _ _ _ => rfl, ⟨ka.1, fun ne => ?_⟩, by rw [if_pos hz, K.A.n, Int.add_zero]⟩
  · by_cases e : r = row
    · exact ⟨0, by omega, fun q => by rw [← q, r0] at hz; omega, by omega⟩
    · obtain ⟨k, k0, k1⟩ := K.A.s r q0 (by omega)
      exact ⟨k, by omega, fun q => by rw [q] at k1; omega, k1⟩
  · have z : s ≠ 0 := fun z => ne (ka.2.2.1 z)
    have s0 := K.s0
    rcases K.g at_ (by omega) ka.1.2 ka.2.1 with x | ⟨x0, x1, x2, x3⟩
    · exact absurd x.1 z
    · exact ⟨x1, x2, (K.p _ x1.1 x1.2 x2).2.2, by rw [← x3]; exact (ka.2.2.2 x0).2.1⟩
theorem mt_M.step {g h : ez_H} {n w row q s at_ T : Int} {t : Int → Int} (K : mt_K g n w row q s t) (M : mt_M g h w row at_ T t) (hz : at_ ≠ 0) : mt_M g (ez_up h 107 at_ (h 107 (h 108 at_))) w row (h 108 at_) (t (h 108 at_)) t ∧ 0 ≤ t (h 108 at_) ∧ t (h 108 at_) < T ∧ (0 ≤ h 108 at_ ∧ h 108 at_ ≤ w) := by
  have w1 := K.D.w1
  have row1 := K.row
  have e8 := M.o 108 at_ (by decide)
  rw [e8]
  obtain ⟨a0, a1⟩ := M.a
  obtain ⟨b0, b1, b2, b3⟩ := a1 hz
  have kp := K.p _ b0.1 b0.2 b1
  have kr := K.rr (k := g 108 at_) b0.1 b0.2
  have ed := M.d _ b0.1 b0.2 b1 b2
  -- at_ itself was not passed as early
  have ne : at_ ≠ g 108 at_ := fun e => by
    have c := M.a.2 hz
    rw [← e] at b1 b2
    have := (K.c at_ (by omega) (by omega) b1).2.2.1
    rw [← e] at this
    omega
  have u1 : ez_up h 107 at_ (h 107 (g 108 at_)) 107 at_ = g 107 (g 108 at_) := ez_up_eq.trans ed
  have u2 : ∀ k : Int, k ≠ at_ → ez_up h 107 at_ (h 107 (g 108 at_)) 107 k = h 107 k := fun k hk => ez_up_ne (by omega)
  refine ⟨⟨fun o k ho => (ez_up_ne (by omega)).trans (M.o o k ho), fun k k0 k1 => ?_, by rw [u2 0 (by omega)]; exact M.r0, fun k k' k0 k1 k2 k3 n1 n2 k4 k5 => ?_, fun r q0 q1 => ?_, fun k k0 k1 k2 k3 => ?_, fun k k0 k1 k2 k3 => ?_, fun k k0 k1 k2 k3 => ?_, ⟨b0, fun hn => ?_⟩, ?_⟩, kp.2.1, b2, b0⟩
  · by_cases e : k = at_
    · rw [e, u1]; exact kr
    · rw [u2 k e]; exact M.r k k0 k1
  · by_cases e : k = at_
    · by_cases e' : k' = at_
      · omega
      · rw [e, u1, u2 k' e', ← ed] at k5
        exact absurd (M.i (g 108 at_) k' b0.1 b0.2 k2 k3 (Ne.symm ne) e' (by rw [ed]; exact kp.1) k5) (Ne.symm n2)
    · by_cases e' : k' = at_
      · rw [e', u1, u2 k e, ← ed] at k5
        exact absurd (M.i (g 108 at_) k b0.1 b0.2 k0 k1 (Ne.symm ne) e (by rw [ed]; exact kp.1) k5.symm) (Ne.symm n1)
      · rw [u2 k e] at k4 k5
        rw [u2 k' e'] at k5
        exact M.i k k' k0 k1 k2 k3 e e' k4 k5
  · obtain ⟨k, k0, k1, k2⟩ := M.s r q0 q1
    by_cases e : k = g 108 at_
    · exact ⟨at_, a0, ne, by rw [u1, ← ed, ← e]; exact k2⟩
    · exact ⟨k, k0, e, by rw [u2 k k1]; exact k2⟩
  · by_cases e : k = at_
    · rw [e, u1]; exact b3
    · rw [u2 k e] at k3 ⊢
      exact M.t k k0 k1 e k3
  · by_cases e : k = at_
    · rw [e, u1] at k3
      exact absurd k3 kp.1
    · rw [u2 k e] at k3
      exact M.z k k0 k1 e k3
  · have e : k ≠ at_ := fun e => by
      rw [e] at k2 k3
      have := (K.c at_ (by omega) (by omega) k2).2.2.1
      omega
    rw [u2 k e]
    exact M.d k k0 k1 k2 (by omega)
  · exact K.c _ (by omega) b0.2 b1
  · rw [if_neg (by rw [u2 _ (Ne.symm ne), ed]; exact kp.1)]
    have hn := M.n
    by_cases e : h 107 at_ = 0
    · rw [if_pos e] at hn
      rw [mt_cnt_set (f := fun k => h 107 (k + 1)) (c := at_ - 1) (by omega) (by rw [show at_ - 1 + 1 = at_ by omega]; exact e) (by rw [show at_ - 1 + 1 = at_ by omega, u1]; exact kp.1) (fun k hk => by rw [u2 (k + 1) (by omega)]) w.toNat (by omega), hn]
      omega
    · rw [if_neg e] at hn
      rw [← hn]
      refine mt_cnt_cong _ (fun k _ _ => ?_)
      by_cases e' : k + 1 = at_
      · rw [e', u1]
        exact ⟨fun q => absurd q kp.1, fun q => absurd q e⟩
      · rw [u2 _ e']
theorem mt_M.fin {g h : ez_H} {n w row q s T : Int} {t : Int → Int} (K : mt_K g n w row q s t) (M : mt_M g h w row 0 T t) : mt_J h n w (row + 1) := by
  have w1 := K.D.w1
  have row1 := K.row
  have r0 := M.r0
  have ee : ∀ o i : Int, o = 103 ∨ o = 104 ∨ o = 105 → h o i = g o i := fun o i ho => M.o o i (by omega)
  obtain ⟨f, f1, f2, f3⟩ := K.free
  have bd := K.D.bd K.A (by omega) (by omega) f1 f2
  refine ⟨K.D.eq (by omega) ee, ⟨fun k k0 k1 => by have := M.r k k0 k1; omega, fun k k' k0 k1 k2 k3 k4 k5 => M.i k k' (by omega) k1 (by omega) k3 (by omega) (by omega) k4 k5, fun r q0 q1 => ?_, fun k k0 k1 k2 => by rw [mt_red_eq ee]; exact M.t k k0 k1 (by omega) k2, fun k k0 k1 k2 => by rw [ee 105 k (by omega)]; exact M.z k k0 k1 (by omega) k2, ?_⟩, by omega, ?_, ⟨f, f1, by rw [ee 105 f (by omega)]; exact K.A.z f f1.1 f1.2 f2⟩⟩
  · obtain ⟨k, k0, k1, k2⟩ := M.s r q0 (by omega)
    exact ⟨k, by omega, k2⟩
  · have hn := M.n
    rw [if_neg (by rw [r0]; omega)] at hn
    omega
  · have a := K.j0
    have b := bd.1 row (by omega) (by omega)
    rw [ee 105 0 (by omega)]
    omega

theorem lp_s1 {w row : Int} {h : ez_H} (hw : 1 ≤ w ∧ w ≤ 8) {Q : ez_H → Option ez_V → Prop} (kx : ez_En M_X2_settle 30 [ez_R 101, ez_I row, ez_I w, ez_N, ez_N] [] (ez_fill h 109 (w + 1) 0) Q) : ∀ (n : Nat) (c : Int), (0 ≤ c) → (c ≤ w + 1) → w + 1 - c < n → ez_En M_X2_settle 12 [ez_R 101, ez_I row, ez_I w, ez_I c, ez_N] [] (ez_fill h 109 c 0) Q := by
  intro n
  induction n with
  | zero =>
    intro c c0 c1 hm
    exfalso
    omega
  | succ n ih =>
    intro c c0 c1 hm
    refine ez_iload_n dX2_settle_12 rfl ?_
    refine ez_iload_n dX2_settle_13 rfl ?_
    refine ez_ic_gt 30 dX2_settle_14 (by decide) (fun c_14 => ?_) (fun c_14 => ?_)
    · refine ez_lessS (L' := [ez_R 101, ez_I row, ez_I w, ez_N, ez_N]) ⟨Or.inr rfl, Or.inr rfl, Or.inr rfl, Or.inl rfl, Or.inl rfl, trivial⟩ ?_
      rw [show c = w + 1 by omega]
      exact kx
    · refine ez_aload_n dX2_settle_17 rfl ?_
      refine g2_9 dX2_settle_18 fl_X2_34 ?_
      refine ez_iload_n dX2_settle_21 rfl ?_
      refine ez_iconst dX2_settle_22 (by decide) ?_
      refine as109 dX2_settle_23 (by omega) (by first | exact Or.inl rfl | exact Or.inr rfl | omega) ?_
      refine ez_iinc dX2_settle_24 rfl (by decide) (by decide) (by omega) ?_
      refine ez_goto 12 dX2_settle_27 (by decide) ?_
      rw [ez_fill_s (by omega)]
      exact ih (c + 1) (by omega) (by omega) (by omega)
theorem lp_s2 {N w row : Int} {h : ez_H} {Q : ez_H → Option ez_V → Prop} (kx : ∀ (h' : ez_H) (at_ s : Int) (t : Int → Int), mt_K h' N w row at_ s t → h' 107 at_ = 0 → s ≤ w → (∀ o k : Int, (o ≠ 104 ∧ o ≠ 105 ∧ o ≠ 106 ∧ o ≠ 108 ∧ o ≠ 109) → h' o k = h o k) → ez_En M_X2_settle 70 [ez_R 101, ez_I row, ez_I w, ez_I at_, ez_N] [] h' Q) : ∀ (n : Nat) (at_ : Int) (s : Int) (t : Int → Int) (h' : ez_H), (mt_K h' N w row at_ s t) → (∀ o k : Int, (o ≠ 104 ∧ o ≠ 105 ∧ o ≠ 106 ∧ o ≠ 108 ∧ o ≠ 109) → h' o k = h o k) → w + 1 - s < n → ez_En M_X2_settle 42 [ez_R 101, ez_I row, ez_I w, ez_I at_, ez_I s] [] h' Q := by
  intro n
  induction n with
  | zero =>
    intro at_ s t h' K fr hm
    exfalso
    have w1 := K.D.w1
    obtain ⟨q, q1, q2, q3⟩ := K.free
    have hs := mt_cnt_lt (f := h' 109) (k := q) (by omega) q3 (w.toNat + 1) (by omega)
    rw [K.n] at hs
    omega
  | succ n ih =>
    intro at_ s t h' K fr hm
    have w1 := K.D.w1
    have ka := K.a
    have s0 := K.s0
    have row1 := K.row
    have hs : s ≤ w := by
      obtain ⟨q, q1, q2, q3⟩ := K.free
      have hs := mt_cnt_lt (f := h' 109) (k := q) (by omega) q3 (w.toNat + 1) (by omega)
      rw [K.n] at hs
      omega
    refine ez_iload dX2_settle_42 rfl ?_
    refine ez_iload_n dX2_settle_44 rfl ?_
    refine ez_ic_gt 70 dX2_settle_45 (by decide) (fun c_45 => ?_) (fun c_45 => ?_)
    · exfalso
      omega
    · refine ez_aload_n dX2_settle_48 rfl ?_
      refine g2_7 dX2_settle_49 fl_X2_28 ?_
      refine ez_iload_n dX2_settle_52 rfl ?_
      refine al107 dX2_settle_53 (by omega) ?_
      refine ez_if_eq 70 dX2_settle_54 (by decide) (fun c_54 => ?_) (fun c_54 => ?_)
      · refine ez_lessS (L' := [ez_R 101, ez_I row, ez_I w, ez_I at_, ez_N]) ⟨Or.inr rfl, Or.inr rfl, Or.inr rfl, Or.inr rfl, Or.inl rfl, trivial⟩ ?_
        exact kx h' at_ s t K c_54 (by omega) fr
      · refine ez_aload_n dX2_settle_57 rfl ?_
        refine ez_iload_n dX2_settle_58 rfl ?_
        refine ez_iload_n dX2_settle_59 rfl ?_
        refine cl_X2_advance dX2_settle_60 ml_X2_75 ft_X2_settle__X2_advance (Nat.le_of_ble_eq_true rfl) (c_X2_advance K c_54) (ez_kI (fun h2 z ⟨K2, f2⟩ => ?_))
        refine ez_istore_n dX2_settle_63 (by decide) ?_
        refine ez_iinc dX2_settle_64 rfl (by decide) (by decide) (by omega) ?_
        refine ez_goto 42 dX2_settle_67 (by decide) ?_
        exact ih z (s + 1) _ h2 K2 (fun o k ho => (f2 o k ho).trans (fr o k ho)) (by omega)
theorem lp_s3 {N w row q s : Int} {t : Int → Int} {g : ez_H} (K : mt_K g N w row q s t) (hs : s ≤ w) {Q : ez_H → Option ez_V → Prop} (kx : ∀ h2, mt_J h2 N w (row + 1) → (∀ o k : Int, o ≠ 107 → h2 o k = g o k) → Q h2 none) : ∀ (n : Nat) (at_ : Int) (x : Int) (T : Int) (h' : ez_H), (mt_M g h' w row at_ T t) → (0 ≤ x ∧ x ≤ s + 1) → (at_ ≠ 0 → 0 ≤ T ∧ x + T ≤ s) → w + 2 - x < n → ez_En M_X2_settle 73 [ez_R 101, ez_I row, ez_I w, ez_I at_, ez_I x] [] h' Q := by
  intro n
  induction n with
  | zero =>
    intro at_ x T h' M x0 xT hm
    exfalso
    omega
  | succ n ih =>
    intro at_ x T h' M x0 xT hm
    have w1 := K.D.w1
    have row1 := K.row
    refine ez_iload dX2_settle_73 rfl ?_
    refine ez_iload_n dX2_settle_75 rfl ?_
    refine ez_ic_gt 113 dX2_settle_76 (by decide) (fun c_76 => ?_) (fun c_76 => ?_)
    · have c_80 : at_ = 0 := by omega
      refine ez_vreturn (st := []) dX2_settle_113 rfl ?_
      rw [c_80] at M
      exact kx _ (M.fin K) M.o
    · refine ez_iload_n dX2_settle_79 rfl ?_
      refine ez_if_eq 113 dX2_settle_80 (by decide) (fun c_80 => ?_) (fun c_80 => ?_)
      · refine ez_vreturn (st := []) dX2_settle_113 rfl ?_
        rw [c_80] at M
        exact kx _ (M.fin K) M.o
      · have ms := M.step K c_80
        have e8 := M.o 108 at_ (by decide)
        have m0 := M.a.1
        have ev : ∀ z : Int, ez_up h' 107 at_ z 108 at_ = h' 108 at_ := fun z => ez_up_ne (by omega)
        refine ez_aload_n dX2_settle_83 rfl ?_
        refine g2_7 dX2_settle_84 fl_X2_28 ?_
        refine ez_iload_n dX2_settle_87 rfl ?_
        refine ez_aload_n dX2_settle_88 rfl ?_
        refine g2_7 dX2_settle_89 fl_X2_28 ?_
        refine ez_aload_n dX2_settle_92 rfl ?_
        refine g2_8 dX2_settle_93 fl_X2_31 ?_
        refine ez_iload_n dX2_settle_96 rfl ?_
        refine al108 dX2_settle_97 (by omega) ?_
        refine al107 dX2_settle_98 (by omega) ?_
        refine as107 dX2_settle_99 (by omega) ?_
        refine ez_aload_n dX2_settle_100 rfl ?_
        refine g2_8 dX2_settle_101 fl_X2_31 ?_
        refine ez_iload_n dX2_settle_104 rfl ?_
        refine al108 dX2_settle_105 (by omega) ?_
        rw [ev]
        refine ez_istore_n dX2_settle_106 (by decide) ?_
        refine ez_iinc dX2_settle_107 rfl (by decide) (by decide) (by omega) ?_
        refine ez_goto 73 dX2_settle_110 (by decide) ?_
        exact ih (h' 108 at_) (x + 1) _ _ ms.1 (by omega) (by omega) (by omega)
theorem c_X2_settle {h : ez_H} {n w row : Int} (J : mt_J h n w row) (hn : row ≤ n) : ez_Ct M_X2_settle [ez_R 101, ez_I row, ez_I w] h (ez_PV (fun h' => mt_J h' n w (row + 1) ∧ ∀ o k : Int, (o < 104 ∨ 109 < o) → h' o k = h o k)) := by
  have w1 := J.D.w1
  have row1 := J.row
  refine ez_of (by decide) (Nat.le_of_ble_eq_true rfl) (L0 := [ez_R 101, ez_I row, ez_I w, ez_N, ez_N]) rfl ?_
  refine ez_aload_n dX2_settle_0 rfl ?_
  refine g2_6 dX2_settle_1 fl_X2_25 ?_
  refine ez_ldc2 (1152921504606846976) dX2_settle_4 cn_X2_73 rfl (by decide) ?_
  refine cl_J7_fill_d0a16 dX2_settle_7 ml_X2_48 ft_X2_settle__J7_fill_d0a16 (Nat.le_of_ble_eq_true rfl) (c_J7_fill_d0a16 (by decide) rfl (by decide)) (ez_kS ?_)
  refine ez_iconst dX2_settle_10 (by decide) ?_
  refine ez_istore_n dX2_settle_11 (by decide) ?_
  refine (show ∀ Q : ez_H → Option ez_V → Prop, ez_En M_X2_settle 30 [ez_R 101, ez_I row, ez_I w, ez_N, ez_N] [] (ez_fill (ez_fill h 106 (ez_len 106) 1152921504606846976) 109 (w + 1) 0) Q → ez_En M_X2_settle 12 [ez_R 101, ez_I row, ez_I w, ez_I 0, ez_N] [] (ez_fill h 106 (ez_len 106) 1152921504606846976) Q from fun Q kx => by
      have k1 := lp_s1 (row := row) ⟨w1.1, w1.2.1⟩ kx (w + 2).toNat 0 (by omega) (by omega) (by omega)
      rw [ez_fill_0] at k1
      exact k1) _ ?_
  refine ez_aload_n dX2_settle_30 rfl ?_
  refine g2_7 dX2_settle_31 fl_X2_28 ?_
  refine ez_iconst dX2_settle_34 (by decide) ?_
  refine ez_iload_n dX2_settle_35 rfl ?_
  refine as107 dX2_settle_36 (by omega) ?_
  refine ez_iconst dX2_settle_37 (by decide) ?_
  refine ez_istore_n dX2_settle_38 (by decide) ?_
  refine ez_iconst dX2_settle_39 (by decide) ?_
  refine ez_istore dX2_settle_40 (by decide) ?_
  refine lp_s2 (N := n) (fun h2 at_ s t K hz hs fr => ?_) (w + 2).toNat 0 0 (fun _ => 0) _ (J.start hn (fun o k h6 h9 h7 => ?_) ez_up_eq (fun k k0 k1 => ?_) (fun k k0 k1 => ?_)) (fun _ _ _ => rfl) (by omega)
  rotate_left
  · rw [ez_up_ne h7]
    unfold ez_fill
    rw [if_neg (by omega), if_neg (by omega)]
  · rw [ez_up_ne (by omega)]
    unfold ez_fill
    rw [if_neg (by omega), if_pos ⟨rfl, k0, by show k < 9; omega⟩]
  · rw [ez_up_ne (by omega)]
    unfold ez_fill
    rw [if_pos ⟨rfl, k0, by omega⟩]
  refine ez_iconst dX2_settle_70 (by decide) ?_
  refine ez_istore dX2_settle_71 (by decide) ?_
  have ks := K.s0
  refine lp_s3 K hs (fun h3 J3 fr3 => ez_PV.in ⟨J3, fun o k ho => ?_⟩) (w + 3).toNat at_ 0 s h2 (K.back hz) (by omega) (by omega) (by omega)
  rw [fr3 o k (by omega), fr o k (by omega), ez_up_ne (by omega)]
  unfold ez_fill
  rw [if_neg (by omega), if_neg (by omega)]
