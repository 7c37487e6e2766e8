/-! the class's Fitter: the best lay so far, in the Lay o -/
def fi_V (h : ez_H) (o R : Int) (A B : bl_P) (k s x y : Int) : Prop := (1000 * h o 1 - h o 2 = bl_v R A B k s x y) ∧ (pm_gr (bl_g A B k s x y) R A.1 (h (o + 1)) B.1 B.1 0) ∧ (∀ j : Int, B.1 ≤ j → j < 8 → h (o + 1) j = -1) ∧ (ly_T h o (h (o + 1)) 8) ∧ (0 ≤ h o 2 ∧ h o 2 ≤ 400) ∧ (0 ≤ h o 1 ∧ h o 1 ≤ 8)
theorem fi_V.v {h : ez_H} {o R : Int} {A B : bl_P} {k s x y : Int} (x_ : fi_V h o R A B k s x y) : 1000 * h o 1 - h o 2 = bl_v R A B k s x y := x_.1
theorem fi_V.gr {h : ez_H} {o R : Int} {A B : bl_P} {k s x y : Int} (x_ : fi_V h o R A B k s x y) : pm_gr (bl_g A B k s x y) R A.1 (h (o + 1)) B.1 B.1 0 := x_.2.1
theorem fi_V.n {h : ez_H} {o R : Int} {A B : bl_P} {k s x y : Int} (x_ : fi_V h o R A B k s x y) : ∀ j : Int, B.1 ≤ j → j < 8 → h (o + 1) j = -1 := x_.2.2.1
theorem fi_V.t {h : ez_H} {o R : Int} {A B : bl_P} {k s x y : Int} (x_ : fi_V h o R A B k s x y) : ly_T h o (h (o + 1)) 8 := x_.2.2.2.1
theorem fi_V.s {h : ez_H} {o R : Int} {A B : bl_P} {k s x y : Int} (x_ : fi_V h o R A B k s x y) : 0 ≤ h o 2 ∧ h o 2 ≤ 400 := x_.2.2.2.2.1
theorem fi_V.c {h : ez_H} {o R : Int} {A B : bl_P} {k s x y : Int} (x_ : fi_V h o R A B k s x y) : 0 ≤ h o 1 ∧ h o 1 ≤ 8 := x_.2.2.2.2.2
theorem fi_V.eq {h h' : ez_H} {o R : Int} {A B : bl_P} {k s x y : Int} (V : fi_V h o R A B k s x y) (e1 : h' o 1 = h o 1) (e2 : h' o 2 = h o 2) (e3 : ∀ x : Int, h' (o + 1) x = h (o + 1) x) (e4 : ∀ x : Int, h' (o + 2) x = h (o + 2) x) : fi_V h' o R A B k s x y := by
  have f3 : h' (o + 1) = h (o + 1) := funext e3
  have f4 : h' (o + 2) = h (o + 2) := funext e4
  unfold fi_V ly_T at V ⊢
  rw [e1, e2, f3, f4]
  exact V
def fi_I (h : ez_H) (o R : Int) (A B : bl_P) (P : Int → Int → Int → Int → Prop) : Prop :=
  (h o 1 = 0 ∧ h o 2 = 0 ∧ (∀ j : Int, 0 ≤ j → j < 8 → h (o + 1) j = -1 ∧ h (o + 2) j = -1) ∧ ∀ k s i j : Int, bl_ok A B k s i j → ¬ P k s i j) ∨
  (bl_top R A B P (h o 3) (h o 4) (h o 5) (h o 6) ∧ fi_V h o R A B (h o 3) (h o 4) (h o 5) (h o 6))
theorem fi_I.iff {h : ez_H} {o R : Int} {A B : bl_P} {P P' : Int → Int → Int → Int → Prop} (I : fi_I h o R A B P) (hP : ∀ k' s' i' j' : Int, bl_ok A B k' s' i' j' → (P' k' s' i' j' ↔ P k' s' i' j')) : fi_I h o R A B P' := by
  rcases I with ⟨a1, a2, a3, a4⟩ | ⟨T, V⟩
  · exact Or.inl ⟨a1, a2, a3, fun k s i j hk hp => a4 k s i j hk ((hP k s i j hk).1 hp)⟩
  · exact Or.inr ⟨bl_top_iff T hP, V⟩
theorem fi_I.eq {h h' : ez_H} {o R : Int} {A B : bl_P} {P : Int → Int → Int → Int → Prop} (I : fi_I h o R A B P) (e : ∀ x : Int, 1 ≤ x → x ≤ 6 → h' o x = h o x) (e3 : ∀ x : Int, h' (o + 1) x = h (o + 1) x) (e4 : ∀ x : Int, h' (o + 2) x = h (o + 2) x) : fi_I h' o R A B P := by
  have e1 := e 1 (by decide) (by decide)
  have e2 := e 2 (by decide) (by decide)
  rcases I with ⟨a1, a2, a3, a4⟩ | ⟨T, V⟩
  · exact Or.inl ⟨e1.trans a1, e2.trans a2, fun j j0 j1 => by rw [e3, e4]; exact a3 j j0 j1, a4⟩
  · right
    rw [e 3 (by decide) (by decide), e 4 (by decide) (by decide), e 5 (by decide) (by decide), e 6 (by decide) (by decide)]
    exact ⟨T, V.eq e1 e2 e3 e4⟩
theorem fi_I.bd {h : ez_H} {o R : Int} {A B : bl_P} {P : Int → Int → Int → Int → Prop} (I : fi_I h o R A B P) : (0 ≤ h o 1 ∧ h o 1 ≤ 8) ∧ (0 ≤ h o 2 ∧ h o 2 ≤ 400) := by
  rcases I with ⟨a1, a2, -, -⟩ | ⟨-, V⟩
  · omega
  · exact ⟨V.c, V.s⟩
def fi_P (h : ez_H) (k s n : Int) (k' s' i' j' : Int) : Prop := (k' < k ∨ (k' = k ∧ s' < s)) ∨ (k' = k ∧ s' = s ∧ ∃ m : Int, (0 ≤ m ∧ m < n) ∧ h 97 m = i' ∧ h 98 m = j')
theorem fi_P_suc {h : ez_H} {k s n k' s' i' j' : Int} (n0 : 0 ≤ n) : fi_P h k s (n + 1) k' s' i' j' ↔ fi_P h k s n k' s' i' j' ∨ (k' = k ∧ s' = s ∧ i' = h 97 n ∧ j' = h 98 n) := by
  constructor
  · rintro (q | ⟨q1, q2, m, m0, m1, m2⟩)
    · exact Or.inl (Or.inl q)
    · by_cases e : m = n
      · rw [e] at m1 m2
        exact Or.inr ⟨q1, q2, m1.symm, m2.symm⟩
      · exact Or.inl (Or.inr ⟨q1, q2, m, by omega, m1, m2⟩)
  · rintro ((q | ⟨q1, q2, m, m0, m1, m2⟩) | ⟨q1, q2, q3, q4⟩)
    · exact Or.inl q
    · exact Or.inr ⟨q1, q2, m, by omega, m1, m2⟩
    · exact Or.inr ⟨q1, q2, n, by omega, q3.symm, q4.symm⟩
theorem fi_P_ks {h : ez_H} {k s n k' s' i' j' : Int} (hp : fi_P h k s n k' s' i' j') : k' < k ∨ (k' = k ∧ s' ≤ s) := by
  rcases hp with q | ⟨q1, q2, -⟩ <;> omega
theorem fi_I.old {h h0 : ez_H} {o R : Int} {A B : bl_P} {k s n : Int} (I : fi_I h o R A B (fi_P h0 k s n)) (L : ft_L h0 A B k s) (hk : 0 ≤ k ∧ k < 4) (hs : 1 ≤ s ∧ s < 4) (hR : 0 ≤ R) (hn : 0 ≤ n ∧ n < h0 93 8) (hw : bl_v R A B k s (h0 95 n) (h0 96 n) ≤ 1000 * h o 1 - h o 2) : fi_I h o R A B (fi_P h0 k s (n + 1)) := by
  have e := L.e n hn.1 hn.2
  have ok : bl_ok A B k s (h0 97 n) (h0 98 n) := ⟨hk, hs, e.1, e.2.1⟩
  have pos := bl_w_pos hR ok
  have wv : bl_w R A B k s (h0 97 n) (h0 98 n) = bl_v R A B k s (h0 95 n) (h0 96 n) := by
    unfold bl_w
    rw [e.2.2.1, e.2.2.2]
  rcases I with ⟨a1, a2, -, -⟩ | ⟨T, V⟩
  · omega
  · right
    have vv := V.v
    have hn' : ¬ bl_new R A B k s (h0 97 n) (h0 98 n) (bl_v R A B (h o 3) (h o 4) (h o 5) (h o 6)) (h o 3) (h o 4) (h o 5) (h o 6) := by
      unfold bl_new
      rintro (z | ⟨z1, z2, z3, z4⟩)
      · omega
      · obtain ⟨⟨i, j, a1, a2, a3, a4⟩, -⟩ := T
        rcases a2 with q | ⟨-, -, m, m0, m1, m2⟩
        · omega
        · have em := L.e m (by omega) (by omega)
          have so := L.s m n (by omega) (by omega) hn.2
          rw [← z2, ← z3, ← m1, ← m2] at a3 a4
          omega
    have q := bl_top_old ok (fun k' s' i' j' _ => fi_P_suc hn.1) (fun k' s' i' j' _ hp => fi_P_ks hp) (Or.inr ⟨T, rfl⟩) hn' (by omega)
    exact ⟨q.1, V⟩
theorem fi_I.new {h h' h0 : ez_H} {o R : Int} {A B : bl_P} {k s n : Int} (I : fi_I h o R A B (fi_P h0 k s n)) (L : ft_L h0 A B k s) (hk : 0 ≤ k ∧ k < 4) (hs : 1 ≤ s ∧ s < 4) (hR : 0 ≤ R) (hn : 0 ≤ n ∧ n < h0 93 8) (hw : 1000 * h o 1 - h o 2 < bl_v R A B k s (h0 95 n) (h0 96 n)) (e3 : h' o 3 = k) (e4 : h' o 4 = s) (e5 : h' o 5 = h0 95 n) (e6 : h' o 6 = h0 96 n) (V : fi_V h' o R A B k s (h0 95 n) (h0 96 n)) : fi_I h' o R A B (fi_P h0 k s (n + 1)) := by
  have e := L.e n hn.1 hn.2
  have ok : bl_ok A B k s (h0 97 n) (h0 98 n) := ⟨hk, hs, e.1, e.2.1⟩
  have pos := bl_w_pos hR ok
  have wv : bl_w R A B k s (h0 97 n) (h0 98 n) = bl_v R A B k s (h0 95 n) (h0 96 n) := by
    unfold bl_w
    rw [e.2.2.1, e.2.2.2]
  right
  rw [e3, e4, e5, e6]
  refine ⟨?_, V⟩
  rw [e.2.2.1, e.2.2.2]
  rcases I with ⟨a1, a2, -, a4⟩ | ⟨T, V0⟩
  · exact bl_top_new ok (fun k' s' i' j' _ => fi_P_suc hn.1) (fun k' s' i' j' _ hp => fi_P_ks hp) (best := -1) (k0 := 0) (s0 := 0) (x0 := 0) (y0 := 0) (Or.inl ⟨rfl, a4⟩) (Or.inl (by omega)) (by omega)
  · have vv := V0.v
    exact bl_top_new ok (fun k' s' i' j' _ => fi_P_suc hn.1) (fun k' s' i' j' _ hp => fi_P_ks hp) (Or.inr ⟨T, rfl⟩) (Or.inl (by omega)) (by omega)
theorem pm_row {g : Int → Int → Int} {R : Int} {nA N : Nat} {pr : Int → Int} (hA : nA ≤ 8) (hN : N ≤ 8) (gr : pm_gr g R nA pr N N 0) (hn : ∀ j : Int, N ≤ j → j < 8 → pr j = -1) : (∀ j : Int, 0 ≤ j → j < 8 → pr j = -1 ∨ (0 ≤ pr j ∧ pr j < nA)) ∧ ∀ j j' : Int, 0 ≤ j → j < j' → j' < 8 → pr j ≠ -1 → pr j ≠ pr j' := by
  have ok := (pm_gr_cost hA (by omega) N 0 (by omega) gr).1
  refine ⟨fun j j0 j1 => ?_, fun j j' j0 jj j1 hne => ?_⟩
  · by_cases q : j < N
    · rcases pm_ok_in N 0 ok j (by omega) q with z | ⟨i, i0, i1, -⟩
      · exact Or.inl z
      · exact Or.inr (by omega)
    · exact Or.inl (hn j (by omega) j1)
  · by_cases q : j' < N
    · exact pm_ok_inj N 0 ok j j' (by omega) jj q hne
    · rw [hn j' (by omega) j1]
      exact hne
/-- what tryShifts leaves alone -/
def ts_fr (h h' : ez_H) (o : Int) : Prop := ∀ o' x : Int, ¬ (o' = o ∧ 1 ≤ x ∧ x ≤ 6) → o' ≠ o + 1 → o' ≠ o + 2 → ¬ (o' = 93 ∧ (x = 10 ∨ x = 11)) → (o' < 99 ∨ 109 < o') → h' o' x = h o' x
theorem ft_L.mono {h : ez_H} {A B : bl_P} {k s : Int} (L : ft_L h A B k s) {n n' : Int} (n0 : 0 ≤ n) (nn : n ≤ n') (n1 : n' < h 93 8) : h 95 n ≤ h 95 n' := by
  by_cases e : n = n'
  · rw [e]
    exact Int.le_refl _
  · have := L.s n n' n0 (by omega) n1
    omega

theorem lp_t1 {A B : bl_P} {k s R n0 o : Int} {h : ez_H} (L : ft_L h A B k s) (hR : h 93 9 = R ∧ 0 ≤ R ∧ R ≤ 50) (hn : 0 ≤ n0 ∧ n0 < h 93 8) {Q : ez_H → Option ez_V → Prop} (kx : ∀ f : Int, (0 ≤ f ∧ f ≤ n0) → (∀ m : Int, 0 ≤ m → m < f → h 95 m < h 95 n0 - R) → ez_En M_X0_tryShifts 50 [ez_R 93, ez_I (A.1 : Nat), ez_I (B.1 : Nat), ez_I k, ez_I s, ez_R o, ez_I f, ez_I n0] [] h Q) : ∀ (n : Nat) (f : Int), (0 ≤ f ∧ f ≤ n0) → (∀ m : Int, 0 ≤ m → m < f → h 95 m < h 95 n0 - R) → n0 - f < n → ez_En M_X0_tryShifts 15 [ez_R 93, ez_I (A.1 : Nat), ez_I (B.1 : Nat), ez_I k, ez_I s, ez_R o, ez_I f, ez_I n0] [] h Q := by
  intro n
  induction n with
  | zero =>
    intro f f0 hw hm
    exfalso
    omega
  | succ n ih =>
    intro f f0 hw hm
    have lt := L.t
    have nb := L.b n0 hn.1 hn.2
    refine ez_iload dX0_tryShifts_15 rfl ?_
    refine ez_iload dX0_tryShifts_17 rfl ?_
    refine ez_ic_ge 50 dX0_tryShifts_19 (by decide) (fun c_19 => ?_) (fun c_19 => ?_)
    · exact kx f f0 hw
    · have fb := L.b f (by omega) (by omega)
      refine ez_aload_n dX0_tryShifts_22 rfl ?_
      refine g0_1 dX0_tryShifts_23 fl_X0_15 ?_
      refine ez_iload dX0_tryShifts_26 rfl ?_
      refine al95 dX0_tryShifts_28 (by omega) ?_
      refine ez_aload_n dX0_tryShifts_29 rfl ?_
      refine g0_1 dX0_tryShifts_30 fl_X0_15 ?_
      refine ez_iload dX0_tryShifts_33 rfl ?_
      refine al95 dX0_tryShifts_35 (by omega) ?_
      refine ez_aload_n dX0_tryShifts_36 rfl ?_
      refine g0_9 dX0_tryShifts_37 fl_X0_46 ?_
      refine ez_isub dX0_tryShifts_40 (by omega) ?_
      refine ez_ic_ge 50 dX0_tryShifts_41 (by decide) (fun c_41 => ?_) (fun c_41 => ?_)
      · exact kx f f0 hw
      · refine ez_iinc dX0_tryShifts_44 rfl (by decide) (by decide) (by omega) ?_
        refine ez_goto 15 dX0_tryShifts_47 (by decide) ?_
        exact ih (f + 1) (by omega) (fun m m0 m1 => by
          by_cases e : m = f
          · rw [e]
            omega
          · exact hw m m0 (by omega)) (by omega)
theorem lp_t2 {A B : bl_P} {k s R o : Int} {h : ez_H} (L : ft_L h A B k s) (hA : A.1 ≤ 8) (hB : B.1 ≤ 8) (hk : 0 ≤ k ∧ k < 4) (hs : 1 ≤ s ∧ s < 4) (ho : ez_isL o) (hb : 18 ≤ o ∧ o ≤ 90) (hR : h 93 9 = R ∧ 0 ≤ R ∧ R ≤ 50) : ∀ (n : Nat) (n0 : Int) (f : Int) (h' : ez_H), ((0 ≤ f ∧ f ≤ n0) ∧ n0 ≤ h 93 8) → (∀ m n : Int, 0 ≤ m → m < f → n0 ≤ n → n < h 93 8 → h 95 m < h 95 n - R) → (fi_I h' o R A B (fi_P h k s n0)) → (ts_fr h h' o) → h 93 8 - n0 < n → ez_En M_X0_tryShifts 6 [ez_R 93, ez_I (A.1 : Nat), ez_I (B.1 : Nat), ez_I k, ez_I s, ez_R o, ez_I f, ez_I n0] [] h' (ez_PV (fun h' => fi_I h' o R A B (fi_P h k s (h 93 8)) ∧ ts_fr h h' o)) := by
  intro n
  induction n with
  | zero =>
    intro n0 f h' n1 hw I fr hm
    exfalso
    omega
  | succ n ih =>
    intro n0 f h' n1 hw I fr hm
    have lt := L.t
    have fp : ∀ o' x : Int, 93 ≤ o' → o' < 99 → x ≠ 10 → x ≠ 11 → h' o' x = h o' x := fun o' x a b c d => fr o' x (by omega) (by omega) (by omega) (by omega) (by omega)
    have e8 : h' 93 8 = h 93 8 := fp 93 8 (by decide) (by decide) (by decide) (by decide)
    refine ez_iload dX0_tryShifts_6 rfl ?_
    refine ez_aload_n dX0_tryShifts_8 rfl ?_
    refine g0_8 dX0_tryShifts_9 fl_X0_69 ?_
    refine ez_ic_ge 158 dX0_tryShifts_12 (by decide) (fun c_12 => ?_) (fun c_12 => ?_)
    · refine ez_vreturn (st := []) dX0_tryShifts_158 rfl ?_
      refine ez_PV.in ⟨?_, fr⟩
      rw [show h 93 8 = n0 by omega]
      exact I
    · have hn' : 0 ≤ n0 ∧ n0 < h 93 8 := by omega
      have e9 : h' 93 9 = R := (fp 93 9 (by decide) (by decide) (by decide) (by decide)).trans hR.1
      have q5 : ∀ x : Int, h' 95 x = h 95 x := fun x => fr 95 x (by omega) (by omega) (by omega) (by omega) (by omega)
      have q6 : ∀ x : Int, h' 96 x = h 96 x := fun x => fr 96 x (by omega) (by omega) (by omega) (by omega) (by omega)
      have q7 : ∀ x : Int, h' 97 x = h 97 x := fun x => fr 97 x (by omega) (by omega) (by omega) (by omega) (by omega)
      have q8 : ∀ x : Int, h' 98 x = h 98 x := fun x => fr 98 x (by omega) (by omega) (by omega) (by omega) (by omega)
      have L' : ft_L h' A B k s := L.eq e8 (fun o' x o1 o2 => by
        rcases (show o' = 95 ∨ o' = 96 ∨ o' = 97 ∨ o' = 98 by omega) with e | e | e | e <;> rw [e]
        · exact q5 x
        · exact q6 x
        · exact q7 x
        · exact q8 x)
      have le := L.e n0 hn'.1 hn'.2
      refine lp_t1 (o := o) L' ⟨e9, hR.2⟩ (by omega) (fun f2 f20 hw2 => ?_) (n0 + 1).toNat f (by omega) (fun m m0 m1 => by rw [q5, q5]; exact hw m n0 m0 m1 (Int.le_refl _) hn'.2) (by omega)
      clear hw
      refine ez_aload_n dX0_tryShifts_50 rfl ?_
      refine ez_iload dX0_tryShifts_51 rfl ?_
      refine ez_iload dX0_tryShifts_53 rfl ?_
      refine cl_X0_gauge dX0_tryShifts_55 ml_X0_96 ft_X0_tryShifts__X0_gauge (Nat.le_of_ble_eq_true rfl) (c_X0_gauge L' hB ⟨e9, hR.2⟩ (by omega) f20 hw2) (ez_kV (fun h2 ⟨g1, g2, g3, g4⟩ => ?_))
      rw [q5 n0, q6 n0] at g2
      have I2 : fi_I h2 o R A B (fi_P h k s n0) := I.eq (fun x _ _ => g1 o x (by omega) (by omega)) (fun x => g1 _ x (by omega) (by omega)) (fun x => g1 _ x (by omega) (by omega))
      have i2 := I2.bd
      have fr2 : ts_fr h h2 o := fun o' x a b c d e => (g1 o' x (by omega) d).trans (fr o' x a b c d e)
      refine ez_aload dX0_tryShifts_58 rfl ?_
      refine ez_aload_n dX0_tryShifts_60 rfl ?_
      refine g0_10 dX0_tryShifts_61 fl_X0_100 ?_
      refine ez_aload_n dX0_tryShifts_64 rfl ?_
      refine g0_11 dX0_tryShifts_65 fl_X0_103 ?_
      refine cl_X1_isBehind (by first | assumption | exact ez_isL.mk (by omega)) dX0_tryShifts_68 ml_X0_106 ft_X0_tryShifts__X1_isBehind (Nat.le_of_ble_eq_true rfl) (c_X1_isBehind ho) (ez_kB (fun b_68 => ?_) (fun b_68 => ?_))
      · have e92 : h2 93 9 = R := (g1 93 9 (by decide) (by omega)).trans e9
        have e82 : h2 93 8 = h 93 8 := (g1 93 8 (by decide) (by omega)).trans e8
        have L2 : ft_L h2 A B k s := L'.eq (g1 93 8 (by decide) (by omega)) (fun o' x o1 o2 => g1 o' x (by omega) (by omega))
        have hw3 : ∀ m : Int, 0 ≤ m → m < f2 → h2 95 m < h2 95 n0 - R := fun m a b => by rw [g1 95 m (by decide) (by omega), g1 95 n0 (by decide) (by omega)]; exact hw2 m a b
        refine ez_if_eq 152 dX0_tryShifts_71 (by decide) (fun c_71 => ?_) (fun c_71 => ?_)
        · exact absurd c_71 (by decide)
        · refine ez_aload_n dX0_tryShifts_74 rfl ?_
          refine ez_iload dX0_tryShifts_75 rfl ?_
          refine ez_iload dX0_tryShifts_77 rfl ?_
          refine cl_X0_measure dX0_tryShifts_79 ml_X0_110 ft_X0_tryShifts__X0_measure (Nat.le_of_ble_eq_true rfl) (c_X0_measure L2 hA hB ⟨e92, hR.2⟩ (by omega) f20 hw3) (ez_kV (fun h3 ⟨m0, m1, m2⟩ => ?_))
          have w5 : ∀ x : Int, h2 95 x = h 95 x := fun x => (g1 95 x (by decide) (by omega)).trans (q5 x)
          have w6 : ∀ x : Int, h2 96 x = h 96 x := fun x => (g1 96 x (by decide) (by omega)).trans (q6 x)
          rw [w5 n0, w6 n0] at m2
          have e93 : h3 93 9 = R := (m0 93 9 (by decide)).trans e92
          refine ez_aload_n dX0_tryShifts_82 rfl ?_
          refine g0_7 dX0_tryShifts_83 fl_X0_37 ?_
          refine ez_aload_n dX0_tryShifts_86 rfl ?_
          refine g0_5 dX0_tryShifts_87 fl_X0_28 ?_
          refine ez_iload_n dX0_tryShifts_90 rfl ?_
          refine ez_iload_n dX0_tryShifts_91 rfl ?_
          refine ez_aload_n dX0_tryShifts_92 rfl ?_
          refine g0_9 dX0_tryShifts_93 fl_X0_46 ?_
          rw [e93]
          refine cl_X2_match dX0_tryShifts_96 ml_X0_113 ft_X0_tryShifts__X2_match (Nat.le_of_ble_eq_true rfl) (c_X2_match (N := B.1) (M := A.1) (by omega) (by omega) hR.2 m1) (ez_kV (fun h4 ⟨Z, z1⟩ => ?_))
          have f4 : ∀ o' x : Int, o' < 99 ∨ 109 < o' → h4 o' x = h2 o' x := fun o' x a => (z1 o' x (by omega)).trans (m0 o' x (by omega))
          have I4 : fi_I h4 o R A B (fi_P h k s n0) := I2.eq (fun x _ _ => f4 o x (by omega)) (fun x => f4 _ x (by omega)) (fun x => f4 _ x (by omega))
          have i4 := I4.bd
          have fr4 : ts_fr h h4 o := fun o' x a b c d e => (f4 o' x e).trans (fr2 o' x a b c d e)
          have gr4 := pm_gr_near m2 B.1 (by omega) 0 Z.gr
          have v4 : 1000 * h4 101 0 - h4 101 1 = bl_v R A B k s (h 95 n0) (h 96 n0) := Z.v.trans (pm_val_near m2 B.1 (by omega) 0)
          have zs := Z.s
          have zc := Z.c
          refine ez_aload dX0_tryShifts_99 rfl ?_
          refine ez_aload_n dX0_tryShifts_101 rfl ?_
          refine g0_7 dX0_tryShifts_102 fl_X0_37 ?_
          refine g2_0 dX0_tryShifts_105 fl_X0_117 ?_
          refine ez_aload_n dX0_tryShifts_108 rfl ?_
          refine g0_7 dX0_tryShifts_109 fl_X0_37 ?_
          refine g2_1 dX0_tryShifts_112 fl_X0_118 ?_
          refine cl_X1_isBehind (by first | assumption | exact ez_isL.mk (by omega)) dX0_tryShifts_115 ml_X0_106 ft_X0_tryShifts__X1_isBehind (Nat.le_of_ble_eq_true rfl) (c_X1_isBehind ho) (ez_kB (fun b_115 => ?_) (fun b_115 => ?_))
          · refine ez_if_eq 152 dX0_tryShifts_118 (by decide) (fun c_118 => ?_) (fun c_118 => ?_)
            · exact absurd c_118 (by decide)
            · refine ez_aload dX0_tryShifts_121 rfl ?_
              refine ez_iload_n dX0_tryShifts_123 rfl ?_
              refine ez_iload dX0_tryShifts_124 rfl ?_
              refine ez_aload_n dX0_tryShifts_126 rfl ?_
              refine g0_1 dX0_tryShifts_127 fl_X0_15 ?_
              refine ez_iload dX0_tryShifts_130 rfl ?_
              refine al95 dX0_tryShifts_132 (by omega) ?_
              refine ez_aload_n dX0_tryShifts_133 rfl ?_
              refine g0_2 dX0_tryShifts_134 fl_X0_19 ?_
              refine ez_iload dX0_tryShifts_137 rfl ?_
              refine al96 dX0_tryShifts_139 (by omega) ?_
              refine cl_X1_put (by first | assumption | exact ez_isL.mk (by omega)) dX0_tryShifts_140 ml_X0_121 ft_X0_tryShifts__X1_put (Nat.le_of_ble_eq_true rfl) (c_X1_put ho) (ez_kV (fun h5 ⟨p3, p4, p5, p6, pf⟩ => ?_))
              have p102 : h5 102 = h4 102 := funext fun x => pf 102 x (by omega)
              have rw2 := pm_row hA hB gr4 Z.n
              refine ez_aload dX0_tryShifts_143 rfl ?_
              refine ez_aload_n dX0_tryShifts_145 rfl ?_
              refine g0_7 dX0_tryShifts_146 fl_X0_37 ?_
              refine cl_X1_takePairs (by first | assumption | exact ez_isL.mk (by omega)) dX0_tryShifts_149 ml_X0_125 ft_X0_tryShifts__X1_takePairs (Nat.le_of_ble_eq_true rfl) (c_X1_takePairs ho (by omega) (by rw [p102]; exact fun j j0 j1 => (rw2.1 j j0 j1).imp id (fun z => ⟨z.1, by omega⟩)) (by rw [p102]; exact rw2.2)) (ez_kV (fun h6 ⟨t1, t2, t3, tf⟩ => ?_))
              rw [pf 101 0 (by omega)] at t1
              rw [pf 101 1 (by omega)] at t2
              rw [p102] at t3
              have el : ∀ j : Int, 0 ≤ j → j < 8 → h6 (o + 1) j = h4 102 j := t3.1
              have n1 : fi_I h6 o R A B (fi_P h k s (n0 + 1)) := by
                refine I4.new L hk hs hR.2.1 hn' (by omega) ?_ ?_ ?_ ?_ ⟨by rw [t1, t2]; exact v4, ?_, fun j j0 j1 => ?_, ?_, by rw [t2]; exact zs, by rw [t1]; exact zc⟩
                · rw [tf o 3 (by omega) (by omega) (by omega)]
                  exact p3
                · rw [tf o 4 (by omega) (by omega) (by omega)]
                  exact p4
                · rw [tf o 5 (by omega) (by omega) (by omega), p5]
                  exact (f4 95 n0 (by omega)).trans ((g1 95 n0 (by decide) (by omega)).trans (q5 n0))
                · rw [tf o 6 (by omega) (by omega) (by omega), p6]
                  exact (f4 96 n0 (by omega)).trans ((g1 96 n0 (by decide) (by omega)).trans (q6 n0))
                · exact pm_gr_cong' B.1 0 (fun j j0 j1 => (el j (by omega) (by omega)).symm) gr4
                · rw [el j (by omega) j1]
                  exact Z.n j j0 j1
                · refine ⟨fun j j0 j1 => rfl, fun j j0 j1 j2 => ?_, fun i i0 i1 i2 => t3.2.2 i i0 i1 (fun j j0 j1 => by rw [← el j j0 j1]; exact i2 j j0 j1)⟩
                  rw [el j j0 j1] at j2 ⊢
                  exact t3.2.1 j j0 j1 j2
              have f1 : ts_fr h h6 o := fun o' x a b c d e => (tf o' x (by omega) b c).trans ((pf o' x (by omega)).trans (fr4 o' x a b c d e))
              refine ez_iinc dX0_tryShifts_152 rfl (by decide) (by decide) (by omega) ?_
              refine ez_goto 6 dX0_tryShifts_155 (by decide) ?_
              exact ih (n0 + 1) f2 _ (by omega) (fun m n a b c d => by
                have := hw2 m a b
                rw [q5, q5] at this
                have := L.mono (n := n0) (n' := n) (by omega) (by omega) d
                omega) n1 f1 (by omega)
          · have n1 := I4.old L hk hs hR.2.1 hn' (by omega)
            have f1 := fr4
            refine ez_if_eq 152 dX0_tryShifts_118 (by decide) (fun c_118 => ?_) (fun c_118 => ?_)
            · refine ez_iinc dX0_tryShifts_152 rfl (by decide) (by decide) (by omega) ?_
              refine ez_goto 6 dX0_tryShifts_155 (by decide) ?_
              exact ih (n0 + 1) f2 _ (by omega) (fun m n a b c d => by
                have := hw2 m a b
                rw [q5, q5] at this
                have := L.mono (n := n0) (n' := n) (by omega) (by omega) d
                omega) n1 f1 (by omega)
            · exact absurd c_118 (by decide)
      · have n1 := I2.old L hk hs hR.2.1 hn' (by omega)
        have f1 := fr2
        refine ez_if_eq 152 dX0_tryShifts_71 (by decide) (fun c_71 => ?_) (fun c_71 => ?_)
        · refine ez_iinc dX0_tryShifts_152 rfl (by decide) (by decide) (by omega) ?_
          refine ez_goto 6 dX0_tryShifts_155 (by decide) ?_
          exact ih (n0 + 1) f2 _ (by omega) (fun m n a b c d => by
            have := hw2 m a b
            rw [q5, q5] at this
            have := L.mono (n := n0) (n' := n) (by omega) (by omega) d
            omega) n1 f1 (by omega)
        · exact absurd c_71 (by decide)
theorem c_X0_tryShifts {A B : bl_P} {k s R o : Int} {h : ez_H} (L : ft_L h A B k s) (hA : A.1 ≤ 8) (hB : B.1 ≤ 8) (hk : 0 ≤ k ∧ k < 4) (hs : 1 ≤ s ∧ s < 4) (ho : ez_isL o) (hb : 18 ≤ o ∧ o ≤ 90) (hR : h 93 9 = R ∧ 0 ≤ R ∧ R ≤ 50) (I : fi_I h o R A B (fi_P h k s 0)) : ez_Ct M_X0_tryShifts [ez_R 93, ez_I (A.1 : Nat), ez_I (B.1 : Nat), ez_I k, ez_I s, ez_R o] h ((ez_PV (fun h' => fi_I h' o R A B (fi_P h k s (h 93 8)) ∧ ts_fr h h' o))) := by
  refine ez_of (by decide) (Nat.le_of_ble_eq_true rfl) (L0 := [ez_R 93, ez_I (A.1 : Nat), ez_I (B.1 : Nat), ez_I k, ez_I s, ez_R o, ez_N, ez_N]) rfl ?_
  refine ez_iconst dX0_tryShifts_0 (by decide) ?_
  refine ez_istore dX0_tryShifts_1 (by decide) ?_
  refine ez_iconst dX0_tryShifts_3 (by decide) ?_
  refine ez_istore dX0_tryShifts_4 (by decide) ?_
  have lt := L.t
  exact lp_t2 L hA hB hk hs ho hb hR (h 93 8 + 1).toNat 0 0 h (by omega) (fun m n a b => by omega) I (fun _ _ _ _ _ _ _ => rfl) (by omega)
