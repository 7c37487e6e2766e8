/-! the class's state. 0: tracksFresh 4, plateCount 5, frame 6, reachNow 7; a Plate: year 0, count 1; a Lay: fresh 0, count 1, sum 2, turn 3, stretch 4, shift 5, 6 -/
def cd_S (h : ez_H) : sp_S := sp_mk (h 0 5) (h 0 7) (fun p => h (2 + 3 * p) 0) (fun p => h (2 + 3 * p) 1) (fun p i => h (2 + 3 * p + 1) i) (fun p i => h (2 + 3 * p + 2) i)
theorem cd_S_yr {h : ez_H} {p : Int} (p0 : 0 ≤ p) (p1 : p < h 0 5) : (cd_S h).2.2.1 p = h (2 + 3 * p) 0 := if_pos ⟨p0, p1⟩
theorem cd_S_pl {h : ez_H} {p : Int} (p0 : 0 ≤ p) (p1 : p < h 0 5) : (cd_S h).2.2.2 p = ((h (2 + 3 * p) 1).toNat, (fun i => if 0 ≤ i ∧ i < h (2 + 3 * p) 1 then h (2 + 3 * p + 1) i else 0), fun i => if 0 ≤ i ∧ i < h (2 + 3 * p) 1 then h (2 + 3 * p + 2) i else 0) := if_pos ⟨p0, p1⟩
theorem cd_S_eq {h : ez_H} {p : Int} (p0 : 0 ≤ p) (p1 : p < h 0 5) (W : cd_W h (2 + 3 * p)) : bl_eq (cd_P h (2 + 3 * p)) ((cd_S h).2.2.2 p) := by
  rw [cd_S_pl p0 p1]
  refine ⟨rfl, fun i i0 i1 => ?_⟩
  have := (cd_P_n W).1
  dsimp only
  rw [if_pos (by omega), if_pos (by omega)]
  exact ⟨rfl, rfl⟩
def cd_B (h : ez_H) : Prop := (0 ≤ h 0 5 ∧ h 0 5 ≤ 5) ∧ (0 ≤ h 0 7 ∧ h 0 7 ≤ 50) ∧ (∀ p : Int, 0 ≤ p → p < h 0 5 → cd_W h (2 + 3 * p) ∧ (0 ≤ h (2 + 3 * p) 0 ∧ h (2 + 3 * p) 0 ≤ 999)) ∧ (∀ p q : Int, 0 ≤ p → p < h 0 5 → 0 ≤ q → q < h 0 5 → h (2 + 3 * p) 0 = h (2 + 3 * q) 0 → p = q) ∧ (∀ p : Int, h 0 5 ≤ p → p < 5 → h (2 + 3 * p) 1 = 0) ∧ (h 0 6 = sp_f (cd_S h))
theorem cd_B.n {h : ez_H} (x_ : cd_B h) : 0 ≤ h 0 5 ∧ h 0 5 ≤ 5 := x_.1
theorem cd_B.r {h : ez_H} (x_ : cd_B h) : 0 ≤ h 0 7 ∧ h 0 7 ≤ 50 := x_.2.1
theorem cd_B.w {h : ez_H} (x_ : cd_B h) : ∀ p : Int, 0 ≤ p → p < h 0 5 → cd_W h (2 + 3 * p) ∧ (0 ≤ h (2 + 3 * p) 0 ∧ h (2 + 3 * p) 0 ≤ 999) := x_.2.2.1
theorem cd_B.y {h : ez_H} (x_ : cd_B h) : ∀ p q : Int, 0 ≤ p → p < h 0 5 → 0 ≤ q → q < h 0 5 → h (2 + 3 * p) 0 = h (2 + 3 * q) 0 → p = q := x_.2.2.2.1
theorem cd_B.e {h : ez_H} (x_ : cd_B h) : ∀ p : Int, h 0 5 ≤ p → p < 5 → h (2 + 3 * p) 1 = 0 := x_.2.2.2.2.1
theorem cd_B.f {h : ez_H} (x_ : cd_B h) : h 0 6 = sp_f (cd_S h) := x_.2.2.2.2.2
theorem cd_S_keep {h h' : ez_H} (hn : h 0 5 ≤ 5) (e : ∀ o k : Int, ¬ (o = 0 ∧ k = 4) → o < 17 → h' o k = h o k) : cd_S h' = cd_S h := by
  unfold cd_S
  rw [e 0 5 (by omega) (by omega), e 0 7 (by omega) (by omega)]
  exact sp_mk_eq (fun p p0 p1 => ⟨e _ _ (by omega) (by omega), e _ _ (by omega) (by omega)⟩) (fun p i p0 p1 i0 i1 => ⟨e _ _ (by omega) (by omega), e _ _ (by omega) (by omega)⟩)
theorem cd_B.eq {h h' : ez_H} (b : cd_B h) (e : ∀ o k : Int, ¬ (o = 0 ∧ k = 4) → o < 17 → h' o k = h o k) : cd_B h' := by
  have e5 := e 0 5 (by omega) (by omega)
  have n := b.n
  refine ⟨by rw [e5]; exact n, by rw [e 0 7 (by omega) (by omega)]; exact b.r, fun p p0 p1 => ?_, fun p q p0 p1 q0 q1 hy => ?_, fun p p0 p1 => ?_, ?_⟩
  · rw [e5] at p1
    rw [e (2 + 3 * p) 0 (by omega) (by omega)]
    exact ⟨((b.w p p0 p1).1.eq (fun o' k a c => e o' k (by omega) c)).1, (b.w p p0 p1).2⟩
  · rw [e5] at p1 q1
    rw [e (2 + 3 * p) 0 (by omega) (by omega), e (2 + 3 * q) 0 (by omega) (by omega)] at hy
    exact b.y p q p0 p1 q0 q1 hy
  · rw [e5] at p0
    rw [e (2 + 3 * p) 1 (by omega) (by omega)]
    exact b.e p p0 p1
  · rw [e 0 6 (by omega) (by omega), cd_S_keep n.2 e]
    exact b.f
theorem cd_B.fr {h : ez_H} (b : cd_B h) : (h 0 5 = 0 ∧ h 0 6 = -1) ∨ (h 0 5 ≠ 0 ∧ (0 ≤ h 0 6 ∧ h 0 6 < h 0 5)) := by
  have n := b.n
  have r := sp_fr_rng (cd_S h).2.2.1 (cd_S h).1.toNat
  have e : h 0 6 = sp_fr (cd_S h).2.2.1 (cd_S h).1.toNat := b.f
  rw [← e] at r
  have e2 : (cd_S h).1.toNat = (h 0 5).toNat := rfl
  by_cases q : h 0 5 = 0
  · exact Or.inl ⟨q, r.1 (by omega)⟩
  · have := r.2 (by omega)
    exact Or.inr ⟨q, by omega⟩
/-! the tracks: of a track i, the plates 0 .. p - 1 are told. startX 111, startY 112, spots 113, years 114, movedX 115, movedY 116, spotOn 117, xOn 118, yOn 119, sinceStart 120 -/
def tk_1 (h : ez_H) (S : sp_S) (p : Nat) (i : Int) : Prop := (h 113 i = (sp_mv S i p).2 + (if sp_f S < p then 0 else 1)) ∧ (h 114 i = S.2.2.1 (sp_mv S i p).1 - S.2.2.1 (sp_f S)) ∧ (h 115 i = sp_on S (sp_mv S i p).1 (sp_so S i (sp_mv S i p).1) 0 - (S.2.2.2 (sp_f S)).2.1 i) ∧ (h 116 i = sp_on S (sp_mv S i p).1 (sp_so S i (sp_mv S i p).1) 1 - (S.2.2.2 (sp_f S)).2.2 i) ∧ (h 111 i = (S.2.2.2 (sp_f S)).2.1 i) ∧ (h 112 i = (S.2.2.2 (sp_f S)).2.2 i) ∧ (∀ q : Int, 0 ≤ q → q < p ∨ q = sp_f S → h 117 (q * 8 + i) = sp_so S i q ∧ (sp_so S i q ≠ -1 → (h 118 (q * 8 + i) = sp_on S q (sp_so S i q) 0 ∧ h 119 (q * 8 + i) = sp_on S q (sp_so S i q) 1) ∧ (-7000 ≤ h 118 (q * 8 + i) ∧ h 118 (q * 8 + i) ≤ 7000) ∧ (-7000 ≤ h 119 (q * 8 + i) ∧ h 119 (q * 8 + i) ≤ 7000))) ∧ (∀ q : Int, p ≤ q → q < 5 → q ≠ sp_f S → h 117 (q * 8 + i) = -1) ∧ ((-8000 ≤ h 115 i ∧ h 115 i ≤ 8000) ∧ (-8000 ≤ h 116 i ∧ h 116 i ≤ 8000) ∧ (0 ≤ h 114 i ∧ h 114 i ≤ 999) ∧ (0 ≤ h 111 i ∧ h 111 i ≤ 999) ∧ (0 ≤ h 112 i ∧ h 112 i ≤ 999) ∧ (0 ≤ h 113 i ∧ h 113 i ≤ p + 1))
theorem tk_1.sp {h : ez_H} {S : sp_S} {p : Nat} {i : Int} (x_ : tk_1 h S p i) : h 113 i = (sp_mv S i p).2 + (if sp_f S < p then 0 else 1) := x_.1
theorem tk_1.ys {h : ez_H} {S : sp_S} {p : Nat} {i : Int} (x_ : tk_1 h S p i) : h 114 i = S.2.2.1 (sp_mv S i p).1 - S.2.2.1 (sp_f S) := x_.2.1
theorem tk_1.wx {h : ez_H} {S : sp_S} {p : Nat} {i : Int} (x_ : tk_1 h S p i) : h 115 i = sp_on S (sp_mv S i p).1 (sp_so S i (sp_mv S i p).1) 0 - (S.2.2.2 (sp_f S)).2.1 i := x_.2.2.1
theorem tk_1.wy {h : ez_H} {S : sp_S} {p : Nat} {i : Int} (x_ : tk_1 h S p i) : h 116 i = sp_on S (sp_mv S i p).1 (sp_so S i (sp_mv S i p).1) 1 - (S.2.2.2 (sp_f S)).2.2 i := x_.2.2.2.1
theorem tk_1.sx {h : ez_H} {S : sp_S} {p : Nat} {i : Int} (x_ : tk_1 h S p i) : h 111 i = (S.2.2.2 (sp_f S)).2.1 i := x_.2.2.2.2.1
theorem tk_1.sy {h : ez_H} {S : sp_S} {p : Nat} {i : Int} (x_ : tk_1 h S p i) : h 112 i = (S.2.2.2 (sp_f S)).2.2 i := x_.2.2.2.2.2.1
theorem tk_1.on {h : ez_H} {S : sp_S} {p : Nat} {i : Int} (x_ : tk_1 h S p i) : ∀ q : Int, 0 ≤ q → q < p ∨ q = sp_f S → h 117 (q * 8 + i) = sp_so S i q ∧ (sp_so S i q ≠ -1 → (h 118 (q * 8 + i) = sp_on S q (sp_so S i q) 0 ∧ h 119 (q * 8 + i) = sp_on S q (sp_so S i q) 1) ∧ (-7000 ≤ h 118 (q * 8 + i) ∧ h 118 (q * 8 + i) ≤ 7000) ∧ (-7000 ≤ h 119 (q * 8 + i) ∧ h 119 (q * 8 + i) ≤ 7000)) := x_.2.2.2.2.2.2.1
theorem tk_1.no {h : ez_H} {S : sp_S} {p : Nat} {i : Int} (x_ : tk_1 h S p i) : ∀ q : Int, p ≤ q → q < 5 → q ≠ sp_f S → h 117 (q * 8 + i) = -1 := x_.2.2.2.2.2.2.2.1
theorem tk_1.rg {h : ez_H} {S : sp_S} {p : Nat} {i : Int} (x_ : tk_1 h S p i) : (-8000 ≤ h 115 i ∧ h 115 i ≤ 8000) ∧ (-8000 ≤ h 116 i ∧ h 116 i ≤ 8000) ∧ (0 ≤ h 114 i ∧ h 114 i ≤ 999) ∧ (0 ≤ h 111 i ∧ h 111 i ≤ 999) ∧ (0 ≤ h 112 i ∧ h 112 i ≤ 999) ∧ (0 ≤ h 113 i ∧ h 113 i ≤ p + 1) := x_.2.2.2.2.2.2.2.2
noncomputable def tk_ms (S : sp_S) (p : Nat) (i : Int) : Int := p - (sp_mv S i p).2
def tk_A (h : ez_H) (S : sp_S) : Prop := (h 110 0 = sp_tr S) ∧ (h 110 1 = sm_ (tk_ms S S.1.toNat) (sp_tr S).toNat) ∧ (h 110 2 = S.2.2.1 (sp_f S)) ∧ (∀ i : Int, 0 ≤ i → i < sp_tr S → tk_1 h S S.1.toNat i) ∧ (∀ q : Int, 0 ≤ q → q < S.1 → h 120 q = S.2.2.1 q - S.2.2.1 (sp_f S))
theorem tk_A.c {h : ez_H} {S : sp_S} (x_ : tk_A h S) : h 110 0 = sp_tr S := x_.1
theorem tk_A.m {h : ez_H} {S : sp_S} (x_ : tk_A h S) : h 110 1 = sm_ (tk_ms S S.1.toNat) (sp_tr S).toNat := x_.2.1
theorem tk_A.y {h : ez_H} {S : sp_S} (x_ : tk_A h S) : h 110 2 = S.2.2.1 (sp_f S) := x_.2.2.1
theorem tk_A.i {h : ez_H} {S : sp_S} (x_ : tk_A h S) : ∀ i : Int, 0 ≤ i → i < sp_tr S → tk_1 h S S.1.toNat i := x_.2.2.2.1
theorem tk_A.s {h : ez_H} {S : sp_S} (x_ : tk_A h S) : ∀ q : Int, 0 ≤ q → q < S.1 → h 120 q = S.2.2.1 q - S.2.2.1 (sp_f S) := x_.2.2.2.2
theorem tk_1.eq {h h' : ez_H} {S : sp_S} {p : Nat} {i : Int} (t : tk_1 h S p i) (e : ∀ o k : Int, 111 ≤ o → o ≤ 119 → h' o k = h o k) : tk_1 h' S p i := by
  have f (o : Int) (a : 111 ≤ o) (b : o ≤ 119) : h' o = h o := funext fun k => e o k a b
  unfold tk_1 at t ⊢
  rw [f 111 (by omega) (by omega), f 112 (by omega) (by omega), f 113 (by omega) (by omega), f 114 (by omega) (by omega), f 115 (by omega) (by omega), f 116 (by omega) (by omega), f 117 (by omega) (by omega), f 118 (by omega) (by omega), f 119 (by omega) (by omega)]
  exact t
theorem tk_A.eq {h h' : ez_H} {S : sp_S} (t : tk_A h S) (e : ∀ o k : Int, 110 ≤ o → o ≤ 120 → h' o k = h o k) : tk_A h' S :=
  ⟨(e 110 0 (by omega) (by omega)).trans t.c, (e 110 1 (by omega) (by omega)).trans t.m, (e 110 2 (by omega) (by omega)).trans t.y, fun i i0 i1 => (t.i i i0 i1).eq (fun o k a b => e o k (by omega) (by omega)), fun q q0 q1 => (e 120 q (by omega) (by omega)).trans (t.s q q0 q1)⟩
def cd_V (h : ez_H) : Prop := (cd_B h) ∧ (∀ a b : Int, 0 ≤ a → a < h 0 5 → 0 ≤ b → b < h 0 5 → h (18 + 3 * (a * 5 + b)) 0 ≠ 0 → fi_I h (18 + 3 * (a * 5 + b)) (h 0 7) (cd_P h (2 + 3 * a)) (cd_P h (2 + 3 * b)) (fun _ _ _ _ => True)) ∧ (∀ a b : Int, 0 ≤ a → a < 5 → 0 ≤ b → b < 5 → (h 0 5 ≤ a ∨ h 0 5 ≤ b) → h (18 + 3 * (a * 5 + b)) 0 = 0) ∧ (h 0 4 ≠ 0 → h 0 5 ≠ 0 → tk_A h (cd_S h)) ∧ (h 0 5 = 0 → h 110 0 = 0 ∧ h 110 1 = 0)
theorem cd_V.b {h : ez_H} (x_ : cd_V h) : cd_B h := x_.1
theorem cd_V.l {h : ez_H} (x_ : cd_V h) : ∀ a b : Int, 0 ≤ a → a < h 0 5 → 0 ≤ b → b < h 0 5 → h (18 + 3 * (a * 5 + b)) 0 ≠ 0 → fi_I h (18 + 3 * (a * 5 + b)) (h 0 7) (cd_P h (2 + 3 * a)) (cd_P h (2 + 3 * b)) (fun _ _ _ _ => True) := x_.2.1
theorem cd_V.z {h : ez_H} (x_ : cd_V h) : ∀ a b : Int, 0 ≤ a → a < 5 → 0 ≤ b → b < 5 → (h 0 5 ≤ a ∨ h 0 5 ≤ b) → h (18 + 3 * (a * 5 + b)) 0 = 0 := x_.2.2.1
theorem cd_V.t {h : ez_H} (x_ : cd_V h) : h 0 4 ≠ 0 → h 0 5 ≠ 0 → tk_A h (cd_S h) := x_.2.2.2.1
theorem cd_V.u {h : ez_H} (x_ : cd_V h) : h 0 5 = 0 → h 110 0 = 0 ∧ h 110 1 = 0 := x_.2.2.2.2
/-- the lay of a, b is found -/
theorem cd_V.lay {h h' : ez_H} {a b : Int} (v : cd_V h) (ha : 0 ≤ a ∧ a < h 0 5) (hb : 0 ≤ b ∧ b < h 0 5) (f : ∀ o' x : Int, o' ≠ 18 + 3 * (a * 5 + b) → o' ≠ 18 + 3 * (a * 5 + b) + 1 → o' ≠ 18 + 3 * (a * 5 + b) + 2 → (o' < 93 ∨ 109 < o') → h' o' x = h o' x)
    (I : fi_I h' (18 + 3 * (a * 5 + b)) (h 0 7) (cd_P h (2 + 3 * a)) (cd_P h (2 + 3 * b)) (fun _ _ _ _ => True)) : cd_V h' := by
  have n := v.b.n
  have e : ∀ o k : Int, ¬ (o = 0 ∧ k = 4) → o < 17 → h' o k = h o k := fun o k _ c => f o k (by omega) (by omega) (by omega) (by omega)
  have e5 := e 0 5 (by omega) (by omega)
  have e7 := e 0 7 (by omega) (by omega)
  have e4 : h' 0 4 = h 0 4 := f 0 4 (by omega) (by omega) (by omega) (by omega)
  refine ⟨v.b.eq e, fun a' b' a0 a1 b0 b1 hf => ?_, fun a' b' a0 a1 b0 b1 hc => ?_, fun q q2 => ?_, fun q => by rw [f 110 0 (by omega) (by omega) (by omega) (by omega), f 110 1 (by omega) (by omega) (by omega) (by omega)]; exact v.u (by omega)⟩
  · rw [e5] at a1 b1
    have pa := ((v.b.w a' a0 a1).1.eq (fun o' k x c => e o' k (by omega) c)).2
    have pb := ((v.b.w b' b0 b1).1.eq (fun o' k x c => e o' k (by omega) c)).2
    rw [pa, pb, e7]
    by_cases q : a' = a ∧ b' = b
    · rw [q.1, q.2]
      exact I
    · rw [f _ 0 (by omega) (by omega) (by omega) (by omega)] at hf
      exact (v.l a' b' a0 a1 b0 b1 hf).eq (fun x _ _ => f _ x (by omega) (by omega) (by omega) (by omega)) (fun x => f _ x (by omega) (by omega) (by omega) (by omega)) (fun x => f _ x (by omega) (by omega) (by omega) (by omega))
  · rw [e5] at hc
    rw [f _ 0 (by omega) (by omega) (by omega) (by omega)]
    exact v.z a' b' a0 a1 b0 b1 hc
  · rw [e4] at q
    rw [e5] at q2
    rw [cd_S_keep n.2 e]
    exact (v.t q q2).eq (fun o k c d => f o k (by omega) (by omega) (by omega) (by omega))
theorem sp_find_none {pr : Int → Int} {i : Int} : ∀ n : Nat, sp_find pr i n = -1 → ∀ j : Int, 0 ≤ j → j < n → pr j ≠ i
  | 0, _, j, j0, j1 => by omega
  | n + 1, hf, j, j0, j1 => by
    unfold sp_find at hf
    by_cases q : sp_find pr i n = -1
    · rw [if_neg (fun z => z q)] at hf
      by_cases e : j = n
      · rw [e]
        intro c
        rw [if_pos c] at hf
        omega
      · exact sp_find_none n q j j0 (by omega)
    · rw [if_pos q] at hf
      exact absurd hf q
/-- what the class knows of a pair of plates is what the state says -/
theorem cd_V.F {h : ez_H} {a b : Int} (v : cd_V h) (ha : 0 ≤ a ∧ a < h 0 5) (hb : 0 ≤ b ∧ b < h 0 5) (hf : h (18 + 3 * (a * 5 + b)) 0 ≠ 0) :
    (¬ sp_has (cd_S h) a b ∧ h (18 + 3 * (a * 5 + b)) 1 = 0 ∧ ∀ j : Int, 0 ≤ j → j < 8 → h (18 + 3 * (a * 5 + b) + 1) j = -1 ∧ h (18 + 3 * (a * 5 + b) + 2) j = -1) ∨
    (sp_has (cd_S h) a b ∧ h (18 + 3 * (a * 5 + b)) 1 ≠ 0 ∧ (∀ what : Int, 0 ≤ what → what ≤ 5 → h (18 + 3 * (a * 5 + b)) (what + 1) = sp_lay (cd_S h) a b what) ∧ (∀ j : Int, 0 ≤ j → j < h (2 + 3 * b) 1 → h (18 + 3 * (a * 5 + b) + 1) j = sp_pr (cd_S h) a b j) ∧
      (∀ i : Int, 0 ≤ i → i < 8 → h (18 + 3 * (a * 5 + b) + 2) i = sp_find (sp_pr (cd_S h) a b) i ((cd_S h).2.2.2 b).1) ∧ bl_F (h 0 7) ((cd_S h).2.2.2 a) ((cd_S h).2.2.2 b) = (h (18 + 3 * (a * 5 + b)) 3, h (18 + 3 * (a * 5 + b)) 4, h (18 + 3 * (a * 5 + b)) 5, h (18 + 3 * (a * 5 + b)) 6) ∧
      (0 ≤ h (18 + 3 * (a * 5 + b)) 4 ∧ h (18 + 3 * (a * 5 + b)) 4 ≤ 3) ∧ (-4000 ≤ h (18 + 3 * (a * 5 + b)) 5 ∧ h (18 + 3 * (a * 5 + b)) 5 ≤ 4000) ∧ (-4000 ≤ h (18 + 3 * (a * 5 + b)) 6 ∧ h (18 + 3 * (a * 5 + b)) 6 ≤ 4000)) := by
  have wa := (v.b.w a ha.1 ha.2).1
  have wb := (v.b.w b hb.1 hb.2).1
  have eA := cd_S_eq ha.1 ha.2 wa
  have eB := cd_S_eq hb.1 hb.2 wb
  have nA := cd_P_n wa
  have nB := cd_P_n wb
  have I := v.l a b ha.1 ha.2 hb.1 hb.2 hf
  obtain ⟨o, ho⟩ : ∃ o : Int, o = 18 + 3 * (a * 5 + b) := ⟨_, rfl⟩
  rw [← ho] at I ⊢
  rcases I with ⟨a1, a2, a3, a4⟩ | ⟨T, V⟩
  · refine Or.inl ⟨fun z => ?_, a1, a3⟩
    unfold sp_has at z
    rw [← eA.1, ← eB.1] at z
    exact a4 0 1 0 0 ⟨by omega, by omega, by omega, by omega⟩ trivial
  · have hF : bl_F (h 0 7) ((cd_S h).2.2.2 a) ((cd_S h).2.2.2 b) = (h o 3, h o 4, h o 5, h o 6) := bl_F_eq (bl_B_eq eA eB T)
    have hR : (cd_S h).2.1 = h 0 7 := rfl
    have hW : bl_W (h 0 7) ((cd_S h).2.2.2 a) ((cd_S h).2.2.2 b) = bl_v (h 0 7) (cd_P h (2 + 3 * a)) (cd_P h (2 + 3 * b)) (h o 3) (h o 4) (h o 5) (h o 6) := by
      unfold bl_W
      rw [hF]
      exact (bl_v_eq eA eB _ _ _ _).symm
    obtain ⟨⟨i, j, ok, -, ex, ey⟩, -⟩ := T
    have pos := bl_w_pos v.b.r.1 ok
    have wv : bl_w (h 0 7) (cd_P h (2 + 3 * a)) (cd_P h (2 + 3 * b)) (h o 3) (h o 4) i j = bl_v (h 0 7) (cd_P h (2 + 3 * a)) (cd_P h (2 + 3 * b)) (h o 3) (h o 4) (h o 5) (h o 6) := by
      unfold bl_w
      rw [ex, ey]
    have vv := V.v
    have vs := V.s
    have o2 := ok.2.1
    have o3 := ok.2.2.1
    have o4 := ok.2.2.2
    have bd := bl_s_bd (k := h o 3) (s := h o 4) (i := i) (j := j) wa wb (by omega) (by omega) (by omega)
    rw [← ex, ← ey] at bd
    have hpr : ∀ j : Int, 0 ≤ j → j < h (2 + 3 * b) 1 → h (o + 1) j = sp_pr (cd_S h) a b j := fun j j0 j1 => by
      have g2 := bl_pr_gr (h 0 7) ((cd_S h).2.2.2 a) ((cd_S h).2.2.2 b)
      rw [hF] at g2
      have g1 := pm_gr_gcong (bl_g_eq eA eB (h o 3) (h o 4) (h o 5) (h o 6)) (cd_P h (2 + 3 * b)).1 (by omega) 0 V.gr
      rw [eA.1, eB.1] at g1
      exact pm_gr_uniq _ _ g1 g2 j (by omega) (by have := eB.1; omega)
    refine Or.inr ⟨fun z => ?_, by omega, fun what w0 w1 => ?_, hpr, fun i i0 i1 => ?_, hF, by omega, by omega, by omega⟩
    · rw [← eA.1, ← eB.1] at z
      omega
    · unfold sp_lay
      rw [hR, hW, hF]
      rcases (show what = 0 ∨ what = 1 ∨ what = 2 ∨ what = 3 ∨ what = 4 ∨ what = 5 by omega) with rfl | rfl | rfl | rfl | rfl | rfl
      · rw [if_pos rfl]
        show h o 1 = _
        omega
      · rw [if_neg (by decide), if_pos rfl]
        show h o 2 = _
        omega
      · rw [if_neg (by decide), if_neg (by decide), if_pos rfl]
        rfl
      · rw [if_neg (by decide), if_neg (by decide), if_neg (by decide), if_pos rfl]
        rfl
      · rw [if_neg (by decide), if_neg (by decide), if_neg (by decide), if_neg (by decide), if_pos rfl]
        rfl
      · rw [if_neg (by decide), if_neg (by decide), if_neg (by decide), if_neg (by decide), if_neg (by decide)]
        rfl
    · have nb1 : (((cd_S h).2.2.2 b).1 : Int) = h (2 + 3 * b) 1 := by rw [← eB.1]; exact nB.1
      rw [← sp_find_cong (pr := h (o + 1)) ((cd_S h).2.2.2 b).1 (fun j j0 j1 => hpr j j0 (by omega))]
      rcases sp_find_rng (pr := h (o + 1)) (i := i) ((cd_S h).2.2.2 b).1 with q | ⟨q1, q2, q3⟩
      · rw [q]
        refine V.t.2.2 i i0 i1 (fun j j0 j1 => ?_)
        by_cases e : j < h (2 + 3 * b) 1
        · exact sp_find_none _ q j j0 (by omega)
        · rw [V.n j (by omega) j1]
          omega
      · have := V.t.2.1 _ q1 (by omega) (by rw [q3]; omega)
        rw [q3] at this
        exact this
/-- what a question of the class may change -/
def cd_fr (h h' : ez_H) : Prop := ∀ o k : Int, ¬ (o = 0 ∧ k = 4) → (o < 17 ∨ 120 < o) → h' o k = h o k
theorem cd_fr.rf (h : ez_H) : cd_fr h h := fun _ _ _ _ => rfl
theorem cd_fr.tr {h h1 h2 : ez_H} (f1 : cd_fr h h1) (f2 : cd_fr h1 h2) : cd_fr h h2 := fun o k a b => (f2 o k a b).trans (f1 o k a b)
theorem cd_fr.S {h h' : ez_H} (f : cd_fr h h') (hn : h 0 5 ≤ 5) : cd_S h' = cd_S h := cd_S_keep hn (fun o k a b => f o k a (Or.inl b))
def cd_g (h h' : ez_H) : Prop := cd_V h' ∧ cd_fr h h'
theorem cd_g.rf {h : ez_H} (v : cd_V h) : cd_g h h := ⟨v, cd_fr.rf h⟩
def cd_Q (h : ez_H) (z0 : Int) : ez_H → Option ez_V → Prop := ez_PI (fun h' z => cd_g h h' ∧ z = z0)
theorem cd_Q.in {h h' : ez_H} {z z0 : Int} (g : cd_g h h') (e : z = z0) : cd_Q h z0 h' (some (ez_I z)) := ⟨z, rfl, g, e⟩
theorem cd_n2 {h : ez_H} {p : Int} (b : cd_B h) (p0 : 0 ≤ p) (p1 : p < h 0 5) : (((cd_S h).2.2.2 p).1 : Int) = h (2 + 3 * p) 1 := by
  rw [← (cd_S_eq p0 p1 (b.w p p0 p1).1).1]
  exact (cd_P_n (b.w p p0 p1).1).1
theorem cd_xy {h : ez_H} {p j : Int} (b : cd_B h) (hp : 0 ≤ p ∧ p < h 0 5) (hj : 0 ≤ j ∧ j < h (2 + 3 * p) 1) : ((cd_S h).2.2.2 p).2.1 j = h (2 + 3 * p + 1) j ∧ ((cd_S h).2.2.2 p).2.2 j = h (2 + 3 * p + 2) j := by
  have := (cd_S_eq hp.1 hp.2 (b.w p hp.1 hp.2).1).2 j hj.1 (by have := (cd_P_n (b.w p hp.1 hp.2).1).1; omega)
  exact ⟨this.1.symm, this.2.symm⟩
theorem cd_tr_eq {h : ez_H} (b : cd_B h) : cd_tr h = sp_tr (cd_S h) ∧ (0 ≤ cd_tr h ∧ cd_tr h ≤ 8) := by
  have e0 : (cd_S h).1 = h 0 5 := rfl
  unfold cd_tr sp_tr
  rcases b.fr with ⟨q1, q2⟩ | ⟨q1, q2⟩
  · rw [if_pos q2, if_pos (by rw [e0]; exact q1)]
    omega
  · rw [if_neg (by omega), if_neg (by rw [e0]; exact q1), ← b.f, cd_n2 b q2.1 q2.2]
    have := (b.w _ q2.1 q2.2).1.n
    exact ⟨rfl, this⟩
/-- the heap behind a lay that was asked for -/
def bf_fr (h h' : ez_H) : Prop := ∀ o k : Int, (o < 18 ∨ 109 < o) → h' o k = h o k
theorem bf_fr.cd {h h' : ez_H} (f : bf_fr h h') : cd_fr h h' := fun o k _ b => f o k (by omega)

theorem c_X5_bestLay {a b : Int} {h : ez_H} (v : cd_V h) (ha : 0 ≤ a ∧ a < h 0 5) (hb : 0 ≤ b ∧ b < h 0 5) : ez_Ct M_X5_bestLay [ez_R 0, ez_I a, ez_I b] h (ez_PR (fun h' z => z = (18 + 3 * (a * 5 + b)) ∧ cd_V h' ∧ bf_fr h h' ∧ h' (18 + 3 * (a * 5 + b)) 0 ≠ 0)) := by
  refine ez_of (by decide) (Nat.le_of_ble_eq_true rfl) (L0 := [ez_R 0, ez_I a, ez_I b, ez_N]) rfl ?_
  have n := v.b.n
  have kL : ez_isL (18 + 3 * (a * 5 + b)) := ez_isL.mk (by omega)
  refine ez_aload_n dX5_bestLay_0 rfl ?_
  refine g5_1 dX5_bestLay_1 fl_X5_18 ?_
  refine ez_iload_n dX5_bestLay_4 rfl ?_
  refine ez_iconst dX5_bestLay_5 (by decide) ?_
  refine ez_imul dX5_bestLay_6 (by omega) ?_
  refine ez_iload_n dX5_bestLay_7 rfl ?_
  refine ez_iadd dX5_bestLay_8 (by omega) ?_
  refine ez_aaloadL dX5_bestLay_9 (by omega) ?_
  refine ez_astore_n dX5_bestLay_10 (by decide) ?_
  refine ez_aload_n dX5_bestLay_11 rfl ?_
  refine g1_0 (by first | assumption | exact ez_isL.mk (by omega)) dX5_bestLay_12 fl_X5_190 ?_
  refine ez_if_ne 47 dX5_bestLay_15 (by decide) (fun c_15 => ?_) (fun c_15 => ?_)
  · refine ez_aload_n dX5_bestLay_47 rfl ?_
    refine ez_areturn (st := []) dX5_bestLay_48 rfl ?_
    first
     | exact ez_PR.in ⟨rfl, v, fun _ _ _ => rfl, by omega⟩
     | exact ez_PR.in ⟨rfl, v.lay ha hb (fun o' x c d e g => (ez_up_ne (by omega)).trans (f2 o' x (by omega) d e (by omega) (by omega))) (f1.eq (fun x _ _ => ez_up_ne (by omega)) (fun x => ez_up_ne (by omega)) (fun x => ez_up_ne (by omega))), fun o' x c => (ez_up_ne (by omega)).trans (f2 o' x (by omega) (by omega) (by omega) (by omega) (by omega)), by rw [ez_up_eq]; decide⟩
  · refine ez_aload_n dX5_bestLay_18 rfl ?_
    refine g5_2 dX5_bestLay_19 fl_X5_26 ?_
    refine ez_aload_n dX5_bestLay_22 rfl ?_
    refine g5_0 dX5_bestLay_23 fl_X5_11 ?_
    refine ez_iload_n dX5_bestLay_26 rfl ?_
    refine ez_aaloadP dX5_bestLay_27 (by omega) ?_
    refine ez_aload_n dX5_bestLay_28 rfl ?_
    refine g5_0 dX5_bestLay_29 fl_X5_11 ?_
    refine ez_iload_n dX5_bestLay_32 rfl ?_
    refine ez_aaloadP dX5_bestLay_33 (by omega) ?_
    refine ez_aload_n dX5_bestLay_34 rfl ?_
    refine g5_7 dX5_bestLay_35 fl_X5_48 ?_
    refine ez_aload_n dX5_bestLay_38 rfl ?_
    refine cl_X0_fit dX5_bestLay_39 ml_X5_193 ft_X5_bestLay__X0_fit (Nat.le_of_ble_eq_true rfl) (c_X0_fit (o := (18 + 3 * (a * 5 + b))) (v.b.w a ha.1 ha.2).1 (v.b.w b hb.1 hb.2).1 kL (by omega) v.b.r) (ez_kV (fun h1 ⟨f1, f2⟩ => ?_))
    refine ez_aload_n dX5_bestLay_42 rfl ?_
    refine ez_iconst dX5_bestLay_43 (by decide) ?_
    refine p1_0 (by first | assumption | exact ez_isL.mk (by omega)) dX5_bestLay_44 fl_X5_190 (by first | exact Or.inl rfl | exact Or.inr rfl | omega) ?_
    refine ez_aload_n dX5_bestLay_47 rfl ?_
    refine ez_areturn (st := []) dX5_bestLay_48 rfl ?_
    first
     | exact ez_PR.in ⟨rfl, v, fun _ _ _ => rfl, by omega⟩
     | exact ez_PR.in ⟨rfl, v.lay ha hb (fun o' x c d e g => (ez_up_ne (by omega)).trans (f2 o' x (by omega) d e (by omega) (by omega))) (f1.eq (fun x _ _ => ez_up_ne (by omega)) (fun x => ez_up_ne (by omega)) (fun x => ez_up_ne (by omega))), fun o' x c => (ez_up_ne (by omega)).trans (f2 o' x (by omega) (by omega) (by omega) (by omega) (by omega)), by rw [ez_up_eq]; decide⟩
