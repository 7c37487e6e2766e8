/-! the class's Tracks -/
def en_E (h h' : ez_H) (i p j x y : Int) : Prop := (h' 117 (p * 8 + i) = j ∧ h' 118 (p * 8 + i) = x ∧ h' 119 (p * 8 + i) = y ∧ h' 113 i = h 113 i + 1) ∧ ((h 114 i < h 120 p ∧ h' 114 i = h 120 p ∧ h' 115 i = x - h 111 i ∧ h' 116 i = y - h 112 i) ∨ (h 120 p ≤ h 114 i ∧ h' 114 i = h 114 i ∧ h' 115 i = h 115 i ∧ h' 116 i = h 116 i)) ∧ ∀ o k : Int, ¬ (117 ≤ o ∧ o ≤ 119 ∧ k = p * 8 + i) → ¬ (113 ≤ o ∧ o ≤ 116 ∧ k = i) → h' o k = h o k
def tr_fr (h h' : ez_H) : Prop := ∀ o k : Int, (o < 110 ∨ 120 < o) → h' o k = h o k
theorem sp_mv_s (S : sp_S) (i : Int) (p : Nat) : sp_mv S i (p + 1) = if sp_so S i p = -1 then sp_mv S i p else ((if S.2.2.1 (sp_mv S i p).1 < S.2.2.1 p then (p : Int) else (sp_mv S i p).1), (sp_mv S i p).2 + 1) := rfl
theorem tk_1.at {h h' : ez_H} {S : sp_S} {p : Nat} {i : Int} (t : tk_1 h S p i) (hp : p ≤ 5) (hf : sp_f S < 5) (e1 : ∀ o : Int, 111 ≤ o → o ≤ 116 → h' o i = h o i) (e2 : ∀ o q : Int, 117 ≤ o → o ≤ 119 → 0 ≤ q → q < 5 → h' o (q * 8 + i) = h o (q * 8 + i)) (hz : 0 ≤ p) : tk_1 h' S p i := by
  have a1 := e1 111 (by omega) (by omega)
  have a2 := e1 112 (by omega) (by omega)
  have a3 := e1 113 (by omega) (by omega)
  have a4 := e1 114 (by omega) (by omega)
  have a5 := e1 115 (by omega) (by omega)
  have a6 := e1 116 (by omega) (by omega)
  refine ⟨a3.trans t.sp, a4.trans t.ys, a5.trans t.wx, a6.trans t.wy, a1.trans t.sx, a2.trans t.sy, fun q q0 q1 => ?_, fun q q0 q1 q2 => ?_, ?_⟩
  · rw [e2 117 q (by omega) (by omega) q0 (by omega), e2 118 q (by omega) (by omega) q0 (by omega), e2 119 q (by omega) (by omega) q0 (by omega)]
    exact t.on q q0 q1
  · rw [e2 117 q (by omega) (by omega) (by omega) q1]
    exact t.no q q0 q1 q2
  · rw [a1, a2, a3, a4, a5, a6]
    exact t.rg
theorem tk_1.miss {h : ez_H} {S : sp_S} {p : Nat} {i : Int} (t : tk_1 h S p i) (hp : p < 5) (hf : (p : Int) ≠ sp_f S) (hs : sp_so S i p = -1) : tk_1 h S (p + 1) i := by
  have e : sp_mv S i (p + 1) = sp_mv S i p := by rw [sp_mv_s, if_pos hs]
  have rg := t.rg
  refine ⟨?_, by rw [e]; exact t.ys, by rw [e]; exact t.wx, by rw [e]; exact t.wy, t.sx, t.sy, fun q q0 q1 => ?_, fun q q0 q1 q2 => t.no q (by omega) q1 q2, by omega⟩
  · rw [e, t.sp]
    by_cases c : sp_f S < p
    · rw [if_pos c, if_pos (by omega)]
    · rw [if_neg c, if_neg (by omega)]
  · by_cases c : q = p
    · rw [c, hs]
      exact ⟨t.no p (by omega) (by omega) hf, fun z => absurd rfl z⟩
    · exact t.on q q0 (by omega)
theorem tk_1.self {h : ez_H} {S : sp_S} {p : Nat} {i : Int} (t : tk_1 h S p i) (hS : 0 ≤ sp_f S ∧ sp_f S < S.1) (hn : S.1 ≤ 5) (hi : 0 ≤ i) (hf : (p : Int) = sp_f S) : tk_1 h S (p + 1) i ∧ (sp_mv S i (p + 1)).2 = (sp_mv S i p).2 + 1 := by
  have so : sp_so S i p = i := by
    unfold sp_so
    rw [if_pos hf]
  have mr := (sp_mv_rng (i := i) hS p (by omega)).2.2
  have ge : ¬ S.2.2.1 (sp_mv S i p).1 < S.2.2.1 p := by
    rw [hf]
    rcases mr with q | q
    · rw [q]
      omega
    · omega
  have e : sp_mv S i (p + 1) = ((sp_mv S i p).1, (sp_mv S i p).2 + 1) := by rw [sp_mv_s, if_neg (by omega), if_neg ge]
  have rg := t.rg
  refine ⟨⟨?_, by rw [e]; exact t.ys, by rw [e]; exact t.wx, by rw [e]; exact t.wy, t.sx, t.sy, fun q q0 q1 => ?_, fun q q0 q1 q2 => t.no q (by omega) q1 q2, by omega⟩, by rw [e]⟩
  · rw [e, t.sp, if_neg (by omega), if_pos (by omega)]
    show _ = (sp_mv S i p).2 + 1 + 0
    omega
  · exact t.on q q0 (by omega)
theorem tk_1.hit {h h' : ez_H} {S : sp_S} {p : Nat} {i j x y : Int} (t : tk_1 h S p i) (hS : 0 ≤ sp_f S ∧ sp_f S < S.1) (hn : S.1 ≤ 5) (hp : (p : Int) < S.1) (hi : 0 ≤ i ∧ i < 8) (hf : (p : Int) ≠ sp_f S) (E : en_E h h' i p j x y) (hs : sp_so S i p = j) (hj : j ≠ -1) (hx : x = sp_on S p j 0) (hy : y = sp_on S p j 1) (bx : -7000 ≤ x ∧ x ≤ 7000) (by_ : -7000 ≤ y ∧ y ≤ 7000) (h0 : h 120 p = S.2.2.1 p - S.2.2.1 (sp_f S)) (hr : h 120 p ≤ 999) : tk_1 h' S (p + 1) i ∧ (sp_mv S i (p + 1)).2 = (sp_mv S i p).2 + 1 := by
  obtain ⟨⟨e7, e8, e9, e3⟩, ec, ef⟩ := E
  have rg := t.rg
  have ys := t.ys
  have a1 := ef 111 i (by omega) (by omega)
  have a2 := ef 112 i (by omega) (by omega)
  have mv := sp_mv_s S i p
  rw [if_neg (by rw [hs]; exact hj)] at mv
  have on : ∀ q : Int, 0 ≤ q → q < (p + 1 : Nat) ∨ q = sp_f S → h' 117 (q * 8 + i) = sp_so S i q ∧ (sp_so S i q ≠ -1 → (h' 118 (q * 8 + i) = sp_on S q (sp_so S i q) 0 ∧ h' 119 (q * 8 + i) = sp_on S q (sp_so S i q) 1) ∧ (-7000 ≤ h' 118 (q * 8 + i) ∧ h' 118 (q * 8 + i) ≤ 7000) ∧ (-7000 ≤ h' 119 (q * 8 + i) ∧ h' 119 (q * 8 + i) ≤ 7000)) := fun q q0 q1 => by
    by_cases c : q = p
    · rw [c, e7, e8, e9, hs]
      exact ⟨rfl, fun _ => ⟨⟨hx, hy⟩, bx, by_⟩⟩
    · rw [ef 117 (q * 8 + i) (by omega) (by omega), ef 118 (q * 8 + i) (by omega) (by omega), ef 119 (q * 8 + i) (by omega) (by omega)]
      exact t.on q q0 (by omega)
  have no : ∀ q : Int, (p + 1 : Nat) ≤ q → q < 5 → q ≠ sp_f S → h' 117 (q * 8 + i) = -1 := fun q q0 q1 q2 => by
    rw [ef 117 (q * 8 + i) (by omega) (by omega)]
    exact t.no q (by omega) q1 q2
  have sp : h' 113 i = (sp_mv S i (p + 1)).2 + (if sp_f S < (p + 1 : Nat) then 0 else 1) := by
    rw [e3, mv, t.sp]
    show _ = (sp_mv S i p).2 + 1 + _
    by_cases c : sp_f S < p
    · rw [if_pos c, if_pos (by omega)]
      (try omega)
    · rw [if_neg c, if_neg (by omega)]
      (try omega)
  have r3 : 0 ≤ h' 113 i ∧ h' 113 i ≤ (p + 1 : Nat) + 1 := by omega
  rcases ec with ⟨c0, c1, c2, c3⟩ | ⟨c0, c1, c2, c3⟩
  · rw [if_pos (by omega)] at mv
    refine ⟨⟨sp, ?_, ?_, ?_, a1.trans t.sx, a2.trans t.sy, on, no, ?_⟩, by rw [mv]⟩
    · rw [mv, c1]
      exact h0
    · rw [mv, c2, t.sx, hx]
      show _ = sp_on S p (sp_so S i p) 0 - _
      rw [hs]
    · rw [mv, c3, t.sy, hy]
      show _ = sp_on S p (sp_so S i p) 1 - _
      rw [hs]
    · omega
  · rw [if_neg (by omega)] at mv
    refine ⟨⟨sp, ?_, ?_, ?_, a1.trans t.sx, a2.trans t.sy, on, no, ?_⟩, by rw [mv]⟩
    · rw [mv, c1]
      exact t.ys
    · rw [mv, c2]
      exact t.wx
    · rw [mv, c3]
      exact t.wy
    · omega
/-- the tracks while they are built: the plates 0 .. p - 1 are told -/
def tk_C (h : ez_H) (S : sp_S) (p : Nat) : Prop := (h 110 0 = sp_tr S) ∧ (h 110 1 = sm_ (tk_ms S p) (sp_tr S).toNat) ∧ (h 110 2 = S.2.2.1 (sp_f S)) ∧ (∀ i : Int, 0 ≤ i → i < sp_tr S → tk_1 h S p i) ∧ (∀ q : Int, 0 ≤ q → q < S.1 → q < p ∨ q = sp_f S → h 120 q = S.2.2.1 q - S.2.2.1 (sp_f S))
theorem tk_C.c {h : ez_H} {S : sp_S} {p : Nat} (x_ : tk_C h S p) : h 110 0 = sp_tr S := x_.1
theorem tk_C.m {h : ez_H} {S : sp_S} {p : Nat} (x_ : tk_C h S p) : h 110 1 = sm_ (tk_ms S p) (sp_tr S).toNat := x_.2.1
theorem tk_C.y {h : ez_H} {S : sp_S} {p : Nat} (x_ : tk_C h S p) : h 110 2 = S.2.2.1 (sp_f S) := x_.2.2.1
theorem tk_C.i {h : ez_H} {S : sp_S} {p : Nat} (x_ : tk_C h S p) : ∀ i : Int, 0 ≤ i → i < sp_tr S → tk_1 h S p i := x_.2.2.2.1
theorem tk_C.s {h : ez_H} {S : sp_S} {p : Nat} (x_ : tk_C h S p) : ∀ q : Int, 0 ≤ q → q < S.1 → q < p ∨ q = sp_f S → h 120 q = S.2.2.1 q - S.2.2.1 (sp_f S) := x_.2.2.2.2
theorem tk_C.eq {h h' : ez_H} {S : sp_S} {p : Nat} (t : tk_C h S p) (e : ∀ o k : Int, 110 ≤ o → o ≤ 120 → h' o k = h o k) : tk_C h' S p :=
  ⟨(e 110 0 (by omega) (by omega)).trans t.c, (e 110 1 (by omega) (by omega)).trans t.m, (e 110 2 (by omega) (by omega)).trans t.y, fun i i0 i1 => (t.i i i0 i1).eq (fun o k a b => e o k (by omega) (by omega)), fun q q0 q1 q2 => (e 120 q (by omega) (by omega)).trans (t.s q q0 q1 q2)⟩
theorem tk_C.all {h : ez_H} {S : sp_S} (t : tk_C h S S.1.toNat) : tk_A h S :=
  ⟨t.c, t.m, t.y, t.i, fun q q0 q1 => t.s q q0 q1 (Or.inl (by omega))⟩
theorem tk_C.self {h : ez_H} {S : sp_S} {p : Nat} (t : tk_C h S p) (hS : 0 ≤ sp_f S ∧ sp_f S < S.1) (hn : S.1 ≤ 5) (hf : (p : Int) = sp_f S) : tk_C h S (p + 1) := by
  refine ⟨t.c, ?_, t.y, fun i i0 i1 => ((t.i i i0 i1).self hS hn i0 hf).1, fun q q0 q1 q2 => t.s q q0 q1 (by omega)⟩
  rw [t.m]
  refine sm_cong _ (fun k k0 k1 => ?_)
  have z := ((t.i k k0 (by omega)).self hS hn k0 hf).2
  unfold tk_ms
  rw [z]
  omega
theorem tk_ms_bd {S : sp_S} (hS : 0 ≤ sp_f S ∧ sp_f S < S.1) {p : Nat} (hp : (p : Int) ≤ S.1) (i : Int) : 0 ≤ tk_ms S p i ∧ tk_ms S p i ≤ p := by
  have := (sp_mv_rng (i := i) hS p hp).2.1
  unfold tk_ms
  omega
/-- the spot that the class finds in a track -/
theorem cd_so {h : ez_H} {p i : Int} (v : cd_V h) (hn : h 0 5 ≠ 0) (hp : 0 ≤ p ∧ p < h 0 5) (hne : p ≠ h 0 6) (hf : h (18 + 3 * (h 0 6 * 5 + p)) 0 ≠ 0) (hi : 0 ≤ i ∧ i < 8) : h (18 + 3 * (h 0 6 * 5 + p) + 2) i = sp_so (cd_S h) i p ∧ (sp_so (cd_S h) i p ≠ -1 → (0 ≤ sp_so (cd_S h) i p ∧ sp_so (cd_S h) i p < h (2 + 3 * p) 1) ∧ (0 ≤ h (18 + 3 * (h 0 6 * 5 + p)) 4 ∧ h (18 + 3 * (h 0 6 * 5 + p)) 4 ≤ 3) ∧ (-4000 ≤ h (18 + 3 * (h 0 6 * 5 + p)) 5 ∧ h (18 + 3 * (h 0 6 * 5 + p)) 5 ≤ 4000) ∧ (-4000 ≤ h (18 + 3 * (h 0 6 * 5 + p)) 6 ∧ h (18 + 3 * (h 0 6 * 5 + p)) 6 ≤ 4000) ∧
    ∀ j : Int, 0 ≤ j → j < h (2 + 3 * p) 1 → h (18 + 3 * (h 0 6 * 5 + p)) 4 * fx_tx (h (18 + 3 * (h 0 6 * 5 + p)) 3) (h (2 + 3 * p + 1) j) (h (2 + 3 * p + 2) j) + h (18 + 3 * (h 0 6 * 5 + p)) 5 = sp_on (cd_S h) p j 0 ∧ h (18 + 3 * (h 0 6 * 5 + p)) 4 * fx_ty (h (18 + 3 * (h 0 6 * 5 + p)) 3) (h (2 + 3 * p + 1) j) (h (2 + 3 * p + 2) j) + h (18 + 3 * (h 0 6 * 5 + p)) 6 = sp_on (cd_S h) p j 1) := by
  have fr := v.b.fr
  have ff : 0 ≤ h 0 6 ∧ h 0 6 < h 0 5 := by omega
  have es : sp_so (cd_S h) i p = if ((cd_S h).2.2.2 (h 0 6)).1 = 0 ∨ ((cd_S h).2.2.2 p).1 = 0 then -1 else sp_find (sp_pr (cd_S h) (h 0 6) p) i ((cd_S h).2.2.2 p).1 := by
    unfold sp_so
    rw [← v.b.f, if_neg hne]
  rcases v.F ff hp hf with ⟨q1, q2, q3⟩ | ⟨q1, q2, q3, q4, q5, q6, q7, q8, q9⟩
  · rw [if_pos (Classical.not_not.mp q1)] at es
    rw [es]
    exact ⟨(q3 i hi.1 hi.2).2, fun z => absurd rfl z⟩
  · rw [if_neg q1] at es
    have n2 := cd_n2 v.b hp.1 hp.2
    refine ⟨by rw [es]; exact q5 i hi.1 hi.2, fun z => ⟨?_, q7, q8, q9, fun j j0 j1 => ?_⟩⟩
    · rw [es] at z ⊢
      rcases sp_find_rng (pr := sp_pr (cd_S h) (h 0 6) p) (i := i) ((cd_S h).2.2.2 p).1 with y | y
      · exact absurd y z
      · omega
    · have xy := cd_xy v.b hp ⟨j0, j1⟩
      have hR : (cd_S h).2.1 = h 0 7 := rfl
      unfold sp_on
      refine ⟨?_, ?_⟩ <;> rw [← v.b.f, if_neg hne, hR, q6, xy.1, xy.2] <;> rfl

theorem c_X4_enter {i p j x y : Int} {h : ez_H} (hi : 0 ≤ i ∧ i < 8) (hp : 0 ≤ p ∧ p < 5) (hs : 0 ≤ h 113 i ∧ h 113 i ≤ 100) (hx : (-7000 ≤ x ∧ x ≤ 7000) ∧ (-7000 ≤ y ∧ y ≤ 7000)) (h1 : (0 ≤ h 111 i ∧ h 111 i ≤ 999) ∧ (0 ≤ h 112 i ∧ h 112 i ≤ 999)) : ez_Ct M_X4_enter [ez_R 110, ez_I i, ez_I p, ez_I j, ez_I x, ez_I y] h (ez_PV (fun h' => en_E h h' i p j x y)) := by
  refine ez_of (by decide) (Nat.le_of_ble_eq_true rfl) (L0 := [ez_R 110, ez_I i, ez_I p, ez_I j, ez_I x, ez_I y, ez_N]) rfl ?_
  refine ez_iload_n dX4_enter_0 rfl ?_
  refine ez_bipush dX4_enter_1 (by decide) (by decide) ?_
  refine ez_imul dX4_enter_3 (by omega) ?_
  refine ez_iload_n dX4_enter_4 rfl ?_
  refine ez_iadd dX4_enter_5 (by omega) ?_
  refine ez_istore dX4_enter_6 (by decide) ?_
  have v1 : (ez_up (ez_up (ez_up h 117 (p * 8 + i) j) 118 (p * 8 + i) x) 119 (p * 8 + i) y) 113 i = h 113 i := by rw [ez_up_ne (by omega), ez_up_ne (by omega), ez_up_ne (by omega)]
  have v2 : (ez_up (ez_up (ez_up (ez_up h 117 (p * 8 + i) j) 118 (p * 8 + i) x) 119 (p * 8 + i) y) 113 i (h 113 i + 1)) 120 p = h 120 p := by rw [ez_up_ne (by omega), ez_up_ne (by omega), ez_up_ne (by omega), ez_up_ne (by omega)]
  have v3 : (ez_up (ez_up (ez_up (ez_up h 117 (p * 8 + i) j) 118 (p * 8 + i) x) 119 (p * 8 + i) y) 113 i (h 113 i + 1)) 114 i = h 114 i := by rw [ez_up_ne (by omega), ez_up_ne (by omega), ez_up_ne (by omega), ez_up_ne (by omega)]
  have v4 : (ez_up (ez_up (ez_up (ez_up (ez_up h 117 (p * 8 + i) j) 118 (p * 8 + i) x) 119 (p * 8 + i) y) 113 i (h 113 i + 1)) 114 i (h 120 p)) 111 i = h 111 i := by rw [ez_up_ne (by omega), ez_up_ne (by omega), ez_up_ne (by omega), ez_up_ne (by omega), ez_up_ne (by omega)]
  have v5 : (ez_up (ez_up (ez_up (ez_up (ez_up (ez_up h 117 (p * 8 + i) j) 118 (p * 8 + i) x) 119 (p * 8 + i) y) 113 i (h 113 i + 1)) 114 i (h 120 p)) 115 i (x - h 111 i)) 112 i = h 112 i := by rw [ez_up_ne (by omega), ez_up_ne (by omega), ez_up_ne (by omega), ez_up_ne (by omega), ez_up_ne (by omega), ez_up_ne (by omega)]
  refine ez_aload_n dX4_enter_8 rfl ?_
  refine g4_9 dX4_enter_9 fl_X4_30 ?_
  refine ez_iload dX4_enter_12 rfl ?_
  refine ez_iload_n dX4_enter_14 rfl ?_
  refine as117 dX4_enter_15 (by omega) ?_
  refine ez_aload_n dX4_enter_16 rfl ?_
  refine g4_10 dX4_enter_17 fl_X4_33 ?_
  refine ez_iload dX4_enter_20 rfl ?_
  refine ez_iload dX4_enter_22 rfl ?_
  refine as118 dX4_enter_24 (by omega) ?_
  refine ez_aload_n dX4_enter_25 rfl ?_
  refine g4_11 dX4_enter_26 fl_X4_36 ?_
  refine ez_iload dX4_enter_29 rfl ?_
  refine ez_iload dX4_enter_31 rfl ?_
  refine as119 dX4_enter_33 (by omega) ?_
  refine ez_aload_n dX4_enter_34 rfl ?_
  refine g4_5 dX4_enter_35 fl_X4_18 ?_
  refine ez_iload_n dX4_enter_38 rfl ?_
  refine ez_dup2 dX4_enter_39 rfl rfl ?_
  refine al113 dX4_enter_40 (by omega) ?_
  rw [v1]
  refine ez_iconst dX4_enter_41 (by decide) ?_
  refine ez_iadd dX4_enter_42 (by omega) ?_
  refine as113 dX4_enter_43 (by omega) ?_
  refine ez_aload_n dX4_enter_44 rfl ?_
  refine g4_12 dX4_enter_45 fl_X4_39 ?_
  refine ez_iload_n dX4_enter_48 rfl ?_
  refine al120 dX4_enter_49 (by omega) ?_
  rw [v2]
  refine ez_aload_n dX4_enter_50 rfl ?_
  refine g4_6 dX4_enter_51 fl_X4_21 ?_
  refine ez_iload_n dX4_enter_54 rfl ?_
  refine al114 dX4_enter_55 (by omega) ?_
  rw [v3]
  refine ez_ic_le 101 dX4_enter_56 (by decide) (fun c_56 => ?_) (fun c_56 => ?_)
  · refine ez_vreturn (st := []) dX4_enter_101 rfl ?_
    first
     | refine ez_PV.in ⟨⟨?_, ?_, ?_, ?_⟩, Or.inl ⟨by omega, ?_, ?_, ez_up_eq⟩, fun o' k' a b => ?_⟩ <;> (first | (rw [ez_up_ne (by omega), ez_up_eq]; done) | (rw [ez_up_ne (by omega), ez_up_ne (by omega), ez_up_eq]; done) | (rw [ez_up_ne (by omega), ez_up_ne (by omega), ez_up_ne (by omega), ez_up_eq]; done) | (rw [ez_up_ne (by omega), ez_up_ne (by omega), ez_up_ne (by omega), ez_up_ne (by omega), ez_up_eq]; done) | (rw [ez_up_ne (by omega), ez_up_ne (by omega), ez_up_ne (by omega), ez_up_ne (by omega), ez_up_ne (by omega), ez_up_eq]; done) | (rw [ez_up_ne (by omega), ez_up_ne (by omega), ez_up_ne (by omega), ez_up_ne (by omega), ez_up_ne (by omega), ez_up_ne (by omega), ez_up_eq]; done) | (rw [ez_up_ne (by omega), ez_up_ne (by omega), ez_up_ne (by omega), ez_up_ne (by omega), ez_up_ne (by omega), ez_up_ne (by omega), ez_up_ne (by omega)]; done))
     | refine ez_PV.in ⟨⟨?_, ?_, ?_, ez_up_eq⟩, Or.inr ⟨by omega, ?_, ?_, ?_⟩, fun o' k' a b => ?_⟩ <;> (first | (rw [ez_up_ne (by omega), ez_up_eq]; done) | (rw [ez_up_ne (by omega), ez_up_ne (by omega), ez_up_eq]; done) | (rw [ez_up_ne (by omega), ez_up_ne (by omega), ez_up_ne (by omega), ez_up_eq]; done) | (rw [ez_up_ne (by omega), ez_up_ne (by omega), ez_up_ne (by omega), ez_up_ne (by omega)]; done))
  · refine ez_aload_n dX4_enter_59 rfl ?_
    refine g4_6 dX4_enter_60 fl_X4_21 ?_
    refine ez_iload_n dX4_enter_63 rfl ?_
    refine ez_aload_n dX4_enter_64 rfl ?_
    refine g4_12 dX4_enter_65 fl_X4_39 ?_
    refine ez_iload_n dX4_enter_68 rfl ?_
    refine al120 dX4_enter_69 (by omega) ?_
    rw [v2]
    refine as114 dX4_enter_70 (by omega) ?_
    refine ez_aload_n dX4_enter_71 rfl ?_
    refine g4_7 dX4_enter_72 fl_X4_24 ?_
    refine ez_iload_n dX4_enter_75 rfl ?_
    refine ez_iload dX4_enter_76 rfl ?_
    refine ez_aload_n dX4_enter_78 rfl ?_
    refine g4_3 dX4_enter_79 fl_X4_9 ?_
    refine ez_iload_n dX4_enter_82 rfl ?_
    refine al111 dX4_enter_83 (by omega) ?_
    rw [v4]
    refine ez_isub dX4_enter_84 (by omega) ?_
    refine as115 dX4_enter_85 (by omega) ?_
    refine ez_aload_n dX4_enter_86 rfl ?_
    refine g4_8 dX4_enter_87 fl_X4_27 ?_
    refine ez_iload_n dX4_enter_90 rfl ?_
    refine ez_iload dX4_enter_91 rfl ?_
    refine ez_aload_n dX4_enter_93 rfl ?_
    refine g4_4 dX4_enter_94 fl_X4_15 ?_
    refine ez_iload_n dX4_enter_97 rfl ?_
    refine al112 dX4_enter_98 (by omega) ?_
    rw [v5]
    refine ez_isub dX4_enter_99 (by omega) ?_
    refine as116 dX4_enter_100 (by omega) ?_
    refine ez_vreturn (st := []) dX4_enter_101 rfl ?_
    first
     | refine ez_PV.in ⟨⟨?_, ?_, ?_, ?_⟩, Or.inl ⟨by omega, ?_, ?_, ez_up_eq⟩, fun o' k' a b => ?_⟩ <;> (first | (rw [ez_up_ne (by omega), ez_up_eq]; done) | (rw [ez_up_ne (by omega), ez_up_ne (by omega), ez_up_eq]; done) | (rw [ez_up_ne (by omega), ez_up_ne (by omega), ez_up_ne (by omega), ez_up_eq]; done) | (rw [ez_up_ne (by omega), ez_up_ne (by omega), ez_up_ne (by omega), ez_up_ne (by omega), ez_up_eq]; done) | (rw [ez_up_ne (by omega), ez_up_ne (by omega), ez_up_ne (by omega), ez_up_ne (by omega), ez_up_ne (by omega), ez_up_eq]; done) | (rw [ez_up_ne (by omega), ez_up_ne (by omega), ez_up_ne (by omega), ez_up_ne (by omega), ez_up_ne (by omega), ez_up_ne (by omega), ez_up_eq]; done) | (rw [ez_up_ne (by omega), ez_up_ne (by omega), ez_up_ne (by omega), ez_up_ne (by omega), ez_up_ne (by omega), ez_up_ne (by omega), ez_up_ne (by omega)]; done))
     | refine ez_PV.in ⟨⟨?_, ?_, ?_, ez_up_eq⟩, Or.inr ⟨by omega, ?_, ?_, ?_⟩, fun o' k' a b => ?_⟩ <;> (first | (rw [ez_up_ne (by omega), ez_up_eq]; done) | (rw [ez_up_ne (by omega), ez_up_ne (by omega), ez_up_eq]; done) | (rw [ez_up_ne (by omega), ez_up_ne (by omega), ez_up_ne (by omega), ez_up_eq]; done) | (rw [ez_up_ne (by omega), ez_up_ne (by omega), ez_up_ne (by omega), ez_up_ne (by omega)]; done))
theorem lp_st1 {h : ez_H} (b : cd_B h) (hn : h 0 5 ≠ 0) {Q : ez_H → Option ez_V → Prop} (kx : ∀ h' : ez_H, (h' 110 0 = h (2 + 3 * h 0 6) 1 ∧ h' 110 1 = 0 ∧ h' 110 2 = h (2 + 3 * h 0 6) 0 ∧ h' 120 (h 0 6) = 0) → (∀ i : Int, 0 ≤ i → i < h (2 + 3 * h 0 6) 1 → tk_1 h' (cd_S h) 0 i) → tr_fr h h' → Q h' none) : ∀ (n : Nat) (c : Int) (h' : ez_H), (0 ≤ c ∧ c ≤ h (2 + 3 * h 0 6) 1) → (h' 110 0 = h (2 + 3 * h 0 6) 1 ∧ h' 110 1 = 0 ∧ h' 110 2 = h (2 + 3 * h 0 6) 0 ∧ h' 120 (h 0 6) = 0) → (∀ q i : Int, 0 ≤ q → q < 5 → c ≤ i → i < 8 → h' 117 (q * 8 + i) = -1) → (∀ i : Int, 0 ≤ i → i < c → tk_1 h' (cd_S h) 0 i) → (tr_fr h h') → h (2 + 3 * h 0 6) 1 - c < n → ez_En M_X4_start 38 [ez_R 110, ez_I (h 0 6), ez_R (2 + 3 * h 0 6), ez_I c] [] h' Q := by
  intro n
  induction n with
  | zero =>
    intro c h' c0 e0 no dn fr hm
    exfalso
    omega
  | succ n ih =>
    intro c h' c0 e0 no dn fr hm
    have n := b.n
    have ff := b.fr
    have fb : 0 ≤ h 0 6 ∧ h 0 6 < h 0 5 := by omega
    have w := b.w _ fb.1 fb.2
    have wn := w.1.n
    have x0 : h' (2 + 3 * h 0 6) 1 = h (2 + 3 * h 0 6) 1 := fr _ _ (by omega)
    refine ez_iload_n dX4_start_38 rfl ?_
    refine ez_aload_n dX4_start_39 rfl ?_
    refine g4_0 dX4_start_40 fl_X4_48 ?_
    refine ez_ic_ge 123 dX4_start_43 (by decide) (fun c_43 => ?_) (fun c_43 => ?_)
    · refine ez_vreturn (st := []) dX4_start_123 rfl ?_
      exact kx h' e0 (fun i i0 i1 => dn i i0 (by omega)) fr
    · have x1 : h' ((2 + 3 * h 0 6) + 1) c = h ((2 + 3 * h 0 6) + 1) c := fr _ _ (by omega)
      have x2 : h' ((2 + 3 * h 0 6) + 2) c = h ((2 + 3 * h 0 6) + 2) c := fr _ _ (by omega)
      have wx := w.1.x c (by omega) (by omega)
      have y2 : ez_up h' 111 c (h' ((2 + 3 * h 0 6) + 1) c) ((2 + 3 * h 0 6) + 2) c = h' ((2 + 3 * h 0 6) + 2) c := ez_up_ne (by omega)
      have y3 : (ez_up (ez_up (ez_up (ez_up (ez_up (ez_up h' 111 c (h' ((2 + 3 * h 0 6) + 1) c)) 112 c (h' ((2 + 3 * h 0 6) + 2) c)) 113 c 0) 114 c 0) 115 c 0) 116 c 0) ((2 + 3 * h 0 6) + 1) c = h' ((2 + 3 * h 0 6) + 1) c := by rw [ez_up_ne (by omega), ez_up_ne (by omega), ez_up_ne (by omega), ez_up_ne (by omega), ez_up_ne (by omega), ez_up_ne (by omega)]
      have y4 : (ez_up (ez_up (ez_up (ez_up (ez_up (ez_up h' 111 c (h' ((2 + 3 * h 0 6) + 1) c)) 112 c (h' ((2 + 3 * h 0 6) + 2) c)) 113 c 0) 114 c 0) 115 c 0) 116 c 0) ((2 + 3 * h 0 6) + 2) c = h' ((2 + 3 * h 0 6) + 2) c := by rw [ez_up_ne (by omega), ez_up_ne (by omega), ez_up_ne (by omega), ez_up_ne (by omega), ez_up_ne (by omega), ez_up_ne (by omega)]
      have y5 : (ez_up (ez_up (ez_up (ez_up (ez_up (ez_up h' 111 c (h' ((2 + 3 * h 0 6) + 1) c)) 112 c (h' ((2 + 3 * h 0 6) + 2) c)) 113 c 0) 114 c 0) 115 c 0) 116 c 0) 113 c = 0 := by rw [ez_up_ne (by omega), ez_up_ne (by omega), ez_up_ne (by omega), ez_up_eq]
      have y6 : (ez_up (ez_up (ez_up (ez_up (ez_up (ez_up h' 111 c (h' ((2 + 3 * h 0 6) + 1) c)) 112 c (h' ((2 + 3 * h 0 6) + 2) c)) 113 c 0) 114 c 0) 115 c 0) 116 c 0) 111 c = h' ((2 + 3 * h 0 6) + 1) c := by rw [ez_up_ne (by omega), ez_up_ne (by omega), ez_up_ne (by omega), ez_up_ne (by omega), ez_up_ne (by omega), ez_up_eq]
      have y7 : (ez_up (ez_up (ez_up (ez_up (ez_up (ez_up h' 111 c (h' ((2 + 3 * h 0 6) + 1) c)) 112 c (h' ((2 + 3 * h 0 6) + 2) c)) 113 c 0) 114 c 0) 115 c 0) 116 c 0) 112 c = h' ((2 + 3 * h 0 6) + 2) c := by rw [ez_up_ne (by omega), ez_up_ne (by omega), ez_up_ne (by omega), ez_up_ne (by omega), ez_up_eq]
      have y8 : (ez_up (ez_up (ez_up (ez_up (ez_up (ez_up h' 111 c (h' ((2 + 3 * h 0 6) + 1) c)) 112 c (h' ((2 + 3 * h 0 6) + 2) c)) 113 c 0) 114 c 0) 115 c 0) 116 c 0) 114 c = 0 := by rw [ez_up_ne (by omega), ez_up_ne (by omega), ez_up_eq]
      have y9 : (ez_up (ez_up (ez_up (ez_up (ez_up (ez_up h' 111 c (h' ((2 + 3 * h 0 6) + 1) c)) 112 c (h' ((2 + 3 * h 0 6) + 2) c)) 113 c 0) 114 c 0) 115 c 0) 116 c 0) 115 c = 0 := by rw [ez_up_ne (by omega), ez_up_eq]
      have y0 : (ez_up (ez_up (ez_up (ez_up (ez_up (ez_up h' 111 c (h' ((2 + 3 * h 0 6) + 1) c)) 112 c (h' ((2 + 3 * h 0 6) + 2) c)) 113 c 0) 114 c 0) 115 c 0) 116 c 0) 116 c = 0 := ez_up_eq
      have ya : (ez_up (ez_up (ez_up (ez_up (ez_up (ez_up h' 111 c (h' ((2 + 3 * h 0 6) + 1) c)) 112 c (h' ((2 + 3 * h 0 6) + 2) c)) 113 c 0) 114 c 0) 115 c 0) 116 c 0) 120 (h 0 6) = 0 := by rw [ez_up_ne (by omega), ez_up_ne (by omega), ez_up_ne (by omega), ez_up_ne (by omega), ez_up_ne (by omega), ez_up_ne (by omega)]; exact e0.2.2.2
      refine ez_aload_n dX4_start_46 rfl ?_
      refine g4_3 dX4_start_47 fl_X4_9 ?_
      refine ez_iload_n dX4_start_50 rfl ?_
      refine ez_aload_n dX4_start_51 rfl ?_
      refine g3_2 (by first | assumption | exact ez_isP.mk (by omega)) dX4_start_52 fl_X4_64 ?_
      refine ez_iload_n dX4_start_55 rfl ?_
      refine alP1 (by first | assumption | exact ez_isP.mk (by omega)) dX4_start_56 (by omega) ?_
      refine as111 dX4_start_57 (by omega) ?_
      refine ez_aload_n dX4_start_58 rfl ?_
      refine g4_4 dX4_start_59 fl_X4_15 ?_
      refine ez_iload_n dX4_start_62 rfl ?_
      refine ez_aload_n dX4_start_63 rfl ?_
      refine g3_3 (by first | assumption | exact ez_isP.mk (by omega)) dX4_start_64 fl_X4_67 ?_
      refine ez_iload_n dX4_start_67 rfl ?_
      refine alP2 (by first | assumption | exact ez_isP.mk (by omega)) dX4_start_68 (by omega) ?_
      rw [y2]
      refine as112 dX4_start_69 (by omega) ?_
      refine ez_aload_n dX4_start_70 rfl ?_
      refine g4_5 dX4_start_71 fl_X4_18 ?_
      refine ez_iload_n dX4_start_74 rfl ?_
      refine ez_iconst dX4_start_75 (by decide) ?_
      refine as113 dX4_start_76 (by omega) ?_
      refine ez_aload_n dX4_start_77 rfl ?_
      refine g4_6 dX4_start_78 fl_X4_21 ?_
      refine ez_iload_n dX4_start_81 rfl ?_
      refine ez_iconst dX4_start_82 (by decide) ?_
      refine as114 dX4_start_83 (by omega) ?_
      refine ez_aload_n dX4_start_84 rfl ?_
      refine g4_7 dX4_start_85 fl_X4_24 ?_
      refine ez_iload_n dX4_start_88 rfl ?_
      refine ez_iconst dX4_start_89 (by decide) ?_
      refine as115 dX4_start_90 (by omega) ?_
      refine ez_aload_n dX4_start_91 rfl ?_
      refine g4_8 dX4_start_92 fl_X4_27 ?_
      refine ez_iload_n dX4_start_95 rfl ?_
      refine ez_iconst dX4_start_96 (by decide) ?_
      refine as116 dX4_start_97 (by omega) ?_
      refine ez_aload_n dX4_start_98 rfl ?_
      refine ez_iload_n dX4_start_99 rfl ?_
      refine ez_iload_n dX4_start_100 rfl ?_
      refine ez_iload_n dX4_start_101 rfl ?_
      refine ez_aload_n dX4_start_102 rfl ?_
      refine g3_2 (by first | assumption | exact ez_isP.mk (by omega)) dX4_start_103 fl_X4_64 ?_
      refine ez_iload_n dX4_start_106 rfl ?_
      refine alP1 (by first | assumption | exact ez_isP.mk (by omega)) dX4_start_107 (by omega) ?_
      rw [y3]
      refine ez_aload_n dX4_start_108 rfl ?_
      refine g3_3 (by first | assumption | exact ez_isP.mk (by omega)) dX4_start_109 fl_X4_67 ?_
      refine ez_iload_n dX4_start_112 rfl ?_
      refine alP2 (by first | assumption | exact ez_isP.mk (by omega)) dX4_start_113 (by omega) ?_
      rw [y4]
      refine cl_X4_enter dX4_start_114 ml_X4_70 ft_X4_start__X4_enter (Nat.le_of_ble_eq_true rfl) (c_X4_enter (by omega) (by omega) (by omega) (by omega) (by omega)) (ez_kV (fun h2 E => ?_))
      obtain ⟨⟨E1, E2, E3, E4⟩, E5, E6⟩ := E
      have kp : ∀ o k : Int, (o < 110 ∨ 120 < o ∨ (111 ≤ o ∧ o ≤ 116 ∧ k ≠ c) ∨ (117 ≤ o ∧ o ≤ 119 ∧ k ≠ h 0 6 * 8 + c) ∨ o = 110 ∨ o = 120) → h2 o k = h' o k := fun o k q => by
        rw [E6 o k (by omega) (by omega), ez_up_ne (by omega), ez_up_ne (by omega), ez_up_ne (by omega), ez_up_ne (by omega), ez_up_ne (by omega), ez_up_ne (by omega)]
      have f4 := b.f
      have so : sp_so (cd_S h) c (sp_f (cd_S h)) = c := by
        unfold sp_so
        rw [if_pos rfl]
      have xy := cd_xy b fb (j := c) (by omega)
      have xy0 := xy
      rw [f4] at xy
      have on0 : sp_on (cd_S h) (sp_f (cd_S h)) c 0 = ((cd_S h).2.2.2 (sp_f (cd_S h))).2.1 c := by
        unfold sp_on
        rw [if_pos rfl, if_pos rfl]
      have on1 : sp_on (cd_S h) (sp_f (cd_S h)) c 1 = ((cd_S h).2.2.2 (sp_f (cd_S h))).2.2 c := by
        unfold sp_on
        rw [if_pos rfl, if_neg (by decide)]
      have z1 : h2 111 c = ((cd_S h).2.2.2 (sp_f (cd_S h))).2.1 c := by rw [E6 111 c (by omega) (by omega), y6, x1, xy.1, f4]
      have z2 : h2 112 c = ((cd_S h).2.2.2 (sp_f (cd_S h))).2.2 c := by rw [E6 112 c (by omega) (by omega), y7, x2, xy.2, f4]
      have z4 : h2 114 c = 0 ∧ h2 115 c = 0 ∧ h2 116 c = 0 := by omega
      have tk : tk_1 h2 (cd_S h) 0 c := by
        have m0 : sp_mv (cd_S h) c 0 = (sp_f (cd_S h), 0) := rfl
        refine ⟨?_, ?_, ?_, ?_, z1, z2, fun q q0 q1 => ?_, fun q q0 q1 q2 => ?_, ?_⟩
        · rw [m0, if_neg (by omega)]
          omega
        · rw [m0]
          show _ = (cd_S h).2.2.1 (sp_f (cd_S h)) - (cd_S h).2.2.1 (sp_f (cd_S h))
          omega
        · rw [m0]
          show _ = sp_on (cd_S h) (sp_f (cd_S h)) (sp_so (cd_S h) c (sp_f (cd_S h))) 0 - _
          rw [so, on0]
          omega
        · rw [m0]
          show _ = sp_on (cd_S h) (sp_f (cd_S h)) (sp_so (cd_S h) c (sp_f (cd_S h))) 1 - _
          rw [so, on1]
          omega
        · have qf : q = sp_f (cd_S h) := by omega
          rw [qf, so, on0, on1, ← f4, E1, E2, E3, xy0.1, xy0.2, x1, x2]
          exact ⟨rfl, fun _ => ⟨⟨rfl, rfl⟩, by omega, by omega⟩⟩
        · rw [kp 117 _ (by omega)]
          exact no q c (by omega) q1 (by omega) (by omega)
        · rw [z1, z2, ← f4, xy0.1, xy0.2]
          omega
      refine ez_iinc dX4_start_117 rfl (by decide) (by decide) (by omega) ?_
      refine ez_goto 38 dX4_start_120 (by decide) ?_
      exact ih (c + 1) h2 (by omega) ⟨(kp _ _ (by omega)).trans e0.1, (kp _ _ (by omega)).trans e0.2.1, (kp _ _ (by omega)).trans e0.2.2.1, (kp _ _ (by omega)).trans e0.2.2.2⟩ (fun q i q0 q1 i0 i1 => by rw [kp 117 _ (by omega)]; exact no q i q0 q1 (by omega) i1) (fun i i0 i1 => by
        by_cases e : i = c
        · rw [e]
          exact tk
        · exact (dn i i0 (by omega)).at (by omega) (by omega) (fun o a b => kp o i (by omega)) (fun o q a b q0 q1 => kp o _ (by omega)) (by omega)) (fun o k a => (kp o k (by omega)).trans (fr o k a)) (by omega)
theorem c_X4_start {h : ez_H} (b : cd_B h) (hn : h 0 5 ≠ 0) : ez_Ct M_X4_start [ez_R 110, ez_I (h 0 6), ez_R (2 + 3 * h 0 6)] h (ez_PV (fun h' => tk_C h' (cd_S h) 0 ∧ tr_fr h h')) := by
  refine ez_of (by decide) (Nat.le_of_ble_eq_true rfl) (L0 := [ez_R 110, ez_I (h 0 6), ez_R (2 + 3 * h 0 6), ez_N]) rfl ?_
  have n := b.n
  have ff := b.fr
  have fb : 0 ≤ h 0 6 ∧ h 0 6 < h 0 5 := by omega
  have w := b.w _ fb.1 fb.2
  have wn := w.1.n
  have y1 : ez_up (ez_up h 110 0 (h (2 + 3 * h 0 6) 1)) 110 1 0 (2 + 3 * h 0 6) 0 = h (2 + 3 * h 0 6) 0 := by rw [ez_up_ne (by omega), ez_up_ne (by omega)]
  refine ez_aload_n dX4_start_0 rfl ?_
  refine ez_aload_n dX4_start_1 rfl ?_
  refine g3_1 (by first | assumption | exact ez_isP.mk (by omega)) dX4_start_2 fl_X4_42 ?_
  refine p4_0 dX4_start_5 fl_X4_48 ?_
  refine ez_aload_n dX4_start_8 rfl ?_
  refine ez_iconst dX4_start_9 (by decide) ?_
  refine p4_1 dX4_start_10 fl_X4_49 ?_
  refine ez_aload_n dX4_start_13 rfl ?_
  refine ez_aload_n dX4_start_14 rfl ?_
  refine g3_0 (by first | assumption | exact ez_isP.mk (by omega)) dX4_start_15 fl_X4_52 ?_
  rw [y1]
  refine p4_2 dX4_start_18 fl_X4_55 ?_
  refine ez_aload_n dX4_start_21 rfl ?_
  refine g4_12 dX4_start_22 fl_X4_39 ?_
  refine ez_iload_n dX4_start_25 rfl ?_
  refine ez_iconst dX4_start_26 (by decide) ?_
  refine as120 dX4_start_27 (by omega) ?_
  refine ez_aload_n dX4_start_28 rfl ?_
  refine g4_9 dX4_start_29 fl_X4_30 ?_
  refine ez_iconst dX4_start_32 (by decide) ?_
  refine cl_J7_fill_53178 dX4_start_33 ml_X4_58 ft_X4_start__J7_fill_53178 (Nat.le_of_ble_eq_true rfl) (c_J7_fill_53178 (by decide) rfl (by decide)) (ez_kS ?_)
  refine ez_iconst dX4_start_36 (by decide) ?_
  refine ez_istore_n dX4_start_37 (by decide) ?_
  refine lp_st1 b hn (fun h2 e2 d2 f2 => ?_) 9 0 (ez_fill (ez_up (ez_up (ez_up (ez_up h 110 0 (h (2 + 3 * h 0 6) 1)) 110 1 0) 110 2 (h (2 + 3 * h 0 6) 0)) 120 (h 0 6) 0) 117 40 (-1)) (by omega) ⟨?_, ?_, ?_, ?_⟩ (fun q i q0 q1 i0 i1 => ez_fill_in (by omega) (by omega)) (fun i i0 i1 => by omega) (fun o k a => ?_) (by omega)
  rotate_left
  · rw [ez_fill_out (by omega), ez_up_ne (by omega), ez_up_ne (by omega), ez_up_ne (by omega), ez_up_eq]
  · rw [ez_fill_out (by omega), ez_up_ne (by omega), ez_up_ne (by omega), ez_up_eq]
  · rw [ez_fill_out (by omega), ez_up_ne (by omega), ez_up_eq]
  · rw [ez_fill_out (by omega), ez_up_eq]
  · rw [ez_fill_out (by omega), ez_up_ne (by omega), ez_up_ne (by omega), ez_up_ne (by omega), ez_up_ne (by omega)]
  have te := cd_tr_eq b
  have tv : cd_tr h = h (2 + 3 * h 0 6) 1 := by
    unfold cd_tr
    rw [if_neg (by omega)]
  refine ez_PV.in ⟨⟨by omega, ?_, ?_, fun i i0 i1 => d2 i i0 (by omega), fun q q0 q1 q2 => ?_⟩, f2⟩
  · rw [e2.2.1, sm_0 _ (fun k k0 k1 => ?_)]
    unfold tk_ms
    show ((0 : Nat) : Int) - 0 = 0
    omega
  · rw [e2.2.2.1, ← b.f, cd_S_yr fb.1 fb.2]
  · have qf : q = h 0 6 := by
      have := b.f
      omega
    rw [qf, e2.2.2.2, ← b.f]
    omega
