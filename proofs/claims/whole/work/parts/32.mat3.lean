theorem mt_K.B {h : ez_H} {n w row at_ s : Int} {t : Int → Int} (K : mt_K h n w row at_ s t) : mt_B (ez_up h 109 at_ 1) w n ∧ (∀ k : Int, 0 ≤ k → k ≤ 8 → (-1000000000000 ≤ h 104 k ∧ h 104 k ≤ 1000000000000) ∧ (-1000000000000 ≤ h 105 k ∧ h 105 k ≤ 1000000000000)) ∧ ∀ r k : Int, 1 ≤ r → r ≤ n → 1 ≤ k → k ≤ w → 0 ≤ mt_red h r k ∧ mt_red h r k ≤ 1000000000000 := by
  have w1 := K.D.w1
  have row1 := K.row
  obtain ⟨q, q1, q2, q3⟩ := K.free
  have bd := K.D.bd K.A (by omega) (by omega) q1 q2
  have j0 := K.j0
  have ur := bd.1 row (by omega) (by omega)
  have uv : ∀ k : Int, 0 ≤ k → k ≤ 8 → (-1000000000000 ≤ h 104 k ∧ h 104 k ≤ 1000000000000) ∧ (-1000000000000 ≤ h 105 k ∧ h 105 k ≤ 1000000000000) := fun k k0 k1 => by
    have a := bd.1 k k0 k1
    by_cases e : k = 0
    · rw [e] at a ⊢
      omega
    · have b := bd.2 k (by omega) k1
      omega
  have rr : ∀ r k : Int, 1 ≤ r → r ≤ n → 1 ≤ k → k ≤ w → 0 ≤ mt_red h r k ∧ mt_red h r k ≤ 1000000000000 := fun r k r0 r1 k0 k1 => by
    refine ⟨K.D.f r k r0 r1 k0 k1, ?_⟩
    have a := bd.1 r (by omega) (by omega)
    have b := bd.2 k (by omega) (by omega)
    have c := K.D.c r k r0 r1 k0 k1
    unfold mt_red
    omega
  refine ⟨⟨by omega, fun k k0 k1 => ?_, fun k k0 k1 k2 => ?_, fun r k r0 r1 k0 k1 => ?_⟩, uv, rr⟩
  · rw [ez_up_ne (by omega), ez_up_ne (by omega)]
    exact uv k k0 k1
  · have e : k ≠ at_ := fun e => by
      rw [e, ez_up_eq] at k2
      exact absurd k2 (by decide)
    rw [ez_up_ne (by omega)] at k2
    rw [ez_up_ne (by omega)]
    rcases K.g k k0 k1 k2 with x | ⟨x0, x1, x2, x3⟩
    · have := x.2
      omega
    · have y1 := K.rr (k := h 108 k) x1.1 x1.2
      have y2 := (K.p _ x1.1 x1.2 x2).1
      have := rr (h 107 (h 108 k)) k (by omega) (by omega) k0 k1
      omega
  · rw [ez_up_ne (by omega)]
    exact K.D.c r k r0 r1 k0 k1
theorem c_X2_advance {h : ez_H} {n w row at_ s : Int} {t : Int → Int} (K : mt_K h n w row at_ s t) (hr : h 107 at_ ≠ 0) : ez_Ct M_X2_advance [ez_R 101, ez_I at_, ez_I w] h (ez_PI (fun h' z => mt_K h' n w row z (s + 1) (fun k => if k = at_ then s else t k) ∧ ∀ o k : Int, (o ≠ 104 ∧ o ≠ 105 ∧ o ≠ 106 ∧ o ≠ 108 ∧ o ≠ 109) → h' o k = h o k)) := by
  have KB := K.B
  have w1 := K.D.w1
  have ka := K.a
  have s0 := K.s0
  have row1 := K.row
  have ar := K.rr (k := at_) ka.1.1 ka.1.2
  refine ez_of (by decide) (Nat.le_of_ble_eq_true rfl) (L0 := [ez_R 101, ez_I at_, ez_I w, ez_N, ez_N, ez_N, ez_N, ez_N, ez_N, ez_N]) rfl ?_
  refine ez_aload_n dX2_advance_0 rfl ?_
  refine g2_9 dX2_advance_1 fl_X2_34 ?_
  refine ez_iload_n dX2_advance_4 rfl ?_
  refine ez_iconst dX2_advance_5 (by decide) ?_
  refine as109 dX2_advance_6 (by omega) (by first | exact Or.inl rfl | exact Or.inr rfl | omega) ?_
  refine ez_aload_n dX2_advance_7 rfl ?_
  refine g2_7 dX2_advance_8 fl_X2_28 ?_
  refine ez_iload_n dX2_advance_11 rfl ?_
  refine al107 dX2_advance_12 (by omega) ?_
  refine ez_istore_n dX2_advance_13 (by decide) ?_
  refine ez_ldc2 (1152921504606846976) dX2_advance_14 cn_X2_73 rfl (by decide) ?_
  refine ez_lstore dX2_advance_17 (by decide) ?_
  refine ez_iconst dX2_advance_19 (by decide) ?_
  refine ez_istore dX2_advance_20 (by decide) ?_
  refine ez_iconst dX2_advance_22 (by decide) ?_
  refine ez_istore dX2_advance_23 (by decide) ?_
  have e7 : ez_up h 109 at_ 1 107 at_ = h 107 at_ := ez_up_ne (by omega)
  rw [e7]
  refine lp_a1 KB.1 (n := n) (r := h 107 at_) (by omega) (fun h2 ls nx m1 => ?_) (w + 1).toNat 1 _ 0 _ (by omega) (by omega) ⟨fun _ _ _ => rfl, fun k k0 k1 => by omega, Or.inl ⟨rfl, rfl⟩, by omega⟩ (by omega)
  refine ez_iconst dX2_advance_135 (by decide) ?_
  refine ez_istore dX2_advance_136 (by decide) ?_
  have g9 : ∀ k : Int, h2 109 k = ez_up h 109 at_ 1 109 k := fun k => m1.1 109 k (by omega)
  have g7 : ∀ k : Int, h2 107 k = h 107 k := fun k => (m1.1 107 k (by omega)).trans (ez_up_ne (by omega))
  have g4 : ∀ k : Int, h2 104 k = h 104 k := fun k => (m1.1 104 k (by omega)).trans (ez_up_ne (by omega))
  have g5 : ∀ k : Int, h2 105 k = h 105 k := fun k => (m1.1 105 k (by omega)).trans (ez_up_ne (by omega))
  have pp : ∀ k : Int, 0 ≤ k → k ≤ w → h2 109 k ≠ 0 → h 107 k ≠ 0 := fun k k0 k1 k2 => by
    by_cases e : k = at_
    · rw [e]; exact hr
    · rw [g9, ez_up_ne (by omega)] at k2
      exact (K.p k k0 k1 k2).1
  have rd : ∀ k : Int, mt_red (ez_up h 109 at_ 1) (h 107 at_) k = mt_red h (h 107 at_) k := fun k => by
    unfold mt_red
    rw [ez_up_ne (by omega), ez_up_ne (by omega), ez_up_ne (by omega)]
  have gb : ∀ k : Int, 1 ≤ k → k ≤ w → ez_up h 109 at_ 1 109 k = 0 → -10000000000000 ≤ mt_G (ez_up h 109 at_ 1) (h 107 at_) k ∧ mt_G (ez_up h 109 at_ 1) (h 107 at_) k ≤ 10000000000000 := fun k k0 k1 k2 => by
    have a := KB.1.2.2.1 k k0 k1 k2
    have b := KB.2.2 (h 107 at_) k (by omega) (by omega) k0 k1
    unfold mt_G
    rw [rd]
    split <;> omega
  refine lp_a2 (h := h2) (at_ := at_) (r := h 107 at_) ⟨w1.1, w1.2.1⟩ (fun k k0 k1 => by rw [g4, g5]; exact KB.2.1 k k0 k1) (fun k k0 k1 k2 => ?_) (fun k k0 k1 => by rw [g7]; have := K.rr k0 k1; omega) ?_ (fun k k' k0 k1 k2 k3 k4 k5 e => ?_) (fun h' e3 => ?_) (w + 2).toNat 0 h2 (by omega) (by omega) ⟨fun _ _ _ _ _ => rfl, fun k k0 k1 => by omega, fun k k0 k1 => by omega, fun k _ => ⟨rfl, rfl⟩, fun _ _ => rfl⟩ (by omega)
  · have k2' := k2
    rw [g9] at k2'
    by_cases e : k = 0
    · exfalso
      rw [e] at k2'
      by_cases z : s = 0
      · rw [ka.2.2.1 z, ez_up_eq] at k2'
        exact absurd k2' (by decide)
      · have y := ka.2.2.2 (by omega)
        rw [ez_up_ne (by omega)] at k2'
        exact y.2.2 k2'
    · have a := m1.2.1 k (by omega) (by omega) k2'
      have b := gb k (by omega) (by omega) k2'
      rw [a.1]
      exact b
  · rcases m1.2.2.1 with x | x
    · exfalso
      obtain ⟨q, q1, q2, q3⟩ := K.free
      have qne : q ≠ at_ := fun e => hr (by rw [← e]; exact q2)
      have q4 : ez_up h 109 at_ 1 109 q = 0 := by rw [ez_up_ne (by omega)]; exact q3
      have a := (m1.2.1 q q1.1 (by omega) q4).2.2
      have b := gb q q1.1 (by omega) q4
      omega
    · have b := gb nx x.1.1 (by omega) x.2.1
      omega
  · rw [g7, g7] at e
    exact K.inj k0 k1 k2 k3 (pp k k0 k1 k4) e
  · refine ez_PI.in ⟨?_, fun o k o1 => ?_⟩
    · exact K.step hr m1 e3
    · rw [e3.1 o k (by omega) (by omega) (by omega), m1.1 o k (by omega), ez_up_ne (by omega)]
