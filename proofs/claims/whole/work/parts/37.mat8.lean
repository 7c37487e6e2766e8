/-- what FAR of spot i of the lower plate from spot j of the upper one is, in the Fitter's row -/
def mt_g (h : ez_H) (i j : Int) : Int := h 99 (8 * j + i)
/-- what matching gives -/
def mt_Z (g : ez_H) (h : ez_H) (N M : Nat) (R : Int) : Prop := (pm_gr (mt_g g) R M (h 102) N N 0) ∧ (1000 * h 101 0 - h 101 1 = pm_val (mt_g g) R M N N 0) ∧ (∀ j : Int, N ≤ j → j < 8 → h 102 j = -1) ∧ (0 ≤ h 101 1 ∧ h 101 1 ≤ 400) ∧ (0 ≤ h 101 0 ∧ h 101 0 ≤ 8)
theorem mt_Z.gr {g : ez_H} {h : ez_H} {N M : Nat} {R : Int} (x_ : mt_Z g h N M R) : pm_gr (mt_g g) R M (h 102) N N 0 := x_.1
theorem mt_Z.v {g : ez_H} {h : ez_H} {N M : Nat} {R : Int} (x_ : mt_Z g h N M R) : 1000 * h 101 0 - h 101 1 = pm_val (mt_g g) R M N N 0 := x_.2.1
theorem mt_Z.n {g : ez_H} {h : ez_H} {N M : Nat} {R : Int} (x_ : mt_Z g h N M R) : ∀ j : Int, N ≤ j → j < 8 → h 102 j = -1 := x_.2.2.1
theorem mt_Z.s {g : ez_H} {h : ez_H} {N M : Nat} {R : Int} (x_ : mt_Z g h N M R) : 0 ≤ h 101 1 ∧ h 101 1 ≤ 400 := x_.2.2.2.1
theorem mt_Z.c {g : ez_H} {h : ez_H} {N M : Nat} {R : Int} (x_ : mt_Z g h N M R) : 0 ≤ h 101 0 ∧ h 101 0 ≤ 8 := x_.2.2.2.2
theorem mt_J.best {h h' : ez_H} {N M : Nat} {w R : Int} (HW : mt_W h N w M R) (n1 : 1 ≤ N) (J : mt_J h N w (N + 1)) (C : ∀ r k : Int, 1 ≤ r → r ≤ N → 1 ≤ k → k ≤ w → h 103 (9 * r + k) = mt_cst h M R r k) (Rd : mt_R h h' R (M + 1)) : mt_Z h h' N M R := by
  obtain ⟨h1, h2, h3, h4, h5⟩ := HW
  obtain ⟨m1, m2, m3, m4, m5, m6, m7⟩ := Rd
  -- each row has its column
  have S : ∀ j : Int, 0 ≤ j → j < N → (0 ≤ (Classical.epsilon (fun k : Int => (0 ≤ k ∧ k < w) ∧ h 107 (k + 1) = j + 1)) ∧ (Classical.epsilon (fun k : Int => (0 ≤ k ∧ k < w) ∧ h 107 (k + 1) = j + 1)) < w) ∧ h 107 ((Classical.epsilon (fun k : Int => (0 ≤ k ∧ k < w) ∧ h 107 (k + 1) = j + 1)) + 1) = j + 1 := fun j j0 j1 => by
    obtain ⟨k, k0, k1⟩ := J.A.s (j + 1) (by omega) (by omega)
    exact Classical.epsilon_spec (p := fun k : Int => (0 ≤ k ∧ k < w) ∧ h 107 (k + 1) = j + 1) ⟨k - 1, by omega, by rw [show k - 1 + 1 = k by omega]; exact k1⟩
  generalize hτ : (fun j : Int => Classical.epsilon (fun k : Int => (0 ≤ k ∧ k < w) ∧ h 107 (k + 1) = j + 1)) = τ at S
  have S' : ∀ j : Int, 0 ≤ j → j < N → (0 ≤ τ j ∧ τ j < w) ∧ h 107 (τ j + 1) = j + 1 := fun j j0 j1 => by
    rw [← hτ]
    exact S j j0 j1
  clear S hτ
  have un : ∀ j k : Int, 0 ≤ j → j < N → 1 ≤ k → k ≤ w → h 107 k = j + 1 → k = τ j + 1 := fun j k j0 j1 k0 k1 e => by
    have s := S' j j0 j1
    exact J.A.i k (τ j + 1) k0 k1 (by omega) (by omega) (by omega) (by omega)
  -- what is chosen
  have P : ∀ j : Int, 0 ≤ j → j < N → (τ j + 1 ≤ M ∧ h 99 (8 * j + τ j) ≤ R ∧ h' 102 j = τ j) ∨ (¬ (τ j + 1 ≤ M ∧ h 99 (8 * j + τ j) ≤ R) ∧ h' 102 j = -1) := fun j j0 j1 => by
    have s := S' j j0 j1
    by_cases c : τ j + 1 ≤ M ∧ h 99 (8 * j + τ j) ≤ R
    · left
      have z := m2 (τ j + 1) (by omega) (by omega) (by omega)
      rw [s.2, show j + 1 - 1 = j by omega, show τ j + 1 - 1 = τ j by omega] at z
      exact ⟨c.1, c.2, z c.2⟩
    · right
      refine ⟨c, m3 j j0 (by omega) (fun k k0 k1 k2 => ?_)⟩
      have e := un j k j0 j1 k0 (by omega) k2
      rw [e, show τ j + 1 - 1 = τ j by omega]
      rw [e] at k1
      omega
  have cost : ∀ j : Int, 0 ≤ j → j < N → pm_rc (mt_g h) (h' 102) j = h 104 (j + 1) + h 105 (τ j + 1) := fun j j0 j1 => by
    have s := S' j j0 j1
    have t := J.A.t (τ j + 1) (by omega) (by omega) (by omega)
    rw [s.2] at t
    unfold mt_red at t
    rw [C (j + 1) (τ j + 1) (by omega) (by omega) (by omega) (by omega)] at t
    unfold mt_cst at t
    rw [show j + 1 - 1 = j by omega, show τ j + 1 - 1 = τ j by omega] at t
    unfold pm_rc mt_g
    rcases P j j0 j1 with ⟨p1, p2, p3⟩ | ⟨p1, p2⟩
    · rw [if_pos ⟨p1, p2⟩] at t
      rw [p3, if_neg (by omega)]
      omega
    · rw [if_neg p1] at t
      rw [if_pos p2]
      omega
  have inj : ∀ j j' : Int, 0 ≤ j → j < j' → j' < N → τ j ≠ τ j' := fun j j' a b c e => by
    have s := (S' j a (by omega)).2
    have s' := (S' j' (by omega) c).2
    rw [e] at s
    omega
  have prr : ∀ j : Int, 0 ≤ j → j < N → h' 102 j = -1 ∨ (0 ≤ h' 102 j ∧ h' 102 j < M ∧ mt_g h (h' 102 j) j ≤ R) := fun j j0 j1 => by
    have s := S' j j0 j1
    rcases P j j0 j1 with ⟨p1, p2, p3⟩ | ⟨p1, p2⟩
    · right
      unfold mt_g
      rw [p3]
      exact ⟨by omega, by omega, p2⟩
    · exact Or.inl p2
  have pri : ∀ j j' : Int, 0 ≤ j → j < j' → j' < N → h' 102 j ≠ -1 → h' 102 j ≠ h' 102 j' := fun j j' a b c d e => by
    rcases P j a (by omega) with ⟨p1, p2, p3⟩ | ⟨p1, p2⟩
    · rcases P j' (by omega) c with ⟨q1, q2, q3⟩ | ⟨q1, q2⟩
      · rw [p3, q3] at e
        exact inj j j' a b c e
      · omega
    · exact d p2
  have ok : pm_ok (mt_g h) R M (h' 102) N N 0 := pm_ok_mk prr pri N 0 (by omega) (fun j j0 j1 j2 => by rw [Nat.zero_div])
  obtain ⟨kz, z0, z1⟩ := J.z
  have our : pm_tc (mt_g h) (h' 102) N N = sm_ (fun j => h 104 (j + 1)) N + sm_ (fun k => h 105 (k + 1)) w.toNat := by
    rw [pm_tc_sm, sm_cong (g := fun j => h 104 (j + 1) + h 105 (τ j + 1)) N cost, sm_add, sv_eq (σ := τ) (w := w.toNat) N (fun k => h 105 (k + 1)) (fun k k0 k1 hk => ?_) (fun j j0 j1 => by have := S' j j0 j1; omega) inj]
    refine J.A.z (k + 1) (by omega) (by omega) ?_
    have r := J.A.r (k + 1) (by omega) (by omega)
    by_cases c : h 107 (k + 1) = 0
    · exact c
    · have e := un (h 107 (k + 1) - 1) (k + 1) (by omega) (by omega) (by omega) (by omega) (by omega)
      exact absurd (show τ (h 107 (k + 1) - 1) = k by omega) (hk _ (by omega) (by omega))
  have hmin : ∀ pr' : Int → Int, pm_ok (mt_g h) R M pr' N N 0 → pm_tc (mt_g h) (h' 102) N N ≤ pm_tc (mt_g h) pr' N N := fun pr' hk => by
    rw [our, pm_tc_sm]
    have a := sv_le (σ := pr') (w := w.toNat) N (fun k => h 105 (k + 1)) (fun k k0 k1 => J.D.v (k + 1) (by omega) (by omega)) (fun j j0 j1 => by
      rcases pm_ok_in N 0 hk j (by omega) j1 with q | ⟨i, i1, i2, i3, i4⟩
      · exact Or.inl q
      · right
        omega) (fun j j' b c d e => pm_ok_inj N 0 hk j j' (by omega) c d e)
    have b : sm_ (fun j => h 104 (j + 1) + (if pr' j = -1 then 0 else h 105 (pr' j + 1))) N ≤ sm_ (pm_rc (mt_g h) pr') N := sm_le N (fun j j0 j1 => by
      have wl := pm_wt_le j0
      have wp := pm_wt_pos j
      rcases pm_ok_in N 0 hk j (by omega) j1 with q | ⟨i, i1, i2, i3, i4⟩
      · rw [if_pos q]
        unfold pm_rc
        rw [if_pos q]
        have f := J.D.f (j + 1) kz (by omega) (by omega) z0.1 z0.2
        unfold mt_red at f
        rw [C (j + 1) kz (by omega) (by omega) z0.1 z0.2, z1] at f
        unfold mt_cst at f
        rw [show j + 1 - 1 = j by omega] at f
        by_cases c : kz ≤ M ∧ h 99 (8 * j + (kz - 1)) ≤ R
        · rw [if_pos c] at f
          have m := Int.mul_le_mul_of_nonneg_right (show kz - 1 ≤ 8 by omega) (Int.le_of_lt wp)
          unfold pm_O at f ⊢
          omega
        · rw [if_neg c] at f
          omega
      · rw [i2, if_neg (by omega)]
        unfold pm_rc
        rw [i2, if_neg (by omega)]
        have f := J.D.f (j + 1) (i + 1) (by omega) (by omega) (by omega) (by omega)
        unfold mt_red at f
        rw [C (j + 1) (i + 1) (by omega) (by omega) (by omega) (by omega)] at f
        unfold mt_cst at f
        rw [show j + 1 - 1 = j by omega, show (i : Int) + 1 - 1 = i by omega, if_pos ⟨by omega, i4⟩] at f
        unfold mt_g
        omega)
    rw [sm_add] at b
    omega
  obtain ⟨g1, g2⟩ := pm_cheapest (nA := M) (by omega) (by omega) n1 ok hmin
  have late : ∀ j : Int, N ≤ j → j < 8 → h' 102 j = -1 := fun j j0 j1 => m3 j (by omega) j1 (fun k k0 k1 k2 => by
    have := J.A.r k k0 (by omega)
    omega)
  refine ⟨g1, ?_, late, by omega, by omega⟩
  have N8 : N + (8 - N) = 8 := by omega
  have c1 : h' 101 0 = sm_ (fun j => if h' 102 j = -1 then 0 else 1) N := by
    rw [m4, ← N8]
    exact sm_ext (8 - N) (fun k k0 k1 => if_pos (late k k0 (by omega)))
  have c2 : h' 101 1 = sm_ (fun j => if h' 102 j = -1 then 0 else h 99 (8 * j + h' 102 j)) N := by
    rw [m5, ← N8]
    exact sm_ext (8 - N) (fun k k0 k1 => if_pos (late k k0 (by omega)))
  have key : ∀ n : Nat, sm_ (pm_x (mt_g h) (h' 102)) n = 1000 * n - 1000 * sm_ (fun j => if h' 102 j = -1 then 0 else 1) n + sm_ (fun j => if h' 102 j = -1 then 0 else h 99 (8 * j + h' 102 j)) n := fun n => by
    induction n with
    | zero => rfl
    | succ n ih =>
      unfold sm_
      rw [ih]
      unfold pm_x mt_g
      by_cases c : h' 102 n = -1
      · rw [if_pos c, if_pos c, if_pos c]
        omega
      · rw [if_neg c, if_neg c, if_neg c]
        omega
  have kN := key N
  omega
theorem mt_cst_bd {h : ez_H} {n w m R r k : Int} (HW : mt_W h n w m R) (hr : 1 ≤ r ∧ r ≤ n) (hk : 1 ≤ k ∧ k ≤ w) : 0 ≤ mt_cst h m R r k ∧ mt_cst h m R r k ≤ 100000000000 := by
  obtain ⟨h1, h2, h3, h4, h5⟩ := HW
  have wl := pm_wt_le (show 0 ≤ r - 1 by omega)
  have wp := pm_wt_pos (r - 1)
  have f := h5 (8 * (r - 1) + (k - 1)) (by omega) (by omega)
  have m0 := Int.mul_nonneg (show 0 ≤ k - 1 by omega) (Int.le_of_lt wp)
  have m1 := Int.mul_le_mul_of_nonneg_right (show k - 1 ≤ 8 by omega) (Int.le_of_lt wp)
  unfold mt_cst pm_O
  split <;> omega
theorem mt_J.first {h h1 h4 : ez_H} {n w m R : Int} (HW : mt_W h n w m R) (C : mt_C h h1 w m R (n + 1) 1) (e : ∀ k : Int, h4 103 k = h1 103 k) (e4 : ∀ k : Int, 0 ≤ k → k ≤ 8 → h4 104 k = 0 ∧ h4 105 k = 0 ∧ h4 107 k = 0) : mt_J h4 n w 1 := by
  have hw := HW.1
  have hn := HW.2.1
  have cc : ∀ r k : Int, 1 ≤ r → r ≤ n → 1 ≤ k → k ≤ w → h4 103 (9 * r + k) = mt_cst h m R r k := fun r k r0 r1 k0 k1 => (e _).trans (C.2 r k r0 k0 k1 (by omega))
  refine ⟨⟨by omega, fun r k r0 r1 k0 k1 => ?_, fun r k r0 r1 k0 k1 => ?_, fun k k0 k1 => by rw [(e4 k (by omega) (by omega)).2.1]; decide, fun r r0 r1 => by rw [(e4 r r0 r1).1]; decide, fun r r0 r1 _ => (e4 r r0 r1).1, fun k k0 k1 => (e4 k (by omega) k1).2.1⟩, ⟨fun k k0 k1 => by rw [(e4 k (by omega) (by omega)).2.2]; decide, fun k k' k0 k1 _ _ k4 _ => absurd (e4 k (by omega) (by omega)).2.2 k4, fun r r0 r1 => by omega, fun k k0 k1 k2 => absurd (e4 k (by omega) (by omega)).2.2 k2, fun k k0 k1 _ => (e4 k (by omega) (by omega)).2.1, mt_cnt_0 _ (fun k k0 k1 => (e4 (k + 1) (by omega) (by omega)).2.2)⟩, by omega, ?_, ⟨1, by omega, (e4 1 (by omega) (by omega)).2.1⟩⟩
  · rw [cc r k r0 r1 k0 k1]
    exact mt_cst_bd HW ⟨r0, r1⟩ ⟨k0, k1⟩
  · have := (mt_cst_bd HW ⟨r0, r1⟩ ⟨k0, k1⟩).1
    unfold mt_red
    rw [cc r k r0 r1 k0 k1, (e4 r (by omega) (by omega)).1, (e4 k (by omega) (by omega)).2.1]
    omega
  · rw [(e4 0 (by omega) (by omega)).2.1]
    decide

theorem lp_m1 {N M : Nat} {w R : Int} {h : ez_H} {Q : ez_H → Option ez_V → Prop} (kx : ∀ h', mt_J h' N w (N + 1) → (∀ o k : Int, (o < 104 ∨ 109 < o) → h' o k = h o k) → ez_En M_X2_match 65 [ez_R 101, ez_R 99, ez_I N, ez_I M, ez_I R, ez_I w, ez_N] [] h' Q) : ∀ (n : Nat) (row : Int) (h' : ez_H), (mt_J h' N w row) → (∀ o k : Int, (o < 104 ∨ 109 < o) → h' o k = h o k) → N + 2 - row < n → ez_En M_X2_match 45 [ez_R 101, ez_R 99, ez_I N, ez_I M, ez_I R, ez_I w, ez_I row] [] h' Q := by
  intro n
  induction n with
  | zero =>
    intro row h' J fr hm
    exfalso
    have := J.row
    omega
  | succ n ih =>
    intro row h' J fr hm
    have row1 := J.row
    have w1 := J.D.w1
    refine ez_iload dX2_match_45 rfl ?_
    refine ez_iload_n dX2_match_47 rfl ?_
    refine ez_ic_gt 65 dX2_match_48 (by decide) (fun c_48 => ?_) (fun c_48 => ?_)
    · refine ez_lessS (L' := [ez_R 101, ez_R 99, ez_I N, ez_I M, ez_I R, ez_I w, ez_N]) ⟨Or.inr rfl, Or.inr rfl, Or.inr rfl, Or.inr rfl, Or.inr rfl, Or.inr rfl, Or.inl rfl, trivial⟩ ?_
      exact kx h' (by rw [show (N : Int) + 1 = row by omega]; exact J) fr
    · refine ez_aload_n dX2_match_51 rfl ?_
      refine ez_iload dX2_match_52 rfl ?_
      refine ez_iload dX2_match_54 rfl ?_
      refine cl_X2_settle dX2_match_56 ml_X2_57 ft_X2_match__X2_settle (Nat.le_of_ble_eq_true rfl) (c_X2_settle J (by omega)) (ez_kV (fun h2 ⟨J2, f2⟩ => ?_))
      refine ez_iinc dX2_match_59 rfl (by decide) (by decide) (by omega) ?_
      refine ez_goto 45 dX2_match_62 (by decide) ?_
      exact ih (row + 1) h2 J2 (fun o k ho => (f2 o k ho).trans (fr o k ho)) (by omega)
theorem c_X2_match {h : ez_H} {N M : Nat} {R : Int} (hN : 1 ≤ N ∧ N ≤ 8) (hM : 1 ≤ M ∧ M ≤ 8) (hR : 0 ≤ R ∧ R ≤ 50) (hf : ∀ i : Int, 0 ≤ i → i < 64 → 0 ≤ h 99 i) : ez_Ct M_X2_match [ez_R 101, ez_R 99, ez_I N, ez_I M, ez_I R] h (ez_PV (fun h' => mt_Z h h' N M R ∧ ∀ o k : Int, (o < 101 ∨ 109 < o) → h' o k = h o k)) := by
  refine ez_of (by decide) (Nat.le_of_ble_eq_true rfl) (L0 := [ez_R 101, ez_R 99, ez_I N, ez_I M, ez_I R, ez_N, ez_N]) rfl ?_
  refine ez_iload_n dX2_match_0 rfl ?_
  refine ez_iload_n dX2_match_1 rfl ?_
  refine cl_J9_max_7cf53 dX2_match_2 ml_X2_38 ft_X2_match__J9_max_7cf53 (Nat.le_of_ble_eq_true rfl) c_J9_max_7cf53 (ez_kF ?_)
  obtain ⟨w, hw⟩ : ∃ w : Int, w = max (N : Int) (M : Int) := ⟨_, rfl⟩
  rw [← hw]
  have HW : mt_W h N w M R := ⟨by omega, by omega, by omega, hR, hf⟩
  refine ez_istore dX2_match_5 (by decide) ?_
  refine ez_aload_n dX2_match_7 rfl ?_
  refine ez_aload_n dX2_match_8 rfl ?_
  refine ez_iload_n dX2_match_9 rfl ?_
  refine ez_iload dX2_match_10 rfl ?_
  refine ez_iload_n dX2_match_12 rfl ?_
  refine ez_iload dX2_match_13 rfl ?_
  refine cl_X2_setCosts dX2_match_15 ml_X2_44 ft_X2_match__X2_setCosts (Nat.le_of_ble_eq_true rfl) (c_X2_setCosts HW) (ez_kV (fun h1 C => ?_))
  refine ez_aload_n dX2_match_18 rfl ?_
  refine g2_4 dX2_match_19 fl_X2_19 ?_
  refine ez_lconst 0 dX2_match_22 (by decide) (by decide) ?_
  refine cl_J7_fill_d0a16 dX2_match_23 ml_X2_48 ft_X2_match__J7_fill_d0a16 (Nat.le_of_ble_eq_true rfl) (c_J7_fill_d0a16 (by decide) rfl (by decide)) (ez_kS ?_)
  refine ez_aload_n dX2_match_26 rfl ?_
  refine g2_5 dX2_match_27 fl_X2_22 ?_
  refine ez_lconst 0 dX2_match_30 (by decide) (by decide) ?_
  refine cl_J7_fill_d0a16 dX2_match_31 ml_X2_48 ft_X2_match__J7_fill_d0a16 (Nat.le_of_ble_eq_true rfl) (c_J7_fill_d0a16 (by decide) rfl (by decide)) (ez_kS ?_)
  refine ez_aload_n dX2_match_34 rfl ?_
  refine g2_7 dX2_match_35 fl_X2_28 ?_
  refine ez_iconst dX2_match_38 (by decide) ?_
  refine cl_J7_fill_53178 dX2_match_39 ml_X2_54 ft_X2_match__J7_fill_53178 (Nat.le_of_ble_eq_true rfl) (c_J7_fill_53178 (by decide) rfl (by decide)) (ez_kS ?_)
  refine ez_iconst dX2_match_42 (by decide) ?_
  refine ez_istore dX2_match_43 (by decide) ?_
  refine lp_m1 (h := ez_fill (ez_fill (ez_fill h1 104 (ez_len 104) 0) 105 (ez_len 105) 0) 107 (ez_len 107) 0) (fun h2 J2 f2 => ?_) (N + 2) 1 _ (mt_J.first HW C (fun k => ?_) (fun k k0 k1 => ⟨?_, ?_, ?_⟩)) (fun _ _ _ => rfl) (by omega)
  rotate_left
  · unfold ez_fill
    rw [if_neg (by omega), if_neg (by omega), if_neg (by omega)]
  · unfold ez_fill
    rw [if_neg (by omega), if_neg (by omega), if_pos ⟨rfl, k0, by show k < 9; omega⟩]
  · unfold ez_fill
    rw [if_neg (by omega), if_pos ⟨rfl, k0, by show k < 9; omega⟩]
  · unfold ez_fill
    rw [if_pos ⟨rfl, k0, by show k < 9; omega⟩]
  have e4 : ∀ o k : Int, (o < 104 ∨ 109 < o) → h2 o k = h1 o k := fun o k ho => by
    rw [f2 o k ho]
    unfold ez_fill
    rw [if_neg (by omega), if_neg (by omega), if_neg (by omega)]
  have eh : ∀ o k : Int, (o < 103 ∨ 109 < o) → h2 o k = h o k := fun o k ho => (e4 o k (by omega)).trans (C.1 o k (by omega))
  have HW2 : mt_W h2 N w M R := ⟨by omega, by omega, by omega, hR, fun i i0 i1 => by rw [eh 99 i (by omega)]; exact hf i i0 i1⟩
  refine ez_aload_n dX2_match_65 rfl ?_
  refine ez_aload_n dX2_match_66 rfl ?_
  refine ez_iload_n dX2_match_67 rfl ?_
  refine ez_iload dX2_match_68 rfl ?_
  refine cl_X2_readPairs dX2_match_70 ml_X2_61 ft_X2_match__X2_readPairs (Nat.le_of_ble_eq_true rfl) (c_X2_readPairs HW2 J2.A (by omega)) (ez_kV (fun h3 Rd => ?_))
  refine ez_vreturn (st := []) dX2_match_73 rfl ?_
  have cst : ∀ r k : Int, mt_cst h2 M R r k = mt_cst h M R r k := fun r k => by
    unfold mt_cst
    rw [eh 99 _ (by omega)]
  have Z := J2.best HW2 (by omega) (fun r k r0 r1 k0 k1 => by rw [cst, e4 103 _ (by omega)]; exact C.2 r k r0 k0 k1 (by omega)) Rd
  have eg : mt_g h2 = mt_g h := funext fun i => funext fun j => eh 99 _ (by omega)
  refine ez_PV.in ⟨⟨by rw [← eg]; exact Z.gr, by rw [← eg]; exact Z.v, Z.n, Z.s, Z.c⟩, fun o k ho => ?_⟩
  rw [Rd.1 o k (by omega) (by omega)]
  exact eh o k (by omega)
