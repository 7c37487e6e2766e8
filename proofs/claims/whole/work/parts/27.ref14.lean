/-! the reference's changes: plate, spot, wipe, reach -/
def sp_nil : bl_P := (0, (fun _ => 0), fun _ => 0)
def sp_plA (S : sp_S) (v : Int) : Prop := (0 ≤ v ∧ v ≤ 999) ∧ S.1 < 5 ∧ ∀ p : Int, 0 ≤ p → p < S.1 → S.2.2.1 p ≠ v
def sp_plS (S : sp_S) (v : Int) : sp_S := (S.1 + 1, S.2.1, (fun p => if p = S.1 then v else S.2.2.1 p), fun p => if p = S.1 then sp_nil else S.2.2.2 p)
def sp_reS (S : sp_S) (r : Int) : sp_S := (S.1, r, S.2.2.1, S.2.2.2)
def sp_spA (S : sp_S) (p x y : Int) : Prop := (0 ≤ p ∧ p < S.1) ∧ (0 ≤ x ∧ x ≤ 999) ∧ (0 ≤ y ∧ y ≤ 999) ∧ (S.2.2.2 p).1 < 8 ∧ ∀ i : Int, 0 ≤ i → i < ((S.2.2.2 p).1 : Int) → ¬ ((S.2.2.2 p).2.1 i = x ∧ (S.2.2.2 p).2.2 i = y)
def sp_spS (S : sp_S) (p x y : Int) : sp_S := (S.1, S.2.1, S.2.2.1, fun q => if q = p then ((S.2.2.2 p).1 + 1, (fun i => if i = ((S.2.2.2 p).1 : Int) then x else (S.2.2.2 p).2.1 i), fun i => if i = ((S.2.2.2 p).1 : Int) then y else (S.2.2.2 p).2.2 i) else S.2.2.2 q)
def sp_wiA (S : sp_S) (p i : Int) : Prop := (0 ≤ p ∧ p < S.1) ∧ 0 ≤ i ∧ i < ((S.2.2.2 p).1 : Int)
def sp_wiS (S : sp_S) (p i : Int) : sp_S := (S.1, S.2.1, S.2.2.1, fun q => if q = p then ((S.2.2.2 p).1 - 1, (fun k => if k < i then (S.2.2.2 p).2.1 k else (S.2.2.2 p).2.1 (k + 1)), fun k => if k < i then (S.2.2.2 p).2.2 k else (S.2.2.2 p).2.2 (k + 1)) else S.2.2.2 q)
/-- what a change of the reference may change -/
def mo_fr (h h' : ez_H) : Prop := ∀ o k : Int, (o < 121 ∨ 132 < o) → h' o k = h o k
theorem mo_fr.rf (h : ez_H) : mo_fr h h := fun _ _ _ => rfl
def mo_Q (h : ez_H) (z0 : Int) (S' : sp_S) : ez_H → Option ez_V → Prop := ez_PI (fun h' z => md_V h' ∧ mo_fr h h' ∧ z = z0 ∧ md_S h' = S')
/-- a state that is forgotten: no lay is known -/
theorem md_V.new {h : ez_H} (h1 : 0 ≤ h 121 0 ∧ h 121 0 ≤ 5) (h2 : 0 ≤ h 121 1 ∧ h 121 1 ≤ 50) (h3 : ∀ p : Int, 0 ≤ p → p < h 121 0 → md_W h p ∧ (0 ≤ h 122 p ∧ h 122 p ≤ 999)) (h4 : ∀ p q : Int, 0 ≤ p → p < h 121 0 → 0 ≤ q → q < h 121 0 → h 122 p = h 122 q → p = q) (h5 : ∀ x : Int, 0 ≤ x → x < 25 → h 126 x = 0) : md_V h :=
  ⟨h1, h2, h3, h4, fun a b a0 a1 b0 b1 hab hk => absurd (h5 _ (by omega) (by omega)) hk⟩
theorem ez_fill_in {h : ez_H} {o i v k : Int} (h0 : 0 ≤ k) (h1 : k < i) : ez_fill h o i v o k = v := if_pos ⟨rfl, h0, h1⟩
theorem ez_fill_out {h : ez_H} {o i v o' k : Int} (hn : ¬ (o' = o ∧ 0 ≤ k ∧ k < i)) : ez_fill h o i v o' k = h o' k := if_neg hn
theorem bl_nil {n : Nat} {x y : Int → Int} (h : n = 0) : ((n, (fun i : Int => if 0 ≤ i ∧ i < (n : Int) then x i else 0), (fun i : Int => if 0 ≤ i ∧ i < (n : Int) then y i else 0)) : bl_P) = sp_nil := by
  subst h
  unfold sp_nil
  refine Prod.ext rfl (Prod.ext (funext fun i => ?_) (funext fun i => ?_))
  · exact if_neg (by omega)
  · exact if_neg (by omega)
theorem md_W.keep2 {h h' : ez_H} {p : Int} (w : md_W h p) (hk : ∀ o k : Int, 123 ≤ o ∧ o ≤ 125 → h' o k = h o k) : md_W h' p := by
  unfold md_W at w ⊢
  simp only [hk 123 _ (by decide), hk 124 _ (by decide), hk 125 _ (by decide)]
  exact w
theorem c_X6_reach {r : Int} {h : ez_H} (v : md_V h) : ez_Ct M_X6_reach [ez_R 121, ez_I r] h (ez_PB (fun h' => md_V h' ∧ mo_fr h h' ∧ (((0 ≤ r ∧ r ≤ 50) ∧ md_S h' = sp_reS (md_S h) r) ∨ (¬ (0 ≤ r ∧ r ≤ 50) ∧ md_S h' = md_S h))) (0 ≤ r ∧ r ≤ 50)) := by
  refine ez_of (by decide) (Nat.le_of_ble_eq_true rfl) (L0 := [ez_R 121, ez_I r]) rfl ?_
  refine ez_iload_n dX6_reach_0 rfl ?_
  refine ez_iconst dX6_reach_1 (by decide) ?_
  refine ez_bipush dX6_reach_2 (by decide) (by decide) ?_
  refine cl_X6_isIn dX6_reach_4 ml_X6_51 ft_X6_reach__X6_isIn (Nat.le_of_ble_eq_true rfl) c_X6_isIn (ez_kB (fun b_4 => ?_) (fun b_4 => ?_))
  · refine ez_if_ne 12 dX6_reach_7 (by decide) (fun c_7 => ?_) (fun c_7 => ?_)
    · refine ez_aload_n dX6_reach_12 rfl ?_
      refine ez_iload_n dX6_reach_13 rfl ?_
      refine p6_1 dX6_reach_14 fl_X6_7 ?_
      refine ez_aload_n dX6_reach_17 rfl ?_
      refine cl_X6_forgets dX6_reach_18 ml_X6_55 ft_X6_reach__X6_forgets (Nat.le_of_ble_eq_true rfl) c_X6_forgets (ez_kS ?_)
      refine ez_iconst dX6_reach_21 (by decide) ?_
      refine ez_zreturn (st := []) dX6_reach_22 rfl (by first | exact Or.inl rfl | exact Or.inr rfl | omega | (split <;> omega)) ?_
      refine ⟨⟨md_V.new ?_ ?_ (fun p p0 p1 => ?_) (fun p q p0 p1 q0 q1 hpq => ?_) (fun x x0 x1 => ez_fill_in x0 x1), fun o k ho => (ez_fill_out (by omega)).trans (ez_up_ne (by omega)), Or.inl ⟨b_4, ?_⟩⟩, Or.inl ⟨b_4, rfl⟩⟩
      · rw [ez_fill_out (by omega), ez_up_ne (by omega)]
        exact v.1
      · rw [ez_fill_out (by omega), ez_up_eq]
        exact b_4
      · rw [ez_fill_out (by omega), ez_up_ne (by omega)] at p1
        rw [ez_fill_out (by omega), ez_up_ne (by omega)]
        exact ⟨(v.2.2.1 p p0 p1).1.keep2 (fun o k ho => (ez_fill_out (by omega)).trans (ez_up_ne (by omega))), (v.2.2.1 p p0 p1).2⟩
      · rw [ez_fill_out (by omega), ez_up_ne (by omega)] at p1 q1 hpq
        rw [ez_fill_out (by omega), ez_up_ne (by omega)] at hpq
        exact v.2.2.2.1 p q p0 p1 q0 q1 hpq
      · unfold md_S sp_reS
        have e : ∀ o k : Int, 122 ≤ o → o ≤ 125 → ez_fill (ez_up h 121 1 r) 126 25 0 o k = h o k := fun o k h1 h2 => (ez_fill_out (by omega)).trans (ez_up_ne (by omega))
        rw [ez_fill_out (by omega), ez_up_ne (by omega), ez_fill_out (by omega), ez_up_eq]
        rw [show ez_fill (ez_up h 121 1 r) 126 25 0 122 = h 122 from funext fun k => e 122 k (by omega) (by omega), show ez_fill (ez_up h 121 1 r) 126 25 0 123 = h 123 from funext fun k => e 123 k (by omega) (by omega), show ez_fill (ez_up h 121 1 r) 126 25 0 124 = h 124 from funext fun k => e 124 k (by omega) (by omega), show ez_fill (ez_up h 121 1 r) 126 25 0 125 = h 125 from funext fun k => e 125 k (by omega) (by omega)]
        rfl
    · exact absurd c_7 (by decide)
  · refine ez_if_ne 12 dX6_reach_7 (by decide) (fun c_7 => ?_) (fun c_7 => ?_)
    · exact absurd c_7 (by decide)
    · refine ez_iconst dX6_reach_10 (by decide) ?_
      refine ez_zreturn (st := []) dX6_reach_11 rfl (by first | exact Or.inl rfl | exact Or.inr rfl | omega | (split <;> omega)) ?_
      exact ⟨⟨v, mo_fr.rf h, Or.inr ⟨b_4, rfl⟩⟩, Or.inr ⟨b_4, rfl⟩⟩
theorem lp_pl {y : Int} {h : ez_H} {Q : ez_H → Option ez_V → Prop} (hn : 0 ≤ h 121 0 ∧ h 121 0 ≤ 5) (kq : (∃ q : Int, 0 ≤ q ∧ q < h 121 0 ∧ h 122 q = y) → Q h (some (ez_I (-1)))) (kx : (∀ q : Int, 0 ≤ q → q < h 121 0 → h 122 q ≠ y) → ez_En M_X6_plate 49 [ez_R 121, ez_I y, ez_N] [] h Q) : ∀ (n : Nat) (p : Nat), ((p : Int) ≤ h 121 0) → (∀ q : Int, 0 ≤ q → q < (p : Int) → h 122 q ≠ y) → h 121 0 - p < n → ez_En M_X6_plate 23 [ez_R 121, ez_I y, ez_I (p : Nat)] [] h Q := by
  intro n
  induction n with
  | zero =>
    intro p p1 en hm
    exfalso
    omega
  | succ n ih =>
    intro p p1 en hm
    refine ez_iload_n dX6_plate_23 rfl ?_
    refine ez_aload_n dX6_plate_24 rfl ?_
    refine g6_0 dX6_plate_25 fl_X6_48 ?_
    refine ez_ic_ge 49 dX6_plate_28 (by decide) (fun c_28 => ?_) (fun c_28 => ?_)
    · refine ez_lessS (L' := [ez_R 121, ez_I y, ez_N]) ⟨Or.inr rfl, Or.inr rfl, Or.inl rfl, trivial⟩ ?_
      exact kx (fun q q0 q1 => en q q0 (by omega))
    · refine ez_aload_n dX6_plate_31 rfl ?_
      refine g6_2 dX6_plate_32 fl_X6_13 ?_
      refine ez_iload_n dX6_plate_35 rfl ?_
      refine al122 dX6_plate_36 (by omega) ?_
      refine ez_iload_n dX6_plate_37 rfl ?_
      refine ez_ic_ne 43 dX6_plate_38 (by decide) (fun c_38 => ?_) (fun c_38 => ?_)
      · refine ez_iinc dX6_plate_43 rfl (by decide) (by decide) (by omega) ?_
        refine ez_goto 23 dX6_plate_46 (by decide) ?_
        refine ez_lessS (L' := [ez_R 121, ez_I y, ez_I ((p + 1 : Nat) : Int)]) ⟨Or.inr rfl, Or.inr rfl, Or.inr rfl, trivial⟩ ?_
        exact ih (p + 1) (by omega) (fun q q0 q1 => by by_cases e : q = p; (rw [e]; exact c_38); exact en q q0 (by omega)) (by omega)
      · refine ez_iconst dX6_plate_41 (by decide) ?_
        refine ez_ireturn (st := []) dX6_plate_42 rfl ?_
        exact kq ⟨p, by omega, by omega, c_38⟩
theorem md_V.plate {h h' : ez_H} {y : Int} (v : md_V h) (hA : sp_plA (md_S h) y) (e0 : h' 121 0 = h 121 0 + 1) (e1 : h' 121 1 = h 121 1) (e2 : ∀ k : Int, h' 122 k = if k = h 121 0 then y else h 122 k) (e3 : ∀ k : Int, h' 123 k = if k = h 121 0 then 0 else h 123 k) (e4 : ∀ k : Int, h' 124 k = h 124 k) (e5 : ∀ k : Int, h' 125 k = h 125 k) (e6 : ∀ x : Int, 0 ≤ x → x < 25 → h' 126 x = 0) : md_V h' ∧ md_S h' = sp_plS (md_S h) y := by
  obtain ⟨a1, a2, a3⟩ := hA
  have a2' : h 121 0 < 5 := a2
  have v0 := v.1
  have yr : ∀ p : Int, 0 ≤ p → p < h 121 0 → h 122 p ≠ y := fun p p0 p1 => by
    have := a3 p p0 p1
    rw [md_S_yr p0 p1] at this
    exact this
  constructor
  · refine md_V.new (by omega) (by rw [e1]; exact v.2.1) (fun p p0 p1 => ?_) (fun p q p0 p1 q0 q1 hpq => ?_) e6
    · by_cases q : p = h 121 0
      · constructor
        · refine ⟨by omega, ?_, fun i i0 i1 => ?_⟩
          · rw [e3, if_pos q]
            decide
          · rw [e3, if_pos q] at i1
            omega
        · rw [e2, if_pos q]
          exact a1
      · have w := v.2.2.1 p p0 (by omega)
        constructor
        · refine ⟨w.1.1, ?_, fun i i0 i1 => ?_⟩
          · rw [e3, if_neg q]
            exact w.1.2.1
          · rw [e3, if_neg q] at i1
            rw [e4, e5]
            exact w.1.2.2 i i0 i1
        · rw [e2, if_neg q]
          exact w.2
    · rw [e2, e2] at hpq
      by_cases c1 : p = h 121 0
      · by_cases c2 : q = h 121 0
        · omega
        · rw [if_pos c1, if_neg c2] at hpq
          exact absurd hpq.symm (yr q q0 (by omega))
      · by_cases c2 : q = h 121 0
        · rw [if_neg c1, if_pos c2] at hpq
          exact absurd hpq (yr p p0 (by omega))
        · rw [if_neg c1, if_neg c2] at hpq
          exact v.2.2.2.1 p q p0 (by omega) q0 (by omega) hpq
  · unfold md_S sp_plS sp_mk
    rw [e0, e1]
    refine Prod.ext rfl (Prod.ext rfl (Prod.ext (funext fun p => ?_) (funext fun p => ?_)))
    · dsimp only
      rw [e2]
      by_cases q : p = h 121 0
      · rw [if_pos q, if_pos q, if_pos (by omega)]
      · rw [if_neg q, if_neg q]
        by_cases q2 : 0 ≤ p ∧ p < h 121 0
        · rw [if_pos q2, if_pos (by omega)]
        · rw [if_neg q2, if_neg (by omega)]
    · dsimp only
      by_cases q : p = h 121 0
      · rw [if_pos q, if_pos (by omega)]
        have e3p : h' 123 p = 0 := by rw [e3, if_pos q]
        rw [e3p]
        exact bl_nil (n := 0) rfl
      · rw [if_neg q]
        have e3p : h' 123 p = h 123 p := by rw [e3, if_neg q]
        rw [e3p]
        by_cases q2 : 0 ≤ p ∧ p < h 121 0
        · rw [if_pos q2, if_pos (by omega)]
          simp only [e4, e5]
        · rw [if_neg q2, if_neg (by omega)]
theorem c_X6_plate {y : Int} {h : ez_H} (v : md_V h) : ez_Ct M_X6_plate [ez_R 121, ez_I y] h (ez_PI (fun h' z => md_V h' ∧ mo_fr h h' ∧ ((sp_plA (md_S h) y ∧ z = h 121 0 ∧ md_S h' = sp_plS (md_S h) y) ∨ (¬ sp_plA (md_S h) y ∧ z = -1 ∧ md_S h' = md_S h)))) := by
  have v0 := v.1
  refine ez_of (by decide) (Nat.le_of_ble_eq_true rfl) (L0 := [ez_R 121, ez_I y, ez_N]) rfl ?_
  refine ez_iload_n dX6_plate_0 rfl ?_
  refine ez_iconst dX6_plate_1 (by decide) ?_
  refine ez_sipush dX6_plate_2 (by decide) (by decide) ?_
  refine cl_X6_isIn dX6_plate_5 ml_X6_51 ft_X6_plate__X6_isIn (Nat.le_of_ble_eq_true rfl) c_X6_isIn (ez_kB (fun b_5 => ?_) (fun b_5 => ?_))
  · refine ez_if_eq 19 dX6_plate_8 (by decide) (fun c_8 => ?_) (fun c_8 => ?_)
    · exact absurd c_8 (by decide)
    · refine ez_aload_n dX6_plate_11 rfl ?_
      refine g6_0 dX6_plate_12 fl_X6_48 ?_
      refine ez_iconst dX6_plate_15 (by decide) ?_
      refine ez_ic_ne 21 dX6_plate_16 (by decide) (fun c_16 => ?_) (fun c_16 => ?_)
      · refine ez_iconst dX6_plate_21 (by decide) ?_
        refine ez_istore_n dX6_plate_22 (by decide) ?_
        refine lp_pl v.1 (fun hq => ?_) (fun hno => ?_) 6 0 (by omega) (fun q q0 q1 => absurd q1 (by omega)) (by omega)
        · obtain ⟨q, q0, q1, q2⟩ := hq
          exact ez_PI.in ⟨v, mo_fr.rf h, Or.inr ⟨fun z => z.2.2 q q0 q1 ((md_S_yr q0 q1).trans q2), rfl, rfl⟩⟩
        have hA : sp_plA (md_S h) y := ⟨b_5, (show h 121 0 < 5 by omega), fun p p0 p1 => by rw [md_S_yr p0 p1]; exact hno p p0 p1⟩
        refine ez_aload_n dX6_plate_49 rfl ?_
        refine g6_2 dX6_plate_50 fl_X6_13 ?_
        refine ez_aload_n dX6_plate_53 rfl ?_
        refine g6_0 dX6_plate_54 fl_X6_48 ?_
        refine ez_iload_n dX6_plate_57 rfl ?_
        refine as122 dX6_plate_58 (by omega) ?_
        refine ez_aload_n dX6_plate_59 rfl ?_
        refine g6_3 dX6_plate_60 fl_X6_17 ?_
        refine ez_aload_n dX6_plate_63 rfl ?_
        refine g6_0 dX6_plate_64 fl_X6_48 ?_
        refine ez_iconst dX6_plate_67 (by decide) ?_
        rw [show ez_up h 122 (h 121 0) y 121 0 = h 121 0 from ez_up_ne (by omega)]
        refine as123 dX6_plate_68 (by omega) ?_
        refine ez_aload_n dX6_plate_69 rfl ?_
        refine ez_dup dX6_plate_70 rfl ?_
        refine g6_0 dX6_plate_71 fl_X6_48 ?_
        refine ez_iconst dX6_plate_74 (by decide) ?_
        refine ez_iadd dX6_plate_75 (by rw [show ez_up (ez_up h 122 (h 121 0) y) 123 (h 121 0) 0 121 0 = h 121 0 from (ez_up_ne (by omega)).trans (ez_up_ne (by omega))]; omega) ?_
        rw [show ez_up (ez_up h 122 (h 121 0) y) 123 (h 121 0) 0 121 0 = h 121 0 from (ez_up_ne (by omega)).trans (ez_up_ne (by omega))]
        refine p6_0 dX6_plate_76 fl_X6_48 ?_
        refine ez_aload_n dX6_plate_79 rfl ?_
        refine cl_X6_forgets dX6_plate_80 ml_X6_55 ft_X6_plate__X6_forgets (Nat.le_of_ble_eq_true rfl) c_X6_forgets (ez_kS ?_)
        refine ez_aload_n dX6_plate_83 rfl ?_
        refine g6_0 dX6_plate_84 fl_X6_48 ?_
        refine ez_iconst dX6_plate_87 (by decide) ?_
        refine ez_isub dX6_plate_88 (by rw [show ez_fill (ez_up (ez_up (ez_up h 122 (h 121 0) y) 123 (h 121 0) 0) 121 0 (h 121 0 + 1)) 126 25 0 121 0 = h 121 0 + 1 from (ez_fill_out (by omega)).trans ez_up_eq]; omega) ?_
        have hz : ez_fill (ez_up (ez_up (ez_up h 122 (h 121 0) y) 123 (h 121 0) 0) 121 0 (h 121 0 + 1)) 126 25 0 121 0 = h 121 0 + 1 := (ez_fill_out (by omega)).trans ez_up_eq
        rw [hz]
        refine ez_ireturn (st := []) dX6_plate_89 rfl ?_
        have hVS := v.plate (h' := ez_fill (ez_up (ez_up (ez_up h 122 (h 121 0) y) 123 (h 121 0) 0) 121 0 (h 121 0 + 1)) 126 25 0) hA hz ((ez_fill_out (by omega)).trans ((ez_up_ne (by omega)).trans ((ez_up_ne (by omega)).trans (ez_up_ne (by omega))))) (fun k => ?_) (fun k => ?_) (fun k => (ez_fill_out (by omega)).trans ((ez_up_ne (by omega)).trans ((ez_up_ne (by omega)).trans (ez_up_ne (by omega))))) (fun k => (ez_fill_out (by omega)).trans ((ez_up_ne (by omega)).trans ((ez_up_ne (by omega)).trans (ez_up_ne (by omega))))) (fun x x0 x1 => ez_fill_in x0 x1)
        · exact ez_PI.in ⟨hVS.1, fun o k ho => (ez_fill_out (by omega)).trans ((ez_up_ne (by omega)).trans ((ez_up_ne (by omega)).trans (ez_up_ne (by omega)))), Or.inl ⟨hA, by omega, hVS.2⟩⟩
        · rw [ez_fill_out (by omega), ez_up_ne (by omega), ez_up_ne (by omega)]
          unfold ez_up
          by_cases q : k = h 121 0
          · rw [if_pos ⟨rfl, q⟩, if_pos q]
          · rw [if_neg (fun z => q z.2), if_neg q]
        · rw [ez_fill_out (by omega), ez_up_ne (by omega)]
          unfold ez_up
          by_cases q : k = h 121 0
          · rw [if_pos ⟨rfl, q⟩, if_pos q]
          · rw [if_neg (fun z => q z.2), if_neg q, if_neg (by omega)]
      · refine ez_iconst dX6_plate_19 (by decide) ?_
        refine ez_ireturn (st := []) dX6_plate_20 rfl ?_
        first
          | exact ez_PI.in ⟨v, mo_fr.rf h, Or.inr ⟨fun q => b_5 q.1, rfl, rfl⟩⟩
          | exact ez_PI.in ⟨v, mo_fr.rf h, Or.inr ⟨fun q => by have := q.2.1; have e : (md_S h).1 = h 121 0 := rfl; omega, rfl, rfl⟩⟩
  · refine ez_if_eq 19 dX6_plate_8 (by decide) (fun c_8 => ?_) (fun c_8 => ?_)
    · refine ez_iconst dX6_plate_19 (by decide) ?_
      refine ez_ireturn (st := []) dX6_plate_20 rfl ?_
      first
        | exact ez_PI.in ⟨v, mo_fr.rf h, Or.inr ⟨fun q => b_5 q.1, rfl, rfl⟩⟩
        | exact ez_PI.in ⟨v, mo_fr.rf h, Or.inr ⟨fun q => by have := q.2.1; have e : (md_S h).1 = h 121 0 := rfl; omega, rfl, rfl⟩⟩
    · exact absurd c_8 (by decide)
theorem lp_sp {p px py : Int} {h : ez_H} {Q : ez_H → Option ez_V → Prop} (hp : 0 ≤ p ∧ p < 5) (hn : 0 ≤ h 123 p ∧ h 123 p ≤ 8) (kq : (∃ k : Int, 0 ≤ k ∧ k < h 123 p ∧ h 124 (8 * p + k) = px ∧ h 125 (8 * p + k) = py) → Q h (some (ez_I (-1)))) (kx : (∀ k : Int, 0 ≤ k → k < h 123 p → ¬ (h 124 (8 * p + k) = px ∧ h 125 (8 * p + k) = py)) → ez_En M_X6_spot 97 [ez_R 121, ez_I p, ez_I px, ez_I py, ez_N] [] h Q) : ∀ (n : Nat) (i : Nat), ((i : Int) ≤ h 123 p) → (∀ k : Int, 0 ≤ k → k < (i : Int) → ¬ (h 124 (8 * p + k) = px ∧ h 125 (8 * p + k) = py)) → h 123 p - i < n → ez_En M_X6_spot 46 [ez_R 121, ez_I p, ez_I px, ez_I py, ez_I (i : Nat)] [] h Q := by
  intro n
  induction n with
  | zero =>
    intro i i1 en hm
    exfalso
    omega
  | succ n ih =>
    intro i i1 en hm
    refine ez_iload dX6_spot_46 rfl ?_
    refine ez_aload_n dX6_spot_48 rfl ?_
    refine g6_3 dX6_spot_49 fl_X6_17 ?_
    refine ez_iload_n dX6_spot_52 rfl ?_
    refine al123 dX6_spot_53 (by omega) ?_
    refine ez_ic_ge 97 dX6_spot_54 (by decide) (fun c_54 => ?_) (fun c_54 => ?_)
    · refine ez_lessS (L' := [ez_R 121, ez_I p, ez_I px, ez_I py, ez_N]) ⟨Or.inr rfl, Or.inr rfl, Or.inr rfl, Or.inr rfl, Or.inl rfl, trivial⟩ ?_
      exact kx (fun k k0 k1 => en k k0 (by omega))
    · refine ez_aload_n dX6_spot_57 rfl ?_
      refine g6_4 dX6_spot_58 fl_X6_20 ?_
      refine ez_bipush dX6_spot_61 (by decide) (by decide) ?_
      refine ez_iload_n dX6_spot_63 rfl ?_
      refine ez_imul dX6_spot_64 (by omega) ?_
      refine ez_iload dX6_spot_65 rfl ?_
      refine ez_iadd dX6_spot_67 (by omega) ?_
      refine al124 dX6_spot_68 (by omega) ?_
      refine ez_iload_n dX6_spot_69 rfl ?_
      refine ez_ic_ne 91 dX6_spot_70 (by decide) (fun c_70 => ?_) (fun c_70 => ?_)
      · refine ez_iinc dX6_spot_91 rfl (by decide) (by decide) (by omega) ?_
        refine ez_goto 46 dX6_spot_94 (by decide) ?_
        refine ez_lessS (L' := [ez_R 121, ez_I p, ez_I px, ez_I py, ez_I ((i + 1 : Nat) : Int)]) ⟨Or.inr rfl, Or.inr rfl, Or.inr rfl, Or.inr rfl, Or.inr rfl, trivial⟩ ?_
        exact ih (i + 1) (by omega) (fun k k0 k1 => by by_cases e : k = i; (subst e; omega); exact en k k0 (by omega)) (by omega)
      · refine ez_aload_n dX6_spot_73 rfl ?_
        refine g6_5 dX6_spot_74 fl_X6_23 ?_
        refine ez_bipush dX6_spot_77 (by decide) (by decide) ?_
        refine ez_iload_n dX6_spot_79 rfl ?_
        refine ez_imul dX6_spot_80 (by omega) ?_
        refine ez_iload dX6_spot_81 rfl ?_
        refine ez_iadd dX6_spot_83 (by omega) ?_
        refine al125 dX6_spot_84 (by omega) ?_
        refine ez_iload_n dX6_spot_85 rfl ?_
        refine ez_ic_ne 91 dX6_spot_86 (by decide) (fun c_86 => ?_) (fun c_86 => ?_)
        · refine ez_iinc dX6_spot_91 rfl (by decide) (by decide) (by omega) ?_
          refine ez_goto 46 dX6_spot_94 (by decide) ?_
          refine ez_lessS (L' := [ez_R 121, ez_I p, ez_I px, ez_I py, ez_I ((i + 1 : Nat) : Int)]) ⟨Or.inr rfl, Or.inr rfl, Or.inr rfl, Or.inr rfl, Or.inr rfl, trivial⟩ ?_
          exact ih (i + 1) (by omega) (fun k k0 k1 => by by_cases e : k = i; (subst e; omega); exact en k k0 (by omega)) (by omega)
        · refine ez_iconst dX6_spot_89 (by decide) ?_
          refine ez_ireturn (st := []) dX6_spot_90 rfl ?_
          exact kq ⟨i, by omega, by omega, c_70, c_86⟩
theorem md_V.spot {h h' : ez_H} {p px py : Int} (v : md_V h) (hA : sp_spA (md_S h) p px py) (e0 : h' 121 0 = h 121 0) (e1 : h' 121 1 = h 121 1) (e2 : ∀ k : Int, h' 122 k = h 122 k) (e3 : ∀ k : Int, h' 123 k = if k = p then h 123 p + 1 else h 123 k) (e4 : ∀ k : Int, h' 124 k = if k = 8 * p + h 123 p then px else h 124 k) (e5 : ∀ k : Int, h' 125 k = if k = 8 * p + h 123 p then py else h 125 k) (e6 : ∀ x : Int, 0 ≤ x → x < 25 → h' 126 x = 0) : md_V h' ∧ md_S h' = sp_spS (md_S h) p px py := by
  obtain ⟨⟨p0, p1⟩, a1, a2, a3, a4⟩ := hA
  have p1' : p < h 121 0 := p1
  have v0 := v.1
  have hm := md_n2 v p0 p1'
  have wp := (v.2.2.1 p p0 p1').1
  have wp2 := wp.2.1
  -- another plate's places are not the new one
  have oth : ∀ q i : Int, 0 ≤ q → q < h 121 0 → q ≠ p → 0 ≤ i → i < h 123 q → h' 124 (8 * q + i) = h 124 (8 * q + i) ∧ h' 125 (8 * q + i) = h 125 (8 * q + i) := fun q i q0 q1 hq i0 i1 => by
    have := (v.2.2.1 q q0 q1).1.2.1
    rw [e4, e5, if_neg (by omega), if_neg (by omega)]
    exact ⟨rfl, rfl⟩
  constructor
  · refine md_V.new (by rw [e0]; exact v.1) (by rw [e1]; exact v.2.1) (fun q q0 q1 => ?_) (fun q r q0 q1 r0 r1 hqr => ?_) e6
    · rw [e0] at q1
      have w := v.2.2.1 q q0 q1
      rw [e2]
      refine ⟨⟨w.1.1, ?_, fun i i0 i1 => ?_⟩, w.2⟩
      · rw [e3]
        have := w.1.2.1
        split <;> omega
      · rw [e3] at i1
        by_cases c : q = p
        · rw [if_pos c] at i1
          rw [e4, e5]
          by_cases c2 : 8 * q + i = 8 * p + h 123 p
          · rw [if_pos c2, if_pos c2]
            exact ⟨a1, a2⟩
          · rw [if_neg c2, if_neg c2]
            exact w.1.2.2 i i0 (by rw [c] at *; omega)
        · rw [if_neg c] at i1
          have o1 := oth q i q0 q1 c i0 i1
          rw [o1.1, o1.2]
          exact w.1.2.2 i i0 i1
    · rw [e0] at q1 r1
      rw [e2, e2] at hqr
      exact v.2.2.2.1 q r q0 q1 r0 r1 hqr
  · have e2' : h' 122 = h 122 := funext e2
    have hpl := md_S_pl p0 p1'
    unfold sp_spS
    rw [hpl]
    unfold md_S sp_mk
    rw [e0, e1, e2']
    refine Prod.ext rfl (Prod.ext rfl (Prod.ext rfl (funext fun q => ?_)))
    dsimp only
    by_cases c : q = p
    · subst c
      rw [if_pos (show q = q from rfl), if_pos ⟨p0, p1'⟩, e3, if_pos rfl]
      refine Prod.ext (by dsimp only; omega) (Prod.ext (funext fun i => ?_) (funext fun i => ?_))
      · dsimp only
        by_cases c2 : i = ((h 123 q).toNat : Int)
        · rw [if_pos c2, if_pos (by omega), e4, if_pos (by omega)]
        · rw [if_neg c2]
          by_cases c3 : 0 ≤ i ∧ i < h 123 q
          · rw [if_pos c3, if_pos (by omega), e4, if_neg (by omega)]
          · rw [if_neg c3, if_neg (by omega)]
      · dsimp only
        by_cases c2 : i = ((h 123 q).toNat : Int)
        · rw [if_pos c2, if_pos (by omega), e5, if_pos (by omega)]
        · rw [if_neg c2]
          by_cases c3 : 0 ≤ i ∧ i < h 123 q
          · rw [if_pos c3, if_pos (by omega), e5, if_neg (by omega)]
          · rw [if_neg c3, if_neg (by omega)]
    · rw [if_neg c]
      by_cases c2 : 0 ≤ q ∧ q < h 121 0
      · rw [if_pos c2, if_pos c2, e3, if_neg c]
        refine Prod.ext rfl (Prod.ext (funext fun i => ?_) (funext fun i => ?_))
        · dsimp only
          by_cases c3 : 0 ≤ i ∧ i < h 123 q
          · rw [if_pos c3, if_pos c3, (oth q i c2.1 c2.2 c c3.1 c3.2).1]
          · rw [if_neg c3, if_neg c3]
        · dsimp only
          by_cases c3 : 0 ≤ i ∧ i < h 123 q
          · rw [if_pos c3, if_pos c3, (oth q i c2.1 c2.2 c c3.1 c3.2).2]
          · rw [if_neg c3, if_neg c3]
      · rw [if_neg c2, if_neg c2]
theorem c_X6_spot {p px py : Int} {h : ez_H} (v : md_V h) : ez_Ct M_X6_spot [ez_R 121, ez_I p, ez_I px, ez_I py] h (ez_PI (fun h' z => md_V h' ∧ mo_fr h h' ∧ ((sp_spA (md_S h) p px py ∧ z = (((md_S h).2.2.2 p).1 : Int) ∧ md_S h' = sp_spS (md_S h) p px py) ∨ (¬ sp_spA (md_S h) p px py ∧ z = -1 ∧ md_S h' = md_S h)))) := by
  have v0 := v.1
  refine ez_of (by decide) (Nat.le_of_ble_eq_true rfl) (L0 := [ez_R 121, ez_I p, ez_I px, ez_I py, ez_N]) rfl ?_
  refine ez_aload_n dX6_spot_0 rfl ?_
  refine ez_iload_n dX6_spot_1 rfl ?_
  refine cl_X6_isPlate dX6_spot_2 ml_X6_58 ft_X6_spot__X6_isPlate (Nat.le_of_ble_eq_true rfl) (c_X6_isPlate v.1) (ez_kB (fun b_2 => ?_) (fun b_2 => ?_))
  · have hw := (v.2.2.1 p b_2.1 b_2.2).1
    have hw2 := hw.2.1
    have hm := md_n2 v b_2.1 b_2.2
    refine ez_if_eq 41 dX6_spot_5 (by decide) (fun c_5 => ?_) (fun c_5 => ?_)
    · exact absurd c_5 (by decide)
    · refine ez_iload_n dX6_spot_8 rfl ?_
      refine ez_iconst dX6_spot_9 (by decide) ?_
      refine ez_sipush dX6_spot_10 (by decide) (by decide) ?_
      refine cl_X6_isIn dX6_spot_13 ml_X6_51 ft_X6_spot__X6_isIn (Nat.le_of_ble_eq_true rfl) c_X6_isIn (ez_kB (fun b_13 => ?_) (fun b_13 => ?_))
      · refine ez_if_eq 41 dX6_spot_16 (by decide) (fun c_16 => ?_) (fun c_16 => ?_)
        · exact absurd c_16 (by decide)
        · refine ez_iload_n dX6_spot_19 rfl ?_
          refine ez_iconst dX6_spot_20 (by decide) ?_
          refine ez_sipush dX6_spot_21 (by decide) (by decide) ?_
          refine cl_X6_isIn dX6_spot_24 ml_X6_51 ft_X6_spot__X6_isIn (Nat.le_of_ble_eq_true rfl) c_X6_isIn (ez_kB (fun b_24 => ?_) (fun b_24 => ?_))
          · refine ez_if_eq 41 dX6_spot_27 (by decide) (fun c_27 => ?_) (fun c_27 => ?_)
            · exact absurd c_27 (by decide)
            · refine ez_aload_n dX6_spot_30 rfl ?_
              refine g6_3 dX6_spot_31 fl_X6_17 ?_
              refine ez_iload_n dX6_spot_34 rfl ?_
              refine al123 dX6_spot_35 (by omega) ?_
              refine ez_bipush dX6_spot_36 (by decide) (by decide) ?_
              refine ez_ic_ne 43 dX6_spot_38 (by decide) (fun c_38 => ?_) (fun c_38 => ?_)
              · refine ez_iconst dX6_spot_43 (by decide) ?_
                refine ez_istore dX6_spot_44 (by decide) ?_
                refine lp_sp (by omega) hw2 (fun hq => ?_) (fun hno => ?_) 9 0 (by omega) (fun q q0 q1 => absurd q1 (by omega)) (by omega)
                · obtain ⟨k, k0, k1, k2, k3⟩ := hq
                  have xy := md_xy v b_2 ⟨k0, k1⟩
                  exact ez_PI.in ⟨v, mo_fr.rf h, Or.inr ⟨fun z => z.2.2.2.2 k k0 (by omega) ⟨xy.1.1.trans k2, xy.1.2.trans k3⟩, rfl, rfl⟩⟩
                have hA : sp_spA (md_S h) p px py := ⟨b_2, b_13, b_24, by omega, fun k k0 k1 hk => by
                    have xy := md_xy v b_2 (j := k) ⟨k0, by omega⟩
                    rw [xy.1.1, xy.1.2] at hk
                    exact hno k k0 (by omega) hk⟩
                refine ez_aload_n dX6_spot_97 rfl ?_
                refine g6_4 dX6_spot_98 fl_X6_20 ?_
                refine ez_bipush dX6_spot_101 (by decide) (by decide) ?_
                refine ez_iload_n dX6_spot_103 rfl ?_
                refine ez_imul dX6_spot_104 (by omega) ?_
                refine ez_aload_n dX6_spot_105 rfl ?_
                refine g6_3 dX6_spot_106 fl_X6_17 ?_
                refine ez_iload_n dX6_spot_109 rfl ?_
                refine al123 dX6_spot_110 (by omega) ?_
                refine ez_iadd dX6_spot_111 (by omega) ?_
                refine ez_iload_n dX6_spot_112 rfl ?_
                refine as124 dX6_spot_113 (by omega) ?_
                refine ez_aload_n dX6_spot_114 rfl ?_
                refine g6_5 dX6_spot_115 fl_X6_23 ?_
                refine ez_bipush dX6_spot_118 (by decide) (by decide) ?_
                refine ez_iload_n dX6_spot_120 rfl ?_
                refine ez_imul dX6_spot_121 (by omega) ?_
                refine ez_aload_n dX6_spot_122 rfl ?_
                refine g6_3 dX6_spot_123 fl_X6_17 ?_
                refine ez_iload_n dX6_spot_126 rfl ?_
                refine al123 dX6_spot_127 (by omega) ?_
                refine ez_iadd dX6_spot_128 (by rw [show ez_up h 124 (8 * p + h 123 p) px 123 p = h 123 p from ez_up_ne (by omega)]; omega) ?_
                refine ez_iload_n dX6_spot_129 rfl ?_
                rw [show ez_up h 124 (8 * p + h 123 p) px 123 p = h 123 p from ez_up_ne (by omega)]
                refine as125 dX6_spot_130 (by omega) ?_
                refine ez_aload_n dX6_spot_131 rfl ?_
                refine g6_3 dX6_spot_132 fl_X6_17 ?_
                refine ez_iload_n dX6_spot_135 rfl ?_
                refine ez_dup2 dX6_spot_136 rfl rfl ?_
                refine al123 dX6_spot_137 (by omega) ?_
                refine ez_iconst dX6_spot_138 (by decide) ?_
                refine ez_iadd dX6_spot_139 (by rw [show ez_up (ez_up h 124 (8 * p + h 123 p) px) 125 (8 * p + h 123 p) py 123 p = h 123 p from (ez_up_ne (by omega)).trans (ez_up_ne (by omega))]; omega) ?_
                rw [show ez_up (ez_up h 124 (8 * p + h 123 p) px) 125 (8 * p + h 123 p) py 123 p = h 123 p from (ez_up_ne (by omega)).trans (ez_up_ne (by omega))]
                refine as123 dX6_spot_140 (by omega) ?_
                refine ez_aload_n dX6_spot_141 rfl ?_
                refine cl_X6_forgets dX6_spot_142 ml_X6_55 ft_X6_spot__X6_forgets (Nat.le_of_ble_eq_true rfl) c_X6_forgets (ez_kS ?_)
                refine ez_aload_n dX6_spot_145 rfl ?_
                refine g6_3 dX6_spot_146 fl_X6_17 ?_
                refine ez_iload_n dX6_spot_149 rfl ?_
                refine al123 dX6_spot_150 (by omega) ?_
                refine ez_iconst dX6_spot_151 (by decide) ?_
                refine ez_isub dX6_spot_152 (by rw [show ez_fill (ez_up (ez_up (ez_up h 124 (8 * p + h 123 p) px) 125 (8 * p + h 123 p) py) 123 p (h 123 p + 1)) 126 25 0 123 p = h 123 p + 1 from (ez_fill_out (by omega)).trans ez_up_eq]; omega) ?_
                have hz : ez_fill (ez_up (ez_up (ez_up h 124 (8 * p + h 123 p) px) 125 (8 * p + h 123 p) py) 123 p (h 123 p + 1)) 126 25 0 123 p = h 123 p + 1 := (ez_fill_out (by omega)).trans ez_up_eq
                rw [hz]
                refine ez_ireturn (st := []) dX6_spot_153 rfl ?_
                have hVS := v.spot (h' := ez_fill (ez_up (ez_up (ez_up h 124 (8 * p + h 123 p) px) 125 (8 * p + h 123 p) py) 123 p (h 123 p + 1)) 126 25 0) hA ((ez_fill_out (by omega)).trans ((ez_up_ne (by omega)).trans ((ez_up_ne (by omega)).trans (ez_up_ne (by omega))))) ((ez_fill_out (by omega)).trans ((ez_up_ne (by omega)).trans ((ez_up_ne (by omega)).trans (ez_up_ne (by omega))))) (fun k => (ez_fill_out (by omega)).trans ((ez_up_ne (by omega)).trans ((ez_up_ne (by omega)).trans (ez_up_ne (by omega))))) (fun k => ?_) (fun k => ?_) (fun k => ?_) (fun x x0 x1 => ez_fill_in x0 x1)
                · exact ez_PI.in ⟨hVS.1, fun o k ho => (ez_fill_out (by omega)).trans ((ez_up_ne (by omega)).trans ((ez_up_ne (by omega)).trans (ez_up_ne (by omega)))), Or.inl ⟨hA, by omega, hVS.2⟩⟩
                · rw [ez_fill_out (by omega)]
                  unfold ez_up
                  by_cases q : k = p
                  · rw [if_pos ⟨rfl, q⟩, if_pos q]
                  · rw [if_neg (fun z => q z.2), if_neg q, if_neg (by omega), if_neg (by omega)]
                · rw [ez_fill_out (by omega), ez_up_ne (by omega), ez_up_ne (by omega)]
                  unfold ez_up
                  by_cases q : k = 8 * p + h 123 p
                  · rw [if_pos ⟨rfl, q⟩, if_pos q]
                  · rw [if_neg (fun z => q z.2), if_neg q]
                · rw [ez_fill_out (by omega), ez_up_ne (by omega)]
                  unfold ez_up
                  by_cases q : k = 8 * p + h 123 p
                  · rw [if_pos ⟨rfl, q⟩, if_pos q]
                  · rw [if_neg (fun z => q z.2), if_neg q, if_neg (by omega)]
              · refine ez_iconst dX6_spot_41 (by decide) ?_
                refine ez_ireturn (st := []) dX6_spot_42 rfl ?_
                first
                  | exact ez_PI.in ⟨v, mo_fr.rf h, Or.inr ⟨fun q => b_24 q.2.2.1, rfl, rfl⟩⟩
                  | exact ez_PI.in ⟨v, mo_fr.rf h, Or.inr ⟨fun q => b_13 q.2.1, rfl, rfl⟩⟩
                  | exact ez_PI.in ⟨v, mo_fr.rf h, Or.inr ⟨fun q => b_2 q.1, rfl, rfl⟩⟩
                  | exact ez_PI.in ⟨v, mo_fr.rf h, Or.inr ⟨fun q => by have := q.2.2.2.1; omega, rfl, rfl⟩⟩
          · refine ez_if_eq 41 dX6_spot_27 (by decide) (fun c_27 => ?_) (fun c_27 => ?_)
            · refine ez_iconst dX6_spot_41 (by decide) ?_
              refine ez_ireturn (st := []) dX6_spot_42 rfl ?_
              first
                | exact ez_PI.in ⟨v, mo_fr.rf h, Or.inr ⟨fun q => b_24 q.2.2.1, rfl, rfl⟩⟩
                | exact ez_PI.in ⟨v, mo_fr.rf h, Or.inr ⟨fun q => b_13 q.2.1, rfl, rfl⟩⟩
                | exact ez_PI.in ⟨v, mo_fr.rf h, Or.inr ⟨fun q => b_2 q.1, rfl, rfl⟩⟩
                | exact ez_PI.in ⟨v, mo_fr.rf h, Or.inr ⟨fun q => by have := q.2.2.2.1; omega, rfl, rfl⟩⟩
            · exact absurd c_27 (by decide)
      · refine ez_if_eq 41 dX6_spot_16 (by decide) (fun c_16 => ?_) (fun c_16 => ?_)
        · refine ez_iconst dX6_spot_41 (by decide) ?_
          refine ez_ireturn (st := []) dX6_spot_42 rfl ?_
          first
            | exact ez_PI.in ⟨v, mo_fr.rf h, Or.inr ⟨fun q => b_24 q.2.2.1, rfl, rfl⟩⟩
            | exact ez_PI.in ⟨v, mo_fr.rf h, Or.inr ⟨fun q => b_13 q.2.1, rfl, rfl⟩⟩
            | exact ez_PI.in ⟨v, mo_fr.rf h, Or.inr ⟨fun q => b_2 q.1, rfl, rfl⟩⟩
            | exact ez_PI.in ⟨v, mo_fr.rf h, Or.inr ⟨fun q => by have := q.2.2.2.1; omega, rfl, rfl⟩⟩
        · exact absurd c_16 (by decide)
  · refine ez_if_eq 41 dX6_spot_5 (by decide) (fun c_5 => ?_) (fun c_5 => ?_)
    · refine ez_iconst dX6_spot_41 (by decide) ?_
      refine ez_ireturn (st := []) dX6_spot_42 rfl ?_
      first
        | exact ez_PI.in ⟨v, mo_fr.rf h, Or.inr ⟨fun q => b_24 q.2.2.1, rfl, rfl⟩⟩
        | exact ez_PI.in ⟨v, mo_fr.rf h, Or.inr ⟨fun q => b_13 q.2.1, rfl, rfl⟩⟩
        | exact ez_PI.in ⟨v, mo_fr.rf h, Or.inr ⟨fun q => b_2 q.1, rfl, rfl⟩⟩
        | exact ez_PI.in ⟨v, mo_fr.rf h, Or.inr ⟨fun q => by have := q.2.2.2.1; omega, rfl, rfl⟩⟩
    · exact absurd c_5 (by decide)
theorem lp_wi {p i m : Int} {h : ez_H} {Q : ez_H → Option ez_V → Prop} (hp : 0 ≤ p ∧ p < 5) (hm : h 123 p = m) (hm8 : m ≤ 7) (hi : 0 ≤ i) (kx : ∀ h' : ez_H, (∀ o x : Int, o ≠ 124 → o ≠ 125 → h' o x = h o x) → (∀ x : Int, h' 124 x = if 8 * p + i ≤ x ∧ x < 8 * p + m then h 124 (x + 1) else h 124 x) → (∀ x : Int, h' 125 x = if 8 * p + i ≤ x ∧ x < 8 * p + m then h 125 (x + 1) else h 125 x) → ez_En M_X6_wipe 102 [ez_R 121, ez_I p, ez_I i, ez_N] [] h' Q) : ∀ (n : Nat) (k : Int) (h' : ez_H), (i ≤ k) → (k ≤ m) → (∀ o x : Int, o ≠ 124 → o ≠ 125 → h' o x = h o x) → (∀ x : Int, h' 124 x = if 8 * p + i ≤ x ∧ x < 8 * p + k then h 124 (x + 1) else h 124 x) → (∀ x : Int, h' 125 x = if 8 * p + i ≤ x ∧ x < 8 * p + k then h 125 (x + 1) else h 125 x) → m - k < n → ez_En M_X6_wipe 38 [ez_R 121, ez_I p, ez_I i, ez_I k] [] h' Q := by
  intro n
  induction n with
  | zero =>
    intro k h' k0 k1 ag a4 a5 hm
    exfalso
    omega
  | succ n ih =>
    intro k h' k0 k1 ag a4 a5 hm
    have em := ag 123 p (by decide) (by decide)
    refine ez_iload_n dX6_wipe_38 rfl ?_
    refine ez_aload_n dX6_wipe_39 rfl ?_
    refine g6_3 dX6_wipe_40 fl_X6_17 ?_
    refine ez_iload_n dX6_wipe_43 rfl ?_
    refine al123 dX6_wipe_44 (by omega) ?_
    refine ez_ic_ge 102 dX6_wipe_45 (by decide) (fun c_45 => ?_) (fun c_45 => ?_)
    · refine ez_lessS (L' := [ez_R 121, ez_I p, ez_I i, ez_N]) ⟨Or.inr rfl, Or.inr rfl, Or.inr rfl, Or.inl rfl, trivial⟩ ?_
      exact kx h' ag (by rw [show m = k by omega]; exact a4) (by rw [show m = k by omega]; exact a5)
    · have em := ag 123 p (by decide) (by decide)
      refine ez_aload_n dX6_wipe_48 rfl ?_
      refine g6_4 dX6_wipe_49 fl_X6_20 ?_
      refine ez_bipush dX6_wipe_52 (by decide) (by decide) ?_
      refine ez_iload_n dX6_wipe_54 rfl ?_
      refine ez_imul dX6_wipe_55 (by omega) ?_
      refine ez_iload_n dX6_wipe_56 rfl ?_
      refine ez_iadd dX6_wipe_57 (by omega) ?_
      refine ez_aload_n dX6_wipe_58 rfl ?_
      refine g6_4 dX6_wipe_59 fl_X6_20 ?_
      refine ez_bipush dX6_wipe_62 (by decide) (by decide) ?_
      refine ez_iload_n dX6_wipe_64 rfl ?_
      refine ez_imul dX6_wipe_65 (by omega) ?_
      refine ez_iload_n dX6_wipe_66 rfl ?_
      refine ez_iadd dX6_wipe_67 (by omega) ?_
      refine ez_iconst dX6_wipe_68 (by decide) ?_
      refine ez_iadd dX6_wipe_69 (by omega) ?_
      refine al124 dX6_wipe_70 (by omega) ?_
      refine as124 dX6_wipe_71 (by omega) ?_
      have u5 : ∀ x z : Int, ez_up h' 124 (8 * p + k) z 125 x = h' 125 x := fun x z => ez_up_ne (by omega)
      refine ez_aload_n dX6_wipe_72 rfl ?_
      refine g6_5 dX6_wipe_73 fl_X6_23 ?_
      refine ez_bipush dX6_wipe_76 (by decide) (by decide) ?_
      refine ez_iload_n dX6_wipe_78 rfl ?_
      refine ez_imul dX6_wipe_79 (by omega) ?_
      refine ez_iload_n dX6_wipe_80 rfl ?_
      refine ez_iadd dX6_wipe_81 (by omega) ?_
      refine ez_aload_n dX6_wipe_82 rfl ?_
      refine g6_5 dX6_wipe_83 fl_X6_23 ?_
      refine ez_bipush dX6_wipe_86 (by decide) (by decide) ?_
      refine ez_iload_n dX6_wipe_88 rfl ?_
      refine ez_imul dX6_wipe_89 (by omega) ?_
      refine ez_iload_n dX6_wipe_90 rfl ?_
      refine ez_iadd dX6_wipe_91 (by omega) ?_
      refine ez_iconst dX6_wipe_92 (by decide) ?_
      refine ez_iadd dX6_wipe_93 (by omega) ?_
      refine al125 dX6_wipe_94 (by omega) ?_
      refine as125 dX6_wipe_95 (by omega) ?_
      refine ez_iinc dX6_wipe_96 rfl (by decide) (by decide) (by omega) ?_
      refine ez_goto 38 dX6_wipe_99 (by decide) ?_
      refine ez_lessS (L' := [ez_R 121, ez_I p, ez_I i, ez_I (k + 1)]) ⟨Or.inr rfl, Or.inr rfl, Or.inr rfl, Or.inr rfl, trivial⟩ ?_
      refine ih (k + 1) _ (by omega) (by omega) (fun o x h4 h5 => (ez_up_ne (by omega)).trans ((ez_up_ne (by omega)).trans (ag o x h4 h5))) (fun x => ?_) (fun x => ?_) (by omega)
      · rw [ez_up_ne (by omega)]
        by_cases q : x = 8 * p + k
        · subst q
          rw [ez_up_eq, if_pos (by omega), a4, if_neg (by omega)]
        · rw [ez_up_ne (by omega), a4]
          by_cases q2 : 8 * p + i ≤ x ∧ x < 8 * p + k
          · rw [if_pos q2, if_pos (by omega)]
          · rw [if_neg q2, if_neg (by omega)]
      · by_cases q : x = 8 * p + k
        · subst q
          rw [ez_up_eq, if_pos (by omega), u5, a5, if_neg (by omega)]
        · rw [ez_up_ne (by omega), u5, a5]
          by_cases q2 : 8 * p + i ≤ x ∧ x < 8 * p + k
          · rw [if_pos q2, if_pos (by omega)]
          · rw [if_neg q2, if_neg (by omega)]
theorem md_V.wipe {h h' : ez_H} {p i : Int} (v : md_V h) (hA : sp_wiA (md_S h) p i) (e0 : h' 121 0 = h 121 0) (e1 : h' 121 1 = h 121 1) (e2 : ∀ k : Int, h' 122 k = h 122 k) (e3 : ∀ k : Int, h' 123 k = if k = p then h 123 p - 1 else h 123 k) (e4 : ∀ k : Int, h' 124 k = if 8 * p + i ≤ k ∧ k < 8 * p + (h 123 p - 1) then h 124 (k + 1) else h 124 k) (e5 : ∀ k : Int, h' 125 k = if 8 * p + i ≤ k ∧ k < 8 * p + (h 123 p - 1) then h 125 (k + 1) else h 125 k) (e6 : ∀ x : Int, 0 ≤ x → x < 25 → h' 126 x = 0) : md_V h' ∧ md_S h' = sp_wiS (md_S h) p i := by
  obtain ⟨⟨p0, p1⟩, i0, i1⟩ := hA
  have p1' : p < h 121 0 := p1
  have v0 := v.1
  have hm := md_n2 v p0 p1'
  have wp := (v.2.2.1 p p0 p1').1
  have wp2 := wp.2.1
  have oth : ∀ q j : Int, 0 ≤ q → q < h 121 0 → q ≠ p → 0 ≤ j → j < h 123 q → h' 124 (8 * q + j) = h 124 (8 * q + j) ∧ h' 125 (8 * q + j) = h 125 (8 * q + j) := fun q j q0 q1 hq j0 j1 => by
    have := (v.2.2.1 q q0 q1).1.2.1
    rw [e4, e5, if_neg (by omega), if_neg (by omega)]
    exact ⟨rfl, rfl⟩
  have own : ∀ j : Int, 0 ≤ j → j < h 123 p - 1 → h' 124 (8 * p + j) = (if j < i then h 124 (8 * p + j) else h 124 (8 * p + (j + 1))) ∧ h' 125 (8 * p + j) = (if j < i then h 125 (8 * p + j) else h 125 (8 * p + (j + 1))) := fun j j0 j1 => by
    rw [e4, e5]
    by_cases c : j < i
    · rw [if_pos c, if_pos c, if_neg (by omega), if_neg (by omega)]
      exact ⟨rfl, rfl⟩
    · rw [if_neg c, if_neg c, if_pos (by omega), if_pos (by omega), show 8 * p + j + 1 = 8 * p + (j + 1) by omega]
      exact ⟨rfl, rfl⟩
  constructor
  · refine md_V.new (by rw [e0]; exact v.1) (by rw [e1]; exact v.2.1) (fun q q0 q1 => ?_) (fun q r q0 q1 r0 r1 hqr => ?_) e6
    · rw [e0] at q1
      have w := v.2.2.1 q q0 q1
      rw [e2]
      refine ⟨⟨w.1.1, ?_, fun j j0 j1 => ?_⟩, w.2⟩
      · rw [e3]
        have := w.1.2.1
        split <;> omega
      · rw [e3] at j1
        by_cases c : q = p
        · rw [if_pos c] at j1
          subst c
          rw [(own j j0 j1).1, (own j j0 j1).2]
          by_cases c2 : j < i
          · rw [if_pos c2, if_pos c2]
            exact w.1.2.2 j j0 (by omega)
          · rw [if_neg c2, if_neg c2]
            exact w.1.2.2 (j + 1) (by omega) (by omega)
        · rw [if_neg c] at j1
          have o1 := oth q j q0 q1 c j0 j1
          rw [o1.1, o1.2]
          exact w.1.2.2 j j0 j1
    · rw [e0] at q1 r1
      rw [e2, e2] at hqr
      exact v.2.2.2.1 q r q0 q1 r0 r1 hqr
  · have e2' : h' 122 = h 122 := funext e2
    have hpl := md_S_pl p0 p1'
    unfold sp_wiS
    rw [hpl]
    unfold md_S sp_mk
    rw [e0, e1, e2']
    refine Prod.ext rfl (Prod.ext rfl (Prod.ext rfl (funext fun q => ?_)))
    dsimp only
    by_cases c : q = p
    · subst c
      rw [if_pos (show q = q from rfl), if_pos ⟨p0, p1'⟩, e3, if_pos rfl]
      refine Prod.ext (by dsimp only; omega) (Prod.ext (funext fun j => ?_) (funext fun j => ?_))
      · dsimp only
        by_cases c3 : 0 ≤ j ∧ j < h 123 q - 1
        · rw [if_pos c3, (own j c3.1 c3.2).1]
          by_cases c2 : j < i
          · rw [if_pos c2, if_pos c2, if_pos (by omega)]
          · rw [if_neg c2, if_neg c2, if_pos (by omega)]
        · rw [if_neg c3]
          by_cases c2 : j < i
          · rw [if_pos c2, if_neg (by omega)]
          · rw [if_neg c2, if_neg (by omega)]
      · dsimp only
        by_cases c3 : 0 ≤ j ∧ j < h 123 q - 1
        · rw [if_pos c3, (own j c3.1 c3.2).2]
          by_cases c2 : j < i
          · rw [if_pos c2, if_pos c2, if_pos (by omega)]
          · rw [if_neg c2, if_neg c2, if_pos (by omega)]
        · rw [if_neg c3]
          by_cases c2 : j < i
          · rw [if_pos c2, if_neg (by omega)]
          · rw [if_neg c2, if_neg (by omega)]
    · rw [if_neg c]
      by_cases c2 : 0 ≤ q ∧ q < h 121 0
      · rw [if_pos c2, if_pos c2, e3, if_neg c]
        refine Prod.ext rfl (Prod.ext (funext fun j => ?_) (funext fun j => ?_))
        · dsimp only
          by_cases c3 : 0 ≤ j ∧ j < h 123 q
          · rw [if_pos c3, if_pos c3, (oth q j c2.1 c2.2 c c3.1 c3.2).1]
          · rw [if_neg c3, if_neg c3]
        · dsimp only
          by_cases c3 : 0 ≤ j ∧ j < h 123 q
          · rw [if_pos c3, if_pos c3, (oth q j c2.1 c2.2 c c3.1 c3.2).2]
          · rw [if_neg c3, if_neg c3]
      · rw [if_neg c2, if_neg c2]
theorem c_X6_wipe {p i : Int} {h : ez_H} (v : md_V h) : ez_Ct M_X6_wipe [ez_R 121, ez_I p, ez_I i] h (ez_PB (fun h' => md_V h' ∧ mo_fr h h' ∧ (sp_wiA (md_S h) p i → md_S h' = sp_wiS (md_S h) p i) ∧ (¬ sp_wiA (md_S h) p i → md_S h' = md_S h)) (sp_wiA (md_S h) p i)) := by
  have v0 := v.1
  refine ez_of (by decide) (Nat.le_of_ble_eq_true rfl) (L0 := [ez_R 121, ez_I p, ez_I i, ez_N]) rfl ?_
  refine ez_aload_n dX6_wipe_0 rfl ?_
  refine ez_iload_n dX6_wipe_1 rfl ?_
  refine cl_X6_isPlate dX6_wipe_2 ml_X6_58 ft_X6_wipe__X6_isPlate (Nat.le_of_ble_eq_true rfl) (c_X6_isPlate v.1) (ez_kB (fun b_2 => ?_) (fun b_2 => ?_))
  · have hw := (v.2.2.1 p b_2.1 b_2.2).1
    have hw2 := hw.2.1
    have hm := md_n2 v b_2.1 b_2.2
    refine ez_if_eq 24 dX6_wipe_5 (by decide) (fun c_5 => ?_) (fun c_5 => ?_)
    · exact absurd c_5 (by decide)
    · refine ez_iload_n dX6_wipe_8 rfl ?_
      refine ez_iconst dX6_wipe_9 (by decide) ?_
      refine ez_aload_n dX6_wipe_10 rfl ?_
      refine g6_3 dX6_wipe_11 fl_X6_17 ?_
      refine ez_iload_n dX6_wipe_14 rfl ?_
      refine al123 dX6_wipe_15 (by omega) ?_
      refine ez_iconst dX6_wipe_16 (by decide) ?_
      refine ez_isub dX6_wipe_17 (by omega) ?_
      refine cl_X6_isIn dX6_wipe_18 ml_X6_51 ft_X6_wipe__X6_isIn (Nat.le_of_ble_eq_true rfl) c_X6_isIn (ez_kB (fun b_18 => ?_) (fun b_18 => ?_))
      · refine ez_if_ne 26 dX6_wipe_21 (by decide) (fun c_21 => ?_) (fun c_21 => ?_)
        · refine ez_aload_n dX6_wipe_26 rfl ?_
          refine g6_3 dX6_wipe_27 fl_X6_17 ?_
          refine ez_iload_n dX6_wipe_30 rfl ?_
          refine ez_dup2 dX6_wipe_31 rfl rfl ?_
          refine al123 dX6_wipe_32 (by omega) ?_
          refine ez_iconst dX6_wipe_33 (by decide) ?_
          refine ez_isub dX6_wipe_34 (by omega) ?_
          refine as123 dX6_wipe_35 (by omega) ?_
          refine ez_iload_n dX6_wipe_36 rfl ?_
          refine ez_istore_n dX6_wipe_37 (by decide) ?_
          refine lp_wi (h := ez_up h 123 p (h 123 p - 1)) (m := h 123 p - 1) (by omega) ez_up_eq (by omega) (by omega) (fun h' ag a4 a5 => ?_) 9 i _ (by omega) (by omega) (fun _ _ _ _ => rfl) (fun x => (if_neg (by omega)).symm) (fun x => (if_neg (by omega)).symm) (by omega)
          have hA : sp_wiA (md_S h) p i := ⟨b_2, by omega, by omega⟩
          refine ez_aload_n dX6_wipe_102 rfl ?_
          refine cl_X6_forgets dX6_wipe_103 ml_X6_55 ft_X6_wipe__X6_forgets (Nat.le_of_ble_eq_true rfl) c_X6_forgets (ez_kS ?_)
          refine ez_iconst dX6_wipe_106 (by decide) ?_
          refine ez_zreturn (st := []) dX6_wipe_107 rfl (by first | exact Or.inl rfl | exact Or.inr rfl | omega | (split <;> omega)) ?_
          have hVS := v.wipe (h' := ez_fill h' 126 25 0) hA ((ez_fill_out (by omega)).trans ((ag _ _ (by decide) (by decide)).trans (ez_up_ne (by omega)))) ((ez_fill_out (by omega)).trans ((ag _ _ (by decide) (by decide)).trans (ez_up_ne (by omega)))) (fun k => (ez_fill_out (by omega)).trans ((ag _ _ (by decide) (by decide)).trans (ez_up_ne (by omega)))) (fun k => ?_) (fun k => ?_) (fun k => ?_) (fun x x0 x1 => ez_fill_in x0 x1)
          · exact ez_PB.t ⟨hVS.1, fun o k ho => (ez_fill_out (by omega)).trans ((ag o k (by omega) (by omega)).trans (ez_up_ne (by omega))), fun _ => hVS.2, fun q => absurd hA q⟩ hA
          · rw [ez_fill_out (by omega), ag 123 k (by decide) (by decide)]
            unfold ez_up
            by_cases q : k = p
            · rw [if_pos ⟨rfl, q⟩, if_pos q]
            · rw [if_neg (fun z => q z.2), if_neg q]
          · rw [ez_fill_out (by omega), a4]
            have u4 : ∀ x : Int, ez_up h 123 p (h 123 p - 1) 124 x = h 124 x := fun x => ez_up_ne (by omega)
            rw [u4, u4]
          · rw [ez_fill_out (by omega), a5]
            have u5 : ∀ x : Int, ez_up h 123 p (h 123 p - 1) 125 x = h 125 x := fun x => ez_up_ne (by omega)
            rw [u5, u5]
        · exact absurd c_21 (by decide)
      · refine ez_if_ne 26 dX6_wipe_21 (by decide) (fun c_21 => ?_) (fun c_21 => ?_)
        · exact absurd c_21 (by decide)
        · refine ez_iconst dX6_wipe_24 (by decide) ?_
          refine ez_zreturn (st := []) dX6_wipe_25 rfl (by first | exact Or.inl rfl | exact Or.inr rfl | omega | (split <;> omega)) ?_
          first
            | exact ez_PB.f ⟨v, mo_fr.rf h, fun q => absurd q (fun z => b_18 (by have := z.2; omega)), fun _ => rfl⟩ (fun z => b_18 (by have := z.2; omega))
            | exact ez_PB.f ⟨v, mo_fr.rf h, fun q => absurd q.1 b_2, fun _ => rfl⟩ (fun z => b_2 z.1)
  · refine ez_if_eq 24 dX6_wipe_5 (by decide) (fun c_5 => ?_) (fun c_5 => ?_)
    · refine ez_iconst dX6_wipe_24 (by decide) ?_
      refine ez_zreturn (st := []) dX6_wipe_25 rfl (by first | exact Or.inl rfl | exact Or.inr rfl | omega | (split <;> omega)) ?_
      first
        | exact ez_PB.f ⟨v, mo_fr.rf h, fun q => absurd q (fun z => b_18 (by have := z.2; omega)), fun _ => rfl⟩ (fun z => b_18 (by have := z.2; omega))
        | exact ez_PB.f ⟨v, mo_fr.rf h, fun q => absurd q.1 b_2, fun _ => rfl⟩ (fun z => b_2 z.1)
    · exact absurd c_5 (by decide)
