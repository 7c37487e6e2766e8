def fi_Q (k s : Int) (k' s' _i' _j' : Int) : Prop := k' < k ∨ (k' = k ∧ s' < s)
theorem fi_Q_0 {h : ez_H} {A B : bl_P} {k s : Int} : ∀ k' s' i' j' : Int, bl_ok A B k' s' i' j' → (fi_P h k s 0 k' s' i' j' ↔ fi_Q k s k' s' i' j') := fun k' s' i' j' _ => by
  unfold fi_Q fi_P
  constructor
  · rintro (q | ⟨-, -, m, m0, -⟩)
    · exact q
    · omega
  · exact fun q => Or.inl q
theorem fi_Q_1 {h : ez_H} {A B : bl_P} {k s : Int} (L : ft_L h A B k s) : ∀ k' s' i' j' : Int, bl_ok A B k' s' i' j' → (fi_Q k (s + 1) k' s' i' j' ↔ fi_P h k s (h 93 8) k' s' i' j') := fun k' s' i' j' ok => by
  unfold fi_Q fi_P
  constructor
  · intro q
    by_cases e : k' = k ∧ s' = s
    · obtain ⟨n, n0, n1, n2⟩ := L.a i' j' ok.2.2.1.1 ok.2.2.1.2 ok.2.2.2.1 ok.2.2.2.2
      exact Or.inr ⟨e.1, e.2, n, n0, n1, n2⟩
    · left
      omega
  · rintro (q | ⟨q1, q2, -⟩) <;> omega
theorem fi_Q_2 {A B : bl_P} {k : Int} : ∀ k' s' i' j' : Int, bl_ok A B k' s' i' j' → (fi_Q (k + 1) 1 k' s' i' j' ↔ fi_Q k 4 k' s' i' j') := fun k' s' i' j' ok => by
  have := ok.2.1
  unfold fi_Q
  omega
theorem fi_Q_3 {A B : bl_P} : ∀ k' s' i' j' : Int, bl_ok A B k' s' i' j' → (True ↔ fi_Q 4 1 k' s' i' j') := fun k' s' i' j' ok => by
  have := ok.1
  unfold fi_Q
  constructor
  · intro
    omega
  · exact fun _ => trivial
/-- what fit leaves alone -/
def ft_fr (h h' : ez_H) (o : Int) : Prop := ∀ o' x : Int, ¬ (o' = o ∧ 1 ≤ x ∧ x ≤ 6) → o' ≠ o + 1 → o' ≠ o + 2 → ¬ (o' = 93 ∧ 8 ≤ x ∧ x ≤ 11) → (o' < 94 ∨ 109 < o') → h' o' x = h o' x
theorem ft_fr.tr {h h1 h2 : ez_H} {o : Int} (f1 : ft_fr h h1 o) (f2 : ft_fr h1 h2 o) : ft_fr h h2 o := fun o' x a b c d e => (f2 o' x a b c d e).trans (f1 o' x a b c d e)

theorem lp_ft1 {oa ob o R : Int} {h : ez_H} (WA : cd_W h oa) (WB : cd_W h ob) (ho : ez_isL o) (hb : 18 ≤ o ∧ o ≤ 90) (hR : 0 ≤ R ∧ R ≤ 50) {k : Int} (hk : 0 ≤ k ∧ k < 4) {Q : ez_H → Option ez_V → Prop} (kx : ∀ h', fi_I h' o R (cd_P h oa) (cd_P h ob) (fi_Q (k + 1) 1) → ft_fr h h' o → h' 93 9 = R → ez_En M_X0_fit 70 [ez_R 93, ez_R oa, ez_R ob, ez_I R, ez_R o, ez_I k, ez_N] [] h' Q) : ∀ (n : Nat) (s : Int) (h' : ez_H), (1 ≤ s ∧ s ≤ 4) → (fi_I h' o R (cd_P h oa) (cd_P h ob) (fi_Q k s)) → (ft_fr h h' o) → (h' 93 9 = R) → 5 - s < n → ez_En M_X0_fit 22 [ez_R 93, ez_R oa, ez_R ob, ez_I R, ez_R o, ez_I k, ez_I s] [] h' Q := by
  intro n
  induction n with
  | zero =>
    intro s h' s0 I fr r9 hm
    exfalso
    omega
  | succ n ih =>
    intro s h' s0 I fr r9 hm
    have la := WA.l
    have lb := WB.l
    have pa := WA.p
    have pb := WB.p
    have WA' := WA.eq (h' := h') (fun o' x a b => fr o' x (by omega) (by omega) (by omega) (by omega) (by omega))
    have WB' := WB.eq (h' := h') (fun o' x a b => fr o' x (by omega) (by omega) (by omega) (by omega) (by omega))
    refine ez_iload dX0_fit_22 rfl ?_
    refine ez_iconst dX0_fit_24 (by decide) ?_
    refine ez_ic_gt 70 dX0_fit_25 (by decide) (fun c_25 => ?_) (fun c_25 => ?_)
    · refine ez_lessS (L' := [ez_R 93, ez_R oa, ez_R ob, ez_I R, ez_R o, ez_I k, ez_N]) ⟨Or.inr rfl, Or.inr rfl, Or.inr rfl, Or.inr rfl, Or.inr rfl, Or.inr rfl, Or.inl rfl, trivial⟩ ?_
      exact kx h' (I.iff (by rw [show s = 4 by omega]; exact fi_Q_2)) fr r9
    · refine ez_aload_n dX0_fit_28 rfl ?_
      refine ez_aload_n dX0_fit_29 rfl ?_
      refine ez_aload_n dX0_fit_30 rfl ?_
      refine ez_iload dX0_fit_31 rfl ?_
      refine ez_iload dX0_fit_33 rfl ?_
      refine cl_X0_listShifts dX0_fit_35 ml_X0_50 ft_X0_fit__X0_listShifts (Nat.le_of_ble_eq_true rfl) (c_X0_listShifts WA'.1 WB'.1 (by omega)) (ez_kV (fun h1 ⟨l1, l2, l3⟩ => ?_))
      rw [WA'.2, WB'.2] at l1
      refine ez_aload_n dX0_fit_38 rfl ?_
      refine cl_X0_sortKeys dX0_fit_39 ml_X0_54 ft_X0_fit__X0_sortKeys (Nat.le_of_ble_eq_true rfl) (c_X0_sortKeys ⟨rfl, l3⟩) (ez_kV (fun h2 ⟨s1, s2, s3⟩ => ?_))
      have eb1 : h' ob 1 = h ob 1 := fr ob 1 (by omega) (by omega) (by omega) (by omega) (by omega)
      rw [eb1] at l1
      have keyb : ∀ m : Int, 0 ≤ m → m < h1 93 8 → 0 ≤ h2 94 m ∧ h2 94 m < 4294967296 := fun m m0 m1 => by
        obtain ⟨n, n0, n1⟩ := s1.1 m m0 m1
        obtain ⟨i, j, -, -, z, -⟩ := ls_key WA WB (by omega) l1 n0.1 n0.2
        rw [n1]
        exact z
      refine ez_aload_n dX0_fit_42 rfl ?_
      refine cl_X0_readKeys dX0_fit_43 ml_X0_57 ft_X0_fit__X0_readKeys (Nat.le_of_ble_eq_true rfl) (c_X0_readKeys (T := h1 93 8) ⟨s3 93 8 (by decide), l3⟩ keyb) (ez_kV (fun h3 rk => ?_))
      have FL : ft_L h3 (cd_P h oa) (cd_P h ob) k s := ft_mk WA WB (by omega) l1 l3 s1 s2 rk (s3 93 8 (by decide))
      have f3 : ∀ o' x : Int, ¬ (o' = 93 ∧ x = 8) → (o' < 94 ∨ 98 < o') → h3 o' x = h' o' x := fun o' x a b => (rk.2 o' x (by omega)).trans ((s3 o' x (by omega)).trans (l2 o' x (by omega) a))
      have e9 : h3 93 9 = R := (f3 93 9 (by omega) (by omega)).trans r9
      have fr3 : ft_fr h h3 o := fun o' x a b c d e => (f3 o' x (by omega) (by omega)).trans (fr o' x a b c d e)
      have I3 : fi_I h3 o R (cd_P h oa) (cd_P h ob) (fi_P h3 k s 0) := (I.eq (h' := h3) (fun x _ _ => f3 o x (by omega) (by omega)) (fun x => f3 _ x (by omega) (by omega)) (fun x => f3 _ x (by omega) (by omega))).iff fi_Q_0
      have ea : h3 oa 1 = (((cd_P h oa).1 : Nat) : Int) := ((fr3 oa 1 (by omega) (by omega) (by omega) (by omega) (by omega)).trans (cd_P_n WA).1.symm)
      have eb : h3 ob 1 = (((cd_P h ob).1 : Nat) : Int) := ((fr3 ob 1 (by omega) (by omega) (by omega) (by omega) (by omega)).trans (cd_P_n WB).1.symm)
      refine ez_aload_n dX0_fit_46 rfl ?_
      refine ez_aload_n dX0_fit_47 rfl ?_
      refine g3_1 (by first | assumption | exact ez_isP.mk (by omega)) dX0_fit_48 fl_X0_60 ?_
      refine ez_aload_n dX0_fit_51 rfl ?_
      refine g3_1 (by first | assumption | exact ez_isP.mk (by omega)) dX0_fit_52 fl_X0_60 ?_
      refine ez_iload dX0_fit_55 rfl ?_
      refine ez_iload dX0_fit_57 rfl ?_
      refine ez_aload dX0_fit_59 rfl ?_
      rw [ea, eb]
      refine cl_X0_tryShifts dX0_fit_61 ml_X0_65 ft_X0_fit__X0_tryShifts (Nat.le_of_ble_eq_true rfl) (c_X0_tryShifts (A := (cd_P h oa)) (B := (cd_P h ob)) FL (cd_P_n WA).2 (cd_P_n WB).2 (by omega) (by omega) ho hb ⟨e9, hR⟩ I3) (ez_kV (fun h4 ⟨t1, t2⟩ => ?_))
      have I4 : fi_I h4 o R (cd_P h oa) (cd_P h ob) (fi_Q k (s + 1)) := t1.iff (fi_Q_1 FL)
      have fr4 : ft_fr h h4 o := fun o' x a b c d e => (t2 o' x a b c (by omega) (by omega)).trans (fr3 o' x a b c d e)
      have r4 : h4 93 9 = R := (t2 93 9 (by omega) (by omega) (by omega) (by omega) (by omega)).trans e9
      refine ez_iinc dX0_fit_64 rfl (by decide) (by decide) (by omega) ?_
      refine ez_goto 22 dX0_fit_67 (by decide) ?_
      exact ih (s + 1) h4 (by omega) I4 fr4 r4 (by omega)
theorem lp_ft2 {oa ob o R : Int} {h : ez_H} (WA : cd_W h oa) (WB : cd_W h ob) (ho : ez_isL o) (hb : 18 ≤ o ∧ o ≤ 90) (hR : 0 ≤ R ∧ R ≤ 50) : ∀ (n : Nat) (k : Int) (h' : ez_H), (0 ≤ k ∧ k ≤ 4) → (fi_I h' o R (cd_P h oa) (cd_P h ob) (fi_Q k 1)) → (ft_fr h h' o) → (h' 93 9 = R) → 5 - k < n → ez_En M_X0_fit 13 [ez_R 93, ez_R oa, ez_R ob, ez_I R, ez_R o, ez_I k, ez_N] [] h' (ez_PV (fun h' => fi_I h' o R (cd_P h oa) (cd_P h ob) (fun _ _ _ _ => True) ∧ ft_fr h h' o)) := by
  intro n
  induction n with
  | zero =>
    intro k h' k0 I fr r9 hm
    exfalso
    omega
  | succ n ih =>
    intro k h' k0 I fr r9 hm
    refine ez_iload dX0_fit_13 rfl ?_
    refine ez_iconst dX0_fit_15 (by decide) ?_
    refine ez_ic_ge 76 dX0_fit_16 (by decide) (fun c_16 => ?_) (fun c_16 => ?_)
    · refine ez_vreturn (st := []) dX0_fit_76 rfl ?_
      exact ez_PV.in ⟨I.iff (by rw [show k = 4 by omega]; exact fi_Q_3), fr⟩
    · refine ez_iconst dX0_fit_19 (by decide) ?_
      refine ez_istore dX0_fit_20 (by decide) ?_
      refine lp_ft1 WA WB ho hb hR (k := k) (by omega) (fun h2 I2 f2 r2 => ?_) 5 1 h' (by omega) I fr r9 (by omega)
      refine ez_iinc dX0_fit_70 rfl (by decide) (by decide) (by omega) ?_
      refine ez_goto 13 dX0_fit_73 (by decide) ?_
      exact ih (k + 1) h2 (by omega) I2 f2 r2 (by omega)
theorem c_X0_fit {oa ob o R : Int} {h : ez_H} (WA : cd_W h oa) (WB : cd_W h ob) (ho : ez_isL o) (hb : 18 ≤ o ∧ o ≤ 90) (hR : 0 ≤ R ∧ R ≤ 50) : ez_Ct M_X0_fit [ez_R 93, ez_R oa, ez_R ob, ez_I R, ez_R o] h ((ez_PV (fun h' => fi_I h' o R (cd_P h oa) (cd_P h ob) (fun _ _ _ _ => True) ∧ ft_fr h h' o))) := by
  refine ez_of (by decide) (Nat.le_of_ble_eq_true rfl) (L0 := [ez_R 93, ez_R oa, ez_R ob, ez_I R, ez_R o, ez_N, ez_N]) rfl ?_
  refine ez_aload dX0_fit_0 rfl ?_
  refine cl_X1_clear (by first | assumption | exact ez_isL.mk (by omega)) dX0_fit_2 ml_X0_41 ft_X0_fit__X1_clear (Nat.le_of_ble_eq_true rfl) (c_X1_clear ho) (ez_kV (fun h1 ⟨c1, c2, c3, c4⟩ => ?_))
  refine ez_aload_n dX0_fit_5 rfl ?_
  refine ez_iload_n dX0_fit_6 rfl ?_
  refine p0_9 dX0_fit_7 fl_X0_46 ?_
  refine ez_iconst dX0_fit_10 (by decide) ?_
  refine ez_istore dX0_fit_11 (by decide) ?_
  refine lp_ft2 WA WB ho hb hR 6 0 _ (by omega) (Or.inl ⟨?_, ?_, fun j j0 j1 => ?_, fun k s i j ok hq => ?_⟩) (fun o' x a b c d e => ?_) ez_up_eq (by omega)
  · rw [ez_up_ne (by omega)]
    exact c1
  · rw [ez_up_ne (by omega)]
    exact c2
  · rw [ez_up_ne (by omega), ez_up_ne (by omega)]
    exact c3 j j0 j1
  · have a1 := ok.1
    have a2 := ok.2.1
    unfold fi_Q at hq
    omega
  · rw [ez_up_ne (by omega)]
    exact c4 o' x (by omega) b c
