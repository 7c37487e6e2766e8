/-! what changes the class -/
def cm_fr (h h' : ez_H) : Prop := ∀ o k : Int, 120 < o → h' o k = h o k
theorem cm_fr.rf (h : ez_H) : cm_fr h h := fun _ _ _ => rfl
theorem sp_mk_plate {n R v : Int} {yr mn yr' mn' : Int → Int} {x y x' y' : Int → Int → Int} (n0 : 0 ≤ n) (e2 : ∀ p : Int, 0 ≤ p → p < n → yr' p = yr p ∧ mn' p = mn p) (ev : yr' n = v) (em : mn' n = 0) (exy : ∀ p i : Int, 0 ≤ p → p < n → x' p i = x p i ∧ y' p i = y p i) : sp_mk (n + 1) R yr' mn' x' y' = sp_plS (sp_mk n R yr mn x y) v := by
  unfold sp_plS sp_mk
  refine Prod.ext rfl (Prod.ext rfl (Prod.ext (funext fun p => ?_) (funext fun p => ?_)))
  · dsimp only
    by_cases q : p = n
    · rw [if_pos q, if_pos (by omega), q, ev]
    · rw [if_neg q]
      by_cases q2 : 0 ≤ p ∧ p < n
      · rw [if_pos q2, if_pos (by omega)]
        exact (e2 p q2.1 q2.2).1
      · rw [if_neg q2, if_neg (by omega)]
  · dsimp only
    by_cases q : p = n
    · rw [if_pos q, if_pos (by omega), q, em]
      exact bl_nil (n := 0) rfl
    · rw [if_neg q]
      by_cases q2 : 0 ≤ p ∧ p < n
      · rw [if_pos q2, if_pos (by omega), (e2 p q2.1 q2.2).2]
        refine Prod.ext rfl (Prod.ext (funext fun i => ?_) (funext fun i => ?_))
        · dsimp only
          rw [(exy p i q2.1 q2.2).1]
        · dsimp only
          rw [(exy p i q2.1 q2.2).2]
      · rw [if_neg q2, if_neg (by omega)]
theorem sp_mk_spot {n R p px py : Int} {yr mn yr' mn' : Int → Int} {x y x' y' : Int → Int → Int} (hp : 0 ≤ p ∧ p < n) (hm : 0 ≤ mn p) (e2 : ∀ q : Int, 0 ≤ q → q < n → yr' q = yr q) (eo : ∀ q : Int, 0 ≤ q → q < n → q ≠ p → mn' q = mn q ∧ ∀ i : Int, x' q i = x q i ∧ y' q i = y q i) (em : mn' p = mn p + 1) (ex : ∀ i : Int, x' p i = if i = mn p then px else x p i) (ey : ∀ i : Int, y' p i = if i = mn p then py else y p i) : sp_mk n R yr' mn' x' y' = sp_spS (sp_mk n R yr mn x y) p px py := by
  have hpl : (sp_mk n R yr mn x y).2.2.2 p = ((mn p).toNat, (fun i => if 0 ≤ i ∧ i < mn p then x p i else 0), fun i => if 0 ≤ i ∧ i < mn p then y p i else 0) := if_pos hp
  unfold sp_spS
  rw [hpl]
  unfold sp_mk
  refine Prod.ext rfl (Prod.ext rfl (Prod.ext (funext fun q => ?_) (funext fun q => ?_)))
  · dsimp only
    by_cases q2 : 0 ≤ q ∧ q < n
    · rw [if_pos q2, if_pos q2]
      exact e2 q q2.1 q2.2
    · rw [if_neg q2, if_neg q2]
  dsimp only
  by_cases c : q = p
  · subst c
    rw [if_pos (show q = q from rfl), if_pos hp, em]
    refine Prod.ext (by dsimp only; omega) (Prod.ext (funext fun i => ?_) (funext fun i => ?_))
    · dsimp only
      by_cases c2 : i = ((mn q).toNat : Int)
      · rw [if_pos c2, if_pos (by omega), ex, if_pos (by omega)]
      · rw [if_neg c2]
        by_cases c3 : 0 ≤ i ∧ i < mn q
        · rw [if_pos c3, if_pos (by omega), ex, if_neg (by omega)]
        · rw [if_neg c3, if_neg (by omega)]
    · dsimp only
      by_cases c2 : i = ((mn q).toNat : Int)
      · rw [if_pos c2, if_pos (by omega), ey, if_pos (by omega)]
      · rw [if_neg c2]
        by_cases c3 : 0 ≤ i ∧ i < mn q
        · rw [if_pos c3, if_pos (by omega), ey, if_neg (by omega)]
        · rw [if_neg c3, if_neg (by omega)]
  · rw [if_neg c]
    by_cases c2 : 0 ≤ q ∧ q < n
    · have z := eo q c2.1 c2.2 c
      rw [if_pos c2, if_pos c2, z.1]
      refine Prod.ext rfl (Prod.ext (funext fun i => ?_) (funext fun i => ?_))
      · dsimp only
        rw [(z.2 i).1]
      · dsimp only
        rw [(z.2 i).2]
    · rw [if_neg c2, if_neg c2]
theorem sp_mk_wipe {n R p w : Int} {yr mn yr' mn' : Int → Int} {x y x' y' : Int → Int → Int} (hp : 0 ≤ p ∧ p < n) (hw : 0 ≤ w ∧ w < mn p) (e2 : ∀ q : Int, 0 ≤ q → q < n → yr' q = yr q) (eo : ∀ q : Int, 0 ≤ q → q < n → q ≠ p → mn' q = mn q ∧ ∀ i : Int, x' q i = x q i ∧ y' q i = y q i) (em : mn' p = mn p - 1) (ex : ∀ i : Int, x' p i = if w ≤ i ∧ i < mn p - 1 then x p (i + 1) else x p i) (ey : ∀ i : Int, y' p i = if w ≤ i ∧ i < mn p - 1 then y p (i + 1) else y p i) : sp_mk n R yr' mn' x' y' = sp_wiS (sp_mk n R yr mn x y) p w := by
  have hpl : (sp_mk n R yr mn x y).2.2.2 p = ((mn p).toNat, (fun i => if 0 ≤ i ∧ i < mn p then x p i else 0), fun i => if 0 ≤ i ∧ i < mn p then y p i else 0) := if_pos hp
  unfold sp_wiS
  rw [hpl]
  unfold sp_mk
  refine Prod.ext rfl (Prod.ext rfl (Prod.ext (funext fun q => ?_) (funext fun q => ?_)))
  · dsimp only
    by_cases q2 : 0 ≤ q ∧ q < n
    · rw [if_pos q2, if_pos q2]
      exact e2 q q2.1 q2.2
    · rw [if_neg q2, if_neg q2]
  dsimp only
  by_cases c : q = p
  · subst c
    rw [if_pos (show q = q from rfl), if_pos hp, em]
    refine Prod.ext (by dsimp only; omega) (Prod.ext (funext fun j => ?_) (funext fun j => ?_))
    · dsimp only
      by_cases c3 : 0 ≤ j ∧ j < mn q - 1
      · rw [if_pos c3, ex]
        by_cases c2 : j < w
        · rw [if_neg (by omega), if_pos c2, if_pos (by omega)]
        · rw [if_pos (by omega), if_neg c2, if_pos (by omega)]
      · rw [if_neg c3]
        by_cases c2 : j < w
        · rw [if_pos c2, if_neg (by omega)]
        · rw [if_neg c2, if_neg (by omega)]
    · dsimp only
      by_cases c3 : 0 ≤ j ∧ j < mn q - 1
      · rw [if_pos c3, ey]
        by_cases c2 : j < w
        · rw [if_neg (by omega), if_pos c2, if_pos (by omega)]
        · rw [if_pos (by omega), if_neg c2, if_pos (by omega)]
      · rw [if_neg c3]
        by_cases c2 : j < w
        · rw [if_pos c2, if_neg (by omega)]
        · rw [if_neg c2, if_neg (by omega)]
  · rw [if_neg c]
    by_cases c2 : 0 ≤ q ∧ q < n
    · have z := eo q c2.1 c2.2 c
      rw [if_pos c2, if_pos c2, z.1]
      refine Prod.ext rfl (Prod.ext (funext fun i => ?_) (funext fun i => ?_))
      · dsimp only
        rw [(z.2 i).1]
      · dsimp only
        rw [(z.2 i).2]
    · rw [if_neg c2, if_neg c2]
theorem cd_P_at {h h' : ez_H} {o : Int} (e0 : h' o 1 = h o 1) (e1 : ∀ k : Int, h' (o + 1) k = h (o + 1) k) (e2 : ∀ k : Int, h' (o + 2) k = h (o + 2) k) : cd_P h' o = cd_P h o := by
  unfold cd_P
  rw [e0, funext e1, funext e2]
theorem cd_W_at {h h' : ez_H} {o : Int} (W : cd_W h o) (e0 : h' o 1 = h o 1) (e1 : ∀ k : Int, h' (o + 1) k = h (o + 1) k) (e2 : ∀ k : Int, h' (o + 2) k = h (o + 2) k) : cd_W h' o :=
  ⟨W.p, W.l, by rw [e0]; exact W.n, fun i i0 i1 => by rw [e1, e2]; exact W.x i i0 (by rw [← e0]; exact i1)⟩
/-- one plate has changed, and its lays are forgotten -/
theorem cd_V.chg {h h2 : ez_H} {p : Int} (v : cd_V h) (hp : 0 ≤ p ∧ p < h 0 5) (B2 : cd_B h2) (e5 : h2 0 5 = h 0 5) (e7 : h2 0 7 = h 0 7) (e4 : h2 0 4 = 0) (zz : ∀ q : Int, 0 ≤ q → q < h 0 5 → h2 (18 + 3 * (p * 5 + q)) 0 = 0 ∧ h2 (18 + 3 * (q * 5 + p)) 0 = 0) (mo : ∀ o : Int, 18 ≤ o → h2 o 0 = h o 0 ∨ h2 o 0 = 0) (fr : ∀ o k : Int, 18 ≤ o → o ≤ 92 → (k ≠ 0 ∨ (o - 18) % 3 ≠ 0) → h2 o k = h o k) (pl : ∀ o k : Int, 2 ≤ o → o < 17 → (o < 2 + 3 * p ∨ 2 + 3 * p + 2 < o) → h2 o k = h o k) : cd_V h2 := by
  have n := v.b.n
  refine ⟨B2, fun a b a0 a1 b0 b1 hf => ?_, fun a b a0 a1 b0 b1 hc => ?_, fun q => absurd e4 q, fun q => by omega⟩
  · rw [e5] at a1 b1
    have na : a ≠ p := fun c => hf (by rw [c]; exact (zz b b0 b1).1)
    have nb : b ≠ p := fun c => hf (by rw [c]; exact (zz a a0 a1).2)
    have pa : cd_P h2 (2 + 3 * a) = cd_P h (2 + 3 * a) := cd_P_at (pl _ _ (by omega) (by omega) (by omega)) (fun k => pl _ _ (by omega) (by omega) (by omega)) (fun k => pl _ _ (by omega) (by omega) (by omega))
    have pb : cd_P h2 (2 + 3 * b) = cd_P h (2 + 3 * b) := cd_P_at (pl _ _ (by omega) (by omega) (by omega)) (fun k => pl _ _ (by omega) (by omega) (by omega)) (fun k => pl _ _ (by omega) (by omega) (by omega))
    rw [pa, pb, e7]
    have m := mo (18 + 3 * (a * 5 + b)) (by omega)
    exact (v.l a b a0 a1 b0 b1 (by omega)).eq (fun x _ _ => fr _ x (by omega) (by omega) (by omega)) (fun x => fr _ x (by omega) (by omega) (by omega)) (fun x => fr _ x (by omega) (by omega) (by omega))
  · rw [e5] at hc
    have m := mo (18 + 3 * (a * 5 + b)) (by omega)
    have z := v.z a b a0 a1 b0 b1 hc
    omega
theorem sp_f_yr {S S' : sp_S} (e : S'.1 = S.1) (ey : ∀ p : Int, 0 ≤ p → p < S.1 → S'.2.2.1 p = S.2.2.1 p) : sp_f S' = sp_f S := by
  unfold sp_f
  rw [e]
  exact sp_fr_cong _ (fun p p0 p1 => ey p p0 (by omega))

theorem cd_V.plate {h h' : ez_H} {y : Int} (v : cd_V h) (hA : sp_plA (cd_S h) y) (e0 : h' 0 5 = h 0 5 + 1) (e1 : h' 0 7 = h 0 7) (e4 : h' 0 4 = 0) (ey : h' (2 + 3 * h 0 5) 0 = y) (e6 : h' 0 6 = if h 0 6 = -1 ∨ y < h (2 + 3 * h 0 6) 0 then h 0 5 else h 0 6) (fr : ∀ o k : Int, o ≠ 0 → ¬ (o = 2 + 3 * h 0 5 ∧ k = 0) → o < 93 → h' o k = h o k) : cd_V h' ∧ cd_S h' = sp_plS (cd_S h) y := by
  obtain ⟨a1, a2, a3⟩ := hA
  have a2' : h 0 5 < 5 := a2
  have n := v.b.n
  have ff := v.b.fr
  have oth : ∀ p : Int, 0 ≤ p → p < h 0 5 → h' (2 + 3 * p) 0 = h (2 + 3 * p) 0 := fun p p0 p1 => fr _ _ (by omega) (by omega) (by omega)
  have cnt : ∀ p : Int, 0 ≤ p → p < 5 → h' (2 + 3 * p) 1 = h (2 + 3 * p) 1 := fun p p0 p1 => fr _ _ (by omega) (by omega) (by omega)
  have eS : cd_S h' = sp_plS (cd_S h) y := by
    unfold cd_S
    rw [e0, e1]
    exact sp_mk_plate n.1 (fun p p0 p1 => ⟨oth p p0 p1, cnt p p0 (by omega)⟩) ey ((cnt _ n.1 a2').trans (v.b.e _ (by omega) a2')) (fun p i p0 p1 => ⟨fr _ _ (by omega) (by omega) (by omega), fr _ _ (by omega) (by omega) (by omega)⟩)
  have pP : ∀ p : Int, 0 ≤ p → p < 5 → cd_P h' (2 + 3 * p) = cd_P h (2 + 3 * p) := fun p p0 p1 => cd_P_at (cnt p p0 p1) (fun k => fr _ _ (by omega) (by omega) (by omega)) (fun k => fr _ _ (by omega) (by omega) (by omega))
  have yo : ∀ p : Int, 0 ≤ p → p < h 0 5 → h (2 + 3 * p) 0 ≠ y := fun p p0 p1 => by
    rw [← cd_S_yr p0 p1]
    exact a3 p p0 p1
  refine ⟨⟨⟨by omega, by rw [e1]; exact v.b.r, fun p p0 p1 => ?_, fun p q p0 p1 q0 q1 hpq => ?_, fun p p0 p1 => ?_, ?_⟩, fun a b a0 a1' b0 b1 hf => ?_, fun a b a0 a1' b0 b1 hc => ?_, fun q => absurd e4 q, fun q => by omega⟩, eS⟩
  · by_cases c : p = h 0 5
    · have z := v.b.e p (by omega) (by omega)
      have z2 := cnt p p0 (by omega)
      refine ⟨⟨ez_isP.mk (by omega), by omega, by omega, fun i i0 i1 => by omega⟩, ?_⟩
      rw [c, ey]
      exact a1
    · have w := v.b.w p p0 (by omega)
      rw [oth p p0 (by omega)]
      exact ⟨cd_W_at w.1 (cnt p p0 (by omega)) (fun k => fr _ _ (by omega) (by omega) (by omega)) (fun k => fr _ _ (by omega) (by omega) (by omega)), w.2⟩
  · by_cases c1 : p = h 0 5
    · by_cases c2 : q = h 0 5
      · omega
      · rw [c1, ey, oth q q0 (by omega)] at hpq
        exact absurd hpq.symm (yo q q0 (by omega))
    · by_cases c2 : q = h 0 5
      · rw [c2, ey, oth p p0 (by omega)] at hpq
        exact absurd hpq (yo p p0 (by omega))
      · rw [oth p p0 (by omega), oth q q0 (by omega)] at hpq
        exact v.b.y p q p0 (by omega) q0 (by omega) hpq
  · rw [cnt p (by omega) p1]
    exact v.b.e p (by omega) p1
  · have t1 : (cd_S h').1.toNat = (cd_S h).1.toNat + 1 := by
      show (h' 0 5).toNat = (h 0 5).toNat + 1
      omega
    have t2 : ((cd_S h).1.toNat : Int) = h 0 5 := by
      show (((h 0 5).toNat : Nat) : Int) = h 0 5
      omega
    have ff2 : sp_fr (cd_S h').2.2.1 (cd_S h).1.toNat = h 0 6 := by
      rw [v.b.f]
      exact sp_fr_cong _ (fun p p0 p1 => by rw [cd_S_yr p0 (by omega), cd_S_yr p0 (by omega)]; exact oth p p0 (by omega))
    have yn : (cd_S h').2.2.1 (h 0 5) = y := by rw [cd_S_yr (by omega) (by omega)]; exact ey
    unfold sp_f
    rw [t1]
    show h' 0 6 = if sp_fr (cd_S h').2.2.1 (cd_S h).1.toNat = -1 ∨ (cd_S h').2.2.1 ((cd_S h).1.toNat : Int) < (cd_S h').2.2.1 (sp_fr (cd_S h').2.2.1 (cd_S h).1.toNat) then ((cd_S h).1.toNat : Int) else sp_fr (cd_S h').2.2.1 (cd_S h).1.toNat
    rw [ff2, t2, yn, e6]
    by_cases c : h 0 6 = -1
    · rw [if_pos (Or.inl c), if_pos (Or.inl c)]
    · rw [cd_S_yr (p := h 0 6) (by omega) (by omega), oth (h 0 6) (by omega) (by omega)]
  · have z := v.z a b a0 (by omega) b0 (by omega)
    rw [fr _ 0 (by omega) (by omega) (by omega)] at hf
    have ha : a < h 0 5 := by omega
    have hb : b < h 0 5 := by omega
    rw [pP a a0 (by omega), pP b b0 (by omega), e1]
    exact (v.l a b a0 ha b0 hb hf).eq (fun x _ _ => fr _ x (by omega) (by omega) (by omega)) (fun x => fr _ x (by omega) (by omega) (by omega)) (fun x => fr _ x (by omega) (by omega) (by omega))
  · rw [fr _ 0 (by omega) (by omega) (by omega)]
    exact v.z a b a0 a1' b0 b1 (by omega)
theorem c_X5_plate {y : Int} {h : ez_H} (v : cd_V h) : ez_Ct M_X5_plate [ez_R 0, ez_I y] h (ez_PI (fun h' z => cd_V h' ∧ cm_fr h h' ∧ ((sp_plA (cd_S h) y ∧ z = h 0 5 ∧ cd_S h' = sp_plS (cd_S h) y) ∨ (¬ sp_plA (cd_S h) y ∧ z = -1 ∧ cd_S h' = cd_S h)))) := by
  have n := v.b.n
  have ff := v.b.fr
  refine ez_of (by decide) (Nat.le_of_ble_eq_true rfl) (L0 := [ez_R 0, ez_I y, ez_N]) rfl ?_
  refine ez_iload_n dX5_plate_0 rfl ?_
  refine ez_if_lt 27 dX5_plate_1 (by decide) (fun c_1 => ?_) (fun c_1 => ?_)
  · refine ez_iconst dX5_plate_27 (by decide) ?_
    refine ez_ireturn (st := []) dX5_plate_28 rfl ?_
    first
     | exact ez_PI.in ⟨v, cm_fr.rf h, Or.inr ⟨fun q => absurd q.1 (by omega), rfl, rfl⟩⟩
     | exact ez_PI.in ⟨v, cm_fr.rf h, Or.inr ⟨fun q => absurd q.2.1 (by show ¬ h 0 5 < 5; omega), rfl, rfl⟩⟩
     | exact ez_PI.in ⟨v, cm_fr.rf h, Or.inr ⟨fun q => by obtain ⟨p, p0, p1, p2⟩ := b_21; exact q.2.2 p p0 p1 ((cd_S_yr p0 p1).trans p2), rfl, rfl⟩⟩
  · refine ez_iload_n dX5_plate_4 rfl ?_
    refine ez_sipush dX5_plate_5 (by decide) (by decide) ?_
    refine ez_ic_gt 27 dX5_plate_8 (by decide) (fun c_8 => ?_) (fun c_8 => ?_)
    · refine ez_iconst dX5_plate_27 (by decide) ?_
      refine ez_ireturn (st := []) dX5_plate_28 rfl ?_
      first
       | exact ez_PI.in ⟨v, cm_fr.rf h, Or.inr ⟨fun q => absurd q.1 (by omega), rfl, rfl⟩⟩
       | exact ez_PI.in ⟨v, cm_fr.rf h, Or.inr ⟨fun q => absurd q.2.1 (by show ¬ h 0 5 < 5; omega), rfl, rfl⟩⟩
       | exact ez_PI.in ⟨v, cm_fr.rf h, Or.inr ⟨fun q => by obtain ⟨p, p0, p1, p2⟩ := b_21; exact q.2.2 p p0 p1 ((cd_S_yr p0 p1).trans p2), rfl, rfl⟩⟩
    · refine ez_aload_n dX5_plate_11 rfl ?_
      refine g5_5 dX5_plate_12 fl_X5_41 ?_
      refine ez_iconst dX5_plate_15 (by decide) ?_
      refine ez_ic_ge 27 dX5_plate_16 (by decide) (fun c_16 => ?_) (fun c_16 => ?_)
      · refine ez_iconst dX5_plate_27 (by decide) ?_
        refine ez_ireturn (st := []) dX5_plate_28 rfl ?_
        first
         | exact ez_PI.in ⟨v, cm_fr.rf h, Or.inr ⟨fun q => absurd q.1 (by omega), rfl, rfl⟩⟩
         | exact ez_PI.in ⟨v, cm_fr.rf h, Or.inr ⟨fun q => absurd q.2.1 (by show ¬ h 0 5 < 5; omega), rfl, rfl⟩⟩
         | exact ez_PI.in ⟨v, cm_fr.rf h, Or.inr ⟨fun q => by obtain ⟨p, p0, p1, p2⟩ := b_21; exact q.2.2 p p0 p1 ((cd_S_yr p0 p1).trans p2), rfl, rfl⟩⟩
      · refine ez_aload_n dX5_plate_19 rfl ?_
        refine ez_iload_n dX5_plate_20 rfl ?_
        refine cl_X5_hasYear dX5_plate_21 ml_X5_51 ft_X5_plate__X5_hasYear (Nat.le_of_ble_eq_true rfl) (c_X5_hasYear n) (ez_kB (fun b_21 => ?_) (fun b_21 => ?_))
        · refine ez_if_eq 29 dX5_plate_24 (by decide) (fun c_24 => ?_) (fun c_24 => ?_)
          · exact absurd c_24 (by decide)
          · refine ez_iconst dX5_plate_27 (by decide) ?_
            refine ez_ireturn (st := []) dX5_plate_28 rfl ?_
            first
             | exact ez_PI.in ⟨v, cm_fr.rf h, Or.inr ⟨fun q => absurd q.1 (by omega), rfl, rfl⟩⟩
             | exact ez_PI.in ⟨v, cm_fr.rf h, Or.inr ⟨fun q => absurd q.2.1 (by show ¬ h 0 5 < 5; omega), rfl, rfl⟩⟩
             | exact ez_PI.in ⟨v, cm_fr.rf h, Or.inr ⟨fun q => by obtain ⟨p, p0, p1, p2⟩ := b_21; exact q.2.2 p p0 p1 ((cd_S_yr p0 p1).trans p2), rfl, rfl⟩⟩
        · refine ez_if_eq 29 dX5_plate_24 (by decide) (fun c_24 => ?_) (fun c_24 => ?_)
          · refine ez_aload_n dX5_plate_29 rfl ?_
            refine g5_5 dX5_plate_30 fl_X5_41 ?_
            refine ez_istore_n dX5_plate_33 (by decide) ?_
            refine ez_aload_n dX5_plate_34 rfl ?_
            refine g5_0 dX5_plate_35 fl_X5_11 ?_
            refine ez_iload_n dX5_plate_38 rfl ?_
            refine ez_aaloadP dX5_plate_39 (by omega) ?_
            refine ez_iload_n dX5_plate_40 rfl ?_
            refine p3_0 (by first | assumption | exact ez_isP.mk (by omega)) dX5_plate_41 fl_X5_55 ?_
            have y1 : (ez_up h (2 + 3 * h 0 5) 0 y) 0 5 = h 0 5 := by rw [ez_up_ne (by omega)]
            have y2 : (ez_up (ez_up h (2 + 3 * h 0 5) 0 y) 0 5 (h 0 5 + 1)) 0 6 = h 0 6 := by rw [ez_up_ne (by omega), ez_up_ne (by omega)]
            have y3 : 0 ≤ h 0 6 → (ez_up (ez_up h (2 + 3 * h 0 5) 0 y) 0 5 (h 0 5 + 1)) (2 + 3 * h 0 6) 0 = h (2 + 3 * h 0 6) 0 := fun _ => by rw [ez_up_ne (by omega), ez_up_ne (by omega)]
            refine ez_aload_n dX5_plate_44 rfl ?_
            refine ez_dup dX5_plate_45 rfl ?_
            refine g5_5 dX5_plate_46 fl_X5_41 ?_
            rw [y1]
            refine ez_iconst dX5_plate_49 (by decide) ?_
            refine ez_iadd dX5_plate_50 (by omega) ?_
            refine p5_5 dX5_plate_51 fl_X5_41 ?_
            refine ez_aload_n dX5_plate_54 rfl ?_
            refine g5_6 dX5_plate_55 fl_X5_45 ?_
            rw [y2]
            refine ez_iconst dX5_plate_58 (by decide) ?_
            refine ez_ic_eq 78 dX5_plate_59 (by decide) (fun c_59 => ?_) (fun c_59 => ?_)
            · refine ez_aload_n dX5_plate_78 rfl ?_
              refine ez_iload_n dX5_plate_79 rfl ?_
              refine p5_6 dX5_plate_80 fl_X5_45 ?_
              refine ez_aload_n dX5_plate_83 rfl ?_
              refine ez_iconst dX5_plate_84 (by decide) ?_
              refine p5_4 dX5_plate_85 fl_X5_37 (by first | exact Or.inl rfl | exact Or.inr rfl | omega) ?_
              refine ez_iload_n dX5_plate_88 rfl ?_
              refine ez_ireturn (st := []) dX5_plate_89 rfl ?_
              have hA : sp_plA (cd_S h) y := ⟨⟨by omega, by omega⟩, (show h 0 5 < 5 by omega), fun p p0 p1 hp => b_21 ⟨p, p0, p1, by rw [← cd_S_yr p0 p1]; exact hp⟩⟩
              first
               | (have hV := v.plate (h' := ez_up (ez_up (ez_up (ez_up h (2 + 3 * h 0 5) 0 y) 0 5 (h 0 5 + 1)) 0 6 (h 0 5)) 0 4 0) hA (by rw [ez_up_ne (by omega), ez_up_ne (by omega), ez_up_eq]) (by rw [ez_up_ne (by omega), ez_up_ne (by omega), ez_up_ne (by omega), ez_up_ne (by omega)]) ez_up_eq (by rw [ez_up_ne (by omega), ez_up_ne (by omega), ez_up_ne (by omega), ez_up_eq]) (by rw [ez_up_ne (by omega), ez_up_eq, if_pos (by omega)]) (fun o k a b c => by rw [ez_up_ne (by omega), ez_up_ne (by omega), ez_up_ne (by omega), ez_up_ne (by omega)])
                  exact ez_PI.in ⟨hV.1, fun o k a => by rw [ez_up_ne (by omega), ez_up_ne (by omega), ez_up_ne (by omega), ez_up_ne (by omega)], Or.inl ⟨hA, rfl, hV.2⟩⟩)
               | (have hV := v.plate (h' := ez_up (ez_up (ez_up h (2 + 3 * h 0 5) 0 y) 0 5 (h 0 5 + 1)) 0 4 0) hA (by rw [ez_up_ne (by omega), ez_up_eq]) (by rw [ez_up_ne (by omega), ez_up_ne (by omega), ez_up_ne (by omega)]) ez_up_eq (by rw [ez_up_ne (by omega), ez_up_ne (by omega), ez_up_eq]) (by rw [ez_up_ne (by omega), ez_up_ne (by omega), ez_up_ne (by omega), if_neg (by omega)]) (fun o k a b c => by rw [ez_up_ne (by omega), ez_up_ne (by omega), ez_up_ne (by omega)])
                  exact ez_PI.in ⟨hV.1, fun o k a => by rw [ez_up_ne (by omega), ez_up_ne (by omega), ez_up_ne (by omega)], Or.inl ⟨hA, rfl, hV.2⟩⟩)
            · refine ez_iload_n dX5_plate_62 rfl ?_
              refine ez_aload_n dX5_plate_63 rfl ?_
              refine g5_0 dX5_plate_64 fl_X5_11 ?_
              refine ez_aload_n dX5_plate_67 rfl ?_
              refine g5_6 dX5_plate_68 fl_X5_45 ?_
              rw [y2]
              refine ez_aaloadP dX5_plate_71 (by omega) ?_
              refine g3_0 (by first | assumption | exact ez_isP.mk (by omega)) dX5_plate_72 fl_X5_55 ?_
              rw [y3 (by omega)]
              refine ez_ic_ge 83 dX5_plate_75 (by decide) (fun c_75 => ?_) (fun c_75 => ?_)
              · refine ez_aload_n dX5_plate_83 rfl ?_
                refine ez_iconst dX5_plate_84 (by decide) ?_
                refine p5_4 dX5_plate_85 fl_X5_37 (by first | exact Or.inl rfl | exact Or.inr rfl | omega) ?_
                refine ez_iload_n dX5_plate_88 rfl ?_
                refine ez_ireturn (st := []) dX5_plate_89 rfl ?_
                have hA : sp_plA (cd_S h) y := ⟨⟨by omega, by omega⟩, (show h 0 5 < 5 by omega), fun p p0 p1 hp => b_21 ⟨p, p0, p1, by rw [← cd_S_yr p0 p1]; exact hp⟩⟩
                first
                 | (have hV := v.plate (h' := ez_up (ez_up (ez_up (ez_up h (2 + 3 * h 0 5) 0 y) 0 5 (h 0 5 + 1)) 0 6 (h 0 5)) 0 4 0) hA (by rw [ez_up_ne (by omega), ez_up_ne (by omega), ez_up_eq]) (by rw [ez_up_ne (by omega), ez_up_ne (by omega), ez_up_ne (by omega), ez_up_ne (by omega)]) ez_up_eq (by rw [ez_up_ne (by omega), ez_up_ne (by omega), ez_up_ne (by omega), ez_up_eq]) (by rw [ez_up_ne (by omega), ez_up_eq, if_pos (by omega)]) (fun o k a b c => by rw [ez_up_ne (by omega), ez_up_ne (by omega), ez_up_ne (by omega), ez_up_ne (by omega)])
                    exact ez_PI.in ⟨hV.1, fun o k a => by rw [ez_up_ne (by omega), ez_up_ne (by omega), ez_up_ne (by omega), ez_up_ne (by omega)], Or.inl ⟨hA, rfl, hV.2⟩⟩)
                 | (have hV := v.plate (h' := ez_up (ez_up (ez_up h (2 + 3 * h 0 5) 0 y) 0 5 (h 0 5 + 1)) 0 4 0) hA (by rw [ez_up_ne (by omega), ez_up_eq]) (by rw [ez_up_ne (by omega), ez_up_ne (by omega), ez_up_ne (by omega)]) ez_up_eq (by rw [ez_up_ne (by omega), ez_up_ne (by omega), ez_up_eq]) (by rw [ez_up_ne (by omega), ez_up_ne (by omega), ez_up_ne (by omega), if_neg (by omega)]) (fun o k a b c => by rw [ez_up_ne (by omega), ez_up_ne (by omega), ez_up_ne (by omega)])
                    exact ez_PI.in ⟨hV.1, fun o k a => by rw [ez_up_ne (by omega), ez_up_ne (by omega), ez_up_ne (by omega)], Or.inl ⟨hA, rfl, hV.2⟩⟩)
              · refine ez_aload_n dX5_plate_78 rfl ?_
                refine ez_iload_n dX5_plate_79 rfl ?_
                refine p5_6 dX5_plate_80 fl_X5_45 ?_
                refine ez_aload_n dX5_plate_83 rfl ?_
                refine ez_iconst dX5_plate_84 (by decide) ?_
                refine p5_4 dX5_plate_85 fl_X5_37 (by first | exact Or.inl rfl | exact Or.inr rfl | omega) ?_
                refine ez_iload_n dX5_plate_88 rfl ?_
                refine ez_ireturn (st := []) dX5_plate_89 rfl ?_
                have hA : sp_plA (cd_S h) y := ⟨⟨by omega, by omega⟩, (show h 0 5 < 5 by omega), fun p p0 p1 hp => b_21 ⟨p, p0, p1, by rw [← cd_S_yr p0 p1]; exact hp⟩⟩
                first
                 | (have hV := v.plate (h' := ez_up (ez_up (ez_up (ez_up h (2 + 3 * h 0 5) 0 y) 0 5 (h 0 5 + 1)) 0 6 (h 0 5)) 0 4 0) hA (by rw [ez_up_ne (by omega), ez_up_ne (by omega), ez_up_eq]) (by rw [ez_up_ne (by omega), ez_up_ne (by omega), ez_up_ne (by omega), ez_up_ne (by omega)]) ez_up_eq (by rw [ez_up_ne (by omega), ez_up_ne (by omega), ez_up_ne (by omega), ez_up_eq]) (by rw [ez_up_ne (by omega), ez_up_eq, if_pos (by omega)]) (fun o k a b c => by rw [ez_up_ne (by omega), ez_up_ne (by omega), ez_up_ne (by omega), ez_up_ne (by omega)])
                    exact ez_PI.in ⟨hV.1, fun o k a => by rw [ez_up_ne (by omega), ez_up_ne (by omega), ez_up_ne (by omega), ez_up_ne (by omega)], Or.inl ⟨hA, rfl, hV.2⟩⟩)
                 | (have hV := v.plate (h' := ez_up (ez_up (ez_up h (2 + 3 * h 0 5) 0 y) 0 5 (h 0 5 + 1)) 0 4 0) hA (by rw [ez_up_ne (by omega), ez_up_eq]) (by rw [ez_up_ne (by omega), ez_up_ne (by omega), ez_up_ne (by omega)]) ez_up_eq (by rw [ez_up_ne (by omega), ez_up_ne (by omega), ez_up_eq]) (by rw [ez_up_ne (by omega), ez_up_ne (by omega), ez_up_ne (by omega), if_neg (by omega)]) (fun o k a b c => by rw [ez_up_ne (by omega), ez_up_ne (by omega), ez_up_ne (by omega)])
                    exact ez_PI.in ⟨hV.1, fun o k a => by rw [ez_up_ne (by omega), ez_up_ne (by omega), ez_up_ne (by omega)], Or.inl ⟨hA, rfl, hV.2⟩⟩)
          · exact absurd c_24 (by decide)
theorem cd_B.spot {h h' : ez_H} {p px py : Int} (b : cd_B h) (hp : 0 ≤ p ∧ p < h 0 5) (hx : (0 ≤ px ∧ px ≤ 999) ∧ (0 ≤ py ∧ py ≤ 999)) (h8 : h (2 + 3 * p) 1 < 8) (e1 : h' (2 + 3 * p) 1 = h (2 + 3 * p) 1 + 1) (ex : ∀ k : Int, h' (2 + 3 * p + 1) k = if k = h (2 + 3 * p) 1 then px else h (2 + 3 * p + 1) k) (ey : ∀ k : Int, h' (2 + 3 * p + 2) k = if k = h (2 + 3 * p) 1 then py else h (2 + 3 * p + 2) k) (fr : ∀ o k : Int, o ≠ 2 + 3 * p + 1 → o ≠ 2 + 3 * p + 2 → ¬ (o = 2 + 3 * p ∧ k = 1) → ¬ (o = 0 ∧ k = 4) → o < 17 → h' o k = h o k) : cd_B h' ∧ cd_S h' = sp_spS (cd_S h) p px py := by
  have n := b.n
  have wp := (b.w p hp.1 hp.2).1
  have wn := wp.n
  have e5 : h' 0 5 = h 0 5 := fr _ _ (by omega) (by omega) (by omega) (by omega) (by omega)
  have e7 : h' 0 7 = h 0 7 := fr _ _ (by omega) (by omega) (by omega) (by omega) (by omega)
  have yr : ∀ q : Int, 0 ≤ q → q < 5 → h' (2 + 3 * q) 0 = h (2 + 3 * q) 0 := fun q q0 q1 => fr _ _ (by omega) (by omega) (by omega) (by omega) (by omega)
  have eS : cd_S h' = sp_spS (cd_S h) p px py := by
    unfold cd_S
    rw [e5, e7]
    exact sp_mk_spot hp wn.1 (fun q q0 q1 => yr q q0 (by omega)) (fun q q0 q1 c => ⟨fr _ _ (by omega) (by omega) (by omega) (by omega) (by omega), fun i => ⟨fr _ _ (by omega) (by omega) (by omega) (by omega) (by omega), fr _ _ (by omega) (by omega) (by omega) (by omega) (by omega)⟩⟩) e1 ex ey
  refine ⟨⟨by rw [e5]; exact n, by rw [e7]; exact b.r, fun q q0 q1 => ?_, fun q r q0 q1 r0 r1 hqr => ?_, fun q q0 q1 => ?_, ?_⟩, eS⟩
  · rw [e5] at q1
    have w := b.w q q0 q1
    rw [yr q q0 (by omega)]
    refine ⟨?_, w.2⟩
    by_cases c : q = p
    · rw [c]
      refine ⟨wp.p, wp.l, by omega, fun i i0 i1 => ?_⟩
      rw [ex, ey]
      by_cases c2 : i = h (2 + 3 * p) 1
      · rw [if_pos c2, if_pos c2]
        exact hx
      · rw [if_neg c2, if_neg c2]
        exact wp.x i i0 (by omega)
    · exact cd_W_at w.1 (fr _ _ (by omega) (by omega) (by omega) (by omega) (by omega)) (fun k => fr _ _ (by omega) (by omega) (by omega) (by omega) (by omega)) (fun k => fr _ _ (by omega) (by omega) (by omega) (by omega) (by omega))
  · rw [e5] at q1 r1
    rw [yr q q0 (by omega), yr r r0 (by omega)] at hqr
    exact b.y q r q0 q1 r0 r1 hqr
  · rw [e5] at q0
    rw [fr _ _ (by omega) (by omega) (by omega) (by omega) (by omega)]
    exact b.e q q0 q1
  · rw [fr 0 6 (by omega) (by omega) (by omega) (by omega) (by omega), b.f]
    exact (sp_f_yr (by show h' 0 5 = h 0 5; exact e5) (fun q q0 q1 => by rw [cd_S_yr q0 (by rw [e5]; exact q1), cd_S_yr q0 q1]; exact yr q q0 (by have : q < h 0 5 := q1; omega))).symm
theorem cd_B.wipe {h h' : ez_H} {p i : Int} (b : cd_B h) (hp : 0 ≤ p ∧ p < h 0 5) (hi : 0 ≤ i ∧ i < h (2 + 3 * p) 1) (e1 : h' (2 + 3 * p) 1 = h (2 + 3 * p) 1 - 1) (ex : ∀ k : Int, h' (2 + 3 * p + 1) k = if i ≤ k ∧ k < h (2 + 3 * p) 1 - 1 then h (2 + 3 * p + 1) (k + 1) else h (2 + 3 * p + 1) k) (ey : ∀ k : Int, h' (2 + 3 * p + 2) k = if i ≤ k ∧ k < h (2 + 3 * p) 1 - 1 then h (2 + 3 * p + 2) (k + 1) else h (2 + 3 * p + 2) k) (fr : ∀ o k : Int, o ≠ 2 + 3 * p + 1 → o ≠ 2 + 3 * p + 2 → ¬ (o = 2 + 3 * p ∧ k = 1) → ¬ (o = 0 ∧ k = 4) → o < 17 → h' o k = h o k) : cd_B h' ∧ cd_S h' = sp_wiS (cd_S h) p i := by
  have n := b.n
  have wp := (b.w p hp.1 hp.2).1
  have wn := wp.n
  have e5 : h' 0 5 = h 0 5 := fr _ _ (by omega) (by omega) (by omega) (by omega) (by omega)
  have e7 : h' 0 7 = h 0 7 := fr _ _ (by omega) (by omega) (by omega) (by omega) (by omega)
  have yr : ∀ q : Int, 0 ≤ q → q < 5 → h' (2 + 3 * q) 0 = h (2 + 3 * q) 0 := fun q q0 q1 => fr _ _ (by omega) (by omega) (by omega) (by omega) (by omega)
  have eS : cd_S h' = sp_wiS (cd_S h) p i := by
    unfold cd_S
    rw [e5, e7]
    exact sp_mk_wipe hp hi (fun q q0 q1 => yr q q0 (by omega)) (fun q q0 q1 c => ⟨fr _ _ (by omega) (by omega) (by omega) (by omega) (by omega), fun i => ⟨fr _ _ (by omega) (by omega) (by omega) (by omega) (by omega), fr _ _ (by omega) (by omega) (by omega) (by omega) (by omega)⟩⟩) e1 ex ey
  refine ⟨⟨by rw [e5]; exact n, by rw [e7]; exact b.r, fun q q0 q1 => ?_, fun q r q0 q1 r0 r1 hqr => ?_, fun q q0 q1 => ?_, ?_⟩, eS⟩
  · rw [e5] at q1
    have w := b.w q q0 q1
    rw [yr q q0 (by omega)]
    refine ⟨?_, w.2⟩
    by_cases c : q = p
    · rw [c]
      refine ⟨wp.p, wp.l, by omega, fun j j0 j1 => ?_⟩
      rw [ex, ey]
      by_cases c2 : i ≤ j ∧ j < h (2 + 3 * p) 1 - 1
      · rw [if_pos c2, if_pos c2]
        exact wp.x (j + 1) (by omega) (by omega)
      · rw [if_neg c2, if_neg c2]
        exact wp.x j j0 (by omega)
    · exact cd_W_at w.1 (fr _ _ (by omega) (by omega) (by omega) (by omega) (by omega)) (fun k => fr _ _ (by omega) (by omega) (by omega) (by omega) (by omega)) (fun k => fr _ _ (by omega) (by omega) (by omega) (by omega) (by omega))
  · rw [e5] at q1 r1
    rw [yr q q0 (by omega), yr r r0 (by omega)] at hqr
    exact b.y q r q0 q1 r0 r1 hqr
  · rw [e5] at q0
    rw [fr _ _ (by omega) (by omega) (by omega) (by omega) (by omega)]
    exact b.e q q0 q1
  · rw [fr 0 6 (by omega) (by omega) (by omega) (by omega) (by omega), b.f]
    exact (sp_f_yr (by show h' 0 5 = h 0 5; exact e5) (fun q q0 q1 => by rw [cd_S_yr q0 (by rw [e5]; exact q1), cd_S_yr q0 q1]; exact yr q q0 (by have : q < h 0 5 := q1; omega))).symm
theorem c_X5_spot {p px py : Int} {h : ez_H} (v : cd_V h) : ez_Ct M_X5_spot [ez_R 0, ez_I p, ez_I px, ez_I py] h (ez_PI (fun h' z => cd_V h' ∧ cm_fr h h' ∧ ((sp_spA (cd_S h) p px py ∧ z = (((cd_S h).2.2.2 p).1 : Int) ∧ cd_S h' = sp_spS (cd_S h) p px py) ∨ (¬ sp_spA (cd_S h) p px py ∧ z = -1 ∧ cd_S h' = cd_S h)))) := by
  have n := v.b.n
  have ff := v.b.fr
  refine ez_of (by decide) (Nat.le_of_ble_eq_true rfl) (L0 := [ez_R 0, ez_I p, ez_I px, ez_I py, ez_N]) rfl ?_
  refine ez_aload_n dX5_spot_0 rfl ?_
  refine ez_iload_n dX5_spot_1 rfl ?_
  refine cl_X5_isPlate dX5_spot_2 ml_X5_58 ft_X5_spot__X5_isPlate (Nat.le_of_ble_eq_true rfl) c_X5_isPlate (ez_kB (fun b_2 => ?_) (fun b_2 => ?_))
  · refine ez_if_eq 22 dX5_spot_5 (by decide) (fun c_5 => ?_) (fun c_5 => ?_)
    · exact absurd c_5 (by decide)
    · refine ez_iload_n dX5_spot_8 rfl ?_
      refine cl_X5_isOnPlate dX5_spot_9 ml_X5_61 ft_X5_spot__X5_isOnPlate (Nat.le_of_ble_eq_true rfl) c_X5_isOnPlate (ez_kB (fun b_9 => ?_) (fun b_9 => ?_))
      · refine ez_if_eq 22 dX5_spot_12 (by decide) (fun c_12 => ?_) (fun c_12 => ?_)
        · exact absurd c_12 (by decide)
        · refine ez_iload_n dX5_spot_15 rfl ?_
          refine cl_X5_isOnPlate dX5_spot_16 ml_X5_61 ft_X5_spot__X5_isOnPlate (Nat.le_of_ble_eq_true rfl) c_X5_isOnPlate (ez_kB (fun b_16 => ?_) (fun b_16 => ?_))
          · refine ez_if_ne 24 dX5_spot_19 (by decide) (fun c_19 => ?_) (fun c_19 => ?_)
            · have n2 := cd_n2 v.b b_2.1 b_2.2
              have wn := (v.b.w p b_2.1 b_2.2).1.n
              have xy := fun k => cd_xy (j := k) v.b b_2
              refine ez_aload_n dX5_spot_24 rfl ?_
              refine g5_0 dX5_spot_25 fl_X5_11 ?_
              refine ez_iload_n dX5_spot_28 rfl ?_
              refine ez_aaloadP dX5_spot_29 (by omega) ?_
              refine ez_iload_n dX5_spot_30 rfl ?_
              refine ez_iload_n dX5_spot_31 rfl ?_
              refine cl_X3_add (by first | assumption | exact ez_isP.mk (by omega)) dX5_spot_32 ml_X5_64 ft_X5_spot__X3_add (Nat.le_of_ble_eq_true rfl) (c_X3_add (o := (2 + 3 * p)) (ez_isP.mk (by omega)) wn) (ez_kI (fun h1 z A1 => ?_))
              refine ez_istore dX5_spot_35 (by decide) ?_
              refine ez_iload dX5_spot_37 rfl ?_
              refine ez_iconst dX5_spot_39 (by decide) ?_
              refine ez_ic_eq 48 dX5_spot_40 (by decide) (fun c_40 => ?_) (fun c_40 => ?_)
              · refine ez_iload dX5_spot_48 rfl ?_
                refine ez_ireturn (st := []) dX5_spot_50 rfl ?_
                first
                 | (have FR : ∀ o k : Int, o ≠ (2 + 3 * p) + 1 → o ≠ (2 + 3 * p) + 2 → ¬ (o = (2 + 3 * p) ∧ k = 1) → ¬ (o = 0 ∧ k = 4) → o < 17 → h2 o k = h o k := fun o k q1 q2 q3 q4 q5 => (g3 o k q4 (by omega)).trans (a7 o k q1 q2 q3)
                    have BS := v.b.spot b_2 ⟨b_9, b_16⟩ a1 ((g3 _ _ (by omega) (by omega)).trans a4) (fun k => (g3 _ _ (by omega) (by omega)).trans (a5 k)) (fun k => (g3 _ _ (by omega) (by omega)).trans (a6 k)) FR
                    have V2 := v.chg b_2 BS.1 (FR _ _ (by omega) (by omega) (by omega) (by omega) (by omega)) (FR _ _ (by omega) (by omega) (by omega) (by omega) (by omega)) g1 (fun q q0 q1 => g2 q q0 (by omega)) (fun o o0 => by rw [← a7 o 0 (by omega) (by omega) (by omega)]; exact g4 o o0) (fun o k o0 o1 hk => (g3 o k (by omega) (by omega)).trans (a7 o k (by omega) (by omega) (by omega))) (fun o k o0 o1 c => FR o k (by omega) (by omega) (by omega) (by omega) o1)
                    refine ez_PI.in ⟨V2, fun o k ok => (g3 o k (by omega) (by omega)).trans (a7 o k (by omega) (by omega) (by omega)), Or.inl ⟨⟨b_2, b_9, b_16, by omega, fun k k0 k1 hk => a2 ⟨k, by omega, ?_⟩⟩, by omega, BS.2⟩⟩
                    rw [← (xy k (by omega)).1, ← (xy k (by omega)).2]
                    exact hk)
                 | (rcases A1 with ⟨a1, a2, a3, a4, a5, a6, a7⟩ | ⟨a1, a2, a3⟩
                    · omega
                    · subst a3
                      refine ez_PI.in ⟨v, cm_fr.rf _, Or.inr ⟨fun q => a1 ⟨by have := q.2.2.2.1; omega, fun ⟨k, k0, k1⟩ => q.2.2.2.2 k k0.1 (by omega) ?_⟩, a2, rfl⟩⟩
                      rw [(xy k (by omega)).1, (xy k (by omega)).2]
                      exact k1)
              · refine ez_aload_n dX5_spot_43 rfl ?_
                refine ez_iload_n dX5_spot_44 rfl ?_
                rcases A1 with ⟨a1, a2, a3, a4, a5, a6, a7⟩ | ⟨a1, a2, a3⟩
                rotate_left
                · exact absurd a2 c_40
                have e5 : h1 0 5 = h 0 5 := a7 0 5 (by omega) (by omega) (by omega)
                refine cl_X5_forgetLaysOf dX5_spot_45 ml_X5_68 ft_X5_spot__X5_forgetLaysOf (Nat.le_of_ble_eq_true rfl) (c_X5_forgetLaysOf (h := h1) (by omega) (by omega)) (ez_kV (fun h2 ⟨g1, g2, g3, g4⟩ => ?_))
                refine ez_iload dX5_spot_48 rfl ?_
                refine ez_ireturn (st := []) dX5_spot_50 rfl ?_
                first
                 | (have FR : ∀ o k : Int, o ≠ (2 + 3 * p) + 1 → o ≠ (2 + 3 * p) + 2 → ¬ (o = (2 + 3 * p) ∧ k = 1) → ¬ (o = 0 ∧ k = 4) → o < 17 → h2 o k = h o k := fun o k q1 q2 q3 q4 q5 => (g3 o k q4 (by omega)).trans (a7 o k q1 q2 q3)
                    have BS := v.b.spot b_2 ⟨b_9, b_16⟩ a1 ((g3 _ _ (by omega) (by omega)).trans a4) (fun k => (g3 _ _ (by omega) (by omega)).trans (a5 k)) (fun k => (g3 _ _ (by omega) (by omega)).trans (a6 k)) FR
                    have V2 := v.chg b_2 BS.1 (FR _ _ (by omega) (by omega) (by omega) (by omega) (by omega)) (FR _ _ (by omega) (by omega) (by omega) (by omega) (by omega)) g1 (fun q q0 q1 => g2 q q0 (by omega)) (fun o o0 => by rw [← a7 o 0 (by omega) (by omega) (by omega)]; exact g4 o o0) (fun o k o0 o1 hk => (g3 o k (by omega) (by omega)).trans (a7 o k (by omega) (by omega) (by omega))) (fun o k o0 o1 c => FR o k (by omega) (by omega) (by omega) (by omega) o1)
                    refine ez_PI.in ⟨V2, fun o k ok => (g3 o k (by omega) (by omega)).trans (a7 o k (by omega) (by omega) (by omega)), Or.inl ⟨⟨b_2, b_9, b_16, by omega, fun k k0 k1 hk => a2 ⟨k, by omega, ?_⟩⟩, by omega, BS.2⟩⟩
                    rw [← (xy k (by omega)).1, ← (xy k (by omega)).2]
                    exact hk)
                 | (rcases A1 with ⟨a1, a2, a3, a4, a5, a6, a7⟩ | ⟨a1, a2, a3⟩
                    · omega
                    · subst a3
                      refine ez_PI.in ⟨v, cm_fr.rf _, Or.inr ⟨fun q => a1 ⟨by have := q.2.2.2.1; omega, fun ⟨k, k0, k1⟩ => q.2.2.2.2 k k0.1 (by omega) ?_⟩, a2, rfl⟩⟩
                      rw [(xy k (by omega)).1, (xy k (by omega)).2]
                      exact k1)
            · exact absurd c_19 (by decide)
          · refine ez_if_ne 24 dX5_spot_19 (by decide) (fun c_19 => ?_) (fun c_19 => ?_)
            · exact absurd c_19 (by decide)
            · refine ez_iconst dX5_spot_22 (by decide) ?_
              refine ez_ireturn (st := []) dX5_spot_23 rfl ?_
              first
               | exact ez_PI.in ⟨v, cm_fr.rf h, Or.inr ⟨fun q => b_2 q.1, rfl, rfl⟩⟩
               | exact ez_PI.in ⟨v, cm_fr.rf h, Or.inr ⟨fun q => b_9 q.2.1, rfl, rfl⟩⟩
               | exact ez_PI.in ⟨v, cm_fr.rf h, Or.inr ⟨fun q => b_16 q.2.2.1, rfl, rfl⟩⟩
      · refine ez_if_eq 22 dX5_spot_12 (by decide) (fun c_12 => ?_) (fun c_12 => ?_)
        · refine ez_iconst dX5_spot_22 (by decide) ?_
          refine ez_ireturn (st := []) dX5_spot_23 rfl ?_
          first
           | exact ez_PI.in ⟨v, cm_fr.rf h, Or.inr ⟨fun q => b_2 q.1, rfl, rfl⟩⟩
           | exact ez_PI.in ⟨v, cm_fr.rf h, Or.inr ⟨fun q => b_9 q.2.1, rfl, rfl⟩⟩
           | exact ez_PI.in ⟨v, cm_fr.rf h, Or.inr ⟨fun q => b_16 q.2.2.1, rfl, rfl⟩⟩
        · exact absurd c_12 (by decide)
  · refine ez_if_eq 22 dX5_spot_5 (by decide) (fun c_5 => ?_) (fun c_5 => ?_)
    · refine ez_iconst dX5_spot_22 (by decide) ?_
      refine ez_ireturn (st := []) dX5_spot_23 rfl ?_
      first
       | exact ez_PI.in ⟨v, cm_fr.rf h, Or.inr ⟨fun q => b_2 q.1, rfl, rfl⟩⟩
       | exact ez_PI.in ⟨v, cm_fr.rf h, Or.inr ⟨fun q => b_9 q.2.1, rfl, rfl⟩⟩
       | exact ez_PI.in ⟨v, cm_fr.rf h, Or.inr ⟨fun q => b_16 q.2.2.1, rfl, rfl⟩⟩
    · exact absurd c_5 (by decide)
theorem c_X5_wipe {p i : Int} {h : ez_H} (v : cd_V h) : ez_Ct M_X5_wipe [ez_R 0, ez_I p, ez_I i] h (ez_PB (fun h' => cd_V h' ∧ cm_fr h h' ∧ (sp_wiA (cd_S h) p i → cd_S h' = sp_wiS (cd_S h) p i) ∧ (¬ sp_wiA (cd_S h) p i → cd_S h' = cd_S h)) (sp_wiA (cd_S h) p i)) := by
  have n := v.b.n
  have ff := v.b.fr
  refine ez_of (by decide) (Nat.le_of_ble_eq_true rfl) (L0 := [ez_R 0, ez_I p, ez_I i]) rfl ?_
  refine ez_aload_n dX5_wipe_0 rfl ?_
  refine ez_iload_n dX5_wipe_1 rfl ?_
  refine ez_iload_n dX5_wipe_2 rfl ?_
  refine cl_X5_isSpot dX5_wipe_3 ml_X5_72 ft_X5_wipe__X5_isSpot (Nat.le_of_ble_eq_true rfl) (c_X5_isSpot n) (ez_kB (fun b_3 => ?_) (fun b_3 => ?_))
  · refine ez_if_ne 11 dX5_wipe_6 (by decide) (fun c_6 => ?_) (fun c_6 => ?_)
    · have n2 := cd_n2 v.b b_3.1.1 b_3.1.2
      have wn := (v.b.w p b_3.1.1 b_3.1.2).1.n
      refine ez_aload_n dX5_wipe_11 rfl ?_
      refine g5_0 dX5_wipe_12 fl_X5_11 ?_
      refine ez_iload_n dX5_wipe_15 rfl ?_
      refine ez_aaloadP dX5_wipe_16 (by omega) ?_
      refine ez_iload_n dX5_wipe_17 rfl ?_
      refine cl_X3_remove (by first | assumption | exact ez_isP.mk (by omega)) dX5_wipe_18 ml_X5_76 ft_X5_wipe__X3_remove (Nat.le_of_ble_eq_true rfl) (c_X3_remove (o := (2 + 3 * p)) (m := h (2 + 3 * p) 1) (ez_isP.mk (by omega)) rfl (by omega)) (ez_kV (fun h1 ⟨a4, a5, a6, a7⟩ => ?_))
      have e5 : h1 0 5 = h 0 5 := a7 0 5 (by omega) (by omega) (by omega)
      refine ez_aload_n dX5_wipe_21 rfl ?_
      refine ez_iload_n dX5_wipe_22 rfl ?_
      refine cl_X5_forgetLaysOf dX5_wipe_23 ml_X5_68 ft_X5_wipe__X5_forgetLaysOf (Nat.le_of_ble_eq_true rfl) (c_X5_forgetLaysOf (h := h1) (by omega) (by omega)) (ez_kV (fun h2 ⟨g1, g2, g3, g4⟩ => ?_))
      refine ez_iconst dX5_wipe_26 (by decide) ?_
      refine ez_zreturn (st := []) dX5_wipe_27 rfl (by first | exact Or.inl rfl | exact Or.inr rfl | omega | (split <;> omega)) ?_
      have FR : ∀ o k : Int, o ≠ (2 + 3 * p) + 1 → o ≠ (2 + 3 * p) + 2 → ¬ (o = (2 + 3 * p) ∧ k = 1) → ¬ (o = 0 ∧ k = 4) → o < 17 → h2 o k = h o k := fun o k q1 q2 q3 q4 q5 => (g3 o k q4 (by omega)).trans (a7 o k q1 q2 q3)
      have BS := v.b.wipe b_3.1 b_3.2 ((g3 _ _ (by omega) (by omega)).trans a4) (fun k => (g3 _ _ (by omega) (by omega)).trans (a5 k)) (fun k => (g3 _ _ (by omega) (by omega)).trans (a6 k)) FR
      have V2 := v.chg b_3.1 BS.1 (FR _ _ (by omega) (by omega) (by omega) (by omega) (by omega)) (FR _ _ (by omega) (by omega) (by omega) (by omega) (by omega)) g1 (fun q q0 q1 => g2 q q0 (by omega)) (fun o o0 => by rw [← a7 o 0 (by omega) (by omega) (by omega)]; exact g4 o o0) (fun o k o0 o1 hk => (g3 o k (by omega) (by omega)).trans (a7 o k (by omega) (by omega) (by omega))) (fun o k o0 o1 c => FR o k (by omega) (by omega) (by omega) (by omega) o1)
      have hA : sp_wiA (cd_S h) p i := ⟨b_3.1, by omega, by omega⟩
      exact ez_PB.t ⟨V2, fun o k ok => (g3 o k (by omega) (by omega)).trans (a7 o k (by omega) (by omega) (by omega)), fun _ => BS.2, fun q => absurd hA q⟩ hA
    · exact absurd c_6 (by decide)
  · refine ez_if_ne 11 dX5_wipe_6 (by decide) (fun c_6 => ?_) (fun c_6 => ?_)
    · exact absurd c_6 (by decide)
    · refine ez_iconst dX5_wipe_9 (by decide) ?_
      refine ez_zreturn (st := []) dX5_wipe_10 rfl (by first | exact Or.inl rfl | exact Or.inr rfl | omega | (split <;> omega)) ?_
      have hno : ¬ sp_wiA (cd_S h) p i := fun q => b_3 ⟨q.1, by have := cd_n2 v.b q.1.1 q.1.2; have := q.2; omega⟩
      exact ez_PB.f ⟨v, cm_fr.rf h, fun q => absurd q hno, fun _ => rfl⟩ hno
theorem cd_V.reach {h h' : ez_H} {r : Int} (v : cd_V h) (hr : 0 ≤ r ∧ r ≤ 50) (e7 : h' 0 7 = r) (e4 : h 0 5 ≠ 0 → h' 0 4 = 0) (zz : ∀ a b : Int, 0 ≤ a → a < h 0 5 → 0 ≤ b → b < h 0 5 → h' (18 + 3 * (a * 5 + b)) 0 = 0) (mo : ∀ o : Int, 18 ≤ o → h' o 0 = h o 0 ∨ h' o 0 = 0) (fr : ∀ o k : Int, ¬ (o = 0 ∧ (k = 4 ∨ k = 7)) → (o < 17 ∨ o = 110) → h' o k = h o k) : cd_V h' ∧ cd_S h' = sp_reS (cd_S h) r := by
  have n := v.b.n
  have e5 : h' 0 5 = h 0 5 := fr _ _ (by omega) (by omega)
  have eS : cd_S h' = sp_reS (cd_S h) r := by
    unfold cd_S sp_reS
    rw [e5, e7]
    have z := sp_mk_eq (n := h 0 5) (R := r) (yr := fun p => h' (2 + 3 * p) 0) (mn := fun p => h' (2 + 3 * p) 1) (x := fun p i => h' (2 + 3 * p + 1) i) (y := fun p i => h' (2 + 3 * p + 2) i) (yr' := fun p => h (2 + 3 * p) 0) (mn' := fun p => h (2 + 3 * p) 1) (x' := fun p i => h (2 + 3 * p + 1) i) (y' := fun p i => h (2 + 3 * p + 2) i) (fun p p0 p1 => ⟨fr _ _ (by omega) (by omega), fr _ _ (by omega) (by omega)⟩) (fun p i p0 p1 i0 i1 => ⟨fr _ _ (by omega) (by omega), fr _ _ (by omega) (by omega)⟩)
    rw [z]
    rfl
  refine ⟨⟨⟨by rw [e5]; exact n, by rw [e7]; exact hr, fun p p0 p1 => ?_, fun p q p0 p1 q0 q1 hpq => ?_, fun p p0 p1 => ?_, ?_⟩, fun a b a0 a1 b0 b1 hf => ?_, fun a b a0 a1 b0 b1 hc => ?_, fun q q2 => absurd (e4 (by omega)) q, fun q => by rw [fr 110 0 (by omega) (by omega), fr 110 1 (by omega) (by omega)]; exact v.u (by omega)⟩, eS⟩
  · rw [e5] at p1
    rw [fr (2 + 3 * p) 0 (by omega) (by omega)]
    exact ⟨((v.b.w p p0 p1).1.eq (fun o' k a c => fr o' k (by omega) (by omega))).1, (v.b.w p p0 p1).2⟩
  · rw [e5] at p1 q1
    rw [fr (2 + 3 * p) 0 (by omega) (by omega), fr (2 + 3 * q) 0 (by omega) (by omega)] at hpq
    exact v.b.y p q p0 p1 q0 q1 hpq
  · rw [e5] at p0
    rw [fr (2 + 3 * p) 1 (by omega) (by omega)]
    exact v.b.e p p0 p1
  · rw [fr 0 6 (by omega) (by omega), eS]
    exact v.b.f
  · rw [e5] at a1 b1
    exact absurd (zz a b a0 a1 b0 b1) hf
  · rw [e5] at hc
    have m := mo (18 + 3 * (a * 5 + b)) (by omega)
    have z := v.z a b a0 a1 b0 b1 hc
    omega
theorem lp_rc {r : Int} {h : ez_H} (v : cd_V h) (hr : 0 ≤ r ∧ r ≤ 50) : ∀ (n : Nat) (p : Int) (h' : ez_H), (0 ≤ p ∧ p ≤ h 0 5) → (h' 0 7 = r) → (p = 0 ∨ h' 0 4 = 0) → (∀ a b : Int, 0 ≤ a → a < p → 0 ≤ b → b < h 0 5 → h' (18 + 3 * (a * 5 + b)) 0 = 0) → (∀ o : Int, 18 ≤ o → h' o 0 = h o 0 ∨ h' o 0 = 0) → (∀ o k : Int, ¬ (o = 0 ∧ (k = 4 ∨ k = 7)) → (o < 18 ∨ 92 < o) → h' o k = h o k) → h 0 5 - p < n → ez_En M_X5_reach 19 [ez_R 0, ez_I r, ez_I p] [] h' (ez_PB (fun h' => cd_V h' ∧ cm_fr h h' ∧ (((0 ≤ r ∧ r ≤ 50) ∧ cd_S h' = sp_reS (cd_S h) r) ∨ (¬ (0 ≤ r ∧ r ≤ 50) ∧ cd_S h' = cd_S h))) (0 ≤ r ∧ r ≤ 50)) := by
  intro n
  induction n with
  | zero =>
    intro p h' p0 e7 e4 zz mo fr hm
    exfalso
    omega
  | succ n ih =>
    intro p h' p0 e7 e4 zz mo fr hm
    have n0 := v.b.n
    have e5 : h' 0 5 = h 0 5 := fr 0 5 (by omega) (by omega)
    refine ez_iload_n dX5_reach_19 rfl ?_
    refine ez_aload_n dX5_reach_20 rfl ?_
    refine g5_5 dX5_reach_21 fl_X5_41 ?_
    refine ez_ic_ge 38 dX5_reach_24 (by decide) (fun c_24 => ?_) (fun c_24 => ?_)
    · refine ez_iconst dX5_reach_38 (by decide) ?_
      refine ez_zreturn (st := []) dX5_reach_39 rfl (by first | exact Or.inl rfl | exact Or.inr rfl | omega | (split <;> omega)) ?_
      have VR := v.reach (h' := h') hr e7 (by omega) (fun a b a0 a1 b0 b1 => zz a b a0 (by omega) b0 b1) mo (fun o k a b => fr o k a (by omega))
      exact ez_PB.t ⟨VR.1, fun o k a => fr o k (by omega) (by omega), Or.inl ⟨hr, VR.2⟩⟩ hr
    · refine ez_aload_n dX5_reach_27 rfl ?_
      refine ez_iload_n dX5_reach_28 rfl ?_
      refine cl_X5_forgetLaysOf dX5_reach_29 ml_X5_68 ft_X5_reach__X5_forgetLaysOf (Nat.le_of_ble_eq_true rfl) (c_X5_forgetLaysOf (h := h') (by omega) (by omega)) (ez_kV (fun h2 ⟨g1, g2, g3, g4⟩ => ?_))
      refine ez_iinc dX5_reach_32 rfl (by decide) (by decide) (by omega) ?_
      refine ez_goto 19 dX5_reach_35 (by decide) ?_
      refine ih (p + 1) h2 (by omega) ((g3 _ _ (by omega) (by omega)).trans e7) (Or.inr g1) (fun a b a0 a1 b0 b1 => ?_) (fun o o0 => ?_) (fun o k a b => (g3 o k (by omega) (by omega)).trans (fr o k a b)) (by omega)
      · by_cases c : a = p
        · rw [c]
          exact (g2 b b0 (by omega)).1
        · have z := zz a b a0 (by omega) b0 b1
          have m := g4 (18 + 3 * (a * 5 + b)) (by omega)
          omega
      · have m1 := mo o o0
        have m2 := g4 o o0
        omega
theorem c_X5_reach {r : Int} {h : ez_H} (v : cd_V h) : ez_Ct M_X5_reach [ez_R 0, ez_I r] h ((ez_PB (fun h' => cd_V h' ∧ cm_fr h h' ∧ (((0 ≤ r ∧ r ≤ 50) ∧ cd_S h' = sp_reS (cd_S h) r) ∨ (¬ (0 ≤ r ∧ r ≤ 50) ∧ cd_S h' = cd_S h))) (0 ≤ r ∧ r ≤ 50))) := by
  have n := v.b.n
  have ff := v.b.fr
  refine ez_of (by decide) (Nat.le_of_ble_eq_true rfl) (L0 := [ez_R 0, ez_I r, ez_N]) rfl ?_
  refine ez_iload_n dX5_reach_0 rfl ?_
  refine ez_if_lt 10 dX5_reach_1 (by decide) (fun c_1 => ?_) (fun c_1 => ?_)
  · refine ez_iconst dX5_reach_10 (by decide) ?_
    refine ez_zreturn (st := []) dX5_reach_11 rfl (by first | exact Or.inl rfl | exact Or.inr rfl | omega | (split <;> omega)) ?_
    exact ez_PB.f ⟨v, cm_fr.rf h, Or.inr ⟨by omega, rfl⟩⟩ (by omega)
  · refine ez_iload_n dX5_reach_4 rfl ?_
    refine ez_bipush dX5_reach_5 (by decide) (by decide) ?_
    refine ez_ic_le 12 dX5_reach_7 (by decide) (fun c_7 => ?_) (fun c_7 => ?_)
    · refine ez_aload_n dX5_reach_12 rfl ?_
      refine ez_iload_n dX5_reach_13 rfl ?_
      refine p5_7 dX5_reach_14 fl_X5_48 ?_
      refine ez_iconst dX5_reach_17 (by decide) ?_
      refine ez_istore_n dX5_reach_18 (by decide) ?_
      exact lp_rc v (by omega) 6 0 _ (by omega) ez_up_eq (Or.inl rfl) (fun a b a0 a1 => by omega) (fun o o0 => Or.inl (ez_up_ne (by omega))) (fun o k a b => ez_up_ne (by omega)) (by omega)
    · refine ez_iconst dX5_reach_10 (by decide) ?_
      refine ez_zreturn (st := []) dX5_reach_11 rfl (by first | exact Or.inl rfl | exact Or.inr rfl | omega | (split <;> omega)) ?_
      exact ez_PB.f ⟨v, cm_fr.rf h, Or.inr ⟨by omega, rfl⟩⟩ (by omega)
