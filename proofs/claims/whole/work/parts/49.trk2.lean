/-! the tracks are brought up to date -/
/-- one plate is being joined: the tracks 0 .. c - 1 have it -/
def jn_I (h : ez_H) (S : sp_S) (p : Nat) (c : Int) : Prop := (h 110 0 = sp_tr S) ∧ (h 110 1 = sm_ (fun i => if i < c then tk_ms S (p + 1) i else tk_ms S p i) (sp_tr S).toNat) ∧ (h 110 2 = S.2.2.1 (sp_f S)) ∧ (∀ i : Int, 0 ≤ i → i < c → tk_1 h S (p + 1) i) ∧ (∀ i : Int, c ≤ i → i < sp_tr S → tk_1 h S p i) ∧ (∀ q : Int, 0 ≤ q → q < S.1 → q < p + 1 ∨ q = sp_f S → h 120 q = S.2.2.1 q - S.2.2.1 (sp_f S))
theorem jn_I.c {h : ez_H} {S : sp_S} {p : Nat} {c : Int} (x_ : jn_I h S p c) : h 110 0 = sp_tr S := x_.1
theorem jn_I.m {h : ez_H} {S : sp_S} {p : Nat} {c : Int} (x_ : jn_I h S p c) : h 110 1 = sm_ (fun i => if i < c then tk_ms S (p + 1) i else tk_ms S p i) (sp_tr S).toNat := x_.2.1
theorem jn_I.y {h : ez_H} {S : sp_S} {p : Nat} {c : Int} (x_ : jn_I h S p c) : h 110 2 = S.2.2.1 (sp_f S) := x_.2.2.1
theorem jn_I.d {h : ez_H} {S : sp_S} {p : Nat} {c : Int} (x_ : jn_I h S p c) : ∀ i : Int, 0 ≤ i → i < c → tk_1 h S (p + 1) i := x_.2.2.2.1
theorem jn_I.t {h : ez_H} {S : sp_S} {p : Nat} {c : Int} (x_ : jn_I h S p c) : ∀ i : Int, c ≤ i → i < sp_tr S → tk_1 h S p i := x_.2.2.2.2.1
theorem jn_I.s {h : ez_H} {S : sp_S} {p : Nat} {c : Int} (x_ : jn_I h S p c) : ∀ q : Int, 0 ≤ q → q < S.1 → q < p + 1 ∨ q = sp_f S → h 120 q = S.2.2.1 q - S.2.2.1 (sp_f S) := x_.2.2.2.2.2
theorem jn_I.miss {h : ez_H} {S : sp_S} {p : Nat} {c : Int} (I : jn_I h S p c) (hS : 0 ≤ sp_f S ∧ sp_f S < S.1) (hn : S.1 ≤ 5) (hp : (p : Int) < S.1) (hf : (p : Int) ≠ sp_f S) (hc : 0 ≤ c ∧ c < sp_tr S) (hs : sp_so S c p = -1) : jn_I (ez_up h 110 1 (h 110 1 + 1)) S p (c + 1) := by
  have k1 : ∀ (i : Int) (q : Nat), tk_1 h S q i → tk_1 (ez_up h 110 1 (h 110 1 + 1)) S q i := fun i q t => t.eq (fun o k a b => ez_up_ne (by omega))
  refine ⟨(ez_up_ne (by omega)).trans I.c, ?_, (ez_up_ne (by omega)).trans I.y, fun i i0 i1 => ?_, fun i i0 i1 => k1 i p (I.t i (by omega) i1), fun q q0 q1 q2 => (ez_up_ne (by omega)).trans (I.s q q0 q1 q2)⟩
  · have mv : tk_ms S (p + 1) c = tk_ms S p c + 1 := by
      unfold tk_ms
      rw [sp_mv_s, if_pos hs]
      omega
    rw [ez_up_eq, I.m, sm_set (f := fun i => if i < c then tk_ms S (p + 1) i else tk_ms S p i) (g := fun i => if i < c + 1 then tk_ms S (p + 1) i else tk_ms S p i) hc.1 (fun k hk => ?_) _ (by omega)]
    · (try dsimp only)
      rw [if_neg (by omega), if_pos (by omega), mv]
      omega
    · (try dsimp only)
      by_cases q : k < c
      · rw [if_pos q, if_pos (by omega)]
      · rw [if_neg q, if_neg (by omega)]
  · by_cases e : i = c
    · rw [e]
      exact k1 c _ ((I.t c (Int.le_refl _) hc.2).miss (by omega) hf hs)
    · exact k1 i _ (I.d i i0 (by omega))
theorem jn_I.hit {h h' : ez_H} {S : sp_S} {p : Nat} {c j x y : Int} (I : jn_I h S p c) (hS : 0 ≤ sp_f S ∧ sp_f S < S.1) (hn : S.1 ≤ 5) (hp : (p : Int) < S.1) (hf : (p : Int) ≠ sp_f S) (hc : 0 ≤ c ∧ c < sp_tr S) (h8 : sp_tr S ≤ 8) (E : en_E h h' c p j x y) (hs : sp_so S c p = j) (hj : j ≠ -1) (hx : x = sp_on S p j 0) (hy : y = sp_on S p j 1) (bx : -7000 ≤ x ∧ x ≤ 7000) (by_ : -7000 ≤ y ∧ y ≤ 7000) (hr : h 120 p ≤ 999) : jn_I h' S p (c + 1) := by
  have E6 := E.2.2
  have hit := (I.t c (Int.le_refl _) hc.2).hit hS hn hp (by omega) hf E hs hj hx hy bx by_ (I.s p (by omega) hp (Or.inl (by omega))) hr
  have k1 : ∀ (i : Int) (q : Nat), q ≤ 5 → 0 ≤ i → i < 8 → i ≠ c → tk_1 h S q i → tk_1 h' S q i := fun i q hq i0 i1 i2 t => t.at hq (by omega) (fun o a b => E6 o i (by omega) (by omega)) (fun o q a b q0 q1 => E6 o _ (by omega) (by omega)) (by omega)
  refine ⟨(E6 _ _ (by omega) (by omega)).trans I.c, ?_, (E6 _ _ (by omega) (by omega)).trans I.y, fun i i0 i1 => ?_, fun i i0 i1 => k1 i p (by omega) (by omega) (by omega) (by omega) (I.t i (by omega) i1), fun q q0 q1 q2 => (E6 _ _ (by omega) (by omega)).trans (I.s q q0 q1 q2)⟩
  · have mv : tk_ms S (p + 1) c = tk_ms S p c := by
      unfold tk_ms
      rw [hit.2]
      omega
    rw [E6 110 1 (by omega) (by omega), I.m]
    refine sm_cong _ (fun k k0 k1 => ?_)
    by_cases q : k = c
    · rw [q, if_neg (by omega), if_pos (by omega), mv]
    · by_cases q2 : k < c
      · rw [if_pos q2, if_pos (by omega)]
      · rw [if_neg q2, if_neg (by omega)]
  · by_cases e : i = c
    · rw [e]
      exact hit.1
    · exact k1 i _ (by omega) i0 (by omega) e (I.d i i0 (by omega))
theorem cd_V.tr {h h' : ez_H} (v : cd_V h) (h4 : h 0 4 = 0) (hn : h 0 5 ≠ 0) (f : tr_fr h h') : cd_V h' := by
  have e : ∀ o k : Int, ¬ (o = 0 ∧ k = 4) → o < 17 → h' o k = h o k := fun o k _ c => f o k (by omega)
  have e5 := e 0 5 (by omega) (by omega)
  have n := v.b.n
  refine ⟨v.b.eq e, fun a' b' a0 a1 b0 b1 hf => ?_, fun a' b' a0 a1 b0 b1 hc => ?_, fun q q2 => absurd ((f 0 4 (by omega)).trans h4) q, fun q => absurd (e5.symm.trans q) hn⟩
  · rw [e5] at a1 b1
    have pa := ((v.b.w a' a0 a1).1.eq (fun o' k x c => e o' k (by omega) c)).2
    have pb := ((v.b.w b' b0 b1).1.eq (fun o' k x c => e o' k (by omega) c)).2
    rw [pa, pb, e 0 7 (by omega) (by omega)]
    rw [f _ 0 (by omega)] at hf
    exact (v.l a' b' a0 a1 b0 b1 hf).eq (fun x _ _ => f _ x (by omega)) (fun x => f _ x (by omega)) (fun x => f _ x (by omega))
  · rw [e5] at hc
    rw [f _ 0 (by omega)]
    exact v.z a' b' a0 a1 b0 b1 hc
theorem cd_V.fresh {h : ez_H} (v : cd_V h) (t : h 0 5 ≠ 0 → tk_A h (cd_S h)) : cd_V (ez_up h 0 4 1) := by
  have e : ∀ o k : Int, ¬ (o = 0 ∧ k = 4) → ez_up h 0 4 1 o k = h o k := fun o k q => ez_up_ne q
  have e5 := e 0 5 (by omega)
  have n := v.b.n
  refine ⟨v.b.eq (fun o k a _ => e o k a), fun a' b' a0 a1 b0 b1 hf => ?_, fun a' b' a0 a1 b0 b1 hc => ?_, fun q q2 => ?_, fun q => by rw [e 110 0 (by omega), e 110 1 (by omega)]; exact v.u (e5.symm.trans q)⟩
  · rw [e5] at a1 b1
    have pa := ((v.b.w a' a0 a1).1.eq (h' := ez_up h 0 4 1) (fun o' k x c => e o' k (by omega))).2
    have pb := ((v.b.w b' b0 b1).1.eq (h' := ez_up h 0 4 1) (fun o' k x c => e o' k (by omega))).2
    rw [pa, pb, e 0 7 (by omega)]
    rw [e _ 0 (by omega)] at hf
    exact (v.l a' b' a0 a1 b0 b1 hf).eq (fun x _ _ => e _ x (by omega)) (fun x => e _ x (by omega)) (fun x => e _ x (by omega))
  · rw [e5] at hc
    rw [e _ 0 (by omega)]
    exact v.z a' b' a0 a1 b0 b1 hc
  · rw [e5] at q2
    rw [cd_S_keep n.2 (fun o k a _ => e o k a)]
    exact (t q2).eq (fun o k a b => e o k (by omega))

theorem lp_jn {p : Nat} {h : ez_H} (v : cd_V h) (hn : h 0 5 ≠ 0) (hp : (p : Int) < h 0 5) (hne : (p : Int) ≠ h 0 6) (hf : h (18 + 3 * (h 0 6 * 5 + p)) 0 ≠ 0) {Q : ez_H → Option ez_V → Prop} (kx : ∀ h' : ez_H, jn_I h' (cd_S h) p (sp_tr (cd_S h)) → tr_fr h h' → Q h' none) : ∀ (n : Nat) (c : Int) (h' : ez_H), (0 ≤ c ∧ c ≤ sp_tr (cd_S h)) → (jn_I h' (cd_S h) p c) → (tr_fr h h') → sp_tr (cd_S h) - c < n → ez_En M_X4_join 18 [ez_R 110, ez_I (p : Nat), ez_R (2 + 3 * (p : Int)), ez_R (18 + 3 * (h 0 6 * 5 + p)), ez_I c, ez_N, ez_N, ez_N] [] h' Q := by
  intro n
  induction n with
  | zero =>
    intro c h' c0 I fr hm
    exfalso
    omega
  | succ n ih =>
    intro c h' c0 I fr hm
    have b := v.b
    have n := b.n
    have ff := b.fr
    have fb : 0 ≤ h 0 6 ∧ h 0 6 < h 0 5 := by omega
    have te := cd_tr_eq b
    have ef := b.f
    have hS : 0 ≤ sp_f (cd_S h) ∧ sp_f (cd_S h) < (cd_S h).1 := by rw [← ef]; exact fb
    have s5 : (cd_S h).1 ≤ 5 := n.2
    have sp1 : (p : Int) < (cd_S h).1 := hp
    have c1 := I.c
    have kL : ez_isL (18 + 3 * (h 0 6 * 5 + p)) := ez_isL.mk (by omega)
    refine ez_iload dX4_join_18 rfl ?_
    refine ez_aload_n dX4_join_20 rfl ?_
    refine g4_0 dX4_join_21 fl_X4_48 ?_
    refine ez_ic_ge 104 dX4_join_24 (by decide) (fun c_24 => ?_) (fun c_24 => ?_)
    · refine ez_vreturn (st := []) dX4_join_104 rfl ?_
      exact kx h' (by rw [show sp_tr (cd_S h) = c by omega]; exact I) fr
    · have u1 : h' ((18 + 3 * (h 0 6 * 5 + p)) + 2) c = h ((18 + 3 * (h 0 6 * 5 + p)) + 2) c := fr _ _ (by omega)
      have so := cd_so (i := c) v hn (p := p) ⟨by omega, hp⟩ hne hf (by omega)
      refine ez_aload_n dX4_join_27 rfl ?_
      refine g1_8 (by first | assumption | exact ez_isL.mk (by omega)) dX4_join_28 fl_X4_74 ?_
      refine ez_iload dX4_join_31 rfl ?_
      refine alL2 (by first | assumption | exact ez_isL.mk (by omega)) dX4_join_33 (by omega) ?_
      rw [u1, so.1]
      refine ez_istore dX4_join_34 (by decide) ?_
      refine ez_iload dX4_join_36 rfl ?_
      refine ez_iconst dX4_join_38 (by decide) ?_
      refine ez_ic_ne 55 dX4_join_39 (by decide) (fun c_39 => ?_) (fun c_39 => ?_)
      · have s2 := so.2 c_39
        have x1 : ∀ x : Int, h' ((2 + 3 * (p : Int)) + 1) x = h ((2 + 3 * (p : Int)) + 1) x := fun x => fr _ _ (by omega)
        have x2 : ∀ x : Int, h' ((2 + 3 * (p : Int)) + 2) x = h ((2 + 3 * (p : Int)) + 2) x := fun x => fr _ _ (by omega)
        have wp := (b.w p (by omega) hp).1
        have wn := wp.n
        have wx := wp.x _ s2.1.1 s2.1.2
        have s3 := s2.2.2.2.2 _ s2.1.1 s2.1.2
        have o3 : h' (18 + 3 * (h 0 6 * 5 + p)) 3 = h (18 + 3 * (h 0 6 * 5 + p)) 3 := fr _ _ (by omega)
        have o4 : h' (18 + 3 * (h 0 6 * 5 + p)) 4 = h (18 + 3 * (h 0 6 * 5 + p)) 4 := fr _ _ (by omega)
        have o5 : h' (18 + 3 * (h 0 6 * 5 + p)) 5 = h (18 + 3 * (h 0 6 * 5 + p)) 5 := fr _ _ (by omega)
        have o6 : h' (18 + 3 * (h 0 6 * 5 + p)) 6 = h (18 + 3 * (h 0 6 * 5 + p)) 6 := fr _ _ (by omega)
        refine ez_aload_n dX4_join_55 rfl ?_
        refine g3_2 (by first | assumption | exact ez_isP.mk (by omega)) dX4_join_56 fl_X4_64 ?_
        refine ez_iload dX4_join_59 rfl ?_
        refine alP1 (by first | assumption | exact ez_isP.mk (by omega)) dX4_join_61 (by omega) ?_
        rw [x1]
        refine ez_istore dX4_join_62 (by decide) ?_
        refine ez_aload_n dX4_join_64 rfl ?_
        refine g3_3 (by first | assumption | exact ez_isP.mk (by omega)) dX4_join_65 fl_X4_67 ?_
        refine ez_iload dX4_join_68 rfl ?_
        refine alP2 (by first | assumption | exact ez_isP.mk (by omega)) dX4_join_70 (by omega) ?_
        rw [x2]
        refine ez_istore dX4_join_71 (by decide) ?_
        refine ez_aload_n dX4_join_73 rfl ?_
        refine ez_iload dX4_join_74 rfl ?_
        refine ez_iload_n dX4_join_76 rfl ?_
        refine ez_iload dX4_join_77 rfl ?_
        refine ez_aload_n dX4_join_79 rfl ?_
        refine ez_iload dX4_join_80 rfl ?_
        refine ez_iload dX4_join_82 rfl ?_
        refine cl_X1_bringX (by first | assumption | exact ez_isL.mk (by omega)) dX4_join_84 ml_X4_79 ft_X4_join__X1_bringX (Nat.le_of_ble_eq_true rfl) (c_X1_bringX kL (by omega) (by omega) (by omega)) (ez_kF ?_)
        refine ez_aload_n dX4_join_87 rfl ?_
        refine ez_iload dX4_join_88 rfl ?_
        refine ez_iload dX4_join_90 rfl ?_
        refine cl_X1_bringY (by first | assumption | exact ez_isL.mk (by omega)) dX4_join_92 ml_X4_83 ft_X4_join__X1_bringY (Nat.le_of_ble_eq_true rfl) (c_X1_bringY kL (by omega) (by omega) (by omega)) (ez_kF ?_)
        rw [o3, o4, o5, o6, s3.1, s3.2]
        have bd := fx_t_bd (k := h (18 + 3 * (h 0 6 * 5 + p)) 3) wx
        have ob : (-7000 ≤ sp_on (cd_S h) p (sp_so (cd_S h) c p) 0 ∧ sp_on (cd_S h) p (sp_so (cd_S h) c p) 0 ≤ 7000) ∧ (-7000 ≤ sp_on (cd_S h) p (sp_so (cd_S h) c p) 1 ∧ sp_on (cd_S h) p (sp_so (cd_S h) c p) 1 ≤ 7000) := by
          rw [← s3.1, ← s3.2]
          have q4 := s2.2.1
          rcases (show h (18 + 3 * (h 0 6 * 5 + p)) 4 = 0 ∨ h (18 + 3 * (h 0 6 * 5 + p)) 4 = 1 ∨ h (18 + 3 * (h 0 6 * 5 + p)) 4 = 2 ∨ h (18 + 3 * (h 0 6 * 5 + p)) 4 = 3 by omega) with e | e | e | e <;> rw [e] <;> omega
        have tc := (I.t c (Int.le_refl _) (by omega)).rg
        have y0 := I.s p (by omega) sp1 (Or.inl (by omega))
        have yp := (b.w p (by omega) hp).2
        have yf := (b.w _ fb.1 fb.2).2
        rw [← ef, cd_S_yr (p := (p : Int)) (by omega) hp, cd_S_yr fb.1 fb.2] at y0
        refine cl_X4_enter dX4_join_95 ml_X4_70 ft_X4_join__X4_enter (Nat.le_of_ble_eq_true rfl) (c_X4_enter (by omega) (by omega) (by omega) ob (by omega)) (ez_kV (fun h2 E => ?_))
        have n1 := I.hit hS s5 sp1 (by omega) (by omega) (by omega) E rfl c_39 rfl rfl ob.1 ob.2 (by omega)
        have f1 : tr_fr h h2 := fun o k a => (E.2.2 o k (by omega) (by omega)).trans (fr o k a)
        refine ez_iinc dX4_join_98 rfl (by decide) (by decide) (by omega) ?_
        refine ez_goto 18 dX4_join_101 (by decide) ?_
        refine ez_lessS (L' := [ez_R 110, ez_I (p : Nat), ez_R (2 + 3 * (p : Int)), ez_R (18 + 3 * (h 0 6 * 5 + p)), ez_I (c + 1), ez_N, ez_N, ez_N]) ⟨Or.inr rfl, Or.inr rfl, Or.inr rfl, Or.inr rfl, Or.inr rfl, Or.inl rfl, Or.inl rfl, Or.inl rfl, trivial⟩ ?_
        exact ih (c + 1) _ (by omega) n1 f1 (by omega)
      · have n1 := I.miss hS s5 sp1 (by omega) (by omega) (by omega)
        have f1 : tr_fr h (ez_up h' 110 1 (h' 110 1 + 1)) := fun o k a => (ez_up_ne (by omega)).trans (fr o k a)
        have mb : 0 ≤ h' 110 1 ∧ h' 110 1 ≤ 48 := by
          have z := sm_bd (f := fun i => if i < c then tk_ms (cd_S h) (p + 1) i else tk_ms (cd_S h) p i) (C := 6) (sp_tr (cd_S h)).toNat (fun k k0 k1 => by
            have z1 := tk_ms_bd hS (p := p + 1) (by omega) k
            have z2 := tk_ms_bd hS (p := p) (by omega) k
            (try dsimp only)
            split <;> omega)
          rw [← I.m] at z
          omega
        refine ez_aload_n dX4_join_42 rfl ?_
        refine ez_dup dX4_join_43 rfl ?_
        refine g4_1 dX4_join_44 fl_X4_49 ?_
        refine ez_iconst dX4_join_47 (by decide) ?_
        refine ez_iadd dX4_join_48 (by omega) ?_
        refine p4_1 dX4_join_49 fl_X4_49 ?_
        refine ez_goto 98 dX4_join_52 (by decide) ?_
        refine ez_iinc dX4_join_98 rfl (by decide) (by decide) (by omega) ?_
        refine ez_goto 18 dX4_join_101 (by decide) ?_
        refine ez_lessS (L' := [ez_R 110, ez_I (p : Nat), ez_R (2 + 3 * (p : Int)), ez_R (18 + 3 * (h 0 6 * 5 + p)), ez_I (c + 1), ez_N, ez_N, ez_N]) ⟨Or.inr rfl, Or.inr rfl, Or.inr rfl, Or.inr rfl, Or.inr rfl, Or.inl rfl, Or.inl rfl, Or.inl rfl, trivial⟩ ?_
        exact ih (c + 1) _ (by omega) n1 f1 (by omega)
theorem c_X4_join {p : Nat} {h : ez_H} (v : cd_V h) (hn : h 0 5 ≠ 0) (hp : (p : Int) < h 0 5) (hne : (p : Int) ≠ h 0 6) (hf : h (18 + 3 * (h 0 6 * 5 + p)) 0 ≠ 0) (t : tk_C h (cd_S h) p) : ez_Ct M_X4_join [ez_R 110, ez_I (p : Nat), ez_R (2 + 3 * (p : Int)), ez_R (18 + 3 * (h 0 6 * 5 + p))] h (ez_PV (fun h' => tk_C h' (cd_S h) (p + 1) ∧ tr_fr h h')) := by
  refine ez_of (by decide) (Nat.le_of_ble_eq_true rfl) (L0 := [ez_R 110, ez_I (p : Nat), ez_R (2 + 3 * (p : Int)), ez_R (18 + 3 * (h 0 6 * 5 + p)), ez_N, ez_N, ez_N, ez_N]) rfl ?_
  have b := v.b
  have n := b.n
  have ff := b.fr
  have fb : 0 ≤ h 0 6 ∧ h 0 6 < h 0 5 := by omega
  have te := cd_tr_eq b
  have ef := b.f
  have hS : 0 ≤ sp_f (cd_S h) ∧ sp_f (cd_S h) < (cd_S h).1 := by rw [← ef]; exact fb
  have s5 : (cd_S h).1 ≤ 5 := n.2
  have sp1 : (p : Int) < (cd_S h).1 := hp
  have kL : ez_isL (18 + 3 * (h 0 6 * 5 + p)) := ez_isL.mk (by omega)
  have yp := (b.w p (by omega) hp).2
  have yf := (b.w _ fb.1 fb.2).2
  have ey : h 110 2 = h (2 + 3 * h 0 6) 0 := by rw [t.y, ← ef, cd_S_yr fb.1 fb.2]
  refine ez_aload_n dX4_join_0 rfl ?_
  refine g4_12 dX4_join_1 fl_X4_39 ?_
  refine ez_iload_n dX4_join_4 rfl ?_
  refine ez_aload_n dX4_join_5 rfl ?_
  refine g3_0 (by first | assumption | exact ez_isP.mk (by omega)) dX4_join_6 fl_X4_52 ?_
  refine ez_aload_n dX4_join_9 rfl ?_
  refine g4_2 dX4_join_10 fl_X4_55 ?_
  refine ez_isub dX4_join_13 (by omega) ?_
  refine as120 dX4_join_14 (by omega) ?_
  refine ez_iconst dX4_join_15 (by decide) ?_
  refine ez_istore dX4_join_16 (by decide) ?_
  refine lp_jn v hn hp hne hf (fun h2 I2 f2 => ?_) 9 0 _ (by omega) ⟨(ez_up_ne (by omega)).trans t.c, ?_, (ez_up_ne (by omega)).trans t.y, fun i i0 i1 => by omega, fun i i0 i1 => (t.i i i0 i1).eq (fun o k a b => ez_up_ne (by omega)), fun q q0 q1 q2 => ?_⟩ (fun o k a => ez_up_ne (by omega)) (by omega)
  · refine ez_PV.in ⟨⟨I2.c, ?_, I2.y, fun i i0 i1 => I2.d i i0 i1, fun q q0 q1 q2 => I2.s q q0 q1 (by omega)⟩, f2⟩
    rw [I2.m]
    exact sm_cong _ (fun k k0 k1 => if_pos (by omega))
  · rw [ez_up_ne (by omega), t.m]
    exact sm_cong _ (fun k k0 k1 => (if_neg (by omega)).symm)
  · by_cases e : q = p
    · rw [e, ez_up_eq, cd_S_yr (p := (p : Int)) (by omega) hp, ← ef, cd_S_yr fb.1 fb.2, ey]
    · rw [ez_up_ne (by omega)]
      exact t.s q q0 q1 (by omega)
theorem lp_ft {h : ez_H} (v : cd_V h) (hn : h 0 5 ≠ 0) : ∀ (n : Nat) (p : Nat) (h' : ez_H), ((p : Int) ≤ h 0 5) → (cd_V h') → (h' 0 4 = 0) → (tk_C h' (cd_S h) p) → (∀ o k : Int, (o < 17 ∨ 120 < o) → h' o k = h o k) → h 0 5 - p < n → ez_En M_X5_freshenTracks 38 [ez_R 0, ez_I (p : Nat)] [] h' (ez_PV (fun h' => cd_V h' ∧ cd_fr h h' ∧ (h 0 5 ≠ 0 → tk_A h' (cd_S h)))) := by
  intro n
  induction n with
  | zero =>
    intro p h' p0 v2 h4 t fr hm
    exfalso
    omega
  | succ n ih =>
    intro p h' p0 v2 h4 t fr hm
    have n := v.b.n
    have e5 : h' 0 5 = h 0 5 := fr 0 5 (by omega)
    have e6 : h' 0 6 = h 0 6 := fr 0 6 (by omega)
    have sS : cd_S h' = cd_S h := cd_S_keep n.2 (fun o k _ b => fr o k (by omega))
    have ff := v.b.fr
    have fb : 0 ≤ h 0 6 ∧ h 0 6 < h 0 5 := by omega
    have ef := v.b.f
    have hS : 0 ≤ sp_f (cd_S h) ∧ sp_f (cd_S h) < (cd_S h).1 := by rw [← ef]; exact fb
    refine ez_iload_n dX5_freshenTracks_38 rfl ?_
    refine ez_aload_n dX5_freshenTracks_39 rfl ?_
    refine g5_5 dX5_freshenTracks_40 fl_X5_41 ?_
    refine ez_ic_ge 83 dX5_freshenTracks_43 (by decide) (fun c_43 => ?_) (fun c_43 => ?_)
    · refine ez_aload_n dX5_freshenTracks_83 rfl ?_
      refine ez_iconst dX5_freshenTracks_84 (by decide) ?_
      refine p5_4 dX5_freshenTracks_85 fl_X5_37 (by first | exact Or.inl rfl | exact Or.inr rfl | omega) ?_
      refine ez_vreturn (st := []) dX5_freshenTracks_88 rfl ?_
      have pn : p = (cd_S h).1.toNat := by show p = (h 0 5).toNat; omega
      rw [pn] at t
      have ta := t.all
      refine ez_PV.in ⟨v2.fresh (fun _ => by rw [sS]; exact ta), fun o k a b => (ez_up_ne a).trans (fr o k b), fun _ => ta.eq (fun o k a b => ez_up_ne (by omega))⟩
    · refine ez_iload_n dX5_freshenTracks_46 rfl ?_
      refine ez_aload_n dX5_freshenTracks_47 rfl ?_
      refine g5_6 dX5_freshenTracks_48 fl_X5_45 ?_
      refine ez_ic_eq 77 dX5_freshenTracks_51 (by decide) (fun c_51 => ?_) (fun c_51 => ?_)
      · have t4 := t.self hS n.2 (by omega)
        have v4 := v2
        have q4 := h4
        have r4 := fr
        refine ez_iinc dX5_freshenTracks_77 rfl (by decide) (by decide) (by omega) ?_
        refine ez_goto 38 dX5_freshenTracks_80 (by decide) ?_
        exact ih (p + 1) _ (by omega) v4 q4 t4 r4 (by omega)
      · refine ez_aload_n dX5_freshenTracks_54 rfl ?_
        refine g5_3 dX5_freshenTracks_55 fl_X5_33 ?_
        refine ez_iload_n dX5_freshenTracks_58 rfl ?_
        refine ez_aload_n dX5_freshenTracks_59 rfl ?_
        refine g5_0 dX5_freshenTracks_60 fl_X5_11 ?_
        refine ez_iload_n dX5_freshenTracks_63 rfl ?_
        refine ez_aaloadP dX5_freshenTracks_64 (by omega) ?_
        refine ez_aload_n dX5_freshenTracks_65 rfl ?_
        refine ez_aload_n dX5_freshenTracks_66 rfl ?_
        refine g5_6 dX5_freshenTracks_67 fl_X5_45 ?_
        refine ez_iload_n dX5_freshenTracks_70 rfl ?_
        refine cl_X5_bestLay dX5_freshenTracks_71 ml_X5_102 ft_X5_freshenTracks__X5_bestLay (Nat.le_of_ble_eq_true rfl) (c_X5_bestLay (a := h' 0 6) (b := (p : Nat)) v2 (by omega) (by omega)) (ez_kR (fun h3 z ⟨e3, v3, b3, f3⟩ => ?_))
        have g5 : h3 0 5 = h 0 5 := (b3 0 5 (by omega)).trans e5
        have g6 : h3 0 6 = h' 0 6 := b3 0 6 (by omega)
        have s3 : cd_S h3 = cd_S h := (cd_S_keep (by omega) (fun o k _ b => b3 o k (by omega))).trans sS
        have t3 : tk_C h3 (cd_S h3) p := by
          rw [s3]
          exact t.eq (fun o k a b => b3 o k (by omega))
        rw [e3, ← g6]
        rw [← g6] at f3
        refine cl_X4_join dX5_freshenTracks_74 ml_X5_201 ft_X5_freshenTracks__X4_join (Nat.le_of_ble_eq_true rfl) (c_X4_join (p := p) v3 (by omega) (by omega) (by omega) f3 t3) (ez_kV (fun h4' ⟨t4, f4⟩ => ?_))
        rw [s3] at t4
        have v4 := v3.tr ((b3 0 4 (by omega)).trans h4) (by omega) f4
        have q4 : h4' 0 4 = 0 := (f4 0 4 (by omega)).trans ((b3 0 4 (by omega)).trans h4)
        have r4 : ∀ o k : Int, (o < 17 ∨ 120 < o) → h4' o k = h o k := fun o k a => (f4 o k (by omega)).trans ((b3 o k (by omega)).trans (fr o k a))
        refine ez_iinc dX5_freshenTracks_77 rfl (by decide) (by decide) (by omega) ?_
        refine ez_goto 38 dX5_freshenTracks_80 (by decide) ?_
        exact ih (p + 1) _ (by omega) v4 q4 t4 r4 (by omega)
theorem c_X5_freshenTracks {h : ez_H} (v : cd_V h) : ez_Ct M_X5_freshenTracks [ez_R 0] h ((ez_PV (fun h' => cd_V h' ∧ cd_fr h h' ∧ (h 0 5 ≠ 0 → tk_A h' (cd_S h))))) := by
  refine ez_of (by decide) (Nat.le_of_ble_eq_true rfl) (L0 := [ez_R 0, ez_N]) rfl ?_
  have n := v.b.n
  have ff := v.b.fr
  refine ez_aload_n dX5_freshenTracks_0 rfl ?_
  refine g5_4 dX5_freshenTracks_1 fl_X5_37 ?_
  refine ez_if_ne 15 dX5_freshenTracks_4 (by decide) (fun c_4 => ?_) (fun c_4 => ?_)
  · refine ez_vreturn (st := []) dX5_freshenTracks_15 rfl ?_
    exact ez_PV.in ⟨v, cd_fr.rf h, fun q => by first | exact v.t (by omega) q | omega⟩
  · refine ez_aload_n dX5_freshenTracks_7 rfl ?_
    refine g5_6 dX5_freshenTracks_8 fl_X5_45 ?_
    refine ez_iconst dX5_freshenTracks_11 (by decide) ?_
    refine ez_ic_ne 16 dX5_freshenTracks_12 (by decide) (fun c_12 => ?_) (fun c_12 => ?_)
    · refine ez_aload_n dX5_freshenTracks_16 rfl ?_
      refine g5_3 dX5_freshenTracks_17 fl_X5_33 ?_
      refine ez_aload_n dX5_freshenTracks_20 rfl ?_
      refine g5_6 dX5_freshenTracks_21 fl_X5_45 ?_
      refine ez_aload_n dX5_freshenTracks_24 rfl ?_
      refine g5_0 dX5_freshenTracks_25 fl_X5_11 ?_
      refine ez_aload_n dX5_freshenTracks_28 rfl ?_
      refine g5_6 dX5_freshenTracks_29 fl_X5_45 ?_
      refine ez_aaloadP dX5_freshenTracks_32 (by omega) ?_
      have h0 : h 0 4 = 0 := by omega
      refine cl_X4_start dX5_freshenTracks_33 ml_X5_197 ft_X5_freshenTracks__X4_start (Nat.le_of_ble_eq_true rfl) (c_X4_start v.b (by omega)) (ez_kV (fun h1 ⟨t1, f1⟩ => ?_))
      refine ez_iconst dX5_freshenTracks_36 (by decide) ?_
      refine ez_istore_n dX5_freshenTracks_37 (by decide) ?_
      exact lp_ft v (by omega) 6 0 h1 (by omega) (v.tr h0 (by omega) f1) ((f1 0 4 (by omega)).trans h0) t1 (fun o k a => f1 o k (by omega)) (by omega)
    · refine ez_vreturn (st := []) dX5_freshenTracks_15 rfl ?_
      exact ez_PV.in ⟨v, cd_fr.rf h, fun q => by first | exact v.t (by omega) q | omega⟩
