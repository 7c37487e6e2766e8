/-! the reference's answers of lays and tracks -/
def ez_PB (P : ez_H → Prop) (c : Prop) : ez_H → Option ez_V → Prop := fun h' r => P h' ∧ ((c ∧ r = some (ez_I 1)) ∨ (¬ c ∧ r = some (ez_I 0)))
theorem ez_kPB {M : ez_M} {pc : Nat} {L st : List ez_V} {Q : ez_H → Option ez_V → Prop} {P : ez_H → Prop} {c : Prop} (k1 : ∀ h', P h' → c → ez_En M pc L (ez_I 1 :: st) h' Q) (k0 : ∀ h', P h' → ¬ c → ez_En M pc L (ez_I 0 :: st) h' Q) : ∀ h' r, ez_PB P c h' r → ez_En M pc L (r.toList ++ st) h' Q := fun h' r hr => by
  obtain ⟨hp, hr⟩ := hr
  rcases hr with ⟨hc, rfl⟩ | ⟨hc, rfl⟩
  · exact k1 h' hp hc
  · exact k0 h' hp hc
theorem ez_PB.t {P : ez_H → Prop} {c : Prop} {h : ez_H} (hp : P h) (hc : c) : ez_PB P c h (some (ez_I 1)) := ⟨hp, Or.inl ⟨hc, rfl⟩⟩
theorem ez_PB.f {P : ez_H → Prop} {c : Prop} {h : ez_H} (hp : P h) (hc : ¬ c) : ez_PB P c h (some (ez_I 0)) := ⟨hp, Or.inr ⟨hc, rfl⟩⟩
def md_g (h h' : ez_H) : Prop := md_V h' ∧ md_fr h h' ∧ ∀ x : Int, h 126 x ≠ 0 → h' 126 x ≠ 0
theorem md_g.rf {h : ez_H} (v : md_V h) : md_g h h := ⟨v, md_fr.rf h, fun _ hx => hx⟩
theorem md_g.tr {h h1 h2 : ez_H} (g1 : md_g h h1) (g2 : md_g h1 h2) : md_g h h2 := ⟨g2.1, g1.2.1.tr g2.2.1, fun x hx => g2.2.2 x (g1.2.2 x hx)⟩
theorem md_g.n {h h' : ez_H} (g : md_g h h') : h' 121 0 = h 121 0 := g.2.1 121 0 (by omega) (by omega)
theorem md_g.m {h h' : ez_H} (g : md_g h h') (p : Int) : h' 123 p = h 123 p := g.2.1 123 p (by omega) (by omega)
theorem md_g.y {h h' : ez_H} (g : md_g h h') (p : Int) : h' 122 p = h 122 p := g.2.1 122 p (by omega) (by omega)
def md_Q (h : ez_H) (z0 : Int) : ez_H → Option ez_V → Prop := ez_PI (fun h' z => md_g h h' ∧ z = z0)
theorem md_Q.in {h h' : ez_H} {z z0 : Int} (g : md_g h h') (e : z = z0) : md_Q h z0 h' (some (ez_I z)) := ⟨z, rfl, g, e⟩
theorem c_X6_hasLay {a b : Int} {h : ez_H} (v : md_V h) (ha : 0 ≤ a ∧ a < h 121 0) (hb : 0 ≤ b ∧ b < h 121 0) (hab : a ≠ b) : ez_Ct M_X6_hasLay [ez_R 121, ez_I a, ez_I b] h (ez_PB (fun h' => md_g h h' ∧ h' 126 (5 * a + b) ≠ 0 ∧ ∀ k : Int, h' 121 k = h 121 k) (sp_has (md_S h) a b)) := by
  have v0 := v.1
  refine ez_of (by decide) (Nat.le_of_ble_eq_true rfl) (L0 := [ez_R 121, ez_I a, ez_I b]) rfl ?_
  refine ez_aload_n dX6_hasLay_0 rfl ?_
  refine ez_iload_n dX6_hasLay_1 rfl ?_
  refine ez_iload_n dX6_hasLay_2 rfl ?_
  refine cl_X6_lays dX6_hasLay_3 ml_X6_102 ft_X6_hasLay__X6_lays (Nat.le_of_ble_eq_true rfl) (c_X6_lays v ha hb) (ez_kV (fun h1 hh => ?_))
  obtain ⟨v1, f1, k1, k2, k3⟩ := hh
  have e0 := f1 121 0 (by omega) (by omega)
  have hL := (v1.2.2.2.2 a b ha.1 (by omega) hb.1 (by omega) hab k1).F v1 (by omega) (by omega)
  rw [f1.S] at hL
  refine ez_aload_n dX6_hasLay_6 rfl ?_
  refine g6_7 dX6_hasLay_7 fl_X6_30 ?_
  refine ez_bipush dX6_hasLay_10 (by decide) (by decide) ?_
  refine ez_iconst dX6_hasLay_12 (by decide) ?_
  refine ez_iload_n dX6_hasLay_13 rfl ?_
  refine ez_imul dX6_hasLay_14 (by omega) ?_
  refine ez_iload_n dX6_hasLay_15 rfl ?_
  refine ez_iadd dX6_hasLay_16 (by omega) ?_
  refine ez_imul dX6_hasLay_17 (by omega) ?_
  refine al127 dX6_hasLay_18 (by omega) ?_
  refine ez_iconst dX6_hasLay_19 (by decide) ?_
  refine ez_ic_eq 27 dX6_hasLay_20 (by decide) (fun c_20 => ?_) (fun c_20 => ?_)
  · refine ez_iconst dX6_hasLay_27 (by decide) ?_
    refine ez_zreturn (st := []) dX6_hasLay_28 rfl (by first | exact Or.inl rfl | exact Or.inr rfl | omega | (split <;> omega)) ?_
    first
      | exact ez_PB.t ⟨⟨v1, f1, k2⟩, k1, k3⟩ (by rcases hL with q | q; exact absurd q.2 c_20; exact q.1)
      | exact ez_PB.f ⟨⟨v1, f1, k2⟩, k1, k3⟩ (by rcases hL with q | q; exact q.1; exact absurd c_20 q.2.1)
  · refine ez_iconst dX6_hasLay_23 (by decide) ?_
    refine ez_goto 28 dX6_hasLay_24 (by decide) ?_
    refine ez_zreturn (st := []) dX6_hasLay_28 rfl (by first | exact Or.inl rfl | exact Or.inr rfl | omega | (split <;> omega)) ?_
    first
      | exact ez_PB.t ⟨⟨v1, f1, k2⟩, k1, k3⟩ (by rcases hL with q | q; exact absurd q.2 c_20; exact q.1)
      | exact ez_PB.f ⟨⟨v1, f1, k2⟩, k1, k3⟩ (by rcases hL with q | q; exact q.1; exact absurd c_20 q.2.1)
theorem lp_frame {h : ez_H} (hn : 0 ≤ h 121 0 ∧ h 121 0 ≤ 5) : ∀ (n : Nat) (p : Nat) (f : Int), ((p : Int) ≤ h 121 0) → (f = sp_fr (h 122) p) → h 121 0 - p < n → ez_En M_X6_frame 4 [ez_R 121, ez_I f, ez_I (p : Nat)] [] h (ez_F h (sp_f (md_S h))) := by
  intro n
  induction n with
  | zero =>
    intro p f p1 ef hm
    exfalso
    omega
  | succ n ih =>
    intro p f p1 ef hm
    refine ez_iload_n dX6_frame_4 rfl ?_
    refine ez_aload_n dX6_frame_5 rfl ?_
    refine g6_0 dX6_frame_6 fl_X6_48 ?_
    refine ez_ic_ge 40 dX6_frame_9 (by decide) (fun c_9 => ?_) (fun c_9 => ?_)
    · refine ez_iload_n dX6_frame_40 rfl ?_
      refine ez_ireturn (st := []) dX6_frame_41 rfl ?_
      refine ez_F.in ?_
      unfold sp_f
      rw [ef, show p = (md_S h).1.toNat from by show p = (h 121 0).toNat; omega]
      exact sp_fr_cong _ (fun q q0 q1 => (md_S_yr q0 (by have : ((md_S h).1.toNat : Int) = (h 121 0).toNat := rfl; omega)).symm)
    · have hr := sp_fr_rng (h 122) p
      refine ez_iload_n dX6_frame_12 rfl ?_
      refine ez_iconst dX6_frame_13 (by decide) ?_
      refine ez_ic_eq 32 dX6_frame_14 (by decide) (fun c_14 => ?_) (fun c_14 => ?_)
      · have hs1 : sp_fr (h 122) (p + 1) = p := by
          unfold sp_fr
          rw [if_pos (Or.inl (by omega))]
        refine ez_iload_n dX6_frame_32 rfl ?_
        refine ez_istore_n dX6_frame_33 (by decide) ?_
        refine ez_iinc dX6_frame_34 rfl (by decide) (by decide) (by omega) ?_
        refine ez_goto 4 dX6_frame_37 (by decide) ?_
        refine ez_lessS (L' := [ez_R 121, ez_I (sp_fr (h 122) (p + 1)), ez_I ((p + 1 : Nat) : Int)]) ⟨Or.inr rfl, Or.inr (congrArg ez_I hs1), Or.inr rfl, trivial⟩ ?_
        exact ih (p + 1) _ (by omega) rfl (by omega)
      · refine ez_aload_n dX6_frame_17 rfl ?_
        refine g6_2 dX6_frame_18 fl_X6_13 ?_
        refine ez_iload_n dX6_frame_21 rfl ?_
        refine al122 dX6_frame_22 (by omega) ?_
        refine ez_aload_n dX6_frame_23 rfl ?_
        refine g6_2 dX6_frame_24 fl_X6_13 ?_
        refine ez_iload_n dX6_frame_27 rfl ?_
        refine al122 dX6_frame_28 (by omega) ?_
        refine ez_ic_ge 34 dX6_frame_29 (by decide) (fun c_29 => ?_) (fun c_29 => ?_)
        · have hs1 : sp_fr (h 122) (p + 1) = f := by
            unfold sp_fr
            rw [← ef, if_neg (by omega)]
          refine ez_iinc dX6_frame_34 rfl (by decide) (by decide) (by omega) ?_
          refine ez_goto 4 dX6_frame_37 (by decide) ?_
          refine ez_lessS (L' := [ez_R 121, ez_I (sp_fr (h 122) (p + 1)), ez_I ((p + 1 : Nat) : Int)]) ⟨Or.inr rfl, Or.inr (congrArg ez_I hs1), Or.inr rfl, trivial⟩ ?_
          exact ih (p + 1) _ (by omega) rfl (by omega)
        · have hs1 : sp_fr (h 122) (p + 1) = p := by
            unfold sp_fr
            rw [← ef, if_pos (by omega)]
          refine ez_iload_n dX6_frame_32 rfl ?_
          refine ez_istore_n dX6_frame_33 (by decide) ?_
          refine ez_iinc dX6_frame_34 rfl (by decide) (by decide) (by omega) ?_
          refine ez_goto 4 dX6_frame_37 (by decide) ?_
          refine ez_lessS (L' := [ez_R 121, ez_I (sp_fr (h 122) (p + 1)), ez_I ((p + 1 : Nat) : Int)]) ⟨Or.inr rfl, Or.inr (congrArg ez_I hs1), Or.inr rfl, trivial⟩ ?_
          exact ih (p + 1) _ (by omega) rfl (by omega)
theorem c_X6_frame {h : ez_H} (hn : 0 ≤ h 121 0 ∧ h 121 0 ≤ 5) : ez_Ct M_X6_frame [ez_R 121] h (ez_F h (sp_f (md_S h))) := by
  refine ez_of (by decide) (Nat.le_of_ble_eq_true rfl) (L0 := [ez_R 121, ez_N, ez_N]) rfl ?_
  refine ez_iconst dX6_frame_0 (by decide) ?_
  refine ez_istore_n dX6_frame_1 (by decide) ?_
  refine ez_iconst dX6_frame_2 (by decide) ?_
  refine ez_istore_n dX6_frame_3 (by decide) ?_
  exact lp_frame hn 6 0 (-1) (by omega) rfl (by omega)
theorem md_f {h : ez_H} (v : md_V h) (hn : h 121 0 ≠ 0) : 0 ≤ sp_f (md_S h) ∧ sp_f (md_S h) < h 121 0 := by
  have h1 := v.1
  have h2 := (sp_fr_rng (md_S h).2.2.1 (md_S h).1.toNat).2 (show 0 < (h 121 0).toNat by omega)
  have h3 : ((md_S h).1.toNat : Int) = h 121 0 := by show (((h 121 0).toNat : Nat) : Int) = _; omega
  unfold sp_f
  omega
theorem md_f0 {h : ez_H} (hn : h 121 0 = 0) : sp_f (md_S h) = -1 := (sp_fr_rng (md_S h).2.2.1 (md_S h).1.toNat).1 (by show (h 121 0).toNat = 0; omega)
theorem md_n2 {h : ez_H} {p : Int} (v : md_V h) (p0 : 0 ≤ p) (p1 : p < h 121 0) : (((md_S h).2.2.2 p).1 : Int) = h 123 p := by
  have w := (v.2.2.1 p p0 p1).1
  rw [← (md_S_eq p0 p1 w).1]
  exact (md_n w).1
theorem md_tr {h : ez_H} (v : md_V h) (hn : h 121 0 ≠ 0) : sp_tr (md_S h) = h 123 (sp_f (md_S h)) := by
  unfold sp_tr
  rw [if_neg (show ¬ (md_S h).1 = 0 from hn)]
  exact md_n2 v (md_f v hn).1 (md_f v hn).2
theorem c_X6_tracks {h : ez_H} (v : md_V h) : ez_Ct M_X6_tracks [ez_R 121] h (ez_F h (sp_tr (md_S h))) := by
  have v0 := v.1
  refine ez_of (by decide) (Nat.le_of_ble_eq_true rfl) (L0 := [ez_R 121]) rfl ?_
  refine ez_aload_n dX6_tracks_0 rfl ?_
  refine g6_0 dX6_tracks_1 fl_X6_48 ?_
  refine ez_if_ne 11 dX6_tracks_4 (by decide) (fun c_4 => ?_) (fun c_4 => ?_)
  · have hf := md_f v c_4
    refine ez_aload_n dX6_tracks_11 rfl ?_
    refine g6_3 dX6_tracks_12 fl_X6_17 ?_
    refine ez_aload_n dX6_tracks_15 rfl ?_
    refine cl_X6_frame dX6_tracks_16 ml_X6_109 ft_X6_tracks__X6_frame (Nat.le_of_ble_eq_true rfl) (c_X6_frame v.1) (ez_kF ?_)
    refine al123 dX6_tracks_19 (by omega) ?_
    refine ez_ireturn (st := []) dX6_tracks_20 rfl ?_
    first
      | exact ez_F.in (md_tr v c_4).symm
      | exact ez_F.in (by unfold sp_tr; rw [if_pos (show (md_S h).1 = 0 from c_4)])
  · refine ez_iconst dX6_tracks_7 (by decide) ?_
    refine ez_goto 20 dX6_tracks_8 (by decide) ?_
    refine ez_ireturn (st := []) dX6_tracks_20 rfl ?_
    first
      | exact ez_F.in (md_tr v c_4).symm
      | exact ez_F.in (by unfold sp_tr; rw [if_pos (show (md_S h).1 = 0 from c_4)])
theorem md_trb {h : ez_H} (v : md_V h) : 0 ≤ sp_tr (md_S h) ∧ sp_tr (md_S h) ≤ 8 := by
  by_cases q : h 121 0 = 0
  · unfold sp_tr
    rw [if_pos (show (md_S h).1 = 0 from q)]
    omega
  · rw [md_tr v q]
    exact (v.2.2.1 _ (md_f v q).1 (md_f v q).2).1.2.1
theorem c_X6_isTrack {i : Int} {h : ez_H} (v : md_V h) : ez_Ct M_X6_isTrack [ez_R 121, ez_I i] h (ez_B h (0 ≤ i ∧ i < sp_tr (md_S h))) := by
  refine ez_of (by decide) (Nat.le_of_ble_eq_true rfl) (L0 := [ez_R 121, ez_I i]) rfl ?_
  refine ez_iload_n dX6_isTrack_0 rfl ?_
  refine ez_iconst dX6_isTrack_1 (by decide) ?_
  refine ez_aload_n dX6_isTrack_2 rfl ?_
  refine cl_X6_tracks dX6_isTrack_3 ml_X6_113 ft_X6_isTrack__X6_tracks (Nat.le_of_ble_eq_true rfl) (c_X6_tracks v) (ez_kF ?_)
  have ht := md_trb v
  refine ez_iconst dX6_isTrack_6 (by decide) ?_
  refine ez_isub dX6_isTrack_7 (by omega) ?_
  refine cl_X6_isIn dX6_isTrack_8 ml_X6_51 ft_X6_isTrack__X6_isIn (Nat.le_of_ble_eq_true rfl) c_X6_isIn (ez_kB (fun b_8 => ?_) (fun b_8 => ?_))
  · refine ez_zreturn (st := []) dX6_isTrack_11 rfl (by first | exact Or.inl rfl | exact Or.inr rfl | omega | (split <;> omega)) ?_
    first | exact ez_B.t (by omega) | exact ez_B.f (by omega)
  · refine ez_zreturn (st := []) dX6_isTrack_11 rfl (by first | exact Or.inl rfl | exact Or.inr rfl | omega | (split <;> omega)) ?_
    first | exact ez_B.t (by omega) | exact ez_B.f (by omega)
def sp_layA (S : sp_S) (a b what : Int) : Prop := (0 ≤ a ∧ a < S.1) ∧ (0 ≤ b ∧ b < S.1) ∧ a ≠ b ∧ (0 ≤ what ∧ what ≤ 5) ∧ sp_has S a b
def sp_pairA (S : sp_S) (a b j : Int) : Prop := (0 ≤ a ∧ a < S.1) ∧ (0 ≤ b ∧ b < S.1) ∧ a ≠ b ∧ (0 ≤ j ∧ j < (S.2.2.2 b).1) ∧ sp_has S a b
theorem md_known {h h1 : ez_H} {a b : Int} (g : md_g h h1) (ha : 0 ≤ a ∧ a < h 121 0) (hb : 0 ≤ b ∧ b < h 121 0) (hab : a ≠ b) (hk : h1 126 (5 * a + b) ≠ 0) (hh : sp_has (md_S h) a b) :
    (∀ what : Int, 0 ≤ what → what ≤ 5 → h1 127 (6 * (5 * a + b) + what) = sp_lay (md_S h) a b what) ∧ ∀ j : Int, 0 ≤ j → j < h 123 b → h1 128 (8 * (5 * a + b) + j) = sp_pr (md_S h) a b j := by
  have e0 := g.n
  have hL := (g.1.2.2.2.2 a b ha.1 (by omega) hb.1 (by omega) hab hk).F g.1 (by omega) (by omega)
  rw [g.2.1.S] at hL
  rcases hL with q | q
  · exact absurd hh q.1
  · exact ⟨q.2.2.1, fun j j0 j1 => q.2.2.2 j j0 (by rw [g.m b]; exact j1)⟩

noncomputable def sp_dec (c : Prop) (x y : Int) : Int := @ite Int c (Classical.propDecidable c) x y
theorem sp_dec_t {c : Prop} {x y : Int} (h : c) : sp_dec c x y = x := @if_pos c (Classical.propDecidable c) h Int x y
theorem sp_dec_f {c : Prop} {x y : Int} (h : ¬ c) : sp_dec c x y = y := @if_neg c (Classical.propDecidable c) h Int x y
theorem c_X6_lay {a b what : Int} {h : ez_H} (v : md_V h) : ez_Ct M_X6_lay [ez_R 121, ez_I a, ez_I b, ez_I what] h (md_Q h (sp_dec (sp_layA (md_S h) a b what) (sp_lay (md_S h) a b what) (-10000))) := by
  have v0 := v.1
  refine ez_of (by decide) (Nat.le_of_ble_eq_true rfl) (L0 := [ez_R 121, ez_I a, ez_I b, ez_I what]) rfl ?_
  refine ez_aload_n dX6_lay_0 rfl ?_
  refine ez_iload_n dX6_lay_1 rfl ?_
  refine cl_X6_isPlate dX6_lay_2 ml_X6_58 ft_X6_lay__X6_isPlate (Nat.le_of_ble_eq_true rfl) (c_X6_isPlate v.1) (ez_kB (fun b_2 => ?_) (fun b_2 => ?_))
  · refine ez_if_eq 57 dX6_lay_5 (by decide) (fun c_5 => ?_) (fun c_5 => ?_)
    · exact absurd c_5 (by decide)
    · refine ez_aload_n dX6_lay_8 rfl ?_
      refine ez_iload_n dX6_lay_9 rfl ?_
      refine cl_X6_isPlate dX6_lay_10 ml_X6_58 ft_X6_lay__X6_isPlate (Nat.le_of_ble_eq_true rfl) (c_X6_isPlate v.1) (ez_kB (fun b_10 => ?_) (fun b_10 => ?_))
      · refine ez_if_eq 57 dX6_lay_13 (by decide) (fun c_13 => ?_) (fun c_13 => ?_)
        · exact absurd c_13 (by decide)
        · refine ez_iload_n dX6_lay_16 rfl ?_
          refine ez_iload_n dX6_lay_17 rfl ?_
          refine ez_ic_eq 57 dX6_lay_18 (by decide) (fun c_18 => ?_) (fun c_18 => ?_)
          · have hno : ¬ sp_layA (md_S h) a b what := fun q => by
              unfold sp_layA at q
              have q1 : a < h 121 0 := q.1.2
              have q2 : b < h 121 0 := q.2.1.2
              have q3 := q.2.2.2.2
              first | omega | exact b_33 q3
            refine ez_sipush dX6_lay_57 (by decide) (by decide) ?_
            refine ez_ireturn (st := []) dX6_lay_60 rfl ?_
            first
              | exact md_Q.in (md_g.rf v) (sp_dec_f hno).symm
              | exact md_Q.in g1 (sp_dec_f hno).symm
              | exact md_Q.in g1 ((hkn.1 what (by omega) (by omega)).trans (sp_dec_t (⟨by show 0 ≤ a ∧ a < h 121 0; omega, by show 0 ≤ b ∧ b < h 121 0; omega, by omega, by omega, b_33⟩ : sp_layA (md_S h) a b what)).symm)
          · refine ez_iload_n dX6_lay_21 rfl ?_
            refine ez_iconst dX6_lay_22 (by decide) ?_
            refine ez_iconst dX6_lay_23 (by decide) ?_
            refine cl_X6_isIn dX6_lay_24 ml_X6_51 ft_X6_lay__X6_isIn (Nat.le_of_ble_eq_true rfl) c_X6_isIn (ez_kB (fun b_24 => ?_) (fun b_24 => ?_))
            · refine ez_if_eq 57 dX6_lay_27 (by decide) (fun c_27 => ?_) (fun c_27 => ?_)
              · exact absurd c_27 (by decide)
              · refine ez_aload_n dX6_lay_30 rfl ?_
                refine ez_iload_n dX6_lay_31 rfl ?_
                refine ez_iload_n dX6_lay_32 rfl ?_
                refine cl_X6_hasLay dX6_lay_33 ml_X6_105 ft_X6_lay__X6_hasLay (Nat.le_of_ble_eq_true rfl) (c_X6_hasLay v (by omega) (by omega) (by omega)) (ez_kPB (fun h1 hh b_33 => ?_) (fun h1 hh b_33 => ?_))
                · obtain ⟨g1, k1, k3⟩ := hh
                  refine ez_if_eq 57 dX6_lay_36 (by decide) (fun c_36 => ?_) (fun c_36 => ?_)
                  · exact absurd c_36 (by decide)
                  · have hkn := md_known g1 (by omega) (by omega) (by omega) k1 b_33
                    refine ez_aload_n dX6_lay_39 rfl ?_
                    refine g6_7 dX6_lay_40 fl_X6_30 ?_
                    refine ez_bipush dX6_lay_43 (by decide) (by decide) ?_
                    refine ez_iconst dX6_lay_45 (by decide) ?_
                    refine ez_iload_n dX6_lay_46 rfl ?_
                    refine ez_imul dX6_lay_47 (by omega) ?_
                    refine ez_iload_n dX6_lay_48 rfl ?_
                    refine ez_iadd dX6_lay_49 (by omega) ?_
                    refine ez_imul dX6_lay_50 (by omega) ?_
                    refine ez_iload_n dX6_lay_51 rfl ?_
                    refine ez_iadd dX6_lay_52 (by omega) ?_
                    refine al127 dX6_lay_53 (by omega) ?_
                    refine ez_goto 60 dX6_lay_54 (by decide) ?_
                    refine ez_ireturn (st := []) dX6_lay_60 rfl ?_
                    first
                      | exact md_Q.in (md_g.rf v) (sp_dec_f hno).symm
                      | exact md_Q.in g1 (sp_dec_f hno).symm
                      | exact md_Q.in g1 ((hkn.1 what (by omega) (by omega)).trans (sp_dec_t (⟨by show 0 ≤ a ∧ a < h 121 0; omega, by show 0 ≤ b ∧ b < h 121 0; omega, by omega, by omega, b_33⟩ : sp_layA (md_S h) a b what)).symm)
                · obtain ⟨g1, k1, k3⟩ := hh
                  refine ez_if_eq 57 dX6_lay_36 (by decide) (fun c_36 => ?_) (fun c_36 => ?_)
                  · have hno : ¬ sp_layA (md_S h) a b what := fun q => by
                      unfold sp_layA at q
                      have q1 : a < h 121 0 := q.1.2
                      have q2 : b < h 121 0 := q.2.1.2
                      have q3 := q.2.2.2.2
                      first | omega | exact b_33 q3
                    refine ez_sipush dX6_lay_57 (by decide) (by decide) ?_
                    refine ez_ireturn (st := []) dX6_lay_60 rfl ?_
                    first
                      | exact md_Q.in (md_g.rf v) (sp_dec_f hno).symm
                      | exact md_Q.in g1 (sp_dec_f hno).symm
                      | exact md_Q.in g1 ((hkn.1 what (by omega) (by omega)).trans (sp_dec_t (⟨by show 0 ≤ a ∧ a < h 121 0; omega, by show 0 ≤ b ∧ b < h 121 0; omega, by omega, by omega, b_33⟩ : sp_layA (md_S h) a b what)).symm)
                  · exact absurd c_36 (by decide)
            · refine ez_if_eq 57 dX6_lay_27 (by decide) (fun c_27 => ?_) (fun c_27 => ?_)
              · have hno : ¬ sp_layA (md_S h) a b what := fun q => by
                  unfold sp_layA at q
                  have q1 : a < h 121 0 := q.1.2
                  have q2 : b < h 121 0 := q.2.1.2
                  have q3 := q.2.2.2.2
                  first | omega | exact b_33 q3
                refine ez_sipush dX6_lay_57 (by decide) (by decide) ?_
                refine ez_ireturn (st := []) dX6_lay_60 rfl ?_
                first
                  | exact md_Q.in (md_g.rf v) (sp_dec_f hno).symm
                  | exact md_Q.in g1 (sp_dec_f hno).symm
                  | exact md_Q.in g1 ((hkn.1 what (by omega) (by omega)).trans (sp_dec_t (⟨by show 0 ≤ a ∧ a < h 121 0; omega, by show 0 ≤ b ∧ b < h 121 0; omega, by omega, by omega, b_33⟩ : sp_layA (md_S h) a b what)).symm)
              · exact absurd c_27 (by decide)
      · refine ez_if_eq 57 dX6_lay_13 (by decide) (fun c_13 => ?_) (fun c_13 => ?_)
        · have hno : ¬ sp_layA (md_S h) a b what := fun q => by
            unfold sp_layA at q
            have q1 : a < h 121 0 := q.1.2
            have q2 : b < h 121 0 := q.2.1.2
            have q3 := q.2.2.2.2
            first | omega | exact b_33 q3
          refine ez_sipush dX6_lay_57 (by decide) (by decide) ?_
          refine ez_ireturn (st := []) dX6_lay_60 rfl ?_
          first
            | exact md_Q.in (md_g.rf v) (sp_dec_f hno).symm
            | exact md_Q.in g1 (sp_dec_f hno).symm
            | exact md_Q.in g1 ((hkn.1 what (by omega) (by omega)).trans (sp_dec_t (⟨by show 0 ≤ a ∧ a < h 121 0; omega, by show 0 ≤ b ∧ b < h 121 0; omega, by omega, by omega, b_33⟩ : sp_layA (md_S h) a b what)).symm)
        · exact absurd c_13 (by decide)
  · refine ez_if_eq 57 dX6_lay_5 (by decide) (fun c_5 => ?_) (fun c_5 => ?_)
    · have hno : ¬ sp_layA (md_S h) a b what := fun q => by
        unfold sp_layA at q
        have q1 : a < h 121 0 := q.1.2
        have q2 : b < h 121 0 := q.2.1.2
        have q3 := q.2.2.2.2
        first | omega | exact b_33 q3
      refine ez_sipush dX6_lay_57 (by decide) (by decide) ?_
      refine ez_ireturn (st := []) dX6_lay_60 rfl ?_
      first
        | exact md_Q.in (md_g.rf v) (sp_dec_f hno).symm
        | exact md_Q.in g1 (sp_dec_f hno).symm
        | exact md_Q.in g1 ((hkn.1 what (by omega) (by omega)).trans (sp_dec_t (⟨by show 0 ≤ a ∧ a < h 121 0; omega, by show 0 ≤ b ∧ b < h 121 0; omega, by omega, by omega, b_33⟩ : sp_layA (md_S h) a b what)).symm)
    · exact absurd c_5 (by decide)
theorem c_X6_pair {a b j : Int} {h : ez_H} (v : md_V h) : ez_Ct M_X6_pair [ez_R 121, ez_I a, ez_I b, ez_I j] h (md_Q h (sp_dec (sp_pairA (md_S h) a b j) (sp_pr (md_S h) a b j) (-1))) := by
  have v0 := v.1
  refine ez_of (by decide) (Nat.le_of_ble_eq_true rfl) (L0 := [ez_R 121, ez_I a, ez_I b, ez_I j]) rfl ?_
  refine ez_aload_n dX6_pair_0 rfl ?_
  refine ez_iload_n dX6_pair_1 rfl ?_
  refine cl_X6_isPlate dX6_pair_2 ml_X6_58 ft_X6_pair__X6_isPlate (Nat.le_of_ble_eq_true rfl) (c_X6_isPlate v.1) (ez_kB (fun b_2 => ?_) (fun b_2 => ?_))
  · refine ez_if_eq 64 dX6_pair_5 (by decide) (fun c_5 => ?_) (fun c_5 => ?_)
    · exact absurd c_5 (by decide)
    · refine ez_aload_n dX6_pair_8 rfl ?_
      refine ez_iload_n dX6_pair_9 rfl ?_
      refine cl_X6_isPlate dX6_pair_10 ml_X6_58 ft_X6_pair__X6_isPlate (Nat.le_of_ble_eq_true rfl) (c_X6_isPlate v.1) (ez_kB (fun b_10 => ?_) (fun b_10 => ?_))
      · refine ez_if_eq 64 dX6_pair_13 (by decide) (fun c_13 => ?_) (fun c_13 => ?_)
        · exact absurd c_13 (by decide)
        · refine ez_iload_n dX6_pair_16 rfl ?_
          refine ez_iload_n dX6_pair_17 rfl ?_
          refine ez_ic_eq 64 dX6_pair_18 (by decide) (fun c_18 => ?_) (fun c_18 => ?_)
          · have hno : ¬ sp_pairA (md_S h) a b j := fun q => by
              unfold sp_pairA at q
              have q1 : a < h 121 0 := q.1.2
              have q2 : b < h 121 0 := q.2.1.2
              have q3 := q.2.2.2.2
              first | omega | exact b_40 q3
            refine ez_iconst dX6_pair_64 (by decide) ?_
            refine ez_ireturn (st := []) dX6_pair_65 rfl ?_
            first
              | exact md_Q.in (md_g.rf v) (sp_dec_f hno).symm
              | exact md_Q.in g1 (sp_dec_f hno).symm
              | exact md_Q.in g1 ((hkn.2 j (by omega) (by omega)).trans (sp_dec_t (⟨by show 0 ≤ a ∧ a < h 121 0; omega, by show 0 ≤ b ∧ b < h 121 0; omega, by omega, by omega, b_40⟩ : sp_pairA (md_S h) a b j)).symm)
          · have hm := (v.2.2.1 b (by omega) (by omega)).1.2.1
            have hm2 := md_n2 v (p := b) (by omega) (by omega)
            refine ez_iload_n dX6_pair_21 rfl ?_
            refine ez_iconst dX6_pair_22 (by decide) ?_
            refine ez_aload_n dX6_pair_23 rfl ?_
            refine g6_3 dX6_pair_24 fl_X6_17 ?_
            refine ez_iload_n dX6_pair_27 rfl ?_
            refine al123 dX6_pair_28 (by omega) ?_
            refine ez_iconst dX6_pair_29 (by decide) ?_
            refine ez_isub dX6_pair_30 (by omega) ?_
            refine cl_X6_isIn dX6_pair_31 ml_X6_51 ft_X6_pair__X6_isIn (Nat.le_of_ble_eq_true rfl) c_X6_isIn (ez_kB (fun b_31 => ?_) (fun b_31 => ?_))
            · refine ez_if_eq 64 dX6_pair_34 (by decide) (fun c_34 => ?_) (fun c_34 => ?_)
              · exact absurd c_34 (by decide)
              · refine ez_aload_n dX6_pair_37 rfl ?_
                refine ez_iload_n dX6_pair_38 rfl ?_
                refine ez_iload_n dX6_pair_39 rfl ?_
                refine cl_X6_hasLay dX6_pair_40 ml_X6_105 ft_X6_pair__X6_hasLay (Nat.le_of_ble_eq_true rfl) (c_X6_hasLay v (by omega) (by omega) (by omega)) (ez_kPB (fun h1 hh b_40 => ?_) (fun h1 hh b_40 => ?_))
                · obtain ⟨g1, k1, k3⟩ := hh
                  refine ez_if_eq 64 dX6_pair_43 (by decide) (fun c_43 => ?_) (fun c_43 => ?_)
                  · exact absurd c_43 (by decide)
                  · have hkn := md_known g1 (by omega) (by omega) (by omega) k1 b_40
                    refine ez_aload_n dX6_pair_46 rfl ?_
                    refine g6_8 dX6_pair_47 fl_X6_33 ?_
                    refine ez_bipush dX6_pair_50 (by decide) (by decide) ?_
                    refine ez_iconst dX6_pair_52 (by decide) ?_
                    refine ez_iload_n dX6_pair_53 rfl ?_
                    refine ez_imul dX6_pair_54 (by omega) ?_
                    refine ez_iload_n dX6_pair_55 rfl ?_
                    refine ez_iadd dX6_pair_56 (by omega) ?_
                    refine ez_imul dX6_pair_57 (by omega) ?_
                    refine ez_iload_n dX6_pair_58 rfl ?_
                    refine ez_iadd dX6_pair_59 (by omega) ?_
                    refine al128 dX6_pair_60 (by omega) ?_
                    refine ez_goto 65 dX6_pair_61 (by decide) ?_
                    refine ez_ireturn (st := []) dX6_pair_65 rfl ?_
                    first
                      | exact md_Q.in (md_g.rf v) (sp_dec_f hno).symm
                      | exact md_Q.in g1 (sp_dec_f hno).symm
                      | exact md_Q.in g1 ((hkn.2 j (by omega) (by omega)).trans (sp_dec_t (⟨by show 0 ≤ a ∧ a < h 121 0; omega, by show 0 ≤ b ∧ b < h 121 0; omega, by omega, by omega, b_40⟩ : sp_pairA (md_S h) a b j)).symm)
                · obtain ⟨g1, k1, k3⟩ := hh
                  refine ez_if_eq 64 dX6_pair_43 (by decide) (fun c_43 => ?_) (fun c_43 => ?_)
                  · have hno : ¬ sp_pairA (md_S h) a b j := fun q => by
                      unfold sp_pairA at q
                      have q1 : a < h 121 0 := q.1.2
                      have q2 : b < h 121 0 := q.2.1.2
                      have q3 := q.2.2.2.2
                      first | omega | exact b_40 q3
                    refine ez_iconst dX6_pair_64 (by decide) ?_
                    refine ez_ireturn (st := []) dX6_pair_65 rfl ?_
                    first
                      | exact md_Q.in (md_g.rf v) (sp_dec_f hno).symm
                      | exact md_Q.in g1 (sp_dec_f hno).symm
                      | exact md_Q.in g1 ((hkn.2 j (by omega) (by omega)).trans (sp_dec_t (⟨by show 0 ≤ a ∧ a < h 121 0; omega, by show 0 ≤ b ∧ b < h 121 0; omega, by omega, by omega, b_40⟩ : sp_pairA (md_S h) a b j)).symm)
                  · exact absurd c_43 (by decide)
            · refine ez_if_eq 64 dX6_pair_34 (by decide) (fun c_34 => ?_) (fun c_34 => ?_)
              · have hno : ¬ sp_pairA (md_S h) a b j := fun q => by
                  unfold sp_pairA at q
                  have q1 : a < h 121 0 := q.1.2
                  have q2 : b < h 121 0 := q.2.1.2
                  have q3 := q.2.2.2.2
                  first | omega | exact b_40 q3
                refine ez_iconst dX6_pair_64 (by decide) ?_
                refine ez_ireturn (st := []) dX6_pair_65 rfl ?_
                first
                  | exact md_Q.in (md_g.rf v) (sp_dec_f hno).symm
                  | exact md_Q.in g1 (sp_dec_f hno).symm
                  | exact md_Q.in g1 ((hkn.2 j (by omega) (by omega)).trans (sp_dec_t (⟨by show 0 ≤ a ∧ a < h 121 0; omega, by show 0 ≤ b ∧ b < h 121 0; omega, by omega, by omega, b_40⟩ : sp_pairA (md_S h) a b j)).symm)
              · exact absurd c_34 (by decide)
      · refine ez_if_eq 64 dX6_pair_13 (by decide) (fun c_13 => ?_) (fun c_13 => ?_)
        · have hno : ¬ sp_pairA (md_S h) a b j := fun q => by
            unfold sp_pairA at q
            have q1 : a < h 121 0 := q.1.2
            have q2 : b < h 121 0 := q.2.1.2
            have q3 := q.2.2.2.2
            first | omega | exact b_40 q3
          refine ez_iconst dX6_pair_64 (by decide) ?_
          refine ez_ireturn (st := []) dX6_pair_65 rfl ?_
          first
            | exact md_Q.in (md_g.rf v) (sp_dec_f hno).symm
            | exact md_Q.in g1 (sp_dec_f hno).symm
            | exact md_Q.in g1 ((hkn.2 j (by omega) (by omega)).trans (sp_dec_t (⟨by show 0 ≤ a ∧ a < h 121 0; omega, by show 0 ≤ b ∧ b < h 121 0; omega, by omega, by omega, b_40⟩ : sp_pairA (md_S h) a b j)).symm)
        · exact absurd c_13 (by decide)
  · refine ez_if_eq 64 dX6_pair_5 (by decide) (fun c_5 => ?_) (fun c_5 => ?_)
    · have hno : ¬ sp_pairA (md_S h) a b j := fun q => by
        unfold sp_pairA at q
        have q1 : a < h 121 0 := q.1.2
        have q2 : b < h 121 0 := q.2.1.2
        have q3 := q.2.2.2.2
        first | omega | exact b_40 q3
      refine ez_iconst dX6_pair_64 (by decide) ?_
      refine ez_ireturn (st := []) dX6_pair_65 rfl ?_
      first
        | exact md_Q.in (md_g.rf v) (sp_dec_f hno).symm
        | exact md_Q.in g1 (sp_dec_f hno).symm
        | exact md_Q.in g1 ((hkn.2 j (by omega) (by omega)).trans (sp_dec_t (⟨by show 0 ≤ a ∧ a < h 121 0; omega, by show 0 ≤ b ∧ b < h 121 0; omega, by omega, by omega, b_40⟩ : sp_pairA (md_S h) a b j)).symm)
    · exact absurd c_5 (by decide)
