/-! the reference's place and moves -/
theorem md_so_rng {h : ez_H} {i p : Int} (v : md_V h) (hp : 0 ≤ p ∧ p < h 121 0) (hi : 0 ≤ i ∧ i < sp_tr (md_S h)) : sp_so (md_S h) i p = -1 ∨ ((0 ≤ sp_so (md_S h) i p ∧ sp_so (md_S h) i p < h 123 p) ∧ (p = sp_f (md_S h) ∨ sp_has (md_S h) (sp_f (md_S h)) p)) := by
  have hm := md_n2 v hp.1 hp.2
  rw [md_tr v (by omega)] at hi
  unfold sp_so
  by_cases q : p = sp_f (md_S h)
  · rw [if_pos q]
    refine Or.inr ⟨?_, Or.inl q⟩
    rw [q]
    exact hi
  · rw [if_neg q]
    by_cases q2 : ((md_S h).2.2.2 (sp_f (md_S h))).1 = 0 ∨ ((md_S h).2.2.2 p).1 = 0
    · rw [if_pos q2]
      exact Or.inl rfl
    · rw [if_neg q2]
      rcases sp_find_rng (pr := sp_pr (md_S h) (sp_f (md_S h)) p) (i := i) ((md_S h).2.2.2 p).1 with z | ⟨z1, z2, -⟩
      · exact Or.inl z
      · exact Or.inr ⟨by omega, Or.inr q2⟩
noncomputable def sp_placeA (S : sp_S) (i p what : Int) : Int := sp_dec ((0 ≤ i ∧ i < sp_tr S) ∧ (0 ≤ p ∧ p < S.1) ∧ (0 ≤ what ∧ what ≤ 1) ∧ sp_so S i p ≠ -1) (sp_on S p (sp_so S i p) what) (-10000)
theorem md_onk {h h1 : ez_H} {i p : Int} (v : md_V h) (g1 : md_g h h1) (hp : 0 ≤ p ∧ p < h 121 0) (hi : 0 ≤ i ∧ i < sp_tr (md_S h)) (hk : p = sp_f (md_S h) ∨ h1 126 (5 * sp_f (md_S h) + p) ≠ 0) (hz : sp_so (md_S h) i p ≠ -1) :
    (0 ≤ p ∧ p < h1 121 0) ∧ (0 ≤ sp_so (md_S h) i p ∧ sp_so (md_S h) i p < h1 123 p) ∧ (p = sp_f (md_S h1) ∨ (h1 126 (5 * sp_f (md_S h1) + p) ≠ 0 ∧ sp_has (md_S h1) (sp_f (md_S h1)) p)) := by
  rw [g1.2.1.S, g1.n, g1.m p]
  rcases md_so_rng v hp hi with q | ⟨q1, q2⟩
  · exact absurd q hz
  · refine ⟨hp, q1, ?_⟩
    rcases hk with hk | hk
    · exact Or.inl hk
    · rcases q2 with q2 | q2
      · exact Or.inl q2
      · exact Or.inr ⟨hk, q2⟩
theorem c_X6_place {i p what : Int} {h : ez_H} (v : md_V h) : ez_Ct M_X6_place [ez_R 121, ez_I i, ez_I p, ez_I what] h (md_Q h (sp_placeA (md_S h) i p what)) := by
  have v0 := v.1
  refine ez_of (by decide) (Nat.le_of_ble_eq_true rfl) (L0 := [ez_R 121, ez_I i, ez_I p, ez_I what, ez_N]) rfl ?_
  refine ez_aload_n dX6_place_0 rfl ?_
  refine ez_iload_n dX6_place_1 rfl ?_
  refine cl_X6_isTrack dX6_place_2 ml_X6_116 ft_X6_place__X6_isTrack (Nat.le_of_ble_eq_true rfl) (c_X6_isTrack v) (ez_kB (fun b_2 => ?_) (fun b_2 => ?_))
  · refine ez_if_eq 25 dX6_place_5 (by decide) (fun c_5 => ?_) (fun c_5 => ?_)
    · exact absurd c_5 (by decide)
    · refine ez_aload_n dX6_place_8 rfl ?_
      refine ez_iload_n dX6_place_9 rfl ?_
      refine cl_X6_isPlate dX6_place_10 ml_X6_58 ft_X6_place__X6_isPlate (Nat.le_of_ble_eq_true rfl) (c_X6_isPlate v.1) (ez_kB (fun b_10 => ?_) (fun b_10 => ?_))
      · refine ez_if_eq 25 dX6_place_13 (by decide) (fun c_13 => ?_) (fun c_13 => ?_)
        · exact absurd c_13 (by decide)
        · refine ez_iload_n dX6_place_16 rfl ?_
          refine ez_iconst dX6_place_17 (by decide) ?_
          refine ez_iconst dX6_place_18 (by decide) ?_
          refine cl_X6_isIn dX6_place_19 ml_X6_51 ft_X6_place__X6_isIn (Nat.le_of_ble_eq_true rfl) c_X6_isIn (ez_kB (fun b_19 => ?_) (fun b_19 => ?_))
          · refine ez_if_ne 29 dX6_place_22 (by decide) (fun c_22 => ?_) (fun c_22 => ?_)
            · refine ez_aload_n dX6_place_29 rfl ?_
              refine ez_iload_n dX6_place_30 rfl ?_
              refine ez_iload_n dX6_place_31 rfl ?_
              refine cl_X6_spotOf dX6_place_32 ml_X6_119 ft_X6_place__X6_spotOf (Nat.le_of_ble_eq_true rfl) (c_X6_spotOf v b_10) (ez_kI (fun h1 z hz => ?_))
              obtain ⟨g1, rfl, hk1, -⟩ := hz
              refine ez_istore dX6_place_35 (by decide) ?_
              refine ez_iload dX6_place_37 rfl ?_
              refine ez_iconst dX6_place_39 (by decide) ?_
              refine ez_ic_ne 49 dX6_place_40 (by decide) (fun c_40 => ?_) (fun c_40 => ?_)
              · have hon := md_onk v g1 b_10 b_2 hk1 c_40
                refine ez_aload_n dX6_place_49 rfl ?_
                refine ez_iload_n dX6_place_50 rfl ?_
                refine ez_iload dX6_place_51 rfl ?_
                refine ez_iload_n dX6_place_53 rfl ?_
                refine cl_X6_onFrame dX6_place_54 ml_X6_122 ft_X6_place__X6_onFrame (Nat.le_of_ble_eq_true rfl) (c_X6_onFrame g1.1 hon.1 hon.2.1 (by omega) hon.2.2) (ez_kF ?_)
                refine ez_ireturn (st := []) dX6_place_57 rfl ?_
                first
                  | exact md_Q.in g1 (sp_dec_f (fun q => q.2.2.2 c_40)).symm
                  | exact md_Q.in g1 (by rw [g1.2.1.S]; exact (sp_dec_t ⟨b_2, b_10, b_19, c_40⟩).symm)
              · refine ez_sipush dX6_place_43 (by decide) (by decide) ?_
                refine ez_goto 57 dX6_place_46 (by decide) ?_
                refine ez_ireturn (st := []) dX6_place_57 rfl ?_
                first
                  | exact md_Q.in g1 (sp_dec_f (fun q => q.2.2.2 c_40)).symm
                  | exact md_Q.in g1 (by rw [g1.2.1.S]; exact (sp_dec_t ⟨b_2, b_10, b_19, c_40⟩).symm)
            · exact absurd c_22 (by decide)
          · refine ez_if_ne 29 dX6_place_22 (by decide) (fun c_22 => ?_) (fun c_22 => ?_)
            · exact absurd c_22 (by decide)
            · refine ez_sipush dX6_place_25 (by decide) (by decide) ?_
              refine ez_ireturn (st := []) dX6_place_28 rfl ?_
              first
                | exact md_Q.in (md_g.rf v) (sp_dec_f (fun q => b_19 q.2.2.1)).symm
                | exact md_Q.in (md_g.rf v) (sp_dec_f (fun q => b_10 q.2.1)).symm
                | exact md_Q.in (md_g.rf v) (sp_dec_f (fun q => b_2 q.1)).symm
      · refine ez_if_eq 25 dX6_place_13 (by decide) (fun c_13 => ?_) (fun c_13 => ?_)
        · refine ez_sipush dX6_place_25 (by decide) (by decide) ?_
          refine ez_ireturn (st := []) dX6_place_28 rfl ?_
          first
            | exact md_Q.in (md_g.rf v) (sp_dec_f (fun q => b_19 q.2.2.1)).symm
            | exact md_Q.in (md_g.rf v) (sp_dec_f (fun q => b_10 q.2.1)).symm
            | exact md_Q.in (md_g.rf v) (sp_dec_f (fun q => b_2 q.1)).symm
        · exact absurd c_13 (by decide)
  · refine ez_if_eq 25 dX6_place_5 (by decide) (fun c_5 => ?_) (fun c_5 => ?_)
    · refine ez_sipush dX6_place_25 (by decide) (by decide) ?_
      refine ez_ireturn (st := []) dX6_place_28 rfl ?_
      first
        | exact md_Q.in (md_g.rf v) (sp_dec_f (fun q => b_19 q.2.2.1)).symm
        | exact md_Q.in (md_g.rf v) (sp_dec_f (fun q => b_10 q.2.1)).symm
        | exact md_Q.in (md_g.rf v) (sp_dec_f (fun q => b_2 q.1)).symm
    · exact absurd c_5 (by decide)
noncomputable def sp_mv (S : sp_S) (i : Int) : Nat → Int × Int
  | 0 => (sp_f S, 0)
  | p + 1 => if sp_so S i p = -1 then sp_mv S i p else ((if S.2.2.1 (sp_mv S i p).1 < S.2.2.1 p then (p : Int) else (sp_mv S i p).1), (sp_mv S i p).2 + 1)
noncomputable def sp_la (S : sp_S) (i : Int) : Int := (sp_mv S i S.1.toNat).1
noncomputable def sp_sp (S : sp_S) (i : Int) : Int := (sp_mv S i S.1.toNat).2
noncomputable def sp_wx (S : sp_S) (i : Int) : Int := sp_on S (sp_la S i) (sp_so S i (sp_la S i)) 0 - (S.2.2.2 (sp_f S)).2.1 i
noncomputable def sp_wy (S : sp_S) (i : Int) : Int := sp_on S (sp_la S i) (sp_so S i (sp_la S i)) 1 - (S.2.2.2 (sp_f S)).2.2 i
noncomputable def sp_ys (S : sp_S) (i : Int) : Int := S.2.2.1 (sp_la S i) - S.2.2.1 (sp_f S)
theorem sp_mv_rng {S : sp_S} {i : Int} (hf : 0 ≤ sp_f S ∧ sp_f S < S.1) : ∀ p : Nat, (p : Int) ≤ S.1 → (0 ≤ (sp_mv S i p).1 ∧ (sp_mv S i p).1 < S.1) ∧ (0 ≤ (sp_mv S i p).2 ∧ (sp_mv S i p).2 ≤ p) ∧ ((sp_mv S i p).1 = sp_f S ∨ (sp_so S i (sp_mv S i p).1 ≠ -1 ∧ S.2.2.1 (sp_f S) < S.2.2.1 (sp_mv S i p).1))
  | 0, _ => ⟨hf, ⟨Int.le_refl _, Int.le_refl _⟩, Or.inl rfl⟩
  | p + 1, hp => by
    obtain ⟨i1, i2, i3⟩ := sp_mv_rng (i := i) hf p (by omega)
    unfold sp_mv
    by_cases q : sp_so S i p = -1
    · rw [if_pos q]
      exact ⟨i1, by omega, i3⟩
    · rw [if_neg q]
      refine ⟨?_, by push_cast; omega, ?_⟩
      · dsimp only
        split <;> omega
      · dsimp only
        by_cases q2 : S.2.2.1 (sp_mv S i p).1 < S.2.2.1 p
        · rw [if_pos q2]
          rcases i3 with i3 | i3
          · exact Or.inr ⟨q, by rw [i3] at q2; exact q2⟩
          · exact Or.inr ⟨q, by omega⟩
        · rw [if_neg q2]
          exact i3
theorem md_la {h : ez_H} {i : Int} (v : md_V h) (hn : h 121 0 ≠ 0) : (0 ≤ sp_la (md_S h) i ∧ sp_la (md_S h) i < h 121 0) ∧ (0 ≤ sp_sp (md_S h) i ∧ sp_sp (md_S h) i ≤ h 121 0) ∧ (sp_la (md_S h) i = sp_f (md_S h) ∨ (sp_so (md_S h) i (sp_la (md_S h) i) ≠ -1 ∧ (md_S h).2.2.1 (sp_f (md_S h)) < (md_S h).2.2.1 (sp_la (md_S h) i))) := by
  have h0 := v.1
  have e : ((md_S h).1.toNat : Int) = h 121 0 := by show (((h 121 0).toNat : Nat) : Int) = _; omega
  have := sp_mv_rng (S := md_S h) (i := i) (md_f v hn) (md_S h).1.toNat (by rw [e]; exact Int.le_refl _)
  rw [e] at this
  exact this
theorem md_g.up {h h' : ez_H} (g : md_g h h') {k v : Int} (hk : 13 ≤ k ∧ k ≤ 18) : md_g h (ez_up h' 121 k v) := by
  have f : md_fr h' (ez_up h' 121 k v) := fun o x h1 h2 => ez_up_ne (by omega)
  exact ⟨g.1.own f (fun o x h1 h2 => ez_up_ne (by omega)), g.2.1.tr f, fun x hx => by rw [ez_up_ne (by omega)]; exact g.2.2 x hx⟩
theorem lp_mv {i : Int} {h : ez_H} {Q : ez_H → Option ez_V → Prop} (hn : 0 ≤ h 121 0 ∧ h 121 0 ≤ 5) (hf : 0 ≤ sp_f (md_S h) ∧ sp_f (md_S h) < h 121 0) (kx : ∀ h', md_g h h' → h' 121 13 = sp_la (md_S h) i → h' 121 17 = sp_sp (md_S h) i → ez_En M_X6_moves 84 [ez_R 121, ez_I i, ez_I (sp_f (md_S h)), ez_N] [] h' Q) : ∀ (n : Nat) (p : Nat) (h' : ez_H), ((p : Int) ≤ h 121 0) → (md_g h h') → (h' 121 13 = (sp_mv (md_S h) i p).1) → (h' 121 17 = (sp_mv (md_S h) i p).2) → h 121 0 - p < n → ez_En M_X6_moves 17 [ez_R 121, ez_I i, ez_I (sp_f (md_S h)), ez_I (p : Nat)] [] h' Q := by
  intro n
  induction n with
  | zero =>
    intro p h' p1 g il is_ hm
    exfalso
    omega
  | succ n ih =>
    intro p h' p1 g il is_ hm
    have en := g.n
    refine ez_iload_n dX6_moves_17 rfl ?_
    refine ez_aload_n dX6_moves_18 rfl ?_
    refine g6_0 dX6_moves_19 fl_X6_48 ?_
    refine ez_ic_ge 84 dX6_moves_22 (by decide) (fun c_22 => ?_) (fun c_22 => ?_)
    · refine ez_lessS (L' := [ez_R 121, ez_I i, ez_I (sp_f (md_S h)), ez_N]) ⟨Or.inr rfl, Or.inr rfl, Or.inr rfl, Or.inl rfl, trivial⟩ ?_
      exact kx h' g (by rw [il, show p = (md_S h).1.toNat from by show p = (h 121 0).toNat; omega]; rfl) (by rw [is_, show p = (md_S h).1.toNat from by show p = (h 121 0).toNat; omega]; rfl)
    · have hmr := sp_mv_rng (S := md_S h) (i := i) hf p (show (p : Int) ≤ h 121 0 by omega)
      have en := g.n
      have eS : (md_S h).1 = h 121 0 := rfl
      refine ez_aload_n dX6_moves_25 rfl ?_
      refine ez_iload_n dX6_moves_26 rfl ?_
      refine ez_iload_n dX6_moves_27 rfl ?_
      refine cl_X6_spotOf dX6_moves_28 ml_X6_119 ft_X6_moves__X6_spotOf (Nat.le_of_ble_eq_true rfl) (c_X6_spotOf (h := h') g.1 (by omega)) (ez_kI (fun h1 z hz => ?_))
      obtain ⟨g1, ez1, -, k121⟩ := hz
      rw [g.2.1.S] at ez1
      have g2 := g.tr g1
      have kl := k121 13
      have ks := k121 17
      have en2 := g2.n
      refine ez_iconst dX6_moves_31 (by decide) ?_
      refine ez_ic_ne 38 dX6_moves_32 (by decide) (fun c_32 => ?_) (fun c_32 => ?_)
      · have hs1 : sp_mv (md_S h) i (p + 1) = ((if (md_S h).2.2.1 (sp_mv (md_S h) i p).1 < (md_S h).2.2.1 p then (p : Int) else (sp_mv (md_S h) i p).1), (sp_mv (md_S h) i p).2 + 1) := by
          show (if _ then _ else _) = _
          rw [if_neg (by rw [← ez1]; exact c_32)]
        have y1 : (md_S h).2.2.1 p = h1 122 p := (md_S_yr (by omega) (by omega)).trans (g2.y p).symm
        have y2 : (md_S h).2.2.1 (sp_mv (md_S h) i p).1 = h1 122 (h1 121 13) := by
          rw [md_S_yr (by omega) (by omega), ← g2.y, kl, il]
        refine ez_aload_n dX6_moves_38 rfl ?_
        refine ez_dup dX6_moves_39 rfl ?_
        refine g6_17 dX6_moves_40 fl_X6_128 ?_
        refine ez_iconst dX6_moves_43 (by decide) ?_
        refine ez_iadd dX6_moves_44 (by omega) ?_
        refine p6_17 dX6_moves_45 fl_X6_128 ?_
        have u0 : ∀ x w : Int, ez_up h1 121 17 w 122 x = h1 122 x := fun x w => ez_up_ne (by omega)
        have u1 : ∀ w : Int, ez_up h1 121 17 w 121 13 = h1 121 13 := fun w => ez_up_ne (by omega)
        refine ez_aload_n dX6_moves_48 rfl ?_
        refine ez_aload_n dX6_moves_49 rfl ?_
        refine g6_2 dX6_moves_50 fl_X6_13 ?_
        refine ez_iload_n dX6_moves_53 rfl ?_
        refine al122 dX6_moves_54 (by omega) ?_
        refine ez_aload_n dX6_moves_55 rfl ?_
        refine g6_2 dX6_moves_56 fl_X6_13 ?_
        refine ez_aload_n dX6_moves_59 rfl ?_
        refine g6_13 dX6_moves_60 fl_X6_125 ?_
        refine al122 dX6_moves_63 (by rw [u1]; omega) ?_
        rw [u1, u0, u0]
        refine ez_ic_le 71 dX6_moves_64 (by decide) (fun c_64 => ?_) (fun c_64 => ?_)
        · rw [y1, y2, if_neg (by omega)] at hs1
          refine ez_aload_n dX6_moves_71 rfl ?_
          refine g6_13 dX6_moves_72 fl_X6_125 ?_
          refine p6_13 dX6_moves_75 fl_X6_125 ?_
          refine ez_iinc dX6_moves_78 rfl (by decide) (by decide) (by omega) ?_
          refine ez_goto 17 dX6_moves_81 (by decide) ?_
          refine ez_lessS (L' := [ez_R 121, ez_I i, ez_I (sp_f (md_S h)), ez_I ((p + 1 : Nat) : Int)]) ⟨Or.inr rfl, Or.inr rfl, Or.inr rfl, Or.inr rfl, trivial⟩ ?_
          first
            | (have hs0 : sp_mv (md_S h) i (p + 1) = sp_mv (md_S h) i p := by
                show (if _ then _ else _) = _
                rw [if_pos (by rw [← ez1]; exact c_32)]
               exact ih (p + 1) h1 (by omega) g2 (by rw [hs0]; omega) (by rw [hs0]; omega) (by omega))
            | exact ih (p + 1) _ (by omega) ((g2.up (by omega)).up (by omega)) (by rw [hs1]; exact ez_up_eq.trans (by first | rfl | (rw [u1]; omega))) (by rw [hs1]; exact (ez_up_ne (by omega)).trans (ez_up_eq.trans (by omega))) (by omega)
        · rw [y1, y2, if_pos (by omega)] at hs1
          refine ez_iload_n dX6_moves_67 rfl ?_
          refine ez_goto 75 dX6_moves_68 (by decide) ?_
          refine p6_13 dX6_moves_75 fl_X6_125 ?_
          refine ez_iinc dX6_moves_78 rfl (by decide) (by decide) (by omega) ?_
          refine ez_goto 17 dX6_moves_81 (by decide) ?_
          refine ez_lessS (L' := [ez_R 121, ez_I i, ez_I (sp_f (md_S h)), ez_I ((p + 1 : Nat) : Int)]) ⟨Or.inr rfl, Or.inr rfl, Or.inr rfl, Or.inr rfl, trivial⟩ ?_
          first
            | (have hs0 : sp_mv (md_S h) i (p + 1) = sp_mv (md_S h) i p := by
                show (if _ then _ else _) = _
                rw [if_pos (by rw [← ez1]; exact c_32)]
               exact ih (p + 1) h1 (by omega) g2 (by rw [hs0]; omega) (by rw [hs0]; omega) (by omega))
            | exact ih (p + 1) _ (by omega) ((g2.up (by omega)).up (by omega)) (by rw [hs1]; exact ez_up_eq.trans (by first | rfl | (rw [u1]; omega))) (by rw [hs1]; exact (ez_up_ne (by omega)).trans (ez_up_eq.trans (by omega))) (by omega)
      · have c_32 : z = -1 := by omega
        refine ez_goto 78 dX6_moves_35 (by decide) ?_
        refine ez_iinc dX6_moves_78 rfl (by decide) (by decide) (by omega) ?_
        refine ez_goto 17 dX6_moves_81 (by decide) ?_
        refine ez_lessS (L' := [ez_R 121, ez_I i, ez_I (sp_f (md_S h)), ez_I ((p + 1 : Nat) : Int)]) ⟨Or.inr rfl, Or.inr rfl, Or.inr rfl, Or.inr rfl, trivial⟩ ?_
        first
          | (have hs0 : sp_mv (md_S h) i (p + 1) = sp_mv (md_S h) i p := by
              show (if _ then _ else _) = _
              rw [if_pos (by rw [← ez1]; exact c_32)]
             exact ih (p + 1) h1 (by omega) g2 (by rw [hs0]; omega) (by rw [hs0]; omega) (by omega))
          | exact ih (p + 1) _ (by omega) ((g2.up (by omega)).up (by omega)) (by rw [hs1]; exact ez_up_eq.trans (by first | rfl | (rw [u1]; omega))) (by rw [hs1]; exact (ez_up_ne (by omega)).trans (ez_up_eq.trans (by omega))) (by omega)
def sp_rg (S : sp_S) (i : Int) : Prop := (-8000 ≤ sp_wx S i ∧ sp_wx S i ≤ 8000) ∧ (-8000 ≤ sp_wy S i ∧ sp_wy S i ≤ 8000) ∧ (0 < sp_ys S i ∧ sp_ys S i ≤ 999)
theorem md_tr0 {h : ez_H} {i : Int} (hi : 0 ≤ i ∧ i < sp_tr (md_S h)) : h 121 0 ≠ 0 := fun q => by
  unfold sp_tr at hi
  rw [if_pos (show (md_S h).1 = 0 from q)] at hi
  omega
theorem md_way {h : ez_H} {i : Int} (v : md_V h) (hi : 0 ≤ i ∧ i < sp_tr (md_S h)) (hl : sp_la (md_S h) i ≠ sp_f (md_S h)) (hk : h 126 (5 * sp_f (md_S h) + sp_la (md_S h) i) ≠ 0) : (-8000 ≤ sp_wx (md_S h) i ∧ sp_wx (md_S h) i ≤ 8000) ∧ (-8000 ≤ sp_wy (md_S h) i ∧ sp_wy (md_S h) i ≤ 8000) ∧ (0 < sp_ys (md_S h) i ∧ sp_ys (md_S h) i ≤ 999) := by
  have hn := md_tr0 hi
  have hf := md_f v hn
  have la := md_la (i := i) v hn
  have l3 := la.2.2.resolve_left hl
  have hon := md_onk v (md_g.rf v) la.1 hi (Or.inr hk) l3.1
  have r0 := md_on_rng (what := 0) v hon.1 hon.2.1 hon.2.2
  have r1 := md_on_rng (what := 1) v hon.1 hon.2.1 hon.2.2
  rw [md_tr v hn] at hi
  have xy := md_xy v hf hi
  have y1 := (v.2.2.1 _ la.1.1 la.1.2).2
  have y2 := (v.2.2.1 _ hf.1 hf.2).2
  have e1 := md_S_yr la.1.1 la.1.2
  have e2 := md_S_yr hf.1 hf.2
  unfold sp_wx sp_wy sp_ys
  rw [xy.1.1, xy.1.2, e1, e2]
  omega
theorem c_X6_moves {i : Int} {h : ez_H} (v : md_V h) (hi : 0 ≤ i ∧ i < sp_tr (md_S h)) : ez_Ct M_X6_moves [ez_R 121, ez_I i] h (ez_PB (fun h' => md_g h h' ∧ h' 121 17 = sp_sp (md_S h) i ∧ h' 121 18 = h 121 0 - sp_sp (md_S h) i ∧ (sp_la (md_S h) i ≠ sp_f (md_S h) → h' 121 14 = sp_wx (md_S h) i ∧ h' 121 15 = sp_wy (md_S h) i ∧ h' 121 16 = sp_ys (md_S h) i ∧ sp_rg (md_S h) i)) (sp_la (md_S h) i ≠ sp_f (md_S h))) := by
  have hn := md_tr0 hi
  have v0 := v.1
  have hf := md_f v hn
  have la := md_la (i := i) v hn
  have hi2 := hi
  rw [md_tr v hn] at hi2
  have hmf := (v.2.2.1 _ hf.1 hf.2).1.2.1
  have y1 := (v.2.2.1 _ la.1.1 la.1.2).2
  have y2 := (v.2.2.1 _ hf.1 hf.2).2
  refine ez_of (by decide) (Nat.le_of_ble_eq_true rfl) (L0 := [ez_R 121, ez_I i, ez_N, ez_N]) rfl ?_
  refine ez_aload_n dX6_moves_0 rfl ?_
  refine cl_X6_frame dX6_moves_1 ml_X6_109 ft_X6_moves__X6_frame (Nat.le_of_ble_eq_true rfl) (c_X6_frame v.1) (ez_kF ?_)
  refine ez_istore_n dX6_moves_4 (by decide) ?_
  refine ez_aload_n dX6_moves_5 rfl ?_
  refine ez_iload_n dX6_moves_6 rfl ?_
  refine p6_13 dX6_moves_7 fl_X6_125 ?_
  refine ez_aload_n dX6_moves_10 rfl ?_
  refine ez_iconst dX6_moves_11 (by decide) ?_
  refine p6_17 dX6_moves_12 fl_X6_128 ?_
  refine ez_iconst dX6_moves_15 (by decide) ?_
  refine ez_istore_n dX6_moves_16 (by decide) ?_
  refine lp_mv (h := h) v.1 hf (fun h' g el es => ?_) 6 0 _ (by omega) (((md_g.rf v).up (by omega)).up (by omega)) ((ez_up_ne (by omega)).trans ez_up_eq) ez_up_eq (by omega)
  have en := g.n
  refine ez_aload_n dX6_moves_84 rfl ?_
  refine ez_aload_n dX6_moves_85 rfl ?_
  refine g6_0 dX6_moves_86 fl_X6_48 ?_
  refine ez_aload_n dX6_moves_89 rfl ?_
  refine g6_17 dX6_moves_90 fl_X6_128 ?_
  refine ez_isub dX6_moves_93 (by omega) ?_
  refine p6_18 dX6_moves_94 fl_X6_131 ?_
  have g3 : md_g h (ez_up h' 121 18 (h' 121 0 - h' 121 17)) := g.up (by omega)
  have w13 : ez_up h' 121 18 (h' 121 0 - h' 121 17) 121 13 = sp_la (md_S h) i := (ez_up_ne (by omega)).trans el
  have w17 : ez_up h' 121 18 (h' 121 0 - h' 121 17) 121 17 = sp_sp (md_S h) i := (ez_up_ne (by omega)).trans es
  have w18 : ez_up h' 121 18 (h' 121 0 - h' 121 17) 121 18 = h 121 0 - sp_sp (md_S h) i := ez_up_eq.trans (by omega)
  generalize ez_up h' 121 18 (h' 121 0 - h' 121 17) = h3 at g3 w13 w17 w18 ⊢
  refine ez_aload_n dX6_moves_97 rfl ?_
  refine g6_13 dX6_moves_98 fl_X6_125 ?_
  refine ez_iload_n dX6_moves_101 rfl ?_
  rw [w13]
  refine ez_ic_ne 107 dX6_moves_102 (by decide) (fun c_102 => ?_) (fun c_102 => ?_)
  · refine ez_aload_n dX6_moves_107 rfl ?_
    refine ez_iload_n dX6_moves_108 rfl ?_
    refine ez_aload_n dX6_moves_109 rfl ?_
    refine g6_13 dX6_moves_110 fl_X6_125 ?_
    rw [w13]
    have e3 := g3.n
    have hso := c_X6_spotOf (i := i) (p := sp_la (md_S h) i) g3.1 (by omega)
    refine cl_X6_spotOf dX6_moves_113 ml_X6_119 ft_X6_moves__X6_spotOf (Nat.le_of_ble_eq_true rfl) hso (ez_kI (fun h4 z hz => ?_))
    obtain ⟨g4, rfl, hk1, k121⟩ := hz
    rw [g3.2.1.S] at hk1 ⊢
    replace g4 := g3.tr g4
    refine ez_istore_n dX6_moves_116 (by decide) ?_
    have k13 := (k121 13).trans w13
    have k17 := (k121 17).trans w17
    have k18 := (k121 18).trans w18
    have l3 := la.2.2.resolve_left c_102
    have hk4 : sp_la (md_S h) i = sp_f (md_S h) ∨ h4 126 (5 * sp_f (md_S h) + sp_la (md_S h) i) ≠ 0 := hk1
    have hon := md_onk v g4 la.1 hi hk4 l3.1
    have hway := md_way g4.1 (by rw [g4.2.1.S]; exact hi) (by rw [g4.2.1.S]; exact c_102) (by rw [g4.2.1.S]; exact hk4.resolve_left c_102)
    rw [g4.2.1.S] at hway
    have r0 := md_on_rng (what := 0) g4.1 hon.1 hon.2.1 hon.2.2
    have r1 := md_on_rng (what := 1) g4.1 hon.1 hon.2.1 hon.2.2
    have xy := md_xy v hf hi2
    have f4 := g4.2.1 124 (8 * sp_f (md_S h) + i) (by omega) (by omega)
    have f5 := g4.2.1 125 (8 * sp_f (md_S h) + i) (by omega) (by omega)
    refine ez_aload_n dX6_moves_117 rfl ?_
    refine ez_aload_n dX6_moves_118 rfl ?_
    refine ez_aload_n dX6_moves_119 rfl ?_
    refine g6_13 dX6_moves_120 fl_X6_125 ?_
    refine ez_iload_n dX6_moves_123 rfl ?_
    refine ez_iconst dX6_moves_124 (by decide) ?_
    rw [k13]
    have hon1 := c_X6_onFrame (what := 0) g4.1 hon.1 hon.2.1 (by omega) hon.2.2
    refine cl_X6_onFrame dX6_moves_125 ml_X6_122 ft_X6_moves__X6_onFrame (Nat.le_of_ble_eq_true rfl) hon1 (ez_kF ?_)
    refine ez_aload_n dX6_moves_128 rfl ?_
    refine g6_4 dX6_moves_129 fl_X6_20 ?_
    refine ez_bipush dX6_moves_132 (by decide) (by decide) ?_
    refine ez_iload_n dX6_moves_134 rfl ?_
    refine ez_imul dX6_moves_135 (by omega) ?_
    refine ez_iload_n dX6_moves_136 rfl ?_
    refine ez_iadd dX6_moves_137 (by omega) ?_
    refine al124 dX6_moves_138 (by omega) ?_
    refine ez_isub dX6_moves_139 (by omega) ?_
    have ex0 : sp_on (md_S h4) (sp_la (md_S h) i) (sp_so (md_S h) i (sp_la (md_S h) i)) 0 - h4 124 (8 * sp_f (md_S h) + i) = sp_wx (md_S h) i := by
      rw [f4, g4.2.1.S, ← xy.1.1]
      rfl
    rw [ex0]
    refine p6_14 dX6_moves_140 fl_X6_134 ?_
    have g5 : md_g h (ez_up h4 121 14 (sp_wx (md_S h) i)) := g4.up (by omega)
    have w13 : ez_up h4 121 14 (sp_wx (md_S h) i) 121 13 = sp_la (md_S h) i := (ez_up_ne (by omega)).trans k13
    have w17 : ez_up h4 121 14 (sp_wx (md_S h) i) 121 17 = sp_sp (md_S h) i := (ez_up_ne (by omega)).trans k17
    have w18 : ez_up h4 121 14 (sp_wx (md_S h) i) 121 18 = h 121 0 - sp_sp (md_S h) i := (ez_up_ne (by omega)).trans k18
    have w14 : ez_up h4 121 14 (sp_wx (md_S h) i) 121 14 = sp_wx (md_S h) i := ez_up_eq
    have hk5 : sp_la (md_S h) i = sp_f (md_S h) ∨ ez_up h4 121 14 (sp_wx (md_S h) i) 126 (5 * sp_f (md_S h) + sp_la (md_S h) i) ≠ 0 := by rw [ez_up_ne (by omega)]; exact hk4
    generalize ez_up h4 121 14 (sp_wx (md_S h) i) = h5 at g5 w13 w17 w18 w14 hk5 ⊢
    have honb := md_onk v g5 la.1 hi hk5 l3.1
    have r2 := md_on_rng (what := 1) g5.1 honb.1 honb.2.1 honb.2.2
    have f5 := g5.2.1 125 (8 * sp_f (md_S h) + i) (by omega) (by omega)
    have yl := g5.y (sp_la (md_S h) i)
    have yf := g5.y (sp_f (md_S h))
    refine ez_aload_n dX6_moves_143 rfl ?_
    refine ez_aload_n dX6_moves_144 rfl ?_
    refine ez_aload_n dX6_moves_145 rfl ?_
    refine g6_13 dX6_moves_146 fl_X6_125 ?_
    refine ez_iload_n dX6_moves_149 rfl ?_
    refine ez_iconst dX6_moves_150 (by decide) ?_
    rw [w13]
    have hon2 := c_X6_onFrame (what := 1) g5.1 honb.1 honb.2.1 (by omega) honb.2.2
    refine cl_X6_onFrame dX6_moves_151 ml_X6_122 ft_X6_moves__X6_onFrame (Nat.le_of_ble_eq_true rfl) hon2 (ez_kF ?_)
    refine ez_aload_n dX6_moves_154 rfl ?_
    refine g6_5 dX6_moves_155 fl_X6_23 ?_
    refine ez_bipush dX6_moves_158 (by decide) (by decide) ?_
    refine ez_iload_n dX6_moves_160 rfl ?_
    refine ez_imul dX6_moves_161 (by omega) ?_
    refine ez_iload_n dX6_moves_162 rfl ?_
    refine ez_iadd dX6_moves_163 (by omega) ?_
    refine al125 dX6_moves_164 (by omega) ?_
    refine ez_isub dX6_moves_165 (by omega) ?_
    have ex0 : sp_on (md_S h5) (sp_la (md_S h) i) (sp_so (md_S h) i (sp_la (md_S h) i)) 1 - h5 125 (8 * sp_f (md_S h) + i) = sp_wy (md_S h) i := by
      rw [f5, g5.2.1.S, ← xy.1.2]
      rfl
    rw [ex0]
    refine p6_15 dX6_moves_166 fl_X6_137 ?_
    have u0 : ∀ x : Int, ez_up h5 121 15 (sp_wy (md_S h) i) 122 x = h5 122 x := fun x => ez_up_ne (by omega)
    have u1 : ez_up h5 121 15 (sp_wy (md_S h) i) 121 13 = sp_la (md_S h) i := (ez_up_ne (by omega)).trans w13
    refine ez_aload_n dX6_moves_169 rfl ?_
    refine ez_aload_n dX6_moves_170 rfl ?_
    refine g6_2 dX6_moves_171 fl_X6_13 ?_
    refine ez_aload_n dX6_moves_174 rfl ?_
    refine g6_13 dX6_moves_175 fl_X6_125 ?_
    rw [u1]
    refine al122 dX6_moves_178 (by omega) ?_
    refine ez_aload_n dX6_moves_179 rfl ?_
    refine g6_2 dX6_moves_180 fl_X6_13 ?_
    refine ez_iload_n dX6_moves_183 rfl ?_
    refine al122 dX6_moves_184 (by omega) ?_
    refine ez_isub dX6_moves_185 (by rw [u0, u0]; omega) ?_
    rw [u0, u0]
    have ey0 : h5 122 (sp_la (md_S h) i) - h5 122 (sp_f (md_S h)) = sp_ys (md_S h) i := by
      rw [yl, yf, ← md_S_yr la.1.1 la.1.2, ← md_S_yr hf.1 hf.2]
      rfl
    rw [ey0]
    refine p6_16 dX6_moves_186 fl_X6_140 ?_
    refine ez_iconst dX6_moves_189 (by decide) ?_
    refine ez_zreturn (st := []) dX6_moves_190 rfl (by first | exact Or.inl rfl | exact Or.inr rfl | omega | (split <;> omega)) ?_
    exact ez_PB.t ⟨(g5.up (by omega)).up (by omega), (ez_up_ne (by omega)).trans ((ez_up_ne (by omega)).trans w17), (ez_up_ne (by omega)).trans ((ez_up_ne (by omega)).trans w18), fun _ => ⟨(ez_up_ne (by omega)).trans ((ez_up_ne (by omega)).trans w14), (ez_up_ne (by omega)).trans ez_up_eq, ez_up_eq, hway⟩⟩ c_102
  · refine ez_iconst dX6_moves_105 (by decide) ?_
    refine ez_zreturn (st := []) dX6_moves_106 rfl (by first | exact Or.inl rfl | exact Or.inr rfl | omega | (split <;> omega)) ?_
    exact ez_PB.f ⟨g3, w17, w18, fun q => absurd c_102 q⟩ (fun q => q c_102)
