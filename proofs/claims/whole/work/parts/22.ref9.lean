/-! the reference's tracks -/
theorem sp_find_stay {pr : Int → Int} {i : Int} {j : Nat} (h : sp_find pr i j ≠ -1) : ∀ d : Nat, sp_find pr i (j + d) = sp_find pr i j
  | 0 => rfl
  | d + 1 => by
    have ih := sp_find_stay h d
    show (if sp_find pr i (j + d) ≠ -1 then sp_find pr i (j + d) else _) = _
    rw [if_pos (by rw [ih]; exact h), ih]
theorem sp_find_hit {pr : Int → Int} {i : Int} {j n : Nat} (h : sp_find pr i j = -1) (hp : pr j = i) (hj : j < n) : sp_find pr i n = j := by
  have e : sp_find pr i (j + 1) = j := by
    unfold sp_find
    rw [if_neg (by rw [h]; exact fun z => z rfl), if_pos hp]
  have := sp_find_stay (j := j + 1) (show sp_find pr i (j + 1) ≠ -1 by rw [e]; omega) (n - (j + 1))
  rw [show j + 1 + (n - (j + 1)) = n by omega, e] at this
  exact this
theorem sp_find_no {pr : Int → Int} {i : Int} {j : Nat} (h : sp_find pr i j = -1) (hp : ¬ pr j = i) : sp_find pr i (j + 1) = -1 := by
  unfold sp_find
  rw [if_neg (by rw [h]; exact fun z => z rfl), if_neg hp]
theorem lp_so {i p f : Int} {h : ez_H} {nP : Nat} {pr : Int → Int} {Q : ez_H → Option ez_V → Prop} (hp : 0 ≤ p ∧ p < 5) (hf : 0 ≤ f ∧ f < 5) (hn : h 123 p = nP) (hn8 : nP ≤ 8) (hpr : ∀ j : Int, 0 ≤ j → j < nP → h 128 (8 * (5 * f + p) + j) = pr j) (kx : ∀ z : Int, z = sp_find pr i nP → Q h (some (ez_I z))) : ∀ (n : Nat) (j : Nat), (j ≤ nP) → (sp_find pr i j = -1) → nP - j < n → ez_En M_X6_spotOf 26 [ez_R 121, ez_I i, ez_I p, ez_I f, ez_I (j : Nat)] [] h Q := by
  intro n
  induction n with
  | zero =>
    intro j j1 en hm
    exfalso
    omega
  | succ n ih =>
    intro j j1 en hm
    refine ez_iload dX6_spotOf_26 rfl ?_
    refine ez_aload_n dX6_spotOf_28 rfl ?_
    refine g6_3 dX6_spotOf_29 fl_X6_17 ?_
    refine ez_iload_n dX6_spotOf_32 rfl ?_
    refine al123 dX6_spotOf_33 (by omega) ?_
    refine ez_ic_ge 66 dX6_spotOf_34 (by decide) (fun c_34 => ?_) (fun c_34 => ?_)
    · refine ez_iconst dX6_spotOf_66 (by decide) ?_
      refine ez_ireturn (st := []) dX6_spotOf_67 rfl ?_
      exact kx _ (by rw [show nP = j by omega]; exact en.symm)
    · have hx := hpr j (by omega) (by omega)
      refine ez_aload_n dX6_spotOf_37 rfl ?_
      refine g6_8 dX6_spotOf_38 fl_X6_33 ?_
      refine ez_bipush dX6_spotOf_41 (by decide) (by decide) ?_
      refine ez_iconst dX6_spotOf_43 (by decide) ?_
      refine ez_iload_n dX6_spotOf_44 rfl ?_
      refine ez_imul dX6_spotOf_45 (by omega) ?_
      refine ez_iload_n dX6_spotOf_46 rfl ?_
      refine ez_iadd dX6_spotOf_47 (by omega) ?_
      refine ez_imul dX6_spotOf_48 (by omega) ?_
      refine ez_iload dX6_spotOf_49 rfl ?_
      refine ez_iadd dX6_spotOf_51 (by omega) ?_
      refine al128 dX6_spotOf_52 (by omega) ?_
      refine ez_iload_n dX6_spotOf_53 rfl ?_
      refine ez_ic_ne 60 dX6_spotOf_54 (by decide) (fun c_54 => ?_) (fun c_54 => ?_)
      · refine ez_iinc dX6_spotOf_60 rfl (by decide) (by decide) (by omega) ?_
        refine ez_goto 26 dX6_spotOf_63 (by decide) ?_
        refine ez_lessS (L' := [ez_R 121, ez_I i, ez_I p, ez_I f, ez_I ((j + 1 : Nat) : Int)]) ⟨Or.inr rfl, Or.inr rfl, Or.inr rfl, Or.inr rfl, Or.inr rfl, trivial⟩ ?_
        exact ih (j + 1) (by omega) (sp_find_no en (by rw [← hx]; exact c_54)) (by omega)
      · refine ez_iload dX6_spotOf_57 rfl ?_
        refine ez_ireturn (st := []) dX6_spotOf_59 rfl ?_
        exact kx _ (sp_find_hit en (by rw [← hx]; omega) (by omega)).symm
theorem c_X6_spotOf {i p : Int} {h : ez_H} (v : md_V h) (hp : 0 ≤ p ∧ p < h 121 0) : ez_Ct M_X6_spotOf [ez_R 121, ez_I i, ez_I p] h (ez_PI (fun h' z => md_g h h' ∧ z = sp_so (md_S h) i p ∧ (p = sp_f (md_S h) ∨ h' 126 (5 * sp_f (md_S h) + p) ≠ 0) ∧ ∀ k : Int, h' 121 k = h 121 k)) := by
  have v0 := v.1
  have hf := md_f v (by omega)
  have hm := md_n2 v hp.1 hp.2
  have hw := (v.2.2.1 p hp.1 hp.2).1.2.1
  refine ez_of (by decide) (Nat.le_of_ble_eq_true rfl) (L0 := [ez_R 121, ez_I i, ez_I p, ez_N, ez_N]) rfl ?_
  refine ez_aload_n dX6_spotOf_0 rfl ?_
  refine cl_X6_frame dX6_spotOf_1 ml_X6_109 ft_X6_spotOf__X6_frame (Nat.le_of_ble_eq_true rfl) (c_X6_frame v.1) (ez_kF ?_)
  refine ez_istore_n dX6_spotOf_4 (by decide) ?_
  refine ez_iload_n dX6_spotOf_5 rfl ?_
  refine ez_iload_n dX6_spotOf_6 rfl ?_
  refine ez_ic_ne 12 dX6_spotOf_7 (by decide) (fun c_7 => ?_) (fun c_7 => ?_)
  · refine ez_aload_n dX6_spotOf_12 rfl ?_
    refine ez_iload_n dX6_spotOf_13 rfl ?_
    refine ez_iload_n dX6_spotOf_14 rfl ?_
    refine cl_X6_hasLay dX6_spotOf_15 ml_X6_105 ft_X6_spotOf__X6_hasLay (Nat.le_of_ble_eq_true rfl) (c_X6_hasLay v hf hp (fun q => c_7 q.symm)) (ez_kPB (fun h1 hh b_15 => ?_) (fun h1 hh b_15 => ?_))
    · obtain ⟨g1, k1, k3⟩ := hh
      have hm1 := g1.m p
      refine ez_if_ne 23 dX6_spotOf_18 (by decide) (fun c_18 => ?_) (fun c_18 => ?_)
      · refine ez_iconst dX6_spotOf_23 (by decide) ?_
        refine ez_istore dX6_spotOf_24 (by decide) ?_
        refine lp_so (nP := ((md_S h).2.2.2 p).1) (pr := sp_pr (md_S h) (sp_f (md_S h)) p) (by omega) (by omega) (by omega) (by omega) (fun j j0 j1 => (md_known g1 hf hp (fun q => c_7 q.symm) k1 b_15).2 j j0 (by omega)) (fun z hz => ?_) (((md_S h).2.2.2 p).1 + 1) 0 (by omega) rfl (by omega)
        refine ez_PI.in ⟨g1, ?_, Or.inr k1, k3⟩
        unfold sp_so
        rw [if_neg c_7, if_neg b_15]
        exact hz
      · exact absurd c_18 (by decide)
    · obtain ⟨g1, k1, k3⟩ := hh
      have hm1 := g1.m p
      refine ez_if_ne 23 dX6_spotOf_18 (by decide) (fun c_18 => ?_) (fun c_18 => ?_)
      · exact absurd c_18 (by decide)
      · refine ez_iconst dX6_spotOf_21 (by decide) ?_
        refine ez_ireturn (st := []) dX6_spotOf_22 rfl ?_
        refine ez_PI.in ⟨g1, ?_, Or.inr k1, k3⟩
        unfold sp_so
        rw [if_neg c_7, if_pos (Decidable.not_not.mp b_15)]
  · refine ez_iload_n dX6_spotOf_10 rfl ?_
    refine ez_ireturn (st := []) dX6_spotOf_11 rfl ?_
    refine ez_PI.in ⟨md_g.rf v, ?_, Or.inl c_7, fun _ => rfl⟩
    unfold sp_so
    rw [if_pos c_7]
noncomputable def sp_trackA (S : sp_S) (i p : Int) : Int := sp_dec ((0 ≤ i ∧ i < sp_tr S) ∧ (0 ≤ p ∧ p < S.1)) (sp_so S i p) (-1)
theorem c_X6_track {i p : Int} {h : ez_H} (v : md_V h) : ez_Ct M_X6_track [ez_R 121, ez_I i, ez_I p] h (md_Q h (sp_trackA (md_S h) i p)) := by
  have v0 := v.1
  refine ez_of (by decide) (Nat.le_of_ble_eq_true rfl) (L0 := [ez_R 121, ez_I i, ez_I p]) rfl ?_
  refine ez_aload_n dX6_track_0 rfl ?_
  refine ez_iload_n dX6_track_1 rfl ?_
  refine cl_X6_isTrack dX6_track_2 ml_X6_116 ft_X6_track__X6_isTrack (Nat.le_of_ble_eq_true rfl) (c_X6_isTrack v) (ez_kB (fun b_2 => ?_) (fun b_2 => ?_))
  · refine ez_if_eq 25 dX6_track_5 (by decide) (fun c_5 => ?_) (fun c_5 => ?_)
    · exact absurd c_5 (by decide)
    · refine ez_aload_n dX6_track_8 rfl ?_
      refine ez_iload_n dX6_track_9 rfl ?_
      refine cl_X6_isPlate dX6_track_10 ml_X6_58 ft_X6_track__X6_isPlate (Nat.le_of_ble_eq_true rfl) (c_X6_isPlate v.1) (ez_kB (fun b_10 => ?_) (fun b_10 => ?_))
      · refine ez_if_eq 25 dX6_track_13 (by decide) (fun c_13 => ?_) (fun c_13 => ?_)
        · exact absurd c_13 (by decide)
        · refine ez_aload_n dX6_track_16 rfl ?_
          refine ez_iload_n dX6_track_17 rfl ?_
          refine ez_iload_n dX6_track_18 rfl ?_
          refine cl_X6_spotOf dX6_track_19 ml_X6_119 ft_X6_track__X6_spotOf (Nat.le_of_ble_eq_true rfl) (c_X6_spotOf v b_10) (ez_kI (fun h1 z hz => ?_))
          obtain ⟨g1, ez, -⟩ := hz
          refine ez_goto 26 dX6_track_22 (by decide) ?_
          refine ez_ireturn (st := []) dX6_track_26 rfl ?_
          first
            | exact md_Q.in g1 (ez.trans (sp_dec_t ⟨b_2, b_10⟩).symm)
            | exact md_Q.in (md_g.rf v) (sp_dec_f (fun q => b_10 q.2)).symm
            | exact md_Q.in (md_g.rf v) (sp_dec_f (fun q => b_2 q.1)).symm
      · refine ez_if_eq 25 dX6_track_13 (by decide) (fun c_13 => ?_) (fun c_13 => ?_)
        · refine ez_iconst dX6_track_25 (by decide) ?_
          refine ez_ireturn (st := []) dX6_track_26 rfl ?_
          first
            | exact md_Q.in g1 (ez.trans (sp_dec_t ⟨b_2, b_10⟩).symm)
            | exact md_Q.in (md_g.rf v) (sp_dec_f (fun q => b_10 q.2)).symm
            | exact md_Q.in (md_g.rf v) (sp_dec_f (fun q => b_2 q.1)).symm
        · exact absurd c_13 (by decide)
  · refine ez_if_eq 25 dX6_track_5 (by decide) (fun c_5 => ?_) (fun c_5 => ?_)
    · refine ez_iconst dX6_track_25 (by decide) ?_
      refine ez_ireturn (st := []) dX6_track_26 rfl ?_
      first
        | exact md_Q.in g1 (ez.trans (sp_dec_t ⟨b_2, b_10⟩).symm)
        | exact md_Q.in (md_g.rf v) (sp_dec_f (fun q => b_10 q.2)).symm
        | exact md_Q.in (md_g.rf v) (sp_dec_f (fun q => b_2 q.1)).symm
    · exact absurd c_5 (by decide)
theorem md_lay_rng {h : ez_H} {a b : Int} (v : md_V h) (ha : 0 ≤ a ∧ a < h 121 0) (hb : 0 ≤ b ∧ b < h 121 0) (hab : a ≠ b) (hk : h 126 (5 * a + b) ≠ 0) (hh : sp_has (md_S h) a b) :
    ((bl_F (h 121 1) ((md_S h).2.2.2 a) ((md_S h).2.2.2 b)) = (h 127 (6 * (5 * a + b) + 2), h 127 (6 * (5 * a + b) + 3), h 127 (6 * (5 * a + b) + 4), h 127 (6 * (5 * a + b) + 5))) ∧ (0 ≤ h 127 (6 * (5 * a + b) + 2) ∧ h 127 (6 * (5 * a + b) + 2) < 4) ∧ (1 ≤ h 127 (6 * (5 * a + b) + 3) ∧ h 127 (6 * (5 * a + b) + 3) ≤ 3) ∧ (-4000 ≤ h 127 (6 * (5 * a + b) + 4) ∧ h 127 (6 * (5 * a + b) + 4) ≤ 4000) ∧ (-4000 ≤ h 127 (6 * (5 * a + b) + 5) ∧ h 127 (6 * (5 * a + b) + 5) ≤ 4000) := by
  have wa := (v.2.2.1 a ha.1 ha.2).1
  have wb := (v.2.2.1 b hb.1 hb.2).1
  have eA := md_S_eq ha.1 ha.2 wa
  have eB := md_S_eq hb.1 hb.2 wb
  rcases v.2.2.2.2 a b ha.1 ha.2 hb.1 hb.2 hab hk with ⟨q1, q2⟩ | ⟨q1, q2, q3, q4, q5⟩
  · exact absurd (by rw [← eA.1, ← eB.1]; exact q1) hh
  · obtain ⟨⟨i, j, a1, -, a2, a3⟩, -⟩ := id q2
    have hs := md_sx_bd wa wb a1
    have h1 := a1.1
    have h2 := a1.2.1
    refine ⟨bl_F_eq (bl_B_eq eA eB q2), h1, by omega, by rw [a2]; exact hs.1, by rw [a3]; exact hs.2⟩
theorem md_xy {h : ez_H} {p j : Int} (v : md_V h) (hp : 0 ≤ p ∧ p < h 121 0) (hj : 0 ≤ j ∧ j < h 123 p) : (((md_S h).2.2.2 p).2.1 j = h 124 (8 * p + j) ∧ ((md_S h).2.2.2 p).2.2 j = h 125 (8 * p + j)) ∧ (0 ≤ h 124 (8 * p + j) ∧ h 124 (8 * p + j) ≤ 999) ∧ (0 ≤ h 125 (8 * p + j) ∧ h 125 (8 * p + j) ≤ 999) := by
  have w := (v.2.2.1 p hp.1 hp.2).1
  have e := (md_S_eq hp.1 hp.2 w).2 j hj.1 (by have := (md_n w).1; omega)
  exact ⟨⟨e.1.symm, e.2.symm⟩, w.2.2 j hj.1 hj.2⟩
theorem md_on_rng {h : ez_H} {p j what : Int} (v : md_V h) (hp : 0 ≤ p ∧ p < h 121 0) (hj : 0 ≤ j ∧ j < h 123 p) (hk : p = sp_f (md_S h) ∨ (h 126 (5 * sp_f (md_S h) + p) ≠ 0 ∧ sp_has (md_S h) (sp_f (md_S h)) p)) : -7000 ≤ sp_on (md_S h) p j what ∧ sp_on (md_S h) p j what ≤ 7000 := by
  have hf := md_f v (by omega)
  have xy := md_xy v hp hj
  unfold sp_on
  by_cases q : p = sp_f (md_S h)
  · rw [if_pos q, xy.1.1, xy.1.2]
    split <;> omega
  · rw [if_neg q]
    rcases hk with hk | hk
    · exact absurd hk q
    · obtain ⟨r1, r2, r3, r4, r5⟩ := md_lay_rng v hf hp (fun z => q z.symm) hk.1 hk.2
      rw [show (md_S h).2.1 = h 121 1 from rfl, r1, xy.1.1, xy.1.2]
      dsimp only
      have t := fx_t_bd (k := h 127 (6 * (5 * sp_f (md_S h) + p) + 2)) xy.2
      have t1 := fx_s_bd r3 t.1
      have t2 := fx_s_bd r3 t.2
      split <;> omega
theorem c_X6_onFrame {p j what : Int} {h : ez_H} (v : md_V h) (hp : 0 ≤ p ∧ p < h 121 0) (hj : 0 ≤ j ∧ j < h 123 p) (hw : what = 0 ∨ what = 1) (hk : p = sp_f (md_S h) ∨ (h 126 (5 * sp_f (md_S h) + p) ≠ 0 ∧ sp_has (md_S h) (sp_f (md_S h)) p)) : ez_Ct M_X6_onFrame [ez_R 121, ez_I p, ez_I j, ez_I what] h (ez_F h (sp_on (md_S h) p j what)) := by
  have v0 := v.1
  have hf := md_f v (by omega)
  have xy := md_xy v hp hj
  have hm := (v.2.2.1 p hp.1 hp.2).1.2.1
  refine ez_of (by decide) (Nat.le_of_ble_eq_true rfl) (L0 := [ez_R 121, ez_I p, ez_I j, ez_I what, ez_N, ez_N, ez_N, ez_N]) rfl ?_
  refine ez_aload_n dX6_onFrame_0 rfl ?_
  refine cl_X6_frame dX6_onFrame_1 ml_X6_109 ft_X6_onFrame__X6_frame (Nat.le_of_ble_eq_true rfl) (c_X6_frame v.1) (ez_kF ?_)
  refine ez_istore dX6_onFrame_4 (by decide) ?_
  refine ez_iload_n dX6_onFrame_6 rfl ?_
  refine ez_iload dX6_onFrame_7 rfl ?_
  refine ez_ic_ne 42 dX6_onFrame_9 (by decide) (fun c_9 => ?_) (fun c_9 => ?_)
  · have hk2 := hk.resolve_left c_9
    obtain ⟨r1, r2, r3, r4, r5⟩ := md_lay_rng v hf hp (fun z => c_9 z.symm) hk2.1 hk2.2
    have t0 := fx_t_bd (k := h 127 (6 * (5 * sp_f (md_S h) + p) + 2)) xy.2
    have t1 := fx_s_bd r3 t0.1
    have t2 := fx_s_bd r3 t0.2
    refine ez_bipush dX6_onFrame_42 (by decide) (by decide) ?_
    refine ez_iconst dX6_onFrame_44 (by decide) ?_
    refine ez_iload dX6_onFrame_45 rfl ?_
    refine ez_imul dX6_onFrame_47 (by omega) ?_
    refine ez_iload_n dX6_onFrame_48 rfl ?_
    refine ez_iadd dX6_onFrame_49 (by omega) ?_
    refine ez_imul dX6_onFrame_50 (by omega) ?_
    refine ez_istore dX6_onFrame_51 (by decide) ?_
    refine ez_aload_n dX6_onFrame_53 rfl ?_
    refine g6_7 dX6_onFrame_54 fl_X6_30 ?_
    refine ez_iload dX6_onFrame_57 rfl ?_
    refine ez_iconst dX6_onFrame_59 (by decide) ?_
    refine ez_iadd dX6_onFrame_60 (by omega) ?_
    refine al127 dX6_onFrame_61 (by omega) ?_
    refine ez_istore dX6_onFrame_62 (by decide) ?_
    refine ez_iload_n dX6_onFrame_64 rfl ?_
    refine ez_if_ne 98 dX6_onFrame_65 (by decide) (fun c_65 => ?_) (fun c_65 => ?_)
    · have hw1 : what = 1 := by omega
      refine ez_iload dX6_onFrame_98 rfl ?_
      refine ez_aload_n dX6_onFrame_100 rfl ?_
      refine g6_4 dX6_onFrame_101 fl_X6_20 ?_
      refine ez_bipush dX6_onFrame_104 (by decide) (by decide) ?_
      refine ez_iload_n dX6_onFrame_106 rfl ?_
      refine ez_imul dX6_onFrame_107 (by omega) ?_
      refine ez_iload_n dX6_onFrame_108 rfl ?_
      refine ez_iadd dX6_onFrame_109 (by omega) ?_
      refine al124 dX6_onFrame_110 (by omega) ?_
      refine ez_aload_n dX6_onFrame_111 rfl ?_
      refine g6_5 dX6_onFrame_112 fl_X6_23 ?_
      refine ez_bipush dX6_onFrame_115 (by decide) (by decide) ?_
      refine ez_iload_n dX6_onFrame_117 rfl ?_
      refine ez_imul dX6_onFrame_118 (by omega) ?_
      refine ez_iload_n dX6_onFrame_119 rfl ?_
      refine ez_iadd dX6_onFrame_120 (by omega) ?_
      refine al125 dX6_onFrame_121 (by omega) ?_
      refine cl_X6_turnY dX6_onFrame_122 ml_X6_70 ft_X6_onFrame__X6_turnY (Nat.le_of_ble_eq_true rfl) (c_X6_turnY (by omega)) (ez_kF ?_)
      refine ez_istore dX6_onFrame_125 (by decide) ?_
      refine ez_aload_n dX6_onFrame_127 rfl ?_
      refine g6_7 dX6_onFrame_128 fl_X6_30 ?_
      refine ez_iload dX6_onFrame_131 rfl ?_
      refine ez_iconst dX6_onFrame_133 (by decide) ?_
      refine ez_iadd dX6_onFrame_134 (by omega) ?_
      refine al127 dX6_onFrame_135 (by omega) ?_
      refine ez_iload dX6_onFrame_136 rfl ?_
      refine ez_imul dX6_onFrame_138 (by omega) ?_
      refine ez_aload_n dX6_onFrame_139 rfl ?_
      refine g6_7 dX6_onFrame_140 fl_X6_30 ?_
      refine ez_iload dX6_onFrame_143 rfl ?_
      refine ez_iconst dX6_onFrame_145 (by decide) ?_
      refine ez_iadd dX6_onFrame_146 (by omega) ?_
      refine ez_iload_n dX6_onFrame_147 rfl ?_
      refine ez_iadd dX6_onFrame_148 (by omega) ?_
      refine al127 dX6_onFrame_149 (by omega) ?_
      refine ez_iadd dX6_onFrame_150 (by first | (rw [hw0, Int.add_zero]; omega) | (rw [hw1, show 6 * (5 * sp_f (md_S h) + p) + 4 + 1 = 6 * (5 * sp_f (md_S h) + p) + 5 by omega]; omega)) ?_
      refine ez_ireturn (st := []) dX6_onFrame_151 rfl ?_
      refine ez_F.in ?_
      unfold sp_on
      rw [if_neg c_9, show (md_S h).2.1 = h 121 1 from rfl, r1, xy.1.1, xy.1.2]
      dsimp only
      first
        | (rw [if_pos hw0, if_pos hw0, hw0, Int.add_zero])
        | (rw [if_neg c_65, if_neg c_65, hw1, show 6 * (5 * sp_f (md_S h) + p) + 4 + 1 = 6 * (5 * sp_f (md_S h) + p) + 5 by omega])
    · have hw0 : what = 0 := by omega
      refine ez_iload dX6_onFrame_68 rfl ?_
      refine ez_aload_n dX6_onFrame_70 rfl ?_
      refine g6_4 dX6_onFrame_71 fl_X6_20 ?_
      refine ez_bipush dX6_onFrame_74 (by decide) (by decide) ?_
      refine ez_iload_n dX6_onFrame_76 rfl ?_
      refine ez_imul dX6_onFrame_77 (by omega) ?_
      refine ez_iload_n dX6_onFrame_78 rfl ?_
      refine ez_iadd dX6_onFrame_79 (by omega) ?_
      refine al124 dX6_onFrame_80 (by omega) ?_
      refine ez_aload_n dX6_onFrame_81 rfl ?_
      refine g6_5 dX6_onFrame_82 fl_X6_23 ?_
      refine ez_bipush dX6_onFrame_85 (by decide) (by decide) ?_
      refine ez_iload_n dX6_onFrame_87 rfl ?_
      refine ez_imul dX6_onFrame_88 (by omega) ?_
      refine ez_iload_n dX6_onFrame_89 rfl ?_
      refine ez_iadd dX6_onFrame_90 (by omega) ?_
      refine al125 dX6_onFrame_91 (by omega) ?_
      refine cl_X6_turnX dX6_onFrame_92 ml_X6_66 ft_X6_onFrame__X6_turnX (Nat.le_of_ble_eq_true rfl) (c_X6_turnX (by omega)) (ez_kF ?_)
      refine ez_goto 125 dX6_onFrame_95 (by decide) ?_
      refine ez_istore dX6_onFrame_125 (by decide) ?_
      refine ez_aload_n dX6_onFrame_127 rfl ?_
      refine g6_7 dX6_onFrame_128 fl_X6_30 ?_
      refine ez_iload dX6_onFrame_131 rfl ?_
      refine ez_iconst dX6_onFrame_133 (by decide) ?_
      refine ez_iadd dX6_onFrame_134 (by omega) ?_
      refine al127 dX6_onFrame_135 (by omega) ?_
      refine ez_iload dX6_onFrame_136 rfl ?_
      refine ez_imul dX6_onFrame_138 (by omega) ?_
      refine ez_aload_n dX6_onFrame_139 rfl ?_
      refine g6_7 dX6_onFrame_140 fl_X6_30 ?_
      refine ez_iload dX6_onFrame_143 rfl ?_
      refine ez_iconst dX6_onFrame_145 (by decide) ?_
      refine ez_iadd dX6_onFrame_146 (by omega) ?_
      refine ez_iload_n dX6_onFrame_147 rfl ?_
      refine ez_iadd dX6_onFrame_148 (by omega) ?_
      refine al127 dX6_onFrame_149 (by omega) ?_
      refine ez_iadd dX6_onFrame_150 (by first | (rw [hw0, Int.add_zero]; omega) | (rw [hw1, show 6 * (5 * sp_f (md_S h) + p) + 4 + 1 = 6 * (5 * sp_f (md_S h) + p) + 5 by omega]; omega)) ?_
      refine ez_ireturn (st := []) dX6_onFrame_151 rfl ?_
      refine ez_F.in ?_
      unfold sp_on
      rw [if_neg c_9, show (md_S h).2.1 = h 121 1 from rfl, r1, xy.1.1, xy.1.2]
      dsimp only
      first
        | (rw [if_pos hw0, if_pos hw0, hw0, Int.add_zero])
        | (rw [if_neg c_65, if_neg c_65, hw1, show 6 * (5 * sp_f (md_S h) + p) + 4 + 1 = 6 * (5 * sp_f (md_S h) + p) + 5 by omega])
  · refine ez_iload_n dX6_onFrame_12 rfl ?_
    refine ez_if_ne 30 dX6_onFrame_13 (by decide) (fun c_13 => ?_) (fun c_13 => ?_)
    · refine ez_aload_n dX6_onFrame_30 rfl ?_
      refine g6_5 dX6_onFrame_31 fl_X6_23 ?_
      refine ez_bipush dX6_onFrame_34 (by decide) (by decide) ?_
      refine ez_iload_n dX6_onFrame_36 rfl ?_
      refine ez_imul dX6_onFrame_37 (by omega) ?_
      refine ez_iload_n dX6_onFrame_38 rfl ?_
      refine ez_iadd dX6_onFrame_39 (by omega) ?_
      refine al125 dX6_onFrame_40 (by omega) ?_
      refine ez_ireturn (st := []) dX6_onFrame_41 rfl ?_
      refine ez_F.in ?_
      unfold sp_on
      rw [if_pos c_9]
      first
        | (rw [if_pos c_13, xy.1.1])
        | (rw [if_neg c_13, xy.1.2])
    · refine ez_aload_n dX6_onFrame_16 rfl ?_
      refine g6_4 dX6_onFrame_17 fl_X6_20 ?_
      refine ez_bipush dX6_onFrame_20 (by decide) (by decide) ?_
      refine ez_iload_n dX6_onFrame_22 rfl ?_
      refine ez_imul dX6_onFrame_23 (by omega) ?_
      refine ez_iload_n dX6_onFrame_24 rfl ?_
      refine ez_iadd dX6_onFrame_25 (by omega) ?_
      refine al124 dX6_onFrame_26 (by omega) ?_
      refine ez_goto 41 dX6_onFrame_27 (by decide) ?_
      refine ez_ireturn (st := []) dX6_onFrame_41 rfl ?_
      refine ez_F.in ?_
      unfold sp_on
      rw [if_pos c_9]
      first
        | (rw [if_pos c_13, xy.1.1])
        | (rw [if_neg c_13, xy.1.2])
