/-! the reference's tell, foretell, look -/
noncomputable def sp_b (c : Prop) : Int := sp_dec c 1 0
noncomputable def sp_tellA (S : sp_S) (i what : Int) : Int := sp_dec ((0 ≤ i ∧ i < sp_tr S) ∧ (0 ≤ what ∧ what ≤ 3)) (if what = 2 then sp_sp S i else sp_dec (sp_la S i ≠ sp_f S) (if what = 0 then sp_b (sp_sty S i) else if what = 1 then sp_b (sp_wx S i = 0 ∧ sp_wy S i = 0) else sp_tg S i) (-1)) (-1)
theorem c_X6_tell {i what : Int} {h : ez_H} (v : md_V h) : ez_Ct M_X6_tell [ez_R 121, ez_I i, ez_I what] h (md_Q h (sp_tellA (md_S h) i what)) := by
  have v0 := v.1
  refine ez_of (by decide) (Nat.le_of_ble_eq_true rfl) (L0 := [ez_R 121, ez_I i, ez_I what, ez_N]) rfl ?_
  refine ez_aload_n dX6_tell_0 rfl ?_
  refine ez_iload_n dX6_tell_1 rfl ?_
  refine cl_X6_isTrack dX6_tell_2 ml_X6_116 ft_X6_tell__X6_isTrack (Nat.le_of_ble_eq_true rfl) (c_X6_isTrack v) (ez_kB (fun b_2 => ?_) (fun b_2 => ?_))
  · refine ez_if_eq 17 dX6_tell_5 (by decide) (fun c_5 => ?_) (fun c_5 => ?_)
    · exact absurd c_5 (by decide)
    · refine ez_iload_n dX6_tell_8 rfl ?_
      refine ez_iconst dX6_tell_9 (by decide) ?_
      refine ez_iconst dX6_tell_10 (by decide) ?_
      refine cl_X6_isIn dX6_tell_11 ml_X6_51 ft_X6_tell__X6_isIn (Nat.le_of_ble_eq_true rfl) c_X6_isIn (ez_kB (fun b_11 => ?_) (fun b_11 => ?_))
      · refine ez_if_ne 19 dX6_tell_14 (by decide) (fun c_14 => ?_) (fun c_14 => ?_)
        · refine ez_aload_n dX6_tell_19 rfl ?_
          refine ez_iload_n dX6_tell_20 rfl ?_
          refine cl_X6_moves dX6_tell_21 ml_X6_143 ft_X6_tell__X6_moves (Nat.le_of_ble_eq_true rfl) (c_X6_moves v b_2) (ez_kPB (fun h1 hh b_21 => ?_) (fun h1 hh b_21 => ?_))
          · obtain ⟨g1, w17, w18, ww⟩ := hh
            obtain ⟨w14, w15, w16, hr⟩ := ww b_21
            have hi1 : 0 ≤ i ∧ i < sp_tr (md_S h1) := by rw [g1.2.1.S]; exact b_2
            have hr1 : sp_rg (md_S h1) i := by rw [g1.2.1.S]; exact hr
            have x14 : h1 121 14 = sp_wx (md_S h1) i := by rw [g1.2.1.S]; exact w14
            have x15 : h1 121 15 = sp_wy (md_S h1) i := by rw [g1.2.1.S]; exact w15
            have x16 : h1 121 16 = sp_ys (md_S h1) i := by rw [g1.2.1.S]; exact w16
            refine ez_istore_n dX6_tell_24 (by decide) ?_
            refine ez_iload_n dX6_tell_25 rfl ?_
            refine ez_iconst dX6_tell_26 (by decide) ?_
            refine ez_ic_ne 35 dX6_tell_27 (by decide) (fun c_27 => ?_) (fun c_27 => ?_)
            · refine ez_iload_n dX6_tell_35 rfl ?_
              refine ez_if_ne 41 dX6_tell_36 (by decide) (fun c_36 => ?_) (fun c_36 => ?_)
              · refine ez_iload_n dX6_tell_41 rfl ?_
                refine ez_if_ne 61 dX6_tell_42 (by decide) (fun c_42 => ?_) (fun c_42 => ?_)
                · refine ez_iload_n dX6_tell_61 rfl ?_
                  refine ez_iconst dX6_tell_62 (by decide) ?_
                  refine ez_ic_ne 88 dX6_tell_63 (by decide) (fun c_63 => ?_) (fun c_63 => ?_)
                  · refine ez_aload_n dX6_tell_88 rfl ?_
                    refine ez_iload_n dX6_tell_89 rfl ?_
                    refine cl_X6_together dX6_tell_90 ml_X6_152 ft_X6_tell__X6_together (Nat.le_of_ble_eq_true rfl) (c_X6_together g1.1 hi1 hr1 x14 x15 x16) (ez_kI (fun h2 z hz => ?_))
                    obtain ⟨g2, ez2⟩ := hz
                    rw [g1.2.1.S] at ez2
                    refine ez_ireturn (st := []) dX6_tell_93 rfl ?_
                    first
                      | (refine md_Q.in (g1.tr g2) ?_
                         unfold sp_tellA sp_b
                         rw [sp_dec_t ⟨b_2, b_11⟩, if_neg c_27, sp_dec_t b_21, if_pos c_42]
                         first
                           | rw [sp_dec_t b_47]
                           | rw [sp_dec_f b_47])
                      | (refine md_Q.in (g1.tr g2) ?_
                         unfold sp_tellA
                         rw [sp_dec_t ⟨b_2, b_11⟩, if_neg c_27, sp_dec_t b_21, if_neg c_42, if_neg c_63]
                         exact ez2)
                      | (refine md_Q.in g1 ?_
                         unfold sp_tellA sp_b
                         rw [sp_dec_t ⟨b_2, b_11⟩, if_neg c_27, sp_dec_t b_21, if_neg c_42, if_pos c_63]
                         first
                           | rw [sp_dec_t (by omega)]
                           | rw [sp_dec_f (by omega)])
                  · refine ez_aload_n dX6_tell_66 rfl ?_
                    refine g6_14 dX6_tell_67 fl_X6_134 ?_
                    refine ez_if_ne 84 dX6_tell_70 (by decide) (fun c_70 => ?_) (fun c_70 => ?_)
                    · refine ez_iconst dX6_tell_84 (by decide) ?_
                      refine ez_goto 93 dX6_tell_85 (by decide) ?_
                      refine ez_ireturn (st := []) dX6_tell_93 rfl ?_
                      first
                        | (refine md_Q.in (g1.tr g2) ?_
                           unfold sp_tellA sp_b
                           rw [sp_dec_t ⟨b_2, b_11⟩, if_neg c_27, sp_dec_t b_21, if_pos c_42]
                           first
                             | rw [sp_dec_t b_47]
                             | rw [sp_dec_f b_47])
                        | (refine md_Q.in (g1.tr g2) ?_
                           unfold sp_tellA
                           rw [sp_dec_t ⟨b_2, b_11⟩, if_neg c_27, sp_dec_t b_21, if_neg c_42, if_neg c_63]
                           exact ez2)
                        | (refine md_Q.in g1 ?_
                           unfold sp_tellA sp_b
                           rw [sp_dec_t ⟨b_2, b_11⟩, if_neg c_27, sp_dec_t b_21, if_neg c_42, if_pos c_63]
                           first
                             | rw [sp_dec_t (by omega)]
                             | rw [sp_dec_f (by omega)])
                    · refine ez_aload_n dX6_tell_73 rfl ?_
                      refine g6_15 dX6_tell_74 fl_X6_137 ?_
                      refine ez_if_ne 84 dX6_tell_77 (by decide) (fun c_77 => ?_) (fun c_77 => ?_)
                      · refine ez_iconst dX6_tell_84 (by decide) ?_
                        refine ez_goto 93 dX6_tell_85 (by decide) ?_
                        refine ez_ireturn (st := []) dX6_tell_93 rfl ?_
                        first
                          | (refine md_Q.in (g1.tr g2) ?_
                             unfold sp_tellA sp_b
                             rw [sp_dec_t ⟨b_2, b_11⟩, if_neg c_27, sp_dec_t b_21, if_pos c_42]
                             first
                               | rw [sp_dec_t b_47]
                               | rw [sp_dec_f b_47])
                          | (refine md_Q.in (g1.tr g2) ?_
                             unfold sp_tellA
                             rw [sp_dec_t ⟨b_2, b_11⟩, if_neg c_27, sp_dec_t b_21, if_neg c_42, if_neg c_63]
                             exact ez2)
                          | (refine md_Q.in g1 ?_
                             unfold sp_tellA sp_b
                             rw [sp_dec_t ⟨b_2, b_11⟩, if_neg c_27, sp_dec_t b_21, if_neg c_42, if_pos c_63]
                             first
                               | rw [sp_dec_t (by omega)]
                               | rw [sp_dec_f (by omega)])
                      · refine ez_iconst dX6_tell_80 (by decide) ?_
                        refine ez_goto 93 dX6_tell_81 (by decide) ?_
                        refine ez_ireturn (st := []) dX6_tell_93 rfl ?_
                        first
                          | (refine md_Q.in (g1.tr g2) ?_
                             unfold sp_tellA sp_b
                             rw [sp_dec_t ⟨b_2, b_11⟩, if_neg c_27, sp_dec_t b_21, if_pos c_42]
                             first
                               | rw [sp_dec_t b_47]
                               | rw [sp_dec_f b_47])
                          | (refine md_Q.in (g1.tr g2) ?_
                             unfold sp_tellA
                             rw [sp_dec_t ⟨b_2, b_11⟩, if_neg c_27, sp_dec_t b_21, if_neg c_42, if_neg c_63]
                             exact ez2)
                          | (refine md_Q.in g1 ?_
                             unfold sp_tellA sp_b
                             rw [sp_dec_t ⟨b_2, b_11⟩, if_neg c_27, sp_dec_t b_21, if_neg c_42, if_pos c_63]
                             first
                               | rw [sp_dec_t (by omega)]
                               | rw [sp_dec_f (by omega)])
                · refine ez_aload_n dX6_tell_45 rfl ?_
                  refine ez_iload_n dX6_tell_46 rfl ?_
                  refine cl_X6_isSteady dX6_tell_47 ml_X6_149 ft_X6_tell__X6_isSteady (Nat.le_of_ble_eq_true rfl) (c_X6_isSteady g1.1 hi1 hr1 x14 x15 x16) (ez_kPB (fun h2 hh b_47 => ?_) (fun h2 hh b_47 => ?_))
                  · obtain ⟨g2, -⟩ := hh
                    rw [g1.2.1.S] at b_47
                    refine ez_if_eq 57 dX6_tell_50 (by decide) (fun c_50 => ?_) (fun c_50 => ?_)
                    · exact absurd c_50 (by decide)
                    · refine ez_iconst dX6_tell_53 (by decide) ?_
                      refine ez_goto 93 dX6_tell_54 (by decide) ?_
                      refine ez_ireturn (st := []) dX6_tell_93 rfl ?_
                      first
                        | (refine md_Q.in (g1.tr g2) ?_
                           unfold sp_tellA sp_b
                           rw [sp_dec_t ⟨b_2, b_11⟩, if_neg c_27, sp_dec_t b_21, if_pos c_42]
                           first
                             | rw [sp_dec_t b_47]
                             | rw [sp_dec_f b_47])
                        | (refine md_Q.in (g1.tr g2) ?_
                           unfold sp_tellA
                           rw [sp_dec_t ⟨b_2, b_11⟩, if_neg c_27, sp_dec_t b_21, if_neg c_42, if_neg c_63]
                           exact ez2)
                        | (refine md_Q.in g1 ?_
                           unfold sp_tellA sp_b
                           rw [sp_dec_t ⟨b_2, b_11⟩, if_neg c_27, sp_dec_t b_21, if_neg c_42, if_pos c_63]
                           first
                             | rw [sp_dec_t (by omega)]
                             | rw [sp_dec_f (by omega)])
                  · obtain ⟨g2, -⟩ := hh
                    rw [g1.2.1.S] at b_47
                    refine ez_if_eq 57 dX6_tell_50 (by decide) (fun c_50 => ?_) (fun c_50 => ?_)
                    · refine ez_iconst dX6_tell_57 (by decide) ?_
                      refine ez_goto 93 dX6_tell_58 (by decide) ?_
                      refine ez_ireturn (st := []) dX6_tell_93 rfl ?_
                      first
                        | (refine md_Q.in (g1.tr g2) ?_
                           unfold sp_tellA sp_b
                           rw [sp_dec_t ⟨b_2, b_11⟩, if_neg c_27, sp_dec_t b_21, if_pos c_42]
                           first
                             | rw [sp_dec_t b_47]
                             | rw [sp_dec_f b_47])
                        | (refine md_Q.in (g1.tr g2) ?_
                           unfold sp_tellA
                           rw [sp_dec_t ⟨b_2, b_11⟩, if_neg c_27, sp_dec_t b_21, if_neg c_42, if_neg c_63]
                           exact ez2)
                        | (refine md_Q.in g1 ?_
                           unfold sp_tellA sp_b
                           rw [sp_dec_t ⟨b_2, b_11⟩, if_neg c_27, sp_dec_t b_21, if_neg c_42, if_pos c_63]
                           first
                             | rw [sp_dec_t (by omega)]
                             | rw [sp_dec_f (by omega)])
                    · exact absurd c_50 (by decide)
              · exact absurd c_36 (by decide)
            · refine ez_aload_n dX6_tell_30 rfl ?_
              refine g6_17 dX6_tell_31 fl_X6_128 ?_
              refine ez_ireturn (st := []) dX6_tell_34 rfl ?_
              refine md_Q.in g1 ?_
              unfold sp_tellA
              rw [sp_dec_t ⟨b_2, b_11⟩, if_pos c_27]
              exact w17
          · obtain ⟨g1, w17, w18, ww⟩ := hh
            refine ez_istore_n dX6_tell_24 (by decide) ?_
            refine ez_iload_n dX6_tell_25 rfl ?_
            refine ez_iconst dX6_tell_26 (by decide) ?_
            refine ez_ic_ne 35 dX6_tell_27 (by decide) (fun c_27 => ?_) (fun c_27 => ?_)
            · refine ez_iload_n dX6_tell_35 rfl ?_
              refine ez_if_ne 41 dX6_tell_36 (by decide) (fun c_36 => ?_) (fun c_36 => ?_)
              · exact absurd c_36 (by decide)
              · refine ez_iconst dX6_tell_39 (by decide) ?_
                refine ez_ireturn (st := []) dX6_tell_40 rfl ?_
                refine md_Q.in g1 ?_
                unfold sp_tellA
                rw [sp_dec_t ⟨b_2, b_11⟩, if_neg c_27, sp_dec_f b_21]
            · refine ez_aload_n dX6_tell_30 rfl ?_
              refine g6_17 dX6_tell_31 fl_X6_128 ?_
              refine ez_ireturn (st := []) dX6_tell_34 rfl ?_
              refine md_Q.in g1 ?_
              unfold sp_tellA
              rw [sp_dec_t ⟨b_2, b_11⟩, if_pos c_27]
              exact w17
        · exact absurd c_14 (by decide)
      · refine ez_if_ne 19 dX6_tell_14 (by decide) (fun c_14 => ?_) (fun c_14 => ?_)
        · exact absurd c_14 (by decide)
        · refine ez_iconst dX6_tell_17 (by decide) ?_
          refine ez_ireturn (st := []) dX6_tell_18 rfl ?_
          first
            | exact md_Q.in (md_g.rf v) (sp_dec_f (fun q => b_11 q.2)).symm
            | exact md_Q.in (md_g.rf v) (sp_dec_f (fun q => b_2 q.1)).symm
  · refine ez_if_eq 17 dX6_tell_5 (by decide) (fun c_5 => ?_) (fun c_5 => ?_)
    · refine ez_iconst dX6_tell_17 (by decide) ?_
      refine ez_ireturn (st := []) dX6_tell_18 rfl ?_
      first
        | exact md_Q.in (md_g.rf v) (sp_dec_f (fun q => b_11 q.2)).symm
        | exact md_Q.in (md_g.rf v) (sp_dec_f (fun q => b_2 q.1)).symm
    · exact absurd c_5 (by decide)
theorem en_down {a b : Int} (hb : 0 < b) (ha : a < 0) : -((-a + b - 1) / b) = a / b := by
  have h1 := Int.emod_add_mul_ediv a b
  have h2 := Int.emod_nonneg a (show b ≠ 0 by omega)
  have h3 := Int.emod_lt_of_pos a hb
  have key : (-a + b - 1) / b = -(a / b) := by
    have e : -a + b - 1 = (b - 1 - a % b) + b * (-(a / b)) := by
      rw [Int.mul_neg]
      omega
    rw [e, Int.add_mul_ediv_left _ _ (show b ≠ 0 by omega), Int.ediv_eq_zero_of_lt (by omega) (by omega)]
    omega
  rw [key]
  omega
theorem en_ediv_bd {a b B : Int} (hb : 0 < b) (ha : -B ≤ a ∧ a ≤ B) (hB : 0 ≤ B) : -B - 1 ≤ a / b ∧ a / b ≤ B := by
  by_cases h0 : 0 ≤ a
  · obtain ⟨-, h1, h2, -⟩ := en_div h0 hb
    omega
  · have e := en_down hb (show a < 0 by omega)
    have h1 : (-a + b - 1) / b ≤ B + 1 := by
      have : (-a + b - 1) / b ≤ -a := by
        have h3 : -a + b - 1 < (-a + 1) * b := by
          rw [Int.add_mul, Int.one_mul]
          have : (-a) * 1 ≤ (-a) * b := Int.mul_le_mul_of_nonneg_left (by omega) (by omega)
          omega
        have := Int.ediv_lt_of_lt_mul hb h3
        omega
      omega
    have h2 : 0 ≤ (-a + b - 1) / b := Int.ediv_nonneg (by omega) (by omega)
    omega
theorem c_X6_down {a b : Int} {h : ez_H} (ha : -1000000000 ≤ a ∧ a ≤ 1000000000) (hb : 0 < b ∧ b ≤ 1000000) : ez_Ct M_X6_down [ez_I a, ez_I b] h (ez_F h (a / b)) := by
  refine ez_of (by decide) (Nat.le_of_ble_eq_true rfl) (L0 := [ez_I a, ez_I b]) rfl ?_
  refine ez_iload_n dX6_down_0 rfl ?_
  refine ez_if_lt 10 dX6_down_1 (by decide) (fun c_1 => ?_) (fun c_1 => ?_)
  · refine ez_iload_n dX6_down_10 rfl ?_
    refine ez_ineg dX6_down_11 (by omega) ?_
    refine ez_iload_n dX6_down_12 rfl ?_
    refine ez_iadd dX6_down_13 (by omega) ?_
    refine ez_iconst dX6_down_14 (by decide) ?_
    refine ez_isub dX6_down_15 (by omega) ?_
    refine ez_iload_n dX6_down_16 rfl ?_
    refine ez_idivN dX6_down_17 (by omega) (by omega) ?_
    have hdn := en_div (a := -a + b - 1) (b := b) (by omega) hb.1
    refine ez_ineg dX6_down_18 (by omega) ?_
    refine ez_ireturn (st := []) dX6_down_19 rfl ?_
    first
      | exact ez_F.in rfl
      | exact ez_F.in (en_down hb.1 c_1)
  · refine ez_iload_n dX6_down_4 rfl ?_
    refine ez_iload_n dX6_down_5 rfl ?_
    refine ez_idivN dX6_down_6 (by omega) (by omega) ?_
    refine ez_goto 19 dX6_down_7 (by decide) ?_
    refine ez_ireturn (st := []) dX6_down_19 rfl ?_
    first
      | exact ez_F.in rfl
      | exact ez_F.in (en_down hb.1 c_1)
noncomputable def sp_foA (S : sp_S) (i t what : Int) : Int := sp_dec ((0 ≤ i ∧ i < sp_tr S) ∧ (0 ≤ t ∧ t ≤ 2000) ∧ (0 ≤ what ∧ what ≤ 1)) ((if what = 0 then (S.2.2.2 (sp_f S)).2.1 i else (S.2.2.2 (sp_f S)).2.2 i) + sp_dec (sp_la S i ≠ sp_f S) ((2 * (if what = 0 then sp_wx S i else sp_wy S i) * (t - S.2.2.1 (sp_f S)) + sp_ys S i) / (2 * sp_ys S i)) 0) (-100000)
theorem c_X6_foretell {i t what : Int} {h : ez_H} (v : md_V h) : ez_Ct M_X6_foretell [ez_R 121, ez_I i, ez_I t, ez_I what] h (md_Q h (sp_foA (md_S h) i t what)) := by
  have v0 := v.1
  refine ez_of (by decide) (Nat.le_of_ble_eq_true rfl) (L0 := [ez_R 121, ez_I i, ez_I t, ez_I what, ez_N, ez_N]) rfl ?_
  refine ez_aload_n dX6_foretell_0 rfl ?_
  refine ez_iload_n dX6_foretell_1 rfl ?_
  refine cl_X6_isTrack dX6_foretell_2 ml_X6_116 ft_X6_foretell__X6_isTrack (Nat.le_of_ble_eq_true rfl) (c_X6_isTrack v) (ez_kB (fun b_2 => ?_) (fun b_2 => ?_))
  · refine ez_if_eq 28 dX6_foretell_5 (by decide) (fun c_5 => ?_) (fun c_5 => ?_)
    · exact absurd c_5 (by decide)
    · refine ez_iload_n dX6_foretell_8 rfl ?_
      refine ez_iconst dX6_foretell_9 (by decide) ?_
      refine ez_sipush dX6_foretell_10 (by decide) (by decide) ?_
      refine cl_X6_isIn dX6_foretell_13 ml_X6_51 ft_X6_foretell__X6_isIn (Nat.le_of_ble_eq_true rfl) c_X6_isIn (ez_kB (fun b_13 => ?_) (fun b_13 => ?_))
      · refine ez_if_eq 28 dX6_foretell_16 (by decide) (fun c_16 => ?_) (fun c_16 => ?_)
        · exact absurd c_16 (by decide)
        · refine ez_iload_n dX6_foretell_19 rfl ?_
          refine ez_iconst dX6_foretell_20 (by decide) ?_
          refine ez_iconst dX6_foretell_21 (by decide) ?_
          refine cl_X6_isIn dX6_foretell_22 ml_X6_51 ft_X6_foretell__X6_isIn (Nat.le_of_ble_eq_true rfl) c_X6_isIn (ez_kB (fun b_22 => ?_) (fun b_22 => ?_))
          · have hn := md_tr0 b_2
            have hf := md_f v hn
            have hi2 := b_2
            rw [md_tr v hn] at hi2
            have hmf := (v.2.2.1 _ hf.1 hf.2).1.2.1
            have yf2 := (v.2.2.1 _ hf.1 hf.2).2
            have xy := md_xy v hf hi2
            have yS := md_S_yr hf.1 hf.2
            refine ez_if_ne 31 dX6_foretell_25 (by decide) (fun c_25 => ?_) (fun c_25 => ?_)
            · refine ez_aload_n dX6_foretell_31 rfl ?_
              refine cl_X6_frame dX6_foretell_32 ml_X6_109 ft_X6_foretell__X6_frame (Nat.le_of_ble_eq_true rfl) (c_X6_frame v.1) (ez_kF ?_)
              refine ez_istore dX6_foretell_35 (by decide) ?_
              refine ez_iload_n dX6_foretell_37 rfl ?_
              refine ez_if_ne 56 dX6_foretell_38 (by decide) (fun c_38 => ?_) (fun c_38 => ?_)
              · refine ez_aload_n dX6_foretell_56 rfl ?_
                refine g6_5 dX6_foretell_57 fl_X6_23 ?_
                refine ez_bipush dX6_foretell_60 (by decide) (by decide) ?_
                refine ez_iload dX6_foretell_62 rfl ?_
                refine ez_imul dX6_foretell_64 (by omega) ?_
                refine ez_iload_n dX6_foretell_65 rfl ?_
                refine ez_iadd dX6_foretell_66 (by omega) ?_
                refine al125 dX6_foretell_67 (by omega) ?_
                refine ez_istore dX6_foretell_68 (by decide) ?_
                refine ez_aload_n dX6_foretell_70 rfl ?_
                refine ez_iload_n dX6_foretell_71 rfl ?_
                refine cl_X6_moves dX6_foretell_72 ml_X6_143 ft_X6_foretell__X6_moves (Nat.le_of_ble_eq_true rfl) (c_X6_moves v b_2) (ez_kPB (fun h1 hh b_72 => ?_) (fun h1 hh b_72 => ?_))
                · obtain ⟨g1, w17, w18, ww⟩ := hh
                  obtain ⟨w14, w15, w16, r1, r2, r3⟩ := ww b_72
                  have yf := g1.y (sp_f (md_S h))
                  have m1 := en_mul_bd (a := 2 * h1 121 14) (b := t - h1 122 (sp_f (md_S h))) (A := 16000) (B := 2000) (by omega) (by omega)
                  have m2 := en_mul_bd (a := 2 * h1 121 15) (b := t - h1 122 (sp_f (md_S h))) (A := 16000) (B := 2000) (by omega) (by omega)
                  have d1 := en_ediv_bd (a := 2 * h1 121 14 * (t - h1 122 (sp_f (md_S h))) + h1 121 16) (b := 2 * h1 121 16) (B := 40000000) (by omega) (by omega) (by omega)
                  have d2 := en_ediv_bd (a := 2 * h1 121 15 * (t - h1 122 (sp_f (md_S h))) + h1 121 16) (b := 2 * h1 121 16) (B := 40000000) (by omega) (by omega) (by omega)
                  refine ez_if_eq 125 dX6_foretell_75 (by decide) (fun c_75 => ?_) (fun c_75 => ?_)
                  · exact absurd c_75 (by decide)
                  · refine ez_iload dX6_foretell_78 rfl ?_
                    refine ez_iconst dX6_foretell_80 (by decide) ?_
                    refine ez_iload_n dX6_foretell_81 rfl ?_
                    refine ez_if_ne 92 dX6_foretell_82 (by decide) (fun c_82 => ?_) (fun c_82 => ?_)
                    · refine ez_aload_n dX6_foretell_92 rfl ?_
                      refine g6_15 dX6_foretell_93 fl_X6_137 ?_
                      refine ez_imul dX6_foretell_96 (by omega) ?_
                      refine ez_iload_n dX6_foretell_97 rfl ?_
                      refine ez_aload_n dX6_foretell_98 rfl ?_
                      refine g6_2 dX6_foretell_99 fl_X6_13 ?_
                      refine ez_iload dX6_foretell_102 rfl ?_
                      refine al122 dX6_foretell_104 (by omega) ?_
                      refine ez_isub dX6_foretell_105 (by omega) ?_
                      refine ez_imul dX6_foretell_106 (by omega) ?_
                      refine ez_aload_n dX6_foretell_107 rfl ?_
                      refine g6_16 dX6_foretell_108 fl_X6_140 ?_
                      refine ez_iadd dX6_foretell_111 (by omega) ?_
                      refine ez_iconst dX6_foretell_112 (by decide) ?_
                      refine ez_aload_n dX6_foretell_113 rfl ?_
                      refine g6_16 dX6_foretell_114 fl_X6_140 ?_
                      refine ez_imul dX6_foretell_117 (by omega) ?_
                      refine cl_X6_down dX6_foretell_118 ml_X6_156 ft_X6_foretell__X6_down (Nat.le_of_ble_eq_true rfl) (c_X6_down (by omega) (by omega)) (ez_kF ?_)
                      refine ez_iadd dX6_foretell_121 (by omega) ?_
                      refine ez_goto 127 dX6_foretell_122 (by decide) ?_
                      refine ez_ireturn (st := []) dX6_foretell_127 rfl ?_
                      first
                        | exact absurd c_82 c_38
                        | exact absurd c_38 c_82
                        | exact md_Q.in g1 (by unfold sp_foA; rw [sp_dec_t ⟨b_2, b_13, b_22⟩, xy.1.1, xy.1.2, yS, sp_dec_f b_72, if_pos c_38, Int.add_zero])
                        | exact md_Q.in g1 (by unfold sp_foA; rw [sp_dec_t ⟨b_2, b_13, b_22⟩, xy.1.1, xy.1.2, yS, sp_dec_f b_72, if_neg c_38, Int.add_zero])
                        | exact md_Q.in g1 (by unfold sp_foA; rw [sp_dec_t ⟨b_2, b_13, b_22⟩, xy.1.1, xy.1.2, yS, sp_dec_t b_72, ← w16, ← yf, if_pos c_38, if_pos c_38, ← w14])
                        | exact md_Q.in g1 (by unfold sp_foA; rw [sp_dec_t ⟨b_2, b_13, b_22⟩, xy.1.1, xy.1.2, yS, sp_dec_t b_72, ← w16, ← yf, if_neg c_38, if_neg c_38, ← w15])
                    · refine ez_aload_n dX6_foretell_85 rfl ?_
                      refine g6_14 dX6_foretell_86 fl_X6_134 ?_
                      refine ez_goto 96 dX6_foretell_89 (by decide) ?_
                      refine ez_imul dX6_foretell_96 (by omega) ?_
                      refine ez_iload_n dX6_foretell_97 rfl ?_
                      refine ez_aload_n dX6_foretell_98 rfl ?_
                      refine g6_2 dX6_foretell_99 fl_X6_13 ?_
                      refine ez_iload dX6_foretell_102 rfl ?_
                      refine al122 dX6_foretell_104 (by omega) ?_
                      refine ez_isub dX6_foretell_105 (by omega) ?_
                      refine ez_imul dX6_foretell_106 (by omega) ?_
                      refine ez_aload_n dX6_foretell_107 rfl ?_
                      refine g6_16 dX6_foretell_108 fl_X6_140 ?_
                      refine ez_iadd dX6_foretell_111 (by omega) ?_
                      refine ez_iconst dX6_foretell_112 (by decide) ?_
                      refine ez_aload_n dX6_foretell_113 rfl ?_
                      refine g6_16 dX6_foretell_114 fl_X6_140 ?_
                      refine ez_imul dX6_foretell_117 (by omega) ?_
                      refine cl_X6_down dX6_foretell_118 ml_X6_156 ft_X6_foretell__X6_down (Nat.le_of_ble_eq_true rfl) (c_X6_down (by omega) (by omega)) (ez_kF ?_)
                      refine ez_iadd dX6_foretell_121 (by omega) ?_
                      refine ez_goto 127 dX6_foretell_122 (by decide) ?_
                      refine ez_ireturn (st := []) dX6_foretell_127 rfl ?_
                      first
                        | exact absurd c_82 c_38
                        | exact absurd c_38 c_82
                        | exact md_Q.in g1 (by unfold sp_foA; rw [sp_dec_t ⟨b_2, b_13, b_22⟩, xy.1.1, xy.1.2, yS, sp_dec_f b_72, if_pos c_38, Int.add_zero])
                        | exact md_Q.in g1 (by unfold sp_foA; rw [sp_dec_t ⟨b_2, b_13, b_22⟩, xy.1.1, xy.1.2, yS, sp_dec_f b_72, if_neg c_38, Int.add_zero])
                        | exact md_Q.in g1 (by unfold sp_foA; rw [sp_dec_t ⟨b_2, b_13, b_22⟩, xy.1.1, xy.1.2, yS, sp_dec_t b_72, ← w16, ← yf, if_pos c_38, if_pos c_38, ← w14])
                        | exact md_Q.in g1 (by unfold sp_foA; rw [sp_dec_t ⟨b_2, b_13, b_22⟩, xy.1.1, xy.1.2, yS, sp_dec_t b_72, ← w16, ← yf, if_neg c_38, if_neg c_38, ← w15])
                · obtain ⟨g1, w17, w18, ww⟩ := hh
                  refine ez_if_eq 125 dX6_foretell_75 (by decide) (fun c_75 => ?_) (fun c_75 => ?_)
                  · refine ez_iload dX6_foretell_125 rfl ?_
                    refine ez_ireturn (st := []) dX6_foretell_127 rfl ?_
                    first
                      | exact absurd c_82 c_38
                      | exact absurd c_38 c_82
                      | exact md_Q.in g1 (by unfold sp_foA; rw [sp_dec_t ⟨b_2, b_13, b_22⟩, xy.1.1, xy.1.2, yS, sp_dec_f b_72, if_pos c_38, Int.add_zero])
                      | exact md_Q.in g1 (by unfold sp_foA; rw [sp_dec_t ⟨b_2, b_13, b_22⟩, xy.1.1, xy.1.2, yS, sp_dec_f b_72, if_neg c_38, Int.add_zero])
                      | exact md_Q.in g1 (by unfold sp_foA; rw [sp_dec_t ⟨b_2, b_13, b_22⟩, xy.1.1, xy.1.2, yS, sp_dec_t b_72, ← w16, ← yf, if_pos c_38, if_pos c_38, ← w14])
                      | exact md_Q.in g1 (by unfold sp_foA; rw [sp_dec_t ⟨b_2, b_13, b_22⟩, xy.1.1, xy.1.2, yS, sp_dec_t b_72, ← w16, ← yf, if_neg c_38, if_neg c_38, ← w15])
                  · exact absurd c_75 (by decide)
              · refine ez_aload_n dX6_foretell_41 rfl ?_
                refine g6_4 dX6_foretell_42 fl_X6_20 ?_
                refine ez_bipush dX6_foretell_45 (by decide) (by decide) ?_
                refine ez_iload dX6_foretell_47 rfl ?_
                refine ez_imul dX6_foretell_49 (by omega) ?_
                refine ez_iload_n dX6_foretell_50 rfl ?_
                refine ez_iadd dX6_foretell_51 (by omega) ?_
                refine al124 dX6_foretell_52 (by omega) ?_
                refine ez_goto 68 dX6_foretell_53 (by decide) ?_
                refine ez_istore dX6_foretell_68 (by decide) ?_
                refine ez_aload_n dX6_foretell_70 rfl ?_
                refine ez_iload_n dX6_foretell_71 rfl ?_
                refine cl_X6_moves dX6_foretell_72 ml_X6_143 ft_X6_foretell__X6_moves (Nat.le_of_ble_eq_true rfl) (c_X6_moves v b_2) (ez_kPB (fun h1 hh b_72 => ?_) (fun h1 hh b_72 => ?_))
                · obtain ⟨g1, w17, w18, ww⟩ := hh
                  obtain ⟨w14, w15, w16, r1, r2, r3⟩ := ww b_72
                  have yf := g1.y (sp_f (md_S h))
                  have m1 := en_mul_bd (a := 2 * h1 121 14) (b := t - h1 122 (sp_f (md_S h))) (A := 16000) (B := 2000) (by omega) (by omega)
                  have m2 := en_mul_bd (a := 2 * h1 121 15) (b := t - h1 122 (sp_f (md_S h))) (A := 16000) (B := 2000) (by omega) (by omega)
                  have d1 := en_ediv_bd (a := 2 * h1 121 14 * (t - h1 122 (sp_f (md_S h))) + h1 121 16) (b := 2 * h1 121 16) (B := 40000000) (by omega) (by omega) (by omega)
                  have d2 := en_ediv_bd (a := 2 * h1 121 15 * (t - h1 122 (sp_f (md_S h))) + h1 121 16) (b := 2 * h1 121 16) (B := 40000000) (by omega) (by omega) (by omega)
                  refine ez_if_eq 125 dX6_foretell_75 (by decide) (fun c_75 => ?_) (fun c_75 => ?_)
                  · exact absurd c_75 (by decide)
                  · refine ez_iload dX6_foretell_78 rfl ?_
                    refine ez_iconst dX6_foretell_80 (by decide) ?_
                    refine ez_iload_n dX6_foretell_81 rfl ?_
                    refine ez_if_ne 92 dX6_foretell_82 (by decide) (fun c_82 => ?_) (fun c_82 => ?_)
                    · refine ez_aload_n dX6_foretell_92 rfl ?_
                      refine g6_15 dX6_foretell_93 fl_X6_137 ?_
                      refine ez_imul dX6_foretell_96 (by omega) ?_
                      refine ez_iload_n dX6_foretell_97 rfl ?_
                      refine ez_aload_n dX6_foretell_98 rfl ?_
                      refine g6_2 dX6_foretell_99 fl_X6_13 ?_
                      refine ez_iload dX6_foretell_102 rfl ?_
                      refine al122 dX6_foretell_104 (by omega) ?_
                      refine ez_isub dX6_foretell_105 (by omega) ?_
                      refine ez_imul dX6_foretell_106 (by omega) ?_
                      refine ez_aload_n dX6_foretell_107 rfl ?_
                      refine g6_16 dX6_foretell_108 fl_X6_140 ?_
                      refine ez_iadd dX6_foretell_111 (by omega) ?_
                      refine ez_iconst dX6_foretell_112 (by decide) ?_
                      refine ez_aload_n dX6_foretell_113 rfl ?_
                      refine g6_16 dX6_foretell_114 fl_X6_140 ?_
                      refine ez_imul dX6_foretell_117 (by omega) ?_
                      refine cl_X6_down dX6_foretell_118 ml_X6_156 ft_X6_foretell__X6_down (Nat.le_of_ble_eq_true rfl) (c_X6_down (by omega) (by omega)) (ez_kF ?_)
                      refine ez_iadd dX6_foretell_121 (by omega) ?_
                      refine ez_goto 127 dX6_foretell_122 (by decide) ?_
                      refine ez_ireturn (st := []) dX6_foretell_127 rfl ?_
                      first
                        | exact absurd c_82 c_38
                        | exact absurd c_38 c_82
                        | exact md_Q.in g1 (by unfold sp_foA; rw [sp_dec_t ⟨b_2, b_13, b_22⟩, xy.1.1, xy.1.2, yS, sp_dec_f b_72, if_pos c_38, Int.add_zero])
                        | exact md_Q.in g1 (by unfold sp_foA; rw [sp_dec_t ⟨b_2, b_13, b_22⟩, xy.1.1, xy.1.2, yS, sp_dec_f b_72, if_neg c_38, Int.add_zero])
                        | exact md_Q.in g1 (by unfold sp_foA; rw [sp_dec_t ⟨b_2, b_13, b_22⟩, xy.1.1, xy.1.2, yS, sp_dec_t b_72, ← w16, ← yf, if_pos c_38, if_pos c_38, ← w14])
                        | exact md_Q.in g1 (by unfold sp_foA; rw [sp_dec_t ⟨b_2, b_13, b_22⟩, xy.1.1, xy.1.2, yS, sp_dec_t b_72, ← w16, ← yf, if_neg c_38, if_neg c_38, ← w15])
                    · refine ez_aload_n dX6_foretell_85 rfl ?_
                      refine g6_14 dX6_foretell_86 fl_X6_134 ?_
                      refine ez_goto 96 dX6_foretell_89 (by decide) ?_
                      refine ez_imul dX6_foretell_96 (by omega) ?_
                      refine ez_iload_n dX6_foretell_97 rfl ?_
                      refine ez_aload_n dX6_foretell_98 rfl ?_
                      refine g6_2 dX6_foretell_99 fl_X6_13 ?_
                      refine ez_iload dX6_foretell_102 rfl ?_
                      refine al122 dX6_foretell_104 (by omega) ?_
                      refine ez_isub dX6_foretell_105 (by omega) ?_
                      refine ez_imul dX6_foretell_106 (by omega) ?_
                      refine ez_aload_n dX6_foretell_107 rfl ?_
                      refine g6_16 dX6_foretell_108 fl_X6_140 ?_
                      refine ez_iadd dX6_foretell_111 (by omega) ?_
                      refine ez_iconst dX6_foretell_112 (by decide) ?_
                      refine ez_aload_n dX6_foretell_113 rfl ?_
                      refine g6_16 dX6_foretell_114 fl_X6_140 ?_
                      refine ez_imul dX6_foretell_117 (by omega) ?_
                      refine cl_X6_down dX6_foretell_118 ml_X6_156 ft_X6_foretell__X6_down (Nat.le_of_ble_eq_true rfl) (c_X6_down (by omega) (by omega)) (ez_kF ?_)
                      refine ez_iadd dX6_foretell_121 (by omega) ?_
                      refine ez_goto 127 dX6_foretell_122 (by decide) ?_
                      refine ez_ireturn (st := []) dX6_foretell_127 rfl ?_
                      first
                        | exact absurd c_82 c_38
                        | exact absurd c_38 c_82
                        | exact md_Q.in g1 (by unfold sp_foA; rw [sp_dec_t ⟨b_2, b_13, b_22⟩, xy.1.1, xy.1.2, yS, sp_dec_f b_72, if_pos c_38, Int.add_zero])
                        | exact md_Q.in g1 (by unfold sp_foA; rw [sp_dec_t ⟨b_2, b_13, b_22⟩, xy.1.1, xy.1.2, yS, sp_dec_f b_72, if_neg c_38, Int.add_zero])
                        | exact md_Q.in g1 (by unfold sp_foA; rw [sp_dec_t ⟨b_2, b_13, b_22⟩, xy.1.1, xy.1.2, yS, sp_dec_t b_72, ← w16, ← yf, if_pos c_38, if_pos c_38, ← w14])
                        | exact md_Q.in g1 (by unfold sp_foA; rw [sp_dec_t ⟨b_2, b_13, b_22⟩, xy.1.1, xy.1.2, yS, sp_dec_t b_72, ← w16, ← yf, if_neg c_38, if_neg c_38, ← w15])
                · obtain ⟨g1, w17, w18, ww⟩ := hh
                  refine ez_if_eq 125 dX6_foretell_75 (by decide) (fun c_75 => ?_) (fun c_75 => ?_)
                  · refine ez_iload dX6_foretell_125 rfl ?_
                    refine ez_ireturn (st := []) dX6_foretell_127 rfl ?_
                    first
                      | exact absurd c_82 c_38
                      | exact absurd c_38 c_82
                      | exact md_Q.in g1 (by unfold sp_foA; rw [sp_dec_t ⟨b_2, b_13, b_22⟩, xy.1.1, xy.1.2, yS, sp_dec_f b_72, if_pos c_38, Int.add_zero])
                      | exact md_Q.in g1 (by unfold sp_foA; rw [sp_dec_t ⟨b_2, b_13, b_22⟩, xy.1.1, xy.1.2, yS, sp_dec_f b_72, if_neg c_38, Int.add_zero])
                      | exact md_Q.in g1 (by unfold sp_foA; rw [sp_dec_t ⟨b_2, b_13, b_22⟩, xy.1.1, xy.1.2, yS, sp_dec_t b_72, ← w16, ← yf, if_pos c_38, if_pos c_38, ← w14])
                      | exact md_Q.in g1 (by unfold sp_foA; rw [sp_dec_t ⟨b_2, b_13, b_22⟩, xy.1.1, xy.1.2, yS, sp_dec_t b_72, ← w16, ← yf, if_neg c_38, if_neg c_38, ← w15])
                  · exact absurd c_75 (by decide)
            · exact absurd c_25 (by decide)
          · refine ez_if_ne 31 dX6_foretell_25 (by decide) (fun c_25 => ?_) (fun c_25 => ?_)
            · exact absurd c_25 (by decide)
            · refine ez_ldc (-100000) dX6_foretell_28 cn_X6_155 rfl (by decide) ?_
              refine ez_ireturn (st := []) dX6_foretell_30 rfl ?_
              first
                | exact md_Q.in (md_g.rf v) (sp_dec_f (fun q => b_22 q.2.2)).symm
                | exact md_Q.in (md_g.rf v) (sp_dec_f (fun q => b_13 q.2.1)).symm
                | exact md_Q.in (md_g.rf v) (sp_dec_f (fun q => b_2 q.1)).symm
      · refine ez_if_eq 28 dX6_foretell_16 (by decide) (fun c_16 => ?_) (fun c_16 => ?_)
        · refine ez_ldc (-100000) dX6_foretell_28 cn_X6_155 rfl (by decide) ?_
          refine ez_ireturn (st := []) dX6_foretell_30 rfl ?_
          first
            | exact md_Q.in (md_g.rf v) (sp_dec_f (fun q => b_22 q.2.2)).symm
            | exact md_Q.in (md_g.rf v) (sp_dec_f (fun q => b_13 q.2.1)).symm
            | exact md_Q.in (md_g.rf v) (sp_dec_f (fun q => b_2 q.1)).symm
        · exact absurd c_16 (by decide)
  · refine ez_if_eq 28 dX6_foretell_5 (by decide) (fun c_5 => ?_) (fun c_5 => ?_)
    · refine ez_ldc (-100000) dX6_foretell_28 cn_X6_155 rfl (by decide) ?_
      refine ez_ireturn (st := []) dX6_foretell_30 rfl ?_
      first
        | exact md_Q.in (md_g.rf v) (sp_dec_f (fun q => b_22 q.2.2)).symm
        | exact md_Q.in (md_g.rf v) (sp_dec_f (fun q => b_13 q.2.1)).symm
        | exact md_Q.in (md_g.rf v) (sp_dec_f (fun q => b_2 q.1)).symm
    · exact absurd c_5 (by decide)
/-- how many of the tracks 0 .. n - 1 are STILL; what they miss -/
noncomputable def sp_l4 (S : sp_S) : Nat → Int
  | 0 => 0
  | i + 1 => sp_l4 S i + sp_b (sp_la S i ≠ sp_f S ∧ sp_wx S i = 0 ∧ sp_wy S i = 0)
noncomputable def sp_l5 (S : sp_S) : Nat → Int
  | 0 => 0
  | i + 1 => sp_l5 S i + (S.1 - sp_sp S i)
noncomputable def sp_lkA (S : sp_S) (what : Int) : Int := if what = 0 then S.1 else if what = 1 then S.2.1 else if what = 2 then sp_f S else if what = 3 then sp_tr S else if what = 4 then sp_l4 S (sp_tr S).toNat else if what = 5 then sp_l5 S (sp_tr S).toNat else -1
theorem lp_k4 {h : ez_H} (v : md_V h) : ∀ (n : Nat) (i : Nat) (x : Int) (h' : ez_H), ((i : Int) ≤ sp_tr (md_S h)) → (md_g h h') → (x = sp_l4 (md_S h) i) → (0 ≤ x ∧ x ≤ i) → sp_tr (md_S h) - i < n → ez_En M_X6_look 62 [ez_R 121, ez_I 4, ez_I x, ez_I (i : Nat), ez_N] [] h' (md_Q h (sp_lkA (md_S h) 4)) := by
  intro n
  induction n with
  | zero =>
    intro i x h' i1 g ex xb hm
    exfalso
    omega
  | succ n ih =>
    intro i x h' i1 g ex xb hm
    have ht := md_trb v
    refine ez_iload_n dX6_look_62 rfl ?_
    refine ez_aload_n dX6_look_63 rfl ?_
    refine cl_X6_tracks dX6_look_64 ml_X6_113 ft_X6_look__X6_tracks (Nat.le_of_ble_eq_true rfl) (c_X6_tracks g.1) (ez_kF ?_)
    rw [g.2.1.S]
    refine ez_ic_ge 106 dX6_look_67 (by decide) (fun c_67 => ?_) (fun c_67 => ?_)
    · refine ez_iload_n dX6_look_106 rfl ?_
      refine ez_ireturn (st := []) dX6_look_107 rfl ?_
      exact md_Q.in g (by show _ = sp_l4 (md_S h) (sp_tr (md_S h)).toNat; rw [ex, show i = (sp_tr (md_S h)).toNat by omega])
    · refine ez_iload_n dX6_look_70 rfl ?_
      refine ez_aload_n dX6_look_71 rfl ?_
      refine ez_iload_n dX6_look_72 rfl ?_
      refine cl_X6_moves dX6_look_73 ml_X6_143 ft_X6_look__X6_moves (Nat.le_of_ble_eq_true rfl) (c_X6_moves (h := h') (i := i) g.1 (by rw [g.2.1.S]; omega)) (ez_kPB (fun h1 hh b_73 => ?_) (fun h1 hh b_73 => ?_))
      · obtain ⟨g1, w17, w18, ww⟩ := hh
        rw [g.2.1.S] at ww b_73
        have g2 := g.tr g1
        obtain ⟨w14, w15, w16, hr⟩ := ww b_73
        refine ez_if_eq 97 dX6_look_76 (by decide) (fun c_76 => ?_) (fun c_76 => ?_)
        · exact absurd c_76 (by decide)
        · refine ez_aload_n dX6_look_79 rfl ?_
          refine g6_14 dX6_look_80 fl_X6_134 ?_
          refine ez_if_ne 97 dX6_look_83 (by decide) (fun c_83 => ?_) (fun c_83 => ?_)
          · have hs1 : sp_l4 (md_S h) (i + 1) = x + 0 := by
              unfold sp_l4 sp_b
              rw [sp_dec_f (fun q => c_83 (w14.trans q.2.1)), ex]
            refine ez_iconst dX6_look_97 (by decide) ?_
            refine ez_iadd dX6_look_98 (by omega) ?_
            refine ez_istore_n dX6_look_99 (by decide) ?_
            refine ez_iinc dX6_look_100 rfl (by decide) (by decide) (by omega) ?_
            refine ez_goto 62 dX6_look_103 (by decide) ?_
            refine ez_lessS (L' := [ez_R 121, ez_I 4, ez_I (sp_l4 (md_S h) (i + 1)), ez_I ((i + 1 : Nat) : Int), ez_N]) ⟨Or.inr rfl, Or.inr rfl, Or.inr (congrArg ez_I hs1), Or.inr rfl, Or.inl rfl, trivial⟩ ?_
            exact ih (i + 1) _ h1 (by omega) g2 rfl (by rw [hs1]; omega) (by omega)
          · refine ez_aload_n dX6_look_86 rfl ?_
            refine g6_15 dX6_look_87 fl_X6_137 ?_
            refine ez_if_ne 97 dX6_look_90 (by decide) (fun c_90 => ?_) (fun c_90 => ?_)
            · have hs1 : sp_l4 (md_S h) (i + 1) = x + 0 := by
                unfold sp_l4 sp_b
                rw [sp_dec_f (fun q => c_90 (w15.trans q.2.2)), ex]
              refine ez_iconst dX6_look_97 (by decide) ?_
              refine ez_iadd dX6_look_98 (by omega) ?_
              refine ez_istore_n dX6_look_99 (by decide) ?_
              refine ez_iinc dX6_look_100 rfl (by decide) (by decide) (by omega) ?_
              refine ez_goto 62 dX6_look_103 (by decide) ?_
              refine ez_lessS (L' := [ez_R 121, ez_I 4, ez_I (sp_l4 (md_S h) (i + 1)), ez_I ((i + 1 : Nat) : Int), ez_N]) ⟨Or.inr rfl, Or.inr rfl, Or.inr (congrArg ez_I hs1), Or.inr rfl, Or.inl rfl, trivial⟩ ?_
              exact ih (i + 1) _ h1 (by omega) g2 rfl (by rw [hs1]; omega) (by omega)
            · have hs1 : sp_l4 (md_S h) (i + 1) = x + 1 := by
                unfold sp_l4 sp_b
                rw [sp_dec_t ⟨b_73, by omega, by omega⟩, ex]
              refine ez_iconst dX6_look_93 (by decide) ?_
              refine ez_goto 98 dX6_look_94 (by decide) ?_
              refine ez_iadd dX6_look_98 (by omega) ?_
              refine ez_istore_n dX6_look_99 (by decide) ?_
              refine ez_iinc dX6_look_100 rfl (by decide) (by decide) (by omega) ?_
              refine ez_goto 62 dX6_look_103 (by decide) ?_
              refine ez_lessS (L' := [ez_R 121, ez_I 4, ez_I (sp_l4 (md_S h) (i + 1)), ez_I ((i + 1 : Nat) : Int), ez_N]) ⟨Or.inr rfl, Or.inr rfl, Or.inr (congrArg ez_I hs1), Or.inr rfl, Or.inl rfl, trivial⟩ ?_
              exact ih (i + 1) _ h1 (by omega) g2 rfl (by rw [hs1]; omega) (by omega)
      · obtain ⟨g1, w17, w18, ww⟩ := hh
        rw [g.2.1.S] at ww b_73
        have g2 := g.tr g1
        have hs1 : sp_l4 (md_S h) (i + 1) = x + 0 := by
          unfold sp_l4 sp_b
          rw [sp_dec_f (fun q => b_73 q.1), ex]
        refine ez_if_eq 97 dX6_look_76 (by decide) (fun c_76 => ?_) (fun c_76 => ?_)
        · refine ez_iconst dX6_look_97 (by decide) ?_
          refine ez_iadd dX6_look_98 (by omega) ?_
          refine ez_istore_n dX6_look_99 (by decide) ?_
          refine ez_iinc dX6_look_100 rfl (by decide) (by decide) (by omega) ?_
          refine ez_goto 62 dX6_look_103 (by decide) ?_
          refine ez_lessS (L' := [ez_R 121, ez_I 4, ez_I (sp_l4 (md_S h) (i + 1)), ez_I ((i + 1 : Nat) : Int), ez_N]) ⟨Or.inr rfl, Or.inr rfl, Or.inr (congrArg ez_I hs1), Or.inr rfl, Or.inl rfl, trivial⟩ ?_
          exact ih (i + 1) _ h1 (by omega) g2 rfl (by rw [hs1]; omega) (by omega)
        · exact absurd c_76 (by decide)
theorem lp_k5 {h : ez_H} (v : md_V h) : ∀ (n : Nat) (i : Nat) (x : Int) (h' : ez_H), ((i : Int) ≤ sp_tr (md_S h)) → (md_g h h') → (x = sp_l5 (md_S h) i) → (0 ≤ x ∧ x ≤ 5 * i) → sp_tr (md_S h) - i < n → ez_En M_X6_look 110 [ez_R 121, ez_I 5, ez_I x, ez_I (i : Nat), ez_N] [] h' (md_Q h (sp_lkA (md_S h) 5)) := by
  intro n
  induction n with
  | zero =>
    intro i x h' i1 g ex xb hm
    exfalso
    omega
  | succ n ih =>
    intro i x h' i1 g ex xb hm
    have ht := md_trb v
    have v0 := v.1
    refine ez_iload_n dX6_look_110 rfl ?_
    refine ez_aload_n dX6_look_111 rfl ?_
    refine cl_X6_tracks dX6_look_112 ml_X6_113 ft_X6_look__X6_tracks (Nat.le_of_ble_eq_true rfl) (c_X6_tracks g.1) (ez_kF ?_)
    rw [g.2.1.S]
    refine ez_ic_ge 138 dX6_look_115 (by decide) (fun c_115 => ?_) (fun c_115 => ?_)
    · refine ez_iload_n dX6_look_138 rfl ?_
      refine ez_ireturn (st := []) dX6_look_139 rfl ?_
      exact md_Q.in g (by show _ = sp_l5 (md_S h) (sp_tr (md_S h)).toNat; rw [ex, show i = (sp_tr (md_S h)).toNat by omega])
    · refine ez_aload_n dX6_look_118 rfl ?_
      refine ez_iload_n dX6_look_119 rfl ?_
      refine cl_X6_moves dX6_look_120 ml_X6_143 ft_X6_look__X6_moves (Nat.le_of_ble_eq_true rfl) (c_X6_moves (h := h') (i := i) g.1 (by rw [g.2.1.S]; omega)) (ez_kPB (fun h1 hh b_120 => ?_) (fun h1 hh b_120 => ?_))
      · obtain ⟨g1, w17, w18, -⟩ := hh
        have g2 := g.tr g1
        have hla := (md_la (i := i) g.1 (by rw [g.n]; exact md_tr0 (i := i) (by omega))).2.1
        rw [g.2.1.S] at w18 hla
        have en := g.n
        have hs1 : sp_l5 (md_S h) (i + 1) = x + h1 121 18 := by
          unfold sp_l5
          rw [w18, ex]
          exact congrArg _ (by rw [g.n]; rfl)
        refine ez_istore dX6_look_123 (by decide) ?_
        refine ez_iload_n dX6_look_125 rfl ?_
        refine ez_aload_n dX6_look_126 rfl ?_
        refine g6_18 dX6_look_127 fl_X6_131 ?_
        refine ez_iadd dX6_look_130 (by omega) ?_
        refine ez_istore_n dX6_look_131 (by decide) ?_
        refine ez_iinc dX6_look_132 rfl (by decide) (by decide) (by omega) ?_
        refine ez_goto 110 dX6_look_135 (by decide) ?_
        refine ez_lessS (L' := [ez_R 121, ez_I 5, ez_I (sp_l5 (md_S h) (i + 1)), ez_I ((i + 1 : Nat) : Int), ez_N]) ⟨Or.inr rfl, Or.inr rfl, Or.inr (congrArg ez_I hs1), Or.inr rfl, Or.inl rfl, trivial⟩ ?_
        exact ih (i + 1) _ h1 (by omega) g2 rfl (by rw [hs1]; omega) (by omega)
      · obtain ⟨g1, w17, w18, -⟩ := hh
        have g2 := g.tr g1
        have hla := (md_la (i := i) g.1 (by rw [g.n]; exact md_tr0 (i := i) (by omega))).2.1
        rw [g.2.1.S] at w18 hla
        have en := g.n
        have hs1 : sp_l5 (md_S h) (i + 1) = x + h1 121 18 := by
          unfold sp_l5
          rw [w18, ex]
          exact congrArg _ (by rw [g.n]; rfl)
        refine ez_istore dX6_look_123 (by decide) ?_
        refine ez_iload_n dX6_look_125 rfl ?_
        refine ez_aload_n dX6_look_126 rfl ?_
        refine g6_18 dX6_look_127 fl_X6_131 ?_
        refine ez_iadd dX6_look_130 (by omega) ?_
        refine ez_istore_n dX6_look_131 (by decide) ?_
        refine ez_iinc dX6_look_132 rfl (by decide) (by decide) (by omega) ?_
        refine ez_goto 110 dX6_look_135 (by decide) ?_
        refine ez_lessS (L' := [ez_R 121, ez_I 5, ez_I (sp_l5 (md_S h) (i + 1)), ez_I ((i + 1 : Nat) : Int), ez_N]) ⟨Or.inr rfl, Or.inr rfl, Or.inr (congrArg ez_I hs1), Or.inr rfl, Or.inl rfl, trivial⟩ ?_
        exact ih (i + 1) _ h1 (by omega) g2 rfl (by rw [hs1]; omega) (by omega)
theorem c_X6_look {what : Int} {h : ez_H} (v : md_V h) : ez_Ct M_X6_look [ez_R 121, ez_I what] h (md_Q h (sp_lkA (md_S h) what)) := by
  have v0 := v.1
  have ht := md_trb v
  refine ez_of (by decide) (Nat.le_of_ble_eq_true rfl) (L0 := [ez_R 121, ez_I what, ez_N, ez_N, ez_N]) rfl ?_
  refine ez_iconst dX6_look_0 (by decide) ?_
  refine ez_istore_n dX6_look_1 (by decide) ?_
  refine ez_iload_n dX6_look_2 rfl ?_
  refine ez_ts6 40 45 50 55 60 108  140 dX6_look_3 (by decide) (fun c_3 => ?_) (fun c_3 => ?_) (fun c_3 => ?_) (fun c_3 => ?_) (fun c_3 => ?_) (fun c_3 => ?_) (fun c_3 => ?_)
  · refine ez_aload_n dX6_look_40 rfl ?_
    refine g6_0 dX6_look_41 fl_X6_48 ?_
    refine ez_ireturn (st := []) dX6_look_44 rfl ?_
    exact md_Q.in (md_g.rf v) (by rw [c_3]; rfl)
  · refine ez_aload_n dX6_look_45 rfl ?_
    refine g6_1 dX6_look_46 fl_X6_7 ?_
    refine ez_ireturn (st := []) dX6_look_49 rfl ?_
    exact md_Q.in (md_g.rf v) (by rw [c_3]; rfl)
  · refine ez_aload_n dX6_look_50 rfl ?_
    refine cl_X6_frame dX6_look_51 ml_X6_109 ft_X6_look__X6_frame (Nat.le_of_ble_eq_true rfl) (c_X6_frame v.1) (ez_kF ?_)
    refine ez_ireturn (st := []) dX6_look_54 rfl ?_
    exact md_Q.in (md_g.rf v) (by rw [c_3]; rfl)
  · refine ez_aload_n dX6_look_55 rfl ?_
    refine cl_X6_tracks dX6_look_56 ml_X6_113 ft_X6_look__X6_tracks (Nat.le_of_ble_eq_true rfl) (c_X6_tracks v) (ez_kF ?_)
    refine ez_ireturn (st := []) dX6_look_59 rfl ?_
    exact md_Q.in (md_g.rf v) (by rw [c_3]; rfl)
  · refine ez_iconst dX6_look_60 (by decide) ?_
    refine ez_istore_n dX6_look_61 (by decide) ?_
    subst c_3
    exact lp_k4 v ((sp_tr (md_S h)).toNat + 1) 0 0 h (by omega) (md_g.rf v) rfl (by omega) (by omega)
  · refine ez_iconst dX6_look_108 (by decide) ?_
    refine ez_istore_n dX6_look_109 (by decide) ?_
    subst c_3
    exact lp_k5 v ((sp_tr (md_S h)).toNat + 1) 0 0 h (by omega) (md_g.rf v) rfl (by omega) (by omega)
  · refine ez_iconst dX6_look_140 (by decide) ?_
    refine ez_ireturn (st := []) dX6_look_141 rfl ?_
    exact md_Q.in (md_g.rf v) (by unfold sp_lkA; rw [if_neg (by omega), if_neg (by omega), if_neg (by omega), if_neg (by omega), if_neg (by omega), if_neg (by omega)])
