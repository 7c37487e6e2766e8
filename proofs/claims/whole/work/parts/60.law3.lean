/-! the law's calls -/
theorem c5_wipe {p i : Int} {h : ez_H} (v : cd_V h) : ez_Ct M_X5_wipe [ez_R 0, ez_I p, ez_I i] h (ez_PI (fun h' z => cd_V h' ∧ cm_fr h h' ∧ ((sp_wiA (cd_S h) p i ∧ z = 1 ∧ cd_S h' = sp_wiS (cd_S h) p i) ∨ (¬ sp_wiA (cd_S h) p i ∧ z = 0 ∧ cd_S h' = cd_S h)))) :=
  (c_X5_wipe v).mono (fun h' r hr => by
    obtain ⟨⟨v1, f1, s1, s0⟩, ⟨a, rfl⟩ | ⟨a, rfl⟩⟩ := hr
    · exact ⟨1, rfl, v1, f1, Or.inl ⟨a, rfl, s1 a⟩⟩
    · exact ⟨0, rfl, v1, f1, Or.inr ⟨a, rfl, s0 a⟩⟩)
theorem c6_wipe {p i : Int} {h : ez_H} (v : md_V h) : ez_Ct M_X6_wipe [ez_R 121, ez_I p, ez_I i] h (ez_PI (fun h' z => md_V h' ∧ mo_fr h h' ∧ ((sp_wiA (md_S h) p i ∧ z = 1 ∧ md_S h' = sp_wiS (md_S h) p i) ∨ (¬ sp_wiA (md_S h) p i ∧ z = 0 ∧ md_S h' = md_S h)))) :=
  (c_X6_wipe v).mono (fun h' r hr => by
    obtain ⟨⟨v1, f1, s1, s0⟩, ⟨a, rfl⟩ | ⟨a, rfl⟩⟩ := hr
    · exact ⟨1, rfl, v1, f1, Or.inl ⟨a, rfl, s1 a⟩⟩
    · exact ⟨0, rfl, v1, f1, Or.inr ⟨a, rfl, s0 a⟩⟩)
theorem c5_reach {r : Int} {h : ez_H} (v : cd_V h) : ez_Ct M_X5_reach [ez_R 0, ez_I r] h (ez_PI (fun h' z => cd_V h' ∧ cm_fr h h' ∧ (((0 ≤ r ∧ r ≤ 50) ∧ z = 1 ∧ cd_S h' = sp_reS (cd_S h) r) ∨ (¬ (0 ≤ r ∧ r ≤ 50) ∧ z = 0 ∧ cd_S h' = cd_S h)))) :=
  (c_X5_reach v).mono (fun h' x hr => by
    obtain ⟨⟨v1, f1, s1⟩, ⟨a, rfl⟩ | ⟨a, rfl⟩⟩ := hr
    · exact ⟨1, rfl, v1, f1, Or.inl ⟨a, rfl, (s1.resolve_right (fun q => q.1 a)).2⟩⟩
    · exact ⟨0, rfl, v1, f1, Or.inr ⟨a, rfl, (s1.resolve_left (fun q => a q.1)).2⟩⟩)
theorem c6_reach {r : Int} {h : ez_H} (v : md_V h) : ez_Ct M_X6_reach [ez_R 121, ez_I r] h (ez_PI (fun h' z => md_V h' ∧ mo_fr h h' ∧ (((0 ≤ r ∧ r ≤ 50) ∧ z = 1 ∧ md_S h' = sp_reS (md_S h) r) ∨ (¬ (0 ≤ r ∧ r ≤ 50) ∧ z = 0 ∧ md_S h' = md_S h)))) :=
  (c_X6_reach v).mono (fun h' x hr => by
    obtain ⟨⟨v1, f1, s1⟩, ⟨a, rfl⟩ | ⟨a, rfl⟩⟩ := hr
    · exact ⟨1, rfl, v1, f1, Or.inl ⟨a, rfl, (s1.resolve_right (fun q => q.1 a)).2⟩⟩
    · exact ⟨0, rfl, v1, f1, Or.inr ⟨a, rfl, (s1.resolve_left (fun q => a q.1)).2⟩⟩)
theorem lw_ch {h1 h2 : ez_H} {A : Prop} {S S' : sp_S} {z1 z2 zt zt' zf : Int} (p5 : (A ∧ z1 = zt ∧ cd_S h1 = S') ∨ (¬ A ∧ z1 = zf ∧ cd_S h1 = S)) (p6 : (A ∧ z2 = zt' ∧ md_S h2 = S') ∨ (¬ A ∧ z2 = zf ∧ md_S h2 = S)) (ez : zt = zt') (v1 : cd_V h1) (f2 : mo_fr h1 h2) (v2 : md_V h2) : z1 = z2 ∧ lw_I h2 := by
  rcases p5 with ⟨a, b, c⟩ | ⟨a, b, c⟩
  · rcases p6 with ⟨a', b', c'⟩ | ⟨a', b', c'⟩
    · exact ⟨by omega, lw_c (h := h1) v1 f2 v2 c c'⟩
    · exact absurd a a'
  · rcases p6 with ⟨a', b', c'⟩ | ⟨a', b', c'⟩
    · exact absurd a' a
    · exact ⟨by omega, lw_c (h := h1) v1 f2 v2 c c'⟩
theorem lq_case0 {p : Program} {l : Launch} {e : Env} {s : State} {m : MethodId} {below : List Frame} {meth : Method} {c : Code} {b N : Nat} {xs : Nat → Int32} {G : ez_G} {ad : Nat → Nat} {h : ez_H} {i : Int} (C : lq_C p s m meth c b N xs G ad) (hN : N ≤ 2048) (I : lw_I h) (hi : 0 ≤ i ∧ i + 4 ≤ N) (kx : ∀ h2, lw_I h2 → lq_E p l e s m below meth c b G ad 596 [ez_R 201, ez_R 0, ez_R 121, ez_I i] [] h2) : lq_E p l e s m below meth c b G ad 104 [ez_R 201, ez_R 0, ez_R 121, ez_I i] [] h := by
  refine lq_aload_n C dL_law_104 rfl ?_
  refine lq_aload_n C dL_law_105 rfl ?_
  refine lq_iload_n C dL_law_106 rfl ?_
  refine lq_iconst C dL_law_107 (by decide) ?_
  refine lq_iadd C dL_law_108 (by omega) ?_
  refine lq_sld C (by omega) dL_law_109 ?_
  refine lq_call C (M := M_X5_plate) (o := 0) (As := [ez_I (lw_x xs (i + 1))]) (st := []) (h := h) (ci := 5) (n := 1) dL_law_110 om_X5_plate ⟨by decide, by decide, by decide⟩ ml_L_13 im_X5_plate se_X5_plate rfl (by decide) (by decide) (by decide) rfl (Nat.le_of_ble_eq_true rfl) (c_X5_plate I.1) (fun h1 r1 hr1 => ?_)
  obtain ⟨z1, rfl, v1, f1, p5⟩ := hr1
  have m1 := lw_m I f1
  refine lq_aload_n C dL_law_113 rfl ?_
  refine lq_aload_n C dL_law_114 rfl ?_
  refine lq_iload_n C dL_law_115 rfl ?_
  refine lq_iconst C dL_law_116 (by decide) ?_
  refine lq_iadd C dL_law_117 (by omega) ?_
  refine lq_sld C (by omega) dL_law_118 ?_
  refine lq_call C (M := M_X6_plate) (o := 121) (As := [ez_I (lw_x xs (i + 1))]) (st := [ez_I z1]) (h := h1) (ci := 6) (n := 1) dL_law_119 om_X6_plate ⟨by decide, by decide, by decide⟩ ml_L_17 im_X6_plate se_X6_plate rfl (by decide) (by decide) (by decide) rfl (Nat.le_of_ble_eq_true rfl) (c_X6_plate m1.1) (fun h2 r2 hr2 => ?_)
  obtain ⟨z2, rfl, v2, f2, p6⟩ := hr2
  rw [m1.2] at p6
  have zz := lw_ch p5 p6 (congrArg Prod.fst m1.2).symm v1 f2 v2
  refine lq_ic_eq C 596 dL_law_122 (by decide) zz.1 ?_
  exact kx h2 zz.2
theorem lq_case1 {p : Program} {l : Launch} {e : Env} {s : State} {m : MethodId} {below : List Frame} {meth : Method} {c : Code} {b N : Nat} {xs : Nat → Int32} {G : ez_G} {ad : Nat → Nat} {h : ez_H} {i : Int} (C : lq_C p s m meth c b N xs G ad) (hN : N ≤ 2048) (I : lw_I h) (hi : 0 ≤ i ∧ i + 4 ≤ N) (kx : ∀ h2, lw_I h2 → lq_E p l e s m below meth c b G ad 596 [ez_R 201, ez_R 0, ez_R 121, ez_I i] [] h2) : lq_E p l e s m below meth c b G ad 127 [ez_R 201, ez_R 0, ez_R 121, ez_I i] [] h := by
  refine lq_aload_n C dL_law_127 rfl ?_
  refine lq_aload_n C dL_law_128 rfl ?_
  refine lq_iload_n C dL_law_129 rfl ?_
  refine lq_iconst C dL_law_130 (by decide) ?_
  refine lq_iadd C dL_law_131 (by omega) ?_
  refine lq_sld C (by omega) dL_law_132 ?_
  refine lq_aload_n C dL_law_133 rfl ?_
  refine lq_iload_n C dL_law_134 rfl ?_
  refine lq_iconst C dL_law_135 (by decide) ?_
  refine lq_iadd C dL_law_136 (by omega) ?_
  refine lq_sld C (by omega) dL_law_137 ?_
  refine lq_aload_n C dL_law_138 rfl ?_
  refine lq_iload_n C dL_law_139 rfl ?_
  refine lq_iconst C dL_law_140 (by decide) ?_
  refine lq_iadd C dL_law_141 (by omega) ?_
  refine lq_sld C (by omega) dL_law_142 ?_
  refine lq_call C (M := M_X5_spot) (o := 0) (As := [ez_I (lw_x xs (i + 1)), ez_I (lw_x xs (i + 2)), ez_I (lw_x xs (i + 3))]) (st := []) (h := h) (ci := 5) (n := 3) dL_law_143 om_X5_spot ⟨by decide, by decide, by decide⟩ ml_L_18 im_X5_spot se_X5_spot rfl (by decide) (by decide) (by decide) rfl (Nat.le_of_ble_eq_true rfl) (c_X5_spot I.1) (fun h1 r1 hr1 => ?_)
  obtain ⟨z1, rfl, v1, f1, p5⟩ := hr1
  have m1 := lw_m I f1
  refine lq_aload_n C dL_law_146 rfl ?_
  refine lq_aload_n C dL_law_147 rfl ?_
  refine lq_iload_n C dL_law_148 rfl ?_
  refine lq_iconst C dL_law_149 (by decide) ?_
  refine lq_iadd C dL_law_150 (by omega) ?_
  refine lq_sld C (by omega) dL_law_151 ?_
  refine lq_aload_n C dL_law_152 rfl ?_
  refine lq_iload_n C dL_law_153 rfl ?_
  refine lq_iconst C dL_law_154 (by decide) ?_
  refine lq_iadd C dL_law_155 (by omega) ?_
  refine lq_sld C (by omega) dL_law_156 ?_
  refine lq_aload_n C dL_law_157 rfl ?_
  refine lq_iload_n C dL_law_158 rfl ?_
  refine lq_iconst C dL_law_159 (by decide) ?_
  refine lq_iadd C dL_law_160 (by omega) ?_
  refine lq_sld C (by omega) dL_law_161 ?_
  refine lq_call C (M := M_X6_spot) (o := 121) (As := [ez_I (lw_x xs (i + 1)), ez_I (lw_x xs (i + 2)), ez_I (lw_x xs (i + 3))]) (st := [ez_I z1]) (h := h1) (ci := 6) (n := 3) dL_law_162 om_X6_spot ⟨by decide, by decide, by decide⟩ ml_L_22 im_X6_spot se_X6_spot rfl (by decide) (by decide) (by decide) rfl (Nat.le_of_ble_eq_true rfl) (c_X6_spot m1.1) (fun h2 r2 hr2 => ?_)
  obtain ⟨z2, rfl, v2, f2, p6⟩ := hr2
  rw [m1.2] at p6
  have zz := lw_ch p5 p6 rfl v1 f2 v2
  refine lq_ic_eq C 596 dL_law_165 (by decide) zz.1 ?_
  exact kx h2 zz.2
theorem lq_case2 {p : Program} {l : Launch} {e : Env} {s : State} {m : MethodId} {below : List Frame} {meth : Method} {c : Code} {b N : Nat} {xs : Nat → Int32} {G : ez_G} {ad : Nat → Nat} {h : ez_H} {i : Int} (C : lq_C p s m meth c b N xs G ad) (hN : N ≤ 2048) (I : lw_I h) (hi : 0 ≤ i ∧ i + 4 ≤ N) (kx : ∀ h2, lw_I h2 → lq_E p l e s m below meth c b G ad 596 [ez_R 201, ez_R 0, ez_R 121, ez_I i] [] h2) : lq_E p l e s m below meth c b G ad 170 [ez_R 201, ez_R 0, ez_R 121, ez_I i] [] h := by
  refine lq_aload_n C dL_law_170 rfl ?_
  refine lq_aload_n C dL_law_171 rfl ?_
  refine lq_iload_n C dL_law_172 rfl ?_
  refine lq_iconst C dL_law_173 (by decide) ?_
  refine lq_iadd C dL_law_174 (by omega) ?_
  refine lq_sld C (by omega) dL_law_175 ?_
  refine lq_aload_n C dL_law_176 rfl ?_
  refine lq_iload_n C dL_law_177 rfl ?_
  refine lq_iconst C dL_law_178 (by decide) ?_
  refine lq_iadd C dL_law_179 (by omega) ?_
  refine lq_sld C (by omega) dL_law_180 ?_
  refine lq_call C (M := M_X5_wipe) (o := 0) (As := [ez_I (lw_x xs (i + 1)), ez_I (lw_x xs (i + 2))]) (st := []) (h := h) (ci := 5) (n := 2) dL_law_181 om_X5_wipe ⟨by decide, by decide, by decide⟩ ml_L_23 im_X5_wipe se_X5_wipe rfl (by decide) (by decide) (by decide) rfl (Nat.le_of_ble_eq_true rfl) (c5_wipe I.1) (fun h1 r1 hr1 => ?_)
  obtain ⟨z1, rfl, v1, f1, p5⟩ := hr1
  have m1 := lw_m I f1
  refine lq_aload_n C dL_law_184 rfl ?_
  refine lq_aload_n C dL_law_185 rfl ?_
  refine lq_iload_n C dL_law_186 rfl ?_
  refine lq_iconst C dL_law_187 (by decide) ?_
  refine lq_iadd C dL_law_188 (by omega) ?_
  refine lq_sld C (by omega) dL_law_189 ?_
  refine lq_aload_n C dL_law_190 rfl ?_
  refine lq_iload_n C dL_law_191 rfl ?_
  refine lq_iconst C dL_law_192 (by decide) ?_
  refine lq_iadd C dL_law_193 (by omega) ?_
  refine lq_sld C (by omega) dL_law_194 ?_
  refine lq_call C (M := M_X6_wipe) (o := 121) (As := [ez_I (lw_x xs (i + 1)), ez_I (lw_x xs (i + 2))]) (st := [ez_I z1]) (h := h1) (ci := 6) (n := 2) dL_law_195 om_X6_wipe ⟨by decide, by decide, by decide⟩ ml_L_27 im_X6_wipe se_X6_wipe rfl (by decide) (by decide) (by decide) rfl (Nat.le_of_ble_eq_true rfl) (c6_wipe m1.1) (fun h2 r2 hr2 => ?_)
  obtain ⟨z2, rfl, v2, f2, p6⟩ := hr2
  rw [m1.2] at p6
  have zz := lw_ch p5 p6 rfl v1 f2 v2
  refine lq_ic_eq C 596 dL_law_198 (by decide) zz.1 ?_
  exact kx h2 zz.2
theorem lq_case3 {p : Program} {l : Launch} {e : Env} {s : State} {m : MethodId} {below : List Frame} {meth : Method} {c : Code} {b N : Nat} {xs : Nat → Int32} {G : ez_G} {ad : Nat → Nat} {h : ez_H} {i : Int} (C : lq_C p s m meth c b N xs G ad) (hN : N ≤ 2048) (I : lw_I h) (hi : 0 ≤ i ∧ i + 4 ≤ N) (kx : ∀ h2, lw_I h2 → lq_E p l e s m below meth c b G ad 596 [ez_R 201, ez_R 0, ez_R 121, ez_I i] [] h2) : lq_E p l e s m below meth c b G ad 203 [ez_R 201, ez_R 0, ez_R 121, ez_I i] [] h := by
  refine lq_aload_n C dL_law_203 rfl ?_
  refine lq_aload_n C dL_law_204 rfl ?_
  refine lq_iload_n C dL_law_205 rfl ?_
  refine lq_iconst C dL_law_206 (by decide) ?_
  refine lq_iadd C dL_law_207 (by omega) ?_
  refine lq_sld C (by omega) dL_law_208 ?_
  refine lq_call C (M := M_X5_reach) (o := 0) (As := [ez_I (lw_x xs (i + 1))]) (st := []) (h := h) (ci := 5) (n := 1) dL_law_209 om_X5_reach ⟨by decide, by decide, by decide⟩ ml_L_28 im_X5_reach se_X5_reach rfl (by decide) (by decide) (by decide) rfl (Nat.le_of_ble_eq_true rfl) (c5_reach I.1) (fun h1 r1 hr1 => ?_)
  obtain ⟨z1, rfl, v1, f1, p5⟩ := hr1
  have m1 := lw_m I f1
  refine lq_aload_n C dL_law_212 rfl ?_
  refine lq_aload_n C dL_law_213 rfl ?_
  refine lq_iload_n C dL_law_214 rfl ?_
  refine lq_iconst C dL_law_215 (by decide) ?_
  refine lq_iadd C dL_law_216 (by omega) ?_
  refine lq_sld C (by omega) dL_law_217 ?_
  refine lq_call C (M := M_X6_reach) (o := 121) (As := [ez_I (lw_x xs (i + 1))]) (st := [ez_I z1]) (h := h1) (ci := 6) (n := 1) dL_law_218 om_X6_reach ⟨by decide, by decide, by decide⟩ ml_L_32 im_X6_reach se_X6_reach rfl (by decide) (by decide) (by decide) rfl (Nat.le_of_ble_eq_true rfl) (c6_reach m1.1) (fun h2 r2 hr2 => ?_)
  obtain ⟨z2, rfl, v2, f2, p6⟩ := hr2
  rw [m1.2] at p6
  have zz := lw_ch p5 p6 rfl v1 f2 v2
  refine lq_ic_eq C 596 dL_law_221 (by decide) zz.1 ?_
  exact kx h2 zz.2
theorem lq_case4 {p : Program} {l : Launch} {e : Env} {s : State} {m : MethodId} {below : List Frame} {meth : Method} {c : Code} {b N : Nat} {xs : Nat → Int32} {G : ez_G} {ad : Nat → Nat} {h : ez_H} {i : Int} (C : lq_C p s m meth c b N xs G ad) (hN : N ≤ 2048) (I : lw_I h) (hi : 0 ≤ i ∧ i + 4 ≤ N) (kx : ∀ h2, lw_I h2 → lq_E p l e s m below meth c b G ad 596 [ez_R 201, ez_R 0, ez_R 121, ez_I i] [] h2) : lq_E p l e s m below meth c b G ad 226 [ez_R 201, ez_R 0, ez_R 121, ez_I i] [] h := by
  refine lq_aload_n C dL_law_226 rfl ?_
  refine lq_aload_n C dL_law_227 rfl ?_
  refine lq_iload_n C dL_law_228 rfl ?_
  refine lq_iconst C dL_law_229 (by decide) ?_
  refine lq_iadd C dL_law_230 (by omega) ?_
  refine lq_sld C (by omega) dL_law_231 ?_
  refine lq_call C (M := M_X5_look) (o := 0) (As := [ez_I (lw_x xs (i + 1))]) (st := []) (h := h) (ci := 5) (n := 1) dL_law_232 om_X5_look ⟨by decide, by decide, by decide⟩ ml_L_33 im_X5_look se_X5_look rfl (by decide) (by decide) (by decide) rfl (Nat.le_of_ble_eq_true rfl) (c_X5_look I.1) (fun h1 r1 hr1 => ?_)
  obtain ⟨z1, rfl, g1, e1⟩ := hr1
  have m1 := lw_m I (fun o k a => g1.2 o k (by omega) (by omega))
  refine lq_aload_n C dL_law_235 rfl ?_
  refine lq_aload_n C dL_law_236 rfl ?_
  refine lq_iload_n C dL_law_237 rfl ?_
  refine lq_iconst C dL_law_238 (by decide) ?_
  refine lq_iadd C dL_law_239 (by omega) ?_
  refine lq_sld C (by omega) dL_law_240 ?_
  refine lq_call C (M := M_X6_look) (o := 121) (As := [ez_I (lw_x xs (i + 1))]) (st := [ez_I z1]) (h := h1) (ci := 6) (n := 1) dL_law_241 om_X6_look ⟨by decide, by decide, by decide⟩ ml_L_36 im_X6_look se_X6_look rfl (by decide) (by decide) (by decide) rfl (Nat.le_of_ble_eq_true rfl) (c_X6_look m1.1) (fun h2 r2 hr2 => ?_)
  obtain ⟨z2, rfl, g2, e2⟩ := hr2
  have zz : z1 = z2 ∧ lw_I h2 := ⟨by rw [e1, e2, m1.2], lw_q I g1 g2⟩
  refine lq_ic_eq C 596 dL_law_244 (by decide) zz.1 ?_
  exact kx h2 zz.2
theorem lq_case5 {p : Program} {l : Launch} {e : Env} {s : State} {m : MethodId} {below : List Frame} {meth : Method} {c : Code} {b N : Nat} {xs : Nat → Int32} {G : ez_G} {ad : Nat → Nat} {h : ez_H} {i : Int} (C : lq_C p s m meth c b N xs G ad) (hN : N ≤ 2048) (I : lw_I h) (hi : 0 ≤ i ∧ i + 4 ≤ N) (kx : ∀ h2, lw_I h2 → lq_E p l e s m below meth c b G ad 596 [ez_R 201, ez_R 0, ez_R 121, ez_I i] [] h2) : lq_E p l e s m below meth c b G ad 249 [ez_R 201, ez_R 0, ez_R 121, ez_I i] [] h := by
  refine lq_aload_n C dL_law_249 rfl ?_
  refine lq_aload_n C dL_law_250 rfl ?_
  refine lq_iload_n C dL_law_251 rfl ?_
  refine lq_iconst C dL_law_252 (by decide) ?_
  refine lq_iadd C dL_law_253 (by omega) ?_
  refine lq_sld C (by omega) dL_law_254 ?_
  refine lq_aload_n C dL_law_255 rfl ?_
  refine lq_iload_n C dL_law_256 rfl ?_
  refine lq_iconst C dL_law_257 (by decide) ?_
  refine lq_iadd C dL_law_258 (by omega) ?_
  refine lq_sld C (by omega) dL_law_259 ?_
  refine lq_call C (M := M_X5_of) (o := 0) (As := [ez_I (lw_x xs (i + 1)), ez_I (lw_x xs (i + 2))]) (st := []) (h := h) (ci := 5) (n := 2) dL_law_260 om_X5_of ⟨by decide, by decide, by decide⟩ ml_L_37 im_X5_of se_X5_of rfl (by decide) (by decide) (by decide) rfl (Nat.le_of_ble_eq_true rfl) (c_X5_of I.1) (fun h1 r1 hr1 => ?_)
  obtain ⟨z1, rfl, g1, e1⟩ := hr1
  have m1 := lw_m I (fun o k a => g1.2 o k (by omega) (by omega))
  refine lq_aload_n C dL_law_263 rfl ?_
  refine lq_aload_n C dL_law_264 rfl ?_
  refine lq_iload_n C dL_law_265 rfl ?_
  refine lq_iconst C dL_law_266 (by decide) ?_
  refine lq_iadd C dL_law_267 (by omega) ?_
  refine lq_sld C (by omega) dL_law_268 ?_
  refine lq_aload_n C dL_law_269 rfl ?_
  refine lq_iload_n C dL_law_270 rfl ?_
  refine lq_iconst C dL_law_271 (by decide) ?_
  refine lq_iadd C dL_law_272 (by omega) ?_
  refine lq_sld C (by omega) dL_law_273 ?_
  refine lq_call C (M := M_X6_of) (o := 121) (As := [ez_I (lw_x xs (i + 1)), ez_I (lw_x xs (i + 2))]) (st := [ez_I z1]) (h := h1) (ci := 6) (n := 2) dL_law_274 om_X6_of ⟨by decide, by decide, by decide⟩ ml_L_41 im_X6_of se_X6_of rfl (by decide) (by decide) (by decide) rfl (Nat.le_of_ble_eq_true rfl) (c_X6_of m1.1) (fun h2 r2 hr2 => ?_)
  obtain ⟨z2, rfl, g2, e2⟩ := hr2
  have zz : z1 = z2 ∧ lw_I h2 := ⟨by rw [e1, e2, m1.2], lw_q I g1 g2⟩
  refine lq_ic_eq C 596 dL_law_277 (by decide) zz.1 ?_
  exact kx h2 zz.2
theorem lq_case6 {p : Program} {l : Launch} {e : Env} {s : State} {m : MethodId} {below : List Frame} {meth : Method} {c : Code} {b N : Nat} {xs : Nat → Int32} {G : ez_G} {ad : Nat → Nat} {h : ez_H} {i : Int} (C : lq_C p s m meth c b N xs G ad) (hN : N ≤ 2048) (I : lw_I h) (hi : 0 ≤ i ∧ i + 4 ≤ N) (kx : ∀ h2, lw_I h2 → lq_E p l e s m below meth c b G ad 596 [ez_R 201, ez_R 0, ez_R 121, ez_I i] [] h2) : lq_E p l e s m below meth c b G ad 282 [ez_R 201, ez_R 0, ez_R 121, ez_I i] [] h := by
  refine lq_aload_n C dL_law_282 rfl ?_
  refine lq_aload_n C dL_law_283 rfl ?_
  refine lq_iload_n C dL_law_284 rfl ?_
  refine lq_iconst C dL_law_285 (by decide) ?_
  refine lq_iadd C dL_law_286 (by omega) ?_
  refine lq_sld C (by omega) dL_law_287 ?_
  refine lq_aload_n C dL_law_288 rfl ?_
  refine lq_iload_n C dL_law_289 rfl ?_
  refine lq_iconst C dL_law_290 (by decide) ?_
  refine lq_iadd C dL_law_291 (by omega) ?_
  refine lq_sld C (by omega) dL_law_292 ?_
  refine lq_aload_n C dL_law_293 rfl ?_
  refine lq_iload_n C dL_law_294 rfl ?_
  refine lq_iconst C dL_law_295 (by decide) ?_
  refine lq_iadd C dL_law_296 (by omega) ?_
  refine lq_sld C (by omega) dL_law_297 ?_
  refine lq_call C (M := M_X5_lay) (o := 0) (As := [ez_I (lw_x xs (i + 1)), ez_I (lw_x xs (i + 2)), ez_I (lw_x xs (i + 3))]) (st := []) (h := h) (ci := 5) (n := 3) dL_law_298 om_X5_lay ⟨by decide, by decide, by decide⟩ ml_L_42 im_X5_lay se_X5_lay rfl (by decide) (by decide) (by decide) rfl (Nat.le_of_ble_eq_true rfl) (c_X5_lay I.1) (fun h1 r1 hr1 => ?_)
  obtain ⟨z1, rfl, g1, e1⟩ := hr1
  have m1 := lw_m I (fun o k a => g1.2 o k (by omega) (by omega))
  refine lq_aload_n C dL_law_301 rfl ?_
  refine lq_aload_n C dL_law_302 rfl ?_
  refine lq_iload_n C dL_law_303 rfl ?_
  refine lq_iconst C dL_law_304 (by decide) ?_
  refine lq_iadd C dL_law_305 (by omega) ?_
  refine lq_sld C (by omega) dL_law_306 ?_
  refine lq_aload_n C dL_law_307 rfl ?_
  refine lq_iload_n C dL_law_308 rfl ?_
  refine lq_iconst C dL_law_309 (by decide) ?_
  refine lq_iadd C dL_law_310 (by omega) ?_
  refine lq_sld C (by omega) dL_law_311 ?_
  refine lq_aload_n C dL_law_312 rfl ?_
  refine lq_iload_n C dL_law_313 rfl ?_
  refine lq_iconst C dL_law_314 (by decide) ?_
  refine lq_iadd C dL_law_315 (by omega) ?_
  refine lq_sld C (by omega) dL_law_316 ?_
  refine lq_call C (M := M_X6_lay) (o := 121) (As := [ez_I (lw_x xs (i + 1)), ez_I (lw_x xs (i + 2)), ez_I (lw_x xs (i + 3))]) (st := [ez_I z1]) (h := h1) (ci := 6) (n := 3) dL_law_317 om_X6_lay ⟨by decide, by decide, by decide⟩ ml_L_45 im_X6_lay se_X6_lay rfl (by decide) (by decide) (by decide) rfl (Nat.le_of_ble_eq_true rfl) (c_X6_lay m1.1) (fun h2 r2 hr2 => ?_)
  obtain ⟨z2, rfl, g2, e2⟩ := hr2
  have zz : z1 = z2 ∧ lw_I h2 := ⟨by rw [e1, e2, m1.2], lw_q I g1 g2⟩
  refine lq_ic_eq C 596 dL_law_320 (by decide) zz.1 ?_
  exact kx h2 zz.2
theorem lq_case7 {p : Program} {l : Launch} {e : Env} {s : State} {m : MethodId} {below : List Frame} {meth : Method} {c : Code} {b N : Nat} {xs : Nat → Int32} {G : ez_G} {ad : Nat → Nat} {h : ez_H} {i : Int} (C : lq_C p s m meth c b N xs G ad) (hN : N ≤ 2048) (I : lw_I h) (hi : 0 ≤ i ∧ i + 4 ≤ N) (kx : ∀ h2, lw_I h2 → lq_E p l e s m below meth c b G ad 596 [ez_R 201, ez_R 0, ez_R 121, ez_I i] [] h2) : lq_E p l e s m below meth c b G ad 325 [ez_R 201, ez_R 0, ez_R 121, ez_I i] [] h := by
  refine lq_aload_n C dL_law_325 rfl ?_
  refine lq_aload_n C dL_law_326 rfl ?_
  refine lq_iload_n C dL_law_327 rfl ?_
  refine lq_iconst C dL_law_328 (by decide) ?_
  refine lq_iadd C dL_law_329 (by omega) ?_
  refine lq_sld C (by omega) dL_law_330 ?_
  refine lq_aload_n C dL_law_331 rfl ?_
  refine lq_iload_n C dL_law_332 rfl ?_
  refine lq_iconst C dL_law_333 (by decide) ?_
  refine lq_iadd C dL_law_334 (by omega) ?_
  refine lq_sld C (by omega) dL_law_335 ?_
  refine lq_aload_n C dL_law_336 rfl ?_
  refine lq_iload_n C dL_law_337 rfl ?_
  refine lq_iconst C dL_law_338 (by decide) ?_
  refine lq_iadd C dL_law_339 (by omega) ?_
  refine lq_sld C (by omega) dL_law_340 ?_
  refine lq_call C (M := M_X5_pair) (o := 0) (As := [ez_I (lw_x xs (i + 1)), ez_I (lw_x xs (i + 2)), ez_I (lw_x xs (i + 3))]) (st := []) (h := h) (ci := 5) (n := 3) dL_law_341 om_X5_pair ⟨by decide, by decide, by decide⟩ ml_L_46 im_X5_pair se_X5_pair rfl (by decide) (by decide) (by decide) rfl (Nat.le_of_ble_eq_true rfl) (c_X5_pair I.1) (fun h1 r1 hr1 => ?_)
  obtain ⟨z1, rfl, g1, e1⟩ := hr1
  have m1 := lw_m I (fun o k a => g1.2 o k (by omega) (by omega))
  refine lq_aload_n C dL_law_344 rfl ?_
  refine lq_aload_n C dL_law_345 rfl ?_
  refine lq_iload_n C dL_law_346 rfl ?_
  refine lq_iconst C dL_law_347 (by decide) ?_
  refine lq_iadd C dL_law_348 (by omega) ?_
  refine lq_sld C (by omega) dL_law_349 ?_
  refine lq_aload_n C dL_law_350 rfl ?_
  refine lq_iload_n C dL_law_351 rfl ?_
  refine lq_iconst C dL_law_352 (by decide) ?_
  refine lq_iadd C dL_law_353 (by omega) ?_
  refine lq_sld C (by omega) dL_law_354 ?_
  refine lq_aload_n C dL_law_355 rfl ?_
  refine lq_iload_n C dL_law_356 rfl ?_
  refine lq_iconst C dL_law_357 (by decide) ?_
  refine lq_iadd C dL_law_358 (by omega) ?_
  refine lq_sld C (by omega) dL_law_359 ?_
  refine lq_call C (M := M_X6_pair) (o := 121) (As := [ez_I (lw_x xs (i + 1)), ez_I (lw_x xs (i + 2)), ez_I (lw_x xs (i + 3))]) (st := [ez_I z1]) (h := h1) (ci := 6) (n := 3) dL_law_360 om_X6_pair ⟨by decide, by decide, by decide⟩ ml_L_49 im_X6_pair se_X6_pair rfl (by decide) (by decide) (by decide) rfl (Nat.le_of_ble_eq_true rfl) (c_X6_pair m1.1) (fun h2 r2 hr2 => ?_)
  obtain ⟨z2, rfl, g2, e2⟩ := hr2
  have zz : z1 = z2 ∧ lw_I h2 := ⟨by rw [e1, e2, m1.2], lw_q I g1 g2⟩
  refine lq_ic_eq C 596 dL_law_363 (by decide) zz.1 ?_
  exact kx h2 zz.2
theorem lq_case8 {p : Program} {l : Launch} {e : Env} {s : State} {m : MethodId} {below : List Frame} {meth : Method} {c : Code} {b N : Nat} {xs : Nat → Int32} {G : ez_G} {ad : Nat → Nat} {h : ez_H} {i : Int} (C : lq_C p s m meth c b N xs G ad) (hN : N ≤ 2048) (I : lw_I h) (hi : 0 ≤ i ∧ i + 4 ≤ N) (kx : ∀ h2, lw_I h2 → lq_E p l e s m below meth c b G ad 596 [ez_R 201, ez_R 0, ez_R 121, ez_I i] [] h2) : lq_E p l e s m below meth c b G ad 368 [ez_R 201, ez_R 0, ez_R 121, ez_I i] [] h := by
  refine lq_aload_n C dL_law_368 rfl ?_
  refine lq_aload_n C dL_law_369 rfl ?_
  refine lq_iload_n C dL_law_370 rfl ?_
  refine lq_iconst C dL_law_371 (by decide) ?_
  refine lq_iadd C dL_law_372 (by omega) ?_
  refine lq_sld C (by omega) dL_law_373 ?_
  refine lq_aload_n C dL_law_374 rfl ?_
  refine lq_iload_n C dL_law_375 rfl ?_
  refine lq_iconst C dL_law_376 (by decide) ?_
  refine lq_iadd C dL_law_377 (by omega) ?_
  refine lq_sld C (by omega) dL_law_378 ?_
  refine lq_call C (M := M_X5_track) (o := 0) (As := [ez_I (lw_x xs (i + 1)), ez_I (lw_x xs (i + 2))]) (st := []) (h := h) (ci := 5) (n := 2) dL_law_379 om_X5_track ⟨by decide, by decide, by decide⟩ ml_L_50 im_X5_track se_X5_track rfl (by decide) (by decide) (by decide) rfl (Nat.le_of_ble_eq_true rfl) (c_X5_track I.1) (fun h1 r1 hr1 => ?_)
  obtain ⟨z1, rfl, g1, e1⟩ := hr1
  have m1 := lw_m I (fun o k a => g1.2 o k (by omega) (by omega))
  refine lq_aload_n C dL_law_382 rfl ?_
  refine lq_aload_n C dL_law_383 rfl ?_
  refine lq_iload_n C dL_law_384 rfl ?_
  refine lq_iconst C dL_law_385 (by decide) ?_
  refine lq_iadd C dL_law_386 (by omega) ?_
  refine lq_sld C (by omega) dL_law_387 ?_
  refine lq_aload_n C dL_law_388 rfl ?_
  refine lq_iload_n C dL_law_389 rfl ?_
  refine lq_iconst C dL_law_390 (by decide) ?_
  refine lq_iadd C dL_law_391 (by omega) ?_
  refine lq_sld C (by omega) dL_law_392 ?_
  refine lq_call C (M := M_X6_track) (o := 121) (As := [ez_I (lw_x xs (i + 1)), ez_I (lw_x xs (i + 2))]) (st := [ez_I z1]) (h := h1) (ci := 6) (n := 2) dL_law_393 om_X6_track ⟨by decide, by decide, by decide⟩ ml_L_53 im_X6_track se_X6_track rfl (by decide) (by decide) (by decide) rfl (Nat.le_of_ble_eq_true rfl) (c_X6_track m1.1) (fun h2 r2 hr2 => ?_)
  obtain ⟨z2, rfl, g2, e2⟩ := hr2
  have zz : z1 = z2 ∧ lw_I h2 := ⟨by rw [e1, e2, m1.2], lw_q I g1 g2⟩
  refine lq_ic_eq C 596 dL_law_396 (by decide) zz.1 ?_
  exact kx h2 zz.2
theorem lq_case9 {p : Program} {l : Launch} {e : Env} {s : State} {m : MethodId} {below : List Frame} {meth : Method} {c : Code} {b N : Nat} {xs : Nat → Int32} {G : ez_G} {ad : Nat → Nat} {h : ez_H} {i : Int} (C : lq_C p s m meth c b N xs G ad) (hN : N ≤ 2048) (I : lw_I h) (hi : 0 ≤ i ∧ i + 4 ≤ N) (kx : ∀ h2, lw_I h2 → lq_E p l e s m below meth c b G ad 596 [ez_R 201, ez_R 0, ez_R 121, ez_I i] [] h2) : lq_E p l e s m below meth c b G ad 401 [ez_R 201, ez_R 0, ez_R 121, ez_I i] [] h := by
  refine lq_aload_n C dL_law_401 rfl ?_
  refine lq_aload_n C dL_law_402 rfl ?_
  refine lq_iload_n C dL_law_403 rfl ?_
  refine lq_iconst C dL_law_404 (by decide) ?_
  refine lq_iadd C dL_law_405 (by omega) ?_
  refine lq_sld C (by omega) dL_law_406 ?_
  refine lq_aload_n C dL_law_407 rfl ?_
  refine lq_iload_n C dL_law_408 rfl ?_
  refine lq_iconst C dL_law_409 (by decide) ?_
  refine lq_iadd C dL_law_410 (by omega) ?_
  refine lq_sld C (by omega) dL_law_411 ?_
  refine lq_aload_n C dL_law_412 rfl ?_
  refine lq_iload_n C dL_law_413 rfl ?_
  refine lq_iconst C dL_law_414 (by decide) ?_
  refine lq_iadd C dL_law_415 (by omega) ?_
  refine lq_sld C (by omega) dL_law_416 ?_
  refine lq_call C (M := M_X5_place) (o := 0) (As := [ez_I (lw_x xs (i + 1)), ez_I (lw_x xs (i + 2)), ez_I (lw_x xs (i + 3))]) (st := []) (h := h) (ci := 5) (n := 3) dL_law_417 om_X5_place ⟨by decide, by decide, by decide⟩ ml_L_54 im_X5_place se_X5_place rfl (by decide) (by decide) (by decide) rfl (Nat.le_of_ble_eq_true rfl) (c_X5_place I.1) (fun h1 r1 hr1 => ?_)
  obtain ⟨z1, rfl, g1, e1⟩ := hr1
  have m1 := lw_m I (fun o k a => g1.2 o k (by omega) (by omega))
  refine lq_aload_n C dL_law_420 rfl ?_
  refine lq_aload_n C dL_law_421 rfl ?_
  refine lq_iload_n C dL_law_422 rfl ?_
  refine lq_iconst C dL_law_423 (by decide) ?_
  refine lq_iadd C dL_law_424 (by omega) ?_
  refine lq_sld C (by omega) dL_law_425 ?_
  refine lq_aload_n C dL_law_426 rfl ?_
  refine lq_iload_n C dL_law_427 rfl ?_
  refine lq_iconst C dL_law_428 (by decide) ?_
  refine lq_iadd C dL_law_429 (by omega) ?_
  refine lq_sld C (by omega) dL_law_430 ?_
  refine lq_aload_n C dL_law_431 rfl ?_
  refine lq_iload_n C dL_law_432 rfl ?_
  refine lq_iconst C dL_law_433 (by decide) ?_
  refine lq_iadd C dL_law_434 (by omega) ?_
  refine lq_sld C (by omega) dL_law_435 ?_
  refine lq_call C (M := M_X6_place) (o := 121) (As := [ez_I (lw_x xs (i + 1)), ez_I (lw_x xs (i + 2)), ez_I (lw_x xs (i + 3))]) (st := [ez_I z1]) (h := h1) (ci := 6) (n := 3) dL_law_436 om_X6_place ⟨by decide, by decide, by decide⟩ ml_L_57 im_X6_place se_X6_place rfl (by decide) (by decide) (by decide) rfl (Nat.le_of_ble_eq_true rfl) (c_X6_place m1.1) (fun h2 r2 hr2 => ?_)
  obtain ⟨z2, rfl, g2, e2⟩ := hr2
  have zz : z1 = z2 ∧ lw_I h2 := ⟨by rw [e1, e2, m1.2], lw_q I g1 g2⟩
  refine lq_ic_eq C 596 dL_law_439 (by decide) zz.1 ?_
  exact kx h2 zz.2
theorem lq_case10 {p : Program} {l : Launch} {e : Env} {s : State} {m : MethodId} {below : List Frame} {meth : Method} {c : Code} {b N : Nat} {xs : Nat → Int32} {G : ez_G} {ad : Nat → Nat} {h : ez_H} {i : Int} (C : lq_C p s m meth c b N xs G ad) (hN : N ≤ 2048) (I : lw_I h) (hi : 0 ≤ i ∧ i + 4 ≤ N) (kx : ∀ h2, lw_I h2 → lq_E p l e s m below meth c b G ad 596 [ez_R 201, ez_R 0, ez_R 121, ez_I i] [] h2) : lq_E p l e s m below meth c b G ad 444 [ez_R 201, ez_R 0, ez_R 121, ez_I i] [] h := by
  refine lq_aload_n C dL_law_444 rfl ?_
  refine lq_aload_n C dL_law_445 rfl ?_
  refine lq_iload_n C dL_law_446 rfl ?_
  refine lq_iconst C dL_law_447 (by decide) ?_
  refine lq_iadd C dL_law_448 (by omega) ?_
  refine lq_sld C (by omega) dL_law_449 ?_
  refine lq_aload_n C dL_law_450 rfl ?_
  refine lq_iload_n C dL_law_451 rfl ?_
  refine lq_iconst C dL_law_452 (by decide) ?_
  refine lq_iadd C dL_law_453 (by omega) ?_
  refine lq_sld C (by omega) dL_law_454 ?_
  refine lq_call C (M := M_X5_motion) (o := 0) (As := [ez_I (lw_x xs (i + 1)), ez_I (lw_x xs (i + 2))]) (st := []) (h := h) (ci := 5) (n := 2) dL_law_455 om_X5_motion ⟨by decide, by decide, by decide⟩ ml_L_58 im_X5_motion se_X5_motion rfl (by decide) (by decide) (by decide) rfl (Nat.le_of_ble_eq_true rfl) (c_X5_motion I.1) (fun h1 r1 hr1 => ?_)
  obtain ⟨z1, rfl, g1, e1⟩ := hr1
  have m1 := lw_m I (fun o k a => g1.2 o k (by omega) (by omega))
  refine lq_aload_n C dL_law_458 rfl ?_
  refine lq_aload_n C dL_law_459 rfl ?_
  refine lq_iload_n C dL_law_460 rfl ?_
  refine lq_iconst C dL_law_461 (by decide) ?_
  refine lq_iadd C dL_law_462 (by omega) ?_
  refine lq_sld C (by omega) dL_law_463 ?_
  refine lq_aload_n C dL_law_464 rfl ?_
  refine lq_iload_n C dL_law_465 rfl ?_
  refine lq_iconst C dL_law_466 (by decide) ?_
  refine lq_iadd C dL_law_467 (by omega) ?_
  refine lq_sld C (by omega) dL_law_468 ?_
  refine lq_call C (M := M_X6_motion) (o := 121) (As := [ez_I (lw_x xs (i + 1)), ez_I (lw_x xs (i + 2))]) (st := [ez_I z1]) (h := h1) (ci := 6) (n := 2) dL_law_469 om_X6_motion ⟨by decide, by decide, by decide⟩ ml_L_61 im_X6_motion se_X6_motion rfl (by decide) (by decide) (by decide) rfl (Nat.le_of_ble_eq_true rfl) (c_X6_motion m1.1) (fun h2 r2 hr2 => ?_)
  obtain ⟨z2, rfl, g2, e2⟩ := hr2
  have zz : z1 = z2 ∧ lw_I h2 := ⟨by rw [e1, e2, m1.2], lw_q I g1 g2⟩
  refine lq_ic_eq C 596 dL_law_472 (by decide) zz.1 ?_
  exact kx h2 zz.2
theorem lq_case11 {p : Program} {l : Launch} {e : Env} {s : State} {m : MethodId} {below : List Frame} {meth : Method} {c : Code} {b N : Nat} {xs : Nat → Int32} {G : ez_G} {ad : Nat → Nat} {h : ez_H} {i : Int} (C : lq_C p s m meth c b N xs G ad) (hN : N ≤ 2048) (I : lw_I h) (hi : 0 ≤ i ∧ i + 4 ≤ N) (kx : ∀ h2, lw_I h2 → lq_E p l e s m below meth c b G ad 596 [ez_R 201, ez_R 0, ez_R 121, ez_I i] [] h2) : lq_E p l e s m below meth c b G ad 477 [ez_R 201, ez_R 0, ez_R 121, ez_I i] [] h := by
  refine lq_aload_n C dL_law_477 rfl ?_
  refine lq_aload_n C dL_law_478 rfl ?_
  refine lq_iload_n C dL_law_479 rfl ?_
  refine lq_iconst C dL_law_480 (by decide) ?_
  refine lq_iadd C dL_law_481 (by omega) ?_
  refine lq_sld C (by omega) dL_law_482 ?_
  refine lq_aload_n C dL_law_483 rfl ?_
  refine lq_iload_n C dL_law_484 rfl ?_
  refine lq_iconst C dL_law_485 (by decide) ?_
  refine lq_iadd C dL_law_486 (by omega) ?_
  refine lq_sld C (by omega) dL_law_487 ?_
  refine lq_call C (M := M_X5_tell) (o := 0) (As := [ez_I (lw_x xs (i + 1)), ez_I (lw_x xs (i + 2))]) (st := []) (h := h) (ci := 5) (n := 2) dL_law_488 om_X5_tell ⟨by decide, by decide, by decide⟩ ml_L_62 im_X5_tell se_X5_tell rfl (by decide) (by decide) (by decide) rfl (Nat.le_of_ble_eq_true rfl) (c_X5_tell I.1) (fun h1 r1 hr1 => ?_)
  obtain ⟨z1, rfl, g1, e1⟩ := hr1
  have m1 := lw_m I (fun o k a => g1.2 o k (by omega) (by omega))
  refine lq_aload_n C dL_law_491 rfl ?_
  refine lq_aload_n C dL_law_492 rfl ?_
  refine lq_iload_n C dL_law_493 rfl ?_
  refine lq_iconst C dL_law_494 (by decide) ?_
  refine lq_iadd C dL_law_495 (by omega) ?_
  refine lq_sld C (by omega) dL_law_496 ?_
  refine lq_aload_n C dL_law_497 rfl ?_
  refine lq_iload_n C dL_law_498 rfl ?_
  refine lq_iconst C dL_law_499 (by decide) ?_
  refine lq_iadd C dL_law_500 (by omega) ?_
  refine lq_sld C (by omega) dL_law_501 ?_
  refine lq_call C (M := M_X6_tell) (o := 121) (As := [ez_I (lw_x xs (i + 1)), ez_I (lw_x xs (i + 2))]) (st := [ez_I z1]) (h := h1) (ci := 6) (n := 2) dL_law_502 om_X6_tell ⟨by decide, by decide, by decide⟩ ml_L_65 im_X6_tell se_X6_tell rfl (by decide) (by decide) (by decide) rfl (Nat.le_of_ble_eq_true rfl) (c_X6_tell m1.1) (fun h2 r2 hr2 => ?_)
  obtain ⟨z2, rfl, g2, e2⟩ := hr2
  have zz : z1 = z2 ∧ lw_I h2 := ⟨by rw [e1, e2, m1.2], lw_q I g1 g2⟩
  refine lq_ic_eq C 596 dL_law_505 (by decide) zz.1 ?_
  exact kx h2 zz.2
theorem lq_case12 {p : Program} {l : Launch} {e : Env} {s : State} {m : MethodId} {below : List Frame} {meth : Method} {c : Code} {b N : Nat} {xs : Nat → Int32} {G : ez_G} {ad : Nat → Nat} {h : ez_H} {i : Int} (C : lq_C p s m meth c b N xs G ad) (hN : N ≤ 2048) (I : lw_I h) (hi : 0 ≤ i ∧ i + 4 ≤ N) (kx : ∀ h2, lw_I h2 → lq_E p l e s m below meth c b G ad 596 [ez_R 201, ez_R 0, ez_R 121, ez_I i] [] h2) : lq_E p l e s m below meth c b G ad 510 [ez_R 201, ez_R 0, ez_R 121, ez_I i] [] h := by
  refine lq_aload_n C dL_law_510 rfl ?_
  refine lq_aload_n C dL_law_511 rfl ?_
  refine lq_iload_n C dL_law_512 rfl ?_
  refine lq_iconst C dL_law_513 (by decide) ?_
  refine lq_iadd C dL_law_514 (by omega) ?_
  refine lq_sld C (by omega) dL_law_515 ?_
  refine lq_aload_n C dL_law_516 rfl ?_
  refine lq_iload_n C dL_law_517 rfl ?_
  refine lq_iconst C dL_law_518 (by decide) ?_
  refine lq_iadd C dL_law_519 (by omega) ?_
  refine lq_sld C (by omega) dL_law_520 ?_
  refine lq_aload_n C dL_law_521 rfl ?_
  refine lq_iload_n C dL_law_522 rfl ?_
  refine lq_iconst C dL_law_523 (by decide) ?_
  refine lq_iadd C dL_law_524 (by omega) ?_
  refine lq_sld C (by omega) dL_law_525 ?_
  refine lq_call C (M := M_X5_foretell) (o := 0) (As := [ez_I (lw_x xs (i + 1)), ez_I (lw_x xs (i + 2)), ez_I (lw_x xs (i + 3))]) (st := []) (h := h) (ci := 5) (n := 3) dL_law_526 om_X5_foretell ⟨by decide, by decide, by decide⟩ ml_L_66 im_X5_foretell se_X5_foretell rfl (by decide) (by decide) (by decide) rfl (Nat.le_of_ble_eq_true rfl) (c_X5_foretell I.1) (fun h1 r1 hr1 => ?_)
  obtain ⟨z1, rfl, g1, e1⟩ := hr1
  have m1 := lw_m I (fun o k a => g1.2 o k (by omega) (by omega))
  refine lq_aload_n C dL_law_529 rfl ?_
  refine lq_aload_n C dL_law_530 rfl ?_
  refine lq_iload_n C dL_law_531 rfl ?_
  refine lq_iconst C dL_law_532 (by decide) ?_
  refine lq_iadd C dL_law_533 (by omega) ?_
  refine lq_sld C (by omega) dL_law_534 ?_
  refine lq_aload_n C dL_law_535 rfl ?_
  refine lq_iload_n C dL_law_536 rfl ?_
  refine lq_iconst C dL_law_537 (by decide) ?_
  refine lq_iadd C dL_law_538 (by omega) ?_
  refine lq_sld C (by omega) dL_law_539 ?_
  refine lq_aload_n C dL_law_540 rfl ?_
  refine lq_iload_n C dL_law_541 rfl ?_
  refine lq_iconst C dL_law_542 (by decide) ?_
  refine lq_iadd C dL_law_543 (by omega) ?_
  refine lq_sld C (by omega) dL_law_544 ?_
  refine lq_call C (M := M_X6_foretell) (o := 121) (As := [ez_I (lw_x xs (i + 1)), ez_I (lw_x xs (i + 2)), ez_I (lw_x xs (i + 3))]) (st := [ez_I z1]) (h := h1) (ci := 6) (n := 3) dL_law_545 om_X6_foretell ⟨by decide, by decide, by decide⟩ ml_L_69 im_X6_foretell se_X6_foretell rfl (by decide) (by decide) (by decide) rfl (Nat.le_of_ble_eq_true rfl) (c_X6_foretell m1.1) (fun h2 r2 hr2 => ?_)
  obtain ⟨z2, rfl, g2, e2⟩ := hr2
  have zz : z1 = z2 ∧ lw_I h2 := ⟨by rw [e1, e2, m1.2], lw_q I g1 g2⟩
  refine lq_ic_eq C 596 dL_law_548 (by decide) zz.1 ?_
  exact kx h2 zz.2
theorem lq_case13 {p : Program} {l : Launch} {e : Env} {s : State} {m : MethodId} {below : List Frame} {meth : Method} {c : Code} {b N : Nat} {xs : Nat → Int32} {G : ez_G} {ad : Nat → Nat} {h : ez_H} {i : Int} (C : lq_C p s m meth c b N xs G ad) (hN : N ≤ 2048) (I : lw_I h) (hi : 0 ≤ i ∧ i + 4 ≤ N) (kx : ∀ h2, lw_I h2 → lq_E p l e s m below meth c b G ad 596 [ez_R 201, ez_R 0, ez_R 121, ez_I i] [] h2) : lq_E p l e s m below meth c b G ad 553 [ez_R 201, ez_R 0, ez_R 121, ez_I i] [] h := by
  refine lq_aload_n C dL_law_553 rfl ?_
  refine lq_aload_n C dL_law_554 rfl ?_
  refine lq_iload_n C dL_law_555 rfl ?_
  refine lq_iconst C dL_law_556 (by decide) ?_
  refine lq_iadd C dL_law_557 (by omega) ?_
  refine lq_sld C (by omega) dL_law_558 ?_
  refine lq_aload_n C dL_law_559 rfl ?_
  refine lq_iload_n C dL_law_560 rfl ?_
  refine lq_iconst C dL_law_561 (by decide) ?_
  refine lq_iadd C dL_law_562 (by omega) ?_
  refine lq_sld C (by omega) dL_law_563 ?_
  refine lq_aload_n C dL_law_564 rfl ?_
  refine lq_iload_n C dL_law_565 rfl ?_
  refine lq_iconst C dL_law_566 (by decide) ?_
  refine lq_iadd C dL_law_567 (by omega) ?_
  refine lq_sld C (by omega) dL_law_568 ?_
  refine lq_call C (M := M_X5_slip) (o := 0) (As := [ez_I (lw_x xs (i + 1)), ez_I (lw_x xs (i + 2)), ez_I (lw_x xs (i + 3))]) (st := []) (h := h) (ci := 5) (n := 3) dL_law_569 om_X5_slip ⟨by decide, by decide, by decide⟩ ml_L_70 im_X5_slip se_X5_slip rfl (by decide) (by decide) (by decide) rfl (Nat.le_of_ble_eq_true rfl) (c_X5_slip I.1) (fun h1 r1 hr1 => ?_)
  obtain ⟨z1, rfl, g1, e1⟩ := hr1
  have m1 := lw_m I (fun o k a => g1.2 o k (by omega) (by omega))
  refine lq_aload_n C dL_law_572 rfl ?_
  refine lq_aload_n C dL_law_573 rfl ?_
  refine lq_iload_n C dL_law_574 rfl ?_
  refine lq_iconst C dL_law_575 (by decide) ?_
  refine lq_iadd C dL_law_576 (by omega) ?_
  refine lq_sld C (by omega) dL_law_577 ?_
  refine lq_aload_n C dL_law_578 rfl ?_
  refine lq_iload_n C dL_law_579 rfl ?_
  refine lq_iconst C dL_law_580 (by decide) ?_
  refine lq_iadd C dL_law_581 (by omega) ?_
  refine lq_sld C (by omega) dL_law_582 ?_
  refine lq_aload_n C dL_law_583 rfl ?_
  refine lq_iload_n C dL_law_584 rfl ?_
  refine lq_iconst C dL_law_585 (by decide) ?_
  refine lq_iadd C dL_law_586 (by omega) ?_
  refine lq_sld C (by omega) dL_law_587 ?_
  refine lq_call C (M := M_X6_slip) (o := 121) (As := [ez_I (lw_x xs (i + 1)), ez_I (lw_x xs (i + 2)), ez_I (lw_x xs (i + 3))]) (st := [ez_I z1]) (h := h1) (ci := 6) (n := 3) dL_law_588 om_X6_slip ⟨by decide, by decide, by decide⟩ ml_L_73 im_X6_slip se_X6_slip rfl (by decide) (by decide) (by decide) rfl (Nat.le_of_ble_eq_true rfl) (c_X6_slip m1.1) (fun h2 r2 hr2 => ?_)
  obtain ⟨z2, rfl, g2, e2⟩ := hr2
  have zz : z1 = z2 ∧ lw_I h2 := ⟨by rw [e1, e2, m1.2], lw_q I g1 g2⟩
  refine lq_ic_eq C 596 dL_law_591 (by decide) zz.1 ?_
  exact kx h2 zz.2
theorem lq_loop {p : Program} {l : Launch} {e : Env} {s : State} {m : MethodId} {below : List Frame} {meth : Method} {c : Code} {b N : Nat} {xs : Nat → Int32} {G : ez_G} {ad : Nat → Nat} (C : lq_C p s m meth c b N xs G ad) (hN : N ≤ 2048) : ∀ (d : Nat) (i : Int) (h : ez_H), (0 ≤ i ∧ i ≤ 2052) → lw_I h → 2052 - i < d → lq_E p l e s m below meth c b G ad 18 [ez_R 201, ez_R 0, ez_R 121, ez_I i] [] h := by
  intro d
  induction d with
  | zero =>
    intro i h hi I hd
    omega
  | succ d ih =>
    intro i h hi I hd
    refine lq_iload_n C dL_law_18 rfl ?_
    refine lq_aload_n C dL_law_19 rfl ?_
    refine lq_slen C hN dL_law_20 ?_
    refine lq_iconst C dL_law_21 (by decide) ?_
    refine lq_isub C dL_law_22 (by omega) ?_
    refine lq_ic_gt C 602 dL_law_23 (by decide) (fun c1 => ?_) (fun c1 => ?_)
    · exact lq_ret C dL_law_602 dL_law_603
    · have hi2 : 0 ≤ i ∧ i + 4 ≤ N := by omega
      have kx : ∀ h2, lw_I h2 → lq_E p l e s m below meth c b G ad 596 [ez_R 201, ez_R 0, ez_R 121, ez_I i] [] h2 := fun h2 I2 => by
        refine lq_iinc C dL_law_596 rfl (by decide) (by decide) (by omega) ?_
        refine lq_goto C 18 dL_law_599 (by decide) ?_
        exact ih (i + 4) h2 (by omega) I2 (by omega)
      refine lq_aload_n C dL_law_26 rfl ?_
      refine lq_iload_n C dL_law_27 rfl ?_
      refine lq_sld C (by omega) dL_law_28 ?_
      refine lq_bipush C dL_law_29 (by decide) (by decide) ?_
      refine lq_iand C dL_law_31 (fun z => ?_)
      rcases (show z = 0 ∨ z = 1 ∨ z = 2 ∨ z = 3 ∨ z = 4 ∨ z = 5 ∨ z = 6 ∨ z = 7 ∨ z = 8 ∨ z = 9 ∨ z = 10 ∨ z = 11 ∨ z = 12 ∨ z = 13 ∨ (z < 0 ∨ 13 < z) by omega) with rfl | rfl | rfl | rfl | rfl | rfl | rfl | rfl | rfl | rfl | rfl | rfl | rfl | rfl | q
      · exact lq_tin C 104 dL_law_32 (by decide) (by decide) rfl (by decide) (lq_case0 C hN I hi2 kx)
      · exact lq_tin C 127 dL_law_32 (by decide) (by decide) rfl (by decide) (lq_case1 C hN I hi2 kx)
      · exact lq_tin C 170 dL_law_32 (by decide) (by decide) rfl (by decide) (lq_case2 C hN I hi2 kx)
      · exact lq_tin C 203 dL_law_32 (by decide) (by decide) rfl (by decide) (lq_case3 C hN I hi2 kx)
      · exact lq_tin C 226 dL_law_32 (by decide) (by decide) rfl (by decide) (lq_case4 C hN I hi2 kx)
      · exact lq_tin C 249 dL_law_32 (by decide) (by decide) rfl (by decide) (lq_case5 C hN I hi2 kx)
      · exact lq_tin C 282 dL_law_32 (by decide) (by decide) rfl (by decide) (lq_case6 C hN I hi2 kx)
      · exact lq_tin C 325 dL_law_32 (by decide) (by decide) rfl (by decide) (lq_case7 C hN I hi2 kx)
      · exact lq_tin C 368 dL_law_32 (by decide) (by decide) rfl (by decide) (lq_case8 C hN I hi2 kx)
      · exact lq_tin C 401 dL_law_32 (by decide) (by decide) rfl (by decide) (lq_case9 C hN I hi2 kx)
      · exact lq_tin C 444 dL_law_32 (by decide) (by decide) rfl (by decide) (lq_case10 C hN I hi2 kx)
      · exact lq_tin C 477 dL_law_32 (by decide) (by decide) rfl (by decide) (lq_case11 C hN I hi2 kx)
      · exact lq_tin C 510 dL_law_32 (by decide) (by decide) rfl (by decide) (lq_case12 C hN I hi2 kx)
      · exact lq_tin C 553 dL_law_32 (by decide) (by decide) rfl (by decide) (lq_case13 C hN I hi2 kx)
      · exact lq_tout C 596 dL_law_32 q (by decide) (kx h I)
