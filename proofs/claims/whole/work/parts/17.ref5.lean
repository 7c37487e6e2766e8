/-! the reference's takes: one lay more -/
theorem pm_gr_cong2 {g : Int → Int → Int} {R : Int} {nA : Nat} {pr pr' : Int → Int} {nB : Int} : ∀ (t : Nat) (set : Nat), (∀ j : Int, nB - t ≤ j → j < nB → pr j = pr' j) → pm_gr g R nA pr nB t set → pm_gr g R nA pr' nB t set
  | 0, _, _, _ => trivial
  | t + 1, set, h, hg => by
    have e : pr (nB - 1 - t) = pr' (nB - 1 - t) := h _ (by omega) (by omega)
    obtain ⟨h1, h2⟩ := hg
    rw [e] at h1 h2
    exact ⟨h1, pm_gr_cong2 t _ (fun j hj hj2 => h j (by omega) hj2) h2⟩
/-- plate p as the reference holds it -/
def md_P (h : ez_H) (p : Int) : bl_P := ((h 123 p).toNat, fun i => h 124 (8 * p + i), fun i => h 125 (8 * p + i))
def md_W (h : ez_H) (p : Int) : Prop := (0 ≤ p ∧ p < 5) ∧ (0 ≤ h 123 p ∧ h 123 p ≤ 8) ∧ ∀ i : Int, 0 ≤ i → i < h 123 p → (0 ≤ h 124 (8 * p + i) ∧ h 124 (8 * p + i) ≤ 999) ∧ (0 ≤ h 125 (8 * p + i) ∧ h 125 (8 * p + i) ≤ 999)
theorem md_P.keep {h h' : ez_H} (hk : ∀ o k : Int, o ≤ 125 → h' o k = h o k) (p : Int) : md_P h' p = md_P h p := by
  unfold md_P
  simp only [hk _ _ (show (123 : Int) ≤ 125 by decide), hk _ _ (show (124 : Int) ≤ 125 by decide), hk _ _ (show (125 : Int) ≤ 125 by decide)]
theorem md_W.keep {h h' : ez_H} {p : Int} (w : md_W h p) (hk : ∀ o k : Int, o ≤ 125 → h' o k = h o k) : md_W h' p := by
  unfold md_W at w ⊢
  simp only [hk _ _ (show (123 : Int) ≤ 125 by decide), hk _ _ (show (124 : Int) ≤ 125 by decide), hk _ _ (show (125 : Int) ≤ 125 by decide)]
  exact w
/-- what the reference's work on the pair a, b may change -/
def md_F (h h' : ez_H) (at_ : Int) : Prop := (∀ o k : Int, (o < 127 ∨ 132 < o) → h' o k = h o k) ∧ (∀ k : Int, (k < 6 * at_ + 2 ∨ 6 * at_ + 5 < k) → h' 127 k = h 127 k) ∧ ∀ k : Int, (k < 8 * at_ ∨ 8 * at_ + 8 ≤ k) → h' 128 k = h 128 k
theorem md_sx_bd {h : ez_H} {a b k s i j : Int} (wa : md_W h a) (wb : md_W h b) (hok : bl_ok (md_P h a) (md_P h b) k s i j) : (-4000 ≤ bl_sx (md_P h a) (md_P h b) k s i j ∧ bl_sx (md_P h a) (md_P h b) k s i j ≤ 4000) ∧ (-4000 ≤ bl_sy (md_P h a) (md_P h b) k s i j ∧ bl_sy (md_P h a) (md_P h b) k s i j ≤ 4000) := by
  obtain ⟨-, ⟨s0, s1⟩, ⟨i0, i1⟩, ⟨j0, j1⟩⟩ := hok
  have i1' : i < h 123 a := by
    have := wa.2.1
    have e : ((md_P h a).1 : Int) = h 123 a := by show (((h 123 a).toNat : Nat) : Int) = _; omega
    omega
  have j1' : j < h 123 b := by
    have := wb.2.1
    have e : ((md_P h b).1 : Int) = h 123 b := by show (((h 123 b).toNat : Nat) : Int) = _; omega
    omega
  have x1 := wa.2.2 i i0 i1'
  have x2 := wb.2.2 j j0 j1'
  have t1 := fx_t_bd (k := k) x2
  have t2 := fx_s_bd (s := s) (by omega) t1.1
  have t3 := fx_s_bd (s := s) (by omega) t1.2
  show (-4000 ≤ h 124 (8 * a + i) - s * fx_tx k (h 124 (8 * b + j)) (h 125 (8 * b + j)) ∧ h 124 (8 * a + i) - s * fx_tx k (h 124 (8 * b + j)) (h 125 (8 * b + j)) ≤ 4000) ∧ (-4000 ≤ h 125 (8 * a + i) - s * fx_ty k (h 124 (8 * b + j)) (h 125 (8 * b + j)) ∧ h 125 (8 * a + i) - s * fx_ty k (h 124 (8 * b + j)) (h 125 (8 * b + j)) ≤ 4000)
  omega
theorem lp_tk {a b best k s sx sy at_ v : Int} {h : ez_H} {nB : Nat} {Q : ez_H → Option ez_V → Prop} (hb : 0 ≤ b ∧ b < 5) (hat : 0 ≤ at_ ∧ at_ < 25) (hB : h 123 b = nB) (hB8 : nB ≤ 8) (kx : ∀ h', (∀ o k : Int, ¬ (o = 128 ∧ 8 * at_ ≤ k ∧ k < 8 * at_ + 8) → h' o k = h o k) → (∀ j' : Int, 0 ≤ j' → j' < nB → h' 128 (8 * at_ + j') = h 132 j') → Q h' (some (ez_I v))) : ∀ (n : Nat) (j : Nat) (h' : ez_H), (j ≤ nB) → (∀ o k : Int, ¬ (o = 128 ∧ 8 * at_ ≤ k ∧ k < 8 * at_ + 8) → h' o k = h o k) → (∀ j' : Int, 0 ≤ j' → j' < j → h' 128 (8 * at_ + j') = h 132 j') → nB - j < n → ez_En M_X6_takes 224 [ez_R 121, ez_I a, ez_I b, ez_I best, ez_I k, ez_I s, ez_I sx, ez_I sy, ez_I at_, ez_I v, ez_N, ez_I (j : Nat)] [] h' Q := by
  intro n
  induction n with
  | zero =>
    intro j h' j1 ag dn hm
    exfalso
    omega
  | succ n ih =>
    intro j h' j1 ag dn hm
    have eB := ag 123 b (by omega)
    refine ez_iload dX6_takes_224 rfl ?_
    refine ez_aload_n dX6_takes_226 rfl ?_
    refine g6_3 dX6_takes_227 fl_X6_17 ?_
    refine ez_iload_n dX6_takes_230 rfl ?_
    refine al123 dX6_takes_231 (by omega) ?_
    refine ez_ic_ge 261 dX6_takes_232 (by decide) (fun c_232 => ?_) (fun c_232 => ?_)
    · refine ez_iload dX6_takes_261 rfl ?_
      refine ez_ireturn (st := []) dX6_takes_263 rfl ?_
      exact kx h' ag (fun j' j0 j1 => dn j' j0 (by omega))
    · have e1 := ag 132 j (by omega)
      refine ez_aload_n dX6_takes_235 rfl ?_
      refine g6_8 dX6_takes_236 fl_X6_33 ?_
      refine ez_bipush dX6_takes_239 (by decide) (by decide) ?_
      refine ez_iload dX6_takes_241 rfl ?_
      refine ez_imul dX6_takes_243 (by omega) ?_
      refine ez_iload dX6_takes_244 rfl ?_
      refine ez_iadd dX6_takes_246 (by omega) ?_
      refine ez_aload_n dX6_takes_247 rfl ?_
      refine g6_12 dX6_takes_248 fl_X6_45 ?_
      refine ez_iload dX6_takes_251 rfl ?_
      refine al132 dX6_takes_253 (by omega) ?_
      refine as128 dX6_takes_254 (by omega) ?_
      refine ez_iinc dX6_takes_255 rfl (by decide) (by decide) (by omega) ?_
      refine ez_goto 224 dX6_takes_258 (by decide) ?_
      rw [show h' 132 j = h 132 j from e1]
      refine ez_lessS (L' := [ez_R 121, ez_I a, ez_I b, ez_I best, ez_I k, ez_I s, ez_I sx, ez_I sy, ez_I at_, ez_I v, ez_N, ez_I ((j + 1 : Nat) : Int)]) ⟨Or.inr rfl, Or.inr rfl, Or.inr rfl, Or.inr rfl, Or.inr rfl, Or.inr rfl, Or.inr rfl, Or.inr rfl, Or.inr rfl, Or.inr rfl, Or.inl rfl, Or.inr rfl, trivial⟩ ?_
      refine ih (j + 1) _ (by omega) (fun o k hk => (ez_up_ne (by omega)).trans (ag o k hk)) (fun j' j0 j1 => ?_) (by omega)
      by_cases q : j' = j
      · subst q
        exact ez_up_eq
      · exact (ez_up_ne (by omega)).trans (dn j' j0 (by omega))
theorem rf_G.keep2 {h h' : ez_H} {a b : Int} {nA nB : Nat} {R : Int} {g : Int → Int → Int} (H : rf_G h a b nA nB R g) (hk : ∀ o k : Int, ¬ o = 127 → h' o k = h o k) : rf_G h' a b nA nB R g := by
  unfold rf_G at H ⊢
  simp only [hk _ _ (show ¬ (121 : Int) = 127 by decide), hk _ _ (show ¬ (123 : Int) = 127 by decide), hk _ _ (show ¬ (124 : Int) = 127 by decide), hk _ _ (show ¬ (125 : Int) = 127 by decide), hk _ _ (show ¬ (129 : Int) = 127 by decide), hk _ _ (show ¬ (130 : Int) = 127 by decide)]
  exact H
theorem tk_tail {a b best k s sx sy i j R : Int} {h : ez_H} {h2 : ez_H} {v : Int} (hb : 0 ≤ b ∧ b < 5) (ha : 0 ≤ a ∧ a < 5) (H2 : rf_G h2 a b (md_P h a).1 (md_P h b).1 R (bl_g (md_P h a) (md_P h b) k s sx sy)) (ag2 : ∀ o x : Int, (o ≤ 128 ∨ 132 < o) → h2 o x = h o x) (dn2 : ∀ t' : Nat, t' ≤ (md_P h b).1 → ∀ s' : Nat, s' < 2 ^ (md_P h a).1 → h2 131 (256 * ((md_P h b).1 - t') + s') = pm_val (bl_g (md_P h a) (md_P h b) k s sx sy) R (md_P h a).1 (md_P h b).1 t' s') (hv : v = bl_w R (md_P h a) (md_P h b) k s i j) (hnew : bl_new R (md_P h a) (md_P h b) k s i j best (h 127 (6 * (5 * a + b) + 2)) (h 127 (6 * (5 * a + b) + 3)) (h 127 (6 * (5 * a + b) + 4)) (h 127 (6 * (5 * a + b) + 5))) :
    ez_En M_X6_takes 159 [ez_R 121, ez_I a, ez_I b, ez_I best, ez_I k, ez_I s, ez_I sx, ez_I sy, ez_I (5 * a + b), ez_I v, ez_N, ez_N] [] h2 (ez_PI (fun h' z => md_F h h' (5 * a + b) ∧ ((bl_new R (md_P h a) (md_P h b) k s i j best (h 127 (6 * (5 * a + b) + 2)) (h 127 (6 * (5 * a + b) + 3)) (h 127 (6 * (5 * a + b) + 4)) (h 127 (6 * (5 * a + b) + 5)) ∧ z = bl_w R (md_P h a) (md_P h b) k s i j ∧ (h' 127 (6 * (5 * a + b) + 2) = k ∧ h' 127 (6 * (5 * a + b) + 3) = s ∧ h' 127 (6 * (5 * a + b) + 4) = sx ∧ h' 127 (6 * (5 * a + b) + 5) = sy) ∧ pm_gr (bl_g (md_P h a) (md_P h b) k s sx sy) R (md_P h a).1 (fun j' => h' 128 (8 * (5 * a + b) + j')) (md_P h b).1 (md_P h b).1 0) ∨ (¬ bl_new R (md_P h a) (md_P h b) k s i j best (h 127 (6 * (5 * a + b) + 2)) (h 127 (6 * (5 * a + b) + 3)) (h 127 (6 * (5 * a + b) + 4)) (h 127 (6 * (5 * a + b) + 5)) ∧ z = best ∧ (∀ x : Int, h' 127 x = h 127 x) ∧ ∀ x : Int, h' 128 x = h 128 x)))) := by
  refine ez_aload_n dX6_takes_159 rfl ?_
  refine g6_7 dX6_takes_160 fl_X6_30 ?_
  refine ez_bipush dX6_takes_163 (by decide) (by decide) ?_
  refine ez_iload dX6_takes_165 rfl ?_
  refine ez_imul dX6_takes_167 (by omega) ?_
  refine ez_iconst dX6_takes_168 (by decide) ?_
  refine ez_iadd dX6_takes_169 (by omega) ?_
  refine ez_iload dX6_takes_170 rfl ?_
  refine as127 dX6_takes_172 (by omega) ?_
  refine ez_aload_n dX6_takes_173 rfl ?_
  refine g6_7 dX6_takes_174 fl_X6_30 ?_
  refine ez_bipush dX6_takes_177 (by decide) (by decide) ?_
  refine ez_iload dX6_takes_179 rfl ?_
  refine ez_imul dX6_takes_181 (by omega) ?_
  refine ez_iconst dX6_takes_182 (by decide) ?_
  refine ez_iadd dX6_takes_183 (by omega) ?_
  refine ez_iload dX6_takes_184 rfl ?_
  refine as127 dX6_takes_186 (by omega) ?_
  refine ez_aload_n dX6_takes_187 rfl ?_
  refine g6_7 dX6_takes_188 fl_X6_30 ?_
  refine ez_bipush dX6_takes_191 (by decide) (by decide) ?_
  refine ez_iload dX6_takes_193 rfl ?_
  refine ez_imul dX6_takes_195 (by omega) ?_
  refine ez_iconst dX6_takes_196 (by decide) ?_
  refine ez_iadd dX6_takes_197 (by omega) ?_
  refine ez_iload dX6_takes_198 rfl ?_
  refine as127 dX6_takes_200 (by omega) ?_
  refine ez_aload_n dX6_takes_201 rfl ?_
  refine g6_7 dX6_takes_202 fl_X6_30 ?_
  refine ez_bipush dX6_takes_205 (by decide) (by decide) ?_
  refine ez_iload dX6_takes_207 rfl ?_
  refine ez_imul dX6_takes_209 (by omega) ?_
  refine ez_iconst dX6_takes_210 (by decide) ?_
  refine ez_iadd dX6_takes_211 (by omega) ?_
  refine ez_iload dX6_takes_212 rfl ?_
  refine as127 dX6_takes_214 (by omega) ?_
  have hfinds := c_X6_finds (a := a) (b := b) (h := ez_up (ez_up (ez_up (ez_up h2 127 (6 * (5 * a + b) + 2) k) 127 (6 * (5 * a + b) + 3) s) 127 (6 * (5 * a + b) + 4) sx) 127 (6 * (5 * a + b) + 5) sy) (H2.keep2 (fun o k' ho => by unfold ez_up; simp only [ho, false_and, if_false])) (fun t' ht s' hs' => by unfold ez_up; simp only [show ¬ ((131 : Int) = 127) by decide, false_and, if_false]; exact dn2 t' ht s' hs')
  refine ez_aload_n dX6_takes_215 rfl ?_
  refine ez_iload_n dX6_takes_216 rfl ?_
  refine ez_iload_n dX6_takes_217 rfl ?_
  refine cl_X6_finds dX6_takes_218 ml_X6_98 ft_X6_takes__X6_finds (Nat.le_of_ble_eq_true rfl) hfinds (ez_kV (fun h3 hh => ?_))
  obtain ⟨ag3, gr3⟩ := hh
  refine ez_iconst dX6_takes_221 (by decide) ?_
  refine ez_istore dX6_takes_222 (by decide) ?_
  refine lp_tk (h := h3) (nB := (md_P h b).1) hb (by omega) (by rw [ag3 123 b (by decide)]; unfold ez_up; simp only [show ¬ ((123 : Int) = 127) by decide, false_and, if_false]; exact H2.2.2.2.2.1) (by have := H2.2.2.2.2.2.1; exact this) (fun h4 ag4 dn4 => ?_) ((md_P h b).1 + 1) 0 h3 (by omega) (fun _ _ _ => rfl) (fun j' j0 j1 => absurd j1 (by omega)) (by omega)
  have e0 : ∀ x : Int, h4 127 x = ez_up (ez_up (ez_up (ez_up h2 127 (6 * (5 * a + b) + 2) k) 127 (6 * (5 * a + b) + 3) s) 127 (6 * (5 * a + b) + 4) sx) 127 (6 * (5 * a + b) + 5) sy 127 x := fun x => (ag4 127 x (by omega)).trans (ag3 127 x (by decide))
  have e1 : ∀ o x : Int, (o < 127 ∨ 132 < o) → h4 o x = h o x := fun o x ho => by
    rw [ag4 o x (by omega), ag3 o x (by omega)]
    unfold ez_up
    simp only [show ¬ o = 127 by omega, false_and, if_false]
    exact ag2 o x (by omega)
  refine ez_PI.in ⟨⟨e1, fun x hx => ?_, fun x hx => ?_⟩, Or.inl ⟨hnew, hv, ⟨?_, ?_, ?_, ?_⟩, ?_⟩⟩
  · rw [e0, ez_up_ne (by omega), ez_up_ne (by omega), ez_up_ne (by omega), ez_up_ne (by omega)]
    exact ag2 127 x (by omega)
  · rw [ag4 128 x (by omega), ag3 128 x (by decide)]
    unfold ez_up
    simp only [show ¬ ((128 : Int) = 127) by decide, false_and, if_false]
    exact ag2 128 x (by omega)
  · rw [e0, ez_up_ne (by omega), ez_up_ne (by omega), ez_up_ne (by omega), ez_up_eq]
  · rw [e0, ez_up_ne (by omega), ez_up_ne (by omega), ez_up_eq]
  · rw [e0, ez_up_ne (by omega), ez_up_eq]
  · rw [e0, ez_up_eq]
  · exact pm_gr_cong2 _ _ (fun j' j0 j1 => (dn4 j' (by omega) j1).symm) gr3
theorem md_n {h : ez_H} {p : Int} (w : md_W h p) : ((md_P h p).1 : Int) = h 123 p ∧ (md_P h p).1 ≤ 8 := by
  have := w.2.1
  constructor
  · show (((h 123 p).toNat : Nat) : Int) = _
    omega
  · show (h 123 p).toNat ≤ 8
    omega
theorem md_rf {h h1 : ez_H} {a b k s sx sy R : Int} (wa : md_W h a) (wb : md_W h b) (hR : h 121 1 = R) (hR1 : 0 ≤ R ∧ R ≤ 50) (hs : 1 ≤ s ∧ s ≤ 3) (hsx : -4000 ≤ sx ∧ sx ≤ 4000) (hsy : -4000 ≤ sy ∧ sy ≤ 4000) (ag : ∀ o k : Int, o ≠ 129 → o ≠ 130 → h1 o k = h o k)
    (dn : ∀ j' : Int, 0 ≤ j' → j' < (md_P h b).1 → h1 129 j' = s * fx_tx k (h 124 (8 * b + j')) (h 125 (8 * b + j')) + sx ∧ h1 130 j' = s * fx_ty k (h 124 (8 * b + j')) (h 125 (8 * b + j')) + sy) :
    rf_G h1 a b (md_P h a).1 (md_P h b).1 R (bl_g (md_P h a) (md_P h b) k s sx sy) := by
  have ea := md_n wa
  have eb := md_n wb
  unfold rf_G
  simp only [ag 121 _ (by decide) (by decide), ag 123 _ (by decide) (by decide), ag 124 _ (by decide) (by decide), ag 125 _ (by decide) (by decide)]
  refine ⟨wa.1, wb.1, ea.1.symm, ea.2, eb.1.symm, eb.2, hR, hR1.1, hR1.2, fun i i0 i1 => wa.2.2 i i0 (by omega), fun j j0 j1 => ?_, fun i j i0 i1 j0 j1 => ?_⟩
  · have x1 := wb.2.2 j j0 (by omega)
    have t1 := fx_t_bd (k := k) x1
    have t2 := fx_s_bd hs t1.1
    have t3 := fx_s_bd hs t1.2
    have d := dn j j0 j1
    omega
  · have d := dn j j0 j1
    rw [d.1, d.2]
    rfl
theorem c_X6_takes {a b best k s sx sy i j R : Int} {h : ez_H} (wa : md_W h a) (wb : md_W h b) (hR : h 121 1 = R) (hR1 : 0 ≤ R ∧ R ≤ 50) (hok : bl_ok (md_P h a) (md_P h b) k s i j) (ex : sx = bl_sx (md_P h a) (md_P h b) k s i j) (ey : sy = bl_sy (md_P h a) (md_P h b) k s i j) (hbest : best = -1 ∨ (1000 ≤ best ∧ best ≤ 8000)) : ez_Ct M_X6_takes [ez_R 121, ez_I a, ez_I b, ez_I best, ez_I k, ez_I s, ez_I sx, ez_I sy] h (ez_PI (fun h' z => md_F h h' (5 * a + b) ∧ ((bl_new R (md_P h a) (md_P h b) k s i j best (h 127 (6 * (5 * a + b) + 2)) (h 127 (6 * (5 * a + b) + 3)) (h 127 (6 * (5 * a + b) + 4)) (h 127 (6 * (5 * a + b) + 5)) ∧ z = bl_w R (md_P h a) (md_P h b) k s i j ∧ (h' 127 (6 * (5 * a + b) + 2) = k ∧ h' 127 (6 * (5 * a + b) + 3) = s ∧ h' 127 (6 * (5 * a + b) + 4) = sx ∧ h' 127 (6 * (5 * a + b) + 5) = sy) ∧ pm_gr (bl_g (md_P h a) (md_P h b) k s sx sy) R (md_P h a).1 (fun j' => h' 128 (8 * (5 * a + b) + j')) (md_P h b).1 (md_P h b).1 0) ∨ (¬ bl_new R (md_P h a) (md_P h b) k s i j best (h 127 (6 * (5 * a + b) + 2)) (h 127 (6 * (5 * a + b) + 3)) (h 127 (6 * (5 * a + b) + 4)) (h 127 (6 * (5 * a + b) + 5)) ∧ z = best ∧ (∀ x : Int, h' 127 x = h 127 x) ∧ ∀ x : Int, h' 128 x = h 128 x)))) := by
  have sb := md_sx_bd wa wb hok
  rw [← ex, ← ey] at sb
  have hs := hok.2.1
  have eA := md_n wa
  have eB := md_n wb
  have wa1 := wa.1
  have wb1 := wb.1
  refine ez_of (by decide) (Nat.le_of_ble_eq_true rfl) (L0 := [ez_R 121, ez_I a, ez_I b, ez_I best, ez_I k, ez_I s, ez_I sx, ez_I sy, ez_N, ez_N, ez_N, ez_N]) rfl ?_
  refine ez_iconst dX6_takes_0 (by decide) ?_
  refine ez_iload_n dX6_takes_1 rfl ?_
  refine ez_imul dX6_takes_2 (by omega) ?_
  refine ez_iload_n dX6_takes_3 rfl ?_
  refine ez_iadd dX6_takes_4 (by omega) ?_
  refine ez_istore dX6_takes_5 (by decide) ?_
  refine ez_aload_n dX6_takes_7 rfl ?_
  refine ez_iload_n dX6_takes_8 rfl ?_
  refine ez_iload dX6_takes_9 rfl ?_
  refine ez_iload dX6_takes_11 rfl ?_
  refine ez_iload dX6_takes_13 rfl ?_
  refine ez_iload dX6_takes_15 rfl ?_
  refine cl_X6_comes dX6_takes_17 ml_X6_87 ft_X6_takes__X6_comes (Nat.le_of_ble_eq_true rfl) (c_X6_comes (nB := (md_P h b).1) wb.1 eB.1.symm eB.2 (fun i i0 i1 => wb.2.2 i i0 (by omega)) (by omega) sb.1 sb.2) (ez_kV (fun h1 hh => ?_))
  obtain ⟨ag1, dn1⟩ := hh
  have H := md_rf wa wb hR hR1 (by omega) sb.1 sb.2 ag1 dn1
  refine ez_iload_n dX6_takes_20 rfl ?_
  refine ez_iconst dX6_takes_21 (by decide) ?_
  refine ez_ic_eq 40 dX6_takes_22 (by decide) (fun c_22 => ?_) (fun c_22 => ?_)
  · refine ez_aload_n dX6_takes_40 rfl ?_
    refine ez_iload_n dX6_takes_41 rfl ?_
    refine ez_iload_n dX6_takes_42 rfl ?_
    refine cl_X6_weighs dX6_takes_43 ml_X6_95 ft_X6_takes__X6_weighs (Nat.le_of_ble_eq_true rfl) (c_X6_weighs H) (ez_kI (fun h2 v hv => ?_))
    obtain ⟨ag2, dn2, ev⟩ := hv
    have ag2' : ∀ o x : Int, (o ≤ 128 ∨ 132 < o) → h2 o x = h o x := fun o x ho => (ag2 o x (by omega)).trans (ag1 o x (by omega) (by omega))
    have hwv : v = bl_w R (md_P h a) (md_P h b) k s i j := by unfold bl_w bl_v; rw [ev, ex, ey]
    have u2 := ag2' 127 (6 * (5 * a + b) + 2) (by omega)
    have u3 := ag2' 127 (6 * (5 * a + b) + 3) (by omega)
    have u4 := ag2' 127 (6 * (5 * a + b) + 4) (by omega)
    have u5 := ag2' 127 (6 * (5 * a + b) + 5) (by omega)
    refine ez_istore dX6_takes_46 (by decide) ?_
    refine ez_iload dX6_takes_48 rfl ?_
    refine ez_iload_n dX6_takes_50 rfl ?_
    refine ez_ic_gt 145 dX6_takes_51 (by decide) (fun c_51 => ?_) (fun c_51 => ?_)
    · refine ez_iconst dX6_takes_145 (by decide) ?_
      refine ez_goto 150 dX6_takes_146 (by decide) ?_
      refine ez_istore dX6_takes_150 (by decide) ?_
      refine ez_iload dX6_takes_152 rfl ?_
      refine ez_if_ne 159 dX6_takes_154 (by decide) (fun c_154 => ?_) (fun c_154 => ?_)
      · refine ez_lessS (L' := [ez_R 121, ez_I a, ez_I b, ez_I best, ez_I k, ez_I s, ez_I sx, ez_I sy, ez_I (5 * a + b), ez_I v, ez_N, ez_N]) ⟨Or.inr rfl, Or.inr rfl, Or.inr rfl, Or.inr rfl, Or.inr rfl, Or.inr rfl, Or.inr rfl, Or.inr rfl, Or.inr rfl, Or.inr rfl, Or.inl rfl, Or.inl rfl, trivial⟩ ?_
        exact tk_tail wb.1 wa.1 (H.keep (fun o x ho => ag2 o x (by omega))) ag2' dn2 hwv (by unfold bl_new; rw [← hwv, ← ex, ← ey]; omega)
      · exact absurd c_154 (by decide)
    · refine ez_iload dX6_takes_54 rfl ?_
      refine ez_iload_n dX6_takes_56 rfl ?_
      refine ez_ic_ne 149 dX6_takes_57 (by decide) (fun c_57 => ?_) (fun c_57 => ?_)
      · refine ez_iconst dX6_takes_149 (by decide) ?_
        refine ez_istore dX6_takes_150 (by decide) ?_
        refine ez_iload dX6_takes_152 rfl ?_
        refine ez_if_ne 159 dX6_takes_154 (by decide) (fun c_154 => ?_) (fun c_154 => ?_)
        · exact absurd c_154 (by decide)
        · refine ez_iload_n dX6_takes_157 rfl ?_
          refine ez_ireturn (st := []) dX6_takes_158 rfl ?_
          refine ez_PI.in ⟨⟨fun o x ho => ag2' o x (by omega), fun x _ => ag2' 127 x (by omega), fun x _ => ag2' 128 x (by omega)⟩, Or.inr ⟨?_, rfl, fun x => ag2' 127 x (by omega), fun x => ag2' 128 x (by omega)⟩⟩
          unfold bl_new
          rw [← hwv, ← ex, ← ey]
          omega
      · refine ez_iload dX6_takes_60 rfl ?_
        refine ez_aload_n dX6_takes_62 rfl ?_
        refine g6_7 dX6_takes_63 fl_X6_30 ?_
        refine ez_bipush dX6_takes_66 (by decide) (by decide) ?_
        refine ez_iload dX6_takes_68 rfl ?_
        refine ez_imul dX6_takes_70 (by omega) ?_
        refine ez_iconst dX6_takes_71 (by decide) ?_
        refine ez_iadd dX6_takes_72 (by omega) ?_
        refine al127 dX6_takes_73 (by omega) ?_
        refine ez_ic_ne 149 dX6_takes_74 (by decide) (fun c_74 => ?_) (fun c_74 => ?_)
        · refine ez_iconst dX6_takes_149 (by decide) ?_
          refine ez_istore dX6_takes_150 (by decide) ?_
          refine ez_iload dX6_takes_152 rfl ?_
          refine ez_if_ne 159 dX6_takes_154 (by decide) (fun c_154 => ?_) (fun c_154 => ?_)
          · exact absurd c_154 (by decide)
          · refine ez_iload_n dX6_takes_157 rfl ?_
            refine ez_ireturn (st := []) dX6_takes_158 rfl ?_
            refine ez_PI.in ⟨⟨fun o x ho => ag2' o x (by omega), fun x _ => ag2' 127 x (by omega), fun x _ => ag2' 128 x (by omega)⟩, Or.inr ⟨?_, rfl, fun x => ag2' 127 x (by omega), fun x => ag2' 128 x (by omega)⟩⟩
            unfold bl_new
            rw [← hwv, ← ex, ← ey]
            omega
        · refine ez_iload dX6_takes_77 rfl ?_
          refine ez_aload_n dX6_takes_79 rfl ?_
          refine g6_7 dX6_takes_80 fl_X6_30 ?_
          refine ez_bipush dX6_takes_83 (by decide) (by decide) ?_
          refine ez_iload dX6_takes_85 rfl ?_
          refine ez_imul dX6_takes_87 (by omega) ?_
          refine ez_iconst dX6_takes_88 (by decide) ?_
          refine ez_iadd dX6_takes_89 (by omega) ?_
          refine al127 dX6_takes_90 (by omega) ?_
          refine ez_ic_ne 149 dX6_takes_91 (by decide) (fun c_91 => ?_) (fun c_91 => ?_)
          · refine ez_iconst dX6_takes_149 (by decide) ?_
            refine ez_istore dX6_takes_150 (by decide) ?_
            refine ez_iload dX6_takes_152 rfl ?_
            refine ez_if_ne 159 dX6_takes_154 (by decide) (fun c_154 => ?_) (fun c_154 => ?_)
            · exact absurd c_154 (by decide)
            · refine ez_iload_n dX6_takes_157 rfl ?_
              refine ez_ireturn (st := []) dX6_takes_158 rfl ?_
              refine ez_PI.in ⟨⟨fun o x ho => ag2' o x (by omega), fun x _ => ag2' 127 x (by omega), fun x _ => ag2' 128 x (by omega)⟩, Or.inr ⟨?_, rfl, fun x => ag2' 127 x (by omega), fun x => ag2' 128 x (by omega)⟩⟩
              unfold bl_new
              rw [← hwv, ← ex, ← ey]
              omega
          · refine ez_iload dX6_takes_94 rfl ?_
            refine ez_aload_n dX6_takes_96 rfl ?_
            refine g6_7 dX6_takes_97 fl_X6_30 ?_
            refine ez_bipush dX6_takes_100 (by decide) (by decide) ?_
            refine ez_iload dX6_takes_102 rfl ?_
            refine ez_imul dX6_takes_104 (by omega) ?_
            refine ez_iconst dX6_takes_105 (by decide) ?_
            refine ez_iadd dX6_takes_106 (by omega) ?_
            refine al127 dX6_takes_107 (by omega) ?_
            refine ez_ic_lt 145 dX6_takes_108 (by decide) (fun c_108 => ?_) (fun c_108 => ?_)
            · refine ez_iconst dX6_takes_145 (by decide) ?_
              refine ez_goto 150 dX6_takes_146 (by decide) ?_
              refine ez_istore dX6_takes_150 (by decide) ?_
              refine ez_iload dX6_takes_152 rfl ?_
              refine ez_if_ne 159 dX6_takes_154 (by decide) (fun c_154 => ?_) (fun c_154 => ?_)
              · refine ez_lessS (L' := [ez_R 121, ez_I a, ez_I b, ez_I best, ez_I k, ez_I s, ez_I sx, ez_I sy, ez_I (5 * a + b), ez_I v, ez_N, ez_N]) ⟨Or.inr rfl, Or.inr rfl, Or.inr rfl, Or.inr rfl, Or.inr rfl, Or.inr rfl, Or.inr rfl, Or.inr rfl, Or.inr rfl, Or.inr rfl, Or.inl rfl, Or.inl rfl, trivial⟩ ?_
                exact tk_tail wb.1 wa.1 (H.keep (fun o x ho => ag2 o x (by omega))) ag2' dn2 hwv (by unfold bl_new; rw [← hwv, ← ex, ← ey]; omega)
              · exact absurd c_154 (by decide)
            · refine ez_iload dX6_takes_111 rfl ?_
              refine ez_aload_n dX6_takes_113 rfl ?_
              refine g6_7 dX6_takes_114 fl_X6_30 ?_
              refine ez_bipush dX6_takes_117 (by decide) (by decide) ?_
              refine ez_iload dX6_takes_119 rfl ?_
              refine ez_imul dX6_takes_121 (by omega) ?_
              refine ez_iconst dX6_takes_122 (by decide) ?_
              refine ez_iadd dX6_takes_123 (by omega) ?_
              refine al127 dX6_takes_124 (by omega) ?_
              refine ez_ic_ne 149 dX6_takes_125 (by decide) (fun c_125 => ?_) (fun c_125 => ?_)
              · refine ez_iconst dX6_takes_149 (by decide) ?_
                refine ez_istore dX6_takes_150 (by decide) ?_
                refine ez_iload dX6_takes_152 rfl ?_
                refine ez_if_ne 159 dX6_takes_154 (by decide) (fun c_154 => ?_) (fun c_154 => ?_)
                · exact absurd c_154 (by decide)
                · refine ez_iload_n dX6_takes_157 rfl ?_
                  refine ez_ireturn (st := []) dX6_takes_158 rfl ?_
                  refine ez_PI.in ⟨⟨fun o x ho => ag2' o x (by omega), fun x _ => ag2' 127 x (by omega), fun x _ => ag2' 128 x (by omega)⟩, Or.inr ⟨?_, rfl, fun x => ag2' 127 x (by omega), fun x => ag2' 128 x (by omega)⟩⟩
                  unfold bl_new
                  rw [← hwv, ← ex, ← ey]
                  omega
              · refine ez_iload dX6_takes_128 rfl ?_
                refine ez_aload_n dX6_takes_130 rfl ?_
                refine g6_7 dX6_takes_131 fl_X6_30 ?_
                refine ez_bipush dX6_takes_134 (by decide) (by decide) ?_
                refine ez_iload dX6_takes_136 rfl ?_
                refine ez_imul dX6_takes_138 (by omega) ?_
                refine ez_iconst dX6_takes_139 (by decide) ?_
                refine ez_iadd dX6_takes_140 (by omega) ?_
                refine al127 dX6_takes_141 (by omega) ?_
                refine ez_ic_ge 149 dX6_takes_142 (by decide) (fun c_142 => ?_) (fun c_142 => ?_)
                · refine ez_iconst dX6_takes_149 (by decide) ?_
                  refine ez_istore dX6_takes_150 (by decide) ?_
                  refine ez_iload dX6_takes_152 rfl ?_
                  refine ez_if_ne 159 dX6_takes_154 (by decide) (fun c_154 => ?_) (fun c_154 => ?_)
                  · exact absurd c_154 (by decide)
                  · refine ez_iload_n dX6_takes_157 rfl ?_
                    refine ez_ireturn (st := []) dX6_takes_158 rfl ?_
                    refine ez_PI.in ⟨⟨fun o x ho => ag2' o x (by omega), fun x _ => ag2' 127 x (by omega), fun x _ => ag2' 128 x (by omega)⟩, Or.inr ⟨?_, rfl, fun x => ag2' 127 x (by omega), fun x => ag2' 128 x (by omega)⟩⟩
                    unfold bl_new
                    rw [← hwv, ← ex, ← ey]
                    omega
                · refine ez_iconst dX6_takes_145 (by decide) ?_
                  refine ez_goto 150 dX6_takes_146 (by decide) ?_
                  refine ez_istore dX6_takes_150 (by decide) ?_
                  refine ez_iload dX6_takes_152 rfl ?_
                  refine ez_if_ne 159 dX6_takes_154 (by decide) (fun c_154 => ?_) (fun c_154 => ?_)
                  · refine ez_lessS (L' := [ez_R 121, ez_I a, ez_I b, ez_I best, ez_I k, ez_I s, ez_I sx, ez_I sy, ez_I (5 * a + b), ez_I v, ez_N, ez_N]) ⟨Or.inr rfl, Or.inr rfl, Or.inr rfl, Or.inr rfl, Or.inr rfl, Or.inr rfl, Or.inr rfl, Or.inr rfl, Or.inr rfl, Or.inr rfl, Or.inl rfl, Or.inl rfl, trivial⟩ ?_
                    exact tk_tail wb.1 wa.1 (H.keep (fun o x ho => ag2 o x (by omega))) ag2' dn2 hwv (by unfold bl_new; rw [← hwv, ← ex, ← ey]; omega)
                  · exact absurd c_154 (by decide)
  · refine ez_aload_n dX6_takes_25 rfl ?_
    refine ez_iload_n dX6_takes_26 rfl ?_
    refine ez_iload_n dX6_takes_27 rfl ?_
    refine cl_X6_near dX6_takes_28 ml_X6_91 ft_X6_takes__X6_near (Nat.le_of_ble_eq_true rfl) (c_X6_near H) (ez_kF ?_)
    refine ez_iload_n dX6_takes_31 rfl ?_
    refine cl_X6_count dX6_takes_32 ml_X6_84 ft_X6_takes__X6_count (Nat.le_of_ble_eq_true rfl) (c_X6_count (by omega)) (ez_kF ?_)
    refine ez_ic_ge 40 dX6_takes_35 (by decide) (fun c_35 => ?_) (fun c_35 => ?_)
    · refine ez_aload_n dX6_takes_40 rfl ?_
      refine ez_iload_n dX6_takes_41 rfl ?_
      refine ez_iload_n dX6_takes_42 rfl ?_
      refine cl_X6_weighs dX6_takes_43 ml_X6_95 ft_X6_takes__X6_weighs (Nat.le_of_ble_eq_true rfl) (c_X6_weighs H) (ez_kI (fun h2 v hv => ?_))
      obtain ⟨ag2, dn2, ev⟩ := hv
      have ag2' : ∀ o x : Int, (o ≤ 128 ∨ 132 < o) → h2 o x = h o x := fun o x ho => (ag2 o x (by omega)).trans (ag1 o x (by omega) (by omega))
      have hwv : v = bl_w R (md_P h a) (md_P h b) k s i j := by unfold bl_w bl_v; rw [ev, ex, ey]
      have u2 := ag2' 127 (6 * (5 * a + b) + 2) (by omega)
      have u3 := ag2' 127 (6 * (5 * a + b) + 3) (by omega)
      have u4 := ag2' 127 (6 * (5 * a + b) + 4) (by omega)
      have u5 := ag2' 127 (6 * (5 * a + b) + 5) (by omega)
      refine ez_istore dX6_takes_46 (by decide) ?_
      refine ez_iload dX6_takes_48 rfl ?_
      refine ez_iload_n dX6_takes_50 rfl ?_
      refine ez_ic_gt 145 dX6_takes_51 (by decide) (fun c_51 => ?_) (fun c_51 => ?_)
      · refine ez_iconst dX6_takes_145 (by decide) ?_
        refine ez_goto 150 dX6_takes_146 (by decide) ?_
        refine ez_istore dX6_takes_150 (by decide) ?_
        refine ez_iload dX6_takes_152 rfl ?_
        refine ez_if_ne 159 dX6_takes_154 (by decide) (fun c_154 => ?_) (fun c_154 => ?_)
        · refine ez_lessS (L' := [ez_R 121, ez_I a, ez_I b, ez_I best, ez_I k, ez_I s, ez_I sx, ez_I sy, ez_I (5 * a + b), ez_I v, ez_N, ez_N]) ⟨Or.inr rfl, Or.inr rfl, Or.inr rfl, Or.inr rfl, Or.inr rfl, Or.inr rfl, Or.inr rfl, Or.inr rfl, Or.inr rfl, Or.inr rfl, Or.inl rfl, Or.inl rfl, trivial⟩ ?_
          exact tk_tail wb.1 wa.1 (H.keep (fun o x ho => ag2 o x (by omega))) ag2' dn2 hwv (by unfold bl_new; rw [← hwv, ← ex, ← ey]; omega)
        · exact absurd c_154 (by decide)
      · refine ez_iload dX6_takes_54 rfl ?_
        refine ez_iload_n dX6_takes_56 rfl ?_
        refine ez_ic_ne 149 dX6_takes_57 (by decide) (fun c_57 => ?_) (fun c_57 => ?_)
        · refine ez_iconst dX6_takes_149 (by decide) ?_
          refine ez_istore dX6_takes_150 (by decide) ?_
          refine ez_iload dX6_takes_152 rfl ?_
          refine ez_if_ne 159 dX6_takes_154 (by decide) (fun c_154 => ?_) (fun c_154 => ?_)
          · exact absurd c_154 (by decide)
          · refine ez_iload_n dX6_takes_157 rfl ?_
            refine ez_ireturn (st := []) dX6_takes_158 rfl ?_
            refine ez_PI.in ⟨⟨fun o x ho => ag2' o x (by omega), fun x _ => ag2' 127 x (by omega), fun x _ => ag2' 128 x (by omega)⟩, Or.inr ⟨?_, rfl, fun x => ag2' 127 x (by omega), fun x => ag2' 128 x (by omega)⟩⟩
            unfold bl_new
            rw [← hwv, ← ex, ← ey]
            omega
        · refine ez_iload dX6_takes_60 rfl ?_
          refine ez_aload_n dX6_takes_62 rfl ?_
          refine g6_7 dX6_takes_63 fl_X6_30 ?_
          refine ez_bipush dX6_takes_66 (by decide) (by decide) ?_
          refine ez_iload dX6_takes_68 rfl ?_
          refine ez_imul dX6_takes_70 (by omega) ?_
          refine ez_iconst dX6_takes_71 (by decide) ?_
          refine ez_iadd dX6_takes_72 (by omega) ?_
          refine al127 dX6_takes_73 (by omega) ?_
          refine ez_ic_ne 149 dX6_takes_74 (by decide) (fun c_74 => ?_) (fun c_74 => ?_)
          · refine ez_iconst dX6_takes_149 (by decide) ?_
            refine ez_istore dX6_takes_150 (by decide) ?_
            refine ez_iload dX6_takes_152 rfl ?_
            refine ez_if_ne 159 dX6_takes_154 (by decide) (fun c_154 => ?_) (fun c_154 => ?_)
            · exact absurd c_154 (by decide)
            · refine ez_iload_n dX6_takes_157 rfl ?_
              refine ez_ireturn (st := []) dX6_takes_158 rfl ?_
              refine ez_PI.in ⟨⟨fun o x ho => ag2' o x (by omega), fun x _ => ag2' 127 x (by omega), fun x _ => ag2' 128 x (by omega)⟩, Or.inr ⟨?_, rfl, fun x => ag2' 127 x (by omega), fun x => ag2' 128 x (by omega)⟩⟩
              unfold bl_new
              rw [← hwv, ← ex, ← ey]
              omega
          · refine ez_iload dX6_takes_77 rfl ?_
            refine ez_aload_n dX6_takes_79 rfl ?_
            refine g6_7 dX6_takes_80 fl_X6_30 ?_
            refine ez_bipush dX6_takes_83 (by decide) (by decide) ?_
            refine ez_iload dX6_takes_85 rfl ?_
            refine ez_imul dX6_takes_87 (by omega) ?_
            refine ez_iconst dX6_takes_88 (by decide) ?_
            refine ez_iadd dX6_takes_89 (by omega) ?_
            refine al127 dX6_takes_90 (by omega) ?_
            refine ez_ic_ne 149 dX6_takes_91 (by decide) (fun c_91 => ?_) (fun c_91 => ?_)
            · refine ez_iconst dX6_takes_149 (by decide) ?_
              refine ez_istore dX6_takes_150 (by decide) ?_
              refine ez_iload dX6_takes_152 rfl ?_
              refine ez_if_ne 159 dX6_takes_154 (by decide) (fun c_154 => ?_) (fun c_154 => ?_)
              · exact absurd c_154 (by decide)
              · refine ez_iload_n dX6_takes_157 rfl ?_
                refine ez_ireturn (st := []) dX6_takes_158 rfl ?_
                refine ez_PI.in ⟨⟨fun o x ho => ag2' o x (by omega), fun x _ => ag2' 127 x (by omega), fun x _ => ag2' 128 x (by omega)⟩, Or.inr ⟨?_, rfl, fun x => ag2' 127 x (by omega), fun x => ag2' 128 x (by omega)⟩⟩
                unfold bl_new
                rw [← hwv, ← ex, ← ey]
                omega
            · refine ez_iload dX6_takes_94 rfl ?_
              refine ez_aload_n dX6_takes_96 rfl ?_
              refine g6_7 dX6_takes_97 fl_X6_30 ?_
              refine ez_bipush dX6_takes_100 (by decide) (by decide) ?_
              refine ez_iload dX6_takes_102 rfl ?_
              refine ez_imul dX6_takes_104 (by omega) ?_
              refine ez_iconst dX6_takes_105 (by decide) ?_
              refine ez_iadd dX6_takes_106 (by omega) ?_
              refine al127 dX6_takes_107 (by omega) ?_
              refine ez_ic_lt 145 dX6_takes_108 (by decide) (fun c_108 => ?_) (fun c_108 => ?_)
              · refine ez_iconst dX6_takes_145 (by decide) ?_
                refine ez_goto 150 dX6_takes_146 (by decide) ?_
                refine ez_istore dX6_takes_150 (by decide) ?_
                refine ez_iload dX6_takes_152 rfl ?_
                refine ez_if_ne 159 dX6_takes_154 (by decide) (fun c_154 => ?_) (fun c_154 => ?_)
                · refine ez_lessS (L' := [ez_R 121, ez_I a, ez_I b, ez_I best, ez_I k, ez_I s, ez_I sx, ez_I sy, ez_I (5 * a + b), ez_I v, ez_N, ez_N]) ⟨Or.inr rfl, Or.inr rfl, Or.inr rfl, Or.inr rfl, Or.inr rfl, Or.inr rfl, Or.inr rfl, Or.inr rfl, Or.inr rfl, Or.inr rfl, Or.inl rfl, Or.inl rfl, trivial⟩ ?_
                  exact tk_tail wb.1 wa.1 (H.keep (fun o x ho => ag2 o x (by omega))) ag2' dn2 hwv (by unfold bl_new; rw [← hwv, ← ex, ← ey]; omega)
                · exact absurd c_154 (by decide)
              · refine ez_iload dX6_takes_111 rfl ?_
                refine ez_aload_n dX6_takes_113 rfl ?_
                refine g6_7 dX6_takes_114 fl_X6_30 ?_
                refine ez_bipush dX6_takes_117 (by decide) (by decide) ?_
                refine ez_iload dX6_takes_119 rfl ?_
                refine ez_imul dX6_takes_121 (by omega) ?_
                refine ez_iconst dX6_takes_122 (by decide) ?_
                refine ez_iadd dX6_takes_123 (by omega) ?_
                refine al127 dX6_takes_124 (by omega) ?_
                refine ez_ic_ne 149 dX6_takes_125 (by decide) (fun c_125 => ?_) (fun c_125 => ?_)
                · refine ez_iconst dX6_takes_149 (by decide) ?_
                  refine ez_istore dX6_takes_150 (by decide) ?_
                  refine ez_iload dX6_takes_152 rfl ?_
                  refine ez_if_ne 159 dX6_takes_154 (by decide) (fun c_154 => ?_) (fun c_154 => ?_)
                  · exact absurd c_154 (by decide)
                  · refine ez_iload_n dX6_takes_157 rfl ?_
                    refine ez_ireturn (st := []) dX6_takes_158 rfl ?_
                    refine ez_PI.in ⟨⟨fun o x ho => ag2' o x (by omega), fun x _ => ag2' 127 x (by omega), fun x _ => ag2' 128 x (by omega)⟩, Or.inr ⟨?_, rfl, fun x => ag2' 127 x (by omega), fun x => ag2' 128 x (by omega)⟩⟩
                    unfold bl_new
                    rw [← hwv, ← ex, ← ey]
                    omega
                · refine ez_iload dX6_takes_128 rfl ?_
                  refine ez_aload_n dX6_takes_130 rfl ?_
                  refine g6_7 dX6_takes_131 fl_X6_30 ?_
                  refine ez_bipush dX6_takes_134 (by decide) (by decide) ?_
                  refine ez_iload dX6_takes_136 rfl ?_
                  refine ez_imul dX6_takes_138 (by omega) ?_
                  refine ez_iconst dX6_takes_139 (by decide) ?_
                  refine ez_iadd dX6_takes_140 (by omega) ?_
                  refine al127 dX6_takes_141 (by omega) ?_
                  refine ez_ic_ge 149 dX6_takes_142 (by decide) (fun c_142 => ?_) (fun c_142 => ?_)
                  · refine ez_iconst dX6_takes_149 (by decide) ?_
                    refine ez_istore dX6_takes_150 (by decide) ?_
                    refine ez_iload dX6_takes_152 rfl ?_
                    refine ez_if_ne 159 dX6_takes_154 (by decide) (fun c_154 => ?_) (fun c_154 => ?_)
                    · exact absurd c_154 (by decide)
                    · refine ez_iload_n dX6_takes_157 rfl ?_
                      refine ez_ireturn (st := []) dX6_takes_158 rfl ?_
                      refine ez_PI.in ⟨⟨fun o x ho => ag2' o x (by omega), fun x _ => ag2' 127 x (by omega), fun x _ => ag2' 128 x (by omega)⟩, Or.inr ⟨?_, rfl, fun x => ag2' 127 x (by omega), fun x => ag2' 128 x (by omega)⟩⟩
                      unfold bl_new
                      rw [← hwv, ← ex, ← ey]
                      omega
                  · refine ez_iconst dX6_takes_145 (by decide) ?_
                    refine ez_goto 150 dX6_takes_146 (by decide) ?_
                    refine ez_istore dX6_takes_150 (by decide) ?_
                    refine ez_iload dX6_takes_152 rfl ?_
                    refine ez_if_ne 159 dX6_takes_154 (by decide) (fun c_154 => ?_) (fun c_154 => ?_)
                    · refine ez_lessS (L' := [ez_R 121, ez_I a, ez_I b, ez_I best, ez_I k, ez_I s, ez_I sx, ez_I sy, ez_I (5 * a + b), ez_I v, ez_N, ez_N]) ⟨Or.inr rfl, Or.inr rfl, Or.inr rfl, Or.inr rfl, Or.inr rfl, Or.inr rfl, Or.inr rfl, Or.inr rfl, Or.inr rfl, Or.inr rfl, Or.inl rfl, Or.inl rfl, trivial⟩ ?_
                      exact tk_tail wb.1 wa.1 (H.keep (fun o x ho => ag2 o x (by omega))) ag2' dn2 hwv (by unfold bl_new; rw [← hwv, ← ex, ← ey]; omega)
                    · exact absurd c_154 (by decide)
    · refine ez_iload_n dX6_takes_38 rfl ?_
      refine ez_ireturn (st := []) dX6_takes_39 rfl ?_
      have hnv := pm_nr_val (R := R) (nA := (md_P h a).1) (nB := (md_P h b).1) (fun i' j' i1 j0 j1 => (H.g (show (0 : Int) ≤ i' by omega) (by omega) j0 j1).1) (md_P h b).1 (by omega) 0
      have hwv : pm_val (bl_g (md_P h a) (md_P h b) k s sx sy) R (md_P h a).1 (md_P h b).1 (md_P h b).1 0 = bl_w R (md_P h a) (md_P h b) k s i j := by unfold bl_w bl_v; rw [ex, ey]
      refine ez_PI.in ⟨⟨fun o x ho => ag1 o x (by omega) (by omega), fun x _ => ag1 127 x (by omega) (by omega), fun x _ => ag1 128 x (by omega) (by omega)⟩, Or.inr ⟨?_, rfl, fun x => ag1 127 x (by omega) (by omega), fun x => ag1 128 x (by omega) (by omega)⟩⟩
      unfold bl_new
      rw [← hwv]
      omega
