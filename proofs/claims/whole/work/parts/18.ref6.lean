/-! the reference's lays: all lays of b on a -/
def be_ (k s i j k' s' i' j' : Int) : Prop := k' < k ∨ (k' = k ∧ (s' < s ∨ (s' = s ∧ (i' < i ∨ (i' = i ∧ j' < j)))))
def md_I (h : ez_H) (at_ R best : Int) (A B : bl_P) (P : Int → Int → Int → Int → Prop) : Prop :=
  (best = -1 ∧ ∀ k' s' i' j' : Int, bl_ok A B k' s' i' j' → ¬ P k' s' i' j') ∨
  ((bl_top R A B P (h 127 (6 * at_ + 2)) (h 127 (6 * at_ + 3)) (h 127 (6 * at_ + 4)) (h 127 (6 * at_ + 5)) ∧ best = bl_v R A B (h 127 (6 * at_ + 2)) (h 127 (6 * at_ + 3)) (h 127 (6 * at_ + 4)) (h 127 (6 * at_ + 5))) ∧
   pm_gr (bl_g A B (h 127 (6 * at_ + 2)) (h 127 (6 * at_ + 3)) (h 127 (6 * at_ + 4)) (h 127 (6 * at_ + 5))) R A.1 (fun j' => h 128 (8 * at_ + j')) B.1 B.1 0)
theorem md_I.iff {h : ez_H} {at_ R best : Int} {A B : bl_P} {P P' : Int → Int → Int → Int → Prop} (hI : md_I h at_ R best A B P) (hP : ∀ k' s' i' j' : Int, bl_ok A B k' s' i' j' → (P' k' s' i' j' ↔ P k' s' i' j')) : md_I h at_ R best A B P' := by
  rcases hI with ⟨h1, h2⟩ | ⟨⟨h1, h2⟩, h3⟩
  · exact Or.inl ⟨h1, fun k' s' i' j' hk hp => h2 k' s' i' j' hk ((hP k' s' i' j' hk).mp hp)⟩
  · exact Or.inr ⟨⟨bl_top_iff h1 hP, h2⟩, h3⟩
theorem bl_v_bd {R : Int} {A B : bl_P} {k s x y : Int} (hB : B.1 ≤ 8) : 0 ≤ bl_v R A B k s x y ∧ bl_v R A B k s x y ≤ 8000 := by
  have := pm_val_bd (g := bl_g A B k s x y) (R := R) (nA := A.1) (nB := B.1) (fun i' j' _ _ _ => by unfold bl_g fx_far; omega) B.1 (by omega) 0
  unfold bl_v
  omega
theorem md_I.rng {h : ez_H} {at_ R best : Int} {A B : bl_P} {P : Int → Int → Int → Int → Prop} (hI : md_I h at_ R best A B P) (hR : 0 ≤ R) (hB : B.1 ≤ 8) : best = -1 ∨ (1000 ≤ best ∧ best ≤ 8000) := by
  rcases hI with ⟨h1, -⟩ | ⟨⟨⟨⟨i, j, a1, -, a2, a3⟩, -⟩, h2⟩, -⟩
  · exact Or.inl h1
  · refine Or.inr ⟨?_, ?_⟩
    · rw [h2, a2, a3]
      exact bl_w_pos hR a1
    · rw [h2]
      exact (bl_v_bd hB).2
theorem md_I.step {h h2 : ez_H} {at_ R best z k s i j : Int} {A B : bl_P} (hI : md_I h at_ R best A B (be_ k s i j)) (hR : 0 ≤ R) (hok : bl_ok A B k s i j)
    (hz : (bl_new R A B k s i j best (h 127 (6 * at_ + 2)) (h 127 (6 * at_ + 3)) (h 127 (6 * at_ + 4)) (h 127 (6 * at_ + 5)) ∧ z = bl_w R A B k s i j ∧ (h2 127 (6 * at_ + 2) = k ∧ h2 127 (6 * at_ + 3) = s ∧ h2 127 (6 * at_ + 4) = bl_sx A B k s i j ∧ h2 127 (6 * at_ + 5) = bl_sy A B k s i j) ∧ pm_gr (bl_g A B k s (bl_sx A B k s i j) (bl_sy A B k s i j)) R A.1 (fun j' => h2 128 (8 * at_ + j')) B.1 B.1 0) ∨
      (¬ bl_new R A B k s i j best (h 127 (6 * at_ + 2)) (h 127 (6 * at_ + 3)) (h 127 (6 * at_ + 4)) (h 127 (6 * at_ + 5)) ∧ z = best ∧ (∀ x : Int, h2 127 x = h 127 x) ∧ ∀ x : Int, h2 128 x = h 128 x)) :
    md_I h2 at_ R z A B (be_ k s i (j + 1)) := by
  have hP : ∀ k' s' i' j' : Int, bl_ok A B k' s' i' j' → (be_ k s i (j + 1) k' s' i' j' ↔ be_ k s i j k' s' i' j' ∨ (k' = k ∧ s' = s ∧ i' = i ∧ j' = j)) := fun k' s' i' j' _ => by
    unfold be_
    omega
  have hks : ∀ k' s' i' j' : Int, bl_ok A B k' s' i' j' → be_ k s i j k' s' i' j' → k' < k ∨ (k' = k ∧ s' ≤ s) := fun k' s' i' j' _ hb => by
    unfold be_ at hb
    omega
  have hw := bl_w_pos hR hok
  have hI2 : (best = -1 ∧ ∀ k' s' i' j' : Int, bl_ok A B k' s' i' j' → ¬ be_ k s i j k' s' i' j') ∨ (bl_top R A B (be_ k s i j) (h 127 (6 * at_ + 2)) (h 127 (6 * at_ + 3)) (h 127 (6 * at_ + 4)) (h 127 (6 * at_ + 5)) ∧ best = bl_v R A B (h 127 (6 * at_ + 2)) (h 127 (6 * at_ + 3)) (h 127 (6 * at_ + 4)) (h 127 (6 * at_ + 5))) := by
    rcases hI with q | q
    · exact Or.inl q
    · exact Or.inr q.1
  rcases hz with ⟨n1, n2, ⟨n3, n4, n5, n6⟩, n7⟩ | ⟨n1, n2, n3, n4⟩
  · refine Or.inr ⟨?_, ?_⟩
    · rw [n3, n4, n5, n6]
      exact ⟨bl_top_new hok hP hks hI2 n1 (by omega), n2⟩
    · rw [n3, n4, n5, n6]
      exact n7
  · refine Or.inr ⟨?_, ?_⟩
    · rw [n3, n3, n3, n3, n2]
      exact bl_top_old hok hP hks hI2 n1 (by omega)
    · rcases hI with ⟨q1, -⟩ | ⟨-, q⟩
      · exact absurd n1 (fun q => by unfold bl_new at q; omega)
      · rw [n3, n3, n3, n3]
        have e : (fun j' => h2 128 (8 * at_ + j')) = fun j' => h 128 (8 * at_ + j') := funext fun j' => n4 _
        rw [e]
        exact q
theorem md_F.rf (h : ez_H) (at_ : Int) : md_F h h at_ := ⟨fun _ _ _ => rfl, fun _ _ => rfl, fun _ _ => rfl⟩
theorem md_F.tr {h h1 h2 : ez_H} {at_ : Int} (f1 : md_F h h1 at_) (f2 : md_F h1 h2 at_) : md_F h h2 at_ := ⟨fun o k ho => (f2.1 o k ho).trans (f1.1 o k ho), fun k hk => (f2.2.1 k hk).trans (f1.2.1 k hk), fun k hk => (f2.2.2 k hk).trans (f1.2.2 k hk)⟩
theorem lp_l4 {a b R : Int} {h : ez_H} {k s : Int} {i : Nat} {Q : ez_H → Option ez_V → Prop} (wa : md_W h a) (wb : md_W h b) (hR : h 121 1 = R) (hR1 : 0 ≤ R ∧ R ≤ 50) (hk : 0 ≤ k ∧ k < 4) (hs : 1 ≤ s ∧ s < 4) (hi : i < (md_P h a).1) (kx : ∀ best h', md_F h h' (5 * a + b) → md_I h' (5 * a + b) R best (md_P h a) (md_P h b) (be_ k s i (md_P h b).1) → ez_En M_X6_lays 190 [ez_R 121, ez_I a, ez_I b, ez_I (5 * a + b), ez_I best, ez_I k, ez_I s, ez_I (i : Nat), ez_N, ez_N, ez_N] [] h' Q) : ∀ (n : Nat) (j : Nat) (best : Int) (h' : ez_H), (j ≤ (md_P h b).1) → (md_F h h' (5 * a + b)) → (md_I h' (5 * a + b) R best (md_P h a) (md_P h b) (be_ k s i j)) → (md_P h b).1 - j < n → ez_En M_X6_lays 61 [ez_R 121, ez_I a, ez_I b, ez_I (5 * a + b), ez_I best, ez_I k, ez_I s, ez_I (i : Nat), ez_I (j : Nat), ez_N, ez_N] [] h' Q := by
  intro n
  induction n with
  | zero =>
    intro j best h' j1 fr inv hm
    exfalso
    omega
  | succ n ih =>
    intro j best h' j1 fr inv hm
    have wa' := wa.keep (h' := h') (fun o x ho => fr.1 o x (by omega))
    have wb' := wb.keep (h' := h') (fun o x ho => fr.1 o x (by omega))
    have eA := md_P.keep (h := h) (h' := h') (fun o x ho => fr.1 o x (by omega)) a
    have eB := md_P.keep (h := h) (h' := h') (fun o x ho => fr.1 o x (by omega)) b
    have nA := md_n wa
    have nB := md_n wb
    have mA := fr.1 123 a (by omega)
    have mB := fr.1 123 b (by omega)
    have ra := wa.1
    have rb := wb.1
    refine ez_iload dX6_lays_61 rfl ?_
    refine ez_aload_n dX6_lays_63 rfl ?_
    refine g6_3 dX6_lays_64 fl_X6_17 ?_
    refine ez_iload_n dX6_lays_67 rfl ?_
    refine al123 dX6_lays_68 (by omega) ?_
    refine ez_ic_ge 190 dX6_lays_69 (by decide) (fun c_69 => ?_) (fun c_69 => ?_)
    · refine ez_lessS (L' := [ez_R 121, ez_I a, ez_I b, ez_I (5 * a + b), ez_I best, ez_I k, ez_I s, ez_I (i : Nat), ez_N, ez_N, ez_N]) ⟨Or.inr rfl, Or.inr rfl, Or.inr rfl, Or.inr rfl, Or.inr rfl, Or.inr rfl, Or.inr rfl, Or.inr rfl, Or.inl rfl, Or.inl rfl, Or.inl rfl, trivial⟩ ?_
      exact kx best h' fr (by rw [show ((md_P h b).1 : Int) = j by omega]; exact inv)
    · have hj : j < (md_P h b).1 := by omega
      have x1 := wa'.2.2 i (by omega) (by omega)
      have x2 := wb'.2.2 j (by omega) (by omega)
      have t1 := fx_t_bd (k := k) x2
      have t2 := fx_s_bd (s := s) (by omega) t1.1
      have t3 := fx_s_bd (s := s) (by omega) t1.2
      have hok : bl_ok (md_P h a) (md_P h b) k s i j := ⟨by omega, by omega, by omega, by omega⟩
      have hok' : bl_ok (md_P h' a) (md_P h' b) k s i j := by rw [eA, eB]; exact hok
      refine ez_aload_n dX6_lays_72 rfl ?_
      refine g6_4 dX6_lays_73 fl_X6_20 ?_
      refine ez_bipush dX6_lays_76 (by decide) (by decide) ?_
      refine ez_iload_n dX6_lays_78 rfl ?_
      refine ez_imul dX6_lays_79 (by omega) ?_
      refine ez_iload dX6_lays_80 rfl ?_
      refine ez_iadd dX6_lays_82 (by omega) ?_
      refine al124 dX6_lays_83 (by omega) ?_
      refine ez_iload dX6_lays_84 rfl ?_
      refine ez_iload dX6_lays_86 rfl ?_
      refine ez_aload_n dX6_lays_88 rfl ?_
      refine g6_4 dX6_lays_89 fl_X6_20 ?_
      refine ez_bipush dX6_lays_92 (by decide) (by decide) ?_
      refine ez_iload_n dX6_lays_94 rfl ?_
      refine ez_imul dX6_lays_95 (by omega) ?_
      refine ez_iload dX6_lays_96 rfl ?_
      refine ez_iadd dX6_lays_98 (by omega) ?_
      refine al124 dX6_lays_99 (by omega) ?_
      refine ez_aload_n dX6_lays_100 rfl ?_
      refine g6_5 dX6_lays_101 fl_X6_23 ?_
      refine ez_bipush dX6_lays_104 (by decide) (by decide) ?_
      refine ez_iload_n dX6_lays_106 rfl ?_
      refine ez_imul dX6_lays_107 (by omega) ?_
      refine ez_iload dX6_lays_108 rfl ?_
      refine ez_iadd dX6_lays_110 (by omega) ?_
      refine al125 dX6_lays_111 (by omega) ?_
      refine cl_X6_turnX dX6_lays_112 ml_X6_66 ft_X6_lays__X6_turnX (Nat.le_of_ble_eq_true rfl) (c_X6_turnX (by omega)) (ez_kF ?_)
      refine ez_imul dX6_lays_115 (by omega) ?_
      refine ez_isub dX6_lays_116 (by omega) ?_
      refine ez_istore dX6_lays_117 (by decide) ?_
      refine ez_aload_n dX6_lays_119 rfl ?_
      refine g6_5 dX6_lays_120 fl_X6_23 ?_
      refine ez_bipush dX6_lays_123 (by decide) (by decide) ?_
      refine ez_iload_n dX6_lays_125 rfl ?_
      refine ez_imul dX6_lays_126 (by omega) ?_
      refine ez_iload dX6_lays_127 rfl ?_
      refine ez_iadd dX6_lays_129 (by omega) ?_
      refine al125 dX6_lays_130 (by omega) ?_
      refine ez_iload dX6_lays_131 rfl ?_
      refine ez_iload dX6_lays_133 rfl ?_
      refine ez_aload_n dX6_lays_135 rfl ?_
      refine g6_4 dX6_lays_136 fl_X6_20 ?_
      refine ez_bipush dX6_lays_139 (by decide) (by decide) ?_
      refine ez_iload_n dX6_lays_141 rfl ?_
      refine ez_imul dX6_lays_142 (by omega) ?_
      refine ez_iload dX6_lays_143 rfl ?_
      refine ez_iadd dX6_lays_145 (by omega) ?_
      refine al124 dX6_lays_146 (by omega) ?_
      refine ez_aload_n dX6_lays_147 rfl ?_
      refine g6_5 dX6_lays_148 fl_X6_23 ?_
      refine ez_bipush dX6_lays_151 (by decide) (by decide) ?_
      refine ez_iload_n dX6_lays_153 rfl ?_
      refine ez_imul dX6_lays_154 (by omega) ?_
      refine ez_iload dX6_lays_155 rfl ?_
      refine ez_iadd dX6_lays_157 (by omega) ?_
      refine al125 dX6_lays_158 (by omega) ?_
      refine cl_X6_turnY dX6_lays_159 ml_X6_70 ft_X6_lays__X6_turnY (Nat.le_of_ble_eq_true rfl) (c_X6_turnY (by omega)) (ez_kF ?_)
      refine ez_imul dX6_lays_162 (by omega) ?_
      refine ez_isub dX6_lays_163 (by omega) ?_
      refine ez_istore dX6_lays_164 (by decide) ?_
      refine ez_aload_n dX6_lays_166 rfl ?_
      refine ez_iload_n dX6_lays_167 rfl ?_
      refine ez_iload_n dX6_lays_168 rfl ?_
      refine ez_iload dX6_lays_169 rfl ?_
      refine ez_iload dX6_lays_171 rfl ?_
      refine ez_iload dX6_lays_173 rfl ?_
      refine ez_iload dX6_lays_175 rfl ?_
      refine ez_iload dX6_lays_177 rfl ?_
      refine cl_X6_takes dX6_lays_179 ml_X6_80 ft_X6_lays__X6_takes (Nat.le_of_ble_eq_true rfl) (c_X6_takes (h := h') (i := i) (j := j) (R := R) wa' wb' ((fr.1 121 1 (by omega)).trans hR) hR1 hok' rfl rfl (inv.rng hR1.1 nB.2)) (ez_kI (fun h2 z hz => ?_))
      obtain ⟨f2, hz⟩ := hz
      rw [eA, eB] at hz
      have e1 : h' 124 (8 * a + (i : Int)) - s * fx_tx k (h' 124 (8 * b + (j : Int))) (h' 125 (8 * b + (j : Int))) = bl_sx (md_P h a) (md_P h b) k s i j := by rw [← eA, ← eB]; rfl
      have e2 : h' 125 (8 * a + (i : Int)) - s * fx_ty k (h' 124 (8 * b + (j : Int))) (h' 125 (8 * b + (j : Int))) = bl_sy (md_P h a) (md_P h b) k s i j := by rw [← eA, ← eB]; rfl
      rw [e1, e2] at hz
      have inv2 := inv.step hR1.1 hok hz
      refine ez_istore dX6_lays_182 (by decide) ?_
      refine ez_iinc dX6_lays_184 rfl (by decide) (by decide) (by omega) ?_
      refine ez_goto 61 dX6_lays_187 (by decide) ?_
      refine ez_lessS (L' := [ez_R 121, ez_I a, ez_I b, ez_I (5 * a + b), ez_I z, ez_I k, ez_I s, ez_I (i : Nat), ez_I ((j + 1 : Nat) : Int), ez_N, ez_N]) ⟨Or.inr rfl, Or.inr rfl, Or.inr rfl, Or.inr rfl, Or.inr rfl, Or.inr rfl, Or.inr rfl, Or.inr rfl, Or.inr rfl, Or.inl rfl, Or.inl rfl, trivial⟩ ?_
      exact ih (j + 1) z h2 (by omega) (fr.tr f2) (by push_cast; exact inv2) (by omega)
theorem lp_l3 {a b R : Int} {h : ez_H} {k s : Int} {Q : ez_H → Option ez_V → Prop} (wa : md_W h a) (wb : md_W h b) (hR : h 121 1 = R) (hR1 : 0 ≤ R ∧ R ≤ 50) (hk : 0 ≤ k ∧ k < 4) (hs : 1 ≤ s ∧ s < 4) (kx : ∀ best h', md_F h h' (5 * a + b) → md_I h' (5 * a + b) R best (md_P h a) (md_P h b) (be_ k s (md_P h a).1 0) → ez_En M_X6_lays 196 [ez_R 121, ez_I a, ez_I b, ez_I (5 * a + b), ez_I best, ez_I k, ez_I s, ez_N, ez_N, ez_N, ez_N] [] h' Q) : ∀ (n : Nat) (i : Nat) (best : Int) (h' : ez_H), (i ≤ (md_P h a).1) → (md_F h h' (5 * a + b)) → (md_I h' (5 * a + b) R best (md_P h a) (md_P h b) (be_ k s i 0)) → (md_P h a).1 - i < n → ez_En M_X6_lays 47 [ez_R 121, ez_I a, ez_I b, ez_I (5 * a + b), ez_I best, ez_I k, ez_I s, ez_I (i : Nat), ez_N, ez_N, ez_N] [] h' Q := by
  intro n
  induction n with
  | zero =>
    intro i best h' i1 fr inv hm
    exfalso
    omega
  | succ n ih =>
    intro i best h' i1 fr inv hm
    have wa' := wa.keep (h' := h') (fun o x ho => fr.1 o x (by omega))
    have wb' := wb.keep (h' := h') (fun o x ho => fr.1 o x (by omega))
    have eA := md_P.keep (h := h) (h' := h') (fun o x ho => fr.1 o x (by omega)) a
    have eB := md_P.keep (h := h) (h' := h') (fun o x ho => fr.1 o x (by omega)) b
    have nA := md_n wa
    have nB := md_n wb
    have mA := fr.1 123 a (by omega)
    have mB := fr.1 123 b (by omega)
    have ra := wa.1
    have rb := wb.1
    refine ez_iload dX6_lays_47 rfl ?_
    refine ez_aload_n dX6_lays_49 rfl ?_
    refine g6_3 dX6_lays_50 fl_X6_17 ?_
    refine ez_iload_n dX6_lays_53 rfl ?_
    refine al123 dX6_lays_54 (by omega) ?_
    refine ez_ic_ge 196 dX6_lays_55 (by decide) (fun c_55 => ?_) (fun c_55 => ?_)
    · refine ez_lessS (L' := [ez_R 121, ez_I a, ez_I b, ez_I (5 * a + b), ez_I best, ez_I k, ez_I s, ez_N, ez_N, ez_N, ez_N]) ⟨Or.inr rfl, Or.inr rfl, Or.inr rfl, Or.inr rfl, Or.inr rfl, Or.inr rfl, Or.inr rfl, Or.inl rfl, Or.inl rfl, Or.inl rfl, Or.inl rfl, trivial⟩ ?_
      exact kx best h' fr (by rw [show ((md_P h a).1 : Int) = i by omega]; exact inv)
    · refine ez_iconst dX6_lays_58 (by decide) ?_
      refine ez_istore dX6_lays_59 (by decide) ?_
      refine lp_l4 wa wb hR hR1 hk hs (by omega) (fun best2 h2 fr2 inv2 => ?_) ((md_P h b).1 + 1) 0 best h' (by omega) fr inv (by omega)
      refine ez_iinc dX6_lays_190 rfl (by decide) (by decide) (by omega) ?_
      refine ez_goto 47 dX6_lays_193 (by decide) ?_
      refine ez_lessS (L' := [ez_R 121, ez_I a, ez_I b, ez_I (5 * a + b), ez_I best2, ez_I k, ez_I s, ez_I ((i + 1 : Nat) : Int), ez_N, ez_N, ez_N]) ⟨Or.inr rfl, Or.inr rfl, Or.inr rfl, Or.inr rfl, Or.inr rfl, Or.inr rfl, Or.inr rfl, Or.inr rfl, Or.inl rfl, Or.inl rfl, Or.inl rfl, trivial⟩ ?_
      exact ih (i + 1) best2 h2 (by omega) fr2 (inv2.iff (fun k' s' i' j' hk' => by have q := hk'.2.2.2; unfold be_; push_cast; omega)) (by omega)
theorem lp_l2 {a b R : Int} {h : ez_H} {k : Int} {Q : ez_H → Option ez_V → Prop} (wa : md_W h a) (wb : md_W h b) (hR : h 121 1 = R) (hR1 : 0 ≤ R ∧ R ≤ 50) (hk : 0 ≤ k ∧ k < 4) (kx : ∀ best h', md_F h h' (5 * a + b) → md_I h' (5 * a + b) R best (md_P h a) (md_P h b) (be_ k 4 0 0) → ez_En M_X6_lays 202 [ez_R 121, ez_I a, ez_I b, ez_I (5 * a + b), ez_I best, ez_I k, ez_N, ez_N, ez_N, ez_N, ez_N] [] h' Q) : ∀ (n : Nat) (s : Int) (best : Int) (h' : ez_H), (1 ≤ s) → (s ≤ 4) → (md_F h h' (5 * a + b)) → (md_I h' (5 * a + b) R best (md_P h a) (md_P h b) (be_ k s 0 0)) → 4 - s < n → ez_En M_X6_lays 38 [ez_R 121, ez_I a, ez_I b, ez_I (5 * a + b), ez_I best, ez_I k, ez_I s, ez_N, ez_N, ez_N, ez_N] [] h' Q := by
  intro n
  induction n with
  | zero =>
    intro s best h' s0 s1 fr inv hm
    exfalso
    omega
  | succ n ih =>
    intro s best h' s0 s1 fr inv hm
    have wa' := wa.keep (h' := h') (fun o x ho => fr.1 o x (by omega))
    have wb' := wb.keep (h' := h') (fun o x ho => fr.1 o x (by omega))
    have eA := md_P.keep (h := h) (h' := h') (fun o x ho => fr.1 o x (by omega)) a
    have eB := md_P.keep (h := h) (h' := h') (fun o x ho => fr.1 o x (by omega)) b
    have nA := md_n wa
    have nB := md_n wb
    have mA := fr.1 123 a (by omega)
    have mB := fr.1 123 b (by omega)
    have ra := wa.1
    have rb := wb.1
    refine ez_iload dX6_lays_38 rfl ?_
    refine ez_iconst dX6_lays_40 (by decide) ?_
    refine ez_ic_ge 202 dX6_lays_41 (by decide) (fun c_41 => ?_) (fun c_41 => ?_)
    · refine ez_lessS (L' := [ez_R 121, ez_I a, ez_I b, ez_I (5 * a + b), ez_I best, ez_I k, ez_N, ez_N, ez_N, ez_N, ez_N]) ⟨Or.inr rfl, Or.inr rfl, Or.inr rfl, Or.inr rfl, Or.inr rfl, Or.inr rfl, Or.inl rfl, Or.inl rfl, Or.inl rfl, Or.inl rfl, Or.inl rfl, trivial⟩ ?_
      exact kx best h' fr (by rw [show (4 : Int) = s by omega]; exact inv)
    · refine ez_iconst dX6_lays_44 (by decide) ?_
      refine ez_istore dX6_lays_45 (by decide) ?_
      refine lp_l3 wa wb hR hR1 hk (by omega) (fun best2 h2 fr2 inv2 => ?_) ((md_P h a).1 + 1) 0 best h' (by omega) fr inv (by omega)
      refine ez_iinc dX6_lays_196 rfl (by decide) (by decide) (by omega) ?_
      refine ez_goto 38 dX6_lays_199 (by decide) ?_
      refine ez_lessS (L' := [ez_R 121, ez_I a, ez_I b, ez_I (5 * a + b), ez_I best2, ez_I k, ez_I (s + 1), ez_N, ez_N, ez_N, ez_N]) ⟨Or.inr rfl, Or.inr rfl, Or.inr rfl, Or.inr rfl, Or.inr rfl, Or.inr rfl, Or.inr rfl, Or.inl rfl, Or.inl rfl, Or.inl rfl, Or.inl rfl, trivial⟩ ?_
      exact ih (s + 1) best2 h2 (by omega) (by omega) fr2 (inv2.iff (fun k' s' i' j' hk' => by have q := hk'.2.2.1; have q2 := hk'.2.2.2; unfold be_; omega)) (by omega)
theorem lp_l1 {a b R : Int} {h : ez_H} {Q : ez_H → Option ez_V → Prop} (wa : md_W h a) (wb : md_W h b) (hR : h 121 1 = R) (hR1 : 0 ≤ R ∧ R ≤ 50) (kx : ∀ best h', md_F h h' (5 * a + b) → md_I h' (5 * a + b) R best (md_P h a) (md_P h b) (be_ 4 1 0 0) → ez_En M_X6_lays 208 [ez_R 121, ez_I a, ez_I b, ez_I (5 * a + b), ez_I best, ez_N, ez_N, ez_N, ez_N, ez_N, ez_N] [] h' Q) : ∀ (n : Nat) (k : Int) (best : Int) (h' : ez_H), (0 ≤ k) → (k ≤ 4) → (md_F h h' (5 * a + b)) → (md_I h' (5 * a + b) R best (md_P h a) (md_P h b) (be_ k 1 0 0)) → 4 - k < n → ez_En M_X6_lays 29 [ez_R 121, ez_I a, ez_I b, ez_I (5 * a + b), ez_I best, ez_I k, ez_N, ez_N, ez_N, ez_N, ez_N] [] h' Q := by
  intro n
  induction n with
  | zero =>
    intro k best h' k0 k1 fr inv hm
    exfalso
    omega
  | succ n ih =>
    intro k best h' k0 k1 fr inv hm
    have wa' := wa.keep (h' := h') (fun o x ho => fr.1 o x (by omega))
    have wb' := wb.keep (h' := h') (fun o x ho => fr.1 o x (by omega))
    have eA := md_P.keep (h := h) (h' := h') (fun o x ho => fr.1 o x (by omega)) a
    have eB := md_P.keep (h := h) (h' := h') (fun o x ho => fr.1 o x (by omega)) b
    have nA := md_n wa
    have nB := md_n wb
    have mA := fr.1 123 a (by omega)
    have mB := fr.1 123 b (by omega)
    have ra := wa.1
    have rb := wb.1
    refine ez_iload dX6_lays_29 rfl ?_
    refine ez_iconst dX6_lays_31 (by decide) ?_
    refine ez_ic_ge 208 dX6_lays_32 (by decide) (fun c_32 => ?_) (fun c_32 => ?_)
    · refine ez_lessS (L' := [ez_R 121, ez_I a, ez_I b, ez_I (5 * a + b), ez_I best, ez_N, ez_N, ez_N, ez_N, ez_N, ez_N]) ⟨Or.inr rfl, Or.inr rfl, Or.inr rfl, Or.inr rfl, Or.inr rfl, Or.inl rfl, Or.inl rfl, Or.inl rfl, Or.inl rfl, Or.inl rfl, Or.inl rfl, trivial⟩ ?_
      exact kx best h' fr (by rw [show (4 : Int) = k by omega]; exact inv)
    · refine ez_iconst dX6_lays_35 (by decide) ?_
      refine ez_istore dX6_lays_36 (by decide) ?_
      refine lp_l2 wa wb hR hR1 (by omega) (fun best2 h2 fr2 inv2 => ?_) 5 1 best h' (by omega) (by omega) fr inv (by omega)
      refine ez_iinc dX6_lays_202 rfl (by decide) (by decide) (by omega) ?_
      refine ez_goto 29 dX6_lays_205 (by decide) ?_
      refine ez_lessS (L' := [ez_R 121, ez_I a, ez_I b, ez_I (5 * a + b), ez_I best2, ez_I (k + 1), ez_N, ez_N, ez_N, ez_N, ez_N]) ⟨Or.inr rfl, Or.inr rfl, Or.inr rfl, Or.inr rfl, Or.inr rfl, Or.inr rfl, Or.inl rfl, Or.inl rfl, Or.inl rfl, Or.inl rfl, Or.inl rfl, trivial⟩ ?_
      exact ih (k + 1) best2 h2 (by omega) (by omega) fr2 (inv2.iff (fun k' s' i' j' hk' => by have q := hk'.2.1; have q1 := hk'.2.2.1; have q2 := hk'.2.2.2; unfold be_; omega)) (by omega)
