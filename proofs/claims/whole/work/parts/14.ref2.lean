/-! the reference's work on one lay: where spots come, how near they are, the best set of pairs -/
def ez_sub : List ez_V → List ez_V → Prop
  | [], _ => True
  | a :: A, [] => a = ez_N ∧ ez_sub A []
  | a :: A, b :: B => (a = ez_N ∨ a = b) ∧ ez_sub A B
theorem ez_sub_at : ∀ (A B : List ez_V), ez_sub A B → ∀ (i : Nat) (v : ez_V), A[i]? = some v → v = ez_N ∨ B[i]? = some v
  | [], _, _, i, v, h => by simp at h
  | a :: A, [], hs, 0, v, h => by
    simp at h
    exact Or.inl (h ▸ hs.1)
  | a :: A, [], hs, i + 1, v, h => by
    have h2 := ez_sub_at A [] hs.2 i v (by simpa using h)
    rcases h2 with h2 | h2
    · exact Or.inl h2
    · simp at h2
  | a :: A, b :: B, hs, 0, v, h => by
    simp at h
    subst h
    rcases hs.1 with q | q
    · exact Or.inl q
    · exact Or.inr (by simp [q])
  | a :: A, b :: B, hs, i + 1, v, h => by
    have h2 := ez_sub_at A B hs.2 i v (by simpa using h)
    rcases h2 with h2 | h2
    · exact Or.inl h2
    · exact Or.inr (by simpa using h2)
theorem ez_lessS {M : ez_M} {pc : Nat} {L L' st : List ez_V} {h : ez_H} {Q : ez_H → Option ez_V → Prop} (hs : ez_sub L' L) (k : ez_En M pc L' st h Q) : ez_En M pc L st h Q := ez_less (ez_sub_at L' L hs) k
/-- the first i places of a row hold v -/
def ez_fill (h : ez_H) (o i v : Int) : ez_H := fun o' k => if o' = o ∧ 0 ≤ k ∧ k < i then v else h o' k
theorem ez_fill_0 (h : ez_H) (o v : Int) : ez_fill h o 0 v = h := by
  funext o' k
  unfold ez_fill
  rw [if_neg (by omega)]
theorem ez_fill_s {h : ez_H} {o i v : Int} (hi : 0 ≤ i) : ez_up (ez_fill h o i v) o i v = ez_fill h o (i + 1) v := by
  funext o' k
  unfold ez_fill ez_up
  by_cases h1 : o' = o ∧ k = i
  · rw [if_pos h1, if_pos (by omega)]
  · rw [if_neg h1]
    dsimp only
    by_cases h2 : o' = o ∧ 0 ≤ k ∧ k < i
    · rw [if_pos h2, if_pos (by omega)]
    · rw [if_neg h2, if_neg (by omega)]
theorem lp_forgets {h : ez_H} : ∀ (n : Nat) (i : Int), (0 ≤ i) → (i ≤ 25) → 25 - i < n → ez_En M_X6_forgets 2 [ez_R 121, ez_I i] [] (ez_fill h 126 i 0) (ez_S (ez_fill h 126 25 0)) := by
  intro n
  induction n with
  | zero =>
    intro i i0 i1 hm
    exfalso
    omega
  | succ n ih =>
    intro i i0 i1 hm
    refine ez_iload_n dX6_forgets_2 rfl ?_
    refine ez_bipush dX6_forgets_3 (by decide) (by decide) ?_
    refine ez_ic_ge 21 dX6_forgets_5 (by decide) (fun c_5 => ?_) (fun c_5 => ?_)
    · refine ez_vreturn (st := []) dX6_forgets_21 rfl ?_
      exact ez_S.in (by rw [show i = 25 by omega])
    · refine ez_aload_n dX6_forgets_8 rfl ?_
      refine g6_6 dX6_forgets_9 fl_X6_26 ?_
      refine ez_iload_n dX6_forgets_12 rfl ?_
      refine ez_iconst dX6_forgets_13 (by decide) ?_
      refine as126 dX6_forgets_14 (by omega) (by first | exact Or.inl rfl | exact Or.inr rfl | omega) ?_
      refine ez_iinc dX6_forgets_15 rfl (by decide) (by decide) (by omega) ?_
      refine ez_goto 2 dX6_forgets_18 (by decide) ?_
      rw [ez_fill_s (by omega)]
      exact ih (i + 1) (by omega) (by omega) (by omega)
theorem c_X6_forgets {h : ez_H} : ez_Ct M_X6_forgets [ez_R 121] h (ez_S (ez_fill h 126 25 0)) := by
  refine ez_of (by decide) (Nat.le_of_ble_eq_true rfl) (L0 := [ez_R 121, ez_N]) rfl ?_
  refine ez_iconst dX6_forgets_0 (by decide) ?_
  refine ez_istore_n dX6_forgets_1 (by decide) ?_
  have k := lp_forgets (h := h) 26 0 (by omega) (by omega) (by omega)
  rw [ez_fill_0] at k
  exact k
/-- what stands still while the reference looks at one lay of b on a -/
def rf_G (h : ez_H) (a b : Int) (nA nB : Nat) (R : Int) (g : Int → Int → Int) : Prop :=
  (0 ≤ a ∧ a < 5) ∧ (0 ≤ b ∧ b < 5) ∧ h 123 a = nA ∧ nA ≤ 8 ∧ h 123 b = nB ∧ nB ≤ 8 ∧ h 121 1 = R ∧ 0 ≤ R ∧ R ≤ 50 ∧
  (∀ i : Int, 0 ≤ i → i < nA → (0 ≤ h 124 (8 * a + i) ∧ h 124 (8 * a + i) ≤ 999) ∧ (0 ≤ h 125 (8 * a + i) ∧ h 125 (8 * a + i) ≤ 999)) ∧
  (∀ j : Int, 0 ≤ j → j < nB → (-10000 ≤ h 129 j ∧ h 129 j ≤ 10000) ∧ (-10000 ≤ h 130 j ∧ h 130 j ≤ 10000)) ∧
  ∀ i j : Int, 0 ≤ i → i < nA → 0 ≤ j → j < nB → fx_far (h 124 (8 * a + i)) (h 125 (8 * a + i)) (h 129 j) (h 130 j) = g i j
theorem rf_G.keep {h h' : ez_H} {a b : Int} {nA nB : Nat} {R : Int} {g : Int → Int → Int} (H : rf_G h a b nA nB R g) (hk : ∀ o k : Int, o ≤ 130 → h' o k = h o k) : rf_G h' a b nA nB R g := by
  unfold rf_G at H ⊢
  simp only [hk _ _ (show (121 : Int) ≤ 130 by decide), hk _ _ (show (123 : Int) ≤ 130 by decide), hk _ _ (show (124 : Int) ≤ 130 by decide), hk _ _ (show (125 : Int) ≤ 130 by decide), hk _ _ (show (129 : Int) ≤ 130 by decide), hk _ _ (show (130 : Int) ≤ 130 by decide)]
  exact H
theorem rf_G.g {h : ez_H} {a b : Int} {nA nB : Nat} {R : Int} {g : Int → Int → Int} (H : rf_G h a b nA nB R g) {i j : Int} (i0 : 0 ≤ i) (i1 : i < nA) (j0 : 0 ≤ j) (j1 : j < nB) : 0 ≤ g i j ∧ g i j ≤ 11000 := by
  obtain ⟨ha, hb, hA, hA8, hB, hB8, hR, hR0, hR1, hx, hc, hg⟩ := H
  rw [← hg i j i0 i1 j0 j1]
  have h1 := hx i i0 i1
  have h2 := hc j j0 j1
  unfold fx_far
  omega
theorem c_X6_farTo {a b i j : Int} {h : ez_H} {nA nB : Nat} {R : Int} {g : Int → Int → Int} (H : rf_G h a b nA nB R g) (hi : 0 ≤ i ∧ i < nA) (hj : 0 ≤ j ∧ j < nB) : ez_Ct M_X6_farTo [ez_R 121, ez_I a, ez_I i, ez_I j] h (ez_F h (g i j)) := by
  obtain ⟨ha, hb, hA, hA8, hB, hB8, hR, hR0, hR1, hx, hc, hg⟩ := H
  have h1 := hx i hi.1 hi.2
  have h2 := hc j hj.1 hj.2
  refine ez_of (by decide) (Nat.le_of_ble_eq_true rfl) (L0 := [ez_R 121, ez_I a, ez_I i, ez_I j]) rfl ?_
  refine ez_aload_n dX6_farTo_0 rfl ?_
  refine g6_4 dX6_farTo_1 fl_X6_20 ?_
  refine ez_bipush dX6_farTo_4 (by decide) (by decide) ?_
  refine ez_iload_n dX6_farTo_6 rfl ?_
  refine ez_imul dX6_farTo_7 (by omega) ?_
  refine ez_iload_n dX6_farTo_8 rfl ?_
  refine ez_iadd dX6_farTo_9 (by omega) ?_
  refine al124 dX6_farTo_10 (by omega) ?_
  refine ez_aload_n dX6_farTo_11 rfl ?_
  refine g6_5 dX6_farTo_12 fl_X6_23 ?_
  refine ez_bipush dX6_farTo_15 (by decide) (by decide) ?_
  refine ez_iload_n dX6_farTo_17 rfl ?_
  refine ez_imul dX6_farTo_18 (by omega) ?_
  refine ez_iload_n dX6_farTo_19 rfl ?_
  refine ez_iadd dX6_farTo_20 (by omega) ?_
  refine al125 dX6_farTo_21 (by omega) ?_
  refine ez_aload_n dX6_farTo_22 rfl ?_
  refine g6_9 dX6_farTo_23 fl_X6_36 ?_
  refine ez_iload_n dX6_farTo_26 rfl ?_
  refine al129 dX6_farTo_27 (by omega) ?_
  refine ez_aload_n dX6_farTo_28 rfl ?_
  refine g6_10 dX6_farTo_29 fl_X6_39 ?_
  refine ez_iload_n dX6_farTo_32 rfl ?_
  refine al130 dX6_farTo_33 (by omega) ?_
  refine cl_X6_apart dX6_farTo_34 ml_X6_73 ft_X6_farTo__X6_apart (Nat.le_of_ble_eq_true rfl) (c_X6_apart (by omega)) (ez_kF ?_)
  refine ez_ireturn (st := []) dX6_farTo_37 rfl ?_
  exact ez_F.in (hg i j hi.1 hi.2 hj.1 hj.2)
theorem lp_w4 {a b : Int} {h : ez_H} {nA nB : Nat} {R : Int} {g : Int → Int → Int} {nxt : Nat → Int} {set : Nat} {j sets : Int} {Q : ez_H → Option ez_V → Prop} (H : rf_G h a b nA nB R g) (hj : 0 ≤ j ∧ j < nB) (hset : set < 2 ^ nA) (hv : ∀ s : Nat, s < 2 ^ nA → h 131 (256 * (j + 1) + s) = nxt s) (hnx : ∀ s : Nat, 0 ≤ nxt s ∧ nxt s ≤ 8000) (kx : ez_En M_X6_weighs 188 [ez_R 121, ez_I a, ez_I b, ez_I sets, ez_I j, ez_I (set : Nat), ez_I (pm_fold g R nxt j set nA), ez_N, ez_N] [] h Q) : ∀ (n : Nat) (i : Nat) (v : Int), (i ≤ nA) → (v = pm_fold g R nxt j set i) → (0 ≤ v ∧ v ≤ 9000) → nA - i < n → ez_En M_X6_weighs 88 [ez_R 121, ez_I a, ez_I b, ez_I sets, ez_I j, ez_I (set : Nat), ez_I v, ez_I (i : Nat), ez_N] [] h Q := by
  intro n
  induction n with
  | zero =>
    intro i v i1 ev vb hm
    exfalso
    omega
  | succ n ih =>
    intro i v i1 ev vb hm
    obtain ⟨ha, hb, hA, hA8, hB, hB8, hR, hR0, hR1, -⟩ := id H
    refine ez_iload dX6_weighs_88 rfl ?_
    refine ez_aload_n dX6_weighs_90 rfl ?_
    refine g6_3 dX6_weighs_91 fl_X6_17 ?_
    refine ez_iload_n dX6_weighs_94 rfl ?_
    refine al123 dX6_weighs_95 (by omega) ?_
    refine ez_ic_ge 188 dX6_weighs_96 (by decide) (fun c_96 => ?_) (fun c_96 => ?_)
    · refine ez_lessS (L' := [ez_R 121, ez_I a, ez_I b, ez_I sets, ez_I j, ez_I (set : Nat), ez_I v, ez_N, ez_N]) ⟨Or.inr rfl, Or.inr rfl, Or.inr rfl, Or.inr rfl, Or.inr rfl, Or.inr rfl, Or.inr rfl, Or.inl rfl, Or.inl rfl, trivial⟩ ?_
      rw [show v = pm_fold g R nxt j set nA from by rw [ev, show i = nA by omega]]
      exact kx
    · have hi : i < nA := by omega
      have hp : 2 ^ nA ≤ 256 := Nat.pow_le_pow_right (by decide) hA8
      have hg := H.g (show (0 : Int) ≤ i by omega) (by omega) hj.1 hj.2
      refine ez_iload dX6_weighs_99 rfl ?_
      refine ez_iload dX6_weighs_101 rfl ?_
      refine ez_ishr set i rfl rfl (by omega) (by omega) dX6_weighs_103 ?_
      refine ez_iconst dX6_weighs_104 (by decide) ?_
      refine ez_iand1 (set / 2 ^ i) rfl (by have := Nat.div_le_self set (2 ^ i); omega) dX6_weighs_105 ?_
      refine ez_iconst dX6_weighs_106 (by decide) ?_
      refine ez_ic_eq 182 dX6_weighs_107 (by decide) (fun c_107 => ?_) (fun c_107 => ?_)
      · have hs1 : pm_fold g R nxt j set (i + 1) = v := by
          show (if _ then _ else _) = _
          rw [if_pos (by omega)]
          exact ev.symm
        refine ez_iinc dX6_weighs_182 rfl (by decide) (by decide) (by omega) ?_
        refine ez_goto 88 dX6_weighs_185 (by decide) ?_
        refine ez_lessS (L' := [ez_R 121, ez_I a, ez_I b, ez_I sets, ez_I j, ez_I (set : Nat), ez_I (pm_fold g R nxt j set (i + 1)), ez_I ((i + 1 : Nat) : Int), ez_N]) ⟨Or.inr rfl, Or.inr rfl, Or.inr rfl, Or.inr rfl, Or.inr rfl, Or.inr rfl, Or.inr (congrArg ez_I hs1), Or.inr rfl, Or.inl rfl, trivial⟩ ?_
        exact ih (i + 1) _ (by omega) rfl (by rw [hs1]; omega) (by omega)
      · refine ez_aload_n dX6_weighs_110 rfl ?_
        refine ez_iload_n dX6_weighs_111 rfl ?_
        refine ez_iload dX6_weighs_112 rfl ?_
        refine ez_iload dX6_weighs_114 rfl ?_
        refine cl_X6_farTo dX6_weighs_116 ml_X6_77 ft_X6_weighs__X6_farTo (Nat.le_of_ble_eq_true rfl) (c_X6_farTo H (by omega) hj) (ez_kF ?_)
        refine ez_aload_n dX6_weighs_119 rfl ?_
        refine g6_1 dX6_weighs_120 fl_X6_7 ?_
        refine ez_ic_le 129 dX6_weighs_123 (by decide) (fun c_123 => ?_) (fun c_123 => ?_)
        · have hpi : 1 * 2 ^ i < 2 ^ nA := by rw [Nat.one_mul]; exact Nat.pow_lt_pow_right (by decide) hi
          have hor : set ||| 1 * 2 ^ i < 2 ^ nA := Nat.or_lt_two_pow hset hpi
          have hn1 := hv _ hor
          have hn2 := hnx (set ||| 1 * 2 ^ i)
          have hstep : pm_fold g R nxt j set (i + 1) = max v (1000 - g i j + h 131 (256 * (j + 1) + ((set ||| 1 * 2 ^ i : Nat) : Int))) := by
            show (if _ then _ else _) = _
            rw [if_neg (by omega), hn1, Nat.one_mul, ev]
          refine ez_sipush dX6_weighs_129 (by decide) (by decide) ?_
          refine ez_aload_n dX6_weighs_132 rfl ?_
          refine ez_iload_n dX6_weighs_133 rfl ?_
          refine ez_iload dX6_weighs_134 rfl ?_
          refine ez_iload dX6_weighs_136 rfl ?_
          refine cl_X6_farTo dX6_weighs_138 ml_X6_77 ft_X6_weighs__X6_farTo (Nat.le_of_ble_eq_true rfl) (c_X6_farTo H (by omega) hj) (ez_kF ?_)
          refine ez_isub dX6_weighs_141 (by omega) ?_
          refine ez_aload_n dX6_weighs_142 rfl ?_
          refine g6_11 dX6_weighs_143 fl_X6_42 ?_
          refine ez_sipush dX6_weighs_146 (by decide) (by decide) ?_
          refine ez_iload dX6_weighs_149 rfl ?_
          refine ez_iconst dX6_weighs_151 (by decide) ?_
          refine ez_iadd dX6_weighs_152 (by omega) ?_
          refine ez_imul dX6_weighs_153 (by omega) ?_
          refine ez_iload dX6_weighs_154 rfl ?_
          refine ez_iconst dX6_weighs_156 (by decide) ?_
          refine ez_iload dX6_weighs_157 rfl ?_
          refine ez_ishl 1 i rfl rfl (by omega) (by omega) dX6_weighs_159 ?_
          refine ez_ior set (1 * 2 ^ i) rfl rfl (by omega) (by omega) dX6_weighs_160 ?_
          refine ez_iadd dX6_weighs_161 (by omega) ?_
          refine al131 dX6_weighs_162 (by omega) ?_
          refine ez_iadd dX6_weighs_163 (by omega) ?_
          refine ez_istore dX6_weighs_164 (by decide) ?_
          refine ez_iload dX6_weighs_166 rfl ?_
          refine ez_iload dX6_weighs_168 rfl ?_
          refine ez_ic_le 178 dX6_weighs_170 (by decide) (fun c_170 => ?_) (fun c_170 => ?_)
          · have hs1 : pm_fold g R nxt j set (i + 1) = v := by rw [hstep]; omega
            refine ez_iload dX6_weighs_178 rfl ?_
            refine ez_istore dX6_weighs_180 (by decide) ?_
            refine ez_iinc dX6_weighs_182 rfl (by decide) (by decide) (by omega) ?_
            refine ez_goto 88 dX6_weighs_185 (by decide) ?_
            refine ez_lessS (L' := [ez_R 121, ez_I a, ez_I b, ez_I sets, ez_I j, ez_I (set : Nat), ez_I (pm_fold g R nxt j set (i + 1)), ez_I ((i + 1 : Nat) : Int), ez_N]) ⟨Or.inr rfl, Or.inr rfl, Or.inr rfl, Or.inr rfl, Or.inr rfl, Or.inr rfl, Or.inr (congrArg ez_I hs1), Or.inr rfl, Or.inl rfl, trivial⟩ ?_
            exact ih (i + 1) _ (by omega) rfl (by rw [hs1]; omega) (by omega)
          · have hs1 : pm_fold g R nxt j set (i + 1) = 1000 - g i j + h 131 (256 * (j + 1) + ((set ||| 1 * 2 ^ i : Nat) : Int)) := by rw [hstep]; omega
            refine ez_iload dX6_weighs_173 rfl ?_
            refine ez_goto 180 dX6_weighs_175 (by decide) ?_
            refine ez_istore dX6_weighs_180 (by decide) ?_
            refine ez_iinc dX6_weighs_182 rfl (by decide) (by decide) (by omega) ?_
            refine ez_goto 88 dX6_weighs_185 (by decide) ?_
            refine ez_lessS (L' := [ez_R 121, ez_I a, ez_I b, ez_I sets, ez_I j, ez_I (set : Nat), ez_I (pm_fold g R nxt j set (i + 1)), ez_I ((i + 1 : Nat) : Int), ez_N]) ⟨Or.inr rfl, Or.inr rfl, Or.inr rfl, Or.inr rfl, Or.inr rfl, Or.inr rfl, Or.inr (congrArg ez_I hs1), Or.inr rfl, Or.inl rfl, trivial⟩ ?_
            exact ih (i + 1) _ (by omega) rfl (by rw [hs1]; omega) (by omega)
        · have hs1 : pm_fold g R nxt j set (i + 1) = v := by
            show (if _ then _ else _) = _
            rw [if_pos (by omega)]
            exact ev.symm
          refine ez_goto 182 dX6_weighs_126 (by decide) ?_
          refine ez_iinc dX6_weighs_182 rfl (by decide) (by decide) (by omega) ?_
          refine ez_goto 88 dX6_weighs_185 (by decide) ?_
          refine ez_lessS (L' := [ez_R 121, ez_I a, ez_I b, ez_I sets, ez_I j, ez_I (set : Nat), ez_I (pm_fold g R nxt j set (i + 1)), ez_I ((i + 1 : Nat) : Int), ez_N]) ⟨Or.inr rfl, Or.inr rfl, Or.inr rfl, Or.inr rfl, Or.inr rfl, Or.inr rfl, Or.inr (congrArg ez_I hs1), Or.inr rfl, Or.inl rfl, trivial⟩ ?_
          exact ih (i + 1) _ (by omega) rfl (by rw [hs1]; omega) (by omega)
theorem pm_fold_bd {g : Int → Int → Int} {R : Int} {nxt : Nat → Int} {j c : Int} {set : Nat} (hn : ∀ s : Nat, 0 ≤ nxt s ∧ nxt s ≤ c) : ∀ n : Nat, (∀ i : Nat, i < n → 0 ≤ g i j) → 0 ≤ pm_fold g R nxt j set n ∧ pm_fold g R nxt j set n ≤ c + 1000
  | 0, _ => by
    have := hn set
    unfold pm_fold
    omega
  | n + 1, hg => by
    have ih := pm_fold_bd (g := g) (R := R) (j := j) (set := set) hn n (fun i hi => hg i (by omega))
    have h1 := hn (set ||| 2 ^ n)
    have h2 := hg n (by omega)
    unfold pm_fold
    split <;> omega
theorem pm_val_bd {g : Int → Int → Int} {R : Int} {nA : Nat} {nB : Int} (hg : ∀ (i : Nat) (j : Int), i < nA → 0 ≤ j → j < nB → 0 ≤ g i j) : ∀ (t : Nat), (t : Int) ≤ nB → ∀ s : Nat, 0 ≤ pm_val g R nA nB t s ∧ pm_val g R nA nB t s ≤ 1000 * t
  | 0, _, s => by simp [pm_val]
  | t + 1, ht, s => by
    have ih := pm_val_bd (R := R) hg t (by omega)
    have := pm_fold_bd (g := g) (R := R) (j := nB - 1 - t) (set := s) ih nA (fun i hi => hg i _ hi (by omega) (by omega))
    unfold pm_val
    push_cast
    omega
theorem rf_G.val {h : ez_H} {a b : Int} {nA nB : Nat} {R : Int} {g : Int → Int → Int} (H : rf_G h a b nA nB R g) {t : Nat} (ht : t ≤ nB) (s : Nat) : 0 ≤ pm_val g R nA nB t s ∧ pm_val g R nA nB t s ≤ 8000 := by
  have h1 := pm_val_bd (R := R) (nA := nA) (nB := nB) (fun i j i1 j0 j1 => (H.g (show (0 : Int) ≤ i by omega) (by omega) j0 j1).1) t (by omega) s
  obtain ⟨ha, hb, hA, hA8, hB, hB8, -⟩ := H
  omega
theorem lp_w3 {a b : Int} {h : ez_H} {nA nB : Nat} {R : Int} {g : Int → Int → Int} {nxt : Nat → Int} {j sets : Int} {Q : ez_H → Option ez_V → Prop} (H : rf_G h a b nA nB R g) (hj : 0 ≤ j ∧ j < nB) (hs : sets = ((2 ^ nA : Nat) : Int)) (hv : ∀ s : Nat, s < 2 ^ nA → h 131 (256 * (j + 1) + s) = nxt s) (hnx : ∀ s : Nat, 0 ≤ nxt s ∧ nxt s ≤ 8000) (kx : ∀ h', (∀ o k : Int, (o ≠ 131 ∨ k < 256 * j ∨ 256 * (j + 1) ≤ k) → h' o k = h o k) → (∀ s : Nat, s < 2 ^ nA → h' 131 (256 * j + s) = pm_fold g R nxt j s nA) → ez_En M_X6_weighs 210 [ez_R 121, ez_I a, ez_I b, ez_I sets, ez_I j, ez_N, ez_N, ez_N, ez_N] [] h' Q) : ∀ (n : Nat) (set : Nat) (h' : ez_H), (set ≤ 2 ^ nA) → (∀ o k : Int, (o ≠ 131 ∨ k < 256 * j ∨ 256 * (j + 1) ≤ k) → h' o k = h o k) → (∀ s : Nat, s < set → h' 131 (256 * j + s) = pm_fold g R nxt j s nA) → 2 ^ nA - set < n → ez_En M_X6_weighs 61 [ez_R 121, ez_I a, ez_I b, ez_I sets, ez_I j, ez_I (set : Nat), ez_N, ez_N, ez_N] [] h' Q := by
  intro n
  induction n with
  | zero =>
    intro set h' s1 ag dn hm
    exfalso
    omega
  | succ n ih =>
    intro set h' s1 ag dn hm
    obtain ⟨ha, hb, hA, hA8, hB, hB8, hR, hR0, hR1, -⟩ := id H
    have hp : 2 ^ nA ≤ 256 := Nat.pow_le_pow_right (by decide) hA8
    have hpp := Nat.two_pow_pos nA
    refine ez_iload dX6_weighs_61 rfl ?_
    refine ez_iload_n dX6_weighs_63 rfl ?_
    refine ez_ic_ge 210 dX6_weighs_64 (by decide) (fun c_64 => ?_) (fun c_64 => ?_)
    · refine ez_lessS (L' := [ez_R 121, ez_I a, ez_I b, ez_I sets, ez_I j, ez_N, ez_N, ez_N, ez_N]) ⟨Or.inr rfl, Or.inr rfl, Or.inr rfl, Or.inr rfl, Or.inr rfl, Or.inl rfl, Or.inl rfl, Or.inl rfl, Or.inl rfl, trivial⟩ ?_
      exact kx h' ag (fun s hs => dn s (by omega))
    · have hlt : set < 2 ^ nA := by omega
      have hv2 : ∀ s : Nat, s < 2 ^ nA → h' 131 (256 * (j + 1) + s) = nxt s := fun s hs => (ag 131 _ (by omega)).trans (hv s hs)
      have hn0 := hnx set
      refine ez_aload_n dX6_weighs_67 rfl ?_
      refine g6_11 dX6_weighs_68 fl_X6_42 ?_
      refine ez_sipush dX6_weighs_71 (by decide) (by decide) ?_
      refine ez_iload dX6_weighs_74 rfl ?_
      refine ez_iconst dX6_weighs_76 (by decide) ?_
      refine ez_iadd dX6_weighs_77 (by omega) ?_
      refine ez_imul dX6_weighs_78 (by omega) ?_
      refine ez_iload dX6_weighs_79 rfl ?_
      refine ez_iadd dX6_weighs_81 (by omega) ?_
      refine al131 dX6_weighs_82 (by omega) ?_
      refine ez_istore dX6_weighs_83 (by decide) ?_
      refine ez_iconst dX6_weighs_85 (by decide) ?_
      refine ez_istore dX6_weighs_86 (by decide) ?_
      refine lp_w4 (nxt := nxt) (H.keep (fun o k ho => ag o k (by omega))) hj hlt hv2 hnx ?_ (nA + 1) 0 _ (by omega) (hv2 set hlt) (by rw [hv2 set hlt]; omega) (by omega)
      refine ez_aload_n dX6_weighs_188 rfl ?_
      refine g6_11 dX6_weighs_189 fl_X6_42 ?_
      refine ez_sipush dX6_weighs_192 (by decide) (by decide) ?_
      refine ez_iload dX6_weighs_195 rfl ?_
      refine ez_imul dX6_weighs_197 (by omega) ?_
      refine ez_iload dX6_weighs_198 rfl ?_
      refine ez_iadd dX6_weighs_200 (by omega) ?_
      refine ez_iload dX6_weighs_201 rfl ?_
      refine as131 dX6_weighs_203 (by omega) ?_
      refine ez_iinc dX6_weighs_204 rfl (by decide) (by decide) (by omega) ?_
      refine ez_goto 61 dX6_weighs_207 (by decide) ?_
      refine ez_lessS (L' := [ez_R 121, ez_I a, ez_I b, ez_I sets, ez_I j, ez_I ((set + 1 : Nat) : Int), ez_N, ez_N, ez_N]) ⟨Or.inr rfl, Or.inr rfl, Or.inr rfl, Or.inr rfl, Or.inr rfl, Or.inr rfl, Or.inl rfl, Or.inl rfl, Or.inl rfl, trivial⟩ ?_
      refine ih (set + 1) _ (by omega) (fun o k hk => (ez_up_ne (by omega)).trans (ag o k hk)) (fun s hs => ?_) (by omega)
      by_cases q : s = set
      · subst q
        exact ez_up_eq
      · exact (ez_up_ne (by omega)).trans (dn s (by omega))
theorem lp_w2 {a b : Int} {h : ez_H} {nA nB : Nat} {R : Int} {g : Int → Int → Int} {sets : Int} (H : rf_G h a b nA nB R g) (hs : sets = ((2 ^ nA : Nat) : Int)) : ∀ (n : Nat) (t : Nat) (h' : ez_H), (t ≤ nB) → (∀ o k : Int, o ≠ 131 → h' o k = h o k) → (∀ t' : Nat, t' ≤ t → ∀ s : Nat, s < 2 ^ nA → h' 131 (256 * (nB - t') + s) = pm_val g R nA nB t' s) → nB - t < n → ez_En M_X6_weighs 53 [ez_R 121, ez_I a, ez_I b, ez_I sets, ez_I ((nB : Int) - 1 - (t : Nat)), ez_N, ez_N, ez_N, ez_N] [] h' (ez_PI (fun h' z => (∀ o k : Int, o ≠ 131 → h' o k = h o k) ∧ (∀ t' : Nat, t' ≤ nB → ∀ s : Nat, s < 2 ^ nA → h' 131 (256 * (nB - t') + s) = pm_val g R nA nB t' s) ∧ z = pm_val g R nA nB nB 0)) := by
  intro n
  induction n with
  | zero =>
    intro t h' t1 ag dn hm
    exfalso
    omega
  | succ n ih =>
    intro t h' t1 ag dn hm
    obtain ⟨ha, hb, hA, hA8, hB, hB8, hR, hR0, hR1, -⟩ := id H
    have hp : 2 ^ nA ≤ 256 := Nat.pow_le_pow_right (by decide) hA8
    have hpp := Nat.two_pow_pos nA
    refine ez_iload dX6_weighs_53 rfl ?_
    refine ez_if_lt 216 dX6_weighs_55 (by decide) (fun c_55 => ?_) (fun c_55 => ?_)
    · refine ez_aload_n dX6_weighs_216 rfl ?_
      refine g6_11 dX6_weighs_217 fl_X6_42 ?_
      refine ez_iconst dX6_weighs_220 (by decide) ?_
      refine al131 dX6_weighs_221 (by omega) ?_
      refine ez_ireturn (st := []) dX6_weighs_222 rfl ?_
      refine ez_PI.in ⟨ag, fun t' ht s hs2 => dn t' (by omega) s hs2, ?_⟩
      have e1 := dn nB (by omega) 0 (Nat.two_pow_pos nA)
      rw [← e1]
      congr 1
      omega
    · refine ez_iconst dX6_weighs_58 (by decide) ?_
      refine ez_istore dX6_weighs_59 (by decide) ?_
      refine lp_w3 (nxt := pm_val g R nA nB t) (h := h') (H.keep (fun o k ho => ag o k (by omega))) (by omega) hs (fun s hs2 => ?_) (fun s => H.val (by omega) s) (fun h2 ag2 dn2 => ?_) (2 ^ nA + 1) 0 h' (by omega) (fun o k _ => rfl) (fun s hs2 => absurd hs2 (by omega)) (by omega)
      · rw [← dn t (by omega) s hs2]
        congr 1
        omega
      refine ez_iinc dX6_weighs_210 rfl (by decide) (by decide) (by omega) ?_
      refine ez_goto 53 dX6_weighs_213 (by decide) ?_
      refine ez_lessS (L' := [ez_R 121, ez_I a, ez_I b, ez_I sets, ez_I ((nB : Int) - 1 - ((t + 1 : Nat) : Int)), ez_N, ez_N, ez_N, ez_N]) ⟨Or.inr rfl, Or.inr rfl, Or.inr rfl, Or.inr rfl, Or.inr (congrArg ez_I (by omega)), Or.inl rfl, Or.inl rfl, Or.inl rfl, Or.inl rfl, trivial⟩ ?_
      refine ih (t + 1) h2 (by omega) (fun o k ho => (ag2 o k (by omega)).trans (ag o k ho)) (fun t' ht s hs2 => ?_) (by omega)
      by_cases q : t' = t + 1
      · subst q
        have e1 := dn2 s hs2
        rw [show (256 * ((nB : Int) - ((t + 1 : Nat) : Int)) + s) = 256 * ((nB : Int) - 1 - t) + s by omega, e1]
        rfl
      · rw [ag2 131 _ (by omega)]
        exact dn t' (by omega) s hs2
theorem lp_w1 {a b : Int} {h : ez_H} {nA nB : Nat} {R : Int} {g : Int → Int → Int} {sets : Int} (H : rf_G h a b nA nB R g) (hs : sets = ((2 ^ nA : Nat) : Int)) : ∀ (n : Nat) (k0 : Nat) (h' : ez_H), (k0 ≤ 2 ^ nA) → (∀ o k : Int, o ≠ 131 → h' o k = h o k) → (∀ s : Nat, s < k0 → h' 131 (256 * nB + s) = 0) → 2 ^ nA - k0 < n → ez_En M_X6_weighs 12 [ez_R 121, ez_I a, ez_I b, ez_I sets, ez_I (k0 : Nat), ez_N, ez_N, ez_N, ez_N] [] h' (ez_PI (fun h' z => (∀ o k : Int, o ≠ 131 → h' o k = h o k) ∧ (∀ t' : Nat, t' ≤ nB → ∀ s : Nat, s < 2 ^ nA → h' 131 (256 * (nB - t') + s) = pm_val g R nA nB t' s) ∧ z = pm_val g R nA nB nB 0)) := by
  intro n
  induction n with
  | zero =>
    intro k0 h' k1 ag dn hm
    exfalso
    omega
  | succ n ih =>
    intro k0 h' k1 ag dn hm
    obtain ⟨ha, hb, hA, hA8, hB, hB8, hR, hR0, hR1, -⟩ := id H
    have hp : 2 ^ nA ≤ 256 := Nat.pow_le_pow_right (by decide) hA8
    have hpp := Nat.two_pow_pos nA
    refine ez_iload dX6_weighs_12 rfl ?_
    refine ez_iload_n dX6_weighs_14 rfl ?_
    refine ez_ic_ge 43 dX6_weighs_15 (by decide) (fun c_15 => ?_) (fun c_15 => ?_)
    · have e2 := ag 123 b (by decide)
      refine ez_aload_n dX6_weighs_43 rfl ?_
      refine g6_3 dX6_weighs_44 fl_X6_17 ?_
      refine ez_iload_n dX6_weighs_47 rfl ?_
      refine al123 dX6_weighs_48 (by omega) ?_
      refine ez_iconst dX6_weighs_49 (by decide) ?_
      refine ez_isub dX6_weighs_50 (by omega) ?_
      refine ez_istore dX6_weighs_51 (by decide) ?_
      refine ez_lessS (L' := [ez_R 121, ez_I a, ez_I b, ez_I sets, ez_I ((nB : Int) - 1 - ((0 : Nat) : Int)), ez_N, ez_N, ez_N, ez_N]) ⟨Or.inr rfl, Or.inr rfl, Or.inr rfl, Or.inr rfl, Or.inr (congrArg ez_I (by omega)), Or.inl rfl, Or.inl rfl, Or.inl rfl, Or.inl rfl, trivial⟩ ?_
      refine lp_w2 H hs (nB + 1) 0 h' (by omega) ag (fun t' ht s hs2 => ?_) (by omega)
      rw [show t' = 0 by omega]
      have e1 := dn s (by omega)
      rw [show (256 * ((nB : Int) - ((0 : Nat) : Int)) + s) = 256 * (nB : Int) + s by omega]
      exact e1
    · have e2 := ag 123 b (by decide)
      refine ez_aload_n dX6_weighs_18 rfl ?_
      refine g6_11 dX6_weighs_19 fl_X6_42 ?_
      refine ez_sipush dX6_weighs_22 (by decide) (by decide) ?_
      refine ez_aload_n dX6_weighs_25 rfl ?_
      refine g6_3 dX6_weighs_26 fl_X6_17 ?_
      refine ez_iload_n dX6_weighs_29 rfl ?_
      refine al123 dX6_weighs_30 (by omega) ?_
      refine ez_imul dX6_weighs_31 (by omega) ?_
      refine ez_iload dX6_weighs_32 rfl ?_
      refine ez_iadd dX6_weighs_34 (by omega) ?_
      refine ez_iconst dX6_weighs_35 (by decide) ?_
      refine as131 dX6_weighs_36 (by omega) ?_
      refine ez_iinc dX6_weighs_37 rfl (by decide) (by decide) (by omega) ?_
      refine ez_goto 12 dX6_weighs_40 (by decide) ?_
      rw [show (256 * h' 123 b + (k0 : Int)) = 256 * (nB : Int) + k0 by omega]
      refine ez_lessS (L' := [ez_R 121, ez_I a, ez_I b, ez_I sets, ez_I ((k0 + 1 : Nat) : Int), ez_N, ez_N, ez_N, ez_N]) ⟨Or.inr rfl, Or.inr rfl, Or.inr rfl, Or.inr rfl, Or.inr rfl, Or.inl rfl, Or.inl rfl, Or.inl rfl, Or.inl rfl, trivial⟩ ?_
      refine ih (k0 + 1) _ (by omega) (fun o k ho => (ez_up_ne (by omega)).trans (ag o k ho)) (fun s hs2 => ?_) (by omega)
      by_cases q : s = k0
      · subst q
        exact ez_up_eq
      · exact (ez_up_ne (by omega)).trans (dn s (by omega))
theorem c_X6_weighs {a b : Int} {h : ez_H} {nA nB : Nat} {R : Int} {g : Int → Int → Int} (H : rf_G h a b nA nB R g) : ez_Ct M_X6_weighs [ez_R 121, ez_I a, ez_I b] h ((ez_PI (fun h' z => (∀ o k : Int, o ≠ 131 → h' o k = h o k) ∧ (∀ t' : Nat, t' ≤ nB → ∀ s : Nat, s < 2 ^ nA → h' 131 (256 * (nB - t') + s) = pm_val g R nA nB t' s) ∧ z = pm_val g R nA nB nB 0))) := by
  obtain ⟨ha, hb, hA, hA8, hB, hB8, hR, hR0, hR1, -⟩ := id H
  have hp : 2 ^ nA ≤ 256 := Nat.pow_le_pow_right (by decide) hA8
  have hpp := Nat.two_pow_pos nA
  refine ez_of (by decide) (Nat.le_of_ble_eq_true rfl) (L0 := [ez_R 121, ez_I a, ez_I b, ez_N, ez_N, ez_N, ez_N, ez_N, ez_N]) rfl ?_
  refine ez_iconst dX6_weighs_0 (by decide) ?_
  refine ez_aload_n dX6_weighs_1 rfl ?_
  refine g6_3 dX6_weighs_2 fl_X6_17 ?_
  refine ez_iload_n dX6_weighs_5 rfl ?_
  refine al123 dX6_weighs_6 (by omega) ?_
  refine ez_ishl 1 nA rfl (by omega) (by omega) (by omega) dX6_weighs_7 ?_
  refine ez_istore_n dX6_weighs_8 (by decide) ?_
  refine ez_iconst dX6_weighs_9 (by decide) ?_
  refine ez_istore dX6_weighs_10 (by decide) ?_
  refine lp_w1 H (by rw [Nat.one_mul]) (2 ^ nA + 1) 0 h (by omega) (fun o k _ => rfl) (fun s hs2 => absurd hs2 (by omega)) (by omega)
theorem pm_pick_stay {g : Int → Int → Int} {R : Int} {nxt : Nat → Int} {j : Int} {set : Nat} {v : Int} {i : Nat} (h : pm_pick g R nxt j set v i ≠ -1) : ∀ d : Nat, pm_pick g R nxt j set v (i + d) = pm_pick g R nxt j set v i
  | 0 => rfl
  | d + 1 => by
    have ih := pm_pick_stay h d
    show (if pm_pick g R nxt j set v (i + d) ≠ -1 then pm_pick g R nxt j set v (i + d) else _) = _
    rw [if_pos (by rw [ih]; exact h), ih]
theorem pm_add_lt {set nA : Nat} {i : Int} (hs : set < 2 ^ nA) (hi : i = -1 ∨ (0 ≤ i ∧ i < nA)) : pm_add set i < 2 ^ nA := by
  unfold pm_add
  split
  · exact hs
  · exact Nat.or_lt_two_pow hs (Nat.pow_lt_pow_right (by decide) (by omega))
theorem lp_f2 {a b : Int} {h : ez_H} {nA nB : Nat} {R : Int} {g : Int → Int → Int} {t : Nat} {set : Nat} {j : Int} {Q : ez_H → Option ez_V → Prop} (H : rf_G h a b nA nB R g) (hj : 0 ≤ j ∧ j < nB) (hjt : j = (nB : Int) - 1 - t) (hset : set < 2 ^ nA) (hv : ∀ t' : Nat, t' ≤ nB → ∀ s : Nat, s < 2 ^ nA → h 131 (256 * (nB - t') + s) = pm_val g R nA nB t' s) (kx : ∀ h', (∀ o k : Int, ¬ (o = 132 ∧ k = j) → h' o k = h o k) → h' 132 j = pm_pick g R (pm_val g R nA nB t) j set (pm_val g R nA nB (t + 1) set) nA → ez_En M_X6_finds 143 [ez_R 121, ez_I a, ez_I b, ez_I (set : Nat), ez_I j, ez_N] [] h' Q) : ∀ (n : Nat) (i : Nat) (h' : ez_H), (i ≤ nA) → (∀ o k : Int, ¬ (o = 132 ∧ k = j) → h' o k = h o k) → (h' 132 j = pm_pick g R (pm_val g R nA nB t) j set (pm_val g R nA nB (t + 1) set) i) → nA - i < n → ez_En M_X6_finds 27 [ez_R 121, ez_I a, ez_I b, ez_I (set : Nat), ez_I j, ez_I (i : Nat)] [] h' Q := by
  intro n
  induction n with
  | zero =>
    intro i h' i1 ag ep hm
    exfalso
    omega
  | succ n ih =>
    intro i h' i1 ag ep hm
    obtain ⟨ha, hb, hA, hA8, hB, hB8, hR, hR0, hR1, -⟩ := id H
    have hp : 2 ^ nA ≤ 256 := Nat.pow_le_pow_right (by decide) hA8
    have hpp := Nat.two_pow_pos nA
    have eA := ag 123 a (by omega)
    have eR := ag 121 1 (by omega)
    refine ez_iload dX6_finds_27 rfl ?_
    refine ez_aload_n dX6_finds_29 rfl ?_
    refine g6_3 dX6_finds_30 fl_X6_17 ?_
    refine ez_iload_n dX6_finds_33 rfl ?_
    refine al123 dX6_finds_34 (by omega) ?_
    refine ez_ic_ge 143 dX6_finds_35 (by decide) (fun c_35 => ?_) (fun c_35 => ?_)
    · refine ez_lessS (L' := [ez_R 121, ez_I a, ez_I b, ez_I (set : Nat), ez_I j, ez_N]) ⟨Or.inr rfl, Or.inr rfl, Or.inr rfl, Or.inr rfl, Or.inr rfl, Or.inl rfl, trivial⟩ ?_
      exact kx h' ag (by
        by_cases q : i = nA
        · rw [ep, q]
        · have hst := pm_pick_stay (show pm_pick g R (pm_val g R nA nB t) j set (pm_val g R nA nB (t + 1) set) i ≠ -1 from by rw [← ep]; omega) (nA - i)
          rw [show i + (nA - i) = nA by omega] at hst
          rw [ep, hst])
    · have hi : i < nA := by omega
      refine ez_aload_n dX6_finds_38 rfl ?_
      refine g6_12 dX6_finds_39 fl_X6_45 ?_
      refine ez_iload dX6_finds_42 rfl ?_
      refine al132 dX6_finds_44 (by omega) ?_
      refine ez_iconst dX6_finds_45 (by decide) ?_
      refine ez_ic_ne 143 dX6_finds_46 (by decide) (fun c_46 => ?_) (fun c_46 => ?_)
      · refine ez_lessS (L' := [ez_R 121, ez_I a, ez_I b, ez_I (set : Nat), ez_I j, ez_N]) ⟨Or.inr rfl, Or.inr rfl, Or.inr rfl, Or.inr rfl, Or.inr rfl, Or.inl rfl, trivial⟩ ?_
        exact kx h' ag (by
          by_cases q : i = nA
          · rw [ep, q]
          · have hst := pm_pick_stay (show pm_pick g R (pm_val g R nA nB t) j set (pm_val g R nA nB (t + 1) set) i ≠ -1 from by rw [← ep]; omega) (nA - i)
            rw [show i + (nA - i) = nA by omega] at hst
            rw [ep, hst])
      · have hg := H.g (show (0 : Int) ≤ i by omega) (by omega) hj.1 hj.2
        refine ez_iload_n dX6_finds_49 rfl ?_
        refine ez_iload dX6_finds_50 rfl ?_
        refine ez_ishr set i rfl rfl (by omega) (by omega) dX6_finds_52 ?_
        refine ez_iconst dX6_finds_53 (by decide) ?_
        refine ez_iand1 (set / 2 ^ i) rfl (by have := Nat.div_le_self set (2 ^ i); omega) dX6_finds_54 ?_
        refine ez_iconst dX6_finds_55 (by decide) ?_
        refine ez_ic_eq 137 dX6_finds_56 (by decide) (fun c_56 => ?_) (fun c_56 => ?_)
        · have hs1 : pm_pick g R (pm_val g R nA nB t) j set (pm_val g R nA nB (t + 1) set) (i + 1) = -1 := by
            show (if _ then _ else _) = _
            rw [if_neg (by rw [← ep]; omega), if_neg (by omega)]
          have ep2 : h' 132 j = pm_pick g R (pm_val g R nA nB t) j set (pm_val g R nA nB (t + 1) set) (i + 1) := by rw [hs1]; omega
          have ag2 := ag
          refine ez_iinc dX6_finds_137 rfl (by decide) (by decide) (by omega) ?_
          refine ez_goto 27 dX6_finds_140 (by decide) ?_
          refine ez_lessS (L' := [ez_R 121, ez_I a, ez_I b, ez_I (set : Nat), ez_I j, ez_I ((i + 1 : Nat) : Int)]) ⟨Or.inr rfl, Or.inr rfl, Or.inr rfl, Or.inr rfl, Or.inr rfl, Or.inr rfl, trivial⟩ ?_
          exact ih (i + 1) _ (by omega) ag2 ep2 (by omega)
        · refine ez_aload_n dX6_finds_59 rfl ?_
          refine ez_iload_n dX6_finds_60 rfl ?_
          refine ez_iload dX6_finds_61 rfl ?_
          refine ez_iload dX6_finds_63 rfl ?_
          refine cl_X6_farTo dX6_finds_65 ml_X6_77 ft_X6_finds__X6_farTo (Nat.le_of_ble_eq_true rfl) (c_X6_farTo (H.keep (fun o k ho => ag o k (by omega))) (by omega) hj) (ez_kF ?_)
          refine ez_aload_n dX6_finds_68 rfl ?_
          refine g6_1 dX6_finds_69 fl_X6_7 ?_
          refine ez_ic_le 78 dX6_finds_72 (by decide) (fun c_72 => ?_) (fun c_72 => ?_)
          · have hpi : 1 * 2 ^ i < 2 ^ nA := by rw [Nat.one_mul]; exact Nat.pow_lt_pow_right (by decide) hi
            have hor : set ||| 1 * 2 ^ i < 2 ^ nA := Nat.or_lt_two_pow hset hpi
            have hn1 : h' 131 (256 * (j + 1) + ((set ||| 1 * 2 ^ i : Nat) : Int)) = pm_val g R nA nB t (set ||| 2 ^ i) := by
              rw [ag 131 _ (by omega), Nat.one_mul, ← hv t (by omega) _ (by rw [Nat.one_mul] at hor; exact hor)]
              congr 1
              omega
            have hn2 := H.val (show t ≤ nB by omega) (set ||| 2 ^ i)
            have hn3 : h' 131 (256 * j + (set : Int)) = pm_val g R nA nB (t + 1) set := by
              rw [ag 131 _ (by omega), ← hv (t + 1) (by omega) _ hset]
              congr 1
              omega
            refine ez_sipush dX6_finds_78 (by decide) (by decide) ?_
            refine ez_aload_n dX6_finds_81 rfl ?_
            refine ez_iload_n dX6_finds_82 rfl ?_
            refine ez_iload dX6_finds_83 rfl ?_
            refine ez_iload dX6_finds_85 rfl ?_
            refine cl_X6_farTo dX6_finds_87 ml_X6_77 ft_X6_finds__X6_farTo (Nat.le_of_ble_eq_true rfl) (c_X6_farTo (H.keep (fun o k ho => ag o k (by omega))) (by omega) hj) (ez_kF ?_)
            refine ez_isub dX6_finds_90 (by omega) ?_
            refine ez_aload_n dX6_finds_91 rfl ?_
            refine g6_11 dX6_finds_92 fl_X6_42 ?_
            refine ez_sipush dX6_finds_95 (by decide) (by decide) ?_
            refine ez_iload dX6_finds_98 rfl ?_
            refine ez_iconst dX6_finds_100 (by decide) ?_
            refine ez_iadd dX6_finds_101 (by omega) ?_
            refine ez_imul dX6_finds_102 (by omega) ?_
            refine ez_iload_n dX6_finds_103 rfl ?_
            refine ez_iconst dX6_finds_104 (by decide) ?_
            refine ez_iload dX6_finds_105 rfl ?_
            refine ez_ishl 1 i rfl rfl (by omega) (by omega) dX6_finds_107 ?_
            refine ez_ior set (1 * 2 ^ i) rfl rfl (by omega) (by omega) dX6_finds_108 ?_
            refine ez_iadd dX6_finds_109 (by omega) ?_
            refine al131 dX6_finds_110 (by omega) ?_
            refine ez_iadd dX6_finds_111 (by omega) ?_
            refine ez_aload_n dX6_finds_112 rfl ?_
            refine g6_11 dX6_finds_113 fl_X6_42 ?_
            refine ez_sipush dX6_finds_116 (by decide) (by decide) ?_
            refine ez_iload dX6_finds_119 rfl ?_
            refine ez_imul dX6_finds_121 (by omega) ?_
            refine ez_iload_n dX6_finds_122 rfl ?_
            refine ez_iadd dX6_finds_123 (by omega) ?_
            refine al131 dX6_finds_124 (by omega) ?_
            refine ez_ic_ne 137 dX6_finds_125 (by decide) (fun c_125 => ?_) (fun c_125 => ?_)
            · have hs1 : pm_pick g R (pm_val g R nA nB t) j set (pm_val g R nA nB (t + 1) set) (i + 1) = -1 := by
                show (if _ then _ else _) = _
                rw [if_neg (by rw [← ep]; omega), if_neg (by rw [hn1, hn3] at c_125; omega)]
              have ep2 : h' 132 j = pm_pick g R (pm_val g R nA nB t) j set (pm_val g R nA nB (t + 1) set) (i + 1) := by rw [hs1]; omega
              have ag2 := ag
              refine ez_iinc dX6_finds_137 rfl (by decide) (by decide) (by omega) ?_
              refine ez_goto 27 dX6_finds_140 (by decide) ?_
              refine ez_lessS (L' := [ez_R 121, ez_I a, ez_I b, ez_I (set : Nat), ez_I j, ez_I ((i + 1 : Nat) : Int)]) ⟨Or.inr rfl, Or.inr rfl, Or.inr rfl, Or.inr rfl, Or.inr rfl, Or.inr rfl, trivial⟩ ?_
              exact ih (i + 1) _ (by omega) ag2 ep2 (by omega)
            · have hs1 : pm_pick g R (pm_val g R nA nB t) j set (pm_val g R nA nB (t + 1) set) (i + 1) = i := by
                show (if _ then _ else _) = _
                rw [if_neg (by rw [← ep]; omega), if_pos (by rw [hn1, hn3] at c_125; omega)]
              have ep2 : ez_up h' 132 j (i : Int) 132 j = pm_pick g R (pm_val g R nA nB t) j set (pm_val g R nA nB (t + 1) set) (i + 1) := by rw [hs1]; exact ez_up_eq
              have ag2 : ∀ o k : Int, ¬ (o = 132 ∧ k = j) → ez_up h' 132 j (i : Int) o k = h o k := fun o k hk => (ez_up_ne hk).trans (ag o k hk)
              refine ez_aload_n dX6_finds_128 rfl ?_
              refine g6_12 dX6_finds_129 fl_X6_45 ?_
              refine ez_iload dX6_finds_132 rfl ?_
              refine ez_iload dX6_finds_134 rfl ?_
              refine as132 dX6_finds_136 (by omega) ?_
              refine ez_iinc dX6_finds_137 rfl (by decide) (by decide) (by omega) ?_
              refine ez_goto 27 dX6_finds_140 (by decide) ?_
              refine ez_lessS (L' := [ez_R 121, ez_I a, ez_I b, ez_I (set : Nat), ez_I j, ez_I ((i + 1 : Nat) : Int)]) ⟨Or.inr rfl, Or.inr rfl, Or.inr rfl, Or.inr rfl, Or.inr rfl, Or.inr rfl, trivial⟩ ?_
              exact ih (i + 1) _ (by omega) ag2 ep2 (by omega)
          · have hs1 : pm_pick g R (pm_val g R nA nB t) j set (pm_val g R nA nB (t + 1) set) (i + 1) = -1 := by
              show (if _ then _ else _) = _
              rw [if_neg (by rw [← ep]; omega), if_neg (by omega)]
            have ep2 : h' 132 j = pm_pick g R (pm_val g R nA nB t) j set (pm_val g R nA nB (t + 1) set) (i + 1) := by rw [hs1]; omega
            have ag2 := ag
            refine ez_goto 137 dX6_finds_75 (by decide) ?_
            refine ez_iinc dX6_finds_137 rfl (by decide) (by decide) (by omega) ?_
            refine ez_goto 27 dX6_finds_140 (by decide) ?_
            refine ez_lessS (L' := [ez_R 121, ez_I a, ez_I b, ez_I (set : Nat), ez_I j, ez_I ((i + 1 : Nat) : Int)]) ⟨Or.inr rfl, Or.inr rfl, Or.inr rfl, Or.inr rfl, Or.inr rfl, Or.inr rfl, trivial⟩ ?_
            exact ih (i + 1) _ (by omega) ag2 ep2 (by omega)
theorem lp_f1 {a b : Int} {h : ez_H} {nA nB : Nat} {R : Int} {g : Int → Int → Int} (H : rf_G h a b nA nB R g) (hv : ∀ t' : Nat, t' ≤ nB → ∀ s : Nat, s < 2 ^ nA → h 131 (256 * (nB - t') + s) = pm_val g R nA nB t' s) : ∀ (n : Nat) (jn : Nat) (set : Nat) (h' : ez_H), (jn ≤ nB) → (set < 2 ^ nA) → (∀ o k : Int, o ≠ 132 → h' o k = h o k) → (∀ q : Int → Int, (∀ k : Int, 0 ≤ k → k < jn → q k = h' 132 k) → pm_gr g R nA q nB (nB - jn) set → pm_gr g R nA q nB nB 0) → nB - jn < n → ez_En M_X6_finds 5 [ez_R 121, ez_I a, ez_I b, ez_I (set : Nat), ez_I (jn : Nat), ez_N] [] h' (ez_PV (fun h' => (∀ o k : Int, o ≠ 132 → h' o k = h o k) ∧ pm_gr g R nA (h' 132) nB nB 0)) := by
  intro n
  induction n with
  | zero =>
    intro jn set h' j1 hset ag gr hm
    exfalso
    omega
  | succ n ih =>
    intro jn set h' j1 hset ag gr hm
    obtain ⟨ha, hb, hA, hA8, hB, hB8, hR, hR0, hR1, -⟩ := id H
    have hp : 2 ^ nA ≤ 256 := Nat.pow_le_pow_right (by decide) hA8
    have hpp := Nat.two_pow_pos nA
    have eB := ag 123 b (by omega)
    refine ez_iload dX6_finds_5 rfl ?_
    refine ez_aload_n dX6_finds_7 rfl ?_
    refine g6_3 dX6_finds_8 fl_X6_17 ?_
    refine ez_iload_n dX6_finds_11 rfl ?_
    refine al123 dX6_finds_12 (by omega) ?_
    refine ez_ic_ge 172 dX6_finds_13 (by decide) (fun c_13 => ?_) (fun c_13 => ?_)
    · refine ez_vreturn (st := []) dX6_finds_172 rfl ?_
      refine ez_PV.in ⟨ag, gr (h' 132) (fun _ _ _ => rfl) ?_⟩
      rw [show nB - jn = 0 by omega]
      trivial
    · have hjn : jn < nB := by omega
      refine ez_aload_n dX6_finds_16 rfl ?_
      refine g6_12 dX6_finds_17 fl_X6_45 ?_
      refine ez_iload dX6_finds_20 rfl ?_
      refine ez_iconst dX6_finds_22 (by decide) ?_
      refine as132 dX6_finds_23 (by omega) ?_
      refine ez_iconst dX6_finds_24 (by decide) ?_
      refine ez_istore dX6_finds_25 (by decide) ?_
      refine lp_f2 (t := nB - 1 - jn) (h := ez_up h' 132 jn (-1)) (H.keep (fun o k ho => (ez_up_ne (by omega)).trans (ag o k (by omega)))) (by omega) (by omega) hset (fun t' ht s hs2 => ?_) (fun h2 ag2 ep2 => ?_) (nA + 1) 0 _ (by omega) (fun o k _ => rfl) ez_up_eq (by omega)
      · rw [ez_up_ne (by omega), ag 131 _ (by omega)]
        exact hv t' ht s hs2
      replace ag2 : ∀ o k : Int, ¬ (o = 132 ∧ k = jn) → h2 o k = h' o k := fun o k hk => (ag2 o k hk).trans (ez_up_ne hk)
      have hr : h2 132 jn = -1 ∨ (0 ≤ h2 132 jn ∧ h2 132 jn < nA) := by
        have hpk := pm_pick_spec (g := g) (R := R) (nxt := pm_val g R nA nB (nB - 1 - jn)) (j := (jn : Int)) (set := set) (v := pm_val g R nA nB (nB - 1 - jn + 1) set) nA
        rw [← ep2] at hpk
        rcases hpk with ⟨p1, -⟩ | ⟨i, p1, p2, -⟩
        · exact Or.inl p1
        · exact Or.inr (by omega)
      have hal := pm_add_lt hset hr
      refine ez_aload_n dX6_finds_143 rfl ?_
      refine g6_12 dX6_finds_144 fl_X6_45 ?_
      refine ez_iload dX6_finds_147 rfl ?_
      refine al132 dX6_finds_149 (by omega) ?_
      refine ez_iconst dX6_finds_150 (by decide) ?_
      refine ez_ic_eq 166 dX6_finds_151 (by decide) (fun c_151 => ?_) (fun c_151 => ?_)
      · refine ez_iinc dX6_finds_166 rfl (by decide) (by decide) (by omega) ?_
        refine ez_goto 5 dX6_finds_169 (by decide) ?_
        first
          | (refine ez_lessS (L' := [ez_R 121, ez_I a, ez_I b, ez_I ((pm_add set (h2 132 jn) : Nat) : Int), ez_I ((jn + 1 : Nat) : Int), ez_N]) ⟨Or.inr rfl, Or.inr rfl, Or.inr rfl, Or.inr (congrArg (fun z : Nat => ez_I (z : Int)) (show pm_add set (h2 132 jn) = set from if_pos c_151)), Or.inr rfl, Or.inl rfl, trivial⟩ ?_)
          | (refine ez_lessS (L' := [ez_R 121, ez_I a, ez_I b, ez_I ((pm_add set (h2 132 jn) : Nat) : Int), ez_I ((jn + 1 : Nat) : Int), ez_N]) ⟨Or.inr rfl, Or.inr rfl, Or.inr rfl, Or.inr (congrArg (fun z : Nat => ez_I (z : Int)) (show pm_add set (h2 132 jn) = set ||| 1 * 2 ^ (h2 132 jn).toNat from (if_neg c_151).trans (by rw [Nat.one_mul]))), Or.inr rfl, Or.inl rfl, trivial⟩ ?_)
        refine ih (jn + 1) _ h2 (by omega) hal (fun o k ho => (ag2 o k (by omega)).trans (ag o k ho)) (fun q hq hgr => ?_) (by omega)
        refine gr q (fun k k0 k1 => (hq k k0 (by omega)).trans (ag2 132 k (by omega))) ?_
        have e1 := hq jn (by omega) (by omega)
        rw [show nB - jn = (nB - 1 - jn) + 1 by omega]
        have e0 : (nB : Int) - 1 - ((nB - 1 - jn : Nat) : Int) = jn := by omega
        refine ⟨?_, ?_⟩
        · rw [e0, e1, ep2]
        · rw [e0, e1, show nB - 1 - jn = nB - (jn + 1) by omega]
          exact hgr
      · refine ez_iload_n dX6_finds_154 rfl ?_
        refine ez_iconst dX6_finds_155 (by decide) ?_
        refine ez_aload_n dX6_finds_156 rfl ?_
        refine g6_12 dX6_finds_157 fl_X6_45 ?_
        refine ez_iload dX6_finds_160 rfl ?_
        refine al132 dX6_finds_162 (by omega) ?_
        refine ez_ishl 1 (h2 132 jn).toNat rfl (by omega) (by omega) (by have := Nat.pow_le_pow_right (show 0 < 2 by decide) (show (h2 132 jn).toNat ≤ 8 by omega); omega) dX6_finds_163 ?_
        refine ez_ior set (1 * 2 ^ (h2 132 jn).toNat) rfl rfl (by omega) (by have := Nat.pow_le_pow_right (show 0 < 2 by decide) (show (h2 132 jn).toNat ≤ 8 by omega); omega) dX6_finds_164 ?_
        refine ez_istore_n dX6_finds_165 (by decide) ?_
        refine ez_iinc dX6_finds_166 rfl (by decide) (by decide) (by omega) ?_
        refine ez_goto 5 dX6_finds_169 (by decide) ?_
        first
          | (refine ez_lessS (L' := [ez_R 121, ez_I a, ez_I b, ez_I ((pm_add set (h2 132 jn) : Nat) : Int), ez_I ((jn + 1 : Nat) : Int), ez_N]) ⟨Or.inr rfl, Or.inr rfl, Or.inr rfl, Or.inr (congrArg (fun z : Nat => ez_I (z : Int)) (show pm_add set (h2 132 jn) = set from if_pos c_151)), Or.inr rfl, Or.inl rfl, trivial⟩ ?_)
          | (refine ez_lessS (L' := [ez_R 121, ez_I a, ez_I b, ez_I ((pm_add set (h2 132 jn) : Nat) : Int), ez_I ((jn + 1 : Nat) : Int), ez_N]) ⟨Or.inr rfl, Or.inr rfl, Or.inr rfl, Or.inr (congrArg (fun z : Nat => ez_I (z : Int)) (show pm_add set (h2 132 jn) = set ||| 1 * 2 ^ (h2 132 jn).toNat from (if_neg c_151).trans (by rw [Nat.one_mul]))), Or.inr rfl, Or.inl rfl, trivial⟩ ?_)
        refine ih (jn + 1) _ h2 (by omega) hal (fun o k ho => (ag2 o k (by omega)).trans (ag o k ho)) (fun q hq hgr => ?_) (by omega)
        refine gr q (fun k k0 k1 => (hq k k0 (by omega)).trans (ag2 132 k (by omega))) ?_
        have e1 := hq jn (by omega) (by omega)
        rw [show nB - jn = (nB - 1 - jn) + 1 by omega]
        have e0 : (nB : Int) - 1 - ((nB - 1 - jn : Nat) : Int) = jn := by omega
        refine ⟨?_, ?_⟩
        · rw [e0, e1, ep2]
        · rw [e0, e1, show nB - 1 - jn = nB - (jn + 1) by omega]
          exact hgr
theorem c_X6_finds {a b : Int} {h : ez_H} {nA nB : Nat} {R : Int} {g : Int → Int → Int} (H : rf_G h a b nA nB R g) (hv : ∀ t' : Nat, t' ≤ nB → ∀ s : Nat, s < 2 ^ nA → h 131 (256 * (nB - t') + s) = pm_val g R nA nB t' s) : ez_Ct M_X6_finds [ez_R 121, ez_I a, ez_I b] h ((ez_PV (fun h' => (∀ o k : Int, o ≠ 132 → h' o k = h o k) ∧ pm_gr g R nA (h' 132) nB nB 0))) := by
  obtain ⟨ha, hb, hA, hA8, hB, hB8, hR, hR0, hR1, -⟩ := id H
  refine ez_of (by decide) (Nat.le_of_ble_eq_true rfl) (L0 := [ez_R 121, ez_I a, ez_I b, ez_N, ez_N, ez_N]) rfl ?_
  refine ez_iconst dX6_finds_0 (by decide) ?_
  refine ez_istore_n dX6_finds_1 (by decide) ?_
  refine ez_iconst dX6_finds_2 (by decide) ?_
  refine ez_istore dX6_finds_3 (by decide) ?_
  exact lp_f1 H hv (nB + 1) 0 0 h (by omega) (Nat.two_pow_pos nA) (fun o k _ => rfl) (fun q _ hq => hq) (by omega)
