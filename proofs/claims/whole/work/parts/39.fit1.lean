/-! the class's Fitter: plates, keys, sorting. keys 94, shiftX 95, shiftY 96, lowerSpot 97, upperSpot 98 -/
def cd_P (h : ez_H) (o : Int) : bl_P := ((h o 1).toNat, h (o + 1), h (o + 2))
def cd_W (h : ez_H) (o : Int) : Prop := (ez_isP o) ∧ (2 ≤ o ∧ o < 15) ∧ (0 ≤ h o 1 ∧ h o 1 ≤ 8) ∧ (∀ i : Int, 0 ≤ i → i < h o 1 → (0 ≤ h (o + 1) i ∧ h (o + 1) i ≤ 999) ∧ (0 ≤ h (o + 2) i ∧ h (o + 2) i ≤ 999))
theorem cd_W.p {h : ez_H} {o : Int} (x_ : cd_W h o) : ez_isP o := x_.1
theorem cd_W.l {h : ez_H} {o : Int} (x_ : cd_W h o) : 2 ≤ o ∧ o < 15 := x_.2.1
theorem cd_W.n {h : ez_H} {o : Int} (x_ : cd_W h o) : 0 ≤ h o 1 ∧ h o 1 ≤ 8 := x_.2.2.1
theorem cd_W.x {h : ez_H} {o : Int} (x_ : cd_W h o) : ∀ i : Int, 0 ≤ i → i < h o 1 → (0 ≤ h (o + 1) i ∧ h (o + 1) i ≤ 999) ∧ (0 ≤ h (o + 2) i ∧ h (o + 2) i ≤ 999) := x_.2.2.2
theorem cd_W.eq {h h' : ez_H} {o : Int} (W : cd_W h o) (e : ∀ o' k : Int, 2 ≤ o' → o' < 17 → h' o' k = h o' k) : cd_W h' o ∧ cd_P h' o = cd_P h o := by
  have l := W.l
  have e1 : h' (o + 1) = h (o + 1) := funext fun k => e _ k (by omega) (by omega)
  have e2 : h' (o + 2) = h (o + 2) := funext fun k => e _ k (by omega) (by omega)
  have e0 := e o 1 (by omega) (by omega)
  refine ⟨⟨W.p, l, by rw [e0]; exact W.n, fun i i0 i1 => by rw [e1, e2]; exact W.x i i0 (by rw [← e0]; exact i1)⟩, ?_⟩
  unfold cd_P
  rw [e0, e1, e2]
def ks_ (A B : bl_P) (k s i j : Int) : Int := ((bl_sx A B k s i j + 4096) * 8192 + (bl_sy A B k s i j + 4096)) * 64 + i * 8 + j
/-- the keys are those of the pairs in D -/
def ls_I (h : ez_H) (A B : bl_P) (k s : Int) (D : Int → Int → Prop) : Prop := (∀ n : Int, 0 ≤ n → n < h 93 8 → ∃ i j : Int, D i j ∧ h 94 n = ks_ A B k s i j) ∧ ∀ i j : Int, D i j → ∃ n : Int, (0 ≤ n ∧ n < h 93 8) ∧ h 94 n = ks_ A B k s i j
theorem ls_I.add {h h' : ez_H} {A B : bl_P} {k s i j : Int} {D D' : Int → Int → Prop} (I : ls_I h A B k s D) (hD : ∀ i' j' : Int, D' i' j' ↔ D i' j' ∨ (i' = i ∧ j' = j)) (n0 : 0 ≤ h 93 8) (e8 : h' 93 8 = h 93 8 + 1) (ek : h' 94 (h 93 8) = ks_ A B k s i j) (e4 : ∀ n : Int, n ≠ h 93 8 → h' 94 n = h 94 n) : ls_I h' A B k s D' := by
  refine ⟨fun n q0 q1 => ?_, fun i' j' hd => ?_⟩
  · by_cases e : n = h 93 8
    · exact ⟨i, j, (hD i j).2 (Or.inr ⟨rfl, rfl⟩), by rw [e]; exact ek⟩
    · obtain ⟨i', j', a, b⟩ := I.1 n q0 (by omega)
      exact ⟨i', j', (hD i' j').2 (Or.inl a), by rw [e4 n e]; exact b⟩
  · rcases (hD i' j').1 hd with a | ⟨a, b⟩
    · obtain ⟨n, q, r⟩ := I.2 i' j' a
      exact ⟨n, by omega, by rw [e4 n (by omega)]; exact r⟩
    · exact ⟨h 93 8, by omega, by rw [a, b]; exact ek⟩
theorem ls_I.iff {h : ez_H} {A B : bl_P} {k s : Int} {D D' : Int → Int → Prop} (I : ls_I h A B k s D) (hD : ∀ i' j' : Int, D' i' j' ↔ D i' j') : ls_I h A B k s D' :=
  ⟨fun n q0 q1 => by
    obtain ⟨i, j, a, b⟩ := I.1 n q0 q1
    exact ⟨i, j, (hD i j).2 a, b⟩, fun i j hd => I.2 i j ((hD i j).1 hd)⟩
/-- the pairs listed so far -/
def ls_D (A B : bl_P) (J I : Int) (i j : Int) : Prop := (0 ≤ i ∧ i < A.1) ∧ (0 ≤ j ∧ j < B.1) ∧ (j < J ∨ (j = J ∧ i < I))
/-! sorting: the same keys -/
def so_I (h h' : ez_H) (T : Int) : Prop := (∀ n : Int, 0 ≤ n → n < T → ∃ m : Int, (0 ≤ m ∧ m < T) ∧ h' 94 n = h 94 m) ∧ ∀ m : Int, 0 ≤ m → m < T → ∃ n : Int, (0 ≤ n ∧ n < T) ∧ h' 94 n = h 94 m
def so_H (h h' : ez_H) (T at_ key : Int) : Prop := (∀ n : Int, 0 ≤ n → n < T → n ≠ at_ → ∃ m : Int, (0 ≤ m ∧ m < T) ∧ h' 94 n = h 94 m) ∧ (∃ m : Int, (0 ≤ m ∧ m < T) ∧ key = h 94 m) ∧ ∀ m : Int, 0 ≤ m → m < T → h 94 m = key ∨ ∃ n : Int, (0 ≤ n ∧ n < T ∧ n ≠ at_) ∧ h' 94 n = h 94 m
theorem so_I.hole {h h' : ez_H} {T at_ : Int} (I : so_I h h' T) (ha : 0 ≤ at_ ∧ at_ < T) : so_H h h' T at_ (h' 94 at_) :=
  ⟨fun n a b _ => I.1 n a b, I.1 at_ ha.1 ha.2, fun m a b => by
    obtain ⟨n, c, d⟩ := I.2 m a b
    by_cases e : n = at_
    · left
      rw [← d, e]
    · exact Or.inr ⟨n, by omega, d⟩⟩
theorem so_H.move {h h' : ez_H} {T at_ key b : Int} (I : so_H h h' T at_ key) (ha : 0 ≤ at_ ∧ at_ < T) (hb : 0 ≤ b ∧ b < T ∧ b ≠ at_) : so_H h (ez_up h' 94 at_ (h' 94 b)) T b key := by
  refine ⟨fun n n0 n1 n2 => ?_, I.2.1, fun m m0 m1 => ?_⟩
  · by_cases e : n = at_
    · rw [e, ez_up_eq]
      exact I.1 b hb.1 hb.2.1 hb.2.2
    · rw [ez_up_ne (by omega)]
      exact I.1 n n0 n1 e
  · rcases I.2.2 m m0 m1 with q | ⟨n, n0, n1⟩
    · exact Or.inl q
    · by_cases e : n = b
      · exact Or.inr ⟨at_, by omega, by rw [ez_up_eq, ← e]; exact n1⟩
      · exact Or.inr ⟨n, by omega, by rw [ez_up_ne (by omega)]; exact n1⟩
theorem so_H.fill {h h' : ez_H} {T at_ key : Int} (I : so_H h h' T at_ key) (ha : 0 ≤ at_ ∧ at_ < T) : so_I h (ez_up h' 94 at_ key) T := by
  refine ⟨fun n n0 n1 => ?_, fun m m0 m1 => ?_⟩
  · by_cases e : n = at_
    · rw [e, ez_up_eq]
      exact I.2.1
    · rw [ez_up_ne (by omega)]
      exact I.1 n n0 n1 e
  · rcases I.2.2 m m0 m1 with q | ⟨n, n0, n1⟩
    · exact ⟨at_, ha, by rw [ez_up_eq, q]⟩
    · exact ⟨n, by omega, by rw [ez_up_ne (by omega)]; exact n1⟩
/-! sorting: in order -/
def so_S (h' : ez_H) (n : Int) : Prop := ∀ a b : Int, 0 ≤ a → a < b → b < n → h' 94 a ≤ h' 94 b
def so_T (h' : ez_H) (n at_ key : Int) : Prop := (∀ a b : Int, 0 ≤ a → a < b → b ≤ n → a ≠ at_ → b ≠ at_ → h' 94 a ≤ h' 94 b) ∧ ∀ b : Int, at_ < b → b ≤ n → key ≤ h' 94 b
theorem so_T.move {h' : ez_H} {n at_ key : Int} (S : so_T h' n at_ key) (ha : 1 ≤ at_ ∧ at_ ≤ n) (hk : key < h' 94 (at_ - 1)) : so_T (ez_up h' 94 at_ (h' 94 (at_ - 1))) n (at_ - 1) key := by
  refine ⟨fun a b a0 ab bn na nb => ?_, fun b b0 b1 => ?_⟩
  · by_cases e : b = at_
    · rw [e, ez_up_eq, ez_up_ne (by omega)]
      exact S.1 a (at_ - 1) a0 (by omega) (by omega) (by omega) (by omega)
    · by_cases e' : a = at_
      · rw [e', ez_up_eq, ez_up_ne (by omega)]
        exact S.1 (at_ - 1) b (by omega) (by omega) bn (by omega) e
      · rw [ez_up_ne (by omega), ez_up_ne (by omega)]
        exact S.1 a b a0 ab bn e' e
  · by_cases e : b = at_
    · rw [e, ez_up_eq]
      omega
    · rw [ez_up_ne (by omega)]
      exact S.2 b (by omega) b1
theorem so_T.fill {h' : ez_H} {n at_ key : Int} (S : so_T h' n at_ key) (ha : 0 ≤ at_ ∧ at_ ≤ n) (hk : at_ = 0 ∨ h' 94 (at_ - 1) ≤ key) : so_S (ez_up h' 94 at_ key) (n + 1) := by
  intro a b a0 ab bn
  by_cases e : b = at_
  · rw [e, ez_up_eq, ez_up_ne (by omega)]
    by_cases q : a = at_ - 1
    · rw [q]
      omega
    · have := S.1 a (at_ - 1) a0 (by omega) (by omega) (by omega) (by omega)
      omega
  · by_cases e' : a = at_
    · rw [e', ez_up_eq, ez_up_ne (by omega)]
      exact S.2 b (by omega) (by omega)
    · rw [ez_up_ne (by omega), ez_up_ne (by omega)]
      exact S.1 a b a0 ab (by omega) e' e

theorem lp_ls1 {oa ob k s : Int} {h : ez_H} (WA : cd_W h oa) (WB : cd_W h ob) (hs : 1 ≤ s ∧ s ≤ 3) {Q : ez_H → Option ez_V → Prop} {j X Y : Int} (hj : 0 ≤ j ∧ j < h ob 1) (hX : X = (s * fx_tx k (h (ob + 1) j) (h (ob + 2) j))) (hY : Y = (s * fx_ty k (h (ob + 1) j) (h (ob + 2) j))) (bX : (-3000 ≤ X ∧ X ≤ 3000) ∧ (-3000 ≤ Y ∧ Y ≤ 3000)) (kx : ∀ h', ls_I h' (cd_P h oa) (cd_P h ob) k s (ls_D (cd_P h oa) (cd_P h ob) j (h oa 1)) → (∀ o k : Int, o ≠ 94 → ¬ (o = 93 ∧ k = 8) → h' o k = h o k) → (0 ≤ h' 93 8 ∧ h' 93 8 ≤ 8 * j + 8) → ez_En M_X0_listShifts 162 [ez_R 93, ez_R oa, ez_R ob, ez_I k, ez_I s, ez_I j, ez_N, ez_N, ez_N, ez_N, ez_N, ez_N, ez_N] [] h' Q) : ∀ (n : Nat) (i : Int) (h' : ez_H), (0 ≤ i) → (i ≤ h oa 1) → (ls_I h' (cd_P h oa) (cd_P h ob) k s (ls_D (cd_P h oa) (cd_P h ob) j i)) → (∀ o k : Int, o ≠ 94 → ¬ (o = 93 ∧ k = 8) → h' o k = h o k) → (0 ≤ h' 93 8 ∧ h' 93 8 ≤ 8 * j + i) → h oa 1 - i < n → ez_En M_X0_listShifts 66 [ez_R 93, ez_R oa, ez_R ob, ez_I k, ez_I s, ez_I j, ez_I X, ez_I Y, ez_I i, ez_N, ez_N, ez_N, ez_N] [] h' Q := by
  intro n
  induction n with
  | zero =>
    intro i h' i0 i1 LI fr sh hm
    exfalso
    omega
  | succ n ih =>
    intro i h' i0 i1 LI fr sh hm
    have nb := WB.n
    have pa := WA.p
    have la := WA.l
    have na := WA.n
    have ea0 := fr oa 1 (by omega) (by omega)
    have ea1 := fr (oa + 1) i (by omega) (by omega)
    have ea2 := fr (oa + 2) i (by omega) (by omega)
    refine ez_iload dX0_listShifts_66 rfl ?_
    refine ez_aload_n dX0_listShifts_68 rfl ?_
    refine g3_1 (by first | assumption | exact ez_isP.mk (by omega)) dX0_listShifts_69 fl_X0_60 ?_
    refine ez_ic_ge 162 dX0_listShifts_72 (by decide) (fun c_72 => ?_) (fun c_72 => ?_)
    · refine ez_lessS (L' := [ez_R 93, ez_R oa, ez_R ob, ez_I k, ez_I s, ez_I j, ez_N, ez_N, ez_N, ez_N, ez_N, ez_N, ez_N]) ⟨Or.inr rfl, Or.inr rfl, Or.inr rfl, Or.inr rfl, Or.inr rfl, Or.inr rfl, Or.inl rfl, Or.inl rfl, Or.inl rfl, Or.inl rfl, Or.inl rfl, Or.inl rfl, Or.inl rfl, trivial⟩ ?_
      exact kx h' (by rw [show h oa 1 = i by omega]; exact LI) fr (by omega)
    · have ax := WA.x i (by omega) (by omega)
      refine ez_aload_n dX0_listShifts_75 rfl ?_
      refine g3_2 (by first | assumption | exact ez_isP.mk (by omega)) dX0_listShifts_76 fl_X0_72 ?_
      refine ez_iload dX0_listShifts_79 rfl ?_
      refine alP1 (by first | assumption | exact ez_isP.mk (by omega)) dX0_listShifts_81 (by omega) ?_
      refine ez_iload dX0_listShifts_82 rfl ?_
      refine ez_isub dX0_listShifts_84 (by omega) ?_
      refine ez_sipush dX0_listShifts_85 (by decide) (by decide) ?_
      refine ez_iadd dX0_listShifts_88 (by omega) ?_
      refine ez_i2l dX0_listShifts_89 ?_
      refine ez_lstore dX0_listShifts_90 (by decide) ?_
      refine ez_aload_n dX0_listShifts_92 rfl ?_
      refine g3_3 (by first | assumption | exact ez_isP.mk (by omega)) dX0_listShifts_93 fl_X0_75 ?_
      refine ez_iload dX0_listShifts_96 rfl ?_
      refine alP2 (by first | assumption | exact ez_isP.mk (by omega)) dX0_listShifts_98 (by omega) ?_
      refine ez_iload dX0_listShifts_99 rfl ?_
      refine ez_isub dX0_listShifts_101 (by omega) ?_
      refine ez_sipush dX0_listShifts_102 (by decide) (by decide) ?_
      refine ez_iadd dX0_listShifts_105 (by omega) ?_
      refine ez_i2l dX0_listShifts_106 ?_
      refine ez_lstore dX0_listShifts_107 (by decide) ?_
      refine ez_aload_n dX0_listShifts_109 rfl ?_
      refine g0_0 dX0_listShifts_110 fl_X0_11 ?_
      refine ez_aload_n dX0_listShifts_113 rfl ?_
      refine g0_8 dX0_listShifts_114 fl_X0_69 ?_
      refine ez_lload dX0_listShifts_117 rfl ?_
      refine ez_ldc2 (2) dX0_listShifts_119 cn_X0_85 rfl (by decide) ?_
      refine ez_lmul dX0_listShifts_122 (by omega) ?_
      refine ez_ldc2 (4096) dX0_listShifts_123 cn_X0_87 rfl (by decide) ?_
      refine ez_lmul dX0_listShifts_126 (by omega) ?_
      refine ez_lload dX0_listShifts_127 rfl ?_
      refine ez_ladd dX0_listShifts_129 (by omega) ?_
      refine ez_ldc2 (64) dX0_listShifts_130 cn_X0_89 rfl (by decide) ?_
      refine ez_lmul dX0_listShifts_133 (by omega) ?_
      refine ez_iload dX0_listShifts_134 rfl ?_
      refine ez_bipush dX0_listShifts_136 (by decide) (by decide) ?_
      refine ez_imul dX0_listShifts_138 (by omega) ?_
      refine ez_i2l dX0_listShifts_139 ?_
      refine ez_ladd dX0_listShifts_140 (by omega) ?_
      refine ez_iload dX0_listShifts_141 rfl ?_
      refine ez_i2l dX0_listShifts_143 ?_
      refine ez_ladd dX0_listShifts_144 (by omega) ?_
      have n1 : ls_I (ez_up (ez_up h' 94 (h' 93 8) (((h' (oa + 1) i - X + 4096) * 2 * 4096 + (h' (oa + 2) i - Y + 4096)) * 64 + i * 8 + j)) 93 8 (h' 93 8 + 1)) (cd_P h oa) (cd_P h ob) k s (ls_D (cd_P h oa) (cd_P h ob) j (i + 1)) ∧ (∀ o k : Int, o ≠ 94 → ¬ (o = 93 ∧ k = 8) → ez_up (ez_up h' 94 (h' 93 8) (((h' (oa + 1) i - X + 4096) * 2 * 4096 + (h' (oa + 2) i - Y + 4096)) * 64 + i * 8 + j)) 93 8 (h' 93 8 + 1) o k = h o k) ∧ ez_up (ez_up h' 94 (h' 93 8) (((h' (oa + 1) i - X + 4096) * 2 * 4096 + (h' (oa + 2) i - Y + 4096)) * 64 + i * 8 + j)) 93 8 (h' 93 8 + 1) 93 8 = h' 93 8 + 1 := by
        refine ⟨LI.add (i := i) (j := j) (fun i' j' => ?_) sh.1 ez_up_eq ?_ (fun n hn => ?_), fun o k o1 o2 => ?_, ez_up_eq⟩
        · unfold ls_D
          have t1 : ((cd_P h oa).1 : Int) = h oa 1 := by show (((h oa 1).toNat : Nat) : Int) = h oa 1; omega
          have t2 : ((cd_P h ob).1 : Int) = h ob 1 := by show (((h ob 1).toNat : Nat) : Int) = h ob 1; omega
          rw [t1, t2]
          constructor
          · intro q
            omega
          · intro q
            omega
        · rw [ez_up_ne (by omega), ez_up_eq, ea1, ea2]
          show _ = ((h (oa + 1) i - s * fx_tx k (h (ob + 1) j) (h (ob + 2) j) + 4096) * 8192 + (h (oa + 2) i - s * fx_ty k (h (ob + 1) j) (h (ob + 2) j) + 4096)) * 64 + i * 8 + j
          rw [← hX, ← hY]
          omega
        · rw [ez_up_ne (by omega), ez_up_ne (by omega)]
        · rw [ez_up_ne (by omega), ez_up_ne (by omega)]
          exact fr o k o1 o2
      have v8 : ∀ z : Int, ez_up h' 94 (h' 93 8) z 93 8 = h' 93 8 := fun z => ez_up_ne (by omega)
      refine as94 dX0_listShifts_145 (by omega) ?_
      refine ez_aload_n dX0_listShifts_146 rfl ?_
      refine ez_dup dX0_listShifts_147 rfl ?_
      refine g0_8 dX0_listShifts_148 fl_X0_69 ?_
      refine ez_iconst dX0_listShifts_151 (by decide) ?_
      refine ez_iadd dX0_listShifts_152 (by rw [v8]; omega) ?_
      rw [v8]
      refine p0_8 dX0_listShifts_153 fl_X0_69 ?_
      refine ez_iinc dX0_listShifts_156 rfl (by decide) (by decide) (by omega) ?_
      refine ez_goto 66 dX0_listShifts_159 (by decide) ?_
      refine ez_lessS (L' := [ez_R 93, ez_R oa, ez_R ob, ez_I k, ez_I s, ez_I j, ez_I X, ez_I Y, ez_I (i + 1), ez_N, ez_N, ez_N, ez_N]) ⟨Or.inr rfl, Or.inr rfl, Or.inr rfl, Or.inr rfl, Or.inr rfl, Or.inr rfl, Or.inr rfl, Or.inr rfl, Or.inr rfl, Or.inl rfl, Or.inl rfl, Or.inl rfl, Or.inl rfl, trivial⟩ ?_
      exact ih (i + 1) _ (by omega) (by omega) n1.1 n1.2.1 (by omega) (by omega)
theorem lp_ls2 {oa ob k s : Int} {h : ez_H} (WA : cd_W h oa) (WB : cd_W h ob) (hs : 1 ≤ s ∧ s ≤ 3) : ∀ (n : Nat) (j : Int) (h' : ez_H), (0 ≤ j) → (j ≤ h ob 1) → (ls_I h' (cd_P h oa) (cd_P h ob) k s (ls_D (cd_P h oa) (cd_P h ob) j 0)) → (∀ o k : Int, o ≠ 94 → ¬ (o = 93 ∧ k = 8) → h' o k = h o k) → (0 ≤ h' 93 8 ∧ h' 93 8 ≤ 8 * j) → h ob 1 - j < n → ez_En M_X0_listShifts 8 [ez_R 93, ez_R oa, ez_R ob, ez_I k, ez_I s, ez_I j, ez_N, ez_N, ez_N, ez_N, ez_N, ez_N, ez_N] [] h' (ez_PV (fun h' => ls_I h' (cd_P h oa) (cd_P h ob) k s (ls_D (cd_P h oa) (cd_P h ob) (h ob 1) 0) ∧ (∀ o k : Int, o ≠ 94 → ¬ (o = 93 ∧ k = 8) → h' o k = h o k) ∧ (0 ≤ h' 93 8 ∧ h' 93 8 ≤ 64))) := by
  intro n
  induction n with
  | zero =>
    intro j h' j0 j1 LI fr sh hm
    exfalso
    omega
  | succ n ih =>
    intro j h' j0 j1 LI fr sh hm
    have pa := WA.p
    have pb := WB.p
    have la := WA.l
    have lb := WB.l
    have na := WA.n
    have nb := WB.n
    have eb0 := fr ob 1 (by omega) (by omega)
    have eb1 := fr (ob + 1) j (by omega) (by omega)
    have eb2 := fr (ob + 2) j (by omega) (by omega)
    refine ez_iload dX0_listShifts_8 rfl ?_
    refine ez_aload_n dX0_listShifts_10 rfl ?_
    refine g3_1 (by first | assumption | exact ez_isP.mk (by omega)) dX0_listShifts_11 fl_X0_60 ?_
    refine ez_ic_ge 168 dX0_listShifts_14 (by decide) (fun c_14 => ?_) (fun c_14 => ?_)
    · refine ez_vreturn (st := []) dX0_listShifts_168 rfl ?_
      exact ez_PV.in ⟨by rw [show h ob 1 = j by omega]; exact LI, fr, by omega⟩
    · have bx := WB.x j (by omega) (by omega)
      have bd := fx_t_bd (k := k) bx
      have bm : (-3000 ≤ (s * fx_tx k (h (ob + 1) j) (h (ob + 2) j)) ∧ (s * fx_tx k (h (ob + 1) j) (h (ob + 2) j)) ≤ 3000) ∧ (-3000 ≤ (s * fx_ty k (h (ob + 1) j) (h (ob + 2) j)) ∧ (s * fx_ty k (h (ob + 1) j) (h (ob + 2) j)) ≤ 3000) := by
        rcases (show s = 1 ∨ s = 2 ∨ s = 3 by omega) with e | e | e <;> rw [e] <;> omega
      refine ez_iload dX0_listShifts_17 rfl ?_
      refine ez_iload_n dX0_listShifts_19 rfl ?_
      refine ez_aload_n dX0_listShifts_20 rfl ?_
      refine g3_2 (by first | assumption | exact ez_isP.mk (by omega)) dX0_listShifts_21 fl_X0_72 ?_
      refine ez_iload dX0_listShifts_24 rfl ?_
      refine alP1 (by first | assumption | exact ez_isP.mk (by omega)) dX0_listShifts_26 (by omega) ?_
      refine ez_aload_n dX0_listShifts_27 rfl ?_
      refine g3_3 (by first | assumption | exact ez_isP.mk (by omega)) dX0_listShifts_28 fl_X0_75 ?_
      refine ez_iload dX0_listShifts_31 rfl ?_
      refine alP2 (by first | assumption | exact ez_isP.mk (by omega)) dX0_listShifts_33 (by omega) ?_
      rw [eb1, eb2]
      refine cn_X5_turnedX dX0_listShifts_34 ml_X0_78 ft_X0_listShifts__X5_turnedX (Nat.le_of_ble_eq_true rfl) (c_X5_turnedX (by omega)) (ez_kF ?_)
      refine ez_imul dX0_listShifts_37 (by omega) ?_
      refine ez_istore dX0_listShifts_38 (by decide) ?_
      refine ez_iload dX0_listShifts_40 rfl ?_
      refine ez_iload_n dX0_listShifts_42 rfl ?_
      refine ez_aload_n dX0_listShifts_43 rfl ?_
      refine g3_2 (by first | assumption | exact ez_isP.mk (by omega)) dX0_listShifts_44 fl_X0_72 ?_
      refine ez_iload dX0_listShifts_47 rfl ?_
      refine alP1 (by first | assumption | exact ez_isP.mk (by omega)) dX0_listShifts_49 (by omega) ?_
      refine ez_aload_n dX0_listShifts_50 rfl ?_
      refine g3_3 (by first | assumption | exact ez_isP.mk (by omega)) dX0_listShifts_51 fl_X0_75 ?_
      refine ez_iload dX0_listShifts_54 rfl ?_
      refine alP2 (by first | assumption | exact ez_isP.mk (by omega)) dX0_listShifts_56 (by omega) ?_
      rw [eb1, eb2]
      refine cn_X5_turnedY dX0_listShifts_57 ml_X0_82 ft_X0_listShifts__X5_turnedY (Nat.le_of_ble_eq_true rfl) (c_X5_turnedY (by omega)) (ez_kF ?_)
      refine ez_imul dX0_listShifts_60 (by omega) ?_
      refine ez_istore dX0_listShifts_61 (by decide) ?_
      refine ez_iconst dX0_listShifts_63 (by decide) ?_
      refine ez_istore dX0_listShifts_64 (by decide) ?_
      refine lp_ls1 WA WB hs (by omega) rfl rfl bm (fun h2 L2 f2 s2 => ?_) (h oa 1 + 1).toNat 0 h' (by omega) (by omega) LI fr (by omega) (by omega)
      refine ez_iinc dX0_listShifts_162 rfl (by decide) (by decide) (by omega) ?_
      refine ez_goto 8 dX0_listShifts_165 (by decide) ?_
      refine ih (j + 1) h2 (by omega) (by omega) (L2.iff (fun i' j' => ?_)) f2 (by omega) (by omega)
      unfold ls_D
      have t1 : ((cd_P h oa).1 : Int) = h oa 1 := by show (((h oa 1).toNat : Nat) : Int) = h oa 1; omega
      rw [t1]
      constructor
      · intro q
        omega
      · intro q
        omega
theorem c_X0_listShifts {oa ob k s : Int} {h : ez_H} (WA : cd_W h oa) (WB : cd_W h ob) (hs : 1 ≤ s ∧ s ≤ 3) : ez_Ct M_X0_listShifts [ez_R 93, ez_R oa, ez_R ob, ez_I k, ez_I s] h (ez_PV (fun h' => ls_I h' (cd_P h oa) (cd_P h ob) k s (ls_D (cd_P h oa) (cd_P h ob) (h ob 1) 0) ∧ (∀ o k : Int, o ≠ 94 → ¬ (o = 93 ∧ k = 8) → h' o k = h o k) ∧ (0 ≤ h' 93 8 ∧ h' 93 8 ≤ 64))) := by
  refine ez_of (by decide) (Nat.le_of_ble_eq_true rfl) (L0 := [ez_R 93, ez_R oa, ez_R ob, ez_I k, ez_I s, ez_N, ez_N, ez_N, ez_N, ez_N, ez_N, ez_N, ez_N]) rfl ?_
  refine ez_aload_n dX0_listShifts_0 rfl ?_
  refine ez_iconst dX0_listShifts_1 (by decide) ?_
  refine p0_8 dX0_listShifts_2 fl_X0_69 ?_
  refine ez_iconst dX0_listShifts_5 (by decide) ?_
  refine ez_istore dX0_listShifts_6 (by decide) ?_
  have nb := WB.n
  refine lp_ls2 WA WB hs (h ob 1 + 1).toNat 0 _ (by omega) (by omega) ⟨fun n n0 n1 => ?_, fun i j hd => ?_⟩ (fun o k o1 o2 => ez_up_ne (by omega)) ?_ (by omega)
  · rw [ez_up_eq] at n1
    omega
  · unfold ls_D at hd
    omega
  · rw [ez_up_eq]
    omega
theorem lp_k1 {T gi g : Int} {h : ez_H} {Q : ez_H → Option ez_V → Prop} (hT : h 93 8 = T ∧ 0 ≤ T ∧ T ≤ 64) (hg : 1 ≤ g ∧ g ≤ 23) {n0 key : Int} (hn : 0 ≤ n0 ∧ n0 < T) (kx : ∀ (h' : ez_H) (at_ : Int), (0 ≤ at_ ∧ at_ ≤ n0) → so_H h h' T at_ key → (g = 1 → so_T h' n0 at_ key) → (∀ o k : Int, o ≠ 94 → h' o k = h o k) → (g = 1 → at_ = 0 ∨ h' 94 (at_ - 1) ≤ key) → ez_En M_X0_sortKeys 95 [ez_R 93, ez_R 200, ez_I 4, ez_I gi, ez_I g, ez_I n0, ez_L key, ez_N, ez_I at_] [] h' Q) : ∀ (n : Nat) (at_ : Int) (h' : ez_H), (0 ≤ at_ ∧ at_ ≤ n0) → (so_H h h' T at_ key) → (g = 1 → so_T h' n0 at_ key) → (∀ o k : Int, o ≠ 94 → h' o k = h o k) → at_ < n → ez_En M_X0_sortKeys 45 [ez_R 93, ez_R 200, ez_I 4, ez_I gi, ez_I g, ez_I n0, ez_L key, ez_N, ez_I at_] [] h' Q := by
  intro n
  induction n with
  | zero =>
    intro at_ h' a0 SH ST fr hm
    exfalso
    omega
  | succ n ih =>
    intro at_ h' a0 SH ST fr hm
    refine ez_iload dX0_sortKeys_45 rfl ?_
    refine ez_iload dX0_sortKeys_47 rfl ?_
    refine ez_ic_lt 95 dX0_sortKeys_49 (by decide) (fun c_49 => ?_) (fun c_49 => ?_)
    · exact kx h' at_ (by omega) SH ST fr (fun e => by first | omega | (right; rw [e] at hz_64; omega))
    · refine ez_aload_n dX0_sortKeys_52 rfl ?_
      refine g0_0 dX0_sortKeys_53 fl_X0_11 ?_
      refine ez_iload dX0_sortKeys_56 rfl ?_
      refine ez_iload dX0_sortKeys_58 rfl ?_
      refine ez_isub dX0_sortKeys_60 (by omega) ?_
      refine al94 dX0_sortKeys_61 (by omega) ?_
      refine ez_lload dX0_sortKeys_62 rfl ?_
      refine ez_lcmp dX0_sortKeys_64 (fun z_64 hz_64 => ?_)
      refine ez_if_le 95 dX0_sortKeys_65 (by decide) (fun c_65 => ?_) (fun c_65 => ?_)
      · exact kx h' at_ (by omega) SH ST fr (fun e => by first | omega | (right; rw [e] at hz_64; omega))
      · have mh := SH.move (b := at_ - g) (by omega) (by omega)
        have ms : g = 1 → so_T (ez_up h' 94 at_ (h' 94 (at_ - g))) n0 (at_ - g) key := fun e => by
          rw [e] at hz_64 ⊢
          exact (ST e).move (by omega) (by omega)
        refine ez_aload_n dX0_sortKeys_68 rfl ?_
        refine g0_0 dX0_sortKeys_69 fl_X0_11 ?_
        refine ez_iload dX0_sortKeys_72 rfl ?_
        refine ez_aload_n dX0_sortKeys_74 rfl ?_
        refine g0_0 dX0_sortKeys_75 fl_X0_11 ?_
        refine ez_iload dX0_sortKeys_78 rfl ?_
        refine ez_iload dX0_sortKeys_80 rfl ?_
        refine ez_isub dX0_sortKeys_82 (by omega) ?_
        refine al94 dX0_sortKeys_83 (by omega) ?_
        refine as94 dX0_sortKeys_84 (by omega) ?_
        refine ez_iload dX0_sortKeys_85 rfl ?_
        refine ez_iload dX0_sortKeys_87 rfl ?_
        refine ez_isub dX0_sortKeys_89 (by omega) ?_
        refine ez_istore dX0_sortKeys_90 (by decide) ?_
        refine ez_goto 45 dX0_sortKeys_92 (by decide) ?_
        exact ih (at_ - g) _ (by omega) mh ms (fun o k ho => (ez_up_ne (by omega)).trans (fr o k ho)) (by omega)
theorem lp_k2 {T gi g : Int} {h : ez_H} {Q : ez_H → Option ez_V → Prop} (hT : h 93 8 = T ∧ 0 ≤ T ∧ T ≤ 64) (hg : 1 ≤ g ∧ g ≤ 23) (kx : ∀ (h' : ez_H), so_I h h' T → (g = 1 → so_S h' T) → (∀ o k : Int, o ≠ 94 → h' o k = h o k) → ez_En M_X0_sortKeys 110 [ez_R 93, ez_R 200, ez_I 4, ez_I gi, ez_N, ez_N, ez_N, ez_N, ez_N] [] h' Q) : ∀ (n : Nat) (n0 : Int) (h' : ez_H), (1 ≤ n0 ∧ n0 ≤ 64) → (so_I h h' T) → (g = 1 → so_S h' n0) → (∀ o k : Int, o ≠ 94 → h' o k = h o k) → 65 - n0 < n → ez_En M_X0_sortKeys 23 [ez_R 93, ez_R 200, ez_I 4, ez_I gi, ez_I g, ez_I n0, ez_N, ez_N, ez_N] [] h' Q := by
  intro n
  induction n with
  | zero =>
    intro n0 h' a0 SI SS fr hm
    exfalso
    omega
  | succ n ih =>
    intro n0 h' a0 SI SS fr hm
    have e8 := fr 93 8 (by decide)
    refine ez_iload dX0_sortKeys_23 rfl ?_
    refine ez_aload_n dX0_sortKeys_25 rfl ?_
    refine g0_8 dX0_sortKeys_26 fl_X0_69 ?_
    refine ez_ic_ge 110 dX0_sortKeys_29 (by decide) (fun c_29 => ?_) (fun c_29 => ?_)
    · refine ez_lessS (L' := [ez_R 93, ez_R 200, ez_I 4, ez_I gi, ez_N, ez_N, ez_N, ez_N, ez_N]) ⟨Or.inr rfl, Or.inr rfl, Or.inr rfl, Or.inr rfl, Or.inl rfl, Or.inl rfl, Or.inl rfl, Or.inl rfl, Or.inl rfl, trivial⟩ ?_
      exact kx h' SI (fun e a b x y z => SS e a b x y (by omega)) fr
    · refine ez_aload_n dX0_sortKeys_32 rfl ?_
      refine g0_0 dX0_sortKeys_33 fl_X0_11 ?_
      refine ez_iload dX0_sortKeys_36 rfl ?_
      refine al94 dX0_sortKeys_38 (by omega) ?_
      refine ez_lstore dX0_sortKeys_39 (by decide) ?_
      refine ez_iload dX0_sortKeys_41 rfl ?_
      refine ez_istore dX0_sortKeys_43 (by decide) ?_
      refine lp_k1 hT hg (n0 := n0) (key := h' 94 n0) (by omega) (fun h2 at_ a2 H2 T2 f2 E2 => ?_) (n0 + 1).toNat n0 h' (by omega) (SI.hole (by omega)) (fun e => ⟨fun a b x y z u v => SS e a b x y (by omega), fun b x y => by omega⟩) fr (by omega)
      refine ez_aload_n dX0_sortKeys_95 rfl ?_
      refine g0_0 dX0_sortKeys_96 fl_X0_11 ?_
      refine ez_iload dX0_sortKeys_99 rfl ?_
      refine ez_lload dX0_sortKeys_101 rfl ?_
      refine as94 dX0_sortKeys_103 (by omega) ?_
      refine ez_iinc dX0_sortKeys_104 rfl (by decide) (by decide) (by omega) ?_
      refine ez_goto 23 dX0_sortKeys_107 (by decide) ?_
      refine ez_lessS (L' := [ez_R 93, ez_R 200, ez_I 4, ez_I gi, ez_I g, ez_I (n0 + 1), ez_N, ez_N, ez_N]) ⟨Or.inr rfl, Or.inr rfl, Or.inr rfl, Or.inr rfl, Or.inr rfl, Or.inr rfl, Or.inl rfl, Or.inl rfl, Or.inl rfl, trivial⟩ ?_
      exact ih (n0 + 1) _ (by omega) (H2.fill (by omega)) (fun e => (T2 e).fill (by omega) (E2 e)) (fun o k ho => (ez_up_ne (by omega)).trans (f2 o k ho)) (by omega)
theorem lp_k3 {T : Int} {h : ez_H} (hT : h 93 8 = T ∧ 0 ≤ T ∧ T ≤ 64) : ∀ (n : Nat) (gi : Int) (h' : ez_H), (0 ≤ gi ∧ gi ≤ 4) → (so_I h h' T) → (gi = 4 → so_S h' T) → (∀ o k : Int, o ≠ 94 → h' o k = h o k) → 4 - gi < n → ez_En M_X0_sortKeys 9 [ez_R 93, ez_R 200, ez_I 4, ez_I gi, ez_N, ez_N, ez_N, ez_N, ez_N] [] h' (ez_PV (fun h' => so_I h h' T ∧ so_S h' T ∧ ∀ o k : Int, o ≠ 94 → h' o k = h o k)) := by
  intro n
  induction n with
  | zero =>
    intro gi h' g0 SI SS fr hm
    exfalso
    omega
  | succ n ih =>
    intro gi h' g0 SI SS fr hm
    refine ez_iload_n dX0_sortKeys_9 rfl ?_
    refine ez_iload_n dX0_sortKeys_10 rfl ?_
    refine ez_ic_ge 116 dX0_sortKeys_11 (by decide) (fun c_11 => ?_) (fun c_11 => ?_)
    · refine ez_vreturn (st := []) dX0_sortKeys_116 rfl ?_
      exact ez_PV.in ⟨SI, SS (by omega), fr⟩
    · refine ez_aload_n dX0_sortKeys_14 rfl ?_
      refine ez_iload_n dX0_sortKeys_15 rfl ?_
      refine ez_gld dX0_sortKeys_16 (by omega) ?_
      have hg : (1 ≤ ez_gap gi ∧ ez_gap gi ≤ 23) ∧ (gi = 3 → ez_gap gi = 1) := by
        unfold ez_gap
        split <;> (first | omega | (split <;> (first | omega | (split <;> omega))))
      refine ez_istore dX0_sortKeys_17 (by decide) ?_
      refine ez_iload dX0_sortKeys_19 rfl ?_
      refine ez_istore dX0_sortKeys_21 (by decide) ?_
      refine lp_k2 hT hg.1 (fun h2 I2 S2 f2 => ?_) 66 (ez_gap gi) h' (by omega) SI (fun e a b x y z => by omega) fr (by omega)
      refine ez_iinc dX0_sortKeys_110 rfl (by decide) (by decide) (by omega) ?_
      refine ez_goto 9 dX0_sortKeys_113 (by decide) ?_
      exact ih (gi + 1) h2 (by omega) I2 (fun e => S2 (hg.2 (by omega))) f2 (by omega)
theorem c_X0_sortKeys {T : Int} {h : ez_H} (hT : h 93 8 = T ∧ 0 ≤ T ∧ T ≤ 64) : ez_Ct M_X0_sortKeys [ez_R 93] h (ez_PV (fun h' => so_I h h' T ∧ so_S h' T ∧ ∀ o k : Int, o ≠ 94 → h' o k = h o k)) := by
  refine ez_of (by decide) (Nat.le_of_ble_eq_true rfl) (L0 := [ez_R 93, ez_N, ez_N, ez_N, ez_N, ez_N, ez_N, ez_N, ez_N]) rfl ?_
  refine ez_gaps fl_X0_91 dX0_sortKeys_0 ?_
  refine ez_astore_n dX0_sortKeys_3 (by decide) ?_
  refine ez_aload_n dX0_sortKeys_4 rfl ?_
  refine ez_glen dX0_sortKeys_5 ?_
  refine ez_istore_n dX0_sortKeys_6 (by decide) ?_
  refine ez_iconst dX0_sortKeys_7 (by decide) ?_
  refine ez_istore_n dX0_sortKeys_8 (by decide) ?_
  refine lp_k3 hT 5 0 h (by omega) ⟨fun n a b => ⟨n, ⟨a, b⟩, rfl⟩, fun n a b => ⟨n, ⟨a, b⟩, rfl⟩⟩ (fun e => by omega) (fun _ _ _ => rfl) (by omega)
