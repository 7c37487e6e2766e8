def me_I (h : ez_H) (G : Int → Int → Int) (f c : Int) : Prop := (∀ x : Int, 0 ≤ x → x < 64 → h 99 x = 51 ∨ ∃ i j : Int, (0 ≤ i ∧ i < 8) ∧ (0 ≤ j ∧ j < 8) ∧ x = j * 8 + i ∧ h 99 x = G i j ∧ 0 ≤ G i j) ∧ ∀ m : Int, f ≤ m → m < c → h 99 (h 98 m * 8 + h 97 m) = G (h 97 m) (h 98 m)
theorem me_I.put {h : ez_H} {G : Int → Int → Int} {f c : Int} (I : me_I h G f c) (hl : ∀ m : Int, f ≤ m → m ≤ c → (0 ≤ h 97 m ∧ h 97 m < 8) ∧ (0 ≤ h 98 m ∧ h 98 m < 8)) (fc : f ≤ c) (g0 : 0 ≤ G (h 97 c) (h 98 c)) : me_I (ez_up h 99 (h 98 c * 8 + h 97 c) (G (h 97 c) (h 98 c))) G f (c + 1) := by
  have lc := hl c fc (Int.le_refl _)
  refine ⟨fun x x0 x1 => ?_, fun m m0 m1 => ?_⟩
  · by_cases e : x = h 98 c * 8 + h 97 c
    · right
      exact ⟨h 97 c, h 98 c, lc.1, lc.2, e, by rw [e, ez_up_eq], g0⟩
    · rw [ez_up_ne (by omega)]
      exact I.1 x x0 x1
  · rw [ez_up_ne (o' := 97) (by omega), ez_up_ne (o' := 98) (by omega)]
    have lm := hl m m0 (by omega)
    by_cases e : h 98 m * 8 + h 97 m = h 98 c * 8 + h 97 c
    · have e1 : h 97 m = h 97 c := by omega
      have e2 : h 98 m = h 98 c := by omega
      rw [e1, e2, ez_up_eq]
    · rw [ez_up_ne (by omega)]
      exact I.2 m m0 (by
        by_cases q : m = c
        · rw [q] at e
          exact absurd rfl e
        · omega)
theorem me_I.near {h : ez_H} {G : Int → Int → Int} {f c R : Int} {A B : bl_P} {k s : Int} (I : me_I h G f c) (L : ft_L h A B k s) (hA : A.1 ≤ 8) (hB : B.1 ≤ 8) (hR : R ≤ 50) (hx : ∀ m : Int, 0 ≤ m → m < h 93 8 → (m < f ∨ c ≤ m) → R < G (h 97 m) (h 98 m)) : (∀ x : Int, 0 ≤ x → x < 64 → 0 ≤ h 99 x) ∧ pm_near (mt_g h) G R A.1 B.1 := by
  refine ⟨fun x x0 x1 => ?_, fun i j i0 i1 j0 j1 hg => ?_⟩
  · rcases I.1 x x0 x1 with q | ⟨i, j, a, b, c1, d, e⟩
    · omega
    · omega
  · obtain ⟨m, m0, m1, m2⟩ := L.a i j i0 i1 j0 j1
    have eg : mt_g h i j = h 99 (j * 8 + i) := by
      unfold mt_g
      rw [show 8 * j + i = j * 8 + i by omega]
    rw [eg] at hg ⊢
    by_cases q : m < f ∨ c ≤ m
    · have z := hx m m0.1 m0.2 q
      rw [m1, m2] at z
      rcases I.1 (j * 8 + i) (by omega) (by omega) with q | ⟨i', j', a, b, c1, d, e⟩
      · omega
      · have e1 : i' = i := by omega
        have e2 : j' = j := by omega
        rw [d, e1, e2]
    · have z := I.2 m (by omega) (by omega)
      rw [m1, m2] at z
      exact z

theorem lp_me {A B : bl_P} {k s R n0 f : Int} {h : ez_H} (L : ft_L h A B k s) (hA : A.1 ≤ 8) (hB : B.1 ≤ 8) (hR : h 93 9 = R ∧ 0 ≤ R ∧ R ≤ 50) (hn : 0 ≤ n0 ∧ n0 < h 93 8) (hf : 0 ≤ f ∧ f ≤ n0) (hw : ∀ m : Int, 0 ≤ m → m < f → h 95 m < h 95 n0 - R) : ∀ (n : Nat) (c : Int) (h' : ez_H), (f ≤ c ∧ c ≤ h 93 8) → (me_I h' (bl_g A B k s (h 95 n0) (h 96 n0)) f c) → (∀ o x : Int, o ≠ 99 → h' o x = h o x) → h 93 8 - c < n → ez_En M_X0_measure 11 [ez_R 93, ez_I f, ez_I n0, ez_I c] [] h' (ez_PV (fun h' => (∀ o x : Int, o ≠ 99 → h' o x = h o x) ∧ (∀ x : Int, 0 ≤ x → x < 64 → 0 ≤ h' 99 x) ∧ pm_near (mt_g h') (bl_g A B k s (h 95 n0) (h 96 n0)) R A.1 B.1)) := by
  intro n
  induction n with
  | zero =>
    intro c h' c0 I fr hm
    exfalso
    omega
  | succ n ih =>
    intro c h' c0 I fr hm
    have e5 : ∀ x : Int, h' 95 x = h 95 x := fun x => fr 95 x (by decide)
    have e6 : ∀ x : Int, h' 96 x = h 96 x := fun x => fr 96 x (by decide)
    have e9 : h' 93 9 = R := (fr 93 9 (by decide)).trans hR.1
    have e8 : h' 93 8 = h 93 8 := fr 93 8 (by decide)
    have L' := L.eq e8 (fun o x o1 o2 => fr o x (by omega))
    have hn' : 0 ≤ n0 ∧ n0 < h' 93 8 := by omega
    have hw' : ∀ m : Int, 0 ≤ m → m < f → h' 95 m < h' 95 n0 - R := fun m m0 m1 => by rw [e5, e5]; exact hw m m0 m1
    have lt := L'.t
    have nb := L'.b n0 hn'.1 hn'.2
    refine ez_iload_n dX0_measure_11 rfl ?_
    refine ez_aload_n dX0_measure_12 rfl ?_
    refine g0_8 dX0_measure_13 fl_X0_69 ?_
    refine ez_ic_ge 95 dX0_measure_16 (by decide) (fun c_16 => ?_) (fun c_16 => ?_)
    · refine ez_vreturn (st := []) dX0_measure_95 rfl ?_
      have OU := L'.out hR.2.1 hn' hw' (c := c) (by omega) (by omega)
      rw [e5 n0, e6 n0] at OU
      have NE := I.near L' hA hB hR.2.2 OU
      exact ez_PV.in ⟨fr, NE.1, NE.2⟩
    · have cb := L'.b c (by omega) (by omega)
      have ce := L'.e c (by omega) (by omega)
      refine ez_aload_n dX0_measure_19 rfl ?_
      refine g0_1 dX0_measure_20 fl_X0_15 ?_
      refine ez_iload_n dX0_measure_23 rfl ?_
      refine al95 dX0_measure_24 (by omega) ?_
      refine ez_aload_n dX0_measure_25 rfl ?_
      refine g0_1 dX0_measure_26 fl_X0_15 ?_
      refine ez_iload_n dX0_measure_29 rfl ?_
      refine al95 dX0_measure_30 (by omega) ?_
      refine ez_aload_n dX0_measure_31 rfl ?_
      refine g0_9 dX0_measure_32 fl_X0_46 ?_
      refine ez_iadd dX0_measure_35 (by omega) ?_
      refine ez_ic_gt 95 dX0_measure_36 (by decide) (fun c_36 => ?_) (fun c_36 => ?_)
      · refine ez_vreturn (st := []) dX0_measure_95 rfl ?_
        have OU := L'.out hR.2.1 hn' hw' (c := c) (by omega) (by omega)
        rw [e5 n0, e6 n0] at OU
        have NE := I.near L' hA hB hR.2.2 OU
        exact ez_PV.in ⟨fr, NE.1, NE.2⟩
      · refine ez_aload_n dX0_measure_39 rfl ?_
        refine g0_5 dX0_measure_40 fl_X0_28 ?_
        refine ez_aload_n dX0_measure_43 rfl ?_
        refine g0_4 dX0_measure_44 fl_X0_25 ?_
        refine ez_iload_n dX0_measure_47 rfl ?_
        refine al98 dX0_measure_48 (by omega) ?_
        refine ez_bipush dX0_measure_49 (by decide) (by decide) ?_
        refine ez_imul dX0_measure_51 (by omega) ?_
        refine ez_aload_n dX0_measure_52 rfl ?_
        refine g0_3 dX0_measure_53 fl_X0_22 ?_
        refine ez_iload_n dX0_measure_56 rfl ?_
        refine al97 dX0_measure_57 (by omega) ?_
        refine ez_iadd dX0_measure_58 (by omega) ?_
        refine ez_aload_n dX0_measure_59 rfl ?_
        refine g0_1 dX0_measure_60 fl_X0_15 ?_
        refine ez_iload_n dX0_measure_63 rfl ?_
        refine al95 dX0_measure_64 (by omega) ?_
        refine ez_aload_n dX0_measure_65 rfl ?_
        refine g0_1 dX0_measure_66 fl_X0_15 ?_
        refine ez_iload_n dX0_measure_69 rfl ?_
        refine al95 dX0_measure_70 (by omega) ?_
        refine ez_isub dX0_measure_71 (by omega) ?_
        refine ez_aload_n dX0_measure_72 rfl ?_
        refine g0_2 dX0_measure_73 fl_X0_19 ?_
        refine ez_iload_n dX0_measure_76 rfl ?_
        refine al96 dX0_measure_77 (by omega) ?_
        refine ez_aload_n dX0_measure_78 rfl ?_
        refine g0_2 dX0_measure_79 fl_X0_19 ?_
        refine ez_iload_n dX0_measure_82 rfl ?_
        refine al96 dX0_measure_83 (by omega) ?_
        refine ez_isub dX0_measure_84 (by omega) ?_
        refine cn_X5_farOf dX0_measure_85 ml_X0_129 ft_X0_measure__X5_farOf (Nat.le_of_ble_eq_true rfl) (c_X5_farOf (by omega)) (ez_kF ?_)
        have fm := L'.far (n := n0) (m := c) (by omega)
        rw [e5 n0, e6 n0] at fm
        rw [e5 n0, e6 n0, ← fm]
        have n1 := I.put (fun m m0 m1 => by have := L'.e m (by omega) (by omega); omega) (by omega) (by omega)
        refine as99 dX0_measure_88 (by omega) ?_
        refine ez_iinc dX0_measure_89 rfl (by decide) (by decide) (by omega) ?_
        refine ez_goto 11 dX0_measure_92 (by decide) ?_
        exact ih (c + 1) _ (by omega) n1 (fun o x ho => (ez_up_ne (by omega)).trans (fr o x ho)) (by omega)
theorem c_X0_measure {A B : bl_P} {k s R n0 f : Int} {h : ez_H} (L : ft_L h A B k s) (hA : A.1 ≤ 8) (hB : B.1 ≤ 8) (hR : h 93 9 = R ∧ 0 ≤ R ∧ R ≤ 50) (hn : 0 ≤ n0 ∧ n0 < h 93 8) (hf : 0 ≤ f ∧ f ≤ n0) (hw : ∀ m : Int, 0 ≤ m → m < f → h 95 m < h 95 n0 - R) : ez_Ct M_X0_measure [ez_R 93, ez_I f, ez_I n0] h ((ez_PV (fun h' => (∀ o x : Int, o ≠ 99 → h' o x = h o x) ∧ (∀ x : Int, 0 ≤ x → x < 64 → 0 ≤ h' 99 x) ∧ pm_near (mt_g h') (bl_g A B k s (h 95 n0) (h 96 n0)) R A.1 B.1))) := by
  refine ez_of (by decide) (Nat.le_of_ble_eq_true rfl) (L0 := [ez_R 93, ez_I f, ez_I n0, ez_N]) rfl ?_
  refine ez_aload_n dX0_measure_0 rfl ?_
  refine g0_5 dX0_measure_1 fl_X0_28 ?_
  refine ez_bipush dX0_measure_4 (by decide) (by decide) ?_
  refine cl_J7_fill_53178 dX0_measure_6 ml_X0_133 ft_X0_measure__J7_fill_53178 (Nat.le_of_ble_eq_true rfl) (c_J7_fill_53178 (by decide) rfl (by decide)) (ez_kS ?_)
  refine ez_iload_n dX0_measure_9 rfl ?_
  refine ez_istore_n dX0_measure_10 (by decide) ?_
  have lt := L.t
  refine lp_me L hA hB hR hn hf hw (h 93 8 + 1).toNat f _ (by omega) ⟨fun x x0 x1 => Or.inl (if_pos ⟨rfl, x0, x1⟩), fun m m0 m1 => by omega⟩ (fun o x o1 => if_neg (by omega)) (by omega)
