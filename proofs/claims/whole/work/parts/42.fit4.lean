theorem ft_L.eq {h h' : ez_H} {A B : bl_P} {k s : Int} (L : ft_L h A B k s) (e8 : h' 93 8 = h 93 8) (e : ∀ o x : Int, 95 ≤ o → o ≤ 98 → h' o x = h o x) : ft_L h' A B k s := by
  have e5 : h' 95 = h 95 := funext fun x => e 95 x (by omega) (by omega)
  have e6 : h' 96 = h 96 := funext fun x => e 96 x (by omega) (by omega)
  have e7 : h' 97 = h 97 := funext fun x => e 97 x (by omega) (by omega)
  have e9 : h' 98 = h 98 := funext fun x => e 98 x (by omega) (by omega)
  unfold ft_L at L ⊢
  rw [e8, e5, e6, e7, e9]
  exact L
theorem gz_I.ext {h : ez_H} {G : Int → Int → Int} {R f c : Int} {sd : Nat} (I : gz_I h G R f c sd) (hx : ∀ m : Int, 0 ≤ m → m < h 93 8 → (m < f ∨ c ≤ m) → R < G (h 97 m) (h 98 m)) : gz_I h G R 0 (h 93 8) sd :=
  ⟨I.l, fun m m0 m1 m2 => by
    by_cases e : m < f ∨ c ≤ m
    · have := hx m m0 m1 e
      omega
    · exact I.m m (by omega) (by omega) m2, I.b, I.n, I.s⟩
/-- shifts outside the window are too far -/
theorem ft_L.out {h : ez_H} {A B : bl_P} {k s n f c R : Int} (L : ft_L h A B k s) (hR : 0 ≤ R) (hn : 0 ≤ n ∧ n < h 93 8) (hw : ∀ m : Int, 0 ≤ m → m < f → h 95 m < h 95 n - R) (hc : h 93 8 ≤ c ∨ h 95 n + R < h 95 c) (c0 : 0 ≤ c) : ∀ m : Int, 0 ≤ m → m < h 93 8 → (m < f ∨ c ≤ m) → R < bl_g A B k s (h 95 n) (h 96 n) (h 97 m) (h 98 m) := fun m m0 m1 hm => by
  rw [L.far ⟨m0, m1⟩]
  rcases hm with q | q
  · have := hw m m0 q
    omega
  · by_cases e : m = c
    · rw [e] at m1 ⊢
      omega
    · have := L.s c m c0 (by omega) m1
      omega

theorem lp_ga {A B : bl_P} {k s R n0 f : Int} {h : ez_H} (L : ft_L h A B k s) (hB : B.1 ≤ 8) (hR : h 93 9 = R ∧ 0 ≤ R ∧ R ≤ 50) (hn : 0 ≤ n0 ∧ n0 < h 93 8) (hf : 0 ≤ f ∧ f ≤ n0) (hw : ∀ m : Int, 0 ≤ m → m < f → h 95 m < h 95 n0 - R) : ∀ (n : Nat) (c : Int) (sd : Nat) (h' : ez_H), (f ≤ c ∧ c ≤ h 93 8) → (gz_I h' (bl_g A B k s (h 95 n0) (h 96 n0)) R f c sd) → (∀ o x : Int, o ≠ 100 → ¬ (o = 93 ∧ (x = 10 ∨ x = 11)) → h' o x = h o x) → h 93 8 - c < n → ez_En M_X0_gauge 15 [ez_R 93, ez_I f, ez_I n0, ez_I (((sd : Nat) : Nat) : Int), ez_I c, ez_N, ez_N] [] h' (ez_PV (fun h' => (∀ o x : Int, o ≠ 100 → ¬ (o = 93 ∧ (x = 10 ∨ x = 11)) → h' o x = h o x) ∧ bl_v R A B k s (h 95 n0) (h 96 n0) ≤ 1000 * h' 93 10 - h' 93 11 ∧ (0 ≤ h' 93 10 ∧ h' 93 10 ≤ 8) ∧ (0 ≤ h' 93 11 ∧ h' 93 11 ≤ 400))) := by
  intro n
  induction n with
  | zero =>
    intro c sd h' c0 I fr hm
    exfalso
    omega
  | succ n ih =>
    intro c sd h' c0 I fr hm
    have e5 : ∀ x : Int, h' 95 x = h 95 x := fun x => fr 95 x (by decide) (by omega)
    have e6 : ∀ x : Int, h' 96 x = h 96 x := fun x => fr 96 x (by decide) (by omega)
    have e9 : h' 93 9 = R := (fr 93 9 (by decide) (by omega)).trans hR.1
    have e8 : h' 93 8 = h 93 8 := fr 93 8 (by decide) (by omega)
    have L' := L.eq e8 (fun o x o1 o2 => fr o x (by omega) (by omega))
    have hn' : 0 ≤ n0 ∧ n0 < h' 93 8 := by omega
    have hw' : ∀ m : Int, 0 ≤ m → m < f → h' 95 m < h' 95 n0 - R := fun m m0 m1 => by rw [e5, e5]; exact hw m m0 m1
    have lt := L'.t
    have nb := L'.b n0 hn'.1 hn'.2
    refine ez_iload dX0_gauge_15 rfl ?_
    refine ez_aload_n dX0_gauge_17 rfl ?_
    refine g0_8 dX0_gauge_18 fl_X0_69 ?_
    refine ez_ic_ge 194 dX0_gauge_21 (by decide) (fun c_21 => ?_) (fun c_21 => ?_)
    · refine ez_vreturn (st := []) dX0_gauge_194 rfl ?_
      have OU := L'.out hR.2.1 hn' hw' (c := c) (by omega) (by omega)
      rw [e5 n0, e6 n0] at OU
      have IX := I.ext OU
      have tp := IX.top hB L'.a
      have bd := IX.bd
      exact ez_PV.in ⟨fr, tp, bd.1, bd.2⟩
    · have cb := L'.b c (by omega) (by omega)
      have ce := L'.e c (by omega) (by omega)
      refine ez_aload_n dX0_gauge_24 rfl ?_
      refine g0_1 dX0_gauge_25 fl_X0_15 ?_
      refine ez_iload dX0_gauge_28 rfl ?_
      refine al95 dX0_gauge_30 (by omega) ?_
      refine ez_aload_n dX0_gauge_31 rfl ?_
      refine g0_1 dX0_gauge_32 fl_X0_15 ?_
      refine ez_iload_n dX0_gauge_35 rfl ?_
      refine al95 dX0_gauge_36 (by omega) ?_
      refine ez_aload_n dX0_gauge_37 rfl ?_
      refine g0_9 dX0_gauge_38 fl_X0_46 ?_
      refine ez_iadd dX0_gauge_41 (by omega) ?_
      refine ez_ic_gt 194 dX0_gauge_42 (by decide) (fun c_42 => ?_) (fun c_42 => ?_)
      · refine ez_vreturn (st := []) dX0_gauge_194 rfl ?_
        have OU := L'.out hR.2.1 hn' hw' (c := c) (by omega) (by omega)
        rw [e5 n0, e6 n0] at OU
        have IX := I.ext OU
        have tp := IX.top hB L'.a
        have bd := IX.bd
        exact ez_PV.in ⟨fr, tp, bd.1, bd.2⟩
      · refine ez_aload_n dX0_gauge_45 rfl ?_
        refine g0_1 dX0_gauge_46 fl_X0_15 ?_
        refine ez_iload dX0_gauge_49 rfl ?_
        refine al95 dX0_gauge_51 (by omega) ?_
        refine ez_aload_n dX0_gauge_52 rfl ?_
        refine g0_1 dX0_gauge_53 fl_X0_15 ?_
        refine ez_iload_n dX0_gauge_56 rfl ?_
        refine al95 dX0_gauge_57 (by omega) ?_
        refine ez_isub dX0_gauge_58 (by omega) ?_
        refine ez_aload_n dX0_gauge_59 rfl ?_
        refine g0_2 dX0_gauge_60 fl_X0_19 ?_
        refine ez_iload dX0_gauge_63 rfl ?_
        refine al96 dX0_gauge_65 (by omega) ?_
        refine ez_aload_n dX0_gauge_66 rfl ?_
        refine g0_2 dX0_gauge_67 fl_X0_19 ?_
        refine ez_iload_n dX0_gauge_70 rfl ?_
        refine al96 dX0_gauge_71 (by omega) ?_
        refine ez_isub dX0_gauge_72 (by omega) ?_
        refine cn_X5_farOf dX0_gauge_73 ml_X0_129 ft_X0_gauge__X5_farOf (Nat.le_of_ble_eq_true rfl) (c_X5_farOf (by omega)) (ez_kF ?_)
        have fm := L'.far (n := n0) (m := c) (by omega)
        rw [e5 n0, e6 n0] at fm
        rw [e5 n0, e6 n0, ← fm]
        have Fpos : 0 ≤ (bl_g A B k s (h 95 n0) (h 96 n0)) (h' 97 c) (h' 98 c) := by omega
        obtain ⟨F, hF⟩ : ∃ F : Int, F = (bl_g A B k s (h 95 n0) (h 96 n0)) (h' 97 c) (h' 98 c) := ⟨_, rfl⟩
        rw [← hF] at Fpos ⊢
        clear fm
        refine ez_istore dX0_gauge_76 (by decide) ?_
        refine ez_iload dX0_gauge_78 rfl ?_
        refine ez_aload_n dX0_gauge_80 rfl ?_
        refine g0_9 dX0_gauge_81 fl_X0_46 ?_
        refine ez_ic_le 90 dX0_gauge_84 (by decide) (fun c_84 => ?_) (fun c_84 => ?_)
        · refine ez_aload_n dX0_gauge_90 rfl ?_
          refine g0_4 dX0_gauge_91 fl_X0_25 ?_
          refine ez_iload dX0_gauge_94 rfl ?_
          refine al98 dX0_gauge_96 (by omega) ?_
          have hp : 2 ^ (h' 98 c).toNat < 2 ^ 8 := Nat.pow_lt_pow_right (by decide) (by omega)
          have sl := I.l
          refine ez_istore dX0_gauge_97 (by decide) ?_
          refine ez_iload_n dX0_gauge_99 rfl ?_
          refine ez_iload dX0_gauge_100 rfl ?_
          refine ez_ishr sd (h' 98 c).toNat rfl (by omega) (by omega) (by omega) dX0_gauge_102 ?_
          refine ez_iconst dX0_gauge_103 (by decide) ?_
          refine ez_iand1 (sd / 2 ^ (h' 98 c).toNat) rfl (by have := Nat.div_le_self sd (2 ^ (h' 98 c).toNat); omega) dX0_gauge_104 ?_
          refine ez_if_ne 148 dX0_gauge_105 (by decide) (fun c_105 => ?_) (fun c_105 => ?_)
          · refine ez_iload dX0_gauge_148 rfl ?_
            refine ez_aload_n dX0_gauge_150 rfl ?_
            refine g0_6 dX0_gauge_151 fl_X0_31 ?_
            refine ez_iload dX0_gauge_154 rfl ?_
            refine al100 dX0_gauge_156 (by omega) ?_
            refine ez_ic_ge 188 dX0_gauge_157 (by decide) (fun c_157 => ?_) (fun c_157 => ?_)
            · have n1 := I.skip (fun q => ⟨by unfold gz_b; omega, by omega⟩)
              have f1 := fr
              refine ez_iinc dX0_gauge_188 rfl (by decide) (by decide) (by omega) ?_
              refine ez_goto 15 dX0_gauge_191 (by decide) ?_
              refine ez_lessS (L' := [ez_R 93, ez_I f, ez_I n0, _, ez_I (c + 1), ez_N, ez_N]) ⟨Or.inr rfl, Or.inr rfl, Or.inr rfl, Or.inr rfl, Or.inr rfl, Or.inl rfl, Or.inl rfl, trivial⟩ ?_
              exact ih (c + 1) _ _ (by omega) n1 f1 (by omega)
            · have bd := I.bd
              have bb := I.b (h' 98 c) (by omega) (by omega) (by unfold gz_b; omega)
              have n1 : gz_I (ez_up (ez_up h' 93 11 (h' 93 11 + (F - h' 100 (h' 98 c)))) 100 (h' 98 c) F) (bl_g A B k s (h 95 n0) (h 96 n0)) R f (c + 1) sd := by
                refine I.less hR.2.2 (by omega) hF (by omega) (by unfold gz_b; omega) (by omega) (fun o x o1 o2 => ?_) ez_up_eq (fun j hj => ?_) ?_ ?_
                · rw [ez_up_ne (by omega), ez_up_ne (by omega)]
                · rw [ez_up_ne (by omega), ez_up_ne (by omega)]
                · rw [ez_up_ne (by omega), ez_up_ne (by omega)]
                · rw [ez_up_ne (by omega), ez_up_eq]
              have f1 : ∀ o x : Int, o ≠ 100 → ¬ (o = 93 ∧ (x = 10 ∨ x = 11)) → (ez_up (ez_up h' 93 11 (h' 93 11 + (F - h' 100 (h' 98 c)))) 100 (h' 98 c) F) o x = h o x := fun o x o1 o2 => by
                rw [ez_up_ne (by omega), ez_up_ne (by omega)]
                exact fr o x o1 o2
              refine ez_aload_n dX0_gauge_160 rfl ?_
              refine ez_dup dX0_gauge_161 rfl ?_
              refine g0_11 dX0_gauge_162 fl_X0_103 ?_
              refine ez_iload dX0_gauge_165 rfl ?_
              refine ez_aload_n dX0_gauge_167 rfl ?_
              refine g0_6 dX0_gauge_168 fl_X0_31 ?_
              refine ez_iload dX0_gauge_171 rfl ?_
              refine al100 dX0_gauge_173 (by omega) ?_
              refine ez_isub dX0_gauge_174 (by omega) ?_
              refine ez_iadd dX0_gauge_175 (by omega) ?_
              refine p0_11 dX0_gauge_176 fl_X0_103 ?_
              refine ez_aload_n dX0_gauge_179 rfl ?_
              refine g0_6 dX0_gauge_180 fl_X0_31 ?_
              refine ez_iload dX0_gauge_183 rfl ?_
              refine ez_iload dX0_gauge_185 rfl ?_
              refine as100 dX0_gauge_187 (by omega) ?_
              refine ez_iinc dX0_gauge_188 rfl (by decide) (by decide) (by omega) ?_
              refine ez_goto 15 dX0_gauge_191 (by decide) ?_
              refine ez_lessS (L' := [ez_R 93, ez_I f, ez_I n0, _, ez_I (c + 1), ez_N, ez_N]) ⟨Or.inr rfl, Or.inr rfl, Or.inr rfl, Or.inr rfl, Or.inr rfl, Or.inl rfl, Or.inl rfl, trivial⟩ ?_
              exact ih (c + 1) _ _ (by omega) n1 f1 (by omega)
          · refine ez_iload_n dX0_gauge_108 rfl ?_
            refine ez_iconst dX0_gauge_109 (by decide) ?_
            refine ez_iload dX0_gauge_110 rfl ?_
            refine ez_ishl 1 (h' 98 c).toNat rfl (by omega) (by omega) (by omega) dX0_gauge_112 ?_
            refine ez_ior sd (1 * 2 ^ (h' 98 c).toNat) rfl rfl (by omega) (by omega) dX0_gauge_113 ?_
            refine ez_istore_n dX0_gauge_114 (by decide) ?_
            have bd := I.bd
            rw [Nat.one_mul]
            have v1 : ez_up h' 93 10 (h' 93 10 + 1) 93 11 = h' 93 11 := ez_up_ne (by omega)
            refine ez_aload_n dX0_gauge_115 rfl ?_
            refine ez_dup dX0_gauge_116 rfl ?_
            refine g0_10 dX0_gauge_117 fl_X0_100 ?_
            refine ez_iconst dX0_gauge_120 (by decide) ?_
            refine ez_iadd dX0_gauge_121 (by omega) ?_
            refine p0_10 dX0_gauge_122 fl_X0_100 ?_
            refine ez_aload_n dX0_gauge_125 rfl ?_
            refine ez_dup dX0_gauge_126 rfl ?_
            refine g0_11 dX0_gauge_127 fl_X0_103 ?_
            refine ez_iload dX0_gauge_130 rfl ?_
            refine ez_iadd dX0_gauge_132 (by rw [v1]; omega) ?_
            rw [v1]
            refine p0_11 dX0_gauge_133 fl_X0_103 ?_
            refine ez_aload_n dX0_gauge_136 rfl ?_
            refine g0_6 dX0_gauge_137 fl_X0_31 ?_
            refine ez_iload dX0_gauge_140 rfl ?_
            refine ez_iload dX0_gauge_142 rfl ?_
            refine as100 dX0_gauge_144 (by omega) ?_
            have n1 : gz_I (ez_up (ez_up (ez_up h' 93 10 (h' 93 10 + 1)) 93 11 (h' 93 11 + F)) 100 (h' 98 c) F) (bl_g A B k s (h 95 n0) (h 96 n0)) R f (c + 1) (sd ||| 2 ^ (h' 98 c).toNat) := by
              refine I.add hR.2.2 (by omega) hF (by omega) ?_ (fun m m0 m1 => (L'.e m (by omega) (by omega)).2.1.1) (fun o x o1 o2 => ?_) ez_up_eq (fun j hj => ?_) ?_ ?_
              · unfold gz_b
                omega
              · rw [ez_up_ne (by omega), ez_up_ne (by omega), ez_up_ne (by omega)]
              · rw [ez_up_ne (by omega), ez_up_ne (by omega), ez_up_ne (by omega)]
              · rw [ez_up_ne (by omega), ez_up_ne (by omega), ez_up_eq]
              · rw [ez_up_ne (by omega), ez_up_eq]
            have f1 : ∀ o x : Int, o ≠ 100 → ¬ (o = 93 ∧ (x = 10 ∨ x = 11)) → (ez_up (ez_up (ez_up h' 93 10 (h' 93 10 + 1)) 93 11 (h' 93 11 + F)) 100 (h' 98 c) F) o x = h o x := fun o x o1 o2 => by
              rw [ez_up_ne (by omega), ez_up_ne (by omega), ez_up_ne (by omega)]
              exact fr o x o1 o2
            refine ez_goto 188 dX0_gauge_145 (by decide) ?_
            refine ez_iinc dX0_gauge_188 rfl (by decide) (by decide) (by omega) ?_
            refine ez_goto 15 dX0_gauge_191 (by decide) ?_
            refine ez_lessS (L' := [ez_R 93, ez_I f, ez_I n0, _, ez_I (c + 1), ez_N, ez_N]) ⟨Or.inr rfl, Or.inr rfl, Or.inr rfl, Or.inr rfl, Or.inr rfl, Or.inl rfl, Or.inl rfl, trivial⟩ ?_
            exact ih (c + 1) _ _ (by omega) n1 f1 (by omega)
        · have f1 := fr
          have n1 := I.skip (fun q => by omega)
          refine ez_goto 188 dX0_gauge_87 (by decide) ?_
          refine ez_iinc dX0_gauge_188 rfl (by decide) (by decide) (by omega) ?_
          refine ez_goto 15 dX0_gauge_191 (by decide) ?_
          refine ez_lessS (L' := [ez_R 93, ez_I f, ez_I n0, _, ez_I (c + 1), ez_N, ez_N]) ⟨Or.inr rfl, Or.inr rfl, Or.inr rfl, Or.inr rfl, Or.inr rfl, Or.inl rfl, Or.inl rfl, trivial⟩ ?_
          exact ih (c + 1) _ _ (by omega) n1 f1 (by omega)
theorem c_X0_gauge {A B : bl_P} {k s R n0 f : Int} {h : ez_H} (L : ft_L h A B k s) (hB : B.1 ≤ 8) (hR : h 93 9 = R ∧ 0 ≤ R ∧ R ≤ 50) (hn : 0 ≤ n0 ∧ n0 < h 93 8) (hf : 0 ≤ f ∧ f ≤ n0) (hw : ∀ m : Int, 0 ≤ m → m < f → h 95 m < h 95 n0 - R) : ez_Ct M_X0_gauge [ez_R 93, ez_I f, ez_I n0] h ((ez_PV (fun h' => (∀ o x : Int, o ≠ 100 → ¬ (o = 93 ∧ (x = 10 ∨ x = 11)) → h' o x = h o x) ∧ bl_v R A B k s (h 95 n0) (h 96 n0) ≤ 1000 * h' 93 10 - h' 93 11 ∧ (0 ≤ h' 93 10 ∧ h' 93 10 ≤ 8) ∧ (0 ≤ h' 93 11 ∧ h' 93 11 ≤ 400)))) := by
  refine ez_of (by decide) (Nat.le_of_ble_eq_true rfl) (L0 := [ez_R 93, ez_I f, ez_I n0, ez_N, ez_N, ez_N, ez_N]) rfl ?_
  refine ez_iconst dX0_gauge_0 (by decide) ?_
  refine ez_istore_n dX0_gauge_1 (by decide) ?_
  refine ez_aload_n dX0_gauge_2 rfl ?_
  refine ez_iconst dX0_gauge_3 (by decide) ?_
  refine p0_10 dX0_gauge_4 fl_X0_100 ?_
  refine ez_aload_n dX0_gauge_7 rfl ?_
  refine ez_iconst dX0_gauge_8 (by decide) ?_
  refine p0_11 dX0_gauge_9 fl_X0_103 ?_
  refine ez_iload_n dX0_gauge_12 rfl ?_
  refine ez_istore dX0_gauge_13 (by decide) ?_
  have lt := L.t
  refine lp_ga L hB hR hn hf hw (h 93 8 + 1).toNat f 0 _ (by omega) ⟨by decide, fun m m0 m1 => by omega, fun j j0 j1 q => absurd q (by unfold gz_b; rw [Nat.zero_div]; decide), ?_, ?_⟩ (fun o x o1 o2 => ?_) (by omega)
  · rw [ez_up_ne (by omega), ez_up_eq, sm_0 8 (fun k k0 k1 => gz_1f (by unfold gz_b; rw [Nat.zero_div]; decide))]
  · rw [ez_up_eq, sm_0 8 (fun k k0 k1 => gz_1f (by unfold gz_b; rw [Nat.zero_div]; decide))]
  · rw [ez_up_ne (by omega), ez_up_ne (by omega)]
