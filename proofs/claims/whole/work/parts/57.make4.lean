/-! the constructor of the class -/
def pl_ (sf : ca_F) : Nat → ca_F
  | 0 => sf
  | k + 1 => ca_rg (pl_ sf k) (2 + 3 * k) 2 4
def ly_ (sf : ca_F) : Nat → ca_F
  | 0 => sf
  | k + 1 => ca_rg (ly_ sf k) (18 + 3 * k) 7 9
theorem pl_rg (sf : ca_F) (o a b : Nat) : ∀ k, pl_ (ca_rg sf o a b) k = ca_rg (pl_ sf k) o a b
  | 0 => rfl
  | k + 1 => by
    show ca_rg (pl_ (ca_rg sf o a b) k) (2 + 3 * k) 2 4 = ca_rg (ca_rg (pl_ sf k) (2 + 3 * k) 2 4) o a b
    rw [pl_rg sf o a b k, ca_rg_comm]
theorem ly_rg (sf : ca_F) (o a b : Nat) : ∀ k, ly_ (ca_rg sf o a b) k = ca_rg (ly_ sf k) o a b
  | 0 => rfl
  | k + 1 => by
    show ca_rg (ly_ (ca_rg sf o a b) k) (18 + 3 * k) 7 9 = ca_rg (ca_rg (ly_ sf k) (18 + 3 * k) 7 9) o a b
    rw [ly_rg sf o a b k, ca_rg_comm]
theorem pl_in {sf : ca_F} {o j : Nat} (h : sf o j = true) : ∀ k, pl_ sf k o j = true
  | 0 => h
  | k + 1 => ca_rg_iff.mpr (Or.inr (pl_in h k))
theorem ly_in {sf : ca_F} {o j : Nat} (h : sf o j = true) : ∀ k, ly_ sf k o j = true
  | 0 => h
  | k + 1 => ca_rg_iff.mpr (Or.inr (ly_in h k))
theorem lp_mk1 {p : Program} {l : Launch} {e : Env} {s : State} {m : MethodId} {args : Array Value} {below : List Frame} {meth : Method} {c : Code} {Z : State → Prop} {G : ez_G} {base : Nat} {ad0 : Nat → Nat} {h : ez_H} {sf : ca_F} (C : ca_C p s m args meth c G base K_X5.2.1 K_X5.2.2.1 K_X5.1.cls) (h0 : sf 0 0 = true) (kx : ca_E p l e (ca_rm K_X5 120) s m args below meth c Z G base 2 1 ad0 38 [ez_R 0, ez_N] [] h (ca_rg (pl_ sf 5) 1 0 5) (17)) : ∀ (d k : Nat), k ≤ 5 → 5 - k < d → ca_E p l e (ca_rm K_X5 120) s m args below meth c Z G base 2 1 ad0 14 [ez_R 0, ez_I k] [] h (ca_rg (pl_ sf k) 1 0 k) (2 + 3 * k) := by
  intro d
  induction d with
  | zero =>
    intro k hk hd
    omega
  | succ d ih =>
    intro k hk hd
    refine ca_iload_n C dX5_init_14 rfl ?_
    refine ca_iconst C dX5_init_15 (by decide) ?_
    refine ca_ic_ge C 38 dX5_init_16 (by decide) (fun c1 => ?_) (fun c1 => ?_)
    · have ek : k = 5 := by omega
      subst ek
      refine ca_less (L' := [ez_R 0, ez_N]) ⟨Or.inr rfl, Or.inl rfl, trivial⟩ ?_
      exact kx
    · have k5 : k < 5 := by omega
      have kd := (show ez_isP ((2 + 3 * k : Nat) : Int) from ⟨k, by omega, by omega, by omega⟩).kd
      refine ca_aload_n C dX5_init_19 rfl ?_
      refine ca_getR C (o := 0) (r := 1) 5 0 rfl rfl (by decide) iw_5 (by decide) fl_X5_11 dX5_init_20 (by omega) (by omega) (by decide) (by decide) (ca_rg_iff.mpr (Or.inr (pl_in h0 k))) ?_
      refine ca_iload_n C dX5_init_23 rfl ?_
      refine ca_newO C 3 tyX3 tyX3_ok rfl rfl (by decide) iw_3 kc_X5_9 kt_X3 kn_X3 (by decide) dX5_init_24 (by omega) (by show 2 + 3 * k - 1 + 1 ≤ 120 ∧ 2304 * (2 + 3 * k - 1) + 2304 ≤ 2304 * 120; omega) kd.2.1 (fun j hj => by rcases (show j = 0 ∨ j = 1 ∨ j = 2 ∨ j = 3 by omega) with rfl | rfl | rfl | rfl <;> rfl) ?_
      refine ca_dup C dX5_init_27 rfl ?_
      refine ca_callIN C (N := K_X3) (o := 2 + 3 * k) (n1 := 2 + 3 * k + 1 + 1 + 1) dX5_init_28 ko_X3 rfl ki_X3 rfl (by decide) ⟨by decide, by decide, by decide⟩ (by omega) (by show 2 + 3 * k + 1 + 1 + 1 - 1 ≤ 120 ∧ 2304 * (2 + 3 * k + 1 + 1 + 1 - 1) ≤ 2304 * 120; omega) (Nat.le_of_ble_eq_true rfl) (fun ok okh hz => k_X3 ⟨k, k5, rfl⟩ ok okh hz) ?_
      refine ca_sf (show ca_rg (pl_ sf (k + 1)) 1 0 k = _ from ca_rg_comm) ?_
      refine ca_astB C (o := 1) (r := 2 + 3 * k) (j := k) dX5_init_31 (by omega) (by omega) (by decide) kd.2.1 k5 rfl ?_
      refine ca_iinc C dX5_init_32 rfl (by decide) (by decide) (by omega) ?_
      refine ca_goto C 14 dX5_init_35 (by decide) ?_
      refine ca_nn (n' := 2 + 3 * (k + 1)) (by omega) ?_
      exact ih (k + 1) (by omega) (by omega)
theorem lp_mk2 {p : Program} {l : Launch} {e : Env} {s : State} {m : MethodId} {args : Array Value} {below : List Frame} {meth : Method} {c : Code} {Z : State → Prop} {G : ez_G} {base : Nat} {ad0 : Nat → Nat} {h : ez_H} {sf : ca_F} (C : ca_C p s m args meth c G base K_X5.2.1 K_X5.2.2.1 K_X5.1.cls) (h0 : sf 0 1 = true) (kx : ca_E p l e (ca_rm K_X5 120) s m args below meth c Z G base 2 1 ad0 74 [ez_R 0, ez_N] [] h (ca_rg (ly_ sf 25) 17 0 25) (93)) : ∀ (d k : Nat), k ≤ 25 → 25 - k < d → ca_E p l e (ca_rm K_X5 120) s m args below meth c Z G base 2 1 ad0 49 [ez_R 0, ez_I k] [] h (ca_rg (ly_ sf k) 17 0 k) (18 + 3 * k) := by
  intro d
  induction d with
  | zero =>
    intro k hk hd
    omega
  | succ d ih =>
    intro k hk hd
    refine ca_iload_n C dX5_init_49 rfl ?_
    refine ca_bipush C dX5_init_50 (by decide) (by decide) ?_
    refine ca_ic_ge C 74 dX5_init_52 (by decide) (fun c1 => ?_) (fun c1 => ?_)
    · have ek : k = 25 := by omega
      subst ek
      refine ca_less (L' := [ez_R 0, ez_N]) ⟨Or.inr rfl, Or.inl rfl, trivial⟩ ?_
      exact kx
    · have k5 : k < 25 := by omega
      have kd := (show ez_isL ((18 + 3 * k : Nat) : Int) from ⟨k, by omega, by omega, by omega⟩).kd
      refine ca_aload_n C dX5_init_55 rfl ?_
      refine ca_getR C (o := 0) (r := 17) 5 1 rfl rfl (by decide) iw_5 (by decide) fl_X5_18 dX5_init_56 (by omega) (by omega) (by decide) (by decide) (ca_rg_iff.mpr (Or.inr (ly_in h0 k))) ?_
      refine ca_iload_n C dX5_init_59 rfl ?_
      refine ca_newO C 1 tyX1 tyX1_ok rfl rfl (by decide) iw_1 kc_X5_16 kt_X1 kn_X1 (by decide) dX5_init_60 (by omega) (by show 18 + 3 * k - 1 + 1 ≤ 120 ∧ 2304 * (18 + 3 * k - 1) + 2304 ≤ 2304 * 120; omega) kd.2.1 (fun j hj => by rcases (show j = 0 ∨ j = 1 ∨ j = 2 ∨ j = 3 ∨ j = 4 ∨ j = 5 ∨ j = 6 ∨ j = 7 ∨ j = 8 by omega) with rfl | rfl | rfl | rfl | rfl | rfl | rfl | rfl | rfl <;> rfl) ?_
      refine ca_dup C dX5_init_63 rfl ?_
      refine ca_callIN C (N := K_X1) (o := 18 + 3 * k) (n1 := 18 + 3 * k + 1 + 1 + 1) dX5_init_64 ko_X1 rfl ki_X1 rfl (by decide) ⟨by decide, by decide, by decide⟩ (by omega) (by show 18 + 3 * k + 1 + 1 + 1 - 1 ≤ 120 ∧ 2304 * (18 + 3 * k + 1 + 1 + 1 - 1) ≤ 2304 * 120; omega) (Nat.le_of_ble_eq_true rfl) (fun ok okh hz => k_X1 ⟨k, k5, rfl⟩ ok okh hz) ?_
      refine ca_sf (show ca_rg (ly_ sf (k + 1)) 17 0 k = _ from ca_rg_comm) ?_
      refine ca_astA C (o := 17) (r := 18 + 3 * k) (j := k) dX5_init_67 (by omega) (by omega) (by decide) kd.2.1 k5 rfl ?_
      refine ca_iinc C dX5_init_68 rfl (by decide) (by decide) (by omega) ?_
      refine ca_goto C 49 dX5_init_71 (by decide) ?_
      refine ca_nn (n' := 18 + 3 * (k + 1)) (by omega) ?_
      exact ih (k + 1) (by omega) (by omega)
def s1_ (sf : ca_F) : ca_F := ca_rg (pl_ sf 5) 1 0 5
def s2_ (sf : ca_F) : ca_F := ca_rg (ly_ (s1_ sf) 25) 17 0 25
def s3_ (sf : ca_F) : ca_F := ca_rg (ca_rg (s2_ sf) 101 2 10) 93 0 8
def s4_ (sf : ca_F) : ca_F := ca_rg (s3_ sf) 110 3 13
theorem k_X5 {h : ez_H} {sf : ca_F} (ok : ci_ok sf 1) (okh : ez_okh h) (hz : ∀ o' k : Int, (1 : Nat) ≤ o' → h o' k = 0) : ca_Ct K_X5 0 1 121 h sf (ez_up (ez_up (ez_up (ez_up h 0 4 0) 0 5 0) 0 6 (-1)) 0 7 3) (ca_rg (s4_ sf) 0 0 4) := by
  refine ca_of (by decide) (by decide) rfl rfl (by omega) ok okh hz (fun p l e s m args below meth c G base ad0 C hr hi => ?_)
  refine ca_aload_n C dX5_init_0 rfl ?_
  refine ca_obj C dX5_init_1 kl_X5 kx_i kx_c ⟨by decide, by decide⟩ ?_
  refine ca_sf (ca_rg_0 sf 0 0) ?_
  refine ca_aload_n C dX5_init_4 rfl ?_
  refine ca_iconst C dX5_init_5 (by decide) ?_
  refine ca_newB C dX5_init_6 (by omega) (by show 1 - 1 + 1 ≤ 120 ∧ 2304 * (1 - 1) + 2304 ≤ 2304 * 120; omega) kc_X5_9 (by decide) ?_
  refine ca_nn (n' := 2) rfl ?_
  refine ca_putF C (o := 0) (r := 1) (a := 0) 5 0 tyX5 tyX5_ok nmX5 rfl rfl (by decide) iw_5 (by decide) fl_X5_11 rfl hi rfl (fun _ => rfl) (fun _ => rfl) dX5_init_9 (by omega) (by omega) (by decide) (by decide) (by decide) ?_
  refine ca_iconst C dX5_init_12 (by decide) ?_
  refine ca_istore_n C dX5_init_13 (by decide) ?_
  refine ca_sf (ca_rg_0 (ca_rg sf 0 0 1) 1 0) ?_
  refine lp_mk1 C (sf := ca_rg sf 0 0 1) rfl ?_ 6 0 (by omega) (by omega)
  refine ca_sf (show ca_rg (s1_ sf) 0 0 1 = _ from by unfold s1_; rw [pl_rg, ca_rg_comm]) ?_
  refine ca_aload_n C dX5_init_38 rfl ?_
  refine ca_bipush C dX5_init_39 (by decide) (by decide) ?_
  refine ca_newA C dX5_init_41 (by omega) (by show 17 - 1 + 1 ≤ 120 ∧ 2304 * (17 - 1) + 2304 ≤ 2304 * 120; omega) kc_X5_16 (by decide) ?_
  refine ca_nn (n' := 18) rfl ?_
  refine ca_putF C (o := 0) (r := 17) (a := 0) 5 1 tyX5 tyX5_ok nmX5 rfl rfl (by decide) iw_5 (by decide) fl_X5_18 rfl hi rfl (fun _ => rfl) (fun _ => rfl) dX5_init_44 (by omega) (by omega) (by decide) (by decide) (by decide) ?_
  refine ca_iconst C dX5_init_47 (by decide) ?_
  refine ca_istore_n C dX5_init_48 (by decide) ?_
  refine ca_sf (ca_rg_0 (ca_rg (s1_ sf) 0 0 2) 17 0) ?_
  refine lp_mk2 C (sf := ca_rg (s1_ sf) 0 0 2) rfl ?_ 26 0 (by omega) (by omega)
  refine ca_sf (show ca_rg (s2_ sf) 0 0 2 = _ from by unfold s2_; rw [ly_rg, ca_rg_comm]) ?_
  refine ca_aload_n C dX5_init_74 rfl ?_
  refine ca_newO C 0 tyX0 tyX0_ok rfl rfl (by decide) iw_0 kc_X5_23 kt_X0 kn_X0 (by decide) dX5_init_75 (by omega) (by show 93 - 1 + 1 ≤ 120 ∧ 2304 * (93 - 1) + 2304 ≤ 2304 * 120; omega) (by decide) (fun j hj => by rcases (show j = 0 ∨ j = 1 ∨ j = 2 ∨ j = 3 ∨ j = 4 ∨ j = 5 ∨ j = 6 ∨ j = 7 ∨ j = 8 ∨ j = 9 ∨ j = 10 ∨ j = 11 by omega) with rfl | rfl | rfl | rfl | rfl | rfl | rfl | rfl | rfl | rfl | rfl | rfl <;> rfl) ?_
  refine ca_nn (n' := 94) rfl ?_
  refine ca_dup C dX5_init_78 rfl ?_
  refine ca_callIN C (N := K_X0) (o := 93) (n1 := 110) dX5_init_79 ko_X0 rfl ki_X0 rfl (by decide) ⟨by decide, by decide, by decide⟩ (by omega) (by show 110 - 1 ≤ 120 ∧ 2304 * (110 - 1) ≤ 2304 * 120; omega) (Nat.le_of_ble_eq_true rfl) (fun ok okh hz => k_X0 ok okh hz) ?_
  refine ca_sf (show ca_rg (s3_ sf) 0 0 2 = _ from by unfold s3_; rw [ca_rg_comm, ca_rg_comm (o2 := 0)]) ?_
  refine ca_putF C (o := 0) (r := 93) (a := 0) 5 2 tyX5 tyX5_ok nmX5 rfl rfl (by decide) iw_5 (by decide) fl_X5_26 rfl hi rfl (fun _ => rfl) (fun _ => rfl) dX5_init_82 (by omega) (by omega) (by decide) (by decide) (by decide) ?_
  refine ca_aload_n C dX5_init_85 rfl ?_
  refine ca_newO C 4 tyX4 tyX4_ok rfl rfl (by decide) iw_4 kc_X5_30 kt_X4 kn_X4 (by decide) dX5_init_86 (by omega) (by show 110 - 1 + 1 ≤ 120 ∧ 2304 * (110 - 1) + 2304 ≤ 2304 * 120; omega) (by decide) (fun j hj => by rcases (show j = 0 ∨ j = 1 ∨ j = 2 ∨ j = 3 ∨ j = 4 ∨ j = 5 ∨ j = 6 ∨ j = 7 ∨ j = 8 ∨ j = 9 ∨ j = 10 ∨ j = 11 ∨ j = 12 by omega) with rfl | rfl | rfl | rfl | rfl | rfl | rfl | rfl | rfl | rfl | rfl | rfl | rfl <;> rfl) ?_
  refine ca_nn (n' := 111) rfl ?_
  refine ca_dup C dX5_init_89 rfl ?_
  refine ca_callIN C (N := K_X4) (o := 110) (n1 := 121) dX5_init_90 ko_X4 rfl ki_X4 rfl (by decide) ⟨by decide, by decide, by decide⟩ (by omega) (by show 121 - 1 ≤ 120 ∧ 2304 * (121 - 1) ≤ 2304 * 120; omega) (Nat.le_of_ble_eq_true rfl) (fun ok okh hz => k_X4 ok okh hz) ?_
  refine ca_sf (show ca_rg (s4_ sf) 0 0 3 = _ from by unfold s4_; rw [ca_rg_comm]) ?_
  refine ca_putF C (o := 0) (r := 110) (a := 0) 5 3 tyX5 tyX5_ok nmX5 rfl rfl (by decide) iw_5 (by decide) fl_X5_33 rfl hi rfl (fun _ => rfl) (fun _ => rfl) dX5_init_93 (by omega) (by omega) (by decide) (by decide) (by decide) ?_
  refine ca_aload_n C dX5_init_96 rfl ?_
  refine ca_iconst C dX5_init_97 (by decide) ?_
  refine ca_putI C (o := 0) 5 4 tyX5 tyX5_ok nmX5 rfl rfl (by decide) iw_5 (by decide) fl_X5_37 rfl rfl rfl dX5_init_98 (by omega) (by decide) (by decide) ?_
  refine ca_aload_n C dX5_init_101 rfl ?_
  refine ca_iconst C dX5_init_102 (by decide) ?_
  refine ca_putI C (o := 0) 5 5 tyX5 tyX5_ok nmX5 rfl rfl (by decide) iw_5 (by decide) fl_X5_41 rfl rfl rfl dX5_init_103 (by omega) (by decide) (by decide) ?_
  refine ca_aload_n C dX5_init_106 rfl ?_
  refine ca_iconst C dX5_init_107 (by decide) ?_
  refine ca_putI C (o := 0) 5 6 tyX5 tyX5_ok nmX5 rfl rfl (by decide) iw_5 (by decide) fl_X5_45 rfl rfl rfl dX5_init_108 (by omega) (by decide) (by decide) ?_
  refine ca_aload_n C dX5_init_111 rfl ?_
  refine ca_iconst C dX5_init_112 (by decide) ?_
  refine ca_putI C (o := 0) 5 7 tyX5 tyX5_ok nmX5 rfl rfl (by decide) iw_5 (by decide) fl_X5_48 rfl rfl rfl dX5_init_113 (by omega) (by decide) (by decide) ?_
  exact ca_ret C hr dX5_init_116
