/-- what the keys say -/
def rk_I (h h' : ez_H) (T : Int) : Prop := (∀ m : Int, 0 ≤ m → m < T → h' 97 m = h 94 m % 64 / 8 ∧ h' 98 m = h 94 m % 64 % 8 ∧ h' 95 m = h 94 m / 64 / 8192 - 4096 ∧ h' 96 m = h 94 m / 64 % 8192 - 4096) ∧ ∀ o k : Int, (o < 95 ∨ 98 < o) → h' o k = h o k
/-- all shifts of one TURN and STRETCH, in order -/
def ft_L (h : ez_H) (A B : bl_P) (k s : Int) : Prop := (0 ≤ h 93 8 ∧ h 93 8 ≤ 64) ∧ (∀ n : Int, 0 ≤ n → n < h 93 8 → (0 ≤ h 97 n ∧ h 97 n < A.1) ∧ (0 ≤ h 98 n ∧ h 98 n < B.1) ∧ h 95 n = bl_sx A B k s (h 97 n) (h 98 n) ∧ h 96 n = bl_sy A B k s (h 97 n) (h 98 n)) ∧ (∀ i j : Int, 0 ≤ i → i < A.1 → 0 ≤ j → j < B.1 → ∃ n : Int, (0 ≤ n ∧ n < h 93 8) ∧ h 97 n = i ∧ h 98 n = j) ∧ (∀ n n' : Int, 0 ≤ n → n < n' → n' < h 93 8 → h 95 n < h 95 n' ∨ (h 95 n = h 95 n' ∧ h 96 n ≤ h 96 n')) ∧ (∀ n : Int, 0 ≤ n → n < h 93 8 → (-4096 ≤ h 95 n ∧ h 95 n ≤ 4096) ∧ (-4096 ≤ h 96 n ∧ h 96 n ≤ 4096))
theorem ft_L.t {h : ez_H} {A B : bl_P} {k s : Int} (x_ : ft_L h A B k s) : 0 ≤ h 93 8 ∧ h 93 8 ≤ 64 := x_.1
theorem ft_L.e {h : ez_H} {A B : bl_P} {k s : Int} (x_ : ft_L h A B k s) : ∀ n : Int, 0 ≤ n → n < h 93 8 → (0 ≤ h 97 n ∧ h 97 n < A.1) ∧ (0 ≤ h 98 n ∧ h 98 n < B.1) ∧ h 95 n = bl_sx A B k s (h 97 n) (h 98 n) ∧ h 96 n = bl_sy A B k s (h 97 n) (h 98 n) := x_.2.1
theorem ft_L.a {h : ez_H} {A B : bl_P} {k s : Int} (x_ : ft_L h A B k s) : ∀ i j : Int, 0 ≤ i → i < A.1 → 0 ≤ j → j < B.1 → ∃ n : Int, (0 ≤ n ∧ n < h 93 8) ∧ h 97 n = i ∧ h 98 n = j := x_.2.2.1
theorem ft_L.s {h : ez_H} {A B : bl_P} {k s : Int} (x_ : ft_L h A B k s) : ∀ n n' : Int, 0 ≤ n → n < n' → n' < h 93 8 → h 95 n < h 95 n' ∨ (h 95 n = h 95 n' ∧ h 96 n ≤ h 96 n') := x_.2.2.2.1
theorem ft_L.b {h : ez_H} {A B : bl_P} {k s : Int} (x_ : ft_L h A B k s) : ∀ n : Int, 0 ≤ n → n < h 93 8 → (-4096 ≤ h 95 n ∧ h 95 n ≤ 4096) ∧ (-4096 ≤ h 96 n ∧ h 96 n ≤ 4096) := x_.2.2.2.2
theorem cd_P_n {h : ez_H} {o : Int} (W : cd_W h o) : ((cd_P h o).1 : Int) = h o 1 ∧ (cd_P h o).1 ≤ 8 := by
  have := W.n
  have e : (cd_P h o).1 = (h o 1).toNat := rfl
  omega
theorem bl_s_bd {h : ez_H} {oa ob k s i j : Int} (WA : cd_W h oa) (WB : cd_W h ob) (hs : 1 ≤ s ∧ s ≤ 3) (hi : 0 ≤ i ∧ i < h oa 1) (hj : 0 ≤ j ∧ j < h ob 1) : (-3000 ≤ bl_sx (cd_P h oa) (cd_P h ob) k s i j ∧ bl_sx (cd_P h oa) (cd_P h ob) k s i j ≤ 4000) ∧ (-3000 ≤ bl_sy (cd_P h oa) (cd_P h ob) k s i j ∧ bl_sy (cd_P h oa) (cd_P h ob) k s i j ≤ 4000) := by
  have a := WA.x i hi.1 hi.2
  have b := WB.x j hj.1 hj.2
  have bd := fx_t_bd (k := k) b
  show (-3000 ≤ h (oa + 1) i - s * fx_tx k (h (ob + 1) j) (h (ob + 2) j) ∧ h (oa + 1) i - s * fx_tx k (h (ob + 1) j) (h (ob + 2) j) ≤ 4000) ∧ (-3000 ≤ h (oa + 2) i - s * fx_ty k (h (ob + 1) j) (h (ob + 2) j) ∧ h (oa + 2) i - s * fx_ty k (h (ob + 1) j) (h (ob + 2) j) ≤ 4000)
  rcases (show s = 1 ∨ s = 2 ∨ s = 3 by omega) with e | e | e <;> rw [e] <;> omega
theorem ks_dec {X Y i j z : Int} (hz : z = ((X + 4096) * 8192 + (Y + 4096)) * 64 + i * 8 + j) (hX : -3000 ≤ X ∧ X ≤ 4000) (hY : -3000 ≤ Y ∧ Y ≤ 4000) (hi : 0 ≤ i ∧ i ≤ 7) (hj : 0 ≤ j ∧ j ≤ 7) : (0 ≤ z ∧ z < 4294967296) ∧ z % 64 / 8 = i ∧ z % 64 % 8 = j ∧ z / 64 / 8192 - 4096 = X ∧ z / 64 % 8192 - 4096 = Y := by
  have h1 : z % 64 = i * 8 + j := by omega
  have h2 : z / 64 = (X + 4096) * 8192 + (Y + 4096) := by omega
  rw [h1, h2]
  omega
theorem ls_key {h h0 : ez_H} {oa ob k s : Int} (WA : cd_W h oa) (WB : cd_W h ob) (hs : 1 ≤ s ∧ s ≤ 3) (LI : ls_I h0 (cd_P h oa) (cd_P h ob) k s (ls_D (cd_P h oa) (cd_P h ob) (h ob 1) 0)) {n : Int} (n0 : 0 ≤ n) (n1 : n < h0 93 8) : ∃ i j : Int, ((0 ≤ i ∧ i < h oa 1) ∧ (0 ≤ j ∧ j < h ob 1)) ∧ h0 94 n = ks_ (cd_P h oa) (cd_P h ob) k s i j ∧ (0 ≤ h0 94 n ∧ h0 94 n < 4294967296) ∧ h0 94 n % 64 / 8 = i ∧ h0 94 n % 64 % 8 = j ∧ h0 94 n / 64 / 8192 - 4096 = bl_sx (cd_P h oa) (cd_P h ob) k s i j ∧ h0 94 n / 64 % 8192 - 4096 = bl_sy (cd_P h oa) (cd_P h ob) k s i j := by
  obtain ⟨i, j, d, e⟩ := LI.1 n n0 n1
  have pa := cd_P_n WA
  have pb := cd_P_n WB
  have d1 := d.1
  have d2 := d.2.1
  have bd := bl_s_bd (k := k) WA WB hs (i := i) (j := j) (by omega) (by omega)
  exact ⟨i, j, by omega, e, ks_dec e bd.1 bd.2 (by omega) (by omega)⟩
theorem ft_mk {h h0 h1 h2 : ez_H} {oa ob k s : Int} (WA : cd_W h oa) (WB : cd_W h ob) (hs : 1 ≤ s ∧ s ≤ 3) (LI : ls_I h0 (cd_P h oa) (cd_P h ob) k s (ls_D (cd_P h oa) (cd_P h ob) (h ob 1) 0)) (hT : 0 ≤ h0 93 8 ∧ h0 93 8 ≤ 64) (SI : so_I h0 h1 (h0 93 8)) (SS : so_S h1 (h0 93 8)) (RK : rk_I h1 h2 (h0 93 8)) (e8 : h1 93 8 = h0 93 8) : ft_L h2 (cd_P h oa) (cd_P h ob) k s := by
  have pa := cd_P_n WA
  have pb := cd_P_n WB
  have e8' : h2 93 8 = h0 93 8 := (RK.2 93 8 (by omega)).trans e8
  have key : ∀ n : Int, 0 ≤ n → n < h0 93 8 → (0 ≤ h2 97 n ∧ h2 97 n < h oa 1) ∧ (0 ≤ h2 98 n ∧ h2 98 n < h ob 1) ∧ h2 95 n = bl_sx (cd_P h oa) (cd_P h ob) k s (h2 97 n) (h2 98 n) ∧ h2 96 n = bl_sy (cd_P h oa) (cd_P h ob) k s (h2 97 n) (h2 98 n) := fun n n0 n1 => by
    obtain ⟨m, m0, m1⟩ := SI.1 n n0 n1
    obtain ⟨i, j, a1, a2, a3, a4, a5, a6, a7⟩ := ls_key WA WB hs LI m0.1 m0.2
    have r := RK.1 n n0 n1
    rw [m1, a4, a5, a6, a7] at r
    rw [r.1, r.2.1]
    exact ⟨a1.1, a1.2, r.2.2.1, r.2.2.2⟩
  refine ⟨by rw [e8']; exact hT, fun n n0 n1 => ?_, fun i j i0 i1 j0 j1 => ?_, fun n n' n0 nn n1 => ?_, fun n n0 n1 => ?_⟩
  · rw [e8'] at n1
    rw [pa.1, pb.1]
    exact key n n0 n1
  · obtain ⟨m, m0, m1⟩ := LI.2 i j ⟨⟨i0, i1⟩, ⟨j0, j1⟩, Or.inl (by omega)⟩
    obtain ⟨n, n0, n1⟩ := SI.2 m m0.1 m0.2
    have bd := bl_s_bd (k := k) WA WB hs (i := i) (j := j) (by omega) (by omega)
    have dec := ks_dec m1 bd.1 bd.2 (by omega) (by omega)
    have r := RK.1 n n0.1 n0.2
    rw [n1, dec.2.1, dec.2.2.1] at r
    exact ⟨n, by omega, r.1, r.2.1⟩
  · rw [e8'] at n1
    have q := SS n n' n0 nn n1
    have r := RK.1 n n0 (by omega)
    have r' := RK.1 n' (by omega) n1
    omega
  · rw [e8'] at n1
    have q := key n n0 n1
    have bd := bl_s_bd (k := k) WA WB hs q.1 q.2.1
    omega

theorem lp_rk {T : Int} {h : ez_H} (hT : h 93 8 = T ∧ 0 ≤ T ∧ T ≤ 64) (hk : ∀ m : Int, 0 ≤ m → m < T → 0 ≤ h 94 m ∧ h 94 m < 4294967296) : ∀ (n : Nat) (n0 : Int) (h' : ez_H), (0 ≤ n0 ∧ n0 ≤ T) → (rk_I h h' n0) → T - n0 < n → ez_En M_X0_readKeys 2 [ez_R 93, ez_I n0, ez_N, ez_N, ez_N] [] h' (ez_PV (fun h' => rk_I h h' T)) := by
  intro n
  induction n with
  | zero =>
    intro n0 h' m0 RK hm
    exfalso
    omega
  | succ n ih =>
    intro n0 h' m0 RK hm
    have e8 := RK.2 93 8 (by omega)
    refine ez_iload_n dX0_readKeys_2 rfl ?_
    refine ez_aload_n dX0_readKeys_3 rfl ?_
    refine g0_8 dX0_readKeys_4 fl_X0_69 ?_
    refine ez_ic_ge 91 dX0_readKeys_7 (by decide) (fun c_7 => ?_) (fun c_7 => ?_)
    · refine ez_vreturn (st := []) dX0_readKeys_91 rfl ?_
      exact ez_PV.in (by rw [show T = n0 by omega]; exact RK)
    · have e4 := RK.2 94 n0 (by omega)
      have kb := hk n0 (by omega) (by omega)
      refine ez_aload_n dX0_readKeys_10 rfl ?_
      refine g0_0 dX0_readKeys_11 fl_X0_11 ?_
      refine ez_iload_n dX0_readKeys_14 rfl ?_
      refine al94 dX0_readKeys_15 (by omega) ?_
      rw [e4]
      refine ez_ldc2 (64) dX0_readKeys_16 cn_X0_89 rfl (by decide) ?_
      refine ez_lremN dX0_readKeys_19 (by omega) (by omega) ?_
      refine ez_l2i dX0_readKeys_20 (by omega) ?_
      refine ez_istore_n dX0_readKeys_21 (by decide) ?_
      refine ez_aload_n dX0_readKeys_22 rfl ?_
      refine g0_0 dX0_readKeys_23 fl_X0_11 ?_
      refine ez_iload_n dX0_readKeys_26 rfl ?_
      refine al94 dX0_readKeys_27 (by omega) ?_
      rw [e4]
      refine ez_ldc2 (64) dX0_readKeys_28 cn_X0_89 rfl (by decide) ?_
      refine ez_ldivN dX0_readKeys_31 (by omega) (by omega) ?_
      refine ez_lstore_n dX0_readKeys_32 (by decide) ?_
      refine ez_aload_n dX0_readKeys_33 rfl ?_
      refine g0_3 dX0_readKeys_34 fl_X0_22 ?_
      refine ez_iload_n dX0_readKeys_37 rfl ?_
      refine ez_iload_n dX0_readKeys_38 rfl ?_
      refine ez_bipush dX0_readKeys_39 (by decide) (by decide) ?_
      refine ez_idivN dX0_readKeys_41 (by omega) (by omega) ?_
      refine as97 dX0_readKeys_42 (by omega) ?_
      refine ez_aload_n dX0_readKeys_43 rfl ?_
      refine g0_4 dX0_readKeys_44 fl_X0_25 ?_
      refine ez_iload_n dX0_readKeys_47 rfl ?_
      refine ez_iload_n dX0_readKeys_48 rfl ?_
      refine ez_bipush dX0_readKeys_49 (by decide) (by decide) ?_
      refine ez_iremN dX0_readKeys_51 (by omega) (by omega) ?_
      refine as98 dX0_readKeys_52 (by omega) ?_
      refine ez_aload_n dX0_readKeys_53 rfl ?_
      refine g0_1 dX0_readKeys_54 fl_X0_15 ?_
      refine ez_iload_n dX0_readKeys_57 rfl ?_
      refine ez_lload_n dX0_readKeys_58 rfl ?_
      refine ez_ldc2 (8192) dX0_readKeys_59 cn_X0_94 rfl (by decide) ?_
      refine ez_ldivN dX0_readKeys_62 (by omega) (by omega) ?_
      refine ez_l2i dX0_readKeys_63 (by omega) ?_
      refine ez_sipush dX0_readKeys_64 (by decide) (by decide) ?_
      refine ez_isub dX0_readKeys_67 (by omega) ?_
      refine as95 dX0_readKeys_68 (by omega) ?_
      refine ez_aload_n dX0_readKeys_69 rfl ?_
      refine g0_2 dX0_readKeys_70 fl_X0_19 ?_
      refine ez_iload_n dX0_readKeys_73 rfl ?_
      refine ez_lload_n dX0_readKeys_74 rfl ?_
      refine ez_ldc2 (8192) dX0_readKeys_75 cn_X0_94 rfl (by decide) ?_
      refine ez_lremN dX0_readKeys_78 (by omega) (by omega) ?_
      refine ez_l2i dX0_readKeys_79 (by omega) ?_
      refine ez_sipush dX0_readKeys_80 (by decide) (by decide) ?_
      refine ez_isub dX0_readKeys_83 (by omega) ?_
      have n1 : rk_I h (ez_up (ez_up (ez_up (ez_up h' 97 n0 (h 94 n0 % 64 / 8)) 98 n0 (h 94 n0 % 64 % 8)) 95 n0 (h 94 n0 / 64 / 8192 - 4096)) 96 n0 (h 94 n0 / 64 % 8192 - 4096)) (n0 + 1) := by
        refine ⟨fun m m0 m1 => ?_, fun o k ho => ?_⟩
        · by_cases e : m = n0
          · rw [e]
            refine ⟨?_, ?_, ?_, ez_up_eq⟩
            · rw [ez_up_ne (by omega), ez_up_ne (by omega), ez_up_ne (by omega), ez_up_eq]
            · rw [ez_up_ne (by omega), ez_up_ne (by omega), ez_up_eq]
            · rw [ez_up_ne (by omega), ez_up_eq]
          · have q := RK.1 m m0 (by omega)
            refine ⟨?_, ?_, ?_, ?_⟩
            · rw [ez_up_ne (by omega), ez_up_ne (by omega), ez_up_ne (by omega), ez_up_ne (by omega)]
              exact q.1
            · rw [ez_up_ne (by omega), ez_up_ne (by omega), ez_up_ne (by omega), ez_up_ne (by omega)]
              exact q.2.1
            · rw [ez_up_ne (by omega), ez_up_ne (by omega), ez_up_ne (by omega), ez_up_ne (by omega)]
              exact q.2.2.1
            · rw [ez_up_ne (by omega), ez_up_ne (by omega), ez_up_ne (by omega), ez_up_ne (by omega)]
              exact q.2.2.2
        · rw [ez_up_ne (by omega), ez_up_ne (by omega), ez_up_ne (by omega), ez_up_ne (by omega)]
          exact RK.2 o k ho
      refine as96 dX0_readKeys_84 (by omega) ?_
      refine ez_iinc dX0_readKeys_85 rfl (by decide) (by decide) (by omega) ?_
      refine ez_goto 2 dX0_readKeys_88 (by decide) ?_
      refine ez_lessS (L' := [ez_R 93, ez_I (n0 + 1), ez_N, ez_N, ez_N]) ⟨Or.inr rfl, Or.inr rfl, Or.inl rfl, Or.inl rfl, Or.inl rfl, trivial⟩ ?_
      exact ih (n0 + 1) _ (by omega) n1 (by omega)
theorem c_X0_readKeys {T : Int} {h : ez_H} (hT : h 93 8 = T ∧ 0 ≤ T ∧ T ≤ 64) (hk : ∀ m : Int, 0 ≤ m → m < T → 0 ≤ h 94 m ∧ h 94 m < 4294967296) : ez_Ct M_X0_readKeys [ez_R 93] h (ez_PV (fun h' => rk_I h h' T)) := by
  refine ez_of (by decide) (Nat.le_of_ble_eq_true rfl) (L0 := [ez_R 93, ez_N, ez_N, ez_N, ez_N]) rfl ?_
  refine ez_iconst dX0_readKeys_0 (by decide) ?_
  refine ez_istore_n dX0_readKeys_1 (by decide) ?_
  exact lp_rk hT hk (T + 1).toNat 0 h (by omega) ⟨fun m m0 m1 => by omega, fun _ _ _ => rfl⟩ (by omega)
