/-! the class's questions -/
theorem cd_hS {h : ez_H} (b : cd_B h) (hn : h 0 5 ≠ 0) : (0 ≤ sp_f (cd_S h) ∧ sp_f (cd_S h) < (cd_S h).1) ∧ (cd_S h).1 ≤ 5 := by
  have f := b.fr
  have n := b.n
  rw [← b.f]
  exact ⟨by show 0 ≤ h 0 6 ∧ h 0 6 < h 0 5; omega, n.2⟩
def tk_Z (h : ez_H) (S : sp_S) (i : Int) : Prop := (0 < h 114 i ↔ sp_la S i ≠ sp_f S) ∧ (h 115 i = sp_wx S i) ∧ (h 116 i = sp_wy S i) ∧ (h 114 i = sp_ys S i) ∧ (h 113 i = sp_sp S i) ∧ (h 111 i = (S.2.2.2 (sp_f S)).2.1 i) ∧ (h 112 i = (S.2.2.2 (sp_f S)).2.2 i) ∧ ((-8000 ≤ h 115 i ∧ h 115 i ≤ 8000) ∧ (-8000 ≤ h 116 i ∧ h 116 i ≤ 8000) ∧ (0 ≤ h 114 i ∧ h 114 i ≤ 999) ∧ (0 ≤ h 111 i ∧ h 111 i ≤ 999) ∧ (0 ≤ h 112 i ∧ h 112 i ≤ 999))
theorem tk_Z.la {h : ez_H} {S : sp_S} {i : Int} (x_ : tk_Z h S i) : 0 < h 114 i ↔ sp_la S i ≠ sp_f S := x_.1
theorem tk_Z.wx {h : ez_H} {S : sp_S} {i : Int} (x_ : tk_Z h S i) : h 115 i = sp_wx S i := x_.2.1
theorem tk_Z.wy {h : ez_H} {S : sp_S} {i : Int} (x_ : tk_Z h S i) : h 116 i = sp_wy S i := x_.2.2.1
theorem tk_Z.ys {h : ez_H} {S : sp_S} {i : Int} (x_ : tk_Z h S i) : h 114 i = sp_ys S i := x_.2.2.2.1
theorem tk_Z.sp {h : ez_H} {S : sp_S} {i : Int} (x_ : tk_Z h S i) : h 113 i = sp_sp S i := x_.2.2.2.2.1
theorem tk_Z.sx {h : ez_H} {S : sp_S} {i : Int} (x_ : tk_Z h S i) : h 111 i = (S.2.2.2 (sp_f S)).2.1 i := x_.2.2.2.2.2.1
theorem tk_Z.sy {h : ez_H} {S : sp_S} {i : Int} (x_ : tk_Z h S i) : h 112 i = (S.2.2.2 (sp_f S)).2.2 i := x_.2.2.2.2.2.2.1
theorem tk_Z.rg {h : ez_H} {S : sp_S} {i : Int} (x_ : tk_Z h S i) : (-8000 ≤ h 115 i ∧ h 115 i ≤ 8000) ∧ (-8000 ≤ h 116 i ∧ h 116 i ≤ 8000) ∧ (0 ≤ h 114 i ∧ h 114 i ≤ 999) ∧ (0 ≤ h 111 i ∧ h 111 i ≤ 999) ∧ (0 ≤ h 112 i ∧ h 112 i ≤ 999) := x_.2.2.2.2.2.2.2
theorem tk_A.z {h : ez_H} {S : sp_S} {i : Int} (t : tk_A h S) (hS : 0 ≤ sp_f S ∧ sp_f S < S.1) (hi : 0 ≤ i ∧ i < sp_tr S) : tk_Z h S i := by
  have t1 := t.i i hi.1 hi.2
  have r := t1.rg
  have mr := (sp_mv_rng (i := i) hS S.1.toNat (by omega)).2.2
  have ys := t1.ys
  refine ⟨?_, t1.wx, t1.wy, t1.ys, ?_, t1.sx, t1.sy, ⟨r.1, r.2.1, r.2.2.1, r.2.2.2.1, r.2.2.2.2.1⟩⟩
  · have e : sp_la S i = (sp_mv S i S.1.toNat).1 := rfl
    rw [e]
    constructor
    · intro q c
      rw [c] at ys
      omega
    · intro q
      rcases mr with m | m
      · exact absurd m q
      · omega
  · rw [t1.sp, if_pos (by omega)]
    show (sp_mv S i S.1.toNat).2 + 0 = (sp_mv S i S.1.toNat).2
    omega
theorem st_l4 {h : ez_H} {S : sp_S} (t : tk_A h S) (hS : 0 ≤ sp_f S ∧ sp_f S < S.1) : ∀ n : Nat, (n : Int) ≤ sp_tr S → st_n h n = sp_l4 S n
  | 0, _ => rfl
  | n + 1, hn => by
    have z := t.z (i := n) hS (by omega)
    have ih := st_l4 t hS n (by omega)
    have zl := z.la
    show st_n h n + _ = sp_l4 S n + sp_b _
    rw [ih]
    unfold sp_b
    by_cases q : 0 < h 114 n ∧ h 115 n = 0 ∧ h 116 n = 0
    · rw [if_pos q, sp_dec_t ⟨zl.1 q.1, by rw [← z.wx]; exact q.2.1, by rw [← z.wy]; exact q.2.2⟩]
    · rw [if_neg q, sp_dec_f (fun c => q ⟨zl.2 c.1, by rw [z.wx]; exact c.2.1, by rw [z.wy]; exact c.2.2⟩)]
theorem sm_l5 {S : sp_S} (h0 : 0 ≤ S.1) : ∀ n : Nat, sm_ (tk_ms S S.1.toNat) n = sp_l5 S n
  | 0 => rfl
  | n + 1 => by
    show sm_ (tk_ms S S.1.toNat) n + tk_ms S S.1.toNat n = sp_l5 S n + (S.1 - sp_sp S n)
    rw [sm_l5 h0 n]
    unfold tk_ms
    show sp_l5 S n + (((S.1.toNat : Nat) : Int) - sp_sp S n) = _
    omega
theorem fr_cnt {h h1 : ez_H} (v : cd_V h) (v1 : cd_V h1) (f1 : cd_fr h h1) (t1 : h 0 5 ≠ 0 → tk_A h1 (cd_S h)) : h1 110 0 = sp_tr (cd_S h) ∧ st_n h1 (h1 110 0).toNat = sp_l4 (cd_S h) (sp_tr (cd_S h)).toNat ∧ h1 110 1 = sp_l5 (cd_S h) (sp_tr (cd_S h)).toNat := by
  have te := cd_tr_eq v.b
  by_cases q : h 0 5 = 0
  · have u := v1.u ((f1 0 5 (by omega) (by omega)).trans q)
    have e : sp_tr (cd_S h) = 0 := by
      unfold sp_tr
      rw [if_pos (show (cd_S h).1 = 0 from q)]
    rw [u.1, u.2, e]
    exact ⟨rfl, rfl, rfl⟩
  · have t := t1 q
    have hS := (cd_hS v.b q).1
    have c := t.c
    refine ⟨c, ?_, ?_⟩
    · rw [c]
      exact st_l4 t hS _ (by omega)
    · rw [t.m]
      exact sm_l5 (by omega) _
theorem cd_tr0 {h : ez_H} {i : Int} (hi : 0 ≤ i ∧ i < sp_tr (cd_S h)) : h 0 5 ≠ 0 := fun q => by
  unfold sp_tr at hi
  rw [if_pos (show (cd_S h).1 = 0 from q)] at hi
  omega
theorem c_isTrackS {i : Int} {h : ez_H} (b : cd_B h) : ez_Ct M_X5_isTrack [ez_R 0, ez_I i] h (ez_B h (0 ≤ i ∧ i < sp_tr (cd_S h))) := by
  have f := b.fr
  have n := b.n
  have c := c_X5_isTrack (i := i) (h := h) (by omega)
  rw [(cd_tr_eq b).1] at c
  exact c
theorem sp_gcd_abs (a b : Int) : sp_gcd (a.natAbs : Int) b = sp_gcd a b := by
  unfold sp_gcd
  rw [Int.natAbs_natCast]
theorem sp_tgf_first {S : sp_S} {i : Int} : ∀ n : Nat, sp_tgf S i n = sp_first (sp_tgp S i) n
  | 0 => rfl
  | n + 1 => by
    show (if sp_tgf S i n ≠ -1 then sp_tgf S i n else sp_dec (sp_tgp S i n) n (-1)) = (if sp_first (sp_tgp S i) n ≠ -1 then sp_first (sp_tgp S i) n else sp_dec (sp_tgp S i n) n (-1))
    rw [sp_tgf_first n]
theorem tk_A.tg {h : ez_H} {S : sp_S} {i : Int} (t : tk_A h S) (hS : 0 ≤ sp_f S ∧ sp_f S < S.1) (hi : 0 ≤ i ∧ i < sp_tr S) (hm : 0 < h 114 i) : (if 0 < h 114 i ∧ h 115 i = 0 ∧ h 116 i = 0 then -1 else sp_first (tw_c h i) (h 110 0).toNat) = sp_tg S i := by
  have z := t.z hS hi
  unfold sp_tg
  by_cases q : h 115 i = 0 ∧ h 116 i = 0
  · rw [if_pos ⟨hm, q⟩, if_pos (by rw [← z.wx, ← z.wy]; exact q)]
  · rw [if_neg (fun c => q c.2), if_neg (by rw [← z.wx, ← z.wy]; exact q), sp_tgf_first, t.c]
    refine sp_first_cong _ (fun k k0 k1 => ?_)
    have zk := t.z (i := k) hS (by omega)
    have la := zk.la
    unfold tw_c sp_tgp
    rw [← zk.wx, ← zk.wy, ← zk.ys, ← z.wx, ← z.wy, ← z.ys]
    exact ⟨fun c => ⟨c.1, la.1 c.2.1, c.2.2.1.symm, c.2.2.2.symm⟩, fun c => ⟨c.1, la.2 c.2.1, c.2.2.1.symm, c.2.2.2.symm⟩⟩
theorem tk_A.sty {h : ez_H} {S : sp_S} {i : Int} (t : tk_A h S) (hS : 0 ≤ sp_f S ∧ sp_f S < S.1) (hn : S.1 ≤ 5) (hi : 0 ≤ i ∧ i < sp_tr S) : (∀ p : Int, 0 ≤ p → p < 5 → sd_c h i S.2.1 p) ↔ sp_sty S i := by
  have z := t.z hS hi
  have t1 := t.i i hi.1 hi.2
  have key : ∀ p : Int, 0 ≤ p → p < S.1 → (sd_c h i S.2.1 p ↔ sp_stp S i p) := fun p p0 p1 => by
    have on := t1.on p p0 (Or.inl (by omega))
    unfold sd_c sp_stp sd_x sd_y
    rw [on.1]
    constructor
    · intro c nz
      have c1 := c nz
      have o2 := (on.2 nz).1
      rw [o2.1, o2.2, z.sx, z.sy, z.ys, z.wx, z.wy, t.s p p0 p1] at c1
      omega
    · intro c nz
      have c1 := c nz
      have o2 := (on.2 nz).1
      rw [o2.1, o2.2, z.sx, z.sy, z.ys, z.wx, z.wy, t.s p p0 p1]
      omega
  constructor
  · intro c p p0 p1
    exact (key p p0 p1).1 (c p p0 (by omega))
  · intro c p p0 p1
    by_cases q : p < S.1
    · exact (key p p0 q).2 (c p p0 q)
    · intro nz
      exact absurd (t1.no p (by omega) p1 (by omega)) nz
theorem tk_A.ro {h : ez_H} {S : sp_S} {i : Int} (t : tk_A h S) (hS : 0 ≤ sp_f S ∧ sp_f S < S.1) (hi : 0 ≤ i ∧ i < sp_tr S) (yr : ∀ p : Int, 0 ≤ p → p < S.1 → 0 ≤ S.2.2.1 p ∧ S.2.2.1 p ≤ 999) : ∀ p : Int, 0 ≤ p → p < 5 → h 117 (p * 8 + i) ≠ -1 → (-7000 ≤ h 118 (p * 8 + i) ∧ h 118 (p * 8 + i) ≤ 7000) ∧ (-7000 ≤ h 119 (p * 8 + i) ∧ h 119 (p * 8 + i) ≤ 7000) ∧ (-999 ≤ h 120 p ∧ h 120 p ≤ 999) := fun p p0 p1 nz => by
  have t1 := t.i i hi.1 hi.2
  by_cases q : p < S.1
  · have on := t1.on p p0 (Or.inl (by omega))
    have o2 := (on.2 (by rw [← on.1]; exact nz)).2
    have y1 := yr p p0 q
    have y2 := yr _ hS.1 hS.2
    have s := t.s p p0 q
    exact ⟨o2.1, o2.2, by omega⟩
  · exact absurd (t1.no p (by omega) p1 (by omega)) nz
theorem cd_yr {h : ez_H} (b : cd_B h) : ∀ p : Int, 0 ≤ p → p < (cd_S h).1 → 0 ≤ (cd_S h).2.2.1 p ∧ (cd_S h).2.2.1 p ≤ 999 := fun p p0 p1 => by
  rw [cd_S_yr p0 p1]
  exact (b.w p p0 p1).2

theorem c_X5_look {what : Int} {h : ez_H} (v : cd_V h) : ez_Ct M_X5_look [ez_R 0, ez_I what] h (cd_Q h (sp_lkA (cd_S h) what)) := by
  have n := v.b.n
  have ff := v.b.fr
  have te := cd_tr_eq v.b
  refine ez_of (by decide) (Nat.le_of_ble_eq_true rfl) (L0 := [ez_R 0, ez_I what]) rfl ?_
  refine ez_iload_n dX5_look_0 rfl ?_
  refine ez_ts6 40 45 50 55 60 72  84 dX5_look_1 (by decide) (fun c_1 => ?_) (fun c_1 => ?_) (fun c_1 => ?_) (fun c_1 => ?_) (fun c_1 => ?_) (fun c_1 => ?_) (fun c_1 => ?_)
  · refine ez_aload_n dX5_look_40 rfl ?_
    refine g5_5 dX5_look_41 fl_X5_41 ?_
    refine ez_ireturn (st := []) dX5_look_44 rfl ?_
    exact cd_Q.in (cd_g.rf v) (by unfold sp_lkA; rw [if_pos c_1]; rfl)
  · refine ez_aload_n dX5_look_45 rfl ?_
    refine g5_7 dX5_look_46 fl_X5_48 ?_
    refine ez_ireturn (st := []) dX5_look_49 rfl ?_
    exact cd_Q.in (cd_g.rf v) (by unfold sp_lkA; rw [if_neg (by omega), if_pos c_1]; rfl)
  · refine ez_aload_n dX5_look_50 rfl ?_
    refine g5_6 dX5_look_51 fl_X5_45 ?_
    refine ez_ireturn (st := []) dX5_look_54 rfl ?_
    exact cd_Q.in (cd_g.rf v) (by unfold sp_lkA; rw [if_neg (by omega), if_neg (by omega), if_pos c_1]; exact v.b.f)
  · refine ez_aload_n dX5_look_55 rfl ?_
    refine cl_X5_trackCount dX5_look_56 ml_X5_79 ft_X5_look__X5_trackCount (Nat.le_of_ble_eq_true rfl) (c_X5_trackCount (by omega)) (ez_kF ?_)
    refine ez_ireturn (st := []) dX5_look_59 rfl ?_
    exact cd_Q.in (cd_g.rf v) (by unfold sp_lkA; rw [if_neg (by omega), if_neg (by omega), if_neg (by omega), if_pos c_1]; exact te.1)
  · refine ez_aload_n dX5_look_60 rfl ?_
    refine cl_X5_freshenTracks dX5_look_61 ml_X5_83 ft_X5_look__X5_freshenTracks (Nat.le_of_ble_eq_true rfl) (c_X5_freshenTracks v) (ez_kV (fun h1 ⟨v1, f1, t1⟩ => ?_))
    have g1 : cd_g h h1 := ⟨v1, f1⟩
    have fc := fr_cnt v v1 f1 t1
    refine ez_aload_n dX5_look_64 rfl ?_
    refine g5_3 dX5_look_65 fl_X5_33 ?_
    refine cl_X4_stillOnes dX5_look_68 ml_X5_86 ft_X5_look__X4_stillOnes (Nat.le_of_ble_eq_true rfl) (c_X4_stillOnes (by omega)) (ez_kF ?_)
    refine ez_ireturn (st := []) dX5_look_71 rfl ?_
    exact cd_Q.in g1 (by unfold sp_lkA; rw [if_neg (by omega), if_neg (by omega), if_neg (by omega), if_neg (by omega), if_pos c_1]; exact fc.2.1)
  · refine ez_aload_n dX5_look_72 rfl ?_
    refine cl_X5_freshenTracks dX5_look_73 ml_X5_83 ft_X5_look__X5_freshenTracks (Nat.le_of_ble_eq_true rfl) (c_X5_freshenTracks v) (ez_kV (fun h1 ⟨v1, f1, t1⟩ => ?_))
    have g1 : cd_g h h1 := ⟨v1, f1⟩
    have fc := fr_cnt v v1 f1 t1
    refine ez_aload_n dX5_look_76 rfl ?_
    refine g5_3 dX5_look_77 fl_X5_33 ?_
    refine g4_1 dX5_look_80 fl_X5_89 ?_
    refine ez_ireturn (st := []) dX5_look_83 rfl ?_
    exact cd_Q.in g1 (by unfold sp_lkA; rw [if_neg (by omega), if_neg (by omega), if_neg (by omega), if_neg (by omega), if_neg (by omega), if_pos c_1]; exact fc.2.2)
  · refine ez_iconst dX5_look_84 (by decide) ?_
    refine ez_ireturn (st := []) dX5_look_85 rfl ?_
    exact cd_Q.in (cd_g.rf v) (by unfold sp_lkA; rw [if_neg (by omega), if_neg (by omega), if_neg (by omega), if_neg (by omega), if_neg (by omega), if_neg (by omega)])
theorem c_X5_of {p what : Int} {h : ez_H} (v : cd_V h) : ez_Ct M_X5_of [ez_R 0, ez_I p, ez_I what] h (cd_Q h (sp_ofA (cd_S h) p what)) := by
  have n := v.b.n
  have ff := v.b.fr
  have te := cd_tr_eq v.b
  refine ez_of (by decide) (Nat.le_of_ble_eq_true rfl) (L0 := [ez_R 0, ez_I p, ez_I what, ez_N, ez_N]) rfl ?_
  refine ez_aload_n dX5_of_0 rfl ?_
  refine ez_iload_n dX5_of_1 rfl ?_
  refine cl_X5_isPlate dX5_of_2 ml_X5_58 ft_X5_of__X5_isPlate (Nat.le_of_ble_eq_true rfl) c_X5_isPlate (ez_kB (fun b_2 => ?_) (fun b_2 => ?_))
  · refine ez_if_ne 10 dX5_of_5 (by decide) (fun c_5 => ?_) (fun c_5 => ?_)
    · have n2 := cd_n2 v.b b_2.1 b_2.2
      have wn := (v.b.w p b_2.1 b_2.2).1.n
      refine ez_aload_n dX5_of_10 rfl ?_
      refine g5_0 dX5_of_11 fl_X5_11 ?_
      refine ez_iload_n dX5_of_14 rfl ?_
      refine ez_aaloadP dX5_of_15 (by omega) ?_
      refine ez_astore_n dX5_of_16 (by decide) ?_
      refine ez_iload_n dX5_of_17 rfl ?_
      refine ez_if_ne 26 dX5_of_18 (by decide) (fun c_18 => ?_) (fun c_18 => ?_)
      · refine ez_iload_n dX5_of_26 rfl ?_
        refine ez_iconst dX5_of_27 (by decide) ?_
        refine ez_ic_ne 36 dX5_of_28 (by decide) (fun c_28 => ?_) (fun c_28 => ?_)
        · refine ez_iload_n dX5_of_36 rfl ?_
          refine ez_bipush dX5_of_37 (by decide) (by decide) ?_
          refine ez_ic_lt 55 dX5_of_39 (by decide) (fun c_39 => ?_) (fun c_39 => ?_)
          · refine ez_iconst dX5_of_55 (by decide) ?_
            refine ez_ireturn (st := []) dX5_of_56 rfl ?_
            exact cd_Q.in (cd_g.rf v) (by unfold sp_ofA; rw [sp_dec_t (show 0 ≤ p ∧ p < (cd_S h).1 from b_2), if_neg c_18, if_neg c_28, if_neg (by omega)])
          · refine ez_iload_n dX5_of_42 rfl ?_
            refine ez_bipush dX5_of_43 (by decide) (by decide) ?_
            refine ez_iconst dX5_of_45 (by decide) ?_
            refine ez_aload_n dX5_of_46 rfl ?_
            refine g3_1 (by first | assumption | exact ez_isP.mk (by omega)) dX5_of_47 fl_X5_92 ?_
            refine ez_imul dX5_of_50 (by omega) ?_
            refine ez_iadd dX5_of_51 (by omega) ?_
            refine ez_ic_lt 57 dX5_of_52 (by decide) (fun c_52 => ?_) (fun c_52 => ?_)
            · refine ez_iload_n dX5_of_57 rfl ?_
              refine ez_bipush dX5_of_58 (by decide) (by decide) ?_
              refine ez_isub dX5_of_60 (by omega) ?_
              refine ez_iconst dX5_of_61 (by decide) ?_
              refine ez_idivN dX5_of_62 (by omega) (by omega) ?_
              refine ez_istore dX5_of_63 (by decide) ?_
              refine ez_iload_n dX5_of_65 rfl ?_
              refine ez_iconst dX5_of_66 (by decide) ?_
              refine ez_iremN dX5_of_67 (by omega) (by omega) ?_
              refine ez_if_ne 81 dX5_of_68 (by decide) (fun c_68 => ?_) (fun c_68 => ?_)
              · refine ez_aload_n dX5_of_81 rfl ?_
                refine g3_3 (by first | assumption | exact ez_isP.mk (by omega)) dX5_of_82 fl_X5_99 ?_
                refine ez_iload dX5_of_85 rfl ?_
                refine alP2 (by first | assumption | exact ez_isP.mk (by omega)) dX5_of_87 (by omega) ?_
                refine ez_ireturn (st := []) dX5_of_88 rfl ?_
                have xy := cd_xy v.b (p := p) (j := (what - 10) / 2) b_2 (by omega)
                first
                 | exact cd_Q.in (cd_g.rf v) (by unfold sp_ofA; rw [sp_dec_t (show 0 ≤ p ∧ p < (cd_S h).1 from b_2), if_neg c_18, if_neg c_28, if_pos (by omega), if_pos c_68, xy.1])
                 | exact cd_Q.in (cd_g.rf v) (by unfold sp_ofA; rw [sp_dec_t (show 0 ≤ p ∧ p < (cd_S h).1 from b_2), if_neg c_18, if_neg c_28, if_pos (by omega), if_neg c_68, xy.2])
              · refine ez_aload_n dX5_of_71 rfl ?_
                refine g3_2 (by first | assumption | exact ez_isP.mk (by omega)) dX5_of_72 fl_X5_95 ?_
                refine ez_iload dX5_of_75 rfl ?_
                refine alP1 (by first | assumption | exact ez_isP.mk (by omega)) dX5_of_77 (by omega) ?_
                refine ez_goto 88 dX5_of_78 (by decide) ?_
                refine ez_ireturn (st := []) dX5_of_88 rfl ?_
                have xy := cd_xy v.b (p := p) (j := (what - 10) / 2) b_2 (by omega)
                first
                 | exact cd_Q.in (cd_g.rf v) (by unfold sp_ofA; rw [sp_dec_t (show 0 ≤ p ∧ p < (cd_S h).1 from b_2), if_neg c_18, if_neg c_28, if_pos (by omega), if_pos c_68, xy.1])
                 | exact cd_Q.in (cd_g.rf v) (by unfold sp_ofA; rw [sp_dec_t (show 0 ≤ p ∧ p < (cd_S h).1 from b_2), if_neg c_18, if_neg c_28, if_pos (by omega), if_neg c_68, xy.2])
            · refine ez_iconst dX5_of_55 (by decide) ?_
              refine ez_ireturn (st := []) dX5_of_56 rfl ?_
              exact cd_Q.in (cd_g.rf v) (by unfold sp_ofA; rw [sp_dec_t (show 0 ≤ p ∧ p < (cd_S h).1 from b_2), if_neg c_18, if_neg c_28, if_neg (by omega)])
        · refine ez_aload_n dX5_of_31 rfl ?_
          refine g3_1 (by first | assumption | exact ez_isP.mk (by omega)) dX5_of_32 fl_X5_92 ?_
          refine ez_ireturn (st := []) dX5_of_35 rfl ?_
          exact cd_Q.in (cd_g.rf v) (by unfold sp_ofA; rw [sp_dec_t (show 0 ≤ p ∧ p < (cd_S h).1 from b_2), if_neg c_18, if_pos c_28, n2])
      · refine ez_aload_n dX5_of_21 rfl ?_
        refine g3_0 (by first | assumption | exact ez_isP.mk (by omega)) dX5_of_22 fl_X5_55 ?_
        refine ez_ireturn (st := []) dX5_of_25 rfl ?_
        exact cd_Q.in (cd_g.rf v) (by unfold sp_ofA; rw [sp_dec_t (show 0 ≤ p ∧ p < (cd_S h).1 from b_2), if_pos c_18, cd_S_yr b_2.1 b_2.2])
    · exact absurd c_5 (by decide)
  · refine ez_if_ne 10 dX5_of_5 (by decide) (fun c_5 => ?_) (fun c_5 => ?_)
    · exact absurd c_5 (by decide)
    · refine ez_iconst dX5_of_8 (by decide) ?_
      refine ez_ireturn (st := []) dX5_of_9 rfl ?_
      exact cd_Q.in (cd_g.rf v) (sp_dec_f b_2).symm
theorem c_X5_lay {a b what : Int} {h : ez_H} (v : cd_V h) : ez_Ct M_X5_lay [ez_R 0, ez_I a, ez_I b, ez_I what] h (cd_Q h (sp_dec (sp_layA (cd_S h) a b what) (sp_lay (cd_S h) a b what) (-10000))) := by
  have n := v.b.n
  have ff := v.b.fr
  have te := cd_tr_eq v.b
  refine ez_of (by decide) (Nat.le_of_ble_eq_true rfl) (L0 := [ez_R 0, ez_I a, ez_I b, ez_I what, ez_N]) rfl ?_
  refine ez_aload_n dX5_lay_0 rfl ?_
  refine ez_iload_n dX5_lay_1 rfl ?_
  refine cl_X5_isPlate dX5_lay_2 ml_X5_58 ft_X5_lay__X5_isPlate (Nat.le_of_ble_eq_true rfl) c_X5_isPlate (ez_kB (fun b_2 => ?_) (fun b_2 => ?_))
  · refine ez_if_eq 21 dX5_lay_5 (by decide) (fun c_5 => ?_) (fun c_5 => ?_)
    · exact absurd c_5 (by decide)
    · refine ez_aload_n dX5_lay_8 rfl ?_
      refine ez_iload_n dX5_lay_9 rfl ?_
      refine cl_X5_isPlate dX5_lay_10 ml_X5_58 ft_X5_lay__X5_isPlate (Nat.le_of_ble_eq_true rfl) c_X5_isPlate (ez_kB (fun b_10 => ?_) (fun b_10 => ?_))
      · refine ez_if_eq 21 dX5_lay_13 (by decide) (fun c_13 => ?_) (fun c_13 => ?_)
        · exact absurd c_13 (by decide)
        · refine ez_iload_n dX5_lay_16 rfl ?_
          refine ez_iload_n dX5_lay_17 rfl ?_
          refine ez_ic_ne 25 dX5_lay_18 (by decide) (fun c_18 => ?_) (fun c_18 => ?_)
          · refine ez_aload_n dX5_lay_25 rfl ?_
            refine ez_iload_n dX5_lay_26 rfl ?_
            refine ez_iload_n dX5_lay_27 rfl ?_
            refine cl_X5_bestLay dX5_lay_28 ml_X5_102 ft_X5_lay__X5_bestLay (Nat.le_of_ble_eq_true rfl) (c_X5_bestLay v b_2 b_10) (ez_kR (fun h1 z ⟨e1, v1, b1, f1⟩ => ?_))
            rw [e1]
            have g1 : cd_g h h1 := ⟨v1, b1.cd⟩
            have kL : ez_isL (18 + 3 * (a * 5 + b)) := ez_isL.mk (by omega)
            have e5 : h1 0 5 = h 0 5 := b1 0 5 (by omega)
            have sS : cd_S h1 = cd_S h := g1.2.S n.2
            have FF := v1.F (a := a) (b := b) (by omega) (by omega) f1
            rw [sS] at FF
            refine ez_astore dX5_lay_31 (by decide) ?_
            refine ez_aload dX5_lay_33 rfl ?_
            refine g1_1 (by first | assumption | exact ez_isL.mk (by omega)) dX5_lay_35 fl_X5_106 ?_
            refine ez_if_ne 45 dX5_lay_38 (by decide) (fun c_38 => ?_) (fun c_38 => ?_)
            · refine ez_iload_n dX5_lay_45 rfl ?_
              refine ez_ts6 84 90 96 102 108 114  120 dX5_lay_46 (by decide) (fun c_46 => ?_) (fun c_46 => ?_) (fun c_46 => ?_) (fun c_46 => ?_) (fun c_46 => ?_) (fun c_46 => ?_) (fun c_46 => ?_)
              · refine ez_aload dX5_lay_84 rfl ?_
                refine g1_1 (by first | assumption | exact ez_isL.mk (by omega)) dX5_lay_86 fl_X5_106 ?_
                refine ez_ireturn (st := []) dX5_lay_89 rfl ?_
                rcases FF with y | y
                · exact absurd y.2.1 c_38
                · refine cd_Q.in g1 ?_
                  rw [sp_dec_t (show sp_layA (cd_S h) a b what from ⟨b_2, b_10, c_18, by omega, y.1⟩)]
                  have z := y.2.2.1 what (by omega) (by omega)
                  rw [← z, c_46]
                  rfl
              · refine ez_aload dX5_lay_90 rfl ?_
                refine g1_2 (by first | assumption | exact ez_isL.mk (by omega)) dX5_lay_92 fl_X5_107 ?_
                refine ez_ireturn (st := []) dX5_lay_95 rfl ?_
                rcases FF with y | y
                · exact absurd y.2.1 c_38
                · refine cd_Q.in g1 ?_
                  rw [sp_dec_t (show sp_layA (cd_S h) a b what from ⟨b_2, b_10, c_18, by omega, y.1⟩)]
                  have z := y.2.2.1 what (by omega) (by omega)
                  rw [← z, c_46]
                  rfl
              · refine ez_aload dX5_lay_96 rfl ?_
                refine g1_3 (by first | assumption | exact ez_isL.mk (by omega)) dX5_lay_98 fl_X5_110 ?_
                refine ez_ireturn (st := []) dX5_lay_101 rfl ?_
                rcases FF with y | y
                · exact absurd y.2.1 c_38
                · refine cd_Q.in g1 ?_
                  rw [sp_dec_t (show sp_layA (cd_S h) a b what from ⟨b_2, b_10, c_18, by omega, y.1⟩)]
                  have z := y.2.2.1 what (by omega) (by omega)
                  rw [← z, c_46]
                  rfl
              · refine ez_aload dX5_lay_102 rfl ?_
                refine g1_4 (by first | assumption | exact ez_isL.mk (by omega)) dX5_lay_104 fl_X5_113 ?_
                refine ez_ireturn (st := []) dX5_lay_107 rfl ?_
                rcases FF with y | y
                · exact absurd y.2.1 c_38
                · refine cd_Q.in g1 ?_
                  rw [sp_dec_t (show sp_layA (cd_S h) a b what from ⟨b_2, b_10, c_18, by omega, y.1⟩)]
                  have z := y.2.2.1 what (by omega) (by omega)
                  rw [← z, c_46]
                  rfl
              · refine ez_aload dX5_lay_108 rfl ?_
                refine g1_5 (by first | assumption | exact ez_isL.mk (by omega)) dX5_lay_110 fl_X5_116 ?_
                refine ez_ireturn (st := []) dX5_lay_113 rfl ?_
                rcases FF with y | y
                · exact absurd y.2.1 c_38
                · refine cd_Q.in g1 ?_
                  rw [sp_dec_t (show sp_layA (cd_S h) a b what from ⟨b_2, b_10, c_18, by omega, y.1⟩)]
                  have z := y.2.2.1 what (by omega) (by omega)
                  rw [← z, c_46]
                  rfl
              · refine ez_aload dX5_lay_114 rfl ?_
                refine g1_6 (by first | assumption | exact ez_isL.mk (by omega)) dX5_lay_116 fl_X5_119 ?_
                refine ez_ireturn (st := []) dX5_lay_119 rfl ?_
                rcases FF with y | y
                · exact absurd y.2.1 c_38
                · refine cd_Q.in g1 ?_
                  rw [sp_dec_t (show sp_layA (cd_S h) a b what from ⟨b_2, b_10, c_18, by omega, y.1⟩)]
                  have z := y.2.2.1 what (by omega) (by omega)
                  rw [← z, c_46]
                  rfl
              · refine ez_sipush dX5_lay_120 (by decide) (by decide) ?_
                refine ez_ireturn (st := []) dX5_lay_123 rfl ?_
                have hno : ¬ sp_layA (cd_S h) a b what := fun q => by
                  unfold sp_layA at q
                  have q1 : a < h 0 5 := q.1.2
                  have q2 : b < h 0 5 := q.2.1.2
                  have q3 := q.2.2.2.2
                  first | omega | (rcases FF with y | y <;> first | exact y.1 q3 | exact y.2.1 c_38)
                exact cd_Q.in g1 (sp_dec_f hno).symm
            · refine ez_sipush dX5_lay_41 (by decide) (by decide) ?_
              refine ez_ireturn (st := []) dX5_lay_44 rfl ?_
              have hno : ¬ sp_layA (cd_S h) a b what := fun q => by
                unfold sp_layA at q
                have q1 : a < h 0 5 := q.1.2
                have q2 : b < h 0 5 := q.2.1.2
                have q3 := q.2.2.2.2
                first | omega | (rcases FF with y | y <;> first | exact y.1 q3 | exact y.2.1 c_38)
              exact cd_Q.in g1 (sp_dec_f hno).symm
          · refine ez_sipush dX5_lay_21 (by decide) (by decide) ?_
            refine ez_ireturn (st := []) dX5_lay_24 rfl ?_
            have hno : ¬ sp_layA (cd_S h) a b what := fun q => by
              unfold sp_layA at q
              have q1 : a < h 0 5 := q.1.2
              have q2 : b < h 0 5 := q.2.1.2
              have q3 := q.2.2.2.2
              first | omega | (rcases FF with y | y <;> first | exact y.1 q3 | exact y.2.1 c_38)
            exact cd_Q.in (cd_g.rf v) (sp_dec_f hno).symm
      · refine ez_if_eq 21 dX5_lay_13 (by decide) (fun c_13 => ?_) (fun c_13 => ?_)
        · refine ez_sipush dX5_lay_21 (by decide) (by decide) ?_
          refine ez_ireturn (st := []) dX5_lay_24 rfl ?_
          have hno : ¬ sp_layA (cd_S h) a b what := fun q => by
            unfold sp_layA at q
            have q1 : a < h 0 5 := q.1.2
            have q2 : b < h 0 5 := q.2.1.2
            have q3 := q.2.2.2.2
            first | omega | (rcases FF with y | y <;> first | exact y.1 q3 | exact y.2.1 c_38)
          exact cd_Q.in (cd_g.rf v) (sp_dec_f hno).symm
        · exact absurd c_13 (by decide)
  · refine ez_if_eq 21 dX5_lay_5 (by decide) (fun c_5 => ?_) (fun c_5 => ?_)
    · refine ez_sipush dX5_lay_21 (by decide) (by decide) ?_
      refine ez_ireturn (st := []) dX5_lay_24 rfl ?_
      have hno : ¬ sp_layA (cd_S h) a b what := fun q => by
        unfold sp_layA at q
        have q1 : a < h 0 5 := q.1.2
        have q2 : b < h 0 5 := q.2.1.2
        have q3 := q.2.2.2.2
        first | omega | (rcases FF with y | y <;> first | exact y.1 q3 | exact y.2.1 c_38)
      exact cd_Q.in (cd_g.rf v) (sp_dec_f hno).symm
    · exact absurd c_5 (by decide)
theorem c_X5_pair {a b j : Int} {h : ez_H} (v : cd_V h) : ez_Ct M_X5_pair [ez_R 0, ez_I a, ez_I b, ez_I j] h (cd_Q h (sp_dec (sp_pairA (cd_S h) a b j) (sp_pr (cd_S h) a b j) (-1))) := by
  have n := v.b.n
  have ff := v.b.fr
  have te := cd_tr_eq v.b
  refine ez_of (by decide) (Nat.le_of_ble_eq_true rfl) (L0 := [ez_R 0, ez_I a, ez_I b, ez_I j]) rfl ?_
  refine ez_aload_n dX5_pair_0 rfl ?_
  refine ez_iload_n dX5_pair_1 rfl ?_
  refine cl_X5_isPlate dX5_pair_2 ml_X5_58 ft_X5_pair__X5_isPlate (Nat.le_of_ble_eq_true rfl) c_X5_isPlate (ez_kB (fun b_2 => ?_) (fun b_2 => ?_))
  · refine ez_if_eq 22 dX5_pair_5 (by decide) (fun c_5 => ?_) (fun c_5 => ?_)
    · exact absurd c_5 (by decide)
    · refine ez_aload_n dX5_pair_8 rfl ?_
      refine ez_iload_n dX5_pair_9 rfl ?_
      refine ez_iload_n dX5_pair_10 rfl ?_
      refine cl_X5_isSpot dX5_pair_11 ml_X5_72 ft_X5_pair__X5_isSpot (Nat.le_of_ble_eq_true rfl) (c_X5_isSpot n) (ez_kB (fun b_11 => ?_) (fun b_11 => ?_))
      · refine ez_if_eq 22 dX5_pair_14 (by decide) (fun c_14 => ?_) (fun c_14 => ?_)
        · exact absurd c_14 (by decide)
        · refine ez_iload_n dX5_pair_17 rfl ?_
          refine ez_iload_n dX5_pair_18 rfl ?_
          refine ez_ic_ne 24 dX5_pair_19 (by decide) (fun c_19 => ?_) (fun c_19 => ?_)
          · have n2 := cd_n2 v.b b_11.1.1 b_11.1.2
            have wn := (v.b.w b b_11.1.1 b_11.1.2).1.n
            have wb := (v.b.w b b_11.1.1 b_11.1.2).1
            refine ez_aload_n dX5_pair_24 rfl ?_
            refine ez_iload_n dX5_pair_25 rfl ?_
            refine ez_iload_n dX5_pair_26 rfl ?_
            refine cl_X5_bestLay dX5_pair_27 ml_X5_102 ft_X5_pair__X5_bestLay (Nat.le_of_ble_eq_true rfl) (c_X5_bestLay v b_2 b_11.1) (ez_kR (fun h1 z ⟨e1, v1, b1, f1⟩ => ?_))
            rw [e1]
            have g1 : cd_g h h1 := ⟨v1, b1.cd⟩
            have kL : ez_isL (18 + 3 * (a * 5 + b)) := ez_isL.mk (by omega)
            have e5 : h1 0 5 = h 0 5 := b1 0 5 (by omega)
            have sS : cd_S h1 = cd_S h := g1.2.S n.2
            have FF := v1.F (a := a) (b := b) (by omega) (by omega) f1
            rw [sS] at FF
            refine g1_7 (by first | assumption | exact ez_isL.mk (by omega)) dX5_pair_30 fl_X5_122 ?_
            refine ez_iload_n dX5_pair_33 rfl ?_
            refine alL1 (by first | assumption | exact ez_isL.mk (by omega)) dX5_pair_34 (by omega) ?_
            refine ez_ireturn (st := []) dX5_pair_35 rfl ?_
            rcases FF with y | y
            · refine cd_Q.in g1 ?_
              rw [sp_dec_f (fun q => y.1 q.2.2.2.2), (y.2.2 j b_11.2.1 (by omega)).1]
            · refine cd_Q.in g1 ?_
              rw [sp_dec_t (show sp_pairA (cd_S h) a b j from ⟨b_2, b_11.1, c_19, by omega, y.1⟩)]
              exact y.2.2.2.1 j b_11.2.1 (by rw [b1 _ _ (by omega)]; exact b_11.2.2)
          · refine ez_iconst dX5_pair_22 (by decide) ?_
            refine ez_ireturn (st := []) dX5_pair_23 rfl ?_
            have hno : ¬ sp_pairA (cd_S h) a b j := fun q => by
              unfold sp_pairA at q
              have q1 : a < h 0 5 := q.1.2
              have q2 : b < h 0 5 := q.2.1.2
              have q3 := cd_n2 v.b q.2.1.1 q2
              omega
            exact cd_Q.in (cd_g.rf v) (sp_dec_f hno).symm
      · refine ez_if_eq 22 dX5_pair_14 (by decide) (fun c_14 => ?_) (fun c_14 => ?_)
        · refine ez_iconst dX5_pair_22 (by decide) ?_
          refine ez_ireturn (st := []) dX5_pair_23 rfl ?_
          have hno : ¬ sp_pairA (cd_S h) a b j := fun q => by
            unfold sp_pairA at q
            have q1 : a < h 0 5 := q.1.2
            have q2 : b < h 0 5 := q.2.1.2
            have q3 := cd_n2 v.b q.2.1.1 q2
            omega
          exact cd_Q.in (cd_g.rf v) (sp_dec_f hno).symm
        · exact absurd c_14 (by decide)
  · refine ez_if_eq 22 dX5_pair_5 (by decide) (fun c_5 => ?_) (fun c_5 => ?_)
    · refine ez_iconst dX5_pair_22 (by decide) ?_
      refine ez_ireturn (st := []) dX5_pair_23 rfl ?_
      have hno : ¬ sp_pairA (cd_S h) a b j := fun q => by
        unfold sp_pairA at q
        have q1 : a < h 0 5 := q.1.2
        have q2 : b < h 0 5 := q.2.1.2
        have q3 := cd_n2 v.b q.2.1.1 q2
        omega
      exact cd_Q.in (cd_g.rf v) (sp_dec_f hno).symm
    · exact absurd c_5 (by decide)
theorem c_X5_track {i p : Int} {h : ez_H} (v : cd_V h) : ez_Ct M_X5_track [ez_R 0, ez_I i, ez_I p] h (cd_Q h (sp_trackA (cd_S h) i p)) := by
  have n := v.b.n
  have ff := v.b.fr
  have te := cd_tr_eq v.b
  refine ez_of (by decide) (Nat.le_of_ble_eq_true rfl) (L0 := [ez_R 0, ez_I i, ez_I p]) rfl ?_
  refine ez_aload_n dX5_track_0 rfl ?_
  refine ez_iload_n dX5_track_1 rfl ?_
  refine cl_X5_isTrack dX5_track_2 ml_X5_125 ft_X5_track__X5_isTrack (Nat.le_of_ble_eq_true rfl) (c_isTrackS v.b) (ez_kB (fun b_2 => ?_) (fun b_2 => ?_))
  · refine ez_if_eq 16 dX5_track_5 (by decide) (fun c_5 => ?_) (fun c_5 => ?_)
    · exact absurd c_5 (by decide)
    · refine ez_aload_n dX5_track_8 rfl ?_
      refine ez_iload_n dX5_track_9 rfl ?_
      refine cl_X5_isPlate dX5_track_10 ml_X5_58 ft_X5_track__X5_isPlate (Nat.le_of_ble_eq_true rfl) c_X5_isPlate (ez_kB (fun b_10 => ?_) (fun b_10 => ?_))
      · refine ez_if_ne 18 dX5_track_13 (by decide) (fun c_13 => ?_) (fun c_13 => ?_)
        · refine ez_aload_n dX5_track_18 rfl ?_
          refine cl_X5_freshenTracks dX5_track_19 ml_X5_83 ft_X5_track__X5_freshenTracks (Nat.le_of_ble_eq_true rfl) (c_X5_freshenTracks v) (ez_kV (fun h1 ⟨v1, f1, t1⟩ => ?_))
          have g1 : cd_g h h1 := ⟨v1, f1⟩
          have hn0 := cd_tr0 b_2
          have tA := t1 hn0
          obtain ⟨hS, s5⟩ := cd_hS v.b hn0
          have tz := tA.z hS b_2
          have t2 := tA.i i b_2.1 b_2.2
          have rg := tz.rg
          refine ez_aload_n dX5_track_22 rfl ?_
          refine g5_3 dX5_track_23 fl_X5_33 ?_
          refine g4_9 dX5_track_26 fl_X5_128 ?_
          refine ez_iload_n dX5_track_29 rfl ?_
          refine ez_bipush dX5_track_30 (by decide) (by decide) ?_
          refine ez_imul dX5_track_32 (by omega) ?_
          refine ez_iload_n dX5_track_33 rfl ?_
          refine ez_iadd dX5_track_34 (by omega) ?_
          refine al117 dX5_track_35 (by omega) ?_
          refine ez_ireturn (st := []) dX5_track_36 rfl ?_
          refine cd_Q.in g1 ?_
          unfold sp_trackA
          rw [sp_dec_t ⟨b_2, b_10⟩]
          exact (t2.on p b_10.1 (Or.inl (by show p < ((h 0 5).toNat : Int); omega))).1
        · exact absurd c_13 (by decide)
      · refine ez_if_ne 18 dX5_track_13 (by decide) (fun c_13 => ?_) (fun c_13 => ?_)
        · exact absurd c_13 (by decide)
        · refine ez_iconst dX5_track_16 (by decide) ?_
          refine ez_ireturn (st := []) dX5_track_17 rfl ?_
          first
           | exact cd_Q.in (cd_g.rf v) (sp_dec_f (fun q => b_2 q.1)).symm
           | exact cd_Q.in (cd_g.rf v) (sp_dec_f (fun q => b_10 q.2)).symm
  · refine ez_if_eq 16 dX5_track_5 (by decide) (fun c_5 => ?_) (fun c_5 => ?_)
    · refine ez_iconst dX5_track_16 (by decide) ?_
      refine ez_ireturn (st := []) dX5_track_17 rfl ?_
      first
       | exact cd_Q.in (cd_g.rf v) (sp_dec_f (fun q => b_2 q.1)).symm
       | exact cd_Q.in (cd_g.rf v) (sp_dec_f (fun q => b_10 q.2)).symm
    · exact absurd c_5 (by decide)
theorem c_X5_place {i p what : Int} {h : ez_H} (v : cd_V h) : ez_Ct M_X5_place [ez_R 0, ez_I i, ez_I p, ez_I what] h (cd_Q h (sp_placeA (cd_S h) i p what)) := by
  have n := v.b.n
  have ff := v.b.fr
  have te := cd_tr_eq v.b
  refine ez_of (by decide) (Nat.le_of_ble_eq_true rfl) (L0 := [ez_R 0, ez_I i, ez_I p, ez_I what, ez_N]) rfl ?_
  refine ez_aload_n dX5_place_0 rfl ?_
  refine ez_iload_n dX5_place_1 rfl ?_
  refine cl_X5_isTrack dX5_place_2 ml_X5_125 ft_X5_place__X5_isTrack (Nat.le_of_ble_eq_true rfl) (c_isTrackS v.b) (ez_kB (fun b_2 => ?_) (fun b_2 => ?_))
  · refine ez_if_eq 25 dX5_place_5 (by decide) (fun c_5 => ?_) (fun c_5 => ?_)
    · exact absurd c_5 (by decide)
    · refine ez_aload_n dX5_place_8 rfl ?_
      refine ez_iload_n dX5_place_9 rfl ?_
      refine cl_X5_isPlate dX5_place_10 ml_X5_58 ft_X5_place__X5_isPlate (Nat.le_of_ble_eq_true rfl) c_X5_isPlate (ez_kB (fun b_10 => ?_) (fun b_10 => ?_))
      · refine ez_if_eq 25 dX5_place_13 (by decide) (fun c_13 => ?_) (fun c_13 => ?_)
        · exact absurd c_13 (by decide)
        · refine ez_iload_n dX5_place_16 rfl ?_
          refine ez_if_lt 25 dX5_place_17 (by decide) (fun c_17 => ?_) (fun c_17 => ?_)
          · refine ez_sipush dX5_place_25 (by decide) (by decide) ?_
            refine ez_ireturn (st := []) dX5_place_28 rfl ?_
            first
             | exact cd_Q.in (cd_g.rf v) (sp_dec_f (fun q => b_2 q.1)).symm
             | exact cd_Q.in (cd_g.rf v) (sp_dec_f (fun q => b_10 q.2.1)).symm
             | exact cd_Q.in (cd_g.rf v) (sp_dec_f (fun q => absurd q.2.2.1 (by omega))).symm
          · refine ez_iload_n dX5_place_20 rfl ?_
            refine ez_iconst dX5_place_21 (by decide) ?_
            refine ez_ic_le 29 dX5_place_22 (by decide) (fun c_22 => ?_) (fun c_22 => ?_)
            · refine ez_aload_n dX5_place_29 rfl ?_
              refine cl_X5_freshenTracks dX5_place_30 ml_X5_83 ft_X5_place__X5_freshenTracks (Nat.le_of_ble_eq_true rfl) (c_X5_freshenTracks v) (ez_kV (fun h1 ⟨v1, f1, t1⟩ => ?_))
              have g1 : cd_g h h1 := ⟨v1, f1⟩
              have hn0 := cd_tr0 b_2
              have tA := t1 hn0
              obtain ⟨hS, s5⟩ := cd_hS v.b hn0
              have tz := tA.z hS b_2
              have t2 := tA.i i b_2.1 b_2.2
              have rg := tz.rg
              have on := t2.on p b_10.1 (Or.inl (by show p < ((h 0 5).toNat : Int); omega))
              refine ez_iload_n dX5_place_33 rfl ?_
              refine ez_bipush dX5_place_34 (by decide) (by decide) ?_
              refine ez_imul dX5_place_36 (by omega) ?_
              refine ez_iload_n dX5_place_37 rfl ?_
              refine ez_iadd dX5_place_38 (by omega) ?_
              refine ez_istore dX5_place_39 (by decide) ?_
              refine ez_aload_n dX5_place_41 rfl ?_
              refine g5_3 dX5_place_42 fl_X5_33 ?_
              refine g4_9 dX5_place_45 fl_X5_128 ?_
              refine ez_iload dX5_place_48 rfl ?_
              refine al117 dX5_place_50 (by omega) ?_
              refine ez_iconst dX5_place_51 (by decide) ?_
              refine ez_ic_ne 59 dX5_place_52 (by decide) (fun c_52 => ?_) (fun c_52 => ?_)
              · refine ez_iload_n dX5_place_59 rfl ?_
                refine ez_if_ne 76 dX5_place_60 (by decide) (fun c_60 => ?_) (fun c_60 => ?_)
                · refine ez_aload_n dX5_place_76 rfl ?_
                  refine g5_3 dX5_place_77 fl_X5_33 ?_
                  refine g4_11 dX5_place_80 fl_X5_134 ?_
                  refine ez_iload dX5_place_83 rfl ?_
                  refine al119 dX5_place_85 (by omega) ?_
                  refine ez_ireturn (st := []) dX5_place_86 rfl ?_
                  have nz : sp_so (cd_S h) i p ≠ -1 := by rw [← on.1]; exact c_52
                  have o2 := (on.2 nz).1
                  refine cd_Q.in g1 ?_
                  unfold sp_placeA
                  rw [sp_dec_t ⟨b_2, b_10, by omega, nz⟩]
                  first | (rw [show what = 0 by omega]; exact o2.1) | (rw [show what = 1 by omega]; exact o2.2)
                · refine ez_aload_n dX5_place_63 rfl ?_
                  refine g5_3 dX5_place_64 fl_X5_33 ?_
                  refine g4_10 dX5_place_67 fl_X5_131 ?_
                  refine ez_iload dX5_place_70 rfl ?_
                  refine al118 dX5_place_72 (by omega) ?_
                  refine ez_goto 86 dX5_place_73 (by decide) ?_
                  refine ez_ireturn (st := []) dX5_place_86 rfl ?_
                  have nz : sp_so (cd_S h) i p ≠ -1 := by rw [← on.1]; exact c_52
                  have o2 := (on.2 nz).1
                  refine cd_Q.in g1 ?_
                  unfold sp_placeA
                  rw [sp_dec_t ⟨b_2, b_10, by omega, nz⟩]
                  first | (rw [show what = 0 by omega]; exact o2.1) | (rw [show what = 1 by omega]; exact o2.2)
              · refine ez_sipush dX5_place_55 (by decide) (by decide) ?_
                refine ez_ireturn (st := []) dX5_place_58 rfl ?_
                exact cd_Q.in g1 (sp_dec_f (fun q => q.2.2.2 (on.1.symm.trans c_52))).symm
            · refine ez_sipush dX5_place_25 (by decide) (by decide) ?_
              refine ez_ireturn (st := []) dX5_place_28 rfl ?_
              first
               | exact cd_Q.in (cd_g.rf v) (sp_dec_f (fun q => b_2 q.1)).symm
               | exact cd_Q.in (cd_g.rf v) (sp_dec_f (fun q => b_10 q.2.1)).symm
               | exact cd_Q.in (cd_g.rf v) (sp_dec_f (fun q => absurd q.2.2.1 (by omega))).symm
      · refine ez_if_eq 25 dX5_place_13 (by decide) (fun c_13 => ?_) (fun c_13 => ?_)
        · refine ez_sipush dX5_place_25 (by decide) (by decide) ?_
          refine ez_ireturn (st := []) dX5_place_28 rfl ?_
          first
           | exact cd_Q.in (cd_g.rf v) (sp_dec_f (fun q => b_2 q.1)).symm
           | exact cd_Q.in (cd_g.rf v) (sp_dec_f (fun q => b_10 q.2.1)).symm
           | exact cd_Q.in (cd_g.rf v) (sp_dec_f (fun q => absurd q.2.2.1 (by omega))).symm
        · exact absurd c_13 (by decide)
  · refine ez_if_eq 25 dX5_place_5 (by decide) (fun c_5 => ?_) (fun c_5 => ?_)
    · refine ez_sipush dX5_place_25 (by decide) (by decide) ?_
      refine ez_ireturn (st := []) dX5_place_28 rfl ?_
      first
       | exact cd_Q.in (cd_g.rf v) (sp_dec_f (fun q => b_2 q.1)).symm
       | exact cd_Q.in (cd_g.rf v) (sp_dec_f (fun q => b_10 q.2.1)).symm
       | exact cd_Q.in (cd_g.rf v) (sp_dec_f (fun q => absurd q.2.2.1 (by omega))).symm
    · exact absurd c_5 (by decide)
theorem c_X5_motion {i what : Int} {h : ez_H} (v : cd_V h) : ez_Ct M_X5_motion [ez_R 0, ez_I i, ez_I what] h (cd_Q h (sp_moA (cd_S h) i what)) := by
  have n := v.b.n
  have ff := v.b.fr
  have te := cd_tr_eq v.b
  refine ez_of (by decide) (Nat.le_of_ble_eq_true rfl) (L0 := [ez_R 0, ez_I i, ez_I what, ez_N, ez_N, ez_N]) rfl ?_
  refine ez_aload_n dX5_motion_0 rfl ?_
  refine ez_iload_n dX5_motion_1 rfl ?_
  refine cl_X5_isTrack dX5_motion_2 ml_X5_125 ft_X5_motion__X5_isTrack (Nat.le_of_ble_eq_true rfl) (c_isTrackS v.b) (ez_kB (fun b_2 => ?_) (fun b_2 => ?_))
  · refine ez_if_eq 17 dX5_motion_5 (by decide) (fun c_5 => ?_) (fun c_5 => ?_)
    · exact absurd c_5 (by decide)
    · refine ez_iload_n dX5_motion_8 rfl ?_
      refine ez_if_lt 17 dX5_motion_9 (by decide) (fun c_9 => ?_) (fun c_9 => ?_)
      · refine ez_sipush dX5_motion_17 (by decide) (by decide) ?_
        refine ez_ireturn (st := []) dX5_motion_20 rfl ?_
        first
         | exact cd_Q.in (cd_g.rf v) (sp_dec_f (fun q => b_2 q.1)).symm
         | exact cd_Q.in (cd_g.rf v) (sp_dec_f (fun q => absurd q.2.1 (by omega))).symm
      · refine ez_iload_n dX5_motion_12 rfl ?_
        refine ez_iconst dX5_motion_13 (by decide) ?_
        refine ez_ic_le 21 dX5_motion_14 (by decide) (fun c_14 => ?_) (fun c_14 => ?_)
        · refine ez_aload_n dX5_motion_21 rfl ?_
          refine cl_X5_freshenTracks dX5_motion_22 ml_X5_83 ft_X5_motion__X5_freshenTracks (Nat.le_of_ble_eq_true rfl) (c_X5_freshenTracks v) (ez_kV (fun h1 ⟨v1, f1, t1⟩ => ?_))
          have g1 : cd_g h h1 := ⟨v1, f1⟩
          have hn0 := cd_tr0 b_2
          have tA := t1 hn0
          obtain ⟨hS, s5⟩ := cd_hS v.b hn0
          have tz := tA.z hS b_2
          have t2 := tA.i i b_2.1 b_2.2
          have rg := tz.rg
          refine ez_aload_n dX5_motion_25 rfl ?_
          refine g5_3 dX5_motion_26 fl_X5_33 ?_
          refine g4_6 dX5_motion_29 fl_X5_137 ?_
          refine ez_iload_n dX5_motion_32 rfl ?_
          refine al114 dX5_motion_33 (by omega) ?_
          refine ez_istore_n dX5_motion_34 (by decide) ?_
          refine ez_iload_n dX5_motion_35 rfl ?_
          refine ez_if_gt 43 dX5_motion_36 (by decide) (fun c_36 => ?_) (fun c_36 => ?_)
          · refine ez_iload_n dX5_motion_43 rfl ?_
            refine ez_iconst dX5_motion_44 (by decide) ?_
            refine ez_ic_ge 60 dX5_motion_45 (by decide) (fun c_45 => ?_) (fun c_45 => ?_)
            · refine ez_aload_n dX5_motion_60 rfl ?_
              refine g5_3 dX5_motion_61 fl_X5_33 ?_
              refine g4_8 dX5_motion_64 fl_X5_143 ?_
              refine ez_iload_n dX5_motion_67 rfl ?_
              refine al116 dX5_motion_68 (by omega) ?_
              refine ez_istore dX5_motion_69 (by decide) ?_
              refine ez_iload dX5_motion_71 rfl ?_
              refine cl_J9_abs_0f7a4 dX5_motion_73 ml_X5_146 ft_X5_motion__J9_abs_0f7a4 (Nat.le_of_ble_eq_true rfl) (c_J9_abs_0f7a4 (by omega)) (ez_kF ?_)
              refine ez_iload_n dX5_motion_76 rfl ?_
              refine cl_X5_commonPart dX5_motion_77 ml_X5_152 ft_X5_motion__X5_commonPart (Nat.le_of_ble_eq_true rfl) (c_X5_commonPart (by omega) (by omega)) (ez_kF ?_)
              rw [sp_gcd_abs]
              have hg1 := sp_gcd_pos (a := h1 115 i) (b := h1 114 i) (by omega)
              have hg2 := sp_gcd_pos (a := h1 116 i) (b := h1 114 i) (by omega)
              refine ez_istore dX5_motion_80 (by decide) ?_
              refine ez_iload_n dX5_motion_82 rfl ?_
              refine ez_iconst dX5_motion_83 (by decide) ?_
              refine ez_iremN dX5_motion_84 (by omega) (by omega) ?_
              refine ez_if_ne 93 dX5_motion_85 (by decide) (fun c_85 => ?_) (fun c_85 => ?_)
              · refine ez_iload_n dX5_motion_93 rfl ?_
                refine ez_iload dX5_motion_94 rfl ?_
                refine ez_idiv dX5_motion_96 (by omega) (by first | exact en_tdiv32 hg1.1 (by omega) | exact en_tdiv32 hg2.1 (by omega)) ?_
                refine ez_ireturn (st := []) dX5_motion_97 rfl ?_
                refine cd_Q.in g1 ?_
                unfold sp_moA
                rw [sp_dec_t ⟨b_2, by omega, tz.la.1 (by omega)⟩]
                first
                 | rw [if_pos c_85, if_pos (by omega), ← tz.wx, ← tz.ys]
                 | rw [if_pos c_85, if_neg (by omega), ← tz.wy, ← tz.ys]
                 | rw [if_neg c_85, if_pos (by omega), ← tz.wx, ← tz.ys]
                 | rw [if_neg c_85, if_neg (by omega), ← tz.wy, ← tz.ys]
              · refine ez_iload dX5_motion_88 rfl ?_
                refine ez_goto 94 dX5_motion_90 (by decide) ?_
                refine ez_iload dX5_motion_94 rfl ?_
                refine ez_idiv dX5_motion_96 (by omega) (by first | exact en_tdiv32 hg1.1 (by omega) | exact en_tdiv32 hg2.1 (by omega)) ?_
                refine ez_ireturn (st := []) dX5_motion_97 rfl ?_
                refine cd_Q.in g1 ?_
                unfold sp_moA
                rw [sp_dec_t ⟨b_2, by omega, tz.la.1 (by omega)⟩]
                first
                 | rw [if_pos c_85, if_pos (by omega), ← tz.wx, ← tz.ys]
                 | rw [if_pos c_85, if_neg (by omega), ← tz.wy, ← tz.ys]
                 | rw [if_neg c_85, if_pos (by omega), ← tz.wx, ← tz.ys]
                 | rw [if_neg c_85, if_neg (by omega), ← tz.wy, ← tz.ys]
            · refine ez_aload_n dX5_motion_48 rfl ?_
              refine g5_3 dX5_motion_49 fl_X5_33 ?_
              refine g4_7 dX5_motion_52 fl_X5_140 ?_
              refine ez_iload_n dX5_motion_55 rfl ?_
              refine al115 dX5_motion_56 (by omega) ?_
              refine ez_goto 69 dX5_motion_57 (by decide) ?_
              refine ez_istore dX5_motion_69 (by decide) ?_
              refine ez_iload dX5_motion_71 rfl ?_
              refine cl_J9_abs_0f7a4 dX5_motion_73 ml_X5_146 ft_X5_motion__J9_abs_0f7a4 (Nat.le_of_ble_eq_true rfl) (c_J9_abs_0f7a4 (by omega)) (ez_kF ?_)
              refine ez_iload_n dX5_motion_76 rfl ?_
              refine cl_X5_commonPart dX5_motion_77 ml_X5_152 ft_X5_motion__X5_commonPart (Nat.le_of_ble_eq_true rfl) (c_X5_commonPart (by omega) (by omega)) (ez_kF ?_)
              rw [sp_gcd_abs]
              have hg1 := sp_gcd_pos (a := h1 115 i) (b := h1 114 i) (by omega)
              have hg2 := sp_gcd_pos (a := h1 116 i) (b := h1 114 i) (by omega)
              refine ez_istore dX5_motion_80 (by decide) ?_
              refine ez_iload_n dX5_motion_82 rfl ?_
              refine ez_iconst dX5_motion_83 (by decide) ?_
              refine ez_iremN dX5_motion_84 (by omega) (by omega) ?_
              refine ez_if_ne 93 dX5_motion_85 (by decide) (fun c_85 => ?_) (fun c_85 => ?_)
              · refine ez_iload_n dX5_motion_93 rfl ?_
                refine ez_iload dX5_motion_94 rfl ?_
                refine ez_idiv dX5_motion_96 (by omega) (by first | exact en_tdiv32 hg1.1 (by omega) | exact en_tdiv32 hg2.1 (by omega)) ?_
                refine ez_ireturn (st := []) dX5_motion_97 rfl ?_
                refine cd_Q.in g1 ?_
                unfold sp_moA
                rw [sp_dec_t ⟨b_2, by omega, tz.la.1 (by omega)⟩]
                first
                 | rw [if_pos c_85, if_pos (by omega), ← tz.wx, ← tz.ys]
                 | rw [if_pos c_85, if_neg (by omega), ← tz.wy, ← tz.ys]
                 | rw [if_neg c_85, if_pos (by omega), ← tz.wx, ← tz.ys]
                 | rw [if_neg c_85, if_neg (by omega), ← tz.wy, ← tz.ys]
              · refine ez_iload dX5_motion_88 rfl ?_
                refine ez_goto 94 dX5_motion_90 (by decide) ?_
                refine ez_iload dX5_motion_94 rfl ?_
                refine ez_idiv dX5_motion_96 (by omega) (by first | exact en_tdiv32 hg1.1 (by omega) | exact en_tdiv32 hg2.1 (by omega)) ?_
                refine ez_ireturn (st := []) dX5_motion_97 rfl ?_
                refine cd_Q.in g1 ?_
                unfold sp_moA
                rw [sp_dec_t ⟨b_2, by omega, tz.la.1 (by omega)⟩]
                first
                 | rw [if_pos c_85, if_pos (by omega), ← tz.wx, ← tz.ys]
                 | rw [if_pos c_85, if_neg (by omega), ← tz.wy, ← tz.ys]
                 | rw [if_neg c_85, if_pos (by omega), ← tz.wx, ← tz.ys]
                 | rw [if_neg c_85, if_neg (by omega), ← tz.wy, ← tz.ys]
          · refine ez_sipush dX5_motion_39 (by decide) (by decide) ?_
            refine ez_ireturn (st := []) dX5_motion_42 rfl ?_
            exact cd_Q.in g1 (sp_dec_f (fun q => absurd (tz.la.2 q.2.2) (by omega))).symm
        · refine ez_sipush dX5_motion_17 (by decide) (by decide) ?_
          refine ez_ireturn (st := []) dX5_motion_20 rfl ?_
          first
           | exact cd_Q.in (cd_g.rf v) (sp_dec_f (fun q => b_2 q.1)).symm
           | exact cd_Q.in (cd_g.rf v) (sp_dec_f (fun q => absurd q.2.1 (by omega))).symm
  · refine ez_if_eq 17 dX5_motion_5 (by decide) (fun c_5 => ?_) (fun c_5 => ?_)
    · refine ez_sipush dX5_motion_17 (by decide) (by decide) ?_
      refine ez_ireturn (st := []) dX5_motion_20 rfl ?_
      first
       | exact cd_Q.in (cd_g.rf v) (sp_dec_f (fun q => b_2 q.1)).symm
       | exact cd_Q.in (cd_g.rf v) (sp_dec_f (fun q => absurd q.2.1 (by omega))).symm
    · exact absurd c_5 (by decide)
theorem c_X5_tell {i what : Int} {h : ez_H} (v : cd_V h) : ez_Ct M_X5_tell [ez_R 0, ez_I i, ez_I what] h (cd_Q h (sp_tellA (cd_S h) i what)) := by
  have n := v.b.n
  have ff := v.b.fr
  have te := cd_tr_eq v.b
  refine ez_of (by decide) (Nat.le_of_ble_eq_true rfl) (L0 := [ez_R 0, ez_I i, ez_I what]) rfl ?_
  refine ez_aload_n dX5_tell_0 rfl ?_
  refine ez_iload_n dX5_tell_1 rfl ?_
  refine cl_X5_isTrack dX5_tell_2 ml_X5_125 ft_X5_tell__X5_isTrack (Nat.le_of_ble_eq_true rfl) (c_isTrackS v.b) (ez_kB (fun b_2 => ?_) (fun b_2 => ?_))
  · refine ez_if_eq 17 dX5_tell_5 (by decide) (fun c_5 => ?_) (fun c_5 => ?_)
    · exact absurd c_5 (by decide)
    · refine ez_iload_n dX5_tell_8 rfl ?_
      refine ez_if_lt 17 dX5_tell_9 (by decide) (fun c_9 => ?_) (fun c_9 => ?_)
      · refine ez_iconst dX5_tell_17 (by decide) ?_
        refine ez_ireturn (st := []) dX5_tell_18 rfl ?_
        first
         | exact cd_Q.in (cd_g.rf v) (sp_dec_f (fun q => b_2 q.1)).symm
         | exact cd_Q.in (cd_g.rf v) (sp_dec_f (fun q => absurd q.2 (by omega))).symm
      · refine ez_iload_n dX5_tell_12 rfl ?_
        refine ez_iconst dX5_tell_13 (by decide) ?_
        refine ez_ic_le 19 dX5_tell_14 (by decide) (fun c_14 => ?_) (fun c_14 => ?_)
        · refine ez_aload_n dX5_tell_19 rfl ?_
          refine cl_X5_freshenTracks dX5_tell_20 ml_X5_83 ft_X5_tell__X5_freshenTracks (Nat.le_of_ble_eq_true rfl) (c_X5_freshenTracks v) (ez_kV (fun h1 ⟨v1, f1, t1⟩ => ?_))
          have g1 : cd_g h h1 := ⟨v1, f1⟩
          have hn0 := cd_tr0 b_2
          have tA := t1 hn0
          obtain ⟨hS, s5⟩ := cd_hS v.b hn0
          have tz := tA.z hS b_2
          have t2 := tA.i i b_2.1 b_2.2
          have rg := tz.rg
          have tc := tA.c
          have e7 : h1 0 7 = h 0 7 := f1 0 7 (by omega) (by omega)
          have ro := tA.ro hS b_2 (cd_yr v.b)
          have rgs : ∀ k : Int, 0 ≤ k → k < h1 110 0 → (-8000 ≤ h1 115 k ∧ h1 115 k ≤ 8000) ∧ (-8000 ≤ h1 116 k ∧ h1 116 k ≤ 8000) ∧ (0 ≤ h1 114 k ∧ h1 114 k ≤ 999) := fun k k0 k1 => by
            have z := (tA.z (i := k) hS ⟨k0, by omega⟩).rg
            exact ⟨z.1, z.2.1, z.2.2.1⟩
          refine ez_iload_n dX5_tell_23 rfl ?_
          refine ez_iconst dX5_tell_24 (by decide) ?_
          refine ez_ic_ne 38 dX5_tell_25 (by decide) (fun c_25 => ?_) (fun c_25 => ?_)
          · refine ez_aload_n dX5_tell_38 rfl ?_
            refine g5_3 dX5_tell_39 fl_X5_33 ?_
            refine ez_iload_n dX5_tell_42 rfl ?_
            refine cl_X4_hasMotion dX5_tell_43 ml_X5_158 ft_X5_tell__X4_hasMotion (Nat.le_of_ble_eq_true rfl) (c_X4_hasMotion (by omega)) (ez_kB (fun b_43 => ?_) (fun b_43 => ?_))
            · refine ez_if_ne 51 dX5_tell_46 (by decide) (fun c_46 => ?_) (fun c_46 => ?_)
              · refine ez_iload_n dX5_tell_51 rfl ?_
                refine ez_if_ne 76 dX5_tell_52 (by decide) (fun c_52 => ?_) (fun c_52 => ?_)
                · refine ez_iload_n dX5_tell_76 rfl ?_
                  refine ez_iconst dX5_tell_77 (by decide) ?_
                  refine ez_ic_ne 98 dX5_tell_78 (by decide) (fun c_78 => ?_) (fun c_78 => ?_)
                  · refine ez_aload_n dX5_tell_98 rfl ?_
                    refine g5_3 dX5_tell_99 fl_X5_33 ?_
                    refine ez_iload_n dX5_tell_102 rfl ?_
                    refine cl_X4_firstTogetherWith dX5_tell_103 ml_X5_167 ft_X5_tell__X4_firstTogetherWith (Nat.le_of_ble_eq_true rfl) (c_X4_firstTogetherWith (by omega) (by omega) rgs) (ez_kF ?_)
                    refine ez_ireturn (st := []) dX5_tell_106 rfl ?_
                    refine cd_Q.in g1 ?_
                    unfold sp_tellA
                    rw [sp_dec_t ⟨b_2, by omega⟩, if_neg c_25, sp_dec_t (tz.la.1 b_43), if_neg c_52, if_neg c_78]
                    exact tA.tg hS b_2 b_43
                  · refine ez_aload_n dX5_tell_81 rfl ?_
                    refine g5_3 dX5_tell_82 fl_X5_33 ?_
                    refine ez_iload_n dX5_tell_85 rfl ?_
                    refine cl_X4_isStill dX5_tell_86 ml_X5_164 ft_X5_tell__X4_isStill (Nat.le_of_ble_eq_true rfl) (c_X4_isStill (by omega)) (ez_kB (fun b_86 => ?_) (fun b_86 => ?_))
                    · refine ez_if_eq 96 dX5_tell_89 (by decide) (fun c_89 => ?_) (fun c_89 => ?_)
                      · exact absurd c_89 (by decide)
                      · refine ez_iconst dX5_tell_92 (by decide) ?_
                        refine ez_goto 97 dX5_tell_93 (by decide) ?_
                        refine ez_ireturn (st := []) dX5_tell_97 rfl ?_
                        refine cd_Q.in g1 ?_
                        unfold sp_tellA sp_b
                        rw [sp_dec_t ⟨b_2, by omega⟩, if_neg c_25, sp_dec_t (tz.la.1 b_43), if_neg c_52, if_pos c_78, ← tz.wx, ← tz.wy]
                        first | rw [sp_dec_t b_86.2] | rw [sp_dec_f (fun q => b_86 ⟨b_43, q⟩)]
                    · refine ez_if_eq 96 dX5_tell_89 (by decide) (fun c_89 => ?_) (fun c_89 => ?_)
                      · refine ez_iconst dX5_tell_96 (by decide) ?_
                        refine ez_ireturn (st := []) dX5_tell_97 rfl ?_
                        refine cd_Q.in g1 ?_
                        unfold sp_tellA sp_b
                        rw [sp_dec_t ⟨b_2, by omega⟩, if_neg c_25, sp_dec_t (tz.la.1 b_43), if_neg c_52, if_pos c_78, ← tz.wx, ← tz.wy]
                        first | rw [sp_dec_t b_86.2] | rw [sp_dec_f (fun q => b_86 ⟨b_43, q⟩)]
                      · exact absurd c_89 (by decide)
                · refine ez_aload_n dX5_tell_55 rfl ?_
                  refine g5_3 dX5_tell_56 fl_X5_33 ?_
                  refine ez_iload_n dX5_tell_59 rfl ?_
                  refine ez_aload_n dX5_tell_60 rfl ?_
                  refine g5_7 dX5_tell_61 fl_X5_48 ?_
                  refine cl_X4_isSteady dX5_tell_64 ml_X5_161 ft_X5_tell__X4_isSteady (Nat.le_of_ble_eq_true rfl) (c_X4_isSteady (by omega) (by rw [e7]; exact v.b.r) rg ro) (ez_kB (fun b_64 => ?_) (fun b_64 => ?_))
                  · rw [e7] at b_64
                    have sty : sp_sty (cd_S h) i := (tA.sty hS s5 b_2).1 b_64
                    refine ez_if_eq 74 dX5_tell_67 (by decide) (fun c_67 => ?_) (fun c_67 => ?_)
                    · exact absurd c_67 (by decide)
                    · refine ez_iconst dX5_tell_70 (by decide) ?_
                      refine ez_goto 75 dX5_tell_71 (by decide) ?_
                      refine ez_ireturn (st := []) dX5_tell_75 rfl ?_
                      refine cd_Q.in g1 ?_
                      unfold sp_tellA sp_b
                      rw [sp_dec_t ⟨b_2, by omega⟩, if_neg c_25, sp_dec_t (tz.la.1 b_43), if_pos c_52]
                      first | rw [sp_dec_t sty] | rw [sp_dec_f sty]
                  · rw [e7] at b_64
                    have sty : ¬ sp_sty (cd_S h) i := fun q => b_64 ((tA.sty hS s5 b_2).2 q)
                    refine ez_if_eq 74 dX5_tell_67 (by decide) (fun c_67 => ?_) (fun c_67 => ?_)
                    · refine ez_iconst dX5_tell_74 (by decide) ?_
                      refine ez_ireturn (st := []) dX5_tell_75 rfl ?_
                      refine cd_Q.in g1 ?_
                      unfold sp_tellA sp_b
                      rw [sp_dec_t ⟨b_2, by omega⟩, if_neg c_25, sp_dec_t (tz.la.1 b_43), if_pos c_52]
                      first | rw [sp_dec_t sty] | rw [sp_dec_f sty]
                    · exact absurd c_67 (by decide)
              · exact absurd c_46 (by decide)
            · refine ez_if_ne 51 dX5_tell_46 (by decide) (fun c_46 => ?_) (fun c_46 => ?_)
              · exact absurd c_46 (by decide)
              · refine ez_iconst dX5_tell_49 (by decide) ?_
                refine ez_ireturn (st := []) dX5_tell_50 rfl ?_
                refine cd_Q.in g1 ?_
                unfold sp_tellA
                rw [sp_dec_t ⟨b_2, by omega⟩, if_neg c_25, sp_dec_f (fun q => b_43 (tz.la.2 q))]
          · refine ez_aload_n dX5_tell_28 rfl ?_
            refine g5_3 dX5_tell_29 fl_X5_33 ?_
            refine g4_5 dX5_tell_32 fl_X5_155 ?_
            refine ez_iload_n dX5_tell_35 rfl ?_
            refine al113 dX5_tell_36 (by omega) ?_
            refine ez_ireturn (st := []) dX5_tell_37 rfl ?_
            refine cd_Q.in g1 ?_
            unfold sp_tellA
            rw [sp_dec_t ⟨b_2, by omega⟩, if_pos c_25]
            exact tz.sp
        · refine ez_iconst dX5_tell_17 (by decide) ?_
          refine ez_ireturn (st := []) dX5_tell_18 rfl ?_
          first
           | exact cd_Q.in (cd_g.rf v) (sp_dec_f (fun q => b_2 q.1)).symm
           | exact cd_Q.in (cd_g.rf v) (sp_dec_f (fun q => absurd q.2 (by omega))).symm
  · refine ez_if_eq 17 dX5_tell_5 (by decide) (fun c_5 => ?_) (fun c_5 => ?_)
    · refine ez_iconst dX5_tell_17 (by decide) ?_
      refine ez_ireturn (st := []) dX5_tell_18 rfl ?_
      first
       | exact cd_Q.in (cd_g.rf v) (sp_dec_f (fun q => b_2 q.1)).symm
       | exact cd_Q.in (cd_g.rf v) (sp_dec_f (fun q => absurd q.2 (by omega))).symm
    · exact absurd c_5 (by decide)
theorem c_X5_foretell {i t what : Int} {h : ez_H} (v : cd_V h) : ez_Ct M_X5_foretell [ez_R 0, ez_I i, ez_I t, ez_I what] h (cd_Q h (sp_foA (cd_S h) i t what)) := by
  have n := v.b.n
  have ff := v.b.fr
  have te := cd_tr_eq v.b
  refine ez_of (by decide) (Nat.le_of_ble_eq_true rfl) (L0 := [ez_R 0, ez_I i, ez_I t, ez_I what, ez_N, ez_N, ez_N, ez_N]) rfl ?_
  refine ez_aload_n dX5_foretell_0 rfl ?_
  refine ez_iload_n dX5_foretell_1 rfl ?_
  refine cl_X5_isTrack dX5_foretell_2 ml_X5_125 ft_X5_foretell__X5_isTrack (Nat.le_of_ble_eq_true rfl) (c_isTrackS v.b) (ez_kB (fun b_2 => ?_) (fun b_2 => ?_))
  · refine ez_if_eq 28 dX5_foretell_5 (by decide) (fun c_5 => ?_) (fun c_5 => ?_)
    · exact absurd c_5 (by decide)
    · refine ez_iload_n dX5_foretell_8 rfl ?_
      refine ez_if_lt 28 dX5_foretell_9 (by decide) (fun c_9 => ?_) (fun c_9 => ?_)
      · refine ez_ldc (-100000) dX5_foretell_28 cn_X5_170 rfl (by decide) ?_
        refine ez_ireturn (st := []) dX5_foretell_30 rfl ?_
        first
         | exact cd_Q.in (cd_g.rf v) (sp_dec_f (fun q => b_2 q.1)).symm
         | exact cd_Q.in (cd_g.rf v) (sp_dec_f (fun q => absurd q.2 (by omega))).symm
      · refine ez_iload_n dX5_foretell_12 rfl ?_
        refine ez_sipush dX5_foretell_13 (by decide) (by decide) ?_
        refine ez_ic_gt 28 dX5_foretell_16 (by decide) (fun c_16 => ?_) (fun c_16 => ?_)
        · refine ez_ldc (-100000) dX5_foretell_28 cn_X5_170 rfl (by decide) ?_
          refine ez_ireturn (st := []) dX5_foretell_30 rfl ?_
          first
           | exact cd_Q.in (cd_g.rf v) (sp_dec_f (fun q => b_2 q.1)).symm
           | exact cd_Q.in (cd_g.rf v) (sp_dec_f (fun q => absurd q.2 (by omega))).symm
        · refine ez_iload_n dX5_foretell_19 rfl ?_
          refine ez_if_lt 28 dX5_foretell_20 (by decide) (fun c_20 => ?_) (fun c_20 => ?_)
          · refine ez_ldc (-100000) dX5_foretell_28 cn_X5_170 rfl (by decide) ?_
            refine ez_ireturn (st := []) dX5_foretell_30 rfl ?_
            first
             | exact cd_Q.in (cd_g.rf v) (sp_dec_f (fun q => b_2 q.1)).symm
             | exact cd_Q.in (cd_g.rf v) (sp_dec_f (fun q => absurd q.2 (by omega))).symm
          · refine ez_iload_n dX5_foretell_23 rfl ?_
            refine ez_iconst dX5_foretell_24 (by decide) ?_
            refine ez_ic_le 31 dX5_foretell_25 (by decide) (fun c_25 => ?_) (fun c_25 => ?_)
            · refine ez_aload_n dX5_foretell_31 rfl ?_
              refine cl_X5_freshenTracks dX5_foretell_32 ml_X5_83 ft_X5_foretell__X5_freshenTracks (Nat.le_of_ble_eq_true rfl) (c_X5_freshenTracks v) (ez_kV (fun h1 ⟨v1, f1, t1⟩ => ?_))
              have g1 : cd_g h h1 := ⟨v1, f1⟩
              have hn0 := cd_tr0 b_2
              have tA := t1 hn0
              obtain ⟨hS, s5⟩ := cd_hS v.b hn0
              have tz := tA.z hS b_2
              have t2 := tA.i i b_2.1 b_2.2
              have rg := tz.rg
              have ty := tA.y
              have yf := cd_yr v.b _ hS.1 hS.2
              have m1 := en_mul_bd (A := 16000) (B := 2000) (a := 2 * h1 115 i) (b := t - h1 110 2) (by omega) (by omega)
              have m2 := en_mul_bd (A := 16000) (B := 2000) (a := 2 * h1 116 i) (b := t - h1 110 2) (by omega) (by omega)
              refine ez_iload_n dX5_foretell_35 rfl ?_
              refine ez_if_ne 51 dX5_foretell_36 (by decide) (fun c_36 => ?_) (fun c_36 => ?_)
              · refine ez_aload_n dX5_foretell_51 rfl ?_
                refine g5_3 dX5_foretell_52 fl_X5_33 ?_
                refine g4_4 dX5_foretell_55 fl_X5_174 ?_
                refine ez_iload_n dX5_foretell_58 rfl ?_
                refine al112 dX5_foretell_59 (by omega) ?_
                refine ez_istore dX5_foretell_60 (by decide) ?_
                refine ez_iload_n dX5_foretell_62 rfl ?_
                refine ez_if_ne 78 dX5_foretell_63 (by decide) (fun c_63 => ?_) (fun c_63 => ?_)
                · refine ez_aload_n dX5_foretell_78 rfl ?_
                  refine g5_3 dX5_foretell_79 fl_X5_33 ?_
                  refine g4_8 dX5_foretell_82 fl_X5_143 ?_
                  refine ez_iload_n dX5_foretell_85 rfl ?_
                  refine al116 dX5_foretell_86 (by omega) ?_
                  refine ez_istore dX5_foretell_87 (by decide) ?_
                  refine ez_aload_n dX5_foretell_89 rfl ?_
                  refine g5_3 dX5_foretell_90 fl_X5_33 ?_
                  refine g4_6 dX5_foretell_93 fl_X5_137 ?_
                  refine ez_iload_n dX5_foretell_96 rfl ?_
                  refine al114 dX5_foretell_97 (by omega) ?_
                  refine ez_istore dX5_foretell_98 (by decide) ?_
                  refine ez_iload dX5_foretell_100 rfl ?_
                  refine ez_if_gt 108 dX5_foretell_102 (by decide) (fun c_102 => ?_) (fun c_102 => ?_)
                  · refine ez_iload_n dX5_foretell_108 rfl ?_
                    refine ez_aload_n dX5_foretell_109 rfl ?_
                    refine g5_3 dX5_foretell_110 fl_X5_33 ?_
                    refine g4_2 dX5_foretell_113 fl_X5_177 ?_
                    refine ez_isub dX5_foretell_116 (by omega) ?_
                    refine ez_istore dX5_foretell_117 (by decide) ?_
                    refine ez_iload dX5_foretell_119 rfl ?_
                    refine ez_iconst dX5_foretell_121 (by decide) ?_
                    refine ez_iload dX5_foretell_122 rfl ?_
                    refine ez_imul dX5_foretell_124 (by omega) ?_
                    refine ez_iload dX5_foretell_125 rfl ?_
                    refine ez_imul dX5_foretell_127 (by omega) ?_
                    refine ez_iload dX5_foretell_128 rfl ?_
                    refine ez_iadd dX5_foretell_130 (by omega) ?_
                    refine ez_iconst dX5_foretell_131 (by decide) ?_
                    refine ez_iload dX5_foretell_132 rfl ?_
                    refine ez_imul dX5_foretell_134 (by omega) ?_
                    refine cl_J9_floorDiv_7cf53 dX5_foretell_135 ml_X5_180 ft_X5_foretell__J9_floorDiv_7cf53 (Nat.le_of_ble_eq_true rfl) (c_J9_floorDiv_7cf53 (by omega) (by omega)) (ez_kF ?_)
                    have d1 := en_ediv_bd (B := 40000000) (a := 2 * h1 115 i * (t - h1 110 2) + h1 114 i) (b := 2 * h1 114 i) (by omega) (by omega) (by omega)
                    have d2 := en_ediv_bd (B := 40000000) (a := 2 * h1 116 i * (t - h1 110 2) + h1 114 i) (b := 2 * h1 114 i) (by omega) (by omega) (by omega)
                    refine ez_iadd dX5_foretell_138 (by omega) ?_
                    refine ez_ireturn (st := []) dX5_foretell_139 rfl ?_
                    refine cd_Q.in g1 ?_
                    unfold sp_foA
                    rw [sp_dec_t ⟨b_2, by omega, by omega⟩, sp_dec_t (tz.la.1 (by omega)), ← tz.sx, ← tz.sy, ← tz.wx, ← tz.wy, ← tz.ys, ← ty]
                    first | exact absurd c_36 c_63 | exact absurd c_63 c_36 | rw [if_pos (by omega), if_pos (by omega)] | rw [if_neg (by omega), if_neg (by omega)]
                  · refine ez_iload dX5_foretell_105 rfl ?_
                    refine ez_ireturn (st := []) dX5_foretell_107 rfl ?_
                    refine cd_Q.in g1 ?_
                    unfold sp_foA
                    rw [sp_dec_t ⟨b_2, by omega, by omega⟩, sp_dec_f (fun q => absurd (tz.la.2 q) (by omega)), Int.add_zero]
                    first | (rw [if_pos (by omega)]; exact tz.sx) | (rw [if_neg (by omega)]; exact tz.sy)
                · refine ez_aload_n dX5_foretell_66 rfl ?_
                  refine g5_3 dX5_foretell_67 fl_X5_33 ?_
                  refine g4_7 dX5_foretell_70 fl_X5_140 ?_
                  refine ez_iload_n dX5_foretell_73 rfl ?_
                  refine al115 dX5_foretell_74 (by omega) ?_
                  refine ez_goto 87 dX5_foretell_75 (by decide) ?_
                  refine ez_istore dX5_foretell_87 (by decide) ?_
                  refine ez_aload_n dX5_foretell_89 rfl ?_
                  refine g5_3 dX5_foretell_90 fl_X5_33 ?_
                  refine g4_6 dX5_foretell_93 fl_X5_137 ?_
                  refine ez_iload_n dX5_foretell_96 rfl ?_
                  refine al114 dX5_foretell_97 (by omega) ?_
                  refine ez_istore dX5_foretell_98 (by decide) ?_
                  refine ez_iload dX5_foretell_100 rfl ?_
                  refine ez_if_gt 108 dX5_foretell_102 (by decide) (fun c_102 => ?_) (fun c_102 => ?_)
                  · refine ez_iload_n dX5_foretell_108 rfl ?_
                    refine ez_aload_n dX5_foretell_109 rfl ?_
                    refine g5_3 dX5_foretell_110 fl_X5_33 ?_
                    refine g4_2 dX5_foretell_113 fl_X5_177 ?_
                    refine ez_isub dX5_foretell_116 (by omega) ?_
                    refine ez_istore dX5_foretell_117 (by decide) ?_
                    refine ez_iload dX5_foretell_119 rfl ?_
                    refine ez_iconst dX5_foretell_121 (by decide) ?_
                    refine ez_iload dX5_foretell_122 rfl ?_
                    refine ez_imul dX5_foretell_124 (by omega) ?_
                    refine ez_iload dX5_foretell_125 rfl ?_
                    refine ez_imul dX5_foretell_127 (by omega) ?_
                    refine ez_iload dX5_foretell_128 rfl ?_
                    refine ez_iadd dX5_foretell_130 (by omega) ?_
                    refine ez_iconst dX5_foretell_131 (by decide) ?_
                    refine ez_iload dX5_foretell_132 rfl ?_
                    refine ez_imul dX5_foretell_134 (by omega) ?_
                    refine cl_J9_floorDiv_7cf53 dX5_foretell_135 ml_X5_180 ft_X5_foretell__J9_floorDiv_7cf53 (Nat.le_of_ble_eq_true rfl) (c_J9_floorDiv_7cf53 (by omega) (by omega)) (ez_kF ?_)
                    have d1 := en_ediv_bd (B := 40000000) (a := 2 * h1 115 i * (t - h1 110 2) + h1 114 i) (b := 2 * h1 114 i) (by omega) (by omega) (by omega)
                    have d2 := en_ediv_bd (B := 40000000) (a := 2 * h1 116 i * (t - h1 110 2) + h1 114 i) (b := 2 * h1 114 i) (by omega) (by omega) (by omega)
                    refine ez_iadd dX5_foretell_138 (by omega) ?_
                    refine ez_ireturn (st := []) dX5_foretell_139 rfl ?_
                    refine cd_Q.in g1 ?_
                    unfold sp_foA
                    rw [sp_dec_t ⟨b_2, by omega, by omega⟩, sp_dec_t (tz.la.1 (by omega)), ← tz.sx, ← tz.sy, ← tz.wx, ← tz.wy, ← tz.ys, ← ty]
                    first | exact absurd c_36 c_63 | exact absurd c_63 c_36 | rw [if_pos (by omega), if_pos (by omega)] | rw [if_neg (by omega), if_neg (by omega)]
                  · refine ez_iload dX5_foretell_105 rfl ?_
                    refine ez_ireturn (st := []) dX5_foretell_107 rfl ?_
                    refine cd_Q.in g1 ?_
                    unfold sp_foA
                    rw [sp_dec_t ⟨b_2, by omega, by omega⟩, sp_dec_f (fun q => absurd (tz.la.2 q) (by omega)), Int.add_zero]
                    first | (rw [if_pos (by omega)]; exact tz.sx) | (rw [if_neg (by omega)]; exact tz.sy)
              · refine ez_aload_n dX5_foretell_39 rfl ?_
                refine g5_3 dX5_foretell_40 fl_X5_33 ?_
                refine g4_3 dX5_foretell_43 fl_X5_171 ?_
                refine ez_iload_n dX5_foretell_46 rfl ?_
                refine al111 dX5_foretell_47 (by omega) ?_
                refine ez_goto 60 dX5_foretell_48 (by decide) ?_
                refine ez_istore dX5_foretell_60 (by decide) ?_
                refine ez_iload_n dX5_foretell_62 rfl ?_
                refine ez_if_ne 78 dX5_foretell_63 (by decide) (fun c_63 => ?_) (fun c_63 => ?_)
                · refine ez_aload_n dX5_foretell_78 rfl ?_
                  refine g5_3 dX5_foretell_79 fl_X5_33 ?_
                  refine g4_8 dX5_foretell_82 fl_X5_143 ?_
                  refine ez_iload_n dX5_foretell_85 rfl ?_
                  refine al116 dX5_foretell_86 (by omega) ?_
                  refine ez_istore dX5_foretell_87 (by decide) ?_
                  refine ez_aload_n dX5_foretell_89 rfl ?_
                  refine g5_3 dX5_foretell_90 fl_X5_33 ?_
                  refine g4_6 dX5_foretell_93 fl_X5_137 ?_
                  refine ez_iload_n dX5_foretell_96 rfl ?_
                  refine al114 dX5_foretell_97 (by omega) ?_
                  refine ez_istore dX5_foretell_98 (by decide) ?_
                  refine ez_iload dX5_foretell_100 rfl ?_
                  refine ez_if_gt 108 dX5_foretell_102 (by decide) (fun c_102 => ?_) (fun c_102 => ?_)
                  · refine ez_iload_n dX5_foretell_108 rfl ?_
                    refine ez_aload_n dX5_foretell_109 rfl ?_
                    refine g5_3 dX5_foretell_110 fl_X5_33 ?_
                    refine g4_2 dX5_foretell_113 fl_X5_177 ?_
                    refine ez_isub dX5_foretell_116 (by omega) ?_
                    refine ez_istore dX5_foretell_117 (by decide) ?_
                    refine ez_iload dX5_foretell_119 rfl ?_
                    refine ez_iconst dX5_foretell_121 (by decide) ?_
                    refine ez_iload dX5_foretell_122 rfl ?_
                    refine ez_imul dX5_foretell_124 (by omega) ?_
                    refine ez_iload dX5_foretell_125 rfl ?_
                    refine ez_imul dX5_foretell_127 (by omega) ?_
                    refine ez_iload dX5_foretell_128 rfl ?_
                    refine ez_iadd dX5_foretell_130 (by omega) ?_
                    refine ez_iconst dX5_foretell_131 (by decide) ?_
                    refine ez_iload dX5_foretell_132 rfl ?_
                    refine ez_imul dX5_foretell_134 (by omega) ?_
                    refine cl_J9_floorDiv_7cf53 dX5_foretell_135 ml_X5_180 ft_X5_foretell__J9_floorDiv_7cf53 (Nat.le_of_ble_eq_true rfl) (c_J9_floorDiv_7cf53 (by omega) (by omega)) (ez_kF ?_)
                    have d1 := en_ediv_bd (B := 40000000) (a := 2 * h1 115 i * (t - h1 110 2) + h1 114 i) (b := 2 * h1 114 i) (by omega) (by omega) (by omega)
                    have d2 := en_ediv_bd (B := 40000000) (a := 2 * h1 116 i * (t - h1 110 2) + h1 114 i) (b := 2 * h1 114 i) (by omega) (by omega) (by omega)
                    refine ez_iadd dX5_foretell_138 (by omega) ?_
                    refine ez_ireturn (st := []) dX5_foretell_139 rfl ?_
                    refine cd_Q.in g1 ?_
                    unfold sp_foA
                    rw [sp_dec_t ⟨b_2, by omega, by omega⟩, sp_dec_t (tz.la.1 (by omega)), ← tz.sx, ← tz.sy, ← tz.wx, ← tz.wy, ← tz.ys, ← ty]
                    first | exact absurd c_36 c_63 | exact absurd c_63 c_36 | rw [if_pos (by omega), if_pos (by omega)] | rw [if_neg (by omega), if_neg (by omega)]
                  · refine ez_iload dX5_foretell_105 rfl ?_
                    refine ez_ireturn (st := []) dX5_foretell_107 rfl ?_
                    refine cd_Q.in g1 ?_
                    unfold sp_foA
                    rw [sp_dec_t ⟨b_2, by omega, by omega⟩, sp_dec_f (fun q => absurd (tz.la.2 q) (by omega)), Int.add_zero]
                    first | (rw [if_pos (by omega)]; exact tz.sx) | (rw [if_neg (by omega)]; exact tz.sy)
                · refine ez_aload_n dX5_foretell_66 rfl ?_
                  refine g5_3 dX5_foretell_67 fl_X5_33 ?_
                  refine g4_7 dX5_foretell_70 fl_X5_140 ?_
                  refine ez_iload_n dX5_foretell_73 rfl ?_
                  refine al115 dX5_foretell_74 (by omega) ?_
                  refine ez_goto 87 dX5_foretell_75 (by decide) ?_
                  refine ez_istore dX5_foretell_87 (by decide) ?_
                  refine ez_aload_n dX5_foretell_89 rfl ?_
                  refine g5_3 dX5_foretell_90 fl_X5_33 ?_
                  refine g4_6 dX5_foretell_93 fl_X5_137 ?_
                  refine ez_iload_n dX5_foretell_96 rfl ?_
                  refine al114 dX5_foretell_97 (by omega) ?_
                  refine ez_istore dX5_foretell_98 (by decide) ?_
                  refine ez_iload dX5_foretell_100 rfl ?_
                  refine ez_if_gt 108 dX5_foretell_102 (by decide) (fun c_102 => ?_) (fun c_102 => ?_)
                  · refine ez_iload_n dX5_foretell_108 rfl ?_
                    refine ez_aload_n dX5_foretell_109 rfl ?_
                    refine g5_3 dX5_foretell_110 fl_X5_33 ?_
                    refine g4_2 dX5_foretell_113 fl_X5_177 ?_
                    refine ez_isub dX5_foretell_116 (by omega) ?_
                    refine ez_istore dX5_foretell_117 (by decide) ?_
                    refine ez_iload dX5_foretell_119 rfl ?_
                    refine ez_iconst dX5_foretell_121 (by decide) ?_
                    refine ez_iload dX5_foretell_122 rfl ?_
                    refine ez_imul dX5_foretell_124 (by omega) ?_
                    refine ez_iload dX5_foretell_125 rfl ?_
                    refine ez_imul dX5_foretell_127 (by omega) ?_
                    refine ez_iload dX5_foretell_128 rfl ?_
                    refine ez_iadd dX5_foretell_130 (by omega) ?_
                    refine ez_iconst dX5_foretell_131 (by decide) ?_
                    refine ez_iload dX5_foretell_132 rfl ?_
                    refine ez_imul dX5_foretell_134 (by omega) ?_
                    refine cl_J9_floorDiv_7cf53 dX5_foretell_135 ml_X5_180 ft_X5_foretell__J9_floorDiv_7cf53 (Nat.le_of_ble_eq_true rfl) (c_J9_floorDiv_7cf53 (by omega) (by omega)) (ez_kF ?_)
                    have d1 := en_ediv_bd (B := 40000000) (a := 2 * h1 115 i * (t - h1 110 2) + h1 114 i) (b := 2 * h1 114 i) (by omega) (by omega) (by omega)
                    have d2 := en_ediv_bd (B := 40000000) (a := 2 * h1 116 i * (t - h1 110 2) + h1 114 i) (b := 2 * h1 114 i) (by omega) (by omega) (by omega)
                    refine ez_iadd dX5_foretell_138 (by omega) ?_
                    refine ez_ireturn (st := []) dX5_foretell_139 rfl ?_
                    refine cd_Q.in g1 ?_
                    unfold sp_foA
                    rw [sp_dec_t ⟨b_2, by omega, by omega⟩, sp_dec_t (tz.la.1 (by omega)), ← tz.sx, ← tz.sy, ← tz.wx, ← tz.wy, ← tz.ys, ← ty]
                    first | exact absurd c_36 c_63 | exact absurd c_63 c_36 | rw [if_pos (by omega), if_pos (by omega)] | rw [if_neg (by omega), if_neg (by omega)]
                  · refine ez_iload dX5_foretell_105 rfl ?_
                    refine ez_ireturn (st := []) dX5_foretell_107 rfl ?_
                    refine cd_Q.in g1 ?_
                    unfold sp_foA
                    rw [sp_dec_t ⟨b_2, by omega, by omega⟩, sp_dec_f (fun q => absurd (tz.la.2 q) (by omega)), Int.add_zero]
                    first | (rw [if_pos (by omega)]; exact tz.sx) | (rw [if_neg (by omega)]; exact tz.sy)
            · refine ez_ldc (-100000) dX5_foretell_28 cn_X5_170 rfl (by decide) ?_
              refine ez_ireturn (st := []) dX5_foretell_30 rfl ?_
              first
               | exact cd_Q.in (cd_g.rf v) (sp_dec_f (fun q => b_2 q.1)).symm
               | exact cd_Q.in (cd_g.rf v) (sp_dec_f (fun q => absurd q.2 (by omega))).symm
  · refine ez_if_eq 28 dX5_foretell_5 (by decide) (fun c_5 => ?_) (fun c_5 => ?_)
    · refine ez_ldc (-100000) dX5_foretell_28 cn_X5_170 rfl (by decide) ?_
      refine ez_ireturn (st := []) dX5_foretell_30 rfl ?_
      first
       | exact cd_Q.in (cd_g.rf v) (sp_dec_f (fun q => b_2 q.1)).symm
       | exact cd_Q.in (cd_g.rf v) (sp_dec_f (fun q => absurd q.2 (by omega))).symm
    · exact absurd c_5 (by decide)
