/-! a sum f 0 + .. + f (n - 1) -/
def sm_ (f : Int → Int) : Nat → Int
  | 0 => 0
  | n + 1 => sm_ f n + f n
theorem sm_cong {f g : Int → Int} : ∀ n : Nat, (∀ k : Int, 0 ≤ k → k < n → f k = g k) → sm_ f n = sm_ g n
  | 0, _ => rfl
  | n + 1, h => by
    unfold sm_
    rw [sm_cong n (fun k k0 k1 => h k k0 (by omega)), h n (by omega) (by omega)]
theorem sm_le {f g : Int → Int} : ∀ n : Nat, (∀ k : Int, 0 ≤ k → k < n → f k ≤ g k) → sm_ f n ≤ sm_ g n
  | 0, _ => Int.le_refl _
  | n + 1, h => by
    have a := sm_le n (fun k k0 k1 => h k k0 (by omega))
    have b := h n (by omega) (by omega)
    unfold sm_
    omega
theorem sm_add {f g : Int → Int} : ∀ n : Nat, sm_ (fun k => f k + g k) n = sm_ f n + sm_ g n
  | 0 => rfl
  | n + 1 => by
    unfold sm_
    rw [sm_add n]
    omega
theorem sm_0 {f : Int → Int} : ∀ n : Nat, (∀ k : Int, 0 ≤ k → k < n → f k = 0) → sm_ f n = 0
  | 0, _ => rfl
  | n + 1, h => by
    unfold sm_
    rw [sm_0 n (fun k k0 k1 => h k k0 (by omega)), h n (by omega) (by omega)]
    rfl
theorem sm_set {f g : Int → Int} {c : Int} (c0 : 0 ≤ c) (he : ∀ k : Int, k ≠ c → g k = f k) : ∀ n : Nat, c < n → sm_ g n = sm_ f n - f c + g c
  | 0, h => by omega
  | n + 1, h => by
    unfold sm_
    by_cases e : c = n
    · rw [sm_cong (f := g) (g := f) n (fun k k0 k1 => he k (by omega)), ← e]
      omega
    · rw [sm_set c0 he n (by omega), he n (by omega)]
      omega
/-! what the Matcher reads off its columns -/
def mt_R (h h' : ez_H) (R c : Int) : Prop :=
  (∀ o k : Int, o ≠ 102 → ¬ (o = 101 ∧ (k = 0 ∨ k = 1)) → h' o k = h o k) ∧
  (∀ k : Int, 1 ≤ k → k < c → h 107 k ≠ 0 → h 99 (8 * (h 107 k - 1) + (k - 1)) ≤ R → h' 102 (h 107 k - 1) = k - 1) ∧
  (∀ j : Int, 0 ≤ j → j < 8 → (∀ k : Int, 1 ≤ k → k < c → h 107 k = j + 1 → R < h 99 (8 * j + (k - 1))) → h' 102 j = -1) ∧
  h' 101 0 = sm_ (fun j => if h' 102 j = -1 then 0 else 1) 8 ∧ h' 101 1 = sm_ (fun j => if h' 102 j = -1 then 0 else h 99 (8 * j + h' 102 j)) 8 ∧
  (0 ≤ h' 101 0 ∧ h' 101 0 < c) ∧ (0 ≤ h' 101 1 ∧ h' 101 1 ≤ 50 * (c - 1))
theorem mt_R.take {h h' : ez_H} {R c r : Int} (m : mt_R h h' R c) (hc : 1 ≤ c) (hr : h 107 c = r) (r1 : 1 ≤ r ∧ r ≤ 8) (hR : R ≤ 50) (hi : ∀ k : Int, 1 ≤ k → k < c → h 107 k ≠ r) (f0 : 0 ≤ h 99 (8 * (r - 1) + (c - 1))) (fr : h 99 (8 * (r - 1) + (c - 1)) ≤ R) {h2 : ez_H}
    (e : ∀ o k : Int, ¬ (o = 102 ∧ k = r - 1) → ¬ (o = 101 ∧ (k = 0 ∨ k = 1)) → h2 o k = h' o k) (e2 : h2 102 (r - 1) = c - 1) (e0 : h2 101 0 = h' 101 0 + 1) (e1 : h2 101 1 = h' 101 1 + h 99 (8 * (r - 1) + (c - 1))) : mt_R h h2 R (c + 1) := by
  obtain ⟨m1, m2, m3, m4, m5, m6, m7⟩ := m
  have old : h' 102 (r - 1) = -1 := m3 (r - 1) (by omega) (by omega) (fun k k0 k1 k2 => absurd k2 (by have := hi k k0 k1; omega))
  refine ⟨fun o k o1 o2 => (e o k (by omega) o2).trans (m1 o k o1 o2), fun k k0 k1 k2 k3 => ?_, fun j j0 j1 hj => ?_, ?_, ?_, by omega, by omega⟩
  · by_cases q : k = c
    · rw [q, hr, e2]
    · have ne := hi k k0 (by omega)
      rw [e 102 _ (by omega) (by omega)]
      exact m2 k k0 (by omega) k2 k3
  · have ne : j ≠ r - 1 := fun q => by
      have := hj c hc (by omega) (by omega)
      rw [q] at this
      omega
    rw [e 102 _ (by omega) (by omega)]
    exact m3 j j0 j1 (fun k k0 k1 k2 => hj k k0 (by omega) k2)
  · rw [e0, m4, sm_set (f := fun j => if h' 102 j = -1 then 0 else 1) (g := fun j => if h2 102 j = -1 then 0 else 1) (c := r - 1) (by omega) (fun k hk => by rw [e 102 k (by omega) (by omega)]) 8 (by omega)]
    rw [if_pos old, e2, if_neg (by omega)]
    omega
  · rw [e1, m5, sm_set (f := fun j => if h' 102 j = -1 then 0 else h 99 (8 * j + h' 102 j)) (g := fun j => if h2 102 j = -1 then 0 else h 99 (8 * j + h2 102 j)) (c := r - 1) (by omega) (fun k hk => by rw [e 102 k (by omega) (by omega)]) 8 (by omega)]
    rw [if_pos old, e2, if_neg (by omega)]
    omega
theorem mt_R.pass {h h' : ez_H} {R c : Int} (m : mt_R h h' R c) (hp : h 107 c = 0 ∨ R < h 99 (8 * (h 107 c - 1) + (c - 1))) : mt_R h h' R (c + 1) := by
  obtain ⟨m1, m2, m3, m4, m5, m6, m7⟩ := m
  refine ⟨m1, fun k k0 k1 k2 k3 => ?_, fun j j0 j1 hj => m3 j j0 j1 (fun k k0 k1 k2 => hj k k0 (by omega) k2), m4, m5, by omega, by omega⟩
  by_cases q : k = c
  · rw [q] at k2 k3
    omega
  · exact m2 k k0 (by omega) k2 k3

theorem lp_r1 {w m R N row : Int} {h : ez_H} (HW : mt_W h N w m R) (A : mt_A h w row) (hrow : row ≤ 9) : ∀ (n : Nat) (c : Int) (h' : ez_H), (1 ≤ c) → (c ≤ m + 1) → (mt_R h h' R c) → m + 1 - c < n → ez_En M_X2_readPairs 21 [ez_R 101, ez_R 99, ez_I m, ez_I R, ez_I c, ez_N, ez_N] [] h' (ez_PV (fun h' => mt_R h h' R (m + 1))) := by
  intro n
  induction n with
  | zero =>
    intro c h' c0 c1 m1 hm
    exfalso
    omega
  | succ n ih =>
    intro c h' c0 c1 m1 hm
    obtain ⟨h1, h2, h3, h4, h5⟩ := id HW
    refine ez_iload dX2_readPairs_21 rfl ?_
    refine ez_iload_n dX2_readPairs_23 rfl ?_
    refine ez_ic_gt 106 dX2_readPairs_24 (by decide) (fun c_24 => ?_) (fun c_24 => ?_)
    · refine ez_vreturn (st := []) dX2_readPairs_106 rfl ?_
      exact ez_PV.in (by rw [show m + 1 = c by omega]; exact m1)
    · have ar := A.r c (by omega) (by omega)
      have e7 := m1.1 107 c (by decide) (by omega)
      refine ez_aload_n dX2_readPairs_27 rfl ?_
      refine g2_7 dX2_readPairs_28 fl_X2_28 ?_
      refine ez_iload dX2_readPairs_31 rfl ?_
      refine al107 dX2_readPairs_33 (by omega) ?_
      refine ez_istore dX2_readPairs_34 (by decide) ?_
      refine ez_iload dX2_readPairs_36 rfl ?_
      refine ez_if_ne 44 dX2_readPairs_38 (by decide) (fun c_38 => ?_) (fun c_38 => ?_)
      · have e9 := m1.1 99 ((h' 107 c - 1) * 8 + c - 1) (by decide) (by omega)
        have fi := h5 ((h' 107 c - 1) * 8 + c - 1) (by omega) (by omega)
        refine ez_aload_n dX2_readPairs_44 rfl ?_
        refine ez_iload dX2_readPairs_45 rfl ?_
        refine ez_iconst dX2_readPairs_47 (by decide) ?_
        refine ez_isub dX2_readPairs_48 (by omega) ?_
        refine ez_bipush dX2_readPairs_49 (by decide) (by decide) ?_
        refine ez_imul dX2_readPairs_51 (by omega) ?_
        refine ez_iload dX2_readPairs_52 rfl ?_
        refine ez_iadd dX2_readPairs_54 (by omega) ?_
        refine ez_iconst dX2_readPairs_55 (by decide) ?_
        refine ez_isub dX2_readPairs_56 (by omega) ?_
        refine al99 dX2_readPairs_57 (by omega) ?_
        refine ez_istore dX2_readPairs_58 (by decide) ?_
        refine ez_iload dX2_readPairs_60 rfl ?_
        refine ez_iload_n dX2_readPairs_62 rfl ?_
        refine ez_ic_gt 100 dX2_readPairs_63 (by decide) (fun c_63 => ?_) (fun c_63 => ?_)
        · have n1 := m1.pass (Or.inr (by rw [← e7, show 8 * (h' 107 c - 1) + (c - 1) = (h' 107 c - 1) * 8 + c - 1 by omega, ← e9]; omega))
          refine ez_iinc dX2_readPairs_100 rfl (by decide) (by decide) (by omega) ?_
          refine ez_goto 21 dX2_readPairs_103 (by decide) ?_
          refine ez_lessS (L' := [ez_R 101, ez_R 99, ez_I m, ez_I R, ez_I (c + 1), ez_N, ez_N]) ⟨Or.inr rfl, Or.inr rfl, Or.inr rfl, Or.inr rfl, Or.inr rfl, Or.inl rfl, Or.inl rfl, trivial⟩ ?_
          exact ih (c + 1) _ (by omega) (by omega) n1 (by omega)
        · have fr : h 99 (8 * (h' 107 c - 1) + (c - 1)) ≤ R := by
            rw [show 8 * (h' 107 c - 1) + (c - 1) = (h' 107 c - 1) * 8 + c - 1 by omega, ← e9]
            omega
          have n1 : mt_R h (ez_up (ez_up (ez_up h' 102 (h' 107 c - 1) (c - 1)) 101 0 (h' 101 0 + 1)) 101 1 (h' 101 1 + h' 99 ((h' 107 c - 1) * 8 + c - 1))) R (c + 1) := by
            refine m1.take (by omega) e7.symm (by omega) (by omega) (fun k k0 k1 k2 => ?_) ?_ fr (fun o k o1 o2 => ?_) ?_ ?_ ?_
            · have := A.i k c k0 (by omega) (by omega) (by omega) (by omega) (by omega)
              omega
            · rw [show 8 * (h' 107 c - 1) + (c - 1) = (h' 107 c - 1) * 8 + c - 1 by omega]
              exact fi
            · rw [ez_up_ne (by omega), ez_up_ne (by omega), ez_up_ne (by omega)]
            · rw [ez_up_ne (by omega), ez_up_ne (by omega), ez_up_eq]
            · rw [ez_up_ne (by omega), ez_up_eq]
            · rw [ez_up_eq, e9, show 8 * (h' 107 c - 1) + (c - 1) = (h' 107 c - 1) * 8 + c - 1 by omega]
          have v0 : ez_up h' 102 (h' 107 c - 1) (c - 1) 101 0 = h' 101 0 := ez_up_ne (by omega)
          have v1 : ∀ z : Int, ez_up (ez_up h' 102 (h' 107 c - 1) (c - 1)) 101 0 z 101 1 = h' 101 1 := fun z => (ez_up_ne (by omega)).trans (ez_up_ne (by omega))
          have bb := m1.2.2.2.2.2
          have bb := m1.2.2.2.2.2
          refine ez_aload_n dX2_readPairs_66 rfl ?_
          refine g2_2 dX2_readPairs_67 fl_X2_9 ?_
          refine ez_iload dX2_readPairs_70 rfl ?_
          refine ez_iconst dX2_readPairs_72 (by decide) ?_
          refine ez_isub dX2_readPairs_73 (by omega) ?_
          refine ez_iload dX2_readPairs_74 rfl ?_
          refine ez_iconst dX2_readPairs_76 (by decide) ?_
          refine ez_isub dX2_readPairs_77 (by omega) ?_
          refine as102 dX2_readPairs_78 (by omega) ?_
          refine ez_aload_n dX2_readPairs_79 rfl ?_
          refine ez_dup dX2_readPairs_80 rfl ?_
          refine g2_0 dX2_readPairs_81 fl_X2_78 ?_
          refine ez_iconst dX2_readPairs_84 (by decide) ?_
          refine ez_iadd dX2_readPairs_85 (by rw [v0]; omega) ?_
          rw [v0]
          refine p2_0 dX2_readPairs_86 fl_X2_78 ?_
          refine ez_aload_n dX2_readPairs_89 rfl ?_
          refine ez_dup dX2_readPairs_90 rfl ?_
          refine g2_1 dX2_readPairs_91 fl_X2_82 ?_
          refine ez_iload dX2_readPairs_94 rfl ?_
          refine ez_iadd dX2_readPairs_96 (by rw [v1]; omega) ?_
          rw [v1]
          refine p2_1 dX2_readPairs_97 fl_X2_82 ?_
          refine ez_iinc dX2_readPairs_100 rfl (by decide) (by decide) (by omega) ?_
          refine ez_goto 21 dX2_readPairs_103 (by decide) ?_
          refine ez_lessS (L' := [ez_R 101, ez_R 99, ez_I m, ez_I R, ez_I (c + 1), ez_N, ez_N]) ⟨Or.inr rfl, Or.inr rfl, Or.inr rfl, Or.inr rfl, Or.inr rfl, Or.inl rfl, Or.inl rfl, trivial⟩ ?_
          exact ih (c + 1) _ (by omega) (by omega) n1 (by omega)
      · have n1 := m1.pass (Or.inl (by rw [← e7]; exact c_38))
        refine ez_goto 100 dX2_readPairs_41 (by decide) ?_
        refine ez_iinc dX2_readPairs_100 rfl (by decide) (by decide) (by omega) ?_
        refine ez_goto 21 dX2_readPairs_103 (by decide) ?_
        refine ez_lessS (L' := [ez_R 101, ez_R 99, ez_I m, ez_I R, ez_I (c + 1), ez_N, ez_N]) ⟨Or.inr rfl, Or.inr rfl, Or.inr rfl, Or.inr rfl, Or.inr rfl, Or.inl rfl, Or.inl rfl, trivial⟩ ?_
        exact ih (c + 1) _ (by omega) (by omega) n1 (by omega)
theorem c_X2_readPairs {w m R N row : Int} {h : ez_H} (HW : mt_W h N w m R) (A : mt_A h w row) (hrow : row ≤ 9) : ez_Ct M_X2_readPairs [ez_R 101, ez_R 99, ez_I m, ez_I R] h (ez_PV (fun h' => mt_R h h' R (m + 1))) := by
  refine ez_of (by decide) (Nat.le_of_ble_eq_true rfl) (L0 := [ez_R 101, ez_R 99, ez_I m, ez_I R, ez_N, ez_N, ez_N]) rfl ?_
  refine ez_aload_n dX2_readPairs_0 rfl ?_
  refine g2_2 dX2_readPairs_1 fl_X2_9 ?_
  refine ez_iconst dX2_readPairs_4 (by decide) ?_
  refine cl_J7_fill_53178 dX2_readPairs_5 ml_X2_54 ft_X2_readPairs__J7_fill_53178 (Nat.le_of_ble_eq_true rfl) (c_J7_fill_53178 (by decide) rfl (by decide)) (ez_kS ?_)
  refine ez_aload_n dX2_readPairs_8 rfl ?_
  refine ez_iconst dX2_readPairs_9 (by decide) ?_
  refine p2_0 dX2_readPairs_10 fl_X2_78 ?_
  refine ez_aload_n dX2_readPairs_13 rfl ?_
  refine ez_iconst dX2_readPairs_14 (by decide) ?_
  refine p2_1 dX2_readPairs_15 fl_X2_82 ?_
  refine ez_iconst dX2_readPairs_18 (by decide) ?_
  refine ez_istore dX2_readPairs_19 (by decide) ?_
  have e2 : ∀ j : Int, 0 ≤ j → j < 8 → (ez_up (ez_up (ez_fill h 102 (ez_len 102) (-1)) 101 0 0) 101 1 0) 102 j = -1 := fun j j0 j1 => by
    rw [ez_up_ne (by omega), ez_up_ne (by omega)]
    unfold ez_fill
    rw [if_pos ⟨rfl, j0, j1⟩]
  have k := lp_r1 HW A hrow (m + 1).toNat 1 (ez_up (ez_up (ez_fill h 102 (ez_len 102) (-1)) 101 0 0) 101 1 0) (by omega) (by have := HW.2.2.1; omega) ⟨fun o k o1 o2 => ?_, fun k k0 k1 => by omega, fun j j0 j1 _ => e2 j j0 j1, ?_, ?_, ?_, ?_⟩ (by have := HW.2.2.1; omega)
  · exact k
  · rw [ez_up_ne (by omega), ez_up_ne (by omega)]
    unfold ez_fill
    rw [if_neg (by omega)]
  · rw [ez_up_ne (by omega), ez_up_eq, sm_0]
    intro k k0 k1
    rw [if_pos (e2 k k0 k1)]
  · rw [ez_up_eq, sm_0]
    intro k k0 k1
    rw [if_pos (e2 k k0 k1)]
  · rw [ez_up_ne (by omega), ez_up_eq]
    omega
  · rw [ez_up_eq]
    omega
