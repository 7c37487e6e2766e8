/-! the class's Matcher: one step of the way to a free column. Rows: cost 103, u 104, v 105, gap 106, rowOf 107, cameFrom 108, passed 109 -/
def mt_red (h : ez_H) (r k : Int) : Int := h 103 (9 * r + k) - h 104 r - h 105 k
def mt_G (h : ez_H) (r k : Int) : Int := if mt_red h r k < h 106 k then mt_red h r k else h 106 k
/-- numbers that fit -/
def mt_B (h : ez_H) (w n : Int) : Prop := (1 ≤ w ∧ w ≤ 8 ∧ n ≤ 8) ∧ (∀ k : Int, 0 ≤ k → k ≤ 8 → (-1000000000000 ≤ h 104 k ∧ h 104 k ≤ 1000000000000) ∧ (-1000000000000 ≤ h 105 k ∧ h 105 k ≤ 1000000000000)) ∧ (∀ k : Int, 1 ≤ k → k ≤ w → h 109 k = 0 → -10000000000000 ≤ h 106 k ∧ h 106 k ≤ 1152921504606846976) ∧ ∀ r k : Int, 1 ≤ r → r ≤ n → 1 ≤ k → k ≤ w → 0 ≤ h 103 (9 * r + k) ∧ h 103 (9 * r + k) ≤ 100000000000
theorem mt_B.red {h : ez_H} {w n r k : Int} (B : mt_B h w n) (hr : 1 ≤ r ∧ r ≤ n) (hk : 1 ≤ k ∧ k ≤ w) : -3000000000000 ≤ mt_red h r k ∧ mt_red h r k ≤ 3000000000000 := by
  have b1 := B.1
  have b2 := B.2.1 r (by omega) (by omega)
  have b3 := B.2.1 k (by omega) (by omega)
  have b4 := B.2.2.2 r k hr.1 hr.2 hk.1 hk.2
  unfold mt_red
  omega
/-- the first pass: gaps and whence, up to column c -/
def mt_1 (h h' : ez_H) (at_ r c ls nx : Int) : Prop :=
  (∀ o k : Int, ¬ ((o = 106 ∨ o = 108) ∧ 1 ≤ k ∧ k < c ∧ h 109 k = 0) → h' o k = h o k) ∧
  (∀ k : Int, 1 ≤ k → k < c → h 109 k = 0 → h' 106 k = mt_G h r k ∧ h' 108 k = (if mt_red h r k < h 106 k then at_ else h 108 k) ∧ ls ≤ mt_G h r k) ∧
  ((ls = 1152921504606846976 ∧ nx = 0) ∨ ((1 ≤ nx ∧ nx < c) ∧ h 109 nx = 0 ∧ ls = mt_G h r nx ∧ ls < 1152921504606846976)) ∧ ls ≤ 1152921504606846976
theorem lp_a1 {at_ w n r : Int} {h : ez_H} {Q : ez_H → Option ez_V → Prop} (B : mt_B h w n) (hr : 1 ≤ r ∧ r ≤ n) (kx : ∀ h' ls nx, mt_1 h h' at_ r (w + 1) ls nx → ez_En M_X2_advance 135 [ez_R 101, ez_I at_, ez_I w, ez_I r, ez_L ls, ez_N, ez_I nx, ez_N, ez_N, ez_N] [] h' Q) : ∀ (n : Nat) (c : Int) (ls : Int) (nx : Int) (h' : ez_H), (1 ≤ c) → (c ≤ w + 1) → (mt_1 h h' at_ r c ls nx) → w + 1 - c < n → ez_En M_X2_advance 25 [ez_R 101, ez_I at_, ez_I w, ez_I r, ez_L ls, ez_N, ez_I nx, ez_I c, ez_N, ez_N] [] h' Q := by
  intro n
  induction n with
  | zero =>
    intro c ls nx h' c0 c1 m1 hm
    exfalso
    omega
  | succ n ih =>
    intro c ls nx h' c0 c1 m1 hm
    have bw := B.1
    have hls := m1.2.2.2
    refine ez_iload dX2_advance_25 rfl ?_
    refine ez_iload_n dX2_advance_27 rfl ?_
    refine ez_ic_gt 135 dX2_advance_28 (by decide) (fun c_28 => ?_) (fun c_28 => ?_)
    · refine ez_lessS (L' := [ez_R 101, ez_I at_, ez_I w, ez_I r, ez_L ls, ez_N, ez_I nx, ez_N, ez_N, ez_N]) ⟨Or.inr rfl, Or.inr rfl, Or.inr rfl, Or.inr rfl, Or.inr rfl, Or.inl rfl, Or.inr rfl, Or.inl rfl, Or.inl rfl, Or.inl rfl, trivial⟩ ?_
      exact kx h' ls nx (by rw [show w + 1 = c by omega]; exact m1)
    · have a9 := m1.1 109 c (by omega)
      refine ez_aload_n dX2_advance_31 rfl ?_
      refine g2_9 dX2_advance_32 fl_X2_34 ?_
      refine ez_iload dX2_advance_35 rfl ?_
      refine al109 dX2_advance_37 (by omega) ?_
      refine ez_if_eq 44 dX2_advance_38 (by decide) (fun c_38 => ?_) (fun c_38 => ?_)
      · have a3 := m1.1 103 (r * 9 + c) (by omega)
        have a4 := m1.1 104 r (by omega)
        have a5 := m1.1 105 c (by omega)
        have a6 := m1.1 106 c (by omega)
        have a8 := m1.1 108 c (by omega)
        have er : h' 103 (r * 9 + c) - h' 104 r - h' 105 c = mt_red h r c := by unfold mt_red; rw [a3, a4, a5, show r * 9 + c = 9 * r + c by omega]
        have br := B.red hr (k := c) (by omega)
        have b2 := B.2.1 c (by omega) (by omega)
        have b3 := B.2.1 r (by omega) (by omega)
        have b4 := B.2.2.2 r c hr.1 hr.2 (by omega) (by omega)
        rw [show 9 * r + c = r * 9 + c by omega] at b4
        have hp0 : h 109 c = 0 := by rw [← a9]; exact c_38
        have b6 := B.2.2.1 c (by omega) (by omega) hp0
        refine ez_aload_n dX2_advance_44 rfl ?_
        refine g2_3 dX2_advance_45 fl_X2_15 ?_
        refine ez_iload_n dX2_advance_48 rfl ?_
        refine ez_bipush dX2_advance_49 (by decide) (by decide) ?_
        refine ez_imul dX2_advance_51 (by omega) ?_
        refine ez_iload dX2_advance_52 rfl ?_
        refine ez_iadd dX2_advance_54 (by omega) ?_
        refine al103 dX2_advance_55 (by omega) ?_
        refine ez_aload_n dX2_advance_56 rfl ?_
        refine g2_4 dX2_advance_57 fl_X2_19 ?_
        refine ez_iload_n dX2_advance_60 rfl ?_
        refine al104 dX2_advance_61 (by omega) ?_
        refine ez_lsub dX2_advance_62 (by omega) ?_
        refine ez_aload_n dX2_advance_63 rfl ?_
        refine g2_5 dX2_advance_64 fl_X2_22 ?_
        refine ez_iload dX2_advance_67 rfl ?_
        refine al105 dX2_advance_69 (by omega) ?_
        refine ez_lsub dX2_advance_70 (by omega) ?_
        refine ez_lstore dX2_advance_71 (by decide) ?_
        refine ez_lload dX2_advance_73 rfl ?_
        refine ez_aload_n dX2_advance_75 rfl ?_
        refine g2_6 dX2_advance_76 fl_X2_25 ?_
        refine ez_iload dX2_advance_79 rfl ?_
        refine al106 dX2_advance_81 (by omega) ?_
        refine ez_lcmp dX2_advance_82 (fun z_82 hz_82 => ?_)
        refine ez_if_ge 103 dX2_advance_83 (by decide) (fun c_83 => ?_) (fun c_83 => ?_)
        · have hge : ¬ mt_red h r c < h 106 c := by rw [← er, ← a6]; omega
          have hG : mt_G h r c = h 106 c := if_neg (by omega)
          have n0 : (∀ o k : Int, ¬ ((o = 106 ∨ o = 108) ∧ 1 ≤ k ∧ k < c + 1 ∧ h 109 k = 0) → h' o k = h o k) ∧ (∀ k : Int, 1 ≤ k → k < c + 1 → h 109 k = 0 → h' 106 k = mt_G h r k ∧ h' 108 k = (if mt_red h r k < h 106 k then at_ else h 108 k)) := by
            refine ⟨fun o k hk => m1.1 o k (fun q => hk ⟨q.1, q.2.1, by omega, q.2.2.2⟩), fun k k0 k1 k2 => ?_⟩
            by_cases e : k = c
            · subst e
              rw [a6, a8, if_neg (by omega), hG]
              exact ⟨rfl, rfl⟩
            · have d := m1.2.1 k k0 (by omega) k2
              exact ⟨d.1, d.2.1⟩
          have hg2 : h' 106 c = mt_G h r c := (n0.2 c (by omega) (by omega) hp0).1
          refine ez_aload_n dX2_advance_103 rfl ?_
          refine g2_6 dX2_advance_104 fl_X2_25 ?_
          refine ez_iload dX2_advance_107 rfl ?_
          refine al106 dX2_advance_109 (by omega) ?_
          refine ez_lload dX2_advance_110 rfl ?_
          refine ez_lcmp dX2_advance_112 (fun z_112 hz_112 => ?_)
          refine ez_if_ge 129 dX2_advance_113 (by decide) (fun c_113 => ?_) (fun c_113 => ?_)
          · have n1 : mt_1 h _ at_ r (c + 1) ls nx := ⟨n0.1, fun k k0 k1 k2 => ⟨(n0.2 k k0 k1 k2).1, (n0.2 k k0 k1 k2).2, by
                by_cases e : k = c
                · rw [e]
                  omega
                · exact (m1.2.1 k k0 (by omega) k2).2.2⟩, by
                rcases m1.2.2.1 with q | q
                · exact Or.inl q
                · exact Or.inr ⟨by omega, q.2⟩, m1.2.2.2⟩
            refine ez_iinc dX2_advance_129 rfl (by decide) (by decide) (by omega) ?_
            refine ez_goto 25 dX2_advance_132 (by decide) ?_
            refine ez_lessS (L' := [ez_R 101, ez_I at_, ez_I w, ez_I r, ez_L _, ez_N, ez_I _, ez_I (c + 1), ez_N, ez_N]) ⟨Or.inr rfl, Or.inr rfl, Or.inr rfl, Or.inr rfl, Or.inr rfl, Or.inl rfl, Or.inr rfl, Or.inr rfl, Or.inl rfl, Or.inl rfl, trivial⟩ ?_
            exact ih (c + 1) _ _ _ (by omega) (by omega) n1 (by omega)
          · have n1 : mt_1 h _ at_ r (c + 1) _ c := ⟨n0.1, fun k k0 k1 k2 => ⟨(n0.2 k k0 k1 k2).1, (n0.2 k k0 k1 k2).2, by
                by_cases e : k = c
                · rw [e]
                  exact Int.le_of_eq hg2
                · have := (m1.2.1 k k0 (by omega) k2).2.2
                  omega⟩, Or.inr ⟨by omega, hp0, hg2, by have := m1.2.2.2; omega⟩, by have := m1.2.2.2; omega⟩
            refine ez_aload_n dX2_advance_116 rfl ?_
            refine g2_6 dX2_advance_117 fl_X2_25 ?_
            refine ez_iload dX2_advance_120 rfl ?_
            refine al106 dX2_advance_122 (by omega) ?_
            refine ez_lstore dX2_advance_123 (by decide) ?_
            refine ez_iload dX2_advance_125 rfl ?_
            refine ez_istore dX2_advance_127 (by decide) ?_
            refine ez_iinc dX2_advance_129 rfl (by decide) (by decide) (by omega) ?_
            refine ez_goto 25 dX2_advance_132 (by decide) ?_
            refine ez_lessS (L' := [ez_R 101, ez_I at_, ez_I w, ez_I r, ez_L _, ez_N, ez_I _, ez_I (c + 1), ez_N, ez_N]) ⟨Or.inr rfl, Or.inr rfl, Or.inr rfl, Or.inr rfl, Or.inr rfl, Or.inl rfl, Or.inr rfl, Or.inr rfl, Or.inl rfl, Or.inl rfl, trivial⟩ ?_
            exact ih (c + 1) _ _ _ (by omega) (by omega) n1 (by omega)
        · have hlt : mt_red h r c < h 106 c := by rw [← er, ← a6]; omega
          have hG : mt_G h r c = mt_red h r c := if_pos (by omega)
          have n0 : (∀ o k : Int, ¬ ((o = 106 ∨ o = 108) ∧ 1 ≤ k ∧ k < c + 1 ∧ h 109 k = 0) → ez_up (ez_up h' 106 c (h' 103 (r * 9 + c) - h' 104 r - h' 105 c)) 108 c at_ o k = h o k) ∧ (∀ k : Int, 1 ≤ k → k < c + 1 → h 109 k = 0 → ez_up (ez_up h' 106 c (h' 103 (r * 9 + c) - h' 104 r - h' 105 c)) 108 c at_ 106 k = mt_G h r k ∧ ez_up (ez_up h' 106 c (h' 103 (r * 9 + c) - h' 104 r - h' 105 c)) 108 c at_ 108 k = (if mt_red h r k < h 106 k then at_ else h 108 k)) := by
            refine ⟨fun o k hk => ?_, fun k k0 k1 k2 => ?_⟩
            · rw [ez_up_ne (fun q => hk ⟨Or.inr q.1, by omega, by omega, by rw [q.2]; exact hp0⟩), ez_up_ne (fun q => hk ⟨Or.inl q.1, by omega, by omega, by rw [q.2]; exact hp0⟩)]
              exact m1.1 o k (fun q => hk ⟨q.1, q.2.1, by omega, q.2.2.2⟩)
            · by_cases e : k = c
              · subst e
                rw [ez_up_ne (by omega), ez_up_eq, ez_up_eq, if_pos (by omega), hG]
                exact ⟨er, rfl⟩
              · have d := m1.2.1 k k0 (by omega) k2
                rw [ez_up_ne (by omega), ez_up_ne (by omega), ez_up_ne (by omega), ez_up_ne (by omega)]
                exact ⟨d.1, d.2.1⟩
          have hg2 : ez_up (ez_up h' 106 c (h' 103 (r * 9 + c) - h' 104 r - h' 105 c)) 108 c at_ 106 c = mt_G h r c := (n0.2 c (by omega) (by omega) hp0).1
          refine ez_aload_n dX2_advance_86 rfl ?_
          refine g2_6 dX2_advance_87 fl_X2_25 ?_
          refine ez_iload dX2_advance_90 rfl ?_
          refine ez_lload dX2_advance_92 rfl ?_
          refine as106 dX2_advance_94 (by omega) ?_
          refine ez_aload_n dX2_advance_95 rfl ?_
          refine g2_8 dX2_advance_96 fl_X2_31 ?_
          refine ez_iload dX2_advance_99 rfl ?_
          refine ez_iload_n dX2_advance_101 rfl ?_
          refine as108 dX2_advance_102 (by omega) ?_
          refine ez_aload_n dX2_advance_103 rfl ?_
          refine g2_6 dX2_advance_104 fl_X2_25 ?_
          refine ez_iload dX2_advance_107 rfl ?_
          refine al106 dX2_advance_109 (by omega) ?_
          refine ez_lload dX2_advance_110 rfl ?_
          refine ez_lcmp dX2_advance_112 (fun z_112 hz_112 => ?_)
          refine ez_if_ge 129 dX2_advance_113 (by decide) (fun c_113 => ?_) (fun c_113 => ?_)
          · have n1 : mt_1 h _ at_ r (c + 1) ls nx := ⟨n0.1, fun k k0 k1 k2 => ⟨(n0.2 k k0 k1 k2).1, (n0.2 k k0 k1 k2).2, by
                by_cases e : k = c
                · rw [e]
                  omega
                · exact (m1.2.1 k k0 (by omega) k2).2.2⟩, by
                rcases m1.2.2.1 with q | q
                · exact Or.inl q
                · exact Or.inr ⟨by omega, q.2⟩, m1.2.2.2⟩
            refine ez_iinc dX2_advance_129 rfl (by decide) (by decide) (by omega) ?_
            refine ez_goto 25 dX2_advance_132 (by decide) ?_
            refine ez_lessS (L' := [ez_R 101, ez_I at_, ez_I w, ez_I r, ez_L _, ez_N, ez_I _, ez_I (c + 1), ez_N, ez_N]) ⟨Or.inr rfl, Or.inr rfl, Or.inr rfl, Or.inr rfl, Or.inr rfl, Or.inl rfl, Or.inr rfl, Or.inr rfl, Or.inl rfl, Or.inl rfl, trivial⟩ ?_
            exact ih (c + 1) _ _ _ (by omega) (by omega) n1 (by omega)
          · have n1 : mt_1 h _ at_ r (c + 1) _ c := ⟨n0.1, fun k k0 k1 k2 => ⟨(n0.2 k k0 k1 k2).1, (n0.2 k k0 k1 k2).2, by
                by_cases e : k = c
                · rw [e]
                  exact Int.le_of_eq hg2
                · have := (m1.2.1 k k0 (by omega) k2).2.2
                  omega⟩, Or.inr ⟨by omega, hp0, hg2, by have := m1.2.2.2; omega⟩, by have := m1.2.2.2; omega⟩
            refine ez_aload_n dX2_advance_116 rfl ?_
            refine g2_6 dX2_advance_117 fl_X2_25 ?_
            refine ez_iload dX2_advance_120 rfl ?_
            refine al106 dX2_advance_122 (by omega) ?_
            refine ez_lstore dX2_advance_123 (by decide) ?_
            refine ez_iload dX2_advance_125 rfl ?_
            refine ez_istore dX2_advance_127 (by decide) ?_
            refine ez_iinc dX2_advance_129 rfl (by decide) (by decide) (by omega) ?_
            refine ez_goto 25 dX2_advance_132 (by decide) ?_
            refine ez_lessS (L' := [ez_R 101, ez_I at_, ez_I w, ez_I r, ez_L _, ez_N, ez_I _, ez_I (c + 1), ez_N, ez_N]) ⟨Or.inr rfl, Or.inr rfl, Or.inr rfl, Or.inr rfl, Or.inr rfl, Or.inl rfl, Or.inr rfl, Or.inr rfl, Or.inl rfl, Or.inl rfl, trivial⟩ ?_
            exact ih (c + 1) _ _ _ (by omega) (by omega) n1 (by omega)
      · have n1 : mt_1 h h' at_ r (c + 1) ls nx := ⟨fun o k hk => m1.1 o k (fun q => hk ⟨q.1, q.2.1, by omega, q.2.2.2⟩), fun k k0 k1 k2 => by
            by_cases e : k = c
            · rw [e, ← a9] at k2
              exact absurd k2 c_38
            · exact m1.2.1 k k0 (by omega) k2, by
            rcases m1.2.2.1 with q | q
            · exact Or.inl q
            · exact Or.inr ⟨by omega, q.2⟩, m1.2.2.2⟩
        refine ez_goto 129 dX2_advance_41 (by decide) ?_
        refine ez_iinc dX2_advance_129 rfl (by decide) (by decide) (by omega) ?_
        refine ez_goto 25 dX2_advance_132 (by decide) ?_
        refine ez_lessS (L' := [ez_R 101, ez_I at_, ez_I w, ez_I r, ez_L _, ez_N, ez_I _, ez_I (c + 1), ez_N, ez_N]) ⟨Or.inr rfl, Or.inr rfl, Or.inr rfl, Or.inr rfl, Or.inr rfl, Or.inl rfl, Or.inr rfl, Or.inr rfl, Or.inl rfl, Or.inl rfl, trivial⟩ ?_
        exact ih (c + 1) _ _ _ (by omega) (by omega) n1 (by omega)
/-- the second pass: prices and gaps, up to column c. h: behind the first pass -/
def mt_2 (h h' : ez_H) (c ls : Int) : Prop :=
  (∀ o k : Int, o ≠ 104 → o ≠ 105 → o ≠ 106 → h' o k = h o k) ∧
  (∀ k : Int, 0 ≤ k → k < c → h 109 k ≠ 0 → h' 104 (h 107 k) = h 104 (h 107 k) + ls ∧ h' 105 k = h 105 k - ls ∧ h' 106 k = h 106 k) ∧
  (∀ k : Int, 0 ≤ k → k < c → h 109 k = 0 → h' 105 k = h 105 k ∧ h' 106 k = h 106 k - ls) ∧
  (∀ k : Int, (k < 0 ∨ c ≤ k) → h' 105 k = h 105 k ∧ h' 106 k = h 106 k) ∧
  ∀ r : Int, (∀ k : Int, 0 ≤ k → k < c → h 109 k ≠ 0 → h 107 k ≠ r) → h' 104 r = h 104 r
theorem lp_a2 {at_ w r ls nx : Int} {h : ez_H} (hw : 1 ≤ w ∧ w ≤ 8) (hb : ∀ k : Int, 0 ≤ k → k ≤ 8 → (-1000000000000 ≤ h 104 k ∧ h 104 k ≤ 1000000000000) ∧ (-1000000000000 ≤ h 105 k ∧ h 105 k ≤ 1000000000000)) (hg : ∀ k : Int, 0 ≤ k → k ≤ w → h 109 k = 0 → -10000000000000 ≤ h 106 k ∧ h 106 k ≤ 10000000000000) (hp : ∀ k : Int, 0 ≤ k → k ≤ w → 0 ≤ h 107 k ∧ h 107 k ≤ 8) (hl : -10000000000000 ≤ ls ∧ ls ≤ 10000000000000) (hinj : ∀ k k' : Int, 0 ≤ k → k ≤ w → 0 ≤ k' → k' ≤ w → h 109 k ≠ 0 → h 109 k' ≠ 0 → h 107 k = h 107 k' → k = k') {Q : ez_H → Option ez_V → Prop} (kx : ∀ h', mt_2 h h' (w + 1) ls → Q h' (some (ez_I nx))) : ∀ (n : Nat) (c : Int) (h' : ez_H), (0 ≤ c) → (c ≤ w + 1) → (mt_2 h h' c ls) → w + 1 - c < n → ez_En M_X2_advance 138 [ez_R 101, ez_I at_, ez_I w, ez_I r, ez_L ls, ez_N, ez_I nx, ez_I c, ez_N, ez_N] [] h' Q := by
  intro n
  induction n with
  | zero =>
    intro c h' c0 c1 m2 hm
    exfalso
    omega
  | succ n ih =>
    intro c h' c0 c1 m2 hm
    refine ez_iload dX2_advance_138 rfl ?_
    refine ez_iload_n dX2_advance_140 rfl ?_
    refine ez_ic_gt 204 dX2_advance_141 (by decide) (fun c_141 => ?_) (fun c_141 => ?_)
    · refine ez_iload dX2_advance_204 rfl ?_
      refine ez_ireturn (st := []) dX2_advance_206 rfl ?_
      exact kx _ (by rw [show w + 1 = c by omega]; exact m2)
    · have a9 := m2.1 109 c (by decide) (by decide) (by decide)
      have a7 := m2.1 107 c (by decide) (by decide) (by decide)
      have bp := hp c (by omega) (by omega)
      have oc := m2.2.2.2.1 c (by omega)
      have bc := hb c (by omega) (by omega)
      refine ez_aload_n dX2_advance_144 rfl ?_
      refine g2_9 dX2_advance_145 fl_X2_34 ?_
      refine ez_iload dX2_advance_148 rfl ?_
      refine al109 dX2_advance_150 (by omega) ?_
      refine ez_if_eq 186 dX2_advance_151 (by decide) (fun c_151 => ?_) (fun c_151 => ?_)
      · have hpd : h 109 c = 0 := by rw [← a9]; exact c_151
        have bg := hg c (by omega) (by omega) hpd
        have n1 : mt_2 h (ez_up h' 106 c (h' 106 c - ls)) (c + 1) ls := by
          refine ⟨fun o k h4 h5 h6 => ?_, fun k k0 k1 k2 => ?_, fun k k0 k1 k2 => ?_, fun k hk => ?_, fun q hq => ?_⟩
          · rw [ez_up_ne (by omega)]
            exact m2.1 o k h4 h5 h6
          · have e : k ≠ c := fun q => k2 (by rw [q]; exact hpd)
            have d := m2.2.1 k k0 (by omega) k2
            refine ⟨?_, ?_, ?_⟩
            · rw [ez_up_ne (by omega)]
              exact d.1
            · rw [ez_up_ne (by omega)]
              exact d.2.1
            · rw [ez_up_ne (by omega)]
              exact d.2.2
          · by_cases e : k = c
            · subst e
              exact ⟨(ez_up_ne (by omega)).trans oc.1, ez_up_eq.trans (by rw [oc.2])⟩
            · have d := m2.2.2.1 k k0 (by omega) k2
              exact ⟨(ez_up_ne (by omega)).trans d.1, (ez_up_ne (by omega)).trans d.2⟩
          · have d := m2.2.2.2.1 k (by omega)
            exact ⟨(ez_up_ne (by omega)).trans d.1, (ez_up_ne (by omega)).trans d.2⟩
          · have d := m2.2.2.2.2 q (fun k k0 k1 k2 => hq k k0 (by omega) k2)
            exact (ez_up_ne (by omega)).trans d
        refine ez_aload_n dX2_advance_186 rfl ?_
        refine g2_6 dX2_advance_187 fl_X2_25 ?_
        refine ez_iload dX2_advance_190 rfl ?_
        refine ez_dup2 dX2_advance_192 rfl rfl ?_
        refine al106 dX2_advance_193 (by omega) ?_
        refine ez_lload dX2_advance_194 rfl ?_
        refine ez_lsub dX2_advance_196 (by omega) ?_
        refine as106 dX2_advance_197 (by omega) ?_
        refine ez_iinc dX2_advance_198 rfl (by decide) (by decide) (by omega) ?_
        refine ez_goto 138 dX2_advance_201 (by decide) ?_
        refine ez_lessS (L' := [ez_R 101, ez_I at_, ez_I w, ez_I r, ez_L ls, ez_N, ez_I nx, ez_I (c + 1), ez_N, ez_N]) ⟨Or.inr rfl, Or.inr rfl, Or.inr rfl, Or.inr rfl, Or.inr rfl, Or.inl rfl, Or.inr rfl, Or.inr rfl, Or.inl rfl, Or.inl rfl, trivial⟩ ?_
        exact ih (c + 1) _ (by omega) (by omega) n1 (by omega)
      · have bq := hb (h 107 c) (by omega) (by omega)
        have hpd : h 109 c ≠ 0 := by rw [← a9]; exact c_151
        have o4 := m2.2.2.2.2 (h 107 c) (fun k k0 k1 k2 e => by have := hinj k c k0 (by omega) (by omega) (by omega) k2 hpd e; omega)
        rw [← a7] at o4 bq
        refine ez_aload_n dX2_advance_154 rfl ?_
        refine g2_4 dX2_advance_155 fl_X2_19 ?_
        refine ez_aload_n dX2_advance_158 rfl ?_
        refine g2_7 dX2_advance_159 fl_X2_28 ?_
        refine ez_iload dX2_advance_162 rfl ?_
        refine al107 dX2_advance_164 (by omega) ?_
        refine ez_dup2 dX2_advance_165 rfl rfl ?_
        refine al104 dX2_advance_166 (by omega) ?_
        refine ez_lload dX2_advance_167 rfl ?_
        refine ez_ladd dX2_advance_169 (by omega) ?_
        refine as104 dX2_advance_170 (by omega) ?_
        have v5 : ∀ z : Int, ez_up h' 104 (h' 107 c) z 105 c = h' 105 c := fun z => ez_up_ne (by omega)
        refine ez_aload_n dX2_advance_171 rfl ?_
        refine g2_5 dX2_advance_172 fl_X2_22 ?_
        refine ez_iload dX2_advance_175 rfl ?_
        refine ez_dup2 dX2_advance_177 rfl rfl ?_
        refine al105 dX2_advance_178 (by omega) ?_
        refine ez_lload dX2_advance_179 rfl ?_
        refine ez_lsub dX2_advance_181 (by rw [v5]; omega) ?_
        rw [v5]
        refine as105 dX2_advance_182 (by omega) ?_
        have n1 : mt_2 h (ez_up (ez_up h' 104 (h' 107 c) (h' 104 (h' 107 c) + ls)) 105 c (h' 105 c - ls)) (c + 1) ls := by
          refine ⟨fun o k h4 h5 h6 => ?_, fun k k0 k1 k2 => ?_, fun k k0 k1 k2 => ?_, fun k hk => ?_, fun q hq => ?_⟩
          · rw [ez_up_ne (by omega), ez_up_ne (by omega)]
            exact m2.1 o k h4 h5 h6
          · by_cases e : k = c
            · subst e
              rw [← a7]
              refine ⟨(ez_up_ne (by omega)).trans (ez_up_eq.trans (by rw [o4])), ez_up_eq.trans (by rw [oc.1]), ?_⟩
              rw [ez_up_ne (by omega), ez_up_ne (by omega)]
              exact oc.2
            · have d := m2.2.1 k k0 (by omega) k2
              have ne : h 107 k ≠ h' 107 c := fun q => e (hinj k c k0 (by omega) (by omega) (by omega) k2 hpd (q.trans a7))
              refine ⟨?_, ?_, ?_⟩
              · rw [ez_up_ne (by omega), ez_up_ne (by omega)]
                exact d.1
              · rw [ez_up_ne (by omega), ez_up_ne (by omega)]
                exact d.2.1
              · rw [ez_up_ne (by omega), ez_up_ne (by omega)]
                exact d.2.2
          · have e : k ≠ c := fun q => hpd (by rw [← q]; exact k2)
            have d := m2.2.2.1 k k0 (by omega) k2
            constructor
            · rw [ez_up_ne (by omega), ez_up_ne (by omega)]
              exact d.1
            · rw [ez_up_ne (by omega), ez_up_ne (by omega)]
              exact d.2
          · have d := m2.2.2.2.1 k (by omega)
            constructor
            · rw [ez_up_ne (by omega), ez_up_ne (by omega)]
              exact d.1
            · rw [ez_up_ne (by omega), ez_up_ne (by omega)]
              exact d.2
          · have d := m2.2.2.2.2 q (fun k k0 k1 k2 => hq k k0 (by omega) k2)
            have ne := hq c (by omega) (by omega) hpd
            rw [ez_up_ne (by omega), ez_up_ne (by omega)]
            exact d
        refine ez_goto 198 dX2_advance_183 (by decide) ?_
        refine ez_iinc dX2_advance_198 rfl (by decide) (by decide) (by omega) ?_
        refine ez_goto 138 dX2_advance_201 (by decide) ?_
        refine ez_lessS (L' := [ez_R 101, ez_I at_, ez_I w, ez_I r, ez_L ls, ez_N, ez_I nx, ez_I (c + 1), ez_N, ez_N]) ⟨Or.inr rfl, Or.inr rfl, Or.inr rfl, Or.inr rfl, Or.inr rfl, Or.inl rfl, Or.inr rfl, Or.inr rfl, Or.inl rfl, Or.inl rfl, trivial⟩ ?_
        exact ih (c + 1) _ (by omega) (by omega) n1 (by omega)
