theorem kc_L_7 : Cond.classLink R_law 7 RX5 ∈ lw_tg := lw_tg_of (List.mem_append_right _ (List.mem_of_getElem? (i := 10) (by decide +kernel))) (by decide +kernel)
theorem kc_L_10 : Cond.classLink R_law 10 RX6 ∈ lw_tg := lw_tg_of (List.mem_append_right _ (List.mem_of_getElem? (i := 528) (by decide +kernel))) (by decide +kernel)
/-- what the start gives: the classes, the arrays' classes, the static row -/
theorem ws_K {args : Array Value} {s : State} (hts : ∀ w ∈ lw_tbl, w.before args s = true) : ∃ G : ez_G, va_K G.1 vwCl (ez_ty G) s := by
  have htg : ∀ w ∈ lw_tg, w.before args s = true := fun w hw => hts w (List.mem_filter.mp hw).1
  obtain ⟨c0, i0, h0⟩ := u_known (C := RX0) (T := TX0) (N := 12) (n := 12) htg iw_0 (htg _ kt_X0)
  obtain ⟨c1, i1, h1⟩ := u_known (C := RX1) (T := TX1) (N := 9) (n := 9) htg iw_1 (htg _ kt_X1)
  obtain ⟨c2, i2, h2⟩ := u_known (C := RX2) (T := TX2) (N := 10) (n := 10) htg iw_2 (htg _ kt_X2)
  obtain ⟨c3, i3, h3⟩ := u_known (C := RX3) (T := TX3) (N := 4) (n := 4) htg iw_3 (htg _ kt_X3)
  obtain ⟨c4, i4, h4⟩ := u_known (C := RX4) (T := TX4) (N := 13) (n := 13) htg iw_4 (htg _ kt_X4)
  obtain ⟨c5, i5, h5⟩ := u_known (C := RX5) (T := TX5) (N := 8) (n := 8) htg iw_5 (htg _ kt_X5)
  obtain ⟨c6, i6, h6⟩ := u_known (C := RX6) (T := TX6) (N := 19) (n := 19) htg iw_6 (htg _ kt_X6)
  obtain ⟨a0, k0, m0, f0, g0, j0⟩ := Cond.arrayClass_spec (htg _ kw_int)
  obtain ⟨a1, k1, m1, f1, g1, j1⟩ := Cond.arrayClass_spec (htg _ kw_long)
  obtain ⟨a2, k2, m2, f2, g2, j2⟩ := Cond.arrayClass_spec (htg _ kw_boolean)
  obtain ⟨m3, a3, k3, f3, -, g3, j3, n3⟩ := Cond.arrayOver_spec (n := RX1) (hts (Cond.arrayOver (.object RX1)) (List.mem_append_right _ (List.mem_of_getElem? (i := 50) (by decide +kernel))))
  obtain ⟨m4, a4, k4, f4, -, g4, j4, n4⟩ := Cond.arrayOver_spec (n := RX3) (hts (Cond.arrayOver (.object RX3)) (List.mem_append_right _ (List.mem_of_getElem? (i := 19) (by decide +kernel))))
  refine ⟨((fun k => if k = 0 then c0 else if k = 1 then c1 else if k = 2 then c2 else if k = 3 then c3 else if k = 4 then c4 else if k = 5 then c5 else c6, fun k => if k = 0 then i0 else if k = 1 then i1 else if k = 2 then i2 else if k = 3 then i3 else if k = 4 then i4 else if k = 5 then i5 else i6), fun t => if t = 0 then a0 else if t = 1 then a1 else if t = 2 then a2 else if t = 3 then a3 else a4), fun k q hq => ?_, fun k q hq => ?_⟩
  · match k, hq with
    | 0, hq => cases hq; exact h0
    | 1, hq => cases hq; exact h1
    | 2, hq => cases hq; exact h2
    | 3, hq => cases hq; exact h3
    | 4, hq => cases hq; exact h4
    | 5, hq => cases hq; exact h5
    | 6, hq => cases hq; exact h6
    | k + 7, hq => simp [vwCl] at hq
  · match k, hq with
    | 0, hq => cases hq; exact ⟨fun n z => ⟨(fun k h => by cases h), k0, g0, m0, j0⟩, f0⟩
    | 1, hq => cases hq; exact ⟨fun n z => ⟨(fun k h => by cases h), k1, g1, m1, j1⟩, f1⟩
    | 2, hq => cases hq; exact ⟨fun n z => ⟨(fun k h => by cases h), k2, g2, m2, j2⟩, f2⟩
    | 3, hq => cases hq; exact ⟨fun n z => ⟨(fun k h => by cases h), k3, g3, m3, j3⟩, k3, m3, g3, j3, f3, n3⟩
    | 4, hq => cases hq; exact ⟨fun n z => ⟨(fun k h => by cases h), k4, g4, m4, j4⟩, k4, m4, g4, j4, f4, n4⟩
    | k + 5, hq => simp [ez_ty] at hq
theorem ws_G {args : Array Value} {s : State} (hts : ∀ w ∈ lw_tbl, w.before args s = true) (hgv : (Jvm.Cond.and given_1 narrow_1).before args s = true) : ∃ t : Nat, va_Z RX0 "GAPS" "[I" (.ref t) (ez_A s.heap.size) s s.heap ∧ va_T .int t 4 ez_gp (ez_A s.heap.size) s s.heap := by
  have hs := flat_of_before _ hgv
  have hA : ∀ a : Nat, a < s.heap.size → ¬ ez_A s.heap.size a := fun a ha => Nat.not_le.mpr ha
  obtain ⟨t, ht, hT⟩ := va_Tof (tm := (.static "StarPlates$Fitter" "GAPS" "[I")) (ty := .int) (N := 4) (f := ez_gp) (A := ez_A s.heap.size) (args := args) (s := s) (by decide) (hs (.arrayOf (.static "StarPlates$Fitter" "GAPS" "[I") .int) (by decide +kernel)) (va_eqt (hs (.eq (.length (.static "StarPlates$Fitter" "GAPS" "[I")) (.int 4)) (by decide +kernel))) (fun j hj => by
    rcases (show j = 0 ∨ j = 1 ∨ j = 2 ∨ j = 3 by omega) with rfl | rfl | rfl | rfl
    · exact va_eqt (hs (.eq (.elem (.static "StarPlates$Fitter" "GAPS" "[I") (.int 0)) (.int 23)) (by decide +kernel))
    · exact va_eqt (hs (.eq (.elem (.static "StarPlates$Fitter" "GAPS" "[I") (.int 1)) (.int 10)) (by decide +kernel))
    · exact va_eqt (hs (.eq (.elem (.static "StarPlates$Fitter" "GAPS" "[I") (.int 2)) (.int 4)) (by decide +kernel))
    · exact va_eqt (hs (.eq (.elem (.static "StarPlates$Fitter" "GAPS" "[I") (.int 3)) (.int 1)) (by decide +kernel))) hA
  exact ⟨t, va_Zof (hts (Cond.laysStatic RX0 "GAPS" "[I") (List.mem_append_right _ (List.mem_of_getElem? (i := 363) (by decide +kernel)))) (hts (Cond.initialized RX0) (List.mem_append_right _ (List.mem_of_getElem? (i := 4) (by decide +kernel)))) ht hA, hT⟩
theorem ws_N {args : Array Value} {s : State} (hts : ∀ w ∈ lw_tbl, w.before args s = true) : ca_NI s ∧ ez_NW s := by
  constructor
  · intro q hq
    simp only [ca_nest, List.mem_cons, List.not_mem_nil, or_false] at hq
    rcases hq with rfl | rfl | rfl | rfl | rfl
    · exact va_Nw.of rfl (hts _ (List.mem_append_right _ (List.mem_of_getElem? (i := 21) (by decide +kernel))))
    · exact va_Nw.of rfl (hts _ (List.mem_append_right _ (List.mem_of_getElem? (i := 52) (by decide +kernel))))
    · exact va_Nw.of rfl (hts _ (List.mem_append_right _ (List.mem_of_getElem? (i := 95) (by decide +kernel))))
    · exact va_Nw.of rfl (hts _ (List.mem_append_right _ (List.mem_of_getElem? (i := 101) (by decide +kernel))))
    · exact va_Nw.of rfl (hts _ (List.mem_append_right _ (List.mem_of_getElem? (i := 182) (by decide +kernel))))
  · intro q hq
    simp only [ez_nest, List.mem_cons, List.not_mem_nil, or_false] at hq
    rcases hq with rfl | rfl | rfl | rfl | rfl | rfl
    · exact va_Nw.of rfl (hts _ (List.mem_append_right _ (List.mem_of_getElem? (i := 349) (by decide +kernel))))
    · exact va_Nw.of rfl (hts _ (List.mem_append_right _ (List.mem_of_getElem? (i := 352) (by decide +kernel))))
    · exact va_Nw.of rfl (hts _ (List.mem_append_right _ (List.mem_of_getElem? (i := 377) (by decide +kernel))))
    · exact va_Nw.of rfl (hts _ (List.mem_append_right _ (List.mem_of_getElem? (i := 442) (by decide +kernel))))
    · exact va_Nw.of rfl (hts _ (List.mem_append_right _ (List.mem_of_getElem? (i := 447) (by decide +kernel))))
    · exact va_Nw.of rfl (hts _ (List.mem_append_right _ (List.mem_of_getElem? (i := 500) (by decide +kernel))))
/-- THE LAW, from its entry -/
theorem whole_start {p : Program} {e : Env} {s : State} {m : MethodId} {below : List Frame} {meth : Method} {c : Code} (l : Launch) {b L : Nat} {xs : Nat → Int32} (hL0 : L ≤ 2048) (C0 : lw_At p s m meth c b L xs) : W p l e room_1 s m #[Value.ref b] below meth c s.heap [] 0 0 (lw_Z below #[Value.ref b] s) (entryFrame m ([Value.ref b] : List Value).toArray 4) := by
  obtain ⟨hx, hb, hr, hml, hown, hts, hX, hbl, hlocks, hgv⟩ := id C0
  obtain ⟨G, hK⟩ := ws_K hts
  obtain ⟨t, hZ, hT⟩ := ws_G hts hgv
  obtain ⟨hNI, hNW⟩ := ws_N hts
  have htg : ∀ w ∈ lw_tg, w.before #[Value.ref b] s = true := fun w hw => hts w (List.mem_filter.mp hw).1
  have C : ca_C p s m #[Value.ref b] meth c G s.heap.size cL_law 4 R_law := ⟨hx, hb, hml, hown, htg, hlocks, hK, Nat.le_refl _, va_AO.of (hts (Cond.arrayOver (.object RX3)) (List.mem_append_right _ (List.mem_of_getElem? (i := 19) (by decide +kernel)))), va_AO.of (hts (Cond.arrayOver (.object RX1)) (List.mem_append_right _ (List.mem_of_getElem? (i := 50) (by decide +kernel)))), hNI⟩
  have hls := ez_ini_ls (ad := fun k => if k = 201 then b else t) (n := 4) (As := [ez_R 201]) (by decide)
  rw [lg_entry_eq]
  have main : ca_E p l e room_1 s m #[Value.ref b] below meth c (lw_Z below #[Value.ref b] s) G s.heap.size 4 0 (fun k => if k = 201 then b else t) 0 [ez_R 201, ez_N, ez_N, ez_N] [] hp_0 sf_0 0 := by
    refine ca_newO C 5 tyX5 tyX5_ok rfl rfl (by decide) iw_5 kc_L_7 kt_X5 kn_X5 (by decide) dL_law_0 (by omega) (by decide) (by decide) (fun j hj => by rcases (show j = 0 ∨ j = 1 ∨ j = 2 ∨ j = 3 ∨ j = 4 ∨ j = 5 ∨ j = 6 ∨ j = 7 by omega) with rfl | rfl | rfl | rfl | rfl | rfl | rfl | rfl <;> rfl) ?_
    refine ca_nn (n' := 1) rfl ?_
    refine ca_dup C dL_law_3 rfl ?_
    refine ca_callI C (N := K_X5) (o := 0) (n1 := 121) dL_law_4 ko_X5 rfl ki_X5 rfl ml_L_9 ⟨by decide, by decide, by decide⟩ (by omega) (by decide) (Nat.le_of_ble_eq_true rfl) (fun ok okh hz => k_X5 ok okh hz) ?_
    refine ca_astore_n C dL_law_7 (by decide) ?_
    refine ca_newO C 6 tyX6 tyX6_ok rfl rfl (by decide) iw_6 kc_L_10 kt_X6 kn_X6 (by decide) dL_law_8 (by omega) (by decide) (by decide) (fun j hj => by rcases (show j = 0 ∨ j = 1 ∨ j = 2 ∨ j = 3 ∨ j = 4 ∨ j = 5 ∨ j = 6 ∨ j = 7 ∨ j = 8 ∨ j = 9 ∨ j = 10 ∨ j = 11 ∨ j = 12 ∨ j = 13 ∨ j = 14 ∨ j = 15 ∨ j = 16 ∨ j = 17 ∨ j = 18 by omega) with rfl | rfl | rfl | rfl | rfl | rfl | rfl | rfl | rfl | rfl | rfl | rfl | rfl | rfl | rfl | rfl | rfl | rfl | rfl <;> rfl) ?_
    refine ca_nn (n' := 122) rfl ?_
    refine ca_dup C dL_law_11 rfl ?_
    refine ca_callI C (N := K_X6) (o := 121) (n1 := 133) dL_law_12 ko_X6 rfl ki_X6 rfl ml_L_12 ⟨by decide, by decide, by decide⟩ (by omega) (by decide) (Nat.le_of_ble_eq_true rfl) (fun ok okh hz => k_X6 ok okh hz) ?_
    refine ca_astore_n C dL_law_15 (by decide) ?_
    intro ad hk H locs ls Rr hl hL hs hlr hsr
    obtain ⟨hP, hD, hS, hok, hokh, hz⟩ := Rr
    have W1 := ci_done (sf := sf_1) sf_f sf_B sf_A hP hD
    have e1 : ad 201 = b := hk 201 (Or.inr (by decide))
    have e0 : ad 200 = t := hk 200 (Or.inr (by decide))
    have Cq : lq_C p s m meth c b L xs G ad := ⟨hx, hb, hml, hown, htg, hlocks, hK, by rw [e0]; exact hZ, by rw [e0]; exact hT, hNW, e1, hX, hbl, hr⟩
    refine W.widen (k := 600000) (n := 7302250) (by decide) (by decide) ?_
    have kq : lq_E p l e s m below meth c b G ad 16 [ez_R 201, ez_R 0, ez_R 121, ez_N] [] hp_1 := by
      refine lq_iconst Cq dL_law_16 (by decide) ?_
      refine lq_istore_n Cq dL_law_17 (by decide) ?_
      exact lq_loop Cq hL0 2053 0 hp_1 (by omega) hp_I (by omega)
    exact kq H locs ls ⟨W1.1, W1.2, hS, hokh⟩ hl hL hs
  have kk := main (fun k => if k = 201 then b else t) (fun _ _ => rfl) s.heap [] _ ⟨fun k q hq => by simp [ci_ws] at hq, ⟨fun i j p q hq => by simp [ci_ws] at hq, fun k q hq => by simp [ci_ws] at hq⟩, va_S.rf, ⟨fun _ _ _ => rfl, fun o k ho => by omega⟩, fun o k => ⟨show in64 0 from by decide, fun _ => show in32 0 from by decide⟩, fun _ _ _ => rfl⟩ hls (ez_ini_ok (n := 4) (As := [ez_R 201]) (fun w hw => by rw [List.mem_singleton.mp hw]; exact ez_okR _)) (fun w hw => by cases hw) (fun w hw => by
    rcases List.mem_cons.mp hw with q | hw
    · rw [q]
      exact ca_ltR (by omega)
    rcases List.mem_cons.mp hw with q | hw
    · rw [q]
      trivial
    rcases List.mem_cons.mp hw with q | hw
    · rw [q]
      trivial
    rw [List.mem_singleton.mp hw]
    trivial) (fun w hw => by cases hw)
  exact kk
