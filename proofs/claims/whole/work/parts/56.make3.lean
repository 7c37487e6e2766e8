/-! the constructors -/
def K_X1 : ez_M := (yX1_init, cX1_init, 1, none, 1, 12)
theorem ko_X1 : ez_okM K_X1 := ⟨om_X1_init.1, om_X1_init.2.1, om_X1_init.2.2⟩
theorem ki_X1 : Cond.instanceMethod yX1_init ∈ lw_tg := lw_tg_of (List.mem_append_right _ (List.mem_of_getElem? (i := 53) (by decide +kernel))) (by decide +kernel)
theorem kl_X1 : Cond.methodLink RX1 3 Lib.objectInit ∈ lw_tg := lw_tg_of (List.mem_append_right _ (List.mem_of_getElem? (i := 55) (by decide +kernel))) (by decide +kernel)
theorem kn_X1 : Cond.initialized RX1 ∈ lw_tg := lw_tg_of (List.mem_append_right _ (List.mem_of_getElem? (i := 3) (by decide +kernel))) (by decide +kernel)
theorem kt_X1 : Cond.instantiable RX1 9 ∈ lw_tg := lw_tg_of (List.mem_append_right _ (List.mem_of_getElem? (i := 51) (by decide +kernel))) (by decide +kernel)
def K_X3 : ez_M := (yX3_init, cX3_init, 1, none, 1, 12)
theorem ko_X3 : ez_okM K_X3 := ⟨om_X3_init.1, om_X3_init.2.1, om_X3_init.2.2⟩
theorem ki_X3 : Cond.instanceMethod yX3_init ∈ lw_tg := lw_tg_of (List.mem_append_right _ (List.mem_of_getElem? (i := 22) (by decide +kernel))) (by decide +kernel)
theorem kl_X3 : Cond.methodLink RX3 3 Lib.objectInit ∈ lw_tg := lw_tg_of (List.mem_append_right _ (List.mem_of_getElem? (i := 24) (by decide +kernel))) (by decide +kernel)
theorem kn_X3 : Cond.initialized RX3 ∈ lw_tg := lw_tg_of (List.mem_append_right _ (List.mem_of_getElem? (i := 2) (by decide +kernel))) (by decide +kernel)
theorem kt_X3 : Cond.instantiable RX3 4 ∈ lw_tg := lw_tg_of (List.mem_append_right _ (List.mem_of_getElem? (i := 20) (by decide +kernel))) (by decide +kernel)
def K_X2 : ez_M := (yX2_init, cX2_init, 1, none, 1, 12)
theorem ko_X2 : ez_okM K_X2 := ⟨om_X2_init.1, om_X2_init.2.1, om_X2_init.2.2⟩
theorem ki_X2 : Cond.instanceMethod yX2_init ∈ lw_tg := lw_tg_of (List.mem_append_right _ (List.mem_of_getElem? (i := 102) (by decide +kernel))) (by decide +kernel)
theorem kl_X2 : Cond.methodLink RX2 3 Lib.objectInit ∈ lw_tg := lw_tg_of (List.mem_append_right _ (List.mem_of_getElem? (i := 104) (by decide +kernel))) (by decide +kernel)
theorem kn_X2 : Cond.initialized RX2 ∈ lw_tg := lw_tg_of (List.mem_append_right _ (List.mem_of_getElem? (i := 5) (by decide +kernel))) (by decide +kernel)
theorem kt_X2 : Cond.instantiable RX2 10 ∈ lw_tg := lw_tg_of (List.mem_append_right _ (List.mem_of_getElem? (i := 100) (by decide +kernel))) (by decide +kernel)
def K_X4 : ez_M := (yX4_init, cX4_init, 1, none, 1, 12)
theorem ko_X4 : ez_okM K_X4 := ⟨om_X4_init.1, om_X4_init.2.1, om_X4_init.2.2⟩
theorem ki_X4 : Cond.instanceMethod yX4_init ∈ lw_tg := lw_tg_of (List.mem_append_right _ (List.mem_of_getElem? (i := 183) (by decide +kernel))) (by decide +kernel)
theorem kl_X4 : Cond.methodLink RX4 3 Lib.objectInit ∈ lw_tg := lw_tg_of (List.mem_append_right _ (List.mem_of_getElem? (i := 185) (by decide +kernel))) (by decide +kernel)
theorem kn_X4 : Cond.initialized RX4 ∈ lw_tg := lw_tg_of (List.mem_append_right _ (List.mem_of_getElem? (i := 6) (by decide +kernel))) (by decide +kernel)
theorem kt_X4 : Cond.instantiable RX4 13 ∈ lw_tg := lw_tg_of (List.mem_append_right _ (List.mem_of_getElem? (i := 181) (by decide +kernel))) (by decide +kernel)
def K_X6 : ez_M := (yX6_init, cX6_init, 1, none, 1, 12)
theorem ko_X6 : ez_okM K_X6 := ⟨om_X6_init.1, om_X6_init.2.1, om_X6_init.2.2⟩
theorem ki_X6 : Cond.instanceMethod yX6_init ∈ lw_tg := lw_tg_of (List.mem_append_right _ (List.mem_of_getElem? (i := 531) (by decide +kernel))) (by decide +kernel)
theorem kl_X6 : Cond.methodLink RX6 1 Lib.objectInit ∈ lw_tg := lw_tg_of (List.mem_append_right _ (List.mem_of_getElem? (i := 533) (by decide +kernel))) (by decide +kernel)
theorem kn_X6 : Cond.initialized RX6 ∈ lw_tg := lw_tg_of (List.mem_append_right _ (List.mem_of_getElem? (i := 7) (by decide +kernel))) (by decide +kernel)
theorem kt_X6 : Cond.instantiable RX6 19 ∈ lw_tg := lw_tg_of (List.mem_append_right _ (List.mem_of_getElem? (i := 529) (by decide +kernel))) (by decide +kernel)
def K_X0 : ez_M := (yX0_init, cX0_init, 1, none, 2, 32)
theorem ko_X0 : ez_okM K_X0 := ⟨om_X0_init.1, om_X0_init.2.1, om_X0_init.2.2⟩
theorem ki_X0 : Cond.instanceMethod yX0_init ∈ lw_tg := lw_tg_of (List.mem_append_right _ (List.mem_of_getElem? (i := 96) (by decide +kernel))) (by decide +kernel)
theorem kl_X0 : Cond.methodLink RX0 3 Lib.objectInit ∈ lw_tg := lw_tg_of (List.mem_append_right _ (List.mem_of_getElem? (i := 98) (by decide +kernel))) (by decide +kernel)
theorem kn_X0 : Cond.initialized RX0 ∈ lw_tg := lw_tg_of (List.mem_append_right _ (List.mem_of_getElem? (i := 4) (by decide +kernel))) (by decide +kernel)
theorem kt_X0 : Cond.instantiable RX0 12 ∈ lw_tg := lw_tg_of (List.mem_append_right _ (List.mem_of_getElem? (i := 94) (by decide +kernel))) (by decide +kernel)
def K_X5 : ez_M := (yX5_init, cX5_init, 2, none, 3, 52)
theorem ko_X5 : ez_okM K_X5 := ⟨om_X5_init.1, om_X5_init.2.1, om_X5_init.2.2⟩
theorem ki_X5 : Cond.instanceMethod yX5_init ∈ lw_tg := lw_tg_of (List.mem_append_right _ (List.mem_of_getElem? (i := 13) (by decide +kernel))) (by decide +kernel)
theorem kl_X5 : Cond.methodLink RX5 3 Lib.objectInit ∈ lw_tg := lw_tg_of (List.mem_append_right _ (List.mem_of_getElem? (i := 15) (by decide +kernel))) (by decide +kernel)
theorem kn_X5 : Cond.initialized RX5 ∈ lw_tg := lw_tg_of (List.mem_append_right _ (List.mem_of_getElem? (i := 1) (by decide +kernel))) (by decide +kernel)
theorem kt_X5 : Cond.instantiable RX5 8 ∈ lw_tg := lw_tg_of (List.mem_append_right _ (List.mem_of_getElem? (i := 11) (by decide +kernel))) (by decide +kernel)
theorem kc_X5_9 : Cond.classLink RX5 9 RX3 ∈ lw_tg := lw_tg_of (List.mem_append_right _ (List.mem_of_getElem? (i := 18) (by decide +kernel))) (by decide +kernel)
theorem kc_X5_16 : Cond.classLink RX5 16 RX1 ∈ lw_tg := lw_tg_of (List.mem_append_right _ (List.mem_of_getElem? (i := 49) (by decide +kernel))) (by decide +kernel)
theorem kc_X5_23 : Cond.classLink RX5 23 RX0 ∈ lw_tg := lw_tg_of (List.mem_append_right _ (List.mem_of_getElem? (i := 93) (by decide +kernel))) (by decide +kernel)
theorem kc_X0_34 : Cond.classLink RX0 34 RX2 ∈ lw_tg := lw_tg_of (List.mem_append_right _ (List.mem_of_getElem? (i := 99) (by decide +kernel))) (by decide +kernel)
theorem kc_X5_30 : Cond.classLink RX5 30 RX4 ∈ lw_tg := lw_tg_of (List.mem_append_right _ (List.mem_of_getElem? (i := 180) (by decide +kernel))) (by decide +kernel)
theorem kw_int : Cond.arrayClass .int ∈ lw_tg := lw_tg_of (List.mem_append_right _ (List.mem_of_getElem? (i := 48) (by decide +kernel))) (by decide +kernel)
theorem kw_long : Cond.arrayClass .long ∈ lw_tg := lw_tg_of (List.mem_append_right _ (List.mem_of_getElem? (i := 141) (by decide +kernel))) (by decide +kernel)
theorem kw_boolean : Cond.arrayClass .boolean ∈ lw_tg := lw_tg_of (List.mem_append_right _ (List.mem_of_getElem? (i := 142) (by decide +kernel))) (by decide +kernel)
theorem kx_i : Cond.instanceMethod Lib.objectInit ∈ lw_tg := lw_tg_of (List.mem_append_right _ (List.mem_of_getElem? (i := 16) (by decide +kernel))) (by decide +kernel)
theorem kx_c : Cond.code Lib.objectInit ⟨#[0xb1]⟩ 1 none ∈ lw_tg := lw_tg_of (List.mem_append_right _ (List.mem_of_getElem? (i := 17) (by decide +kernel))) (by decide +kernel)
section
variable {p : Program} {l : Launch} {e : Env} {R : Room} {s : State} {m : MethodId} {args : Array Value} {below : List Frame} {meth : Method} {c : Code} {Z : State → Prop} {G : ez_G} {base nL n0 : Nat} {ad0 : Nat → Nat} {pc : Nat} {L st : List ez_V} {h : ez_H} {sf : ca_F} {n : Nat}
theorem ca_sf {sf' : ca_F} (hs : sf' = sf) (k : ca_E p l e R s m args below meth c Z G base nL n0 ad0 pc L st h sf' n) : ca_E p l e R s m args below meth c Z G base nL n0 ad0 pc L st h sf n := by
  subst hs
  exact k
theorem ca_nn {n' : Nat} (hs : n' = n) (k : ca_E p l e R s m args below meth c Z G base nL n0 ad0 pc L st h sf n') : ca_E p l e R s m args below meth c Z G base nL n0 ad0 pc L st h sf n := by
  subst hs
  exact k
end
theorem k_X3 {o : Nat} {h : ez_H} {sf : ca_F} (hp : ∃ q : Nat, q < 5 ∧ o = 2 + 3 * q) (ok : ci_ok sf (o + 1)) (okh : ez_okh h) (hz : ∀ o' k : Int, (o + 1 : Nat) ≤ o' → h o' k = 0) : ca_Ct K_X3 o (o + 1) (o + 1 + 1 + 1) h sf h (ca_rg sf o 2 4) := by
  have kd := (show ez_isP (o : Int) from by obtain ⟨q, q1, q2⟩ := hp; exact ⟨q, by omega, by omega, by omega⟩).kd
  have c1 : ((o + 1 : Nat) : Int) = (o : Int) + 1 := by omega
  have c2 : ((o + 1 + 1 : Nat) : Int) = (o : Int) + 2 := by omega
  refine ca_of (by decide) (by decide) rfl rfl (by omega) ok okh hz (fun p l e s m args below meth c G base ad0 C hr hi => ?_)
  refine ca_aload_n C dX3_init_0 rfl ?_
  refine ca_obj C dX3_init_1 kl_X3 kx_i kx_c ⟨Nat.le_refl 1, Nat.le_refl 12⟩ ?_
  refine ca_sf (ca_rg_0 sf o 2) ?_
  refine ca_aload_n C dX3_init_4 rfl ?_
  refine ca_bipush C dX3_init_5 (by decide) (by decide) ?_
  refine ca_newI C dX3_init_7 (by obtain ⟨q, q1, q2⟩ := hp; omega) (by show o + 1 - (o + 1) + 1 ≤ o + 1 + 1 + 1 - (o + 1) ∧ 2304 * (o + 1 - (o + 1)) + 2304 ≤ 2304 * (o + 1 + 1 + 1 - (o + 1)); omega) kw_int (by rw [c1]; exact kd.2.2.1) (by rw [c1]; exact kd.2.2.2.2.1) (by decide) ?_
  refine ca_putF C (o := o) (r := o + 1) (a := 2) 3 2 tyX3 tyX3_ok nmX3 rfl rfl (by decide) iw_3 (by decide) fl_X3_9 rfl hi rfl (fun _ => rfl) (fun _ => rfl) dX3_init_9 (by omega) (by omega) (by decide) kd.2.1 (by simp [ez_rf]) ?_
  refine ca_aload_n C dX3_init_12 rfl ?_
  refine ca_bipush C dX3_init_13 (by decide) (by decide) ?_
  refine ca_newI C dX3_init_15 (by obtain ⟨q, q1, q2⟩ := hp; omega) (by show o + 1 + 1 - (o + 1) + 1 ≤ o + 1 + 1 + 1 - (o + 1) ∧ 2304 * (o + 1 + 1 - (o + 1)) + 2304 ≤ 2304 * (o + 1 + 1 + 1 - (o + 1)); omega) kw_int (by rw [c2]; exact kd.2.2.2.1) (by rw [c2]; exact kd.2.2.2.2.2) (by decide) ?_
  refine ca_putF C (o := o) (r := o + 1 + 1) (a := 2) 3 3 tyX3 tyX3_ok nmX3 rfl rfl (by decide) iw_3 (by decide) fl_X3_15 rfl hi rfl (fun _ => rfl) (fun _ => rfl) dX3_init_17 (by omega) (by omega) (by decide) kd.2.1 (by simp [ez_rf]) ?_
  exact ca_ret C hr dX3_init_20
theorem k_X1 {o : Nat} {h : ez_H} {sf : ca_F} (hp : ∃ q : Nat, q < 25 ∧ o = 18 + 3 * q) (ok : ci_ok sf (o + 1)) (okh : ez_okh h) (hz : ∀ o' k : Int, (o + 1 : Nat) ≤ o' → h o' k = 0) : ca_Ct K_X1 o (o + 1) (o + 1 + 1 + 1) h sf h (ca_rg sf o 7 9) := by
  have kd := (show ez_isL (o : Int) from by obtain ⟨q, q1, q2⟩ := hp; exact ⟨q, by omega, by omega, by omega⟩).kd
  have c1 : ((o + 1 : Nat) : Int) = (o : Int) + 1 := by omega
  have c2 : ((o + 1 + 1 : Nat) : Int) = (o : Int) + 2 := by omega
  refine ca_of (by decide) (by decide) rfl rfl (by omega) ok okh hz (fun p l e s m args below meth c G base ad0 C hr hi => ?_)
  refine ca_aload_n C dX1_init_0 rfl ?_
  refine ca_obj C dX1_init_1 kl_X1 kx_i kx_c ⟨Nat.le_refl 1, Nat.le_refl 12⟩ ?_
  refine ca_sf (ca_rg_0 sf o 7) ?_
  refine ca_aload_n C dX1_init_4 rfl ?_
  refine ca_bipush C dX1_init_5 (by decide) (by decide) ?_
  refine ca_newI C dX1_init_7 (by obtain ⟨q, q1, q2⟩ := hp; omega) (by show o + 1 - (o + 1) + 1 ≤ o + 1 + 1 + 1 - (o + 1) ∧ 2304 * (o + 1 - (o + 1)) + 2304 ≤ 2304 * (o + 1 + 1 + 1 - (o + 1)); omega) kw_int (by rw [c1]; exact kd.2.2.1) (by rw [c1]; exact kd.2.2.2.2.1) (by decide) ?_
  refine ca_putF C (o := o) (r := o + 1) (a := 7) 1 7 tyX1 tyX1_ok nmX1 rfl rfl (by decide) iw_1 (by decide) fl_X1_9 rfl hi rfl (fun _ => rfl) (fun _ => rfl) dX1_init_9 (by omega) (by omega) (by decide) kd.2.1 (by simp [ez_rf]) ?_
  refine ca_aload_n C dX1_init_12 rfl ?_
  refine ca_bipush C dX1_init_13 (by decide) (by decide) ?_
  refine ca_newI C dX1_init_15 (by obtain ⟨q, q1, q2⟩ := hp; omega) (by show o + 1 + 1 - (o + 1) + 1 ≤ o + 1 + 1 + 1 - (o + 1) ∧ 2304 * (o + 1 + 1 - (o + 1)) + 2304 ≤ 2304 * (o + 1 + 1 + 1 - (o + 1)); omega) kw_int (by rw [c2]; exact kd.2.2.2.1) (by rw [c2]; exact kd.2.2.2.2.2) (by decide) ?_
  refine ca_putF C (o := o) (r := o + 1 + 1) (a := 7) 1 8 tyX1 tyX1_ok nmX1 rfl rfl (by decide) iw_1 (by decide) fl_X1_15 rfl hi rfl (fun _ => rfl) (fun _ => rfl) dX1_init_17 (by omega) (by omega) (by decide) kd.2.1 (by simp [ez_rf]) ?_
  exact ca_ret C hr dX1_init_20
theorem k_X2 {h : ez_H} {sf : ca_F} (ok : ci_ok sf 102) (okh : ez_okh h) (hz : ∀ o' k : Int, (102 : Nat) ≤ o' → h o' k = 0) : ca_Ct K_X2 101 102 110 h sf (h) (ca_rg sf 101 2 10) := by
  refine ca_of (by decide) (by decide) rfl rfl (by omega) ok okh hz (fun p l e s m args below meth c G base ad0 C hr hi => ?_)
  refine ca_aload_n C dX2_init_0 rfl ?_
  refine ca_obj C dX2_init_1 kl_X2 kx_i kx_c ⟨by decide, by decide⟩ ?_
  refine ca_sf (ca_rg_0 sf 101 2) ?_
  refine ca_aload_n C dX2_init_4 rfl ?_
  refine ca_bipush C dX2_init_5 (by decide) (by decide) ?_
  refine ca_newI C dX2_init_7 (by omega) (by show 102 - 102 + 1 ≤ 8 ∧ 2304 * (102 - 102) + 2304 ≤ 2304 * 8; omega) kw_int (by decide) (by decide) (by decide) ?_
  refine ca_nn (n' := 103) rfl ?_
  refine ca_putF C (o := 101) (r := 102) (a := 2) 2 2 tyX2 tyX2_ok nmX2 rfl rfl (by decide) iw_2 (by decide) fl_X2_9 rfl hi rfl (fun _ => rfl) (fun _ => rfl) dX2_init_9 (by omega) (by omega) (by decide) (by decide) (by decide) ?_
  refine ca_aload_n C dX2_init_12 rfl ?_
  refine ca_bipush C dX2_init_13 (by decide) (by decide) ?_
  refine ca_newJ C dX2_init_15 (by omega) (by show 103 - 102 + 1 ≤ 8 ∧ 2304 * (103 - 102) + 2304 ≤ 2304 * 8; omega) kw_long (by decide) (by decide) (by decide) ?_
  refine ca_nn (n' := 104) rfl ?_
  refine ca_putF C (o := 101) (r := 103) (a := 2) 2 3 tyX2 tyX2_ok nmX2 rfl rfl (by decide) iw_2 (by decide) fl_X2_15 rfl hi rfl (fun _ => rfl) (fun _ => rfl) dX2_init_17 (by omega) (by omega) (by decide) (by decide) (by decide) ?_
  refine ca_aload_n C dX2_init_20 rfl ?_
  refine ca_bipush C dX2_init_21 (by decide) (by decide) ?_
  refine ca_newJ C dX2_init_23 (by omega) (by show 104 - 102 + 1 ≤ 8 ∧ 2304 * (104 - 102) + 2304 ≤ 2304 * 8; omega) kw_long (by decide) (by decide) (by decide) ?_
  refine ca_nn (n' := 105) rfl ?_
  refine ca_putF C (o := 101) (r := 104) (a := 2) 2 4 tyX2 tyX2_ok nmX2 rfl rfl (by decide) iw_2 (by decide) fl_X2_19 rfl hi rfl (fun _ => rfl) (fun _ => rfl) dX2_init_25 (by omega) (by omega) (by decide) (by decide) (by decide) ?_
  refine ca_aload_n C dX2_init_28 rfl ?_
  refine ca_bipush C dX2_init_29 (by decide) (by decide) ?_
  refine ca_newJ C dX2_init_31 (by omega) (by show 105 - 102 + 1 ≤ 8 ∧ 2304 * (105 - 102) + 2304 ≤ 2304 * 8; omega) kw_long (by decide) (by decide) (by decide) ?_
  refine ca_nn (n' := 106) rfl ?_
  refine ca_putF C (o := 101) (r := 105) (a := 2) 2 5 tyX2 tyX2_ok nmX2 rfl rfl (by decide) iw_2 (by decide) fl_X2_22 rfl hi rfl (fun _ => rfl) (fun _ => rfl) dX2_init_33 (by omega) (by omega) (by decide) (by decide) (by decide) ?_
  refine ca_aload_n C dX2_init_36 rfl ?_
  refine ca_bipush C dX2_init_37 (by decide) (by decide) ?_
  refine ca_newJ C dX2_init_39 (by omega) (by show 106 - 102 + 1 ≤ 8 ∧ 2304 * (106 - 102) + 2304 ≤ 2304 * 8; omega) kw_long (by decide) (by decide) (by decide) ?_
  refine ca_nn (n' := 107) rfl ?_
  refine ca_putF C (o := 101) (r := 106) (a := 2) 2 6 tyX2 tyX2_ok nmX2 rfl rfl (by decide) iw_2 (by decide) fl_X2_25 rfl hi rfl (fun _ => rfl) (fun _ => rfl) dX2_init_41 (by omega) (by omega) (by decide) (by decide) (by decide) ?_
  refine ca_aload_n C dX2_init_44 rfl ?_
  refine ca_bipush C dX2_init_45 (by decide) (by decide) ?_
  refine ca_newI C dX2_init_47 (by omega) (by show 107 - 102 + 1 ≤ 8 ∧ 2304 * (107 - 102) + 2304 ≤ 2304 * 8; omega) kw_int (by decide) (by decide) (by decide) ?_
  refine ca_nn (n' := 108) rfl ?_
  refine ca_putF C (o := 101) (r := 107) (a := 2) 2 7 tyX2 tyX2_ok nmX2 rfl rfl (by decide) iw_2 (by decide) fl_X2_28 rfl hi rfl (fun _ => rfl) (fun _ => rfl) dX2_init_49 (by omega) (by omega) (by decide) (by decide) (by decide) ?_
  refine ca_aload_n C dX2_init_52 rfl ?_
  refine ca_bipush C dX2_init_53 (by decide) (by decide) ?_
  refine ca_newI C dX2_init_55 (by omega) (by show 108 - 102 + 1 ≤ 8 ∧ 2304 * (108 - 102) + 2304 ≤ 2304 * 8; omega) kw_int (by decide) (by decide) (by decide) ?_
  refine ca_nn (n' := 109) rfl ?_
  refine ca_putF C (o := 101) (r := 108) (a := 2) 2 8 tyX2 tyX2_ok nmX2 rfl rfl (by decide) iw_2 (by decide) fl_X2_31 rfl hi rfl (fun _ => rfl) (fun _ => rfl) dX2_init_57 (by omega) (by omega) (by decide) (by decide) (by decide) ?_
  refine ca_aload_n C dX2_init_60 rfl ?_
  refine ca_bipush C dX2_init_61 (by decide) (by decide) ?_
  refine ca_newZ C dX2_init_63 (by omega) (by show 109 - 102 + 1 ≤ 8 ∧ 2304 * (109 - 102) + 2304 ≤ 2304 * 8; omega) kw_boolean (by decide) (by decide) (by decide) ?_
  refine ca_nn (n' := 110) rfl ?_
  refine ca_putF C (o := 101) (r := 109) (a := 2) 2 9 tyX2 tyX2_ok nmX2 rfl rfl (by decide) iw_2 (by decide) fl_X2_34 rfl hi rfl (fun _ => rfl) (fun _ => rfl) dX2_init_65 (by omega) (by omega) (by decide) (by decide) (by decide) ?_
  exact ca_ret C hr dX2_init_68
theorem k_X4 {h : ez_H} {sf : ca_F} (ok : ci_ok sf 111) (okh : ez_okh h) (hz : ∀ o' k : Int, (111 : Nat) ≤ o' → h o' k = 0) : ca_Ct K_X4 110 111 121 h sf (h) (ca_rg sf 110 3 13) := by
  refine ca_of (by decide) (by decide) rfl rfl (by omega) ok okh hz (fun p l e s m args below meth c G base ad0 C hr hi => ?_)
  refine ca_aload_n C dX4_init_0 rfl ?_
  refine ca_obj C dX4_init_1 kl_X4 kx_i kx_c ⟨by decide, by decide⟩ ?_
  refine ca_sf (ca_rg_0 sf 110 3) ?_
  refine ca_aload_n C dX4_init_4 rfl ?_
  refine ca_bipush C dX4_init_5 (by decide) (by decide) ?_
  refine ca_newI C dX4_init_7 (by omega) (by show 111 - 111 + 1 ≤ 10 ∧ 2304 * (111 - 111) + 2304 ≤ 2304 * 10; omega) kw_int (by decide) (by decide) (by decide) ?_
  refine ca_nn (n' := 112) rfl ?_
  refine ca_putF C (o := 110) (r := 111) (a := 3) 4 3 tyX4 tyX4_ok nmX4 rfl rfl (by decide) iw_4 (by decide) fl_X4_9 rfl hi rfl (fun _ => rfl) (fun _ => rfl) dX4_init_9 (by omega) (by omega) (by decide) (by decide) (by decide) ?_
  refine ca_aload_n C dX4_init_12 rfl ?_
  refine ca_bipush C dX4_init_13 (by decide) (by decide) ?_
  refine ca_newI C dX4_init_15 (by omega) (by show 112 - 111 + 1 ≤ 10 ∧ 2304 * (112 - 111) + 2304 ≤ 2304 * 10; omega) kw_int (by decide) (by decide) (by decide) ?_
  refine ca_nn (n' := 113) rfl ?_
  refine ca_putF C (o := 110) (r := 112) (a := 3) 4 4 tyX4 tyX4_ok nmX4 rfl rfl (by decide) iw_4 (by decide) fl_X4_15 rfl hi rfl (fun _ => rfl) (fun _ => rfl) dX4_init_17 (by omega) (by omega) (by decide) (by decide) (by decide) ?_
  refine ca_aload_n C dX4_init_20 rfl ?_
  refine ca_bipush C dX4_init_21 (by decide) (by decide) ?_
  refine ca_newI C dX4_init_23 (by omega) (by show 113 - 111 + 1 ≤ 10 ∧ 2304 * (113 - 111) + 2304 ≤ 2304 * 10; omega) kw_int (by decide) (by decide) (by decide) ?_
  refine ca_nn (n' := 114) rfl ?_
  refine ca_putF C (o := 110) (r := 113) (a := 3) 4 5 tyX4 tyX4_ok nmX4 rfl rfl (by decide) iw_4 (by decide) fl_X4_18 rfl hi rfl (fun _ => rfl) (fun _ => rfl) dX4_init_25 (by omega) (by omega) (by decide) (by decide) (by decide) ?_
  refine ca_aload_n C dX4_init_28 rfl ?_
  refine ca_bipush C dX4_init_29 (by decide) (by decide) ?_
  refine ca_newI C dX4_init_31 (by omega) (by show 114 - 111 + 1 ≤ 10 ∧ 2304 * (114 - 111) + 2304 ≤ 2304 * 10; omega) kw_int (by decide) (by decide) (by decide) ?_
  refine ca_nn (n' := 115) rfl ?_
  refine ca_putF C (o := 110) (r := 114) (a := 3) 4 6 tyX4 tyX4_ok nmX4 rfl rfl (by decide) iw_4 (by decide) fl_X4_21 rfl hi rfl (fun _ => rfl) (fun _ => rfl) dX4_init_33 (by omega) (by omega) (by decide) (by decide) (by decide) ?_
  refine ca_aload_n C dX4_init_36 rfl ?_
  refine ca_bipush C dX4_init_37 (by decide) (by decide) ?_
  refine ca_newI C dX4_init_39 (by omega) (by show 115 - 111 + 1 ≤ 10 ∧ 2304 * (115 - 111) + 2304 ≤ 2304 * 10; omega) kw_int (by decide) (by decide) (by decide) ?_
  refine ca_nn (n' := 116) rfl ?_
  refine ca_putF C (o := 110) (r := 115) (a := 3) 4 7 tyX4 tyX4_ok nmX4 rfl rfl (by decide) iw_4 (by decide) fl_X4_24 rfl hi rfl (fun _ => rfl) (fun _ => rfl) dX4_init_41 (by omega) (by omega) (by decide) (by decide) (by decide) ?_
  refine ca_aload_n C dX4_init_44 rfl ?_
  refine ca_bipush C dX4_init_45 (by decide) (by decide) ?_
  refine ca_newI C dX4_init_47 (by omega) (by show 116 - 111 + 1 ≤ 10 ∧ 2304 * (116 - 111) + 2304 ≤ 2304 * 10; omega) kw_int (by decide) (by decide) (by decide) ?_
  refine ca_nn (n' := 117) rfl ?_
  refine ca_putF C (o := 110) (r := 116) (a := 3) 4 8 tyX4 tyX4_ok nmX4 rfl rfl (by decide) iw_4 (by decide) fl_X4_27 rfl hi rfl (fun _ => rfl) (fun _ => rfl) dX4_init_49 (by omega) (by omega) (by decide) (by decide) (by decide) ?_
  refine ca_aload_n C dX4_init_52 rfl ?_
  refine ca_bipush C dX4_init_53 (by decide) (by decide) ?_
  refine ca_newI C dX4_init_55 (by omega) (by show 117 - 111 + 1 ≤ 10 ∧ 2304 * (117 - 111) + 2304 ≤ 2304 * 10; omega) kw_int (by decide) (by decide) (by decide) ?_
  refine ca_nn (n' := 118) rfl ?_
  refine ca_putF C (o := 110) (r := 117) (a := 3) 4 9 tyX4 tyX4_ok nmX4 rfl rfl (by decide) iw_4 (by decide) fl_X4_30 rfl hi rfl (fun _ => rfl) (fun _ => rfl) dX4_init_57 (by omega) (by omega) (by decide) (by decide) (by decide) ?_
  refine ca_aload_n C dX4_init_60 rfl ?_
  refine ca_bipush C dX4_init_61 (by decide) (by decide) ?_
  refine ca_newI C dX4_init_63 (by omega) (by show 118 - 111 + 1 ≤ 10 ∧ 2304 * (118 - 111) + 2304 ≤ 2304 * 10; omega) kw_int (by decide) (by decide) (by decide) ?_
  refine ca_nn (n' := 119) rfl ?_
  refine ca_putF C (o := 110) (r := 118) (a := 3) 4 10 tyX4 tyX4_ok nmX4 rfl rfl (by decide) iw_4 (by decide) fl_X4_33 rfl hi rfl (fun _ => rfl) (fun _ => rfl) dX4_init_65 (by omega) (by omega) (by decide) (by decide) (by decide) ?_
  refine ca_aload_n C dX4_init_68 rfl ?_
  refine ca_bipush C dX4_init_69 (by decide) (by decide) ?_
  refine ca_newI C dX4_init_71 (by omega) (by show 119 - 111 + 1 ≤ 10 ∧ 2304 * (119 - 111) + 2304 ≤ 2304 * 10; omega) kw_int (by decide) (by decide) (by decide) ?_
  refine ca_nn (n' := 120) rfl ?_
  refine ca_putF C (o := 110) (r := 119) (a := 3) 4 11 tyX4 tyX4_ok nmX4 rfl rfl (by decide) iw_4 (by decide) fl_X4_36 rfl hi rfl (fun _ => rfl) (fun _ => rfl) dX4_init_73 (by omega) (by omega) (by decide) (by decide) (by decide) ?_
  refine ca_aload_n C dX4_init_76 rfl ?_
  refine ca_iconst C dX4_init_77 (by decide) ?_
  refine ca_newI C dX4_init_78 (by omega) (by show 120 - 111 + 1 ≤ 10 ∧ 2304 * (120 - 111) + 2304 ≤ 2304 * 10; omega) kw_int (by decide) (by decide) (by decide) ?_
  refine ca_nn (n' := 121) rfl ?_
  refine ca_putF C (o := 110) (r := 120) (a := 3) 4 12 tyX4 tyX4_ok nmX4 rfl rfl (by decide) iw_4 (by decide) fl_X4_39 rfl hi rfl (fun _ => rfl) (fun _ => rfl) dX4_init_80 (by omega) (by omega) (by decide) (by decide) (by decide) ?_
  exact ca_ret C hr dX4_init_83
theorem k_X6 {h : ez_H} {sf : ca_F} (ok : ci_ok sf 122) (okh : ez_okh h) (hz : ∀ o' k : Int, (122 : Nat) ≤ o' → h o' k = 0) : ca_Ct K_X6 121 122 133 h sf (ez_up h 121 1 3) (ca_rg sf 121 2 13) := by
  refine ca_of (by decide) (by decide) rfl rfl (by omega) ok okh hz (fun p l e s m args below meth c G base ad0 C hr hi => ?_)
  refine ca_aload_n C dX6_init_0 rfl ?_
  refine ca_obj C dX6_init_1 kl_X6 kx_i kx_c ⟨by decide, by decide⟩ ?_
  refine ca_sf (ca_rg_0 sf 121 2) ?_
  refine ca_aload_n C dX6_init_4 rfl ?_
  refine ca_iconst C dX6_init_5 (by decide) ?_
  refine ca_putI C (o := 121) 6 1 tyX6 tyX6_ok nmX6 rfl rfl (by decide) iw_6 (by decide) fl_X6_7 rfl rfl rfl dX6_init_6 (by omega) (by decide) (by decide) ?_
  refine ca_aload_n C dX6_init_9 rfl ?_
  refine ca_iconst C dX6_init_10 (by decide) ?_
  refine ca_newI C dX6_init_11 (by omega) (by show 122 - 122 + 1 ≤ 11 ∧ 2304 * (122 - 122) + 2304 ≤ 2304 * 11; omega) kw_int (by decide) (by decide) (by decide) ?_
  refine ca_nn (n' := 123) rfl ?_
  refine ca_putF C (o := 121) (r := 122) (a := 2) 6 2 tyX6 tyX6_ok nmX6 rfl rfl (by decide) iw_6 (by decide) fl_X6_13 rfl hi rfl (fun _ => rfl) (fun _ => rfl) dX6_init_13 (by omega) (by omega) (by decide) (by decide) (by decide) ?_
  refine ca_aload_n C dX6_init_16 rfl ?_
  refine ca_iconst C dX6_init_17 (by decide) ?_
  refine ca_newI C dX6_init_18 (by omega) (by show 123 - 122 + 1 ≤ 11 ∧ 2304 * (123 - 122) + 2304 ≤ 2304 * 11; omega) kw_int (by decide) (by decide) (by decide) ?_
  refine ca_nn (n' := 124) rfl ?_
  refine ca_putF C (o := 121) (r := 123) (a := 2) 6 3 tyX6 tyX6_ok nmX6 rfl rfl (by decide) iw_6 (by decide) fl_X6_17 rfl hi rfl (fun _ => rfl) (fun _ => rfl) dX6_init_20 (by omega) (by omega) (by decide) (by decide) (by decide) ?_
  refine ca_aload_n C dX6_init_23 rfl ?_
  refine ca_bipush C dX6_init_24 (by decide) (by decide) ?_
  refine ca_newI C dX6_init_26 (by omega) (by show 124 - 122 + 1 ≤ 11 ∧ 2304 * (124 - 122) + 2304 ≤ 2304 * 11; omega) kw_int (by decide) (by decide) (by decide) ?_
  refine ca_nn (n' := 125) rfl ?_
  refine ca_putF C (o := 121) (r := 124) (a := 2) 6 4 tyX6 tyX6_ok nmX6 rfl rfl (by decide) iw_6 (by decide) fl_X6_20 rfl hi rfl (fun _ => rfl) (fun _ => rfl) dX6_init_28 (by omega) (by omega) (by decide) (by decide) (by decide) ?_
  refine ca_aload_n C dX6_init_31 rfl ?_
  refine ca_bipush C dX6_init_32 (by decide) (by decide) ?_
  refine ca_newI C dX6_init_34 (by omega) (by show 125 - 122 + 1 ≤ 11 ∧ 2304 * (125 - 122) + 2304 ≤ 2304 * 11; omega) kw_int (by decide) (by decide) (by decide) ?_
  refine ca_nn (n' := 126) rfl ?_
  refine ca_putF C (o := 121) (r := 125) (a := 2) 6 5 tyX6 tyX6_ok nmX6 rfl rfl (by decide) iw_6 (by decide) fl_X6_23 rfl hi rfl (fun _ => rfl) (fun _ => rfl) dX6_init_36 (by omega) (by omega) (by decide) (by decide) (by decide) ?_
  refine ca_aload_n C dX6_init_39 rfl ?_
  refine ca_bipush C dX6_init_40 (by decide) (by decide) ?_
  refine ca_newZ C dX6_init_42 (by omega) (by show 126 - 122 + 1 ≤ 11 ∧ 2304 * (126 - 122) + 2304 ≤ 2304 * 11; omega) kw_boolean (by decide) (by decide) (by decide) ?_
  refine ca_nn (n' := 127) rfl ?_
  refine ca_putF C (o := 121) (r := 126) (a := 2) 6 6 tyX6 tyX6_ok nmX6 rfl rfl (by decide) iw_6 (by decide) fl_X6_26 rfl hi rfl (fun _ => rfl) (fun _ => rfl) dX6_init_44 (by omega) (by omega) (by decide) (by decide) (by decide) ?_
  refine ca_aload_n C dX6_init_47 rfl ?_
  refine ca_sipush C dX6_init_48 (by decide) (by decide) ?_
  refine ca_newI C dX6_init_51 (by omega) (by show 127 - 122 + 1 ≤ 11 ∧ 2304 * (127 - 122) + 2304 ≤ 2304 * 11; omega) kw_int (by decide) (by decide) (by decide) ?_
  refine ca_nn (n' := 128) rfl ?_
  refine ca_putF C (o := 121) (r := 127) (a := 2) 6 7 tyX6 tyX6_ok nmX6 rfl rfl (by decide) iw_6 (by decide) fl_X6_30 rfl hi rfl (fun _ => rfl) (fun _ => rfl) dX6_init_53 (by omega) (by omega) (by decide) (by decide) (by decide) ?_
  refine ca_aload_n C dX6_init_56 rfl ?_
  refine ca_sipush C dX6_init_57 (by decide) (by decide) ?_
  refine ca_newI C dX6_init_60 (by omega) (by show 128 - 122 + 1 ≤ 11 ∧ 2304 * (128 - 122) + 2304 ≤ 2304 * 11; omega) kw_int (by decide) (by decide) (by decide) ?_
  refine ca_nn (n' := 129) rfl ?_
  refine ca_putF C (o := 121) (r := 128) (a := 2) 6 8 tyX6 tyX6_ok nmX6 rfl rfl (by decide) iw_6 (by decide) fl_X6_33 rfl hi rfl (fun _ => rfl) (fun _ => rfl) dX6_init_62 (by omega) (by omega) (by decide) (by decide) (by decide) ?_
  refine ca_aload_n C dX6_init_65 rfl ?_
  refine ca_bipush C dX6_init_66 (by decide) (by decide) ?_
  refine ca_newI C dX6_init_68 (by omega) (by show 129 - 122 + 1 ≤ 11 ∧ 2304 * (129 - 122) + 2304 ≤ 2304 * 11; omega) kw_int (by decide) (by decide) (by decide) ?_
  refine ca_nn (n' := 130) rfl ?_
  refine ca_putF C (o := 121) (r := 129) (a := 2) 6 9 tyX6 tyX6_ok nmX6 rfl rfl (by decide) iw_6 (by decide) fl_X6_36 rfl hi rfl (fun _ => rfl) (fun _ => rfl) dX6_init_70 (by omega) (by omega) (by decide) (by decide) (by decide) ?_
  refine ca_aload_n C dX6_init_73 rfl ?_
  refine ca_bipush C dX6_init_74 (by decide) (by decide) ?_
  refine ca_newI C dX6_init_76 (by omega) (by show 130 - 122 + 1 ≤ 11 ∧ 2304 * (130 - 122) + 2304 ≤ 2304 * 11; omega) kw_int (by decide) (by decide) (by decide) ?_
  refine ca_nn (n' := 131) rfl ?_
  refine ca_putF C (o := 121) (r := 130) (a := 2) 6 10 tyX6 tyX6_ok nmX6 rfl rfl (by decide) iw_6 (by decide) fl_X6_39 rfl hi rfl (fun _ => rfl) (fun _ => rfl) dX6_init_78 (by omega) (by omega) (by decide) (by decide) (by decide) ?_
  refine ca_aload_n C dX6_init_81 rfl ?_
  refine ca_sipush C dX6_init_82 (by decide) (by decide) ?_
  refine ca_newI C dX6_init_85 (by omega) (by show 131 - 122 + 1 ≤ 11 ∧ 2304 * (131 - 122) + 2304 ≤ 2304 * 11; omega) kw_int (by decide) (by decide) (by decide) ?_
  refine ca_nn (n' := 132) rfl ?_
  refine ca_putF C (o := 121) (r := 131) (a := 2) 6 11 tyX6 tyX6_ok nmX6 rfl rfl (by decide) iw_6 (by decide) fl_X6_42 rfl hi rfl (fun _ => rfl) (fun _ => rfl) dX6_init_87 (by omega) (by omega) (by decide) (by decide) (by decide) ?_
  refine ca_aload_n C dX6_init_90 rfl ?_
  refine ca_bipush C dX6_init_91 (by decide) (by decide) ?_
  refine ca_newI C dX6_init_93 (by omega) (by show 132 - 122 + 1 ≤ 11 ∧ 2304 * (132 - 122) + 2304 ≤ 2304 * 11; omega) kw_int (by decide) (by decide) (by decide) ?_
  refine ca_nn (n' := 133) rfl ?_
  refine ca_putF C (o := 121) (r := 132) (a := 2) 6 12 tyX6 tyX6_ok nmX6 rfl rfl (by decide) iw_6 (by decide) fl_X6_45 rfl hi rfl (fun _ => rfl) (fun _ => rfl) dX6_init_95 (by omega) (by omega) (by decide) (by decide) (by decide) ?_
  exact ca_ret C hr dX6_init_98
theorem k_X0 {h : ez_H} {sf : ca_F} (ok : ci_ok sf 94) (okh : ez_okh h) (hz : ∀ o' k : Int, (94 : Nat) ≤ o' → h o' k = 0) : ca_Ct K_X0 93 94 110 h sf (h) (ca_rg (ca_rg sf 101 2 10) 93 0 8) := by
  refine ca_of (by decide) (by decide) rfl rfl (by omega) ok okh hz (fun p l e s m args below meth c G base ad0 C hr hi => ?_)
  refine ca_aload_n C dX0_init_0 rfl ?_
  refine ca_obj C dX0_init_1 kl_X0 kx_i kx_c ⟨by decide, by decide⟩ ?_
  refine ca_sf (ca_rg_0 sf 93 0) ?_
  refine ca_aload_n C dX0_init_4 rfl ?_
  refine ca_bipush C dX0_init_5 (by decide) (by decide) ?_
  refine ca_newJ C dX0_init_7 (by omega) (by show 94 - 94 + 1 ≤ 16 ∧ 2304 * (94 - 94) + 2304 ≤ 2304 * 16; omega) kw_long (by decide) (by decide) (by decide) ?_
  refine ca_nn (n' := 95) rfl ?_
  refine ca_putF C (o := 93) (r := 94) (a := 0) 0 0 tyX0 tyX0_ok nmX0 rfl rfl (by decide) iw_0 (by decide) fl_X0_11 rfl hi rfl (fun _ => rfl) (fun _ => rfl) dX0_init_9 (by omega) (by omega) (by decide) (by decide) (by decide) ?_
  refine ca_aload_n C dX0_init_12 rfl ?_
  refine ca_bipush C dX0_init_13 (by decide) (by decide) ?_
  refine ca_newI C dX0_init_15 (by omega) (by show 95 - 94 + 1 ≤ 16 ∧ 2304 * (95 - 94) + 2304 ≤ 2304 * 16; omega) kw_int (by decide) (by decide) (by decide) ?_
  refine ca_nn (n' := 96) rfl ?_
  refine ca_putF C (o := 93) (r := 95) (a := 0) 0 1 tyX0 tyX0_ok nmX0 rfl rfl (by decide) iw_0 (by decide) fl_X0_15 rfl hi rfl (fun _ => rfl) (fun _ => rfl) dX0_init_17 (by omega) (by omega) (by decide) (by decide) (by decide) ?_
  refine ca_aload_n C dX0_init_20 rfl ?_
  refine ca_bipush C dX0_init_21 (by decide) (by decide) ?_
  refine ca_newI C dX0_init_23 (by omega) (by show 96 - 94 + 1 ≤ 16 ∧ 2304 * (96 - 94) + 2304 ≤ 2304 * 16; omega) kw_int (by decide) (by decide) (by decide) ?_
  refine ca_nn (n' := 97) rfl ?_
  refine ca_putF C (o := 93) (r := 96) (a := 0) 0 2 tyX0 tyX0_ok nmX0 rfl rfl (by decide) iw_0 (by decide) fl_X0_19 rfl hi rfl (fun _ => rfl) (fun _ => rfl) dX0_init_25 (by omega) (by omega) (by decide) (by decide) (by decide) ?_
  refine ca_aload_n C dX0_init_28 rfl ?_
  refine ca_bipush C dX0_init_29 (by decide) (by decide) ?_
  refine ca_newI C dX0_init_31 (by omega) (by show 97 - 94 + 1 ≤ 16 ∧ 2304 * (97 - 94) + 2304 ≤ 2304 * 16; omega) kw_int (by decide) (by decide) (by decide) ?_
  refine ca_nn (n' := 98) rfl ?_
  refine ca_putF C (o := 93) (r := 97) (a := 0) 0 3 tyX0 tyX0_ok nmX0 rfl rfl (by decide) iw_0 (by decide) fl_X0_22 rfl hi rfl (fun _ => rfl) (fun _ => rfl) dX0_init_33 (by omega) (by omega) (by decide) (by decide) (by decide) ?_
  refine ca_aload_n C dX0_init_36 rfl ?_
  refine ca_bipush C dX0_init_37 (by decide) (by decide) ?_
  refine ca_newI C dX0_init_39 (by omega) (by show 98 - 94 + 1 ≤ 16 ∧ 2304 * (98 - 94) + 2304 ≤ 2304 * 16; omega) kw_int (by decide) (by decide) (by decide) ?_
  refine ca_nn (n' := 99) rfl ?_
  refine ca_putF C (o := 93) (r := 98) (a := 0) 0 4 tyX0 tyX0_ok nmX0 rfl rfl (by decide) iw_0 (by decide) fl_X0_25 rfl hi rfl (fun _ => rfl) (fun _ => rfl) dX0_init_41 (by omega) (by omega) (by decide) (by decide) (by decide) ?_
  refine ca_aload_n C dX0_init_44 rfl ?_
  refine ca_bipush C dX0_init_45 (by decide) (by decide) ?_
  refine ca_newI C dX0_init_47 (by omega) (by show 99 - 94 + 1 ≤ 16 ∧ 2304 * (99 - 94) + 2304 ≤ 2304 * 16; omega) kw_int (by decide) (by decide) (by decide) ?_
  refine ca_nn (n' := 100) rfl ?_
  refine ca_putF C (o := 93) (r := 99) (a := 0) 0 5 tyX0 tyX0_ok nmX0 rfl rfl (by decide) iw_0 (by decide) fl_X0_28 rfl hi rfl (fun _ => rfl) (fun _ => rfl) dX0_init_49 (by omega) (by omega) (by decide) (by decide) (by decide) ?_
  refine ca_aload_n C dX0_init_52 rfl ?_
  refine ca_bipush C dX0_init_53 (by decide) (by decide) ?_
  refine ca_newI C dX0_init_55 (by omega) (by show 100 - 94 + 1 ≤ 16 ∧ 2304 * (100 - 94) + 2304 ≤ 2304 * 16; omega) kw_int (by decide) (by decide) (by decide) ?_
  refine ca_nn (n' := 101) rfl ?_
  refine ca_putF C (o := 93) (r := 100) (a := 0) 0 6 tyX0 tyX0_ok nmX0 rfl rfl (by decide) iw_0 (by decide) fl_X0_31 rfl hi rfl (fun _ => rfl) (fun _ => rfl) dX0_init_57 (by omega) (by omega) (by decide) (by decide) (by decide) ?_
  refine ca_aload_n C dX0_init_60 rfl ?_
  refine ca_newO C 2 tyX2 tyX2_ok rfl rfl (by decide) iw_2 kc_X0_34 kt_X2 kn_X2 (by decide) dX0_init_61 (by omega) (by show 101 - 94 + 1 ≤ 16 ∧ 2304 * (101 - 94) + 2304 ≤ 2304 * 16; omega) (by decide) (fun j hj => by rcases (show j = 0 ∨ j = 1 ∨ j = 2 ∨ j = 3 ∨ j = 4 ∨ j = 5 ∨ j = 6 ∨ j = 7 ∨ j = 8 ∨ j = 9 by omega) with rfl | rfl | rfl | rfl | rfl | rfl | rfl | rfl | rfl | rfl <;> rfl) ?_
  refine ca_nn (n' := 102) rfl ?_
  refine ca_dup C dX0_init_64 rfl ?_
  refine ca_callIN C (N := K_X2) (o := 101) (n1 := 110) dX0_init_65 ko_X2 rfl ki_X2 rfl (by decide) ⟨by decide, by decide, by decide⟩ (by omega) (by show 110 - 94 ≤ 16 ∧ 2304 * (110 - 94) ≤ 2304 * 16; omega) (Nat.le_of_ble_eq_true rfl) (fun ok okh hz => k_X2 ok okh hz) ?_
  refine ca_sf (ca_rg_comm (sf := sf) (o := 101) (a := 2) (b := 10) (o2 := 93) (a2 := 0) (b2 := 7)) ?_
  refine ca_putF C (o := 93) (r := 101) (a := 0) 0 7 tyX0 tyX0_ok nmX0 rfl rfl (by decide) iw_0 (by decide) fl_X0_37 rfl hi rfl (fun _ => rfl) (fun _ => rfl) dX0_init_68 (by omega) (by omega) (by decide) (by decide) (by decide) ?_
  exact ca_ret C hr dX0_init_71
