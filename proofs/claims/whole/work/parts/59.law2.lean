/-! THE CLAIM OUT OF ONE WALK OF THE LAW'S BODY. Your part is whole_start (and what it stands on); all else here is the same for every law, but numbers. -/
def R_law : String := "StarPlatesLaw"
def lw_P (b : Addr) (xs : List Int32) (args : Array Value) (s : State) : Prop := args = #[.ref b] ∧ s.IntsAt b xs ∧ xs.length ≤ 2048 ∧ (Jvm.Cond.and given_1 narrow_1).before args s = true
def lw_Q (_ : Array Value) (s : State) (o : Outcome) (t : State) : Prop := o = .returned (some (.int 1)) ∧ Framed s o t [] 600000 7302250
def lw_Z (below : List Frame) (a : Array Value) (s : State) : State → Prop := fun t => ∃ o, t.status = .running ∧ Ended t below o ∧ lw_Q a s o t
/-- the law's own end, with 1 on the stack, nothing written that was there before, its room as the claim has it -/
theorem lw_ret {p : Program} {l : Launch} {e : Env} {s : State} {m : MethodId} {below : List Frame} {meth : Method} {c : Code} {b : Nat} (hx : p.tables.exec = Jvm.exec) (hb : c.code = code) (hr : meth.sig.returnType = ret) (hlocks : meth.locks = false) {pc : Nat} {H : Heap} {ls : Array Slot} (hdg : decode code pc = .ok (.ireturn, 1)) : W p l e room_1 s m #[Value.ref b] below meth c H [] 600000 7302250 (lw_Z below #[Value.ref b] s) (F0 m pc ls [.int 1]) := by
  intro T hT X
  obtain ⟨fs, hret, hrun, hended, hW, hframe⟩ := X.leave (v := some (.int 1)) (hlocks := hlocks) (fun h => by rw [hr] at h; cases h)
  have hmeth' : T.vm.method? m = some meth := X.method'
  refine ⟨T.setFrames fs, ?_, .returned (some (.int 1)), hrun, hended, rfl, ⟨_, rfl⟩, hW, hframe⟩
  jvm_step X.here [X.here.top, hx, hb, hdg, hmeth', hr, ret, narrow_b1]
  (try refine ⟨rfl, ?_⟩); (try refine ⟨rfl, ?_⟩)
  first | (intro acts; rw [hret _ acts rfl rfl rfl]) | rw [hret _ _ rfl rfl rfl]
  exact Steps.refl _
/-- what holds at the law's entry: the machine, the code, the tables' words (any of lw_tbl by 'hts w (by decide +kernel)'), the script of L ints xs at the cell b, what the Statement gives of the start (any of its parts by flat_of_before) -/
def lw_At (p : Program) (s : State) (m : MethodId) (meth : Method) (c : Code) (b L : Nat) (xs : Nat → Int32) : Prop :=
  p.tables.exec = Jvm.exec ∧ c.code = code ∧ meth.sig.returnType = ret ∧ c.maxLocals = 4 ∧ s.vm.findClass R_law = some m.cls ∧ (∀ w ∈ lw_tbl, w.before #[Value.ref b] s = true) ∧ va_X b L xs s s.heap ∧ b < s.heap.size ∧ meth.locks = false ∧ (Jvm.Cond.and given_1 narrow_1).before #[Value.ref b] s = true
theorem ml_L_9 : Cond.methodLink R_law 9 yX5_init ∈ lw_tg := lw_tg_of (List.mem_append_right _ (List.mem_of_getElem? (i := 12) (by decide +kernel))) (by decide +kernel)
theorem ml_L_13 : Cond.methodLink R_law 13 yX5_plate ∈ lw_tg := lw_tg_of (List.mem_append_right _ (List.mem_of_getElem? (i := 262) (by decide +kernel))) (by decide +kernel)
theorem ml_L_18 : Cond.methodLink R_law 18 yX5_spot ∈ lw_tg := lw_tg_of (List.mem_append_right _ (List.mem_of_getElem? (i := 270) (by decide +kernel))) (by decide +kernel)
theorem ml_L_23 : Cond.methodLink R_law 23 yX5_wipe ∈ lw_tg := lw_tg_of (List.mem_append_right _ (List.mem_of_getElem? (i := 293) (by decide +kernel))) (by decide +kernel)
theorem ml_L_28 : Cond.methodLink R_law 28 yX5_reach ∈ lw_tg := lw_tg_of (List.mem_append_right _ (List.mem_of_getElem? (i := 305) (by decide +kernel))) (by decide +kernel)
theorem ml_L_33 : Cond.methodLink R_law 33 yX5_look ∈ lw_tg := lw_tg_of (List.mem_append_right _ (List.mem_of_getElem? (i := 309) (by decide +kernel))) (by decide +kernel)
theorem ml_L_37 : Cond.methodLink R_law 37 yX5_of ∈ lw_tg := lw_tg_of (List.mem_append_right _ (List.mem_of_getElem? (i := 460) (by decide +kernel))) (by decide +kernel)
theorem ml_L_42 : Cond.methodLink R_law 42 yX5_lay ∈ lw_tg := lw_tg_of (List.mem_append_right _ (List.mem_of_getElem? (i := 464) (by decide +kernel))) (by decide +kernel)
theorem ml_L_46 : Cond.methodLink R_law 46 yX5_pair ∈ lw_tg := lw_tg_of (List.mem_append_right _ (List.mem_of_getElem? (i := 468) (by decide +kernel))) (by decide +kernel)
theorem ml_L_50 : Cond.methodLink R_law 50 yX5_track ∈ lw_tg := lw_tg_of (List.mem_append_right _ (List.mem_of_getElem? (i := 472) (by decide +kernel))) (by decide +kernel)
theorem ml_L_54 : Cond.methodLink R_law 54 yX5_place ∈ lw_tg := lw_tg_of (List.mem_append_right _ (List.mem_of_getElem? (i := 480) (by decide +kernel))) (by decide +kernel)
theorem ml_L_58 : Cond.methodLink R_law 58 yX5_motion ∈ lw_tg := lw_tg_of (List.mem_append_right _ (List.mem_of_getElem? (i := 484) (by decide +kernel))) (by decide +kernel)
theorem ml_L_62 : Cond.methodLink R_law 62 yX5_tell ∈ lw_tg := lw_tg_of (List.mem_append_right _ (List.mem_of_getElem? (i := 491) (by decide +kernel))) (by decide +kernel)
theorem ml_L_66 : Cond.methodLink R_law 66 yX5_foretell ∈ lw_tg := lw_tg_of (List.mem_append_right _ (List.mem_of_getElem? (i := 506) (by decide +kernel))) (by decide +kernel)
theorem ml_L_70 : Cond.methodLink R_law 70 yX5_slip ∈ lw_tg := lw_tg_of (List.mem_append_right _ (List.mem_of_getElem? (i := 514) (by decide +kernel))) (by decide +kernel)
theorem ml_L_12 : Cond.methodLink R_law 12 yX6_init ∈ lw_tg := lw_tg_of (List.mem_append_right _ (List.mem_of_getElem? (i := 530) (by decide +kernel))) (by decide +kernel)
theorem ml_L_17 : Cond.methodLink R_law 17 yX6_plate ∈ lw_tg := lw_tg_of (List.mem_append_right _ (List.mem_of_getElem? (i := 592) (by decide +kernel))) (by decide +kernel)
theorem ml_L_22 : Cond.methodLink R_law 22 yX6_spot ∈ lw_tg := lw_tg_of (List.mem_append_right _ (List.mem_of_getElem? (i := 603) (by decide +kernel))) (by decide +kernel)
theorem ml_L_27 : Cond.methodLink R_law 27 yX6_wipe ∈ lw_tg := lw_tg_of (List.mem_append_right _ (List.mem_of_getElem? (i := 611) (by decide +kernel))) (by decide +kernel)
theorem ml_L_32 : Cond.methodLink R_law 32 yX6_reach ∈ lw_tg := lw_tg_of (List.mem_append_right _ (List.mem_of_getElem? (i := 615) (by decide +kernel))) (by decide +kernel)
theorem ml_L_45 : Cond.methodLink R_law 45 yX6_lay ∈ lw_tg := lw_tg_of (List.mem_append_right _ (List.mem_of_getElem? (i := 619) (by decide +kernel))) (by decide +kernel)
theorem ml_L_49 : Cond.methodLink R_law 49 yX6_pair ∈ lw_tg := lw_tg_of (List.mem_append_right _ (List.mem_of_getElem? (i := 670) (by decide +kernel))) (by decide +kernel)
theorem ml_L_53 : Cond.methodLink R_law 53 yX6_track ∈ lw_tg := lw_tg_of (List.mem_append_right _ (List.mem_of_getElem? (i := 674) (by decide +kernel))) (by decide +kernel)
theorem ml_L_57 : Cond.methodLink R_law 57 yX6_place ∈ lw_tg := lw_tg_of (List.mem_append_right _ (List.mem_of_getElem? (i := 694) (by decide +kernel))) (by decide +kernel)
theorem ml_L_61 : Cond.methodLink R_law 61 yX6_motion ∈ lw_tg := lw_tg_of (List.mem_append_right _ (List.mem_of_getElem? (i := 702) (by decide +kernel))) (by decide +kernel)
theorem ml_L_65 : Cond.methodLink R_law 65 yX6_tell ∈ lw_tg := lw_tg_of (List.mem_append_right _ (List.mem_of_getElem? (i := 713) (by decide +kernel))) (by decide +kernel)
theorem ml_L_69 : Cond.methodLink R_law 69 yX6_foretell ∈ lw_tg := lw_tg_of (List.mem_append_right _ (List.mem_of_getElem? (i := 725) (by decide +kernel))) (by decide +kernel)
theorem ml_L_36 : Cond.methodLink R_law 36 yX6_look ∈ lw_tg := lw_tg_of (List.mem_append_right _ (List.mem_of_getElem? (i := 733) (by decide +kernel))) (by decide +kernel)
theorem ml_L_41 : Cond.methodLink R_law 41 yX6_of ∈ lw_tg := lw_tg_of (List.mem_append_right _ (List.mem_of_getElem? (i := 737) (by decide +kernel))) (by decide +kernel)
theorem ml_L_73 : Cond.methodLink R_law 73 yX6_slip ∈ lw_tg := lw_tg_of (List.mem_append_right _ (List.mem_of_getElem? (i := 741) (by decide +kernel))) (by decide +kernel)
/-! rows of the law's own loop -/
def lq_C (p : Program) (s : State) (m : MethodId) (meth : Method) (c : Code) (b L : Nat) (xs : Nat → Int32) (G : ez_G) (ad : Nat → Nat) : Prop :=
  p.tables.exec = Jvm.exec ∧ c.code = cL_law ∧ c.maxLocals = 4 ∧ s.vm.findClass R_law = some m.cls ∧ (∀ w ∈ lw_tg, w.before #[Value.ref b] s = true) ∧ meth.locks = false ∧ va_K G.1 vwCl (ez_ty G) s ∧ va_Z RX0 "GAPS" "[I" (.ref (ad 200)) (ez_A s.heap.size) s s.heap ∧ va_T .int (ad 200) 4 ez_gp (ez_A s.heap.size) s s.heap ∧ ez_NW s ∧ ad 201 = b ∧ va_X b L xs s s.heap ∧ b < s.heap.size ∧ meth.sig.returnType = ret
def lq_E (p : Program) (l : Launch) (e : Env) (s : State) (m : MethodId) (below : List Frame) (meth : Method) (c : Code) (b : Nat) (G : ez_G) (ad : Nat → Nat) (pc : Nat) (L st : List ez_V) (h : ez_H) : Prop :=
  ∀ (H : Heap) (locs : List Loc) (ls : Array Slot), ez_Rp G s.heap.size ad h s H locs → ez_ls ad ls 4 L → ez_oks L → ez_oks st → W p l e room_1 s m #[Value.ref b] below meth c H locs 600000 7302250 (lw_Z below #[Value.ref b] s) (F0 m pc ls (st.map (ez_rv ad)))
def lw_x (xs : Nat → Int32) (z : Int) : Int := (xs z.toNat).toInt
section
variable {p : Program} {l : Launch} {e : Env} {s : State} {m : MethodId} {below : List Frame} {meth : Method} {c : Code} {b N : Nat} {xs : Nat → Int32} {G : ez_G} {ad : Nat → Nat} {pc : Nat} {L st : List ez_V} {h : ez_H}
theorem lq_iconst (C : lq_C p s m meth c b N xs G ad) {z : Int} (hd : decode cL_law pc = .ok (.iconst z, 1)) (hn : in32 z) (k : lq_E p l e s m below meth c b G ad (pc + 1) (L) (ez_I z :: st) (h)) : lq_E p l e s m below meth c b G ad (pc) (L) (st) (h) := by
  intro H locs ls Rr hl hL hs
  exact lv_iconst C.1 C.2.1 hd rfl (k H locs ls Rr hl hL (hs.cons hn))
theorem lq_bipush (C : lq_C p s m meth c b N xs G ad) {z : Int} (hd : decode cL_law pc = .ok (.bipush z, 2)) (hv : (Int8.ofInt z).toInt32 = Int32.ofInt z) (hn : in32 z) (k : lq_E p l e s m below meth c b G ad (pc + 2) (L) (ez_I z :: st) (h)) : lq_E p l e s m below meth c b G ad (pc) (L) (st) (h) := by
  intro H locs ls Rr hl hL hs
  exact lv_bipush C.1 C.2.1 hd hv (k H locs ls Rr hl hL (hs.cons hn))
theorem lq_aload_n (C : lq_C p s m meth c b N xs G ad) {k0 : Fin 4} {z : Int} (hd : decode cL_law pc = .ok (.aload_n k0, 1)) (hz : L[(k0 : Nat)]? = some (ez_R z)) (k : lq_E p l e s m below meth c b G ad (pc + 1) (L) (ez_R z :: st) (h)) : lq_E p l e s m below meth c b G ad (pc) (L) (st) (h) := by
  intro H locs ls Rr hl hL hs
  exact lv_aload_n C.1 C.2.1 hd rfl (hl.2.2 _ _ hz (fun q => by cases q)) (k H locs ls Rr hl hL (hs.cons (hL.at hz)))
theorem lq_iload_n (C : lq_C p s m meth c b N xs G ad) {k0 : Fin 4} {z : Int} (hd : decode cL_law pc = .ok (.iload_n k0, 1)) (hz : L[(k0 : Nat)]? = some (ez_I z)) (k : lq_E p l e s m below meth c b G ad (pc + 1) (L) (ez_I z :: st) (h)) : lq_E p l e s m below meth c b G ad (pc) (L) (st) (h) := by
  intro H locs ls Rr hl hL hs
  exact lv_iload_n C.1 C.2.1 hd rfl (hl.2.2 _ _ hz (fun q => by cases q)) (k H locs ls Rr hl hL (hs.cons (hL.at hz)))
theorem lq_istore_n (C : lq_C p s m meth c b N xs G ad) {k0 : Fin 4} {z : Int} (hd : decode cL_law pc = .ok (.istore_n k0, 1)) (hn : (k0 : Nat) < 4) (k : lq_E p l e s m below meth c b G ad (pc + 1) (ez_set L (k0 : Nat) (ez_I z)) (st) (h)) : lq_E p l e s m below meth c b G ad (pc) (L) (ez_I z :: st) (h) := by
  intro H locs ls Rr hl hL hs
  exact lv_istore_n C.1 C.2.1 hd rfl hl.has hn rfl (fun ls' hl2 => k H locs ls' Rr (ez_ls.set rfl hl2) (hL.set hs.head) hs.tail)
theorem lq_iinc (C : lq_C p s m meth c b N xs G ad) {i : Nat} {q z : Int} (hd : decode cL_law pc = .ok (.iinc i q, 3)) (hz : L[i]? = some (ez_I z)) (hn : i < 4) (h1 : in32 q) (hr1 : in32 (z + q)) (k : lq_E p l e s m below meth c b G ad (pc + 3) (ez_set L i (ez_I (z + q))) (st) (h)) : lq_E p l e s m below meth c b G ad (pc) (L) (st) (h) := by
  intro H locs ls Rr hl hL hs
  obtain ⟨k0, hk0⟩ := List.getElem?_of_mem (ez_lv_mem (ad := ad) hz (fun q => by cases q))
  exact lv_iinc C.1 C.2.1 hd hl.has hk0 (e3_add (hL.at hz) h1 hr1) hn rfl (fun ls' hl2 => k H locs ls' Rr (ez_ls.set rfl hl2) (hL.set hr1) hs)
theorem lq_goto (C : lq_C p s m meth c b N xs G ad) {off : Int} (tgt : Nat) (hd : decode cL_law pc = .ok (.goto off, 3)) (ht : (pc : Int) + off = (tgt : Int)) (k : lq_E p l e s m below meth c b G ad (tgt) (L) (st) (h)) : lq_E p l e s m below meth c b G ad (pc) (L) (st) (h) := by
  intro H locs ls Rr hl hL hs
  exact lv_goto C.1 C.2.1 hd ht (k H locs ls Rr hl hL hs)
theorem lq_iadd (C : lq_C p s m meth c b N xs G ad) {x y : Int} (hd : decode cL_law pc = .ok (.iadd, 1)) (hr : in32 (x + y)) (k : lq_E p l e s m below meth c b G ad (pc + 1) (L) (ez_I (x + y) :: st) (h)) : lq_E p l e s m below meth c b G ad (pc) (L) (ez_I y :: ez_I x :: st) (h) := by
  intro H locs ls Rr hl hL hs
  have k1 := k H locs ls Rr hl hL (hs.tail.tail.cons hr)
  refine lv_iadd C.1 C.2.1 hd ?_
  rw [e3_add hs.tail.head hs.head hr]
  exact k1
theorem lq_isub (C : lq_C p s m meth c b N xs G ad) {x y : Int} (hd : decode cL_law pc = .ok (.isub, 1)) (hr : in32 (x - y)) (k : lq_E p l e s m below meth c b G ad (pc + 1) (L) (ez_I (x - y) :: st) (h)) : lq_E p l e s m below meth c b G ad (pc) (L) (ez_I y :: ez_I x :: st) (h) := by
  intro H locs ls Rr hl hL hs
  have k1 := k H locs ls Rr hl hL (hs.tail.tail.cons hr)
  refine lv_isub C.1 C.2.1 hd ?_
  rw [e3_sub hs.tail.head hs.head hr]
  exact k1
theorem lq_iand (C : lq_C p s m meth c b N xs G ad) {x y : Int} (hd : decode cL_law pc = .ok (.iand, 1)) (k : ∀ z : Int, lq_E p l e s m below meth c b G ad (pc + 1) (L) (ez_I z :: st) (h)) : lq_E p l e s m below meth c b G ad (pc) (L) (ez_I y :: ez_I x :: st) (h) := by
  intro H locs ls Rr hl hL hs
  have hz : in32 (Int32.ofInt x &&& Int32.ofInt y).toInt := ⟨by have := Int32.le_toInt (Int32.ofInt x &&& Int32.ofInt y); omega, by have := Int32.toInt_lt (Int32.ofInt x &&& Int32.ofInt y); omega⟩
  have k1 := k (Int32.ofInt x &&& Int32.ofInt y).toInt H locs ls Rr hl hL (hs.tail.tail.cons hz)
  refine lv_iand C.1 C.2.1 hd ?_
  rw [e3_eq hz rfl]
  exact k1
theorem lq_ic_gt (C : lq_C p s m meth c b N xs G ad) {x y off : Int} (tgt : Nat) (hd : decode cL_law pc = .ok (.if_icmp .gt off, 3)) (ht : (pc : Int) + off = (tgt : Int)) (kt : y < x → lq_E p l e s m below meth c b G ad (tgt) (L) (st) (h)) (kf : ¬ y < x → lq_E p l e s m below meth c b G ad (pc + 3) (L) (st) (h)) : lq_E p l e s m below meth c b G ad (pc) (L) (ez_I y :: ez_I x :: st) (h) := by
  intro H locs ls Rr hl hL hs
  have e0 := e3_lt hs.head hs.tail.head
  exact lv_icmp_gt C.1 C.2.1 hd ht (fun q => kt (e0.mp q) H locs ls Rr hl hL hs.tail.tail) (fun q => kf (fun z => q (e0.mpr z)) H locs ls Rr hl hL hs.tail.tail)
theorem lq_ic_eq (C : lq_C p s m meth c b N xs G ad) {x y off : Int} (tgt : Nat) (hd : decode cL_law pc = .ok (.if_icmp .eq off, 3)) (ht : (pc : Int) + off = (tgt : Int)) (he : x = y) (kt : lq_E p l e s m below meth c b G ad (tgt) (L) (st) (h)) : lq_E p l e s m below meth c b G ad (pc) (L) (ez_I y :: ez_I x :: st) (h) := by
  intro H locs ls Rr hl hL hs
  have e0 := e3_eqI hs.tail.head hs.head
  exact lv_icmp_eq C.1 C.2.1 hd ht (fun q => kt H locs ls Rr hl hL hs.tail.tail) (fun q => absurd (e0.mpr he) q)
theorem lq_tin (C : lq_C p s m meth c b N xs G ad) {d lo hi x off : Int} {offs : Array Int} {len : Nat} (tgt : Nat) (hd : decode cL_law pc = .ok (.tableswitch d lo hi offs, len)) (h1 : lo ≤ x) (h2 : x ≤ hi) (ho : offs[(x - lo).toNat]? = some off) (ht : (pc : Int) + off = (tgt : Int)) (k : lq_E p l e s m below meth c b G ad (tgt) (L) (st) (h)) : lq_E p l e s m below meth c b G ad (pc) (L) (ez_I x :: st) (h) := by
  intro H locs ls Rr hl hL hs
  have ee := e3_toInt hs.head
  exact lv_tableIn C.1 C.2.1 hd (by rw [ee]; omega) (by rw [ee]; omega) (by rw [ee]; exact ho) ht (k H locs ls Rr hl hL hs.tail)
theorem lq_tout (C : lq_C p s m meth c b N xs G ad) {d lo hi x : Int} {offs : Array Int} {len : Nat} (tgt : Nat) (hd : decode cL_law pc = .ok (.tableswitch d lo hi offs, len)) (h1 : x < lo ∨ hi < x) (ht : (pc : Int) + d = (tgt : Int)) (k : lq_E p l e s m below meth c b G ad (tgt) (L) (st) (h)) : lq_E p l e s m below meth c b G ad (pc) (L) (ez_I x :: st) (h) := by
  intro H locs ls Rr hl hL hs
  have ee := e3_toInt hs.head
  exact lv_tableOut C.1 C.2.1 hd (by rw [ee]; exact h1) ht (k H locs ls Rr hl hL hs.tail)
theorem lq_slen (C : lq_C p s m meth c b N xs G ad) (hN : N ≤ 2048) (hd : decode cL_law pc = .ok (.arraylength, 1)) (k : lq_E p l e s m below meth c b G ad (pc + 1) (L) (ez_I N :: st) (h)) : lq_E p l e s m below meth c b G ad (pc) (L) (ez_R 201 :: st) (h) := by
  intro H locs ls Rr hl hL hs
  have hX := C.2.2.2.2.2.2.2.2.2.2.2.1
  have hbl := C.2.2.2.2.2.2.2.2.2.2.2.2.1
  have k1 := k H locs ls Rr hl hL (hs.tail.cons (show in32 (N : Int) from by unfold in32; omega))
  rw [List.map_cons, show ez_rv ad (ez_R 201) = Value.ref b from by rw [← C.2.2.2.2.2.2.2.2.2.2.1]; rfl]
  exact va_slen C.1 C.2.1 hX hbl (A := ez_A s.heap.size) (Nat.not_le.mpr hbl) Rr.2.2.1 hd k1
theorem lq_sld (C : lq_C p s m meth c b N xs G ad) {i : Int} (hi : 0 ≤ i ∧ i < N) (hd : decode cL_law pc = .ok (.iaload, 1)) (k : lq_E p l e s m below meth c b G ad (pc + 1) (L) (ez_I (lw_x xs i) :: st) (h)) : lq_E p l e s m below meth c b G ad (pc) (L) (ez_I i :: ez_R 201 :: st) (h) := by
  intro H locs ls Rr hl hL hs
  have hX := C.2.2.2.2.2.2.2.2.2.2.2.1
  have hbl := C.2.2.2.2.2.2.2.2.2.2.2.2.1
  have hv : in32 i := hs.head
  have hz : in32 (lw_x xs i) := ⟨by have := Int32.le_toInt (xs i.toNat); unfold lw_x; omega, by have := Int32.toInt_lt (xs i.toNat); unfold lw_x; omega⟩
  have k1 := k H locs ls Rr hl hL (hs.tail.tail.cons hz)
  rw [List.map_cons, List.map_cons, show ez_rv ad (ez_R 201) = Value.ref b from by rw [← C.2.2.2.2.2.2.2.2.2.2.1]; rfl]
  refine va_sld C.1 C.2.1 hX hbl (A := ez_A s.heap.size) (Nat.not_le.mpr hbl) Rr.2.2.1 (i := Int32.ofInt i) (e3_in hv hi.1 (by omega)) hd ?_
  rw [e3_clamp hv hi.1, e3_eq hz rfl]
  exact k1
theorem lq_less {L' : List ez_V} (hsub : ez_sub L' L) (k : lq_E p l e s m below meth c b G ad (pc) (L') (st) (h)) : lq_E p l e s m below meth c b G ad (pc) (L) (st) (h) := by
  intro H locs ls Rr hl hL hs
  have hsm := ez_sub_at L' L hsub
  refine k H locs ls Rr ⟨hl.1, hl.2.1, fun i v hi hv => ?_⟩ (fun v hv => ?_) hs
  · rcases hsm i v hi with q | q
    · exact absurd q hv
    · exact hl.2.2 i v q hv
  · obtain ⟨i, hi⟩ := List.getElem?_of_mem hv
    rcases hsm i v hi with q | q
    · rw [q]; exact ez_okN
    · exact hL v (List.mem_of_getElem? q)
theorem lq_ret (C : lq_C p s m meth c b N xs G ad) (hd1 : decode cL_law pc = .ok (.iconst 1, 1)) (hd2 : decode cL_law (pc + 1) = .ok (.ireturn, 1)) : lq_E p l e s m below meth c b G ad (pc) (L) ([]) (h) := by
  intro H locs ls Rr hl hL hs
  refine lv_iconst C.1 C.2.1 hd1 rfl ?_
  refine va_forget (fun q hq => Rr.2.2.1.2.2 q hq) ?_
  exact lw_ret C.1 C.2.1 C.2.2.2.2.2.2.2.2.2.2.2.2.2 C.2.2.2.2.2.1 hd2
theorem lq_call (C : lq_C p s m meth c b N xs G ad) {M : ez_M} {o : Int} {As : List ez_V} {ci idx n : Nat} {K : u_T × Nat} {Q' : ez_H → Option ez_V → Prop} (hd : decode cL_law pc = .ok (.invokevirtual idx, 3)) (hN : ez_okM M) (hf : M.2.2.2.2.1 + 1 ≤ 13 ∧ 8 + (M.2.2.1 + 11) + M.2.2.2.2.2 ≤ 546 ∧ (parseMethodDescriptor M.1.desc).map (fun d => d.parameters.length) = some n) (hl0 : Cond.methodLink R_law idx M.1 ∈ lw_tg) (hi : Cond.instanceMethod M.1 ∈ lw_tg) (hse : Cond.selects M.1.cls M.1 M.1 ∈ lw_tg) (hc : vwCl[ci]? = some (M.1.cls, K)) (hci : ci < 7) (ho : 0 ≤ o ∧ o < 133) (hkd : ez_kd o = ci) (hn : As.length = n) (hst : ez_cats st ≤ 8) (hM : ez_Ct M (ez_R o :: As) h Q') (kk : ∀ h' r, Q' h' r → lq_E p l e s m below meth c b G ad (pc + 3) (L) (r.toList ++ st) (h')) : lq_E p l e s m below meth c b G ad (pc) (L) (As.reverse ++ ez_R o :: st) (h) := by
  obtain ⟨q, rfl⟩ := Int.eq_ofNat_of_zero_le ho.1
  have hq : q < 133 := by omega
  intro H locs ls R hL0 hL hs
  have hs1 : ez_oks (ez_R (q : Int) :: As) := fun w hw => by
    rcases List.mem_cons.mp hw with e1 | e1
    · rw [e1]; exact ez_okR _
    · exact hs w (List.mem_append_left _ (List.mem_reverse.mpr e1))
  have hs2 : ez_oks st := fun w hw => hs w (List.mem_append_right _ (List.mem_cons_of_mem _ hw))
  obtain ⟨cx, cb, cl, co, hts, clk, cK, cZ, cT, cN, -⟩ := C
  have hw : ∀ w ∈ ez_w M, w ∈ lw_tg := fun w hw => by
    rcases List.mem_cons.mp hw with e | e
    · rw [e]; exact hN.1
    · exact e
  have he := ez_ws_at G ad h hq
  rw [ez_cel_ob hkd hci] at he
  have hpre : PreS s H (va_Pc ((ez_R (q : Int) :: As).map (ez_rv ad)) (ez_Wd G s.heap.size ad h)) ((ez_R (q : Int) :: As).map (ez_rv ad)) := by
    refine ⟨ez_blind _ _ _ _ _, fun U hU hW => ⟨rfl, va_K.moved hW.alike cK, by rw [hU]; exact R.1, R.2.1, R.2.2.2, ?_, ?_, ?_, fun q hq => va_Nw.warmM hW (cN q hq)⟩⟩
    · rw [hU]
      exact R.2.2.1.1
    · refine va_Z.moved hW.alike (va_Z.kept cZ ?_)
      rw [hU]
      exact fun a h1 h2 => R.2.2.1.2.1 a h1 h2
    · refine va_T.moved hW.alike (va_T.kept cT ?_)
      rw [hU]
      exact fun a h1 h2 => R.2.2.1.2.1 a h1 h2
  have cw : CallB room_1 s #[Value.ref b] R_law idx M.1 M.2.1 M.2.2.1 M.2.2.2.1 (ez_w M) (ez_rm M) 0 0 n := ⟨rfl, rfl, hf.1, hf.2.1, pay_in hts (ez_GI hw), List.mem_cons_self, hts _ hN.1, hts _ hN.2.1, hN.2.2, ez_par hf.2.2, hts _ hl0⟩
  have hr := va_runV (p := p) (l := l) (e := e) (R := room_1) (s := s) (m := m) (args := #[Value.ref b]) (below := below) (meth := meth) (c := c) (H := H) (locs := locs) (cells := 600000) (slots := 7302250) (g := F0 m pc ls ((As.reverse ++ ez_R (q : Int) :: st).map (ez_rv ad))) (As := As.map (ez_rv ad)) (b := ad q) (rest := st.map (ez_rv ad)) (nL := 4) (Ts := lw_tg) (own := R_law) (index := idx) ⟨cx, cb, cl, co, hts⟩ (hM l G s.heap.size ad hs1) ⟨cw, hts _ hi, hts _ hse⟩ ⟨hpre.1, va_recv cK R.1 hc he, fun U hU hW => hpre.2 U hU hW⟩ rfl (by simpa using hn) hL0.1 (by
    show (As.reverse ++ ez_R (q : Int) :: st).map (ez_rv ad) = _
    rw [List.map_append, List.map_reverse]
    rfl) (lv_room (by rw [ez_cats_eq]; exact hst)) hd ⟨Nat.le_refl _, Nat.le_refl _⟩
  intro T hT X
  obtain ⟨v, st₀, t, T', L', h0, X', hL', e1, e2, ⟨h', r, hv, hqq, hok, hP', hO', hF⟩, hst'⟩ := hr T hT X
  cases hv
  obtain ⟨hz, hk⟩ := hF
  rw [h0] at hz hk
  have hS := R.2.2.1
  have S' : va_S (ez_A s.heap.size) s.heap T'.heap (locs ++ L') := ⟨Nat.le_trans hS.1 (by rw [e1]; exact hz), fun q h1 h2 => by rw [e1, hk q (Nat.lt_of_lt_of_le h1 hS.1) h2]; exact hS.2.1 q h1 h2, fun q hq => by
    rcases List.mem_append.mp hq with h | h
    · exact hS.2.2 q h
    · exact hL' q h⟩
  have hor : ez_oks (r.toList ++ st) := by
    cases r with
    | none => exact hs2
    | some w => exact hs2.cons (hok w rfl)
  obtain ⟨t2, a1, b1⟩ := kk h' r hqq T'.heap (locs ++ L') ls ⟨by rw [e1]; exact hP', ez_D R.2.1, S', hO'⟩ hL0 hL hor T' rfl X'
  refine ⟨t2, hst' t2 ?_, b1⟩
  have e3 : (r.toList ++ st).map (ez_rv ad) = (r.map (ez_rv ad)).toList ++ st.map (ez_rv ad) := by cases r <;> rfl
  rw [e3] at a1
  exact a1
end
