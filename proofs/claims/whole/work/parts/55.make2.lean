/-! rows of the machine that makes objects -/
section
variable {p : Program} {l : Launch} {e : Env} {R : Room} {s : State} {m : MethodId} {args : Array Value} {below : List Frame} {meth : Method} {c : Code} {Z : State → Prop} {G : ez_G} {base : Nat} {cc : ByteArray} {nL : Nat} {own : String} {n0 : Nat} {ad0 : Nat → Nat} {pc : Nat} {L st : List ez_V} {h : ez_H} {sf : ca_F} {n : Nat}
theorem ca_iconst (C : ca_C p s m args meth c G base cc nL own) {z : Int} (hd : decode cc pc = .ok (.iconst z, 1)) (hn : in32 z) (k : ca_E p l e R s m args below meth c Z G base nL n0 ad0 (pc + 1) (L) (ez_I z :: st) (h) (sf) (n)) : ca_E p l e R s m args below meth c Z G base nL n0 ad0 (pc) (L) (st) (h) (sf) (n) := by
  intro ad hk H locs ls Rr hl hL hs hr hsr
  exact lv_iconst C.1 C.2.1 hd rfl (k ad hk H locs ls Rr hl hL (hs.cons hn) hr (hsr.cons (ca_ltI _ _)))
theorem ca_bipush (C : ca_C p s m args meth c G base cc nL own) {z : Int} (hd : decode cc pc = .ok (.bipush z, 2)) (hv : (Int8.ofInt z).toInt32 = Int32.ofInt z) (hn : in32 z) (k : ca_E p l e R s m args below meth c Z G base nL n0 ad0 (pc + 2) (L) (ez_I z :: st) (h) (sf) (n)) : ca_E p l e R s m args below meth c Z G base nL n0 ad0 (pc) (L) (st) (h) (sf) (n) := by
  intro ad hk H locs ls Rr hl hL hs hr hsr
  exact lv_bipush C.1 C.2.1 hd hv (k ad hk H locs ls Rr hl hL (hs.cons hn) hr (hsr.cons (ca_ltI _ _)))
theorem ca_sipush (C : ca_C p s m args meth c G base cc nL own) {z : Int} (hd : decode cc pc = .ok (.sipush z, 3)) (hv : (Int16.ofInt z).toInt32 = Int32.ofInt z) (hn : in32 z) (k : ca_E p l e R s m args below meth c Z G base nL n0 ad0 (pc + 3) (L) (ez_I z :: st) (h) (sf) (n)) : ca_E p l e R s m args below meth c Z G base nL n0 ad0 (pc) (L) (st) (h) (sf) (n) := by
  intro ad hk H locs ls Rr hl hL hs hr hsr
  exact lv_sipush C.1 C.2.1 hd hv (k ad hk H locs ls Rr hl hL (hs.cons hn) hr (hsr.cons (ca_ltI _ _)))
theorem ca_aload_n (C : ca_C p s m args meth c G base cc nL own) {k0 : Fin 4} {z : Int} (hd : decode cc pc = .ok (.aload_n k0, 1)) (hz : L[(k0 : Nat)]? = some (ez_R z)) (k : ca_E p l e R s m args below meth c Z G base nL n0 ad0 (pc + 1) (L) (ez_R z :: st) (h) (sf) (n)) : ca_E p l e R s m args below meth c Z G base nL n0 ad0 (pc) (L) (st) (h) (sf) (n) := by
  intro ad hk H locs ls Rr hl hL hs hr hsr
  exact lv_aload_n C.1 C.2.1 hd rfl (hl.2.2 _ _ hz (fun q => by cases q)) (k ad hk H locs ls Rr hl hL (hs.cons (hL.at hz)) hr (hsr.cons (hr.at hz)))
theorem ca_iload_n (C : ca_C p s m args meth c G base cc nL own) {k0 : Fin 4} {z : Int} (hd : decode cc pc = .ok (.iload_n k0, 1)) (hz : L[(k0 : Nat)]? = some (ez_I z)) (k : ca_E p l e R s m args below meth c Z G base nL n0 ad0 (pc + 1) (L) (ez_I z :: st) (h) (sf) (n)) : ca_E p l e R s m args below meth c Z G base nL n0 ad0 (pc) (L) (st) (h) (sf) (n) := by
  intro ad hk H locs ls Rr hl hL hs hr hsr
  exact lv_iload_n C.1 C.2.1 hd rfl (hl.2.2 _ _ hz (fun q => by cases q)) (k ad hk H locs ls Rr hl hL (hs.cons (hL.at hz)) hr (hsr.cons (hr.at hz)))
theorem ca_astore_n (C : ca_C p s m args meth c G base cc nL own) {k0 : Fin 4} {z : Int} (hd : decode cc pc = .ok (.astore_n k0, 1)) (hn : (k0 : Nat) < nL) (k : ca_E p l e R s m args below meth c Z G base nL n0 ad0 (pc + 1) (ez_set L (k0 : Nat) (ez_R z)) (st) (h) (sf) (n)) : ca_E p l e R s m args below meth c Z G base nL n0 ad0 (pc) (L) (ez_R z :: st) (h) (sf) (n) := by
  intro ad hk H locs ls Rr hl hL hs hr hsr
  exact lv_astore_n C.1 C.2.1 hd rfl hl.has hn rfl (fun ls' hl2 => k ad hk H locs ls' Rr (ez_ls.set rfl hl2) (hL.set hs.head) hs.tail (hr.set hsr.head) hsr.tail)
theorem ca_istore_n (C : ca_C p s m args meth c G base cc nL own) {k0 : Fin 4} {z : Int} (hd : decode cc pc = .ok (.istore_n k0, 1)) (hn : (k0 : Nat) < nL) (k : ca_E p l e R s m args below meth c Z G base nL n0 ad0 (pc + 1) (ez_set L (k0 : Nat) (ez_I z)) (st) (h) (sf) (n)) : ca_E p l e R s m args below meth c Z G base nL n0 ad0 (pc) (L) (ez_I z :: st) (h) (sf) (n) := by
  intro ad hk H locs ls Rr hl hL hs hr hsr
  exact lv_istore_n C.1 C.2.1 hd rfl hl.has hn rfl (fun ls' hl2 => k ad hk H locs ls' Rr (ez_ls.set rfl hl2) (hL.set hs.head) hs.tail (hr.set hsr.head) hsr.tail)
theorem ca_iinc (C : ca_C p s m args meth c G base cc nL own) {i : Nat} {q z : Int} (hd : decode cc pc = .ok (.iinc i q, 3)) (hz : L[i]? = some (ez_I z)) (hn : i < nL) (h1 : in32 q) (hr1 : in32 (z + q)) (k : ca_E p l e R s m args below meth c Z G base nL n0 ad0 (pc + 3) (ez_set L i (ez_I (z + q))) (st) (h) (sf) (n)) : ca_E p l e R s m args below meth c Z G base nL n0 ad0 (pc) (L) (st) (h) (sf) (n) := by
  intro ad hk H locs ls Rr hl hL hs hr hsr
  obtain ⟨k0, hk0⟩ := List.getElem?_of_mem (ez_lv_mem (ad := ad) hz (fun q => by cases q))
  exact lv_iinc C.1 C.2.1 hd hl.has hk0 (e3_add (hL.at hz) h1 hr1) hn rfl (fun ls' hl2 => k ad hk H locs ls' Rr (ez_ls.set rfl hl2) (hL.set hr1) hs (hr.set (ca_ltI _ _)) hsr)
theorem ca_goto (C : ca_C p s m args meth c G base cc nL own) {off : Int} (tgt : Nat) (hd : decode cc pc = .ok (.goto off, 3)) (ht : (pc : Int) + off = (tgt : Int)) (k : ca_E p l e R s m args below meth c Z G base nL n0 ad0 (tgt) (L) (st) (h) (sf) (n)) : ca_E p l e R s m args below meth c Z G base nL n0 ad0 (pc) (L) (st) (h) (sf) (n) := by
  intro ad hk H locs ls Rr hl hL hs hr hsr
  exact lv_goto C.1 C.2.1 hd ht (k ad hk H locs ls Rr hl hL hs hr hsr)
theorem ca_ic_ge (C : ca_C p s m args meth c G base cc nL own) {a b off : Int} (tgt : Nat) (hd : decode cc pc = .ok (.if_icmp .ge off, 3)) (ht : (pc : Int) + off = (tgt : Int)) (kt : b ≤ a → ca_E p l e R s m args below meth c Z G base nL n0 ad0 (tgt) (L) (st) (h) (sf) (n)) (kf : ¬ b ≤ a → ca_E p l e R s m args below meth c Z G base nL n0 ad0 (pc + 3) (L) (st) (h) (sf) (n)) : ca_E p l e R s m args below meth c Z G base nL n0 ad0 (pc) (L) (ez_I b :: ez_I a :: st) (h) (sf) (n) := by
  intro ad hk H locs ls Rr hl hL hs hr hsr
  have e0 := e3_le hs.head hs.tail.head
  exact lv_icmp_ge C.1 C.2.1 hd ht (fun q => kt (e0.mp q) ad hk H locs ls Rr hl hL hs.tail.tail hr hsr.tail.tail) (fun q => kf (fun z => q (e0.mpr z)) ad hk H locs ls Rr hl hL hs.tail.tail hr hsr.tail.tail)
theorem ca_dup (C : ca_C p s m args meth c G base cc nL own) {v : ez_V} (hd : decode cc pc = .ok (.dup, 1)) (hv : ez_lg v = false) (k : ca_E p l e R s m args below meth c Z G base nL n0 ad0 (pc + 1) (L) (v :: v :: st) (h) (sf) (n)) : ca_E p l e R s m args below meth c Z G base nL n0 ad0 (pc) (L) (v :: st) (h) (sf) (n) := by
  intro ad hk H locs ls Rr hl hL hs hr hsr
  exact lv_dup C.1 C.2.1 hd (by rw [ez_cat, hv]; rfl) (k ad hk H locs ls Rr hl hL (hs.cons hs.head) hr (hsr.cons hsr.head))
theorem ca_less {L' : List ez_V} (hsub : ez_sub L' L) (k : ca_E p l e R s m args below meth c Z G base nL n0 ad0 (pc) (L') (st) (h) (sf) (n)) : ca_E p l e R s m args below meth c Z G base nL n0 ad0 (pc) (L) (st) (h) (sf) (n) := by
  intro ad hk H locs ls Rr hl hL hs hr hsr
  have hsm := ez_sub_at L' L hsub
  have key : ∀ v ∈ L', v = ez_N ∨ v ∈ L := fun v hv => by
    obtain ⟨i, hi⟩ := List.getElem?_of_mem hv
    rcases hsm i v hi with q | q
    · exact Or.inl q
    · exact Or.inr (List.mem_of_getElem? q)
  refine k ad hk H locs ls Rr ⟨hl.1, hl.2.1, fun i v hi hv => ?_⟩ (fun v hv => ?_) hs (fun v hv => ?_) hsr
  · rcases hsm i v hi with q | q
    · exact absurd q hv
    · exact hl.2.2 i v q hv
  · rcases key v hv with q | q
    · rw [q]; exact ez_okN
    · exact hL v q
  · rcases key v hv with q | q
    · rw [q]; trivial
    · exact hr v q
theorem ca_newI (C : ca_C p s m args meth c G base cc nL own) {len : Int} (hd : decode cc pc = .ok (.newarray .int, 2)) (hn : n0 ≤ n ∧ n < 133) (hR : n - n0 + 1 ≤ R.cells ∧ 2304 * (n - n0) + 2304 ≤ R.slots) (hw : Cond.arrayClass .int ∈ lw_tg) (hkd : ez_kd n = 7) (hlen : ez_len n = len) (h0 : 0 ≤ len ∧ len ≤ 2304) (k : ca_E p l e R s m args below meth c Z G base nL n0 ad0 (pc + 2) (L) (ez_R n :: st) (h) (sf) (n + 1)) : ca_E p l e R s m args below meth c Z G base nL n0 ad0 (pc) (L) (ez_I len :: st) (h) (sf) (n) := by
  intro ad hk H locs ls Rr hl hL hs hr hsr
  obtain ⟨hP, hD, hS, hok, hokh, hz⟩ := Rr
  have hv : in32 len := hs.head
  refine va_newa C.1 C.2.1 (atype := .int) (C.2.2.2.2.1 _ hw) (ty := .int) rfl C.2.2.2.2.2.2.1 hP hD hS (fun q hq => Nat.le_trans C.2.2.2.2.2.2.2.1 hq) (a0 := (len.toNat, .inl (fun _ => 0))) (fun cA => rfl) (N' := len.toNat) (fun z => ?_) (e3_clamp hv h0.1) (by show len.toNat * 4 ≤ _; omega) (by omega) (by omega) hd (fun q cA H1 hK1 hP1 hD1 hS1 => ?_)
  · have := (e3_lt hv e3_0).mp (by rw [e3_z]; exact z)
    omega
  have hc : cA = G.2 0 := ca_uni hK1 0 rfl
  have ec : ci_cel G (va_up ad n q) h sf n = .inl (cA, len.toNat, .inl (fun _ => 0)) := by
    rw [ci_cel_I hkd, hlen, hc, show (fun j : Nat => Int32.ofInt (h n j)) = fun _ => 0 from funext fun j => by rw [hz n j (Int.le_refl _)]; rfl]
  rw [ci_push hok ec] at hP1 hD1
  refine W.widen (k := n + 1 - n0) (n := 2304 * (n + 1 - n0)) (by omega) (by omega) ?_
  have ea : ∀ k, k < n ∨ 200 ≤ k → va_up ad n q k = ad k := fun k hk' => va_up_ne _ _ (by omega)
  have kk := k (va_up ad n q) (fun j hj => (ea j (by omega)).trans (hk j hj)) H1 locs ls ⟨hP1, hD1, hS1, hok.push, hokh, fun o k ho => hz o k (by omega)⟩ (ca_ls hl hr ea) hL (ez_oks.cons (ez_okR _) hs.tail) (hr.mono (by omega)) ((ca_lts.mono hsr.tail (by omega)).cons (ca_ltR (by omega)))
  rw [List.map_cons, ca_rvs hsr.tail ea, show ez_rv (va_up ad n q) (ez_R n) = Value.ref q from by show Value.ref (va_up ad n q (n : Int).toNat) = _; rw [Int.toNat_natCast, va_up_self]] at kk
  exact kk
theorem ca_newJ (C : ca_C p s m args meth c G base cc nL own) {len : Int} (hd : decode cc pc = .ok (.newarray .long, 2)) (hn : n0 ≤ n ∧ n < 133) (hR : n - n0 + 1 ≤ R.cells ∧ 2304 * (n - n0) + 2304 ≤ R.slots) (hw : Cond.arrayClass .long ∈ lw_tg) (hkd : ez_kd n = 8) (hlen : ez_len n = len) (h0 : 0 ≤ len ∧ len ≤ 2304) (k : ca_E p l e R s m args below meth c Z G base nL n0 ad0 (pc + 2) (L) (ez_R n :: st) (h) (sf) (n + 1)) : ca_E p l e R s m args below meth c Z G base nL n0 ad0 (pc) (L) (ez_I len :: st) (h) (sf) (n) := by
  intro ad hk H locs ls Rr hl hL hs hr hsr
  obtain ⟨hP, hD, hS, hok, hokh, hz⟩ := Rr
  have hv : in32 len := hs.head
  refine va_newa C.1 C.2.1 (atype := .long) (C.2.2.2.2.1 _ hw) (ty := .long) rfl C.2.2.2.2.2.2.1 hP hD hS (fun q hq => Nat.le_trans C.2.2.2.2.2.2.2.1 hq) (a0 := (len.toNat, .inr (.inl (fun _ => 0)))) (fun cA => rfl) (N' := len.toNat) (fun z => ?_) (e3_clamp hv h0.1) (by show len.toNat * 8 ≤ _; omega) (by omega) (by omega) hd (fun q cA H1 hK1 hP1 hD1 hS1 => ?_)
  · have := (e3_lt hv e3_0).mp (by rw [e3_z]; exact z)
    omega
  have hc : cA = G.2 1 := ca_uni hK1 1 rfl
  have ec : ci_cel G (va_up ad n q) h sf n = .inl (cA, len.toNat, .inr (.inl (fun _ => 0))) := by
    rw [ci_cel_J hkd, hlen, hc, show (fun j : Nat => Int64.ofInt (h n j)) = fun _ => 0 from funext fun j => by rw [hz n j (Int.le_refl _)]; rfl]
  rw [ci_push hok ec] at hP1 hD1
  refine W.widen (k := n + 1 - n0) (n := 2304 * (n + 1 - n0)) (by omega) (by omega) ?_
  have ea : ∀ k, k < n ∨ 200 ≤ k → va_up ad n q k = ad k := fun k hk' => va_up_ne _ _ (by omega)
  have kk := k (va_up ad n q) (fun j hj => (ea j (by omega)).trans (hk j hj)) H1 locs ls ⟨hP1, hD1, hS1, hok.push, hokh, fun o k ho => hz o k (by omega)⟩ (ca_ls hl hr ea) hL (ez_oks.cons (ez_okR _) hs.tail) (hr.mono (by omega)) ((ca_lts.mono hsr.tail (by omega)).cons (ca_ltR (by omega)))
  rw [List.map_cons, ca_rvs hsr.tail ea, show ez_rv (va_up ad n q) (ez_R n) = Value.ref q from by show Value.ref (va_up ad n q (n : Int).toNat) = _; rw [Int.toNat_natCast, va_up_self]] at kk
  exact kk
theorem ca_newZ (C : ca_C p s m args meth c G base cc nL own) {len : Int} (hd : decode cc pc = .ok (.newarray .boolean, 2)) (hn : n0 ≤ n ∧ n < 133) (hR : n - n0 + 1 ≤ R.cells ∧ 2304 * (n - n0) + 2304 ≤ R.slots) (hw : Cond.arrayClass .boolean ∈ lw_tg) (hkd : ez_kd n = 9) (hlen : ez_len n = len) (h0 : 0 ≤ len ∧ len ≤ 2304) (k : ca_E p l e R s m args below meth c Z G base nL n0 ad0 (pc + 2) (L) (ez_R n :: st) (h) (sf) (n + 1)) : ca_E p l e R s m args below meth c Z G base nL n0 ad0 (pc) (L) (ez_I len :: st) (h) (sf) (n) := by
  intro ad hk H locs ls Rr hl hL hs hr hsr
  obtain ⟨hP, hD, hS, hok, hokh, hz⟩ := Rr
  have hv : in32 len := hs.head
  refine va_newa C.1 C.2.1 (atype := .boolean) (C.2.2.2.2.1 _ hw) (ty := .boolean) rfl C.2.2.2.2.2.2.1 hP hD hS (fun q hq => Nat.le_trans C.2.2.2.2.2.2.2.1 hq) (a0 := (len.toNat, .inl (fun _ => 0))) (fun cA => rfl) (N' := len.toNat) (fun z => ?_) (e3_clamp hv h0.1) (by show len.toNat * 1 ≤ _; omega) (by omega) (by omega) hd (fun q cA H1 hK1 hP1 hD1 hS1 => ?_)
  · have := (e3_lt hv e3_0).mp (by rw [e3_z]; exact z)
    omega
  have hc : cA = G.2 2 := ca_uni hK1 2 rfl
  have ec : ci_cel G (va_up ad n q) h sf n = .inl (cA, len.toNat, .inl (fun _ => 0)) := by
    rw [ci_cel_Z hkd, hlen, hc, show (fun j : Nat => Int32.ofInt (h n j)) = fun _ => 0 from funext fun j => by rw [hz n j (Int.le_refl _)]; rfl]
  rw [ci_push hok ec] at hP1 hD1
  refine W.widen (k := n + 1 - n0) (n := 2304 * (n + 1 - n0)) (by omega) (by omega) ?_
  have ea : ∀ k, k < n ∨ 200 ≤ k → va_up ad n q k = ad k := fun k hk' => va_up_ne _ _ (by omega)
  have kk := k (va_up ad n q) (fun j hj => (ea j (by omega)).trans (hk j hj)) H1 locs ls ⟨hP1, hD1, hS1, hok.push, hokh, fun o k ho => hz o k (by omega)⟩ (ca_ls hl hr ea) hL (ez_oks.cons (ez_okR _) hs.tail) (hr.mono (by omega)) ((ca_lts.mono hsr.tail (by omega)).cons (ca_ltR (by omega)))
  rw [List.map_cons, ca_rvs hsr.tail ea, show ez_rv (va_up ad n q) (ez_R n) = Value.ref q from by show Value.ref (va_up ad n q (n : Int).toNat) = _; rw [Int.toNat_natCast, va_up_self]] at kk
  exact kk
theorem ca_newA (C : ca_C p s m args meth c G base cc nL own) {idx : Nat} (hd : decode cc pc = .ok (.anewarray idx, 3)) (hn : n0 ≤ n ∧ n < 133) (hR : n - n0 + 1 ≤ R.cells ∧ 2304 * (n - n0) + 2304 ≤ R.slots) (hw : Cond.classLink own idx RX1 ∈ lw_tg) (hkd : ez_kd n = 10) (k : ca_E p l e R s m args below meth c Z G base nL n0 ad0 (pc + 3) (L) (ez_R n :: st) (h) (sf) (n + 1)) : ca_E p l e R s m args below meth c Z G base nL n0 ad0 (pc) (L) (ez_I 25 :: st) (h) (sf) (n) := by
  intro ad hk H locs ls Rr hl hL hs hr hsr
  obtain ⟨hP, hD, hS, hok, hokh, hz⟩ := Rr
  refine va_newq C.1 C.2.1 C.2.2.2.1 (C.2.2.2.2.1 _ hw) C.2.2.2.2.2.2.2.2.2.1 C.2.2.2.2.2.2.1 hP hD hS (fun q hq => Nat.le_trans C.2.2.2.2.2.2.2.1 hq) (n := Int32.ofInt 25) (N' := 25) (by decide) (by decide) (by decide) (by omega) (by omega) hd (fun q cA H1 hK1 hP1 hD1 hS1 => ?_)
  have hc : cA = G.2 3 := ca_uni hK1 3 rfl
  have ec : ci_cel G (va_up ad n q) h sf n = .inl (cA, 25, .inr (.inr (.inr (.inr (fun _ => none))))) := by
    rw [ci_cel_A hkd, hc]
    have hf : ∀ j : Nat, sf n j = false := fun j => hok.1 n j (Nat.le_refl _)
    simp only [hf]
    rfl
  rw [ci_push hok ec] at hP1 hD1
  refine W.widen (k := n + 1 - n0) (n := 2304 * (n + 1 - n0)) (by omega) (by omega) ?_
  have ea : ∀ k, k < n ∨ 200 ≤ k → va_up ad n q k = ad k := fun k hk' => va_up_ne _ _ (by omega)
  have kk := k (va_up ad n q) (fun j hj => (ea j (by omega)).trans (hk j hj)) H1 locs ls ⟨hP1, hD1, hS1, hok.push, hokh, fun o k ho => hz o k (by omega)⟩ (ca_ls hl hr ea) hL (ez_oks.cons (ez_okR _) hs.tail) (hr.mono (by omega)) ((ca_lts.mono hsr.tail (by omega)).cons (ca_ltR (by omega)))
  rw [List.map_cons, ca_rvs hsr.tail ea, show ez_rv (va_up ad n q) (ez_R n) = Value.ref q from by show Value.ref (va_up ad n q (n : Int).toNat) = _; rw [Int.toNat_natCast, va_up_self]] at kk
  exact kk
theorem ca_newB (C : ca_C p s m args meth c G base cc nL own) {idx : Nat} (hd : decode cc pc = .ok (.anewarray idx, 3)) (hn : n0 ≤ n ∧ n < 133) (hR : n - n0 + 1 ≤ R.cells ∧ 2304 * (n - n0) + 2304 ≤ R.slots) (hw : Cond.classLink own idx RX3 ∈ lw_tg) (hkd : ez_kd n = 11) (k : ca_E p l e R s m args below meth c Z G base nL n0 ad0 (pc + 3) (L) (ez_R n :: st) (h) (sf) (n + 1)) : ca_E p l e R s m args below meth c Z G base nL n0 ad0 (pc) (L) (ez_I 5 :: st) (h) (sf) (n) := by
  intro ad hk H locs ls Rr hl hL hs hr hsr
  obtain ⟨hP, hD, hS, hok, hokh, hz⟩ := Rr
  refine va_newq C.1 C.2.1 C.2.2.2.1 (C.2.2.2.2.1 _ hw) C.2.2.2.2.2.2.2.2.1 C.2.2.2.2.2.2.1 hP hD hS (fun q hq => Nat.le_trans C.2.2.2.2.2.2.2.1 hq) (n := Int32.ofInt 5) (N' := 5) (by decide) (by decide) (by decide) (by omega) (by omega) hd (fun q cA H1 hK1 hP1 hD1 hS1 => ?_)
  have hc : cA = G.2 4 := ca_uni hK1 4 rfl
  have ec : ci_cel G (va_up ad n q) h sf n = .inl (cA, 5, .inr (.inr (.inr (.inr (fun _ => none))))) := by
    rw [ci_cel_B hkd, hc]
    have hf : ∀ j : Nat, sf n j = false := fun j => hok.1 n j (Nat.le_refl _)
    simp only [hf]
    rfl
  rw [ci_push hok ec] at hP1 hD1
  refine W.widen (k := n + 1 - n0) (n := 2304 * (n + 1 - n0)) (by omega) (by omega) ?_
  have ea : ∀ k, k < n ∨ 200 ≤ k → va_up ad n q k = ad k := fun k hk' => va_up_ne _ _ (by omega)
  have kk := k (va_up ad n q) (fun j hj => (ea j (by omega)).trans (hk j hj)) H1 locs ls ⟨hP1, hD1, hS1, hok.push, hokh, fun o k ho => hz o k (by omega)⟩ (ca_ls hl hr ea) hL (ez_oks.cons (ez_okR _) hs.tail) (hr.mono (by omega)) ((ca_lts.mono hsr.tail (by omega)).cons (ca_ltR (by omega)))
  rw [List.map_cons, ca_rvs hsr.tail ea, show ez_rv (va_up ad n q) (ez_R n) = Value.ref q from by show Value.ref (va_up ad n q (n : Int).toNat) = _; rw [Int.toNat_natCast, va_up_self]] at kk
  exact kk
theorem ca_newO (C : ca_C p s m args meth c G base cc nL own) (ci : Nat) {idx : Nat} {CN : String} {T : u_T} {N : Nat} (ty0 : Nat → FieldType) (hty : ∀ k, k < N → parseFieldDescriptor (T k).2.2.1 = some (ty0 k)) (hc : vwCl[ci]? = some (CN, T, N)) (hN : ez_nf ci = N) (hci : ci < 7) (hin : ∀ w ∈ u_ws CN T N, w ∈ lw_tg) (hcl : Cond.classLink own idx CN ∈ lw_tg) (hinst : Cond.instantiable CN N ∈ lw_tg) (hini : Cond.initialized CN ∈ lw_tg) (hN2 : N ≤ 2304) (hd : decode cc pc = .ok (.new idx, 3)) (hn : n0 ≤ n ∧ n < 133) (hR : n - n0 + 1 ≤ R.cells ∧ 2304 * (n - n0) + 2304 ≤ R.slots) (hkd : ez_kd n = ci) (dz : ∀ j, j < N → defaultValue (ty0 j) = if (ez_rf ci n j).isSome then .null else .int 0) (k : ca_E p l e R s m args below meth c Z G base nL n0 ad0 (pc + 3) (L) (ez_R n :: st) (h) (sf) (n + 1)) : ca_E p l e R s m args below meth c Z G base nL n0 ad0 (pc) (L) (st) (h) (sf) (n) := by
  intro ad hk H locs ls Rr hl hL hs hr hsr
  obtain ⟨hP, hD, hS, hok, hokh, hz⟩ := Rr
  have ev : ∀ (ad' : Nat → Nat) (j : Nat), ci_fv ad' h sf ci n j = if (ez_rf ci n j).isSome then .null else .int 0 := fun ad' j => by
    unfold ci_fv
    have hf : sf n j = false := hok.1 n j (Nat.le_refl _)
    cases hr : ez_rf ci n j with
    | none =>
      dsimp only
      rw [hz n j (Int.le_refl _)]
      rfl
    | some r =>
      dsimp only
      rw [hf]
      rfl
  refine va_new (ci := ci) (fs := (List.range N).map (ci_fv ad h sf ci n)) (C := CN) (T := T) (N := N) C.1 C.2.1 C.2.2.2.2.1 hin ty0 hty C.2.2.2.1 (C.2.2.2.2.1 _ hcl) (C.2.2.2.2.1 _ hinst) (C.2.2.2.2.1 _ hini) C.2.2.2.2.2.2.1 hP hD hS (fun q hq => Nat.le_trans C.2.2.2.2.2.2.2.1 hq) hc (fun j hj => ?_) (by omega) (by omega) hd (fun q H1 hP1 hD1 hS1 => ?_)
  · rw [dz j hj, ← ev ad j]
    unfold vp_V
    rw [List.getD_eq_getElem?_getD, List.getElem?_map, List.getElem?_range hj]
    rfl
  have ec : ci_cel G (va_up ad n q) h sf n = .inr (ci, (List.range N).map (ci_fv ad h sf ci n)) := by
    rw [ci_cel_ob hkd hci, hN, show ci_fv (va_up ad n q) h sf ci n = ci_fv ad h sf ci n from funext fun j => (ev _ j).trans (ev _ j).symm]
  rw [ci_push hok ec] at hP1 hD1
  refine W.widen (k := n + 1 - n0) (n := 2304 * (n + 1 - n0)) (by omega) (by omega) ?_
  have ea : ∀ k, k < n ∨ 200 ≤ k → va_up ad n q k = ad k := fun k hk' => va_up_ne _ _ (by omega)
  have kk := k (va_up ad n q) (fun j hj => (ea j (by omega)).trans (hk j hj)) H1 locs ls ⟨hP1, hD1, hS1, hok.push, hokh, fun o k ho => hz o k (by omega)⟩ (ca_ls hl hr ea) hL (ez_oks.cons (ez_okR _) hs) (hr.mono (by omega)) ((ca_lts.mono hsr (by omega)).cons (ca_ltR (by omega)))
  rw [List.map_cons, ca_rvs hsr ea, show ez_rv (va_up ad n q) (ez_R n) = Value.ref q from by show Value.ref (va_up ad n q (n : Int).toNat) = _; rw [Int.toNat_natCast, va_up_self]] at kk
  exact kk
theorem ca_putF (C : ca_C p s m args meth c G base cc nL own) {o r a : Nat} (ci k1 : Nat) {idx : Nat} {CN : String} {T : u_T} {N : Nat} (ty0 : Nat → FieldType) (hty : ∀ k, k < N → parseFieldDescriptor (T k).2.2.1 = some (ty0 k)) (hnm : ∀ a, a < N → ∀ b, b < N → a ≠ b → (T a).2.1 ≠ (T b).2.1) (hc : vwCl[ci]? = some (CN, T, N)) (hN : ez_nf ci = N) (hci : ci < 7) (hin : ∀ w ∈ u_ws CN T N, w ∈ lw_tg) (hk1 : k1 < N) (hlink : Cond.fieldLink own idx (T k1).1 (T k1).2.1 (T k1).2.2.1 ∈ lw_tg) (hfin : (T k1).2.2.2 = true) (hin2 : meth.name = "<init>") (hdecl : (T k1).1 = own) (hn1 : ∀ x, narrow (ty0 k1) (.ref x) = .ref x) (hfit : ∀ x, fits (ty0 k1) (.ref x) = true) (hd : decode cc pc = .ok (.putfield idx, 3)) (ho : o < n) (hrn : r < n) (hak : a ≤ k1) (hkd : ez_kd o = ci) (hrf : ez_rf ci o k1 = some r) (k : ca_E p l e R s m args below meth c Z G base nL n0 ad0 (pc + 3) (L) (st) (h) (ca_rg sf o a (k1 + 1)) (n)) : ca_E p l e R s m args below meth c Z G base nL n0 ad0 (pc) (L) (ez_R r :: ez_R o :: st) (h) (ca_rg sf o a k1) (n) := by
  intro ad hk H locs ls Rr hl hL hs hr hsr
  obtain ⟨hP, hD, hS, hok, hokh, hz⟩ := Rr
  have he := ci_ws_at G ad h (ca_rg sf o a k1) ho
  rw [ci_cel_ob hkd hci, hN] at he
  refine va_putF (D := G.1) (ci := ci) (v := .ref (ad r)) (ty := ty0 k1) C.1 C.2.1 C.2.2.2.2.1 hin ty0 hty hnm C.2.2.2.1 C.2.2.2.2.2.2.1 hP hD hS o he hc k1 hk1 (C.2.2.2.2.1 _ hlink) (fun _ h9 => h9) hfin hin2 hdecl (hty k1 hk1) (hn1 _) (hfit _) (by simp; omega) hd (fun H1 locs1 hP1 hD1 hS1 => ?_)
  have e1 := ci_ws_set (G := G) (ad := ad) (h := h) (h' := h) (sf := ca_rg sf o a k1) (sf' := ca_rg sf o a (k1 + 1)) ho (fun _ _ _ => rfl) (fun o' k' h' => by rw [ca_rg_ne h', ca_rg_ne h']) (show ci_cel G ad h (ca_rg sf o a (k1 + 1)) o = .inr (ci, ((List.range N).map (ci_fv ad h (ca_rg sf o a k1) ci o)).set k1 (.ref (ad r))) from by rw [ci_cel_ob hkd hci, hN, ca_fs_set hrf hak])
  rw [e1] at hP1 hD1
  have ok1 := hok.set (k := k1) ho ⟨fun _ r' hr' => by rw [hkd, hrf] at hr'; cases hr'; exact hrn, fun q => by omega, fun q => by omega⟩
  exact k ad hk H1 locs1 ls ⟨hP1, hD1, hS1, ok1, hokh, hz⟩ hl hL hs.tail.tail hr hsr.tail.tail
theorem ca_putI (C : ca_C p s m args meth c G base cc nL own) {o : Nat} {v : Int} (ci k1 : Nat) {idx : Nat} {CN : String} {T : u_T} {N : Nat} (ty0 : Nat → FieldType) (hty : ∀ k, k < N → parseFieldDescriptor (T k).2.2.1 = some (ty0 k)) (hnm : ∀ a, a < N → ∀ b, b < N → a ≠ b → (T a).2.1 ≠ (T b).2.1) (hc : vwCl[ci]? = some (CN, T, N)) (hN : ez_nf ci = N) (hci : ci < 7) (hin : ∀ w ∈ u_ws CN T N, w ∈ lw_tg) (hk1 : k1 < N) (hlink : Cond.fieldLink own idx (T k1).1 (T k1).2.1 (T k1).2.2.1 ∈ lw_tg) (hfin : (T k1).2.2.2 = false) (hn1 : narrow (ty0 k1) (.int (Int32.ofInt v)) = .int (Int32.ofInt v)) (hfit : fits (ty0 k1) (.int (Int32.ofInt v)) = true) (hd : decode cc pc = .ok (.putfield idx, 3)) (ho : o < n) (hkd : ez_kd o = ci) (hrf : ez_rf ci o k1 = none) (k : ca_E p l e R s m args below meth c Z G base nL n0 ad0 (pc + 3) (L) (st) (ez_up h o k1 v) (sf) (n)) : ca_E p l e R s m args below meth c Z G base nL n0 ad0 (pc) (L) (ez_I v :: ez_R o :: st) (h) (sf) (n) := by
  intro ad hk H locs ls Rr hl hL hs hr hsr
  obtain ⟨hP, hD, hS, hok, hokh, hz⟩ := Rr
  have he := ci_ws_at G ad h sf ho
  rw [ci_cel_ob hkd hci, hN] at he
  have hv : in32 v := hs.head
  refine va_put (D := G.1) (ci := ci) (v := .int (Int32.ofInt v)) (ty := ty0 k1) C.1 C.2.1 C.2.2.2.2.1 hin ty0 hty hnm C.2.2.2.1 C.2.2.2.2.2.2.1 hP hD hS o he hc k1 hk1 (C.2.2.2.2.1 _ hlink) (fun _ h9 => h9) hfin (hty k1 hk1) hn1 hfit (by simp; omega) hd (fun H1 locs1 hP1 hD1 hS1 => ?_)
  have e1 := ci_ws_set (G := G) (ad := ad) (h := h) (h' := ez_up h o k1 v) (sf := sf) (sf' := sf) ho (fun o' k' h' => if_neg (by omega)) (fun _ _ _ => rfl) (show ci_cel G ad (ez_up h o k1 v) sf o = .inr (ci, ((List.range N).map (ci_fv ad h sf ci o)).set k1 (.int (Int32.ofInt v))) from by rw [ci_cel_ob hkd hci, hN, ca_fi_set hrf])
  rw [e1] at hP1 hD1
  exact k ad hk H1 locs1 ls ⟨hP1, hD1, hS1, hok, hokh.up (e3_64 hv) (fun _ => hv), fun o' k' h' => (if_neg (by omega)).trans (hz o' k' h')⟩ hl hL hs.tail.tail hr hsr.tail.tail
theorem ca_getR (C : ca_C p s m args meth c G base cc nL own) {o r : Nat} (ci k1 : Nat) {idx : Nat} {CN : String} {T : u_T} {N : Nat} (hc : vwCl[ci]? = some (CN, T, N)) (hN : ez_nf ci = N) (hci : ci < 7) (hin : ∀ w ∈ u_ws CN T N, w ∈ lw_tg) (hk1 : k1 < N) (hlink : Cond.fieldLink own idx (T k1).1 (T k1).2.1 (T k1).2.2.1 ∈ lw_tg) (hd : decode cc pc = .ok (.getfield idx, 3)) (ho : o < n) (hrn : r < n) (hkd : ez_kd o = ci) (hrf : ez_rf ci o k1 = some r) (hsf : sf o k1 = true) (k : ca_E p l e R s m args below meth c Z G base nL n0 ad0 (pc + 3) (L) (ez_R r :: st) (h) (sf) (n)) : ca_E p l e R s m args below meth c Z G base nL n0 ad0 (pc) (L) (ez_R o :: st) (h) (sf) (n) := by
  intro ad hk H locs ls Rr hl hL hs hr hsr
  obtain ⟨hP, hD, hS, hok, hokh, hz⟩ := Rr
  have he := ci_ws_at G ad h sf ho
  rw [ci_cel_ob hkd hci, hN] at he
  refine va_get (D := G.1) (ci := ci) (v := .ref (ad r)) C.1 C.2.1 C.2.2.2.2.1 hin C.2.2.2.1 C.2.2.2.2.2.2.1 hP o he hc k1 hk1 (C.2.2.2.2.1 _ hlink) (fun _ h9 => h9) ?_ hd (k ad hk H locs ls ⟨hP, hD, hS, hok, hokh, hz⟩ hl hL (hs.tail.cons (ez_okR _)) hr (hsr.tail.cons (ca_ltR (by omega))))
  rw [List.getElem?_map, List.getElem?_range hk1]
  show some (ci_fv ad h sf ci o k1) = _
  unfold ci_fv
  rw [hrf]
  dsimp only
  rw [if_pos hsf]
theorem ca_astA (C : ca_C p s m args meth c G base cc nL own) {o r j : Nat} (hd : decode cc pc = .ok (.aastore, 1)) (ho : o < n) (hrn : r < n) (hkd : ez_kd o = 10) (hkr : ez_kd r = 1) (hj : j < 25) (hrj : r = 18 + 3 * j) (k : ca_E p l e R s m args below meth c Z G base nL n0 ad0 (pc + 1) (L) (st) (h) (ca_rg sf o 0 (j + 1)) (n)) : ca_E p l e R s m args below meth c Z G base nL n0 ad0 (pc) (L) (ez_R r :: ez_I j :: ez_R o :: st) (h) (ca_rg sf o 0 j) (n) := by
  intro ad hk H locs ls Rr hl hL hs hr hsr
  obtain ⟨hP, hD, hS, hok, hokh, hz⟩ := Rr
  have he := ci_ws_at G ad h (ca_rg sf o 0 j) ho
  rw [ci_cel_A hkd] at he
  have hv := ci_ws_at G ad h (ca_rg sf o 0 j) hrn
  rw [ci_cel_ob hkr (by decide)] at hv
  have hi : in32 (j : Int) := hs.tail.head
  have hcl : (Int32.ofInt (j : Int)).toNatClampNeg = j := by rw [e3_clamp hi (by omega), Int.toNat_natCast]
  refine va_astq C.1 C.2.1 C.2.2.2.2.2.2.1 hP hD hS o 3 r 1 he (r := (RX1, TX1, 9)) rfl hv rfl (e3_in hi (by omega) (by omega)) hd (fun H1 locs1 hP1 hD1 hS1 => ?_)
  rw [hcl] at hP1 hD1
  have ef : (fun x : Nat => if ca_rg sf o 0 (j + 1) o x = true then some (ad (18 + 3 * x)) else none) = va_up (fun x : Nat => if ca_rg sf o 0 j o x = true then some (ad (18 + 3 * x)) else none) j (some (ad r)) := by
    funext x
    by_cases q : x = j
    · rw [q, va_up_self, if_pos (ca_rg_iff.mpr (Or.inl ⟨rfl, by omega, by omega⟩)), hrj]
    · rw [va_up_ne _ _ q]
      have e2 : ca_rg sf o 0 (j + 1) o x = ca_rg sf o 0 j o x := by
        refine Bool.eq_iff_iff.mpr ?_
        rw [ca_rg_iff, ca_rg_iff]
        constructor
        · rintro (z | z)
          · exact Or.inl (by omega)
          · exact Or.inr z
        · rintro (z | z)
          · exact Or.inl (by omega)
          · exact Or.inr z
      rw [e2]
  have e1 := ci_ws_set (G := G) (ad := ad) (h := h) (h' := h) (sf := ca_rg sf o 0 j) (sf' := ca_rg sf o 0 (j + 1)) ho (fun _ _ _ => rfl) (fun o' k' h' => by rw [ca_rg_ne h', ca_rg_ne h']) (show ci_cel G ad h (ca_rg sf o 0 (j + 1)) o = _ from by rw [ci_cel_A hkd, ef])
  rw [e1] at hP1 hD1
  have ok1 := hok.set (k := j) ho ⟨fun q => by omega, fun q => by omega, fun q => by omega⟩
  exact k ad hk H1 locs1 ls ⟨hP1, hD1, hS1, ok1, hokh, hz⟩ hl hL hs.tail.tail.tail hr hsr.tail.tail.tail
theorem ca_astB (C : ca_C p s m args meth c G base cc nL own) {o r j : Nat} (hd : decode cc pc = .ok (.aastore, 1)) (ho : o < n) (hrn : r < n) (hkd : ez_kd o = 11) (hkr : ez_kd r = 3) (hj : j < 5) (hrj : r = 2 + 3 * j) (k : ca_E p l e R s m args below meth c Z G base nL n0 ad0 (pc + 1) (L) (st) (h) (ca_rg sf o 0 (j + 1)) (n)) : ca_E p l e R s m args below meth c Z G base nL n0 ad0 (pc) (L) (ez_R r :: ez_I j :: ez_R o :: st) (h) (ca_rg sf o 0 j) (n) := by
  intro ad hk H locs ls Rr hl hL hs hr hsr
  obtain ⟨hP, hD, hS, hok, hokh, hz⟩ := Rr
  have he := ci_ws_at G ad h (ca_rg sf o 0 j) ho
  rw [ci_cel_B hkd] at he
  have hv := ci_ws_at G ad h (ca_rg sf o 0 j) hrn
  rw [ci_cel_ob hkr (by decide)] at hv
  have hi : in32 (j : Int) := hs.tail.head
  have hcl : (Int32.ofInt (j : Int)).toNatClampNeg = j := by rw [e3_clamp hi (by omega), Int.toNat_natCast]
  refine va_astq C.1 C.2.1 C.2.2.2.2.2.2.1 hP hD hS o 4 r 3 he (r := (RX3, TX3, 4)) rfl hv rfl (e3_in hi (by omega) (by omega)) hd (fun H1 locs1 hP1 hD1 hS1 => ?_)
  rw [hcl] at hP1 hD1
  have ef : (fun x : Nat => if ca_rg sf o 0 (j + 1) o x = true then some (ad (2 + 3 * x)) else none) = va_up (fun x : Nat => if ca_rg sf o 0 j o x = true then some (ad (2 + 3 * x)) else none) j (some (ad r)) := by
    funext x
    by_cases q : x = j
    · rw [q, va_up_self, if_pos (ca_rg_iff.mpr (Or.inl ⟨rfl, by omega, by omega⟩)), hrj]
    · rw [va_up_ne _ _ q]
      have e2 : ca_rg sf o 0 (j + 1) o x = ca_rg sf o 0 j o x := by
        refine Bool.eq_iff_iff.mpr ?_
        rw [ca_rg_iff, ca_rg_iff]
        constructor
        · rintro (z | z)
          · exact Or.inl (by omega)
          · exact Or.inr z
        · rintro (z | z)
          · exact Or.inl (by omega)
          · exact Or.inr z
      rw [e2]
  have e1 := ci_ws_set (G := G) (ad := ad) (h := h) (h' := h) (sf := ca_rg sf o 0 j) (sf' := ca_rg sf o 0 (j + 1)) ho (fun _ _ _ => rfl) (fun o' k' h' => by rw [ca_rg_ne h', ca_rg_ne h']) (show ci_cel G ad h (ca_rg sf o 0 (j + 1)) o = _ from by rw [ci_cel_B hkd, ef])
  rw [e1] at hP1 hD1
  have ok1 := hok.set (k := j) ho ⟨fun q => by omega, fun q => by omega, fun q => by omega⟩
  exact k ad hk H1 locs1 ls ⟨hP1, hD1, hS1, ok1, hokh, hz⟩ hl hL hs.tail.tail.tail hr hsr.tail.tail.tail
theorem ca_obj (C : ca_C p s m args meth c G base cc nL own) {o : Int} {idx : Nat} (hd : decode cc pc = .ok (.invokespecial idx, 3)) (hlink : Cond.methodLink own idx Lib.objectInit ∈ lw_tg) (him : Cond.instanceMethod Lib.objectInit ∈ lw_tg) (hcode : Cond.code Lib.objectInit ⟨#[0xb1]⟩ 1 none ∈ lw_tg) (hR : 1 ≤ R.frames ∧ 12 ≤ R.locals) (k : ca_E p l e R s m args below meth c Z G base nL n0 ad0 (pc + 3) (L) ([]) (h) (sf) (n)) : ca_E p l e R s m args below meth c Z G base nL n0 ad0 (pc) (L) ([ez_R o]) (h) (sf) (n) := by
  intro ad hk H locs ls Rr hl hL hs hr hsr
  refine W.objInit C.1 C.2.1 C.2.2.2.1 (C.2.2.2.2.1 _ hlink) (C.2.2.2.2.1 _ him) (C.2.2.2.2.1 _ hcode) rfl (by rw [C.2.2.1]; exact hl.1) rfl hd hR.1 (by show 2 * 0 + 0 + 12 ≤ R.locals; omega) ?_
  exact k ad hk H locs ls Rr hl hL hs.tail hr hsr.tail
theorem ca_blind (As : List Value) (G : ez_G) (base : Nat) (ad : Nat → Nat) (h : ez_H) (sf : ca_F) (n : Nat) : FrameBlind (va_Pc As (ca_Wd G base ad h sf n)) := by
  intro a U g mk hq
  obtain ⟨h0, hK, hP, hD, hb, h3, h1, hN⟩ := hq
  exact ⟨h0, va_K.moved (u := U) (U := U.calling g mk a) (Vm.Alike.refl U.vm) hK, hP, hD, hb, va_AO.moved (u := U) (U := U.calling g mk a) (Vm.Alike.refl U.vm) h3, va_AO.moved (u := U) (U := U.calling g mk a) (Vm.Alike.refl U.vm) h1, fun q hq => va_Nw.same rfl rfl (hN q hq)⟩
theorem ca_callIN (C : ca_C p s m args meth c G base cc nL own) {N : ez_M} {o n1 idx : Nat} {h1 : ez_H} {sf1 : ca_F} (hd : decode cc pc = .ok (.invokespecial idx, 3)) (hN : ez_okM N) (hret : N.2.2.2.1 = none) (him : Cond.instanceMethod N.1 ∈ lw_tg) (hnm : N.1.name = "<init>") (hl1 : (own, idx, N.1) ∈ ca_nest) (hfit : N.2.2.2.2.1 + 1 ≤ R.frames ∧ 8 + (N.2.2.1 + 11) + N.2.2.2.2.2 ≤ R.locals ∧ (parseMethodDescriptor N.1.desc).map (fun d => d.parameters.length) = some 0) (hn : n0 ≤ n ∧ n ≤ n1 ∧ n1 < 200) (hR : n1 - n0 ≤ R.cells ∧ 2304 * (n1 - n0) ≤ R.slots) (hst : ez_cats st ≤ 8) (hM : ci_ok sf n → ez_okh h → (∀ o k : Int, n ≤ o → h o k = 0) → ca_Ct N o n n1 h sf h1 sf1) (k : ca_E p l e R s m args below meth c Z G base nL n0 ad0 (pc + 3) (L) (st) (h1) (sf1) (n1)) : ca_E p l e R s m args below meth c Z G base nL n0 ad0 (pc) (L) (ez_R o :: st) (h) (sf) (n) := by
  intro ad hk H locs ls Rr hl hL hs hr hsr
  obtain ⟨hP, hD, hS, hok, hokh, hz⟩ := Rr
  have hw : ∀ w ∈ ez_w N, w ∈ lw_tg := fun w hw => by
    rcases List.mem_cons.mp hw with e | e
    · rw [e]; exact hN.1
    · exact e
  have hpre : PreS s H (va_Pc [.ref (ad o)] (ca_Wd G base ad h sf n)) [.ref (ad o)] := ⟨ca_blind _ _ _ _ _ _ _, fun U hU hW => ⟨rfl, va_K.moved hW.alike C.2.2.2.2.2.2.1, by rw [hU]; exact hP, hD, by rw [hU]; exact Nat.le_trans C.2.2.2.2.2.2.2.1 hS.1, va_AO.moved hW.alike C.2.2.2.2.2.2.2.2.1, va_AO.moved hW.alike C.2.2.2.2.2.2.2.2.2.1, fun q hq => va_Nw.warmM hW (C.2.2.2.2.2.2.2.2.2.2 q hq)⟩⟩
  have cw : va_CN R s args own idx N.1 "StarPlates" N.2.1 N.2.2.1 N.2.2.2.1 (ez_w N) (ca_rm N (n1 - n)) (n1 - n) (2304 * (n1 - n)) 0 := ⟨⟨rfl, rfl, hfit.1, hfit.2.1, pay_in C.2.2.2.2.1 (ez_GI hw), List.mem_cons_self⟩, C.2.2.2.2.1 _ hN.1, C.2.2.2.2.1 _ hN.2.1, hN.2.2, ez_par hfit.2.2, va_Nw.use rfl (C.2.2.2.2.2.2.2.2.2.2 _ hl1)⟩
  rw [hret] at cw
  have hr1 := va_runIN (p := p) (l := l) (e := e) (R := R) (s := s) (m := m) (args := args) (below := below) (meth := meth) (c := c) (H := H) (locs := locs) (cells := n - n0) (slots := 2304 * (n - n0)) (g := F0 m pc ls ((ez_R o :: st).map (ez_rv ad))) (As := []) (b := ad o) (rest := st.map (ez_rv ad)) (n := 0) (nL := nL) (bytes := N.2.1) (maxL := N.2.2.1) ⟨C.1, C.2.1, C.2.2.1, C.2.2.2.1, C.2.2.2.2.1⟩ (hM hok hokh hz l G base ad) ⟨cw, hnm, C.2.2.2.2.1 _ him⟩ hpre rfl rfl hl.1 rfl (lv_room (by rw [ez_cats_eq]; exact hst)) hd ⟨by omega, by omega⟩
  intro T hT X
  obtain ⟨v, st₀, t, T', L', h0, X', hL', e1, e2, ⟨hv, ⟨ad1, ha1, hP1, hD1, ok1, okh1, hz1⟩, hF⟩, hst1⟩ := hr1 T hT X
  cases hv
  obtain ⟨hz2, hk2⟩ := hF
  rw [h0] at hz2 hk2
  have S' : va_S (ez_A base) s.heap T'.heap (locs ++ L') := ⟨Nat.le_trans hS.1 (by rw [e1]; exact hz2), fun q h1 h2 => by rw [e1, hk2 q (Nat.lt_of_lt_of_le h1 hS.1) h2]; exact hS.2.1 q h1 h2, fun q hq => by
    rcases List.mem_append.mp hq with h | h
    · exact hS.2.2 q h
    · exact hL' q h⟩
  obtain ⟨t2, a1, b1⟩ := k ad1 (fun j hj => (ha1 j (by omega)).trans (hk j hj)) T'.heap (locs ++ L') ls ⟨by rw [e1]; exact hP1, hD1, S', ok1, okh1, hz1⟩ (ca_ls hl hr ha1) hL hs.tail (hr.mono (by omega)) (ca_lts.mono hsr.tail (by omega)) T' rfl (stand_widen X' (by omega) (by omega))
  refine ⟨t2, hst1 t2 ?_, b1⟩
  rw [ca_rvs hsr.tail ha1] at a1
  exact a1
theorem ca_callI (C : ca_C p s m args meth c G base cc nL own) {N : ez_M} {o n1 idx : Nat} {h1 : ez_H} {sf1 : ca_F} (hd : decode cc pc = .ok (.invokespecial idx, 3)) (hN : ez_okM N) (hret : N.2.2.2.1 = none) (him : Cond.instanceMethod N.1 ∈ lw_tg) (hnm : N.1.name = "<init>") (hl1 : Cond.methodLink own idx N.1 ∈ lw_tg) (hfit : N.2.2.2.2.1 + 1 ≤ R.frames ∧ 8 + (N.2.2.1 + 11) + N.2.2.2.2.2 ≤ R.locals ∧ (parseMethodDescriptor N.1.desc).map (fun d => d.parameters.length) = some 0) (hn : n0 ≤ n ∧ n ≤ n1 ∧ n1 < 200) (hR : n1 - n0 ≤ R.cells ∧ 2304 * (n1 - n0) ≤ R.slots) (hst : ez_cats st ≤ 8) (hM : ci_ok sf n → ez_okh h → (∀ o k : Int, n ≤ o → h o k = 0) → ca_Ct N o n n1 h sf h1 sf1) (k : ca_E p l e R s m args below meth c Z G base nL n0 ad0 (pc + 3) (L) (st) (h1) (sf1) (n1)) : ca_E p l e R s m args below meth c Z G base nL n0 ad0 (pc) (L) (ez_R o :: st) (h) (sf) (n) := by
  intro ad hk H locs ls Rr hl hL hs hr hsr
  obtain ⟨hP, hD, hS, hok, hokh, hz⟩ := Rr
  have hw : ∀ w ∈ ez_w N, w ∈ lw_tg := fun w hw => by
    rcases List.mem_cons.mp hw with e | e
    · rw [e]; exact hN.1
    · exact e
  have hpre : PreS s H (va_Pc [.ref (ad o)] (ca_Wd G base ad h sf n)) [.ref (ad o)] := ⟨ca_blind _ _ _ _ _ _ _, fun U hU hW => ⟨rfl, va_K.moved hW.alike C.2.2.2.2.2.2.1, by rw [hU]; exact hP, hD, by rw [hU]; exact Nat.le_trans C.2.2.2.2.2.2.2.1 hS.1, va_AO.moved hW.alike C.2.2.2.2.2.2.2.2.1, va_AO.moved hW.alike C.2.2.2.2.2.2.2.2.2.1, fun q hq => va_Nw.warmM hW (C.2.2.2.2.2.2.2.2.2.2 q hq)⟩⟩
  have cw : CallB R s args own idx N.1 N.2.1 N.2.2.1 N.2.2.2.1 (ez_w N) (ca_rm N (n1 - n)) (n1 - n) (2304 * (n1 - n)) 0 := ⟨rfl, rfl, hfit.1, hfit.2.1, pay_in C.2.2.2.2.1 (ez_GI hw), List.mem_cons_self, C.2.2.2.2.1 _ hN.1, C.2.2.2.2.1 _ hN.2.1, hN.2.2, ez_par hfit.2.2, C.2.2.2.2.1 _ hl1⟩
  rw [hret] at cw
  have hr1 := va_runI (p := p) (l := l) (e := e) (R := R) (s := s) (m := m) (args := args) (below := below) (meth := meth) (c := c) (H := H) (locs := locs) (cells := n - n0) (slots := 2304 * (n - n0)) (g := F0 m pc ls ((ez_R o :: st).map (ez_rv ad))) (As := []) (b := ad o) (rest := st.map (ez_rv ad)) (n := 0) (nL := nL) (bytes := N.2.1) (maxL := N.2.2.1) ⟨C.1, C.2.1, C.2.2.1, C.2.2.2.1, C.2.2.2.2.1⟩ (hM hok hokh hz l G base ad) ⟨cw, hnm, C.2.2.2.2.1 _ him⟩ hpre rfl rfl hl.1 rfl (lv_room (by rw [ez_cats_eq]; exact hst)) hd ⟨by omega, by omega⟩
  intro T hT X
  obtain ⟨v, st₀, t, T', L', h0, X', hL', e1, e2, ⟨hv, ⟨ad1, ha1, hP1, hD1, ok1, okh1, hz1⟩, hF⟩, hst1⟩ := hr1 T hT X
  cases hv
  obtain ⟨hz2, hk2⟩ := hF
  rw [h0] at hz2 hk2
  have S' : va_S (ez_A base) s.heap T'.heap (locs ++ L') := ⟨Nat.le_trans hS.1 (by rw [e1]; exact hz2), fun q h1 h2 => by rw [e1, hk2 q (Nat.lt_of_lt_of_le h1 hS.1) h2]; exact hS.2.1 q h1 h2, fun q hq => by
    rcases List.mem_append.mp hq with h | h
    · exact hS.2.2 q h
    · exact hL' q h⟩
  obtain ⟨t2, a1, b1⟩ := k ad1 (fun j hj => (ha1 j (by omega)).trans (hk j hj)) T'.heap (locs ++ L') ls ⟨by rw [e1]; exact hP1, hD1, S', ok1, okh1, hz1⟩ (ca_ls hl hr ha1) hL hs.tail (hr.mono (by omega)) (ca_lts.mono hsr.tail (by omega)) T' rfl (stand_widen X' (by omega) (by omega))
  refine ⟨t2, hst1 t2 ?_, b1⟩
  rw [ca_rvs hsr.tail ha1] at a1
  exact a1
theorem ca_ret (C : ca_C p s m args meth c G base cc nL own) (hr0 : meth.sig.returnType = none) (hd : decode cc pc = .ok (.return_, 1)) : ca_E p l e R s m args below meth c (MQ below (ca_Q G ad0 base n0 n h sf) args s (n - n0) (2304 * (n - n0)) (ez_A base)) G base nL n0 ad0 (pc) (L) ([]) (h) (sf) (n) := by
  intro ad hk H locs ls Rr hl hL hs hr hsr
  obtain ⟨hP, hD, hS, hok, hokh, hz⟩ := Rr
  exact W.vret C.1 C.2.1 hr0 (fun t ht hW => ⟨rfl, ⟨ad, hk, by rw [ht]; exact hP, hD, hok, hokh, hz⟩, hS.F ht⟩) hS.2.2 hd C.2.2.2.2.2.1
end
theorem ca_of {M : ez_M} {o n0 n1 : Nat} {h h1 : ez_H} {sf sf1 : ca_F} (hp : plainName M.1.cls = true) (hm : 1 ≤ M.2.2.1) (hret : M.2.2.2.1 = none) (hnm : M.1.name = "<init>") (ho : o < n0) (ok : ci_ok sf n0) (okh : ez_okh h) (hz : ∀ o k : Int, n0 ≤ o → h o k = 0)
    (k : ∀ (p : Program) (l : Launch) (e : Env) (s : State) (m : MethodId) (args : Array Value) (below : List Frame) (meth : Method) (c : Code) (G : ez_G) (base : Nat) (ad0 : Nat → Nat), ca_C p s m args meth c G base M.2.1 M.2.2.1 M.1.cls → meth.sig.returnType = none → meth.name = "<init>" → ca_E p l e (ca_rm M (n1 - n0)) s m args below meth c (MQ below (ca_Q G ad0 base n0 n1 h1 sf1) args s (n1 - n0) (2304 * (n1 - n0)) (ez_A base)) G base M.2.2.1 n0 ad0 0 (ez_ini M.2.2.1 [ez_R o]) [] h sf n0) : ca_Ct M o n0 n1 h sf h1 sf1 := by
  intro l G base ad
  refine Met.ofW (cc := M.2.1) (maxL := M.2.2.1) (ret := M.2.2.2.1) hp rfl ?_
  intro p e s m args below meth c s₁ B hml hv
  obtain ⟨rfl, hK, hP, hD, hb, h3, h1', hN⟩ := hv
  have hts := atoms_spec (ws := ez_w M) B.pre
  have hls := ez_ini_ls (ad := ad) (n := M.2.2.1) (As := [ez_R o]) hm
  have hre : meth.sig.returnType = none := by rw [← hret]; exact B.returns
  have hin : meth.name = "<init>" := by rw [← hnm]; exact (name_of_methodNamed B.named B.method).1
  have hlt : ca_lts n0 (ez_ini M.2.2.1 [ez_R o]) := fun w hw => by
    rcases List.mem_append.mp hw with q | q
    · rw [show ez_fl [ez_R (o : Int)] = [ez_R (o : Int)] from rfl, List.mem_singleton] at q
      rw [q]
      exact ca_ltR (by omega)
    · rw [List.eq_of_mem_replicate q]
      trivial
  have kk := k p l e s m _ below meth c G base ad ⟨B.exec, B.bytes, hml, findClass_of_methodNamed B.named, fun w hw => hts w (List.mem_cons_of_mem _ hw), B.notSynchronized, hK, hb, h3, h1', hN⟩ hre hin ad (fun _ _ => rfl) s.heap [] _ ⟨hP, hD, va_S.rf, ok, okh, hz⟩ hls (ez_ini_ok (fun w hw => by rw [List.mem_singleton.mp hw]; exact ez_okR _)) (fun w hw => by cases hw) hlt (fun w hw => by cases hw)
  rw [Nat.sub_self] at kk
  rw [lg_entry_eq]
  exact kk
