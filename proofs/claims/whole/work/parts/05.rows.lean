theorem ez_iconst {M : ez_M} {pc : Nat} {L st : List ez_V} {h : ez_H} {Q : ez_H → Option ez_V → Prop} {n : Int} (hd : decode M.2.1 pc = .ok (.iconst n, 1)) (hn : in32 n) (k : ez_En M (pc + 1) L (ez_I n :: st) h Q) : ez_En M (pc) L (st) h Q := by
  intro p l e s m args below meth c G base ad C H locs ls R hl hL hs
  exact lv_iconst C.1 C.2.1 hd rfl (k p l e s m args below meth c G base ad C H locs ls R hl hL (hs.cons hn))
theorem ez_bipush {M : ez_M} {pc : Nat} {L st : List ez_V} {h : ez_H} {Q : ez_H → Option ez_V → Prop} {n : Int} (hd : decode M.2.1 pc = .ok (.bipush n, 2)) (hv : (Int8.ofInt n).toInt32 = Int32.ofInt n) (hn : in32 n) (k : ez_En M (pc + 2) L (ez_I n :: st) h Q) : ez_En M (pc) L (st) h Q := by
  intro p l e s m args below meth c G base ad C H locs ls R hl hL hs
  exact lv_bipush C.1 C.2.1 hd hv (k p l e s m args below meth c G base ad C H locs ls R hl hL (hs.cons hn))
theorem ez_sipush {M : ez_M} {pc : Nat} {L st : List ez_V} {h : ez_H} {Q : ez_H → Option ez_V → Prop} {n : Int} (hd : decode M.2.1 pc = .ok (.sipush n, 3)) (hv : (Int16.ofInt n).toInt32 = Int32.ofInt n) (hn : in32 n) (k : ez_En M (pc + 3) L (ez_I n :: st) h Q) : ez_En M (pc) L (st) h Q := by
  intro p l e s m args below meth c G base ad C H locs ls R hl hL hs
  exact lv_sipush C.1 C.2.1 hd hv (k p l e s m args below meth c G base ad C H locs ls R hl hL (hs.cons hn))
theorem ez_lconst {M : ez_M} {pc : Nat} {L st : List ez_V} {h : ez_H} {Q : ez_H → Option ez_V → Prop} {n : Fin 2} (z : Int) (hd : decode M.2.1 pc = .ok (.lconst n, 1)) (hv : Int64.ofNat (n : Nat) = Int64.ofInt z) (hn : in64 z) (k : ez_En M (pc + 1) L (ez_L z :: st) h Q) : ez_En M (pc) L (st) h Q := by
  intro p l e s m args below meth c G base ad C H locs ls R hl hL hs
  exact lv_lconst C.1 C.2.1 hd hv (k p l e s m args below meth c G base ad C H locs ls R hl hL (hs.cons hn))
theorem ez_ldc {M : ez_M} {pc : Nat} {L st : List ez_V} {h : ez_H} {Q : ez_H → Option ez_V → Prop} {i : Nat} (z : Int) {v : Int32} (hd : decode M.2.1 pc = .ok (.ldc i, 2)) (hw : Cond.constant M.1.cls i v ∈ lw_tg) (hv : v = Int32.ofInt z) (hn : in32 z) (k : ez_En M (pc + 2) L (ez_I z :: st) h Q) : ez_En M (pc) L (st) h Q := by
  intro p l e s m args below meth c G base ad C H locs ls R hl hL hs
  subst hv
  exact lv_ldc C.1 C.2.1 C.2.2.2.2.1 (C.2.2.2.2.2.1 _ hw) hd (k p l e s m args below meth c G base ad C H locs ls R hl hL (hs.cons hn))
theorem ez_ldc2 {M : ez_M} {pc : Nat} {L st : List ez_V} {h : ez_H} {Q : ez_H → Option ez_V → Prop} {i : Nat} (z : Int) {v : Int64} (hd : decode M.2.1 pc = .ok (.ldc2_w i, 3)) (hw : Cond.constantLong M.1.cls i v ∈ lw_tg) (hv : v = Int64.ofInt z) (hn : in64 z) (k : ez_En M (pc + 3) L (ez_L z :: st) h Q) : ez_En M (pc) L (st) h Q := by
  intro p l e s m args below meth c G base ad C H locs ls R hl hL hs
  subst hv
  exact lv_ldc2 C.1 C.2.1 C.2.2.2.2.1 (C.2.2.2.2.2.1 _ hw) hd (k p l e s m args below meth c G base ad C H locs ls R hl hL (hs.cons hn))
theorem ez_iload_n {M : ez_M} {pc : Nat} {L st : List ez_V} {h : ez_H} {Q : ez_H → Option ez_V → Prop} {k0 : Fin 4} {z : Int} (hd : decode M.2.1 pc = .ok (.iload_n k0, 1)) (hz : L[(k0 : Nat)]? = some (ez_I z)) (k : ez_En M (pc + 1) L (ez_I z :: st) h Q) : ez_En M (pc) L (st) h Q := by
  intro p l e s m args below meth c G base ad C H locs ls R hl hL hs
  exact lv_iload_n C.1 C.2.1 hd rfl (hl.2.2 _ _ hz (fun q => by cases q)) (k p l e s m args below meth c G base ad C H locs ls R hl hL (hs.cons (hL.at hz)))
theorem ez_iload {M : ez_M} {pc : Nat} {L st : List ez_V} {h : ez_H} {Q : ez_H → Option ez_V → Prop} {i : Nat} {z : Int} (hd : decode M.2.1 pc = .ok (.iload i, 2)) (hz : L[i]? = some (ez_I z)) (k : ez_En M (pc + 2) L (ez_I z :: st) h Q) : ez_En M (pc) L (st) h Q := by
  intro p l e s m args below meth c G base ad C H locs ls R hl hL hs
  exact lv_iload C.1 C.2.1 hd (hl.2.2 _ _ hz (fun q => by cases q)) (k p l e s m args below meth c G base ad C H locs ls R hl hL (hs.cons (hL.at hz)))
theorem ez_lload_n {M : ez_M} {pc : Nat} {L st : List ez_V} {h : ez_H} {Q : ez_H → Option ez_V → Prop} {k0 : Fin 4} {z : Int} (hd : decode M.2.1 pc = .ok (.lload_n k0, 1)) (hz : L[(k0 : Nat)]? = some (ez_L z)) (k : ez_En M (pc + 1) L (ez_L z :: st) h Q) : ez_En M (pc) L (st) h Q := by
  intro p l e s m args below meth c G base ad C H locs ls R hl hL hs
  exact lv_lload_n C.1 C.2.1 hd rfl (hl.2.2 _ _ hz (fun q => by cases q)) (k p l e s m args below meth c G base ad C H locs ls R hl hL (hs.cons (hL.at hz)))
theorem ez_lload {M : ez_M} {pc : Nat} {L st : List ez_V} {h : ez_H} {Q : ez_H → Option ez_V → Prop} {i : Nat} {z : Int} (hd : decode M.2.1 pc = .ok (.lload i, 2)) (hz : L[i]? = some (ez_L z)) (k : ez_En M (pc + 2) L (ez_L z :: st) h Q) : ez_En M (pc) L (st) h Q := by
  intro p l e s m args below meth c G base ad C H locs ls R hl hL hs
  exact lv_lload C.1 C.2.1 hd (hl.2.2 _ _ hz (fun q => by cases q)) (k p l e s m args below meth c G base ad C H locs ls R hl hL (hs.cons (hL.at hz)))
theorem ez_aload_n {M : ez_M} {pc : Nat} {L st : List ez_V} {h : ez_H} {Q : ez_H → Option ez_V → Prop} {k0 : Fin 4} {z : Int} (hd : decode M.2.1 pc = .ok (.aload_n k0, 1)) (hz : L[(k0 : Nat)]? = some (ez_R z)) (k : ez_En M (pc + 1) L (ez_R z :: st) h Q) : ez_En M (pc) L (st) h Q := by
  intro p l e s m args below meth c G base ad C H locs ls R hl hL hs
  exact lv_aload_n C.1 C.2.1 hd rfl (hl.2.2 _ _ hz (fun q => by cases q)) (k p l e s m args below meth c G base ad C H locs ls R hl hL (hs.cons (hL.at hz)))
theorem ez_aload {M : ez_M} {pc : Nat} {L st : List ez_V} {h : ez_H} {Q : ez_H → Option ez_V → Prop} {i : Nat} {z : Int} (hd : decode M.2.1 pc = .ok (.aload i, 2)) (hz : L[i]? = some (ez_R z)) (k : ez_En M (pc + 2) L (ez_R z :: st) h Q) : ez_En M (pc) L (st) h Q := by
  intro p l e s m args below meth c G base ad C H locs ls R hl hL hs
  exact lv_aload C.1 C.2.1 hd (hl.2.2 _ _ hz (fun q => by cases q)) (k p l e s m args below meth c G base ad C H locs ls R hl hL (hs.cons (hL.at hz)))
theorem ez_istore_n {M : ez_M} {pc : Nat} {L st : List ez_V} {h : ez_H} {Q : ez_H → Option ez_V → Prop} {k0 : Fin 4} {z : Int} (hd : decode M.2.1 pc = .ok (.istore_n k0, 1)) (hn : (k0 : Nat) < M.2.2.1) (k : ez_En M (pc + 1) (ez_set L (k0 : Nat) (ez_I z)) (st) h Q) : ez_En M (pc) L (ez_I z :: st) h Q := by
  intro p l e s m args below meth c G base ad C H locs ls R hl hL hs
  exact lv_istore_n C.1 C.2.1 hd rfl hl.has hn rfl (fun ls' hl2 => k p l e s m args below meth c G base ad C H locs ls' R (ez_ls.set rfl hl2) (hL.set hs.head) hs.tail)
theorem ez_istore {M : ez_M} {pc : Nat} {L st : List ez_V} {h : ez_H} {Q : ez_H → Option ez_V → Prop} {i : Nat} {z : Int} (hd : decode M.2.1 pc = .ok (.istore i, 2)) (hn : i < M.2.2.1) (k : ez_En M (pc + 2) (ez_set L i (ez_I z)) (st) h Q) : ez_En M (pc) L (ez_I z :: st) h Q := by
  intro p l e s m args below meth c G base ad C H locs ls R hl hL hs
  exact lv_istore C.1 C.2.1 hd hl.has hn rfl (fun ls' hl2 => k p l e s m args below meth c G base ad C H locs ls' R (ez_ls.set rfl hl2) (hL.set hs.head) hs.tail)
theorem ez_lstore_n {M : ez_M} {pc : Nat} {L st : List ez_V} {h : ez_H} {Q : ez_H → Option ez_V → Prop} {k0 : Fin 4} {z : Int} (hd : decode M.2.1 pc = .ok (.lstore_n k0, 1)) (hn : (k0 : Nat) + 1 < M.2.2.1) (k : ez_En M (pc + 1) (ez_set2 L (k0 : Nat) (ez_L z)) (st) h Q) : ez_En M (pc) L (ez_L z :: st) h Q := by
  intro p l e s m args below meth c G base ad C H locs ls R hl hL hs
  exact lv_lstore_n C.1 C.2.1 hd rfl hl.has hn rfl (fun ls' hl2 => k p l e s m args below meth c G base ad C H locs ls' R (ez_ls.set2 rfl hl2) (hL.set2 hs.head) hs.tail)
theorem ez_lstore {M : ez_M} {pc : Nat} {L st : List ez_V} {h : ez_H} {Q : ez_H → Option ez_V → Prop} {i : Nat} {z : Int} (hd : decode M.2.1 pc = .ok (.lstore i, 2)) (hn : i + 1 < M.2.2.1) (k : ez_En M (pc + 2) (ez_set2 L i (ez_L z)) (st) h Q) : ez_En M (pc) L (ez_L z :: st) h Q := by
  intro p l e s m args below meth c G base ad C H locs ls R hl hL hs
  exact lv_lstore C.1 C.2.1 hd hl.has hn rfl (fun ls' hl2 => k p l e s m args below meth c G base ad C H locs ls' R (ez_ls.set2 rfl hl2) (hL.set2 hs.head) hs.tail)
theorem ez_astore_n {M : ez_M} {pc : Nat} {L st : List ez_V} {h : ez_H} {Q : ez_H → Option ez_V → Prop} {k0 : Fin 4} {z : Int} (hd : decode M.2.1 pc = .ok (.astore_n k0, 1)) (hn : (k0 : Nat) < M.2.2.1) (k : ez_En M (pc + 1) (ez_set L (k0 : Nat) (ez_R z)) (st) h Q) : ez_En M (pc) L (ez_R z :: st) h Q := by
  intro p l e s m args below meth c G base ad C H locs ls R hl hL hs
  exact lv_astore_n C.1 C.2.1 hd rfl hl.has hn rfl (fun ls' hl2 => k p l e s m args below meth c G base ad C H locs ls' R (ez_ls.set rfl hl2) (hL.set hs.head) hs.tail)
theorem ez_astore {M : ez_M} {pc : Nat} {L st : List ez_V} {h : ez_H} {Q : ez_H → Option ez_V → Prop} {i : Nat} {z : Int} (hd : decode M.2.1 pc = .ok (.astore i, 2)) (hn : i < M.2.2.1) (k : ez_En M (pc + 2) (ez_set L i (ez_R z)) (st) h Q) : ez_En M (pc) L (ez_R z :: st) h Q := by
  intro p l e s m args below meth c G base ad C H locs ls R hl hL hs
  exact lv_astore C.1 C.2.1 hd hl.has hn rfl (fun ls' hl2 => k p l e s m args below meth c G base ad C H locs ls' R (ez_ls.set rfl hl2) (hL.set hs.head) hs.tail)
theorem ez_iinc {M : ez_M} {pc : Nat} {L st : List ez_V} {h : ez_H} {Q : ez_H → Option ez_V → Prop} {i : Nat} {n z : Int} (hd : decode M.2.1 pc = .ok (.iinc i n, 3)) (hz : L[i]? = some (ez_I z)) (hn : i < M.2.2.1) (h1 : in32 n) (hr : in32 (z + n)) (k : ez_En M (pc + 3) (ez_set L i (ez_I (z + n))) (st) h Q) : ez_En M (pc) L (st) h Q := by
  intro p l e s m args below meth c G base ad C H locs ls R hl hL hs
  obtain ⟨k0, hk0⟩ := List.getElem?_of_mem (ez_lv_mem (ad := ad) hz (fun q => by cases q))
  exact lv_iinc C.1 C.2.1 hd hl.has hk0 (e3_add (hL.at hz) h1 hr) hn rfl (fun ls' hl2 => k p l e s m args below meth c G base ad C H locs ls' R (ez_ls.set rfl hl2) (hL.set hr) hs)
theorem ez_iadd {M : ez_M} {pc : Nat} {L st : List ez_V} {h : ez_H} {Q : ez_H → Option ez_V → Prop} {a b : Int} (hd : decode M.2.1 pc = .ok (.iadd, 1)) (hr : in32 (a + b)) (k : ez_En M (pc + 1) L (ez_I (a + b) :: st) h Q) : ez_En M (pc) L (ez_I b :: ez_I a :: st) h Q := by
  intro p l e s m args below meth c G base ad C H locs ls R hl hL hs
  have k1 := k p l e s m args below meth c G base ad C H locs ls R hl hL (hs.tail.tail.cons hr)
  refine lv_iadd C.1 C.2.1 hd ?_
  rw [e3_add hs.tail.head hs.head hr]
  exact k1
theorem ez_isub {M : ez_M} {pc : Nat} {L st : List ez_V} {h : ez_H} {Q : ez_H → Option ez_V → Prop} {a b : Int} (hd : decode M.2.1 pc = .ok (.isub, 1)) (hr : in32 (a - b)) (k : ez_En M (pc + 1) L (ez_I (a - b) :: st) h Q) : ez_En M (pc) L (ez_I b :: ez_I a :: st) h Q := by
  intro p l e s m args below meth c G base ad C H locs ls R hl hL hs
  have k1 := k p l e s m args below meth c G base ad C H locs ls R hl hL (hs.tail.tail.cons hr)
  refine lv_isub C.1 C.2.1 hd ?_
  rw [e3_sub hs.tail.head hs.head hr]
  exact k1
theorem ez_imul {M : ez_M} {pc : Nat} {L st : List ez_V} {h : ez_H} {Q : ez_H → Option ez_V → Prop} {a b : Int} (hd : decode M.2.1 pc = .ok (.imul, 1)) (hr : in32 (a * b)) (k : ez_En M (pc + 1) L (ez_I (a * b) :: st) h Q) : ez_En M (pc) L (ez_I b :: ez_I a :: st) h Q := by
  intro p l e s m args below meth c G base ad C H locs ls R hl hL hs
  have k1 := k p l e s m args below meth c G base ad C H locs ls R hl hL (hs.tail.tail.cons hr)
  refine lv_imul C.1 C.2.1 hd ?_
  rw [e3_mul hs.tail.head hs.head hr]
  exact k1
theorem ez_ladd {M : ez_M} {pc : Nat} {L st : List ez_V} {h : ez_H} {Q : ez_H → Option ez_V → Prop} {a b : Int} (hd : decode M.2.1 pc = .ok (.ladd, 1)) (hr : in64 (a + b)) (k : ez_En M (pc + 1) L (ez_L (a + b) :: st) h Q) : ez_En M (pc) L (ez_L b :: ez_L a :: st) h Q := by
  intro p l e s m args below meth c G base ad C H locs ls R hl hL hs
  have k1 := k p l e s m args below meth c G base ad C H locs ls R hl hL (hs.tail.tail.cons hr)
  refine lv_ladd C.1 C.2.1 hd ?_
  rw [e6_add hs.tail.head hs.head hr]
  exact k1
theorem ez_lsub {M : ez_M} {pc : Nat} {L st : List ez_V} {h : ez_H} {Q : ez_H → Option ez_V → Prop} {a b : Int} (hd : decode M.2.1 pc = .ok (.lsub, 1)) (hr : in64 (a - b)) (k : ez_En M (pc + 1) L (ez_L (a - b) :: st) h Q) : ez_En M (pc) L (ez_L b :: ez_L a :: st) h Q := by
  intro p l e s m args below meth c G base ad C H locs ls R hl hL hs
  have k1 := k p l e s m args below meth c G base ad C H locs ls R hl hL (hs.tail.tail.cons hr)
  refine lv_lsub C.1 C.2.1 hd ?_
  rw [e6_sub hs.tail.head hs.head hr]
  exact k1
theorem ez_lmul {M : ez_M} {pc : Nat} {L st : List ez_V} {h : ez_H} {Q : ez_H → Option ez_V → Prop} {a b : Int} (hd : decode M.2.1 pc = .ok (.lmul, 1)) (hr : in64 (a * b)) (k : ez_En M (pc + 1) L (ez_L (a * b) :: st) h Q) : ez_En M (pc) L (ez_L b :: ez_L a :: st) h Q := by
  intro p l e s m args below meth c G base ad C H locs ls R hl hL hs
  have k1 := k p l e s m args below meth c G base ad C H locs ls R hl hL (hs.tail.tail.cons hr)
  refine lv_lmul C.1 C.2.1 hd ?_
  rw [e6_mul hs.tail.head hs.head hr]
  exact k1
theorem ez_ineg {M : ez_M} {pc : Nat} {L st : List ez_V} {h : ez_H} {Q : ez_H → Option ez_V → Prop} {a : Int} (hd : decode M.2.1 pc = .ok (.ineg, 1)) (hr : in32 (-a)) (k : ez_En M (pc + 1) L (ez_I (-a) :: st) h Q) : ez_En M (pc) L (ez_I a :: st) h Q := by
  intro p l e s m args below meth c G base ad C H locs ls R hl hL hs
  have k1 := k p l e s m args below meth c G base ad C H locs ls R hl hL (hs.tail.cons hr)
  refine lv_ineg C.1 C.2.1 hd ?_
  rw [e3_neg hs.head hr]
  exact k1
theorem ez_idiv {M : ez_M} {pc : Nat} {L st : List ez_V} {h : ez_H} {Q : ez_H → Option ez_V → Prop} {a b : Int} (hd : decode M.2.1 pc = .ok (.idiv, 1)) (hb : b ≠ 0) (hr : in32 (a.tdiv b)) (k : ez_En M (pc + 1) L (ez_I (a.tdiv b) :: st) h Q) : ez_En M (pc) L (ez_I b :: ez_I a :: st) h Q := by
  intro p l e s m args below meth c G base ad C H locs ls R hl hL hs
  have k1 := k p l e s m args below meth c G base ad C H locs ls R hl hL (hs.tail.tail.cons hr)
  refine lv_idiv C.1 C.2.1 hd (fun q => hb ((e3_eqI hs.head (by unfold in32; omega)).mp q)) ?_
  rw [e3_div hs.tail.head hs.head hr]
  exact k1
theorem ez_irem {M : ez_M} {pc : Nat} {L st : List ez_V} {h : ez_H} {Q : ez_H → Option ez_V → Prop} {a b : Int} (hd : decode M.2.1 pc = .ok (.irem, 1)) (hb : b ≠ 0) (hr : in32 (a.tdiv b)) (hm : in32 (a.tdiv b * b)) (hr2 : in32 (a - a.tdiv b * b)) (k : ez_En M (pc + 1) L (ez_I (a - a.tdiv b * b) :: st) h Q) : ez_En M (pc) L (ez_I b :: ez_I a :: st) h Q := by
  intro p l e s m args below meth c G base ad C H locs ls R hl hL hs
  have k1 := k p l e s m args below meth c G base ad C H locs ls R hl hL (hs.tail.tail.cons hr2)
  refine lv_irem C.1 C.2.1 hd (fun q => hb ((e3_eqI hs.head (by unfold in32; omega)).mp q)) ?_
  rw [e3_div hs.tail.head hs.head hr, e3_mul hr hs.head hm, e3_sub hs.tail.head hm hr2]
  exact k1
theorem ez_ldiv {M : ez_M} {pc : Nat} {L st : List ez_V} {h : ez_H} {Q : ez_H → Option ez_V → Prop} {a b : Int} (hd : decode M.2.1 pc = .ok (.ldiv, 1)) (hb : b ≠ 0) (hr : in64 (a.tdiv b)) (k : ez_En M (pc + 1) L (ez_L (a.tdiv b) :: st) h Q) : ez_En M (pc) L (ez_L b :: ez_L a :: st) h Q := by
  intro p l e s m args below meth c G base ad C H locs ls R hl hL hs
  have k1 := k p l e s m args below meth c G base ad C H locs ls R hl hL (hs.tail.tail.cons hr)
  refine lv_ldiv C.1 C.2.1 hd (fun q => hb ((e6_eqI hs.head (by unfold in64; omega)).mp q)) ?_
  rw [e6_div hs.tail.head hs.head hr]
  exact k1
theorem ez_lrem {M : ez_M} {pc : Nat} {L st : List ez_V} {h : ez_H} {Q : ez_H → Option ez_V → Prop} {a b : Int} (hd : decode M.2.1 pc = .ok (.lrem, 1)) (hb : b ≠ 0) (hr : in64 (a.tdiv b)) (hm : in64 (a.tdiv b * b)) (hr2 : in64 (a - a.tdiv b * b)) (k : ez_En M (pc + 1) L (ez_L (a - a.tdiv b * b) :: st) h Q) : ez_En M (pc) L (ez_L b :: ez_L a :: st) h Q := by
  intro p l e s m args below meth c G base ad C H locs ls R hl hL hs
  have k1 := k p l e s m args below meth c G base ad C H locs ls R hl hL (hs.tail.tail.cons hr2)
  refine lv_lrem C.1 C.2.1 hd (fun q => hb ((e6_eqI hs.head (by unfold in64; omega)).mp q)) ?_
  rw [e6_div hs.tail.head hs.head hr, e6_mul hr hs.head hm, e6_sub hs.tail.head hm hr2]
  exact k1
theorem ez_i2l {M : ez_M} {pc : Nat} {L st : List ez_V} {h : ez_H} {Q : ez_H → Option ez_V → Prop} {a : Int} (hd : decode M.2.1 pc = .ok (.i2l, 1)) (k : ez_En M (pc + 1) L (ez_L a :: st) h Q) : ez_En M (pc) L (ez_I a :: st) h Q := by
  intro p l e s m args below meth c G base ad C H locs ls R hl hL hs
  exact lv_i2l C.1 C.2.1 hd (e3_i2l hs.head) (k p l e s m args below meth c G base ad C H locs ls R hl hL (hs.tail.cons (e3_64 hs.head)))
theorem ez_l2i {M : ez_M} {pc : Nat} {L st : List ez_V} {h : ez_H} {Q : ez_H → Option ez_V → Prop} {a : Int} (hd : decode M.2.1 pc = .ok (.l2i, 1)) (hr : in32 a) (k : ez_En M (pc + 1) L (ez_I a :: st) h Q) : ez_En M (pc) L (ez_L a :: st) h Q := by
  intro p l e s m args below meth c G base ad C H locs ls R hl hL hs
  exact lv_l2i C.1 C.2.1 hd (e6_l2i hr) (k p l e s m args below meth c G base ad C H locs ls R hl hL (hs.tail.cons hr))
theorem ez_dup {M : ez_M} {pc : Nat} {L st : List ez_V} {h : ez_H} {Q : ez_H → Option ez_V → Prop} {v : ez_V} (hd : decode M.2.1 pc = .ok (.dup, 1)) (hv : ez_lg v = false) (k : ez_En M (pc + 1) L (v :: v :: st) h Q) : ez_En M (pc) L (v :: st) h Q := by
  intro p l e s m args below meth c G base ad C H locs ls R hl hL hs
  exact lv_dup C.1 C.2.1 hd (by rw [ez_cat, hv]; rfl) (k p l e s m args below meth c G base ad C H locs ls R hl hL (hs.cons hs.head))
theorem ez_dup2 {M : ez_M} {pc : Nat} {L st : List ez_V} {h : ez_H} {Q : ez_H → Option ez_V → Prop} {v w : ez_V} (hd : decode M.2.1 pc = .ok (.dup2, 1)) (hv : ez_lg v = false) (hw : ez_lg w = false) (k : ez_En M (pc + 1) L (v :: w :: v :: w :: st) h Q) : ez_En M (pc) L (v :: w :: st) h Q := by
  intro p l e s m args below meth c G base ad C H locs ls R hl hL hs
  exact lv_dup2_11 C.1 C.2.1 hd (by rw [ez_cat, hv]; rfl) (by rw [ez_cat, hw]; rfl) (k p l e s m args below meth c G base ad C H locs ls R hl hL ((hs.cons hs.tail.head).cons hs.head))
theorem ez_if_eq {M : ez_M} {pc : Nat} {L st : List ez_V} {h : ez_H} {Q : ez_H → Option ez_V → Prop} {a off : Int} (tgt : Nat) (hd : decode M.2.1 pc = .ok (.ifCond .eq off, 3)) (ht : (pc : Int) + off = (tgt : Int)) (kt : a = 0 → ez_En M (tgt) L (st) h Q) (kf : ¬ a = 0 → ez_En M (pc + 3) L (st) h Q) : ez_En M (pc) L (ez_I a :: st) h Q := by
  intro p l e s m args below meth c G base ad C H locs ls R hl hL hs
  have e0 : Int32.ofInt a = 0 ↔ a = 0 := by rw [← e3_z]; exact e3_eqI hs.head e3_0
  exact lv_if_eq C.1 C.2.1 hd ht (fun q => kt (e0.mp q) p l e s m args below meth c G base ad C H locs ls R hl hL hs.tail) (fun q => kf (fun z => q (e0.mpr z)) p l e s m args below meth c G base ad C H locs ls R hl hL hs.tail)
theorem ez_if_ne {M : ez_M} {pc : Nat} {L st : List ez_V} {h : ez_H} {Q : ez_H → Option ez_V → Prop} {a off : Int} (tgt : Nat) (hd : decode M.2.1 pc = .ok (.ifCond .ne off, 3)) (ht : (pc : Int) + off = (tgt : Int)) (kt : ¬ a = 0 → ez_En M (tgt) L (st) h Q) (kf : a = 0 → ez_En M (pc + 3) L (st) h Q) : ez_En M (pc) L (ez_I a :: st) h Q := by
  intro p l e s m args below meth c G base ad C H locs ls R hl hL hs
  have e0 : Int32.ofInt a = 0 ↔ a = 0 := by rw [← e3_z]; exact e3_eqI hs.head e3_0
  exact lv_if_ne C.1 C.2.1 hd ht (fun q => kt (fun z => q (e0.mpr z)) p l e s m args below meth c G base ad C H locs ls R hl hL hs.tail) (fun q => kf (e0.mp q) p l e s m args below meth c G base ad C H locs ls R hl hL hs.tail)
theorem ez_if_lt {M : ez_M} {pc : Nat} {L st : List ez_V} {h : ez_H} {Q : ez_H → Option ez_V → Prop} {a off : Int} (tgt : Nat) (hd : decode M.2.1 pc = .ok (.ifCond .lt off, 3)) (ht : (pc : Int) + off = (tgt : Int)) (kt : a < 0 → ez_En M (tgt) L (st) h Q) (kf : ¬ a < 0 → ez_En M (pc + 3) L (st) h Q) : ez_En M (pc) L (ez_I a :: st) h Q := by
  intro p l e s m args below meth c G base ad C H locs ls R hl hL hs
  have e0 : Int32.ofInt a < 0 ↔ a < 0 := by rw [← e3_z]; exact e3_lt hs.head e3_0
  exact lv_if_lt C.1 C.2.1 hd ht (fun q => kt (e0.mp q) p l e s m args below meth c G base ad C H locs ls R hl hL hs.tail) (fun q => kf (fun z => q (e0.mpr z)) p l e s m args below meth c G base ad C H locs ls R hl hL hs.tail)
theorem ez_if_ge {M : ez_M} {pc : Nat} {L st : List ez_V} {h : ez_H} {Q : ez_H → Option ez_V → Prop} {a off : Int} (tgt : Nat) (hd : decode M.2.1 pc = .ok (.ifCond .ge off, 3)) (ht : (pc : Int) + off = (tgt : Int)) (kt : 0 ≤ a → ez_En M (tgt) L (st) h Q) (kf : ¬ 0 ≤ a → ez_En M (pc + 3) L (st) h Q) : ez_En M (pc) L (ez_I a :: st) h Q := by
  intro p l e s m args below meth c G base ad C H locs ls R hl hL hs
  have e0 : 0 ≤ Int32.ofInt a ↔ 0 ≤ a := by rw [← e3_z]; exact e3_le e3_0 hs.head
  exact lv_if_ge C.1 C.2.1 hd ht (fun q => kt (e0.mp q) p l e s m args below meth c G base ad C H locs ls R hl hL hs.tail) (fun q => kf (fun z => q (e0.mpr z)) p l e s m args below meth c G base ad C H locs ls R hl hL hs.tail)
theorem ez_if_gt {M : ez_M} {pc : Nat} {L st : List ez_V} {h : ez_H} {Q : ez_H → Option ez_V → Prop} {a off : Int} (tgt : Nat) (hd : decode M.2.1 pc = .ok (.ifCond .gt off, 3)) (ht : (pc : Int) + off = (tgt : Int)) (kt : 0 < a → ez_En M (tgt) L (st) h Q) (kf : ¬ 0 < a → ez_En M (pc + 3) L (st) h Q) : ez_En M (pc) L (ez_I a :: st) h Q := by
  intro p l e s m args below meth c G base ad C H locs ls R hl hL hs
  have e0 : 0 < Int32.ofInt a ↔ 0 < a := by rw [← e3_z]; exact e3_lt e3_0 hs.head
  exact lv_if_gt C.1 C.2.1 hd ht (fun q => kt (e0.mp q) p l e s m args below meth c G base ad C H locs ls R hl hL hs.tail) (fun q => kf (fun z => q (e0.mpr z)) p l e s m args below meth c G base ad C H locs ls R hl hL hs.tail)
theorem ez_if_le {M : ez_M} {pc : Nat} {L st : List ez_V} {h : ez_H} {Q : ez_H → Option ez_V → Prop} {a off : Int} (tgt : Nat) (hd : decode M.2.1 pc = .ok (.ifCond .le off, 3)) (ht : (pc : Int) + off = (tgt : Int)) (kt : a ≤ 0 → ez_En M (tgt) L (st) h Q) (kf : ¬ a ≤ 0 → ez_En M (pc + 3) L (st) h Q) : ez_En M (pc) L (ez_I a :: st) h Q := by
  intro p l e s m args below meth c G base ad C H locs ls R hl hL hs
  have e0 : Int32.ofInt a ≤ 0 ↔ a ≤ 0 := by rw [← e3_z]; exact e3_le hs.head e3_0
  exact lv_if_le C.1 C.2.1 hd ht (fun q => kt (e0.mp q) p l e s m args below meth c G base ad C H locs ls R hl hL hs.tail) (fun q => kf (fun z => q (e0.mpr z)) p l e s m args below meth c G base ad C H locs ls R hl hL hs.tail)
theorem ez_ic_eq {M : ez_M} {pc : Nat} {L st : List ez_V} {h : ez_H} {Q : ez_H → Option ez_V → Prop} {a b off : Int} (tgt : Nat) (hd : decode M.2.1 pc = .ok (.if_icmp .eq off, 3)) (ht : (pc : Int) + off = (tgt : Int)) (kt : a = b → ez_En M (tgt) L (st) h Q) (kf : ¬ a = b → ez_En M (pc + 3) L (st) h Q) : ez_En M (pc) L (ez_I b :: ez_I a :: st) h Q := by
  intro p l e s m args below meth c G base ad C H locs ls R hl hL hs
  have e0 := e3_eqI hs.tail.head hs.head
  exact lv_icmp_eq C.1 C.2.1 hd ht (fun q => kt (e0.mp q) p l e s m args below meth c G base ad C H locs ls R hl hL hs.tail.tail) (fun q => kf (fun z => q (e0.mpr z)) p l e s m args below meth c G base ad C H locs ls R hl hL hs.tail.tail)
theorem ez_ic_ne {M : ez_M} {pc : Nat} {L st : List ez_V} {h : ez_H} {Q : ez_H → Option ez_V → Prop} {a b off : Int} (tgt : Nat) (hd : decode M.2.1 pc = .ok (.if_icmp .ne off, 3)) (ht : (pc : Int) + off = (tgt : Int)) (kt : ¬ a = b → ez_En M (tgt) L (st) h Q) (kf : a = b → ez_En M (pc + 3) L (st) h Q) : ez_En M (pc) L (ez_I b :: ez_I a :: st) h Q := by
  intro p l e s m args below meth c G base ad C H locs ls R hl hL hs
  have e0 := e3_eqI hs.tail.head hs.head
  exact lv_icmp_ne C.1 C.2.1 hd ht (fun q => kt (fun z => q (e0.mpr z)) p l e s m args below meth c G base ad C H locs ls R hl hL hs.tail.tail) (fun q => kf (e0.mp q) p l e s m args below meth c G base ad C H locs ls R hl hL hs.tail.tail)
theorem ez_ic_lt {M : ez_M} {pc : Nat} {L st : List ez_V} {h : ez_H} {Q : ez_H → Option ez_V → Prop} {a b off : Int} (tgt : Nat) (hd : decode M.2.1 pc = .ok (.if_icmp .lt off, 3)) (ht : (pc : Int) + off = (tgt : Int)) (kt : a < b → ez_En M (tgt) L (st) h Q) (kf : ¬ a < b → ez_En M (pc + 3) L (st) h Q) : ez_En M (pc) L (ez_I b :: ez_I a :: st) h Q := by
  intro p l e s m args below meth c G base ad C H locs ls R hl hL hs
  have e0 := e3_lt hs.tail.head hs.head
  exact lv_icmp_lt C.1 C.2.1 hd ht (fun q => kt (e0.mp q) p l e s m args below meth c G base ad C H locs ls R hl hL hs.tail.tail) (fun q => kf (fun z => q (e0.mpr z)) p l e s m args below meth c G base ad C H locs ls R hl hL hs.tail.tail)
theorem ez_ic_ge {M : ez_M} {pc : Nat} {L st : List ez_V} {h : ez_H} {Q : ez_H → Option ez_V → Prop} {a b off : Int} (tgt : Nat) (hd : decode M.2.1 pc = .ok (.if_icmp .ge off, 3)) (ht : (pc : Int) + off = (tgt : Int)) (kt : b ≤ a → ez_En M (tgt) L (st) h Q) (kf : ¬ b ≤ a → ez_En M (pc + 3) L (st) h Q) : ez_En M (pc) L (ez_I b :: ez_I a :: st) h Q := by
  intro p l e s m args below meth c G base ad C H locs ls R hl hL hs
  have e0 := e3_le hs.head hs.tail.head
  exact lv_icmp_ge C.1 C.2.1 hd ht (fun q => kt (e0.mp q) p l e s m args below meth c G base ad C H locs ls R hl hL hs.tail.tail) (fun q => kf (fun z => q (e0.mpr z)) p l e s m args below meth c G base ad C H locs ls R hl hL hs.tail.tail)
theorem ez_ic_gt {M : ez_M} {pc : Nat} {L st : List ez_V} {h : ez_H} {Q : ez_H → Option ez_V → Prop} {a b off : Int} (tgt : Nat) (hd : decode M.2.1 pc = .ok (.if_icmp .gt off, 3)) (ht : (pc : Int) + off = (tgt : Int)) (kt : b < a → ez_En M (tgt) L (st) h Q) (kf : ¬ b < a → ez_En M (pc + 3) L (st) h Q) : ez_En M (pc) L (ez_I b :: ez_I a :: st) h Q := by
  intro p l e s m args below meth c G base ad C H locs ls R hl hL hs
  have e0 := e3_lt hs.head hs.tail.head
  exact lv_icmp_gt C.1 C.2.1 hd ht (fun q => kt (e0.mp q) p l e s m args below meth c G base ad C H locs ls R hl hL hs.tail.tail) (fun q => kf (fun z => q (e0.mpr z)) p l e s m args below meth c G base ad C H locs ls R hl hL hs.tail.tail)
theorem ez_ic_le {M : ez_M} {pc : Nat} {L st : List ez_V} {h : ez_H} {Q : ez_H → Option ez_V → Prop} {a b off : Int} (tgt : Nat) (hd : decode M.2.1 pc = .ok (.if_icmp .le off, 3)) (ht : (pc : Int) + off = (tgt : Int)) (kt : a ≤ b → ez_En M (tgt) L (st) h Q) (kf : ¬ a ≤ b → ez_En M (pc + 3) L (st) h Q) : ez_En M (pc) L (ez_I b :: ez_I a :: st) h Q := by
  intro p l e s m args below meth c G base ad C H locs ls R hl hL hs
  have e0 := e3_le hs.tail.head hs.head
  exact lv_icmp_le C.1 C.2.1 hd ht (fun q => kt (e0.mp q) p l e s m args below meth c G base ad C H locs ls R hl hL hs.tail.tail) (fun q => kf (fun z => q (e0.mpr z)) p l e s m args below meth c G base ad C H locs ls R hl hL hs.tail.tail)
theorem ez_goto {M : ez_M} {pc : Nat} {L st : List ez_V} {h : ez_H} {Q : ez_H → Option ez_V → Prop} {off : Int} (tgt : Nat) (hd : decode M.2.1 pc = .ok (.goto off, 3)) (ht : (pc : Int) + off = (tgt : Int)) (k : ez_En M (tgt) L (st) h Q) : ez_En M (pc) L (st) h Q := by
  intro p l e s m args below meth c G base ad C H locs ls R hl hL hs
  exact lv_goto C.1 C.2.1 hd ht (k p l e s m args below meth c G base ad C H locs ls R hl hL hs)
theorem ez_tin {M : ez_M} {pc : Nat} {L st : List ez_V} {h : ez_H} {Q : ez_H → Option ez_V → Prop} {d lo hi a off : Int} {offs : Array Int} {len : Nat} (tgt : Nat) (hd : decode M.2.1 pc = .ok (.tableswitch d lo hi offs, len)) (h1 : lo ≤ a) (h2 : a ≤ hi) (ho : offs[(a - lo).toNat]? = some off) (ht : (pc : Int) + off = (tgt : Int)) (k : ez_En M (tgt) L (st) h Q) : ez_En M (pc) L (ez_I a :: st) h Q := by
  intro p l e s m args below meth c G base ad C H locs ls R hl hL hs
  have ee := e3_toInt hs.head
  exact lv_tableIn C.1 C.2.1 hd (by rw [ee]; omega) (by rw [ee]; omega) (by rw [ee]; exact ho) ht (k p l e s m args below meth c G base ad C H locs ls R hl hL hs.tail)
theorem ez_tout {M : ez_M} {pc : Nat} {L st : List ez_V} {h : ez_H} {Q : ez_H → Option ez_V → Prop} {d lo hi a : Int} {offs : Array Int} {len : Nat} (tgt : Nat) (hd : decode M.2.1 pc = .ok (.tableswitch d lo hi offs, len)) (h1 : a < lo ∨ hi < a) (ht : (pc : Int) + d = (tgt : Int)) (k : ez_En M (tgt) L (st) h Q) : ez_En M (pc) L (ez_I a :: st) h Q := by
  intro p l e s m args below meth c G base ad C H locs ls R hl hL hs
  have ee := e3_toInt hs.head
  exact lv_tableOut C.1 C.2.1 hd (by rw [ee]; exact h1) ht (k p l e s m args below meth c G base ad C H locs ls R hl hL hs.tail)
theorem ez_lcmp {M : ez_M} {pc : Nat} {L st : List ez_V} {h : ez_H} {Q : ez_H → Option ez_V → Prop} {a b : Int} (hd : decode M.2.1 pc = .ok (.lcmp, 1)) (k : ∀ z : Int, (z = -1 ∧ a < b ∨ z = 0 ∧ a = b ∨ z = 1 ∧ b < a) → ez_En M (pc + 1) L (ez_I z :: st) h Q) : ez_En M (pc) L (ez_L b :: ez_L a :: st) h Q := by
  intro p l e s m args below meth c G base ad C H locs ls R hl hL hs
  have ha : in64 a := hs.tail.head
  have hb : in64 b := hs.head
  have e1 := e6_lt ha hb
  have e2 := e6_eqI ha hb
  rcases Int.lt_trichotomy a b with q | q | q
  · have k1 := k (-1) (Or.inl ⟨rfl, q⟩) p l e s m args below meth c G base ad C H locs ls R hl hL (hs.tail.tail.cons (by unfold ez_ok ez_I in32; simp))
    refine W.lcmp C.1 C.2.1 hd ?_
    rw [show lg_cmp (Int64.ofInt a) (Int64.ofInt b) = Int32.ofInt (-1) from by
      unfold lg_cmp
      rw [if_neg (fun z => by have := (e6_lt hb ha).mp z; omega), if_neg (fun z => by have := e2.mp z; omega)]
      decide]
    exact k1
  · have k1 := k 0 (Or.inr (Or.inl ⟨rfl, q⟩)) p l e s m args below meth c G base ad C H locs ls R hl hL (hs.tail.tail.cons (by unfold ez_ok ez_I in32; simp))
    refine W.lcmp C.1 C.2.1 hd ?_
    rw [show lg_cmp (Int64.ofInt a) (Int64.ofInt b) = Int32.ofInt 0 from by
      unfold lg_cmp
      rw [if_neg (fun z => by have := (e6_lt hb ha).mp z; omega), if_pos (e2.mpr q)]
      decide]
    exact k1
  · have k1 := k 1 (Or.inr (Or.inr ⟨rfl, q⟩)) p l e s m args below meth c G base ad C H locs ls R hl hL (hs.tail.tail.cons (by unfold ez_ok ez_I in32; simp))
    refine W.lcmp C.1 C.2.1 hd ?_
    rw [show lg_cmp (Int64.ofInt a) (Int64.ofInt b) = Int32.ofInt 1 from by
      unfold lg_cmp
      rw [if_pos ((e6_lt hb ha).mpr q)]
      decide]
    exact k1
theorem ez_rng {M : ez_M} {pc : Nat} {L st : List ez_V} {h : ez_H} {Q : ez_H → Option ez_V → Prop} {a : Int} (k : in32 a → ez_En M (pc) L (ez_I a :: st) h Q) : ez_En M (pc) L (ez_I a :: st) h Q := by
  intro p l e s m args below meth c G base ad C H locs ls R hl hL hs
  exact k hs.head p l e s m args below meth c G base ad C H locs ls R hl hL hs
theorem ez_rngL {M : ez_M} {pc : Nat} {L st : List ez_V} {h : ez_H} {Q : ez_H → Option ez_V → Prop} {i : Nat} {a : Int} (hz : L[i]? = some (ez_I a)) (k : in32 a → ez_En M (pc) L (st) h Q) : ez_En M (pc) L (st) h Q := by
  intro p l e s m args below meth c G base ad C H locs ls R hl hL hs
  exact k (hL.at hz) p l e s m args below meth c G base ad C H locs ls R hl hL hs
theorem ez_rngH {M : ez_M} {pc : Nat} {L st : List ez_V} {h : ez_H} {Q : ez_H → Option ez_V → Prop} (k : ez_okh h → ez_En M (pc) L (st) h Q) : ez_En M (pc) L (st) h Q := by
  intro p l e s m args below meth c G base ad C H locs ls R hl hL hs
  exact k R.2.2.2 p l e s m args below meth c G base ad C H locs ls R hl hL hs
theorem ez_less {M : ez_M} {pc : Nat} {L st : List ez_V} {h : ez_H} {Q : ez_H → Option ez_V → Prop} {L' : List ez_V} (hLL : ∀ (i : Nat) (v : ez_V), L'[i]? = some v → v = ez_N ∨ L[i]? = some v) (k : ez_En M pc L' st h Q) : ez_En M (pc) L (st) h Q := by
  intro p l e s m args below meth c G base ad C H locs ls R hl hL hs
  refine k p l e s m args below meth c G base ad C H locs ls R ⟨hl.1, hl.2.1, fun i v hi hv => ?_⟩ (fun v hv => ?_) hs
  · rcases hLL i v hi with q | q
    · exact absurd q hv
    · exact hl.2.2 i v q hv
  · obtain ⟨i, hi⟩ := List.getElem?_of_mem hv
    rcases hLL i v hi with q | q
    · rw [q]; exact ez_okN
    · exact hL.at q
theorem ez_ireturn {M : ez_M} {pc : Nat} {L st : List ez_V} {h : ez_H} {Q : ez_H → Option ez_V → Prop} {a : Int} (hd : decode M.2.1 pc = .ok (.ireturn, 1)) (hr : M.2.2.2.1 = some .int) (hq : Q h (some (ez_I a))) : ez_En M (pc) L ([ez_I a]) h Q := by
  intro p l e s m args below meth c G base ad C H locs ls R hl hL hs
  exact W.iret (v := Int32.ofInt a) C.1 C.2.1 (C.2.2.1.trans hr) (fun t ht _ => ⟨h, some (ez_I a), rfl, hq, (fun v hv => by cases hv; exact hs.head), by rw [ht]; exact R.1, R.2.2.2, R.2.2.1.F ht⟩) R.2.2.1.2.2 hd C.2.2.2.2.2.2.1
theorem ez_zreturn {M : ez_M} {pc : Nat} {L st : List ez_V} {h : ez_H} {Q : ez_H → Option ez_V → Prop} {a : Int} (hd : decode M.2.1 pc = .ok (.ireturn, 1)) (hr : M.2.2.2.1 = some .boolean) (hz : a = 0 ∨ a = 1) (hq : Q h (some (ez_I a))) : ez_En M (pc) L ([ez_I a]) h Q := by
  intro p l e s m args below meth c G base ad C H locs ls R hl hL hs
  exact W.zret (v := Int32.ofInt a) C.1 C.2.1 (C.2.2.1.trans hr) (by rcases hz with rfl | rfl <;> rfl) (fun t ht _ => ⟨h, some (ez_I a), rfl, hq, (fun v hv => by cases hv; exact hs.head), by rw [ht]; exact R.1, R.2.2.2, R.2.2.1.F ht⟩) R.2.2.1.2.2 hd C.2.2.2.2.2.2.1
theorem ez_vreturn {M : ez_M} {pc : Nat} {L st : List ez_V} {h : ez_H} {Q : ez_H → Option ez_V → Prop} (hd : decode M.2.1 pc = .ok (.return_, 1)) (hr : M.2.2.2.1 = none) (hq : Q h none) : ez_En M (pc) L ([]) h Q := by
  intro p l e s m args below meth c G base ad C H locs ls R hl hL hs
  exact W.vret C.1 C.2.1 (C.2.2.1.trans hr) (fun t ht _ => ⟨h, none, rfl, hq, (fun v hv => by cases hv), by rw [ht]; exact R.1, R.2.2.2, R.2.2.1.F ht⟩) R.2.2.1.2.2 hd C.2.2.2.2.2.2.1
theorem ez_areturn {M : ez_M} {pc : Nat} {L st : List ez_V} {h : ez_H} {Q : ez_H → Option ez_V → Prop} {o : Int} {rn : String} (hd : decode M.2.1 pc = .ok (.areturn, 1)) (hr : M.2.2.2.1 = some (.object rn)) (hq : Q h (some (ez_R o))) : ez_En M (pc) L ([ez_R o]) h Q := by
  intro p l e s m args below meth c G base ad C H locs ls R hl hL hs
  exact W.aret (v := .ref (ad o.toNat)) C.1 C.2.1 (C.2.2.1.trans hr) (Or.inl ⟨_, rfl⟩) (Or.inr ⟨_, rfl⟩) (fun t ht _ => ⟨h, some (ez_R o), rfl, hq, (fun v hv => by cases hv; exact ez_okR o), by rw [ht]; exact R.1, R.2.2.2, R.2.2.1.F ht⟩) R.2.2.1.2.2 hd C.2.2.2.2.2.2.1
