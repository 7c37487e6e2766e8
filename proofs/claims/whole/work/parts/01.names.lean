-- ===== PART A: goes FIRST, ahead of the names: the tables' words, and 'selects' of the private methods out of them =====
/-- a private method of a class that the tables say can be made, by its rows of tables_1 -/
def lw_okq (q : MethodName × Nat) : Prop := (q.1.cls ≠ "java/lang/invoke/MethodHandle" ∧ q.1.cls ≠ "java/lang/invoke/VarHandle") ∧ Cond.instantiable q.1.cls q.2 ∈ tables_1 ∧ Cond.privateMethod q.1 ∈ tables_1 ∧ Cond.instanceMethod q.1 ∈ tables_1
theorem lw_p0 : lw_okq (⟨"StarPlates", "hasYear", "(I)Z"⟩, 8) := ⟨⟨by decide +kernel, by decide +kernel⟩, List.mem_of_getElem? (i := 11) (by decide +kernel), List.mem_of_getElem? (i := 267) (by decide +kernel), List.mem_of_getElem? (i := 268) (by decide +kernel)⟩
theorem lw_p1 : lw_okq (⟨"StarPlates", "isPlate", "(I)Z"⟩, 8) := ⟨⟨by decide +kernel, by decide +kernel⟩, List.mem_of_getElem? (i := 11) (by decide +kernel), List.mem_of_getElem? (i := 275) (by decide +kernel), List.mem_of_getElem? (i := 276) (by decide +kernel)⟩
theorem lw_p2 : lw_okq (⟨"StarPlates$Plate", "isTaken", "(II)Z"⟩, 4) := ⟨⟨by decide +kernel, by decide +kernel⟩, List.mem_of_getElem? (i := 20) (by decide +kernel), List.mem_of_getElem? (i := 286) (by decide +kernel), List.mem_of_getElem? (i := 287) (by decide +kernel)⟩
theorem lw_p3 : lw_okq (⟨"StarPlates", "forgetLaysOf", "(I)V"⟩, 8) := ⟨⟨by decide +kernel, by decide +kernel⟩, List.mem_of_getElem? (i := 11) (by decide +kernel), List.mem_of_getElem? (i := 290) (by decide +kernel), List.mem_of_getElem? (i := 291) (by decide +kernel)⟩
theorem lw_p4 : lw_okq (⟨"StarPlates", "isSpot", "(II)Z"⟩, 8) := ⟨⟨by decide +kernel, by decide +kernel⟩, List.mem_of_getElem? (i := 11) (by decide +kernel), List.mem_of_getElem? (i := 298) (by decide +kernel), List.mem_of_getElem? (i := 299) (by decide +kernel)⟩
theorem lw_p5 : lw_okq (⟨"StarPlates", "trackCount", "()I"⟩, 8) := ⟨⟨by decide +kernel, by decide +kernel⟩, List.mem_of_getElem? (i := 11) (by decide +kernel), List.mem_of_getElem? (i := 314) (by decide +kernel), List.mem_of_getElem? (i := 315) (by decide +kernel)⟩
theorem lw_p6 : lw_okq (⟨"StarPlates", "freshenTracks", "()V"⟩, 8) := ⟨⟨by decide +kernel, by decide +kernel⟩, List.mem_of_getElem? (i := 11) (by decide +kernel), List.mem_of_getElem? (i := 318) (by decide +kernel), List.mem_of_getElem? (i := 319) (by decide +kernel)⟩
theorem lw_p7 : lw_okq (⟨"StarPlates$Tracks", "enter", "(IIIII)V"⟩, 13) := ⟨⟨by decide +kernel, by decide +kernel⟩, List.mem_of_getElem? (i := 181) (by decide +kernel), List.mem_of_getElem? (i := 329) (by decide +kernel), List.mem_of_getElem? (i := 330) (by decide +kernel)⟩
theorem lw_p8 : lw_okq (⟨"StarPlates", "bestLay", "(II)LStarPlates$Lay;"⟩, 8) := ⟨⟨by decide +kernel, by decide +kernel⟩, List.mem_of_getElem? (i := 11) (by decide +kernel), List.mem_of_getElem? (i := 333) (by decide +kernel), List.mem_of_getElem? (i := 334) (by decide +kernel)⟩
theorem lw_p9 : lw_okq (⟨"StarPlates$Fitter", "listShifts", "(LStarPlates$Plate;LStarPlates$Plate;II)V"⟩, 12) := ⟨⟨by decide +kernel, by decide +kernel⟩, List.mem_of_getElem? (i := 94) (by decide +kernel), List.mem_of_getElem? (i := 346) (by decide +kernel), List.mem_of_getElem? (i := 347) (by decide +kernel)⟩
theorem lw_p10 : lw_okq (⟨"StarPlates$Fitter", "sortKeys", "()V"⟩, 12) := ⟨⟨by decide +kernel, by decide +kernel⟩, List.mem_of_getElem? (i := 94) (by decide +kernel), List.mem_of_getElem? (i := 359) (by decide +kernel), List.mem_of_getElem? (i := 360) (by decide +kernel)⟩
theorem lw_p11 : lw_okq (⟨"StarPlates$Fitter", "readKeys", "()V"⟩, 12) := ⟨⟨by decide +kernel, by decide +kernel⟩, List.mem_of_getElem? (i := 94) (by decide +kernel), List.mem_of_getElem? (i := 365) (by decide +kernel), List.mem_of_getElem? (i := 366) (by decide +kernel)⟩
theorem lw_p12 : lw_okq (⟨"StarPlates$Fitter", "tryShifts", "(IIIILStarPlates$Lay;)V"⟩, 12) := ⟨⟨by decide +kernel, by decide +kernel⟩, List.mem_of_getElem? (i := 94) (by decide +kernel), List.mem_of_getElem? (i := 370) (by decide +kernel), List.mem_of_getElem? (i := 371) (by decide +kernel)⟩
theorem lw_p13 : lw_okq (⟨"StarPlates$Fitter", "gauge", "(II)V"⟩, 12) := ⟨⟨by decide +kernel, by decide +kernel⟩, List.mem_of_getElem? (i := 94) (by decide +kernel), List.mem_of_getElem? (i := 374) (by decide +kernel), List.mem_of_getElem? (i := 375) (by decide +kernel)⟩
theorem lw_p14 : lw_okq (⟨"StarPlates$Fitter", "measure", "(II)V"⟩, 12) := ⟨⟨by decide +kernel, by decide +kernel⟩, List.mem_of_getElem? (i := 94) (by decide +kernel), List.mem_of_getElem? (i := 391) (by decide +kernel), List.mem_of_getElem? (i := 392) (by decide +kernel)⟩
theorem lw_p15 : lw_okq (⟨"StarPlates$Matcher", "setCosts", "([IIIII)V"⟩, 10) := ⟨⟨by decide +kernel, by decide +kernel⟩, List.mem_of_getElem? (i := 100) (by decide +kernel), List.mem_of_getElem? (i := 401) (by decide +kernel), List.mem_of_getElem? (i := 402) (by decide +kernel)⟩
def lw_privs_1 : List (MethodName × Nat) := [(⟨"StarPlates", "hasYear", "(I)Z"⟩, 8), (⟨"StarPlates", "isPlate", "(I)Z"⟩, 8), (⟨"StarPlates$Plate", "isTaken", "(II)Z"⟩, 4), (⟨"StarPlates", "forgetLaysOf", "(I)V"⟩, 8), (⟨"StarPlates", "isSpot", "(II)Z"⟩, 8), (⟨"StarPlates", "trackCount", "()I"⟩, 8), (⟨"StarPlates", "freshenTracks", "()V"⟩, 8), (⟨"StarPlates$Tracks", "enter", "(IIIII)V"⟩, 13), (⟨"StarPlates", "bestLay", "(II)LStarPlates$Lay;"⟩, 8), (⟨"StarPlates$Fitter", "listShifts", "(LStarPlates$Plate;LStarPlates$Plate;II)V"⟩, 12), (⟨"StarPlates$Fitter", "sortKeys", "()V"⟩, 12), (⟨"StarPlates$Fitter", "readKeys", "()V"⟩, 12), (⟨"StarPlates$Fitter", "tryShifts", "(IIIILStarPlates$Lay;)V"⟩, 12), (⟨"StarPlates$Fitter", "gauge", "(II)V"⟩, 12), (⟨"StarPlates$Fitter", "measure", "(II)V"⟩, 12), (⟨"StarPlates$Matcher", "setCosts", "([IIIII)V"⟩, 10)]
theorem lw_r1 : ∀ q ∈ lw_privs_1, lw_okq q := List.forall_mem_cons.mpr ⟨lw_p0, List.forall_mem_cons.mpr ⟨lw_p1, List.forall_mem_cons.mpr ⟨lw_p2, List.forall_mem_cons.mpr ⟨lw_p3, List.forall_mem_cons.mpr ⟨lw_p4, List.forall_mem_cons.mpr ⟨lw_p5, List.forall_mem_cons.mpr ⟨lw_p6, List.forall_mem_cons.mpr ⟨lw_p7, List.forall_mem_cons.mpr ⟨lw_p8, List.forall_mem_cons.mpr ⟨lw_p9, List.forall_mem_cons.mpr ⟨lw_p10, List.forall_mem_cons.mpr ⟨lw_p11, List.forall_mem_cons.mpr ⟨lw_p12, List.forall_mem_cons.mpr ⟨lw_p13, List.forall_mem_cons.mpr ⟨lw_p14, List.forall_mem_cons.mpr ⟨lw_p15, fun _ h => absurd h List.not_mem_nil⟩⟩⟩⟩⟩⟩⟩⟩⟩⟩⟩⟩⟩⟩⟩⟩
theorem lw_p16 : lw_okq (⟨"StarPlates$Matcher", "settle", "(II)V"⟩, 10) := ⟨⟨by decide +kernel, by decide +kernel⟩, List.mem_of_getElem? (i := 100) (by decide +kernel), List.mem_of_getElem? (i := 413) (by decide +kernel), List.mem_of_getElem? (i := 414) (by decide +kernel)⟩
theorem lw_p17 : lw_okq (⟨"StarPlates$Matcher", "advance", "(II)I"⟩, 10) := ⟨⟨by decide +kernel, by decide +kernel⟩, List.mem_of_getElem? (i := 100) (by decide +kernel), List.mem_of_getElem? (i := 418) (by decide +kernel), List.mem_of_getElem? (i := 419) (by decide +kernel)⟩
theorem lw_p18 : lw_okq (⟨"StarPlates$Matcher", "readPairs", "([III)V"⟩, 10) := ⟨⟨by decide +kernel, by decide +kernel⟩, List.mem_of_getElem? (i := 100) (by decide +kernel), List.mem_of_getElem? (i := 422) (by decide +kernel), List.mem_of_getElem? (i := 423) (by decide +kernel)⟩
theorem lw_p19 : lw_okq (⟨"StarPlates", "isTrack", "(I)Z"⟩, 8) := ⟨⟨by decide +kernel, by decide +kernel⟩, List.mem_of_getElem? (i := 11) (by decide +kernel), List.mem_of_getElem? (i := 477) (by decide +kernel), List.mem_of_getElem? (i := 478) (by decide +kernel)⟩
theorem lw_p20 : lw_okq (⟨"StarPlates", "firstFreeNear", "(LStarPlates$Lay;II)I"⟩, 8) := ⟨⟨by decide +kernel, by decide +kernel⟩, List.mem_of_getElem? (i := 11) (by decide +kernel), List.mem_of_getElem? (i := 522) (by decide +kernel), List.mem_of_getElem? (i := 523) (by decide +kernel)⟩
theorem lw_p21 : lw_okq (⟨"StarPlatesModel", "forgets", "()V"⟩, 19) := ⟨⟨by decide +kernel, by decide +kernel⟩, List.mem_of_getElem? (i := 529) (by decide +kernel), List.mem_of_getElem? (i := 600) (by decide +kernel), List.mem_of_getElem? (i := 601) (by decide +kernel)⟩
theorem lw_p22 : lw_okq (⟨"StarPlatesModel", "isPlate", "(I)Z"⟩, 19) := ⟨⟨by decide +kernel, by decide +kernel⟩, List.mem_of_getElem? (i := 529) (by decide +kernel), List.mem_of_getElem? (i := 608) (by decide +kernel), List.mem_of_getElem? (i := 609) (by decide +kernel)⟩
theorem lw_p23 : lw_okq (⟨"StarPlatesModel", "hasLay", "(II)Z"⟩, 19) := ⟨⟨by decide +kernel, by decide +kernel⟩, List.mem_of_getElem? (i := 529) (by decide +kernel), List.mem_of_getElem? (i := 624) (by decide +kernel), List.mem_of_getElem? (i := 625) (by decide +kernel)⟩
theorem lw_p24 : lw_okq (⟨"StarPlatesModel", "lays", "(II)V"⟩, 19) := ⟨⟨by decide +kernel, by decide +kernel⟩, List.mem_of_getElem? (i := 529) (by decide +kernel), List.mem_of_getElem? (i := 628) (by decide +kernel), List.mem_of_getElem? (i := 629) (by decide +kernel)⟩
theorem lw_p25 : lw_okq (⟨"StarPlatesModel", "takes", "(IIIIIII)I"⟩, 19) := ⟨⟨by decide +kernel, by decide +kernel⟩, List.mem_of_getElem? (i := 529) (by decide +kernel), List.mem_of_getElem? (i := 638) (by decide +kernel), List.mem_of_getElem? (i := 639) (by decide +kernel)⟩
theorem lw_p26 : lw_okq (⟨"StarPlatesModel", "comes", "(IIIII)V"⟩, 19) := ⟨⟨by decide +kernel, by decide +kernel⟩, List.mem_of_getElem? (i := 529) (by decide +kernel), List.mem_of_getElem? (i := 642) (by decide +kernel), List.mem_of_getElem? (i := 643) (by decide +kernel)⟩
theorem lw_p27 : lw_okq (⟨"StarPlatesModel", "near", "(II)I"⟩, 19) := ⟨⟨by decide +kernel, by decide +kernel⟩, List.mem_of_getElem? (i := 529) (by decide +kernel), List.mem_of_getElem? (i := 646) (by decide +kernel), List.mem_of_getElem? (i := 647) (by decide +kernel)⟩
theorem lw_p28 : lw_okq (⟨"StarPlatesModel", "farTo", "(III)I"⟩, 19) := ⟨⟨by decide +kernel, by decide +kernel⟩, List.mem_of_getElem? (i := 529) (by decide +kernel), List.mem_of_getElem? (i := 650) (by decide +kernel), List.mem_of_getElem? (i := 651) (by decide +kernel)⟩
theorem lw_p29 : lw_okq (⟨"StarPlatesModel", "weighs", "(II)I"⟩, 19) := ⟨⟨by decide +kernel, by decide +kernel⟩, List.mem_of_getElem? (i := 529) (by decide +kernel), List.mem_of_getElem? (i := 663) (by decide +kernel), List.mem_of_getElem? (i := 664) (by decide +kernel)⟩
theorem lw_p30 : lw_okq (⟨"StarPlatesModel", "finds", "(II)V"⟩, 19) := ⟨⟨by decide +kernel, by decide +kernel⟩, List.mem_of_getElem? (i := 529) (by decide +kernel), List.mem_of_getElem? (i := 667) (by decide +kernel), List.mem_of_getElem? (i := 668) (by decide +kernel)⟩
theorem lw_p31 : lw_okq (⟨"StarPlatesModel", "isTrack", "(I)Z"⟩, 19) := ⟨⟨by decide +kernel, by decide +kernel⟩, List.mem_of_getElem? (i := 529) (by decide +kernel), List.mem_of_getElem? (i := 679) (by decide +kernel), List.mem_of_getElem? (i := 680) (by decide +kernel)⟩
def lw_privs_2 : List (MethodName × Nat) := [(⟨"StarPlates$Matcher", "settle", "(II)V"⟩, 10), (⟨"StarPlates$Matcher", "advance", "(II)I"⟩, 10), (⟨"StarPlates$Matcher", "readPairs", "([III)V"⟩, 10), (⟨"StarPlates", "isTrack", "(I)Z"⟩, 8), (⟨"StarPlates", "firstFreeNear", "(LStarPlates$Lay;II)I"⟩, 8), (⟨"StarPlatesModel", "forgets", "()V"⟩, 19), (⟨"StarPlatesModel", "isPlate", "(I)Z"⟩, 19), (⟨"StarPlatesModel", "hasLay", "(II)Z"⟩, 19), (⟨"StarPlatesModel", "lays", "(II)V"⟩, 19), (⟨"StarPlatesModel", "takes", "(IIIIIII)I"⟩, 19), (⟨"StarPlatesModel", "comes", "(IIIII)V"⟩, 19), (⟨"StarPlatesModel", "near", "(II)I"⟩, 19), (⟨"StarPlatesModel", "farTo", "(III)I"⟩, 19), (⟨"StarPlatesModel", "weighs", "(II)I"⟩, 19), (⟨"StarPlatesModel", "finds", "(II)V"⟩, 19), (⟨"StarPlatesModel", "isTrack", "(I)Z"⟩, 19)]
theorem lw_r2 : ∀ q ∈ lw_privs_2, lw_okq q := List.forall_mem_cons.mpr ⟨lw_p16, List.forall_mem_cons.mpr ⟨lw_p17, List.forall_mem_cons.mpr ⟨lw_p18, List.forall_mem_cons.mpr ⟨lw_p19, List.forall_mem_cons.mpr ⟨lw_p20, List.forall_mem_cons.mpr ⟨lw_p21, List.forall_mem_cons.mpr ⟨lw_p22, List.forall_mem_cons.mpr ⟨lw_p23, List.forall_mem_cons.mpr ⟨lw_p24, List.forall_mem_cons.mpr ⟨lw_p25, List.forall_mem_cons.mpr ⟨lw_p26, List.forall_mem_cons.mpr ⟨lw_p27, List.forall_mem_cons.mpr ⟨lw_p28, List.forall_mem_cons.mpr ⟨lw_p29, List.forall_mem_cons.mpr ⟨lw_p30, List.forall_mem_cons.mpr ⟨lw_p31, fun _ h => absurd h List.not_mem_nil⟩⟩⟩⟩⟩⟩⟩⟩⟩⟩⟩⟩⟩⟩⟩⟩
theorem lw_p32 : lw_okq (⟨"StarPlatesModel", "tracks", "()I"⟩, 19) := ⟨⟨by decide +kernel, by decide +kernel⟩, List.mem_of_getElem? (i := 529) (by decide +kernel), List.mem_of_getElem? (i := 683) (by decide +kernel), List.mem_of_getElem? (i := 684) (by decide +kernel)⟩
theorem lw_p33 : lw_okq (⟨"StarPlatesModel", "frame", "()I"⟩, 19) := ⟨⟨by decide +kernel, by decide +kernel⟩, List.mem_of_getElem? (i := 529) (by decide +kernel), List.mem_of_getElem? (i := 687) (by decide +kernel), List.mem_of_getElem? (i := 688) (by decide +kernel)⟩
theorem lw_p34 : lw_okq (⟨"StarPlatesModel", "spotOf", "(II)I"⟩, 19) := ⟨⟨by decide +kernel, by decide +kernel⟩, List.mem_of_getElem? (i := 529) (by decide +kernel), List.mem_of_getElem? (i := 691) (by decide +kernel), List.mem_of_getElem? (i := 692) (by decide +kernel)⟩
theorem lw_p35 : lw_okq (⟨"StarPlatesModel", "onFrame", "(III)I"⟩, 19) := ⟨⟨by decide +kernel, by decide +kernel⟩, List.mem_of_getElem? (i := 529) (by decide +kernel), List.mem_of_getElem? (i := 699) (by decide +kernel), List.mem_of_getElem? (i := 700) (by decide +kernel)⟩
theorem lw_p36 : lw_okq (⟨"StarPlatesModel", "moves", "(I)Z"⟩, 19) := ⟨⟨by decide +kernel, by decide +kernel⟩, List.mem_of_getElem? (i := 529) (by decide +kernel), List.mem_of_getElem? (i := 707) (by decide +kernel), List.mem_of_getElem? (i := 708) (by decide +kernel)⟩
theorem lw_p37 : lw_okq (⟨"StarPlatesModel", "isSteady", "(I)Z"⟩, 19) := ⟨⟨by decide +kernel, by decide +kernel⟩, List.mem_of_getElem? (i := 529) (by decide +kernel), List.mem_of_getElem? (i := 718) (by decide +kernel), List.mem_of_getElem? (i := 719) (by decide +kernel)⟩
theorem lw_p38 : lw_okq (⟨"StarPlatesModel", "together", "(I)I"⟩, 19) := ⟨⟨by decide +kernel, by decide +kernel⟩, List.mem_of_getElem? (i := 529) (by decide +kernel), List.mem_of_getElem? (i := 722) (by decide +kernel), List.mem_of_getElem? (i := 723) (by decide +kernel)⟩
theorem lw_p39 : lw_okq (⟨"StarPlatesModel", "isPaired", "(III)Z"⟩, 19) := ⟨⟨by decide +kernel, by decide +kernel⟩, List.mem_of_getElem? (i := 529) (by decide +kernel), List.mem_of_getElem? (i := 749) (by decide +kernel), List.mem_of_getElem? (i := 750) (by decide +kernel)⟩
def lw_privs_3 : List (MethodName × Nat) := [(⟨"StarPlatesModel", "tracks", "()I"⟩, 19), (⟨"StarPlatesModel", "frame", "()I"⟩, 19), (⟨"StarPlatesModel", "spotOf", "(II)I"⟩, 19), (⟨"StarPlatesModel", "onFrame", "(III)I"⟩, 19), (⟨"StarPlatesModel", "moves", "(I)Z"⟩, 19), (⟨"StarPlatesModel", "isSteady", "(I)Z"⟩, 19), (⟨"StarPlatesModel", "together", "(I)I"⟩, 19), (⟨"StarPlatesModel", "isPaired", "(III)Z"⟩, 19)]
theorem lw_r3 : ∀ q ∈ lw_privs_3, lw_okq q := List.forall_mem_cons.mpr ⟨lw_p32, List.forall_mem_cons.mpr ⟨lw_p33, List.forall_mem_cons.mpr ⟨lw_p34, List.forall_mem_cons.mpr ⟨lw_p35, List.forall_mem_cons.mpr ⟨lw_p36, List.forall_mem_cons.mpr ⟨lw_p37, List.forall_mem_cons.mpr ⟨lw_p38, List.forall_mem_cons.mpr ⟨lw_p39, fun _ h => absurd h List.not_mem_nil⟩⟩⟩⟩⟩⟩⟩⟩
def lw_privs : List (MethodName × Nat) := lw_privs_1 ++ (lw_privs_2 ++ (lw_privs_3))
def lw_tbl : List Cond := k2_sels lw_privs ++ tables_1
theorem lw_privs_ok : ∀ q ∈ lw_privs, lw_okq q := by
  show ∀ q ∈ lw_privs_1 ++ (lw_privs_2 ++ (lw_privs_3)), lw_okq q
  exact List.forall_mem_append.mpr ⟨lw_r1, List.forall_mem_append.mpr ⟨lw_r2, lw_r3⟩⟩
def RX0 : String := "StarPlates$Fitter"
def TX0 : u_T := fun k => match k with
  | 0 => ("StarPlates$Fitter", "keys", "[J", true)
  | 1 => ("StarPlates$Fitter", "shiftX", "[I", true)
  | 2 => ("StarPlates$Fitter", "shiftY", "[I", true)
  | 3 => ("StarPlates$Fitter", "lowerSpot", "[I", true)
  | 4 => ("StarPlates$Fitter", "upperSpot", "[I", true)
  | 5 => ("StarPlates$Fitter", "fars", "[I", true)
  | 6 => ("StarPlates$Fitter", "nearest", "[I", true)
  | 7 => ("StarPlates$Fitter", "matcher", "LStarPlates$Matcher;", true)
  | 8 => ("StarPlates$Fitter", "shifts", "I", false)
  | 9 => ("StarPlates$Fitter", "reach", "I", false)
  | 10 => ("StarPlates$Fitter", "mostPairs", "I", false)
  | _ => ("StarPlates$Fitter", "leastSum", "I", false)
def tyX0 : Nat → FieldType := fun k => match k with
  | 0 => .array .long
  | 1 => .array .int
  | 2 => .array .int
  | 3 => .array .int
  | 4 => .array .int
  | 5 => .array .int
  | 6 => .array .int
  | 7 => .object "StarPlates$Matcher"
  | 8 => .int
  | 9 => .int
  | 10 => .int
  | _ => .int
abbrev wsX00 : List Cond := u_ws RX0 TX0 12
theorem nmX0 : ∀ a, a < 12 → ∀ b, b < 12 → a ≠ b → (TX0 a).2.1 ≠ (TX0 b).2.1 := by decide +kernel
theorem tyX0_ok : ∀ k, k < 12 → parseFieldDescriptor (TX0 k).2.2.1 = some (tyX0 k) := by decide +kernel
abbrev cX0_init : ByteArray := prog_2_method_1_code
def yX0_init : MethodName := ⟨RX0, "<init>", "()V"⟩
abbrev cX0_fit : ByteArray := prog_2_method_2_code
def yX0_fit : MethodName := ⟨RX0, "fit", "(LStarPlates$Plate;LStarPlates$Plate;ILStarPlates$Lay;)V"⟩
abbrev cX0_listShifts : ByteArray := prog_2_method_3_code
def yX0_listShifts : MethodName := ⟨RX0, "listShifts", "(LStarPlates$Plate;LStarPlates$Plate;II)V"⟩
abbrev cX0_sortKeys : ByteArray := prog_2_method_4_code
def yX0_sortKeys : MethodName := ⟨RX0, "sortKeys", "()V"⟩
abbrev cX0_readKeys : ByteArray := prog_2_method_5_code
def yX0_readKeys : MethodName := ⟨RX0, "readKeys", "()V"⟩
abbrev cX0_tryShifts : ByteArray := prog_2_method_6_code
def yX0_tryShifts : MethodName := ⟨RX0, "tryShifts", "(IIIILStarPlates$Lay;)V"⟩
abbrev cX0_gauge : ByteArray := prog_2_method_7_code
def yX0_gauge : MethodName := ⟨RX0, "gauge", "(II)V"⟩
abbrev cX0_measure : ByteArray := prog_2_method_8_code
def yX0_measure : MethodName := ⟨RX0, "measure", "(II)V"⟩
def RX1 : String := "StarPlates$Lay"
def TX1 : u_T := fun k => match k with
  | 0 => ("StarPlates$Lay", "fresh", "Z", false)
  | 1 => ("StarPlates$Lay", "count", "I", false)
  | 2 => ("StarPlates$Lay", "sum", "I", false)
  | 3 => ("StarPlates$Lay", "turn", "I", false)
  | 4 => ("StarPlates$Lay", "stretch", "I", false)
  | 5 => ("StarPlates$Lay", "shiftX", "I", false)
  | 6 => ("StarPlates$Lay", "shiftY", "I", false)
  | 7 => ("StarPlates$Lay", "lowerOf", "[I", true)
  | _ => ("StarPlates$Lay", "upperOf", "[I", true)
def tyX1 : Nat → FieldType := fun k => match k with
  | 0 => .boolean
  | 1 => .int
  | 2 => .int
  | 3 => .int
  | 4 => .int
  | 5 => .int
  | 6 => .int
  | 7 => .array .int
  | _ => .array .int
abbrev wsX10 : List Cond := u_ws RX1 TX1 9
theorem nmX1 : ∀ a, a < 9 → ∀ b, b < 9 → a ≠ b → (TX1 a).2.1 ≠ (TX1 b).2.1 := by decide +kernel
theorem tyX1_ok : ∀ k, k < 9 → parseFieldDescriptor (TX1 k).2.2.1 = some (tyX1 k) := by decide +kernel
abbrev cX1_init : ByteArray := prog_3_method_1_code
def yX1_init : MethodName := ⟨RX1, "<init>", "()V"⟩
abbrev cX1_clear : ByteArray := prog_3_method_2_code
def yX1_clear : MethodName := ⟨RX1, "clear", "()V"⟩
abbrev cX1_isBehind : ByteArray := prog_3_method_3_code
def yX1_isBehind : MethodName := ⟨RX1, "isBehind", "(II)Z"⟩
abbrev cX1_put : ByteArray := prog_3_method_4_code
def yX1_put : MethodName := ⟨RX1, "put", "(IIII)V"⟩
abbrev cX1_takePairs : ByteArray := prog_3_method_5_code
def yX1_takePairs : MethodName := ⟨RX1, "takePairs", "(LStarPlates$Matcher;)V"⟩
abbrev cX1_bringX : ByteArray := prog_3_method_6_code
def yX1_bringX : MethodName := ⟨RX1, "bringX", "(II)I"⟩
abbrev cX1_bringY : ByteArray := prog_3_method_7_code
def yX1_bringY : MethodName := ⟨RX1, "bringY", "(II)I"⟩
def RX2 : String := "StarPlates$Matcher"
def TX2 : u_T := fun k => match k with
  | 0 => ("StarPlates$Matcher", "count", "I", false)
  | 1 => ("StarPlates$Matcher", "sum", "I", false)
  | 2 => ("StarPlates$Matcher", "chosen", "[I", true)
  | 3 => ("StarPlates$Matcher", "cost", "[J", true)
  | 4 => ("StarPlates$Matcher", "rowPrice", "[J", true)
  | 5 => ("StarPlates$Matcher", "columnPrice", "[J", true)
  | 6 => ("StarPlates$Matcher", "gap", "[J", true)
  | 7 => ("StarPlates$Matcher", "rowOf", "[I", true)
  | 8 => ("StarPlates$Matcher", "cameFrom", "[I", true)
  | _ => ("StarPlates$Matcher", "passed", "[Z", true)
def tyX2 : Nat → FieldType := fun k => match k with
  | 0 => .int
  | 1 => .int
  | 2 => .array .int
  | 3 => .array .long
  | 4 => .array .long
  | 5 => .array .long
  | 6 => .array .long
  | 7 => .array .int
  | 8 => .array .int
  | _ => .array .boolean
abbrev wsX20 : List Cond := u_ws RX2 TX2 10
theorem nmX2 : ∀ a, a < 10 → ∀ b, b < 10 → a ≠ b → (TX2 a).2.1 ≠ (TX2 b).2.1 := by decide +kernel
theorem tyX2_ok : ∀ k, k < 10 → parseFieldDescriptor (TX2 k).2.2.1 = some (tyX2 k) := by decide +kernel
abbrev cX2_init : ByteArray := prog_4_method_1_code
def yX2_init : MethodName := ⟨RX2, "<init>", "()V"⟩
abbrev cX2_match : ByteArray := prog_4_method_2_code
def yX2_match : MethodName := ⟨RX2, "match", "([IIII)V"⟩
abbrev cX2_setCosts : ByteArray := prog_4_method_3_code
def yX2_setCosts : MethodName := ⟨RX2, "setCosts", "([IIIII)V"⟩
abbrev cX2_settle : ByteArray := prog_4_method_4_code
def yX2_settle : MethodName := ⟨RX2, "settle", "(II)V"⟩
abbrev cX2_advance : ByteArray := prog_4_method_5_code
def yX2_advance : MethodName := ⟨RX2, "advance", "(II)I"⟩
abbrev cX2_readPairs : ByteArray := prog_4_method_6_code
def yX2_readPairs : MethodName := ⟨RX2, "readPairs", "([III)V"⟩
def RX3 : String := "StarPlates$Plate"
def TX3 : u_T := fun k => match k with
  | 0 => ("StarPlates$Plate", "year", "I", false)
  | 1 => ("StarPlates$Plate", "count", "I", false)
  | 2 => ("StarPlates$Plate", "xs", "[I", true)
  | _ => ("StarPlates$Plate", "ys", "[I", true)
def tyX3 : Nat → FieldType := fun k => match k with
  | 0 => .int
  | 1 => .int
  | 2 => .array .int
  | _ => .array .int
abbrev wsX30 : List Cond := u_ws RX3 TX3 4
theorem nmX3 : ∀ a, a < 4 → ∀ b, b < 4 → a ≠ b → (TX3 a).2.1 ≠ (TX3 b).2.1 := by decide +kernel
theorem tyX3_ok : ∀ k, k < 4 → parseFieldDescriptor (TX3 k).2.2.1 = some (tyX3 k) := by decide +kernel
abbrev cX3_init : ByteArray := prog_5_method_1_code
def yX3_init : MethodName := ⟨RX3, "<init>", "()V"⟩
abbrev cX3_add : ByteArray := prog_5_method_2_code
def yX3_add : MethodName := ⟨RX3, "add", "(II)I"⟩
abbrev cX3_remove : ByteArray := prog_5_method_3_code
def yX3_remove : MethodName := ⟨RX3, "remove", "(I)V"⟩
abbrev cX3_isTaken : ByteArray := prog_5_method_4_code
def yX3_isTaken : MethodName := ⟨RX3, "isTaken", "(II)Z"⟩
def RX4 : String := "StarPlates$Tracks"
def TX4 : u_T := fun k => match k with
  | 0 => ("StarPlates$Tracks", "count", "I", false)
  | 1 => ("StarPlates$Tracks", "misses", "I", false)
  | 2 => ("StarPlates$Tracks", "startYear", "I", false)
  | 3 => ("StarPlates$Tracks", "startX", "[I", true)
  | 4 => ("StarPlates$Tracks", "startY", "[I", true)
  | 5 => ("StarPlates$Tracks", "spots", "[I", true)
  | 6 => ("StarPlates$Tracks", "years", "[I", true)
  | 7 => ("StarPlates$Tracks", "movedX", "[I", true)
  | 8 => ("StarPlates$Tracks", "movedY", "[I", true)
  | 9 => ("StarPlates$Tracks", "spotOn", "[I", true)
  | 10 => ("StarPlates$Tracks", "xOn", "[I", true)
  | 11 => ("StarPlates$Tracks", "yOn", "[I", true)
  | _ => ("StarPlates$Tracks", "sinceStart", "[I", true)
def tyX4 : Nat → FieldType := fun k => match k with
  | 0 => .int
  | 1 => .int
  | 2 => .int
  | 3 => .array .int
  | 4 => .array .int
  | 5 => .array .int
  | 6 => .array .int
  | 7 => .array .int
  | 8 => .array .int
  | 9 => .array .int
  | 10 => .array .int
  | 11 => .array .int
  | _ => .array .int
abbrev wsX40 : List Cond := u_ws RX4 TX4 13
theorem nmX4 : ∀ a, a < 13 → ∀ b, b < 13 → a ≠ b → (TX4 a).2.1 ≠ (TX4 b).2.1 := by decide +kernel
theorem tyX4_ok : ∀ k, k < 13 → parseFieldDescriptor (TX4 k).2.2.1 = some (tyX4 k) := by decide +kernel
abbrev cX4_init : ByteArray := prog_6_method_1_code
def yX4_init : MethodName := ⟨RX4, "<init>", "()V"⟩
abbrev cX4_start : ByteArray := prog_6_method_2_code
def yX4_start : MethodName := ⟨RX4, "start", "(ILStarPlates$Plate;)V"⟩
abbrev cX4_join : ByteArray := prog_6_method_3_code
def yX4_join : MethodName := ⟨RX4, "join", "(ILStarPlates$Plate;LStarPlates$Lay;)V"⟩
abbrev cX4_enter : ByteArray := prog_6_method_4_code
def yX4_enter : MethodName := ⟨RX4, "enter", "(IIIII)V"⟩
abbrev cX4_hasMotion : ByteArray := prog_6_method_5_code
def yX4_hasMotion : MethodName := ⟨RX4, "hasMotion", "(I)Z"⟩
abbrev cX4_isStill : ByteArray := prog_6_method_6_code
def yX4_isStill : MethodName := ⟨RX4, "isStill", "(I)Z"⟩
abbrev cX4_stillOnes : ByteArray := prog_6_method_7_code
def yX4_stillOnes : MethodName := ⟨RX4, "stillOnes", "()I"⟩
abbrev cX4_isSteady : ByteArray := prog_6_method_8_code
def yX4_isSteady : MethodName := ⟨RX4, "isSteady", "(II)Z"⟩
abbrev cX4_firstTogetherWith : ByteArray := prog_6_method_9_code
def yX4_firstTogetherWith : MethodName := ⟨RX4, "firstTogetherWith", "(I)I"⟩
def RX5 : String := "StarPlates"
def TX5 : u_T := fun k => match k with
  | 0 => ("StarPlates", "plates", "[LStarPlates$Plate;", true)
  | 1 => ("StarPlates", "lays", "[LStarPlates$Lay;", true)
  | 2 => ("StarPlates", "fitter", "LStarPlates$Fitter;", true)
  | 3 => ("StarPlates", "tracks", "LStarPlates$Tracks;", true)
  | 4 => ("StarPlates", "tracksFresh", "Z", false)
  | 5 => ("StarPlates", "plateCount", "I", false)
  | 6 => ("StarPlates", "frame", "I", false)
  | _ => ("StarPlates", "reachNow", "I", false)
def tyX5 : Nat → FieldType := fun k => match k with
  | 0 => .array (.object "StarPlates$Plate")
  | 1 => .array (.object "StarPlates$Lay")
  | 2 => .object "StarPlates$Fitter"
  | 3 => .object "StarPlates$Tracks"
  | 4 => .boolean
  | 5 => .int
  | 6 => .int
  | _ => .int
abbrev wsX50 : List Cond := u_ws RX5 TX5 8
theorem nmX5 : ∀ a, a < 8 → ∀ b, b < 8 → a ≠ b → (TX5 a).2.1 ≠ (TX5 b).2.1 := by decide +kernel
theorem tyX5_ok : ∀ k, k < 8 → parseFieldDescriptor (TX5 k).2.2.1 = some (tyX5 k) := by decide +kernel
abbrev cX5_init : ByteArray := prog_1_method_1_code
def yX5_init : MethodName := ⟨RX5, "<init>", "()V"⟩
abbrev cX5_plate : ByteArray := prog_1_method_2_code
def yX5_plate : MethodName := ⟨RX5, "plate", "(I)I"⟩
abbrev cX5_spot : ByteArray := prog_1_method_3_code
def yX5_spot : MethodName := ⟨RX5, "spot", "(III)I"⟩
abbrev cX5_wipe : ByteArray := prog_1_method_4_code
def yX5_wipe : MethodName := ⟨RX5, "wipe", "(II)Z"⟩
abbrev cX5_reach : ByteArray := prog_1_method_5_code
def yX5_reach : MethodName := ⟨RX5, "reach", "(I)Z"⟩
abbrev cX5_look : ByteArray := prog_1_method_6_code
def yX5_look : MethodName := ⟨RX5, "look", "(I)I"⟩
abbrev cX5_of : ByteArray := prog_1_method_7_code
def yX5_of : MethodName := ⟨RX5, "of", "(II)I"⟩
abbrev cX5_lay : ByteArray := prog_1_method_8_code
def yX5_lay : MethodName := ⟨RX5, "lay", "(III)I"⟩
abbrev cX5_pair : ByteArray := prog_1_method_9_code
def yX5_pair : MethodName := ⟨RX5, "pair", "(III)I"⟩
abbrev cX5_track : ByteArray := prog_1_method_10_code
def yX5_track : MethodName := ⟨RX5, "track", "(II)I"⟩
abbrev cX5_place : ByteArray := prog_1_method_11_code
def yX5_place : MethodName := ⟨RX5, "place", "(III)I"⟩
abbrev cX5_motion : ByteArray := prog_1_method_12_code
def yX5_motion : MethodName := ⟨RX5, "motion", "(II)I"⟩
abbrev cX5_tell : ByteArray := prog_1_method_13_code
def yX5_tell : MethodName := ⟨RX5, "tell", "(II)I"⟩
abbrev cX5_foretell : ByteArray := prog_1_method_14_code
def yX5_foretell : MethodName := ⟨RX5, "foretell", "(III)I"⟩
abbrev cX5_slip : ByteArray := prog_1_method_15_code
def yX5_slip : MethodName := ⟨RX5, "slip", "(III)I"⟩
abbrev cX5_isPlate : ByteArray := prog_1_method_16_code
def yX5_isPlate : MethodName := ⟨RX5, "isPlate", "(I)Z"⟩
abbrev cX5_isSpot : ByteArray := prog_1_method_17_code
def yX5_isSpot : MethodName := ⟨RX5, "isSpot", "(II)Z"⟩
abbrev cX5_isTrack : ByteArray := prog_1_method_18_code
def yX5_isTrack : MethodName := ⟨RX5, "isTrack", "(I)Z"⟩
abbrev cX5_trackCount : ByteArray := prog_1_method_19_code
def yX5_trackCount : MethodName := ⟨RX5, "trackCount", "()I"⟩
abbrev cX5_hasYear : ByteArray := prog_1_method_20_code
def yX5_hasYear : MethodName := ⟨RX5, "hasYear", "(I)Z"⟩
abbrev cX5_forgetLaysOf : ByteArray := prog_1_method_21_code
def yX5_forgetLaysOf : MethodName := ⟨RX5, "forgetLaysOf", "(I)V"⟩
abbrev cX5_bestLay : ByteArray := prog_1_method_22_code
def yX5_bestLay : MethodName := ⟨RX5, "bestLay", "(II)LStarPlates$Lay;"⟩
abbrev cX5_freshenTracks : ByteArray := prog_1_method_23_code
def yX5_freshenTracks : MethodName := ⟨RX5, "freshenTracks", "()V"⟩
abbrev cX5_firstFreeNear : ByteArray := prog_1_method_24_code
def yX5_firstFreeNear : MethodName := ⟨RX5, "firstFreeNear", "(LStarPlates$Lay;II)I"⟩
abbrev cX5_isOnPlate : ByteArray := prog_1_method_25_code
def yX5_isOnPlate : MethodName := ⟨RX5, "isOnPlate", "(I)Z"⟩
abbrev cX5_farOf : ByteArray := prog_1_method_26_code
def yX5_farOf : MethodName := ⟨RX5, "farOf", "(II)I"⟩
abbrev cX5_turnedX : ByteArray := prog_1_method_27_code
def yX5_turnedX : MethodName := ⟨RX5, "turnedX", "(III)I"⟩
abbrev cX5_turnedY : ByteArray := prog_1_method_28_code
def yX5_turnedY : MethodName := ⟨RX5, "turnedY", "(III)I"⟩
abbrev cX5_exchanged : ByteArray := prog_1_method_29_code
def yX5_exchanged : MethodName := ⟨RX5, "exchanged", "(II)I"⟩
abbrev cX5_commonPart : ByteArray := prog_1_method_30_code
def yX5_commonPart : MethodName := ⟨RX5, "commonPart", "(II)I"⟩
def RX6 : String := "StarPlatesModel"
def TX6 : u_T := fun k => match k with
  | 0 => ("StarPlatesModel", "plates", "I", false)
  | 1 => ("StarPlatesModel", "reach", "I", false)
  | 2 => ("StarPlatesModel", "year", "[I", true)
  | 3 => ("StarPlatesModel", "many", "[I", true)
  | 4 => ("StarPlatesModel", "x", "[I", true)
  | 5 => ("StarPlatesModel", "y", "[I", true)
  | 6 => ("StarPlatesModel", "known", "[Z", true)
  | 7 => ("StarPlatesModel", "told", "[I", true)
  | 8 => ("StarPlatesModel", "pairOf", "[I", true)
  | 9 => ("StarPlatesModel", "comeX", "[I", true)
  | 10 => ("StarPlatesModel", "comeY", "[I", true)
  | 11 => ("StarPlatesModel", "value", "[I", true)
  | 12 => ("StarPlatesModel", "pairs", "[I", true)
  | 13 => ("StarPlatesModel", "last", "I", false)
  | 14 => ("StarPlatesModel", "wayX", "I", false)
  | 15 => ("StarPlatesModel", "wayY", "I", false)
  | 16 => ("StarPlatesModel", "years", "I", false)
  | 17 => ("StarPlatesModel", "spots", "I", false)
  | _ => ("StarPlatesModel", "missed", "I", false)
def tyX6 : Nat → FieldType := fun k => match k with
  | 0 => .int
  | 1 => .int
  | 2 => .array .int
  | 3 => .array .int
  | 4 => .array .int
  | 5 => .array .int
  | 6 => .array .boolean
  | 7 => .array .int
  | 8 => .array .int
  | 9 => .array .int
  | 10 => .array .int
  | 11 => .array .int
  | 12 => .array .int
  | 13 => .int
  | 14 => .int
  | 15 => .int
  | 16 => .int
  | 17 => .int
  | _ => .int
abbrev wsX60 : List Cond := u_ws RX6 TX6 19
theorem nmX6 : ∀ a, a < 19 → ∀ b, b < 19 → a ≠ b → (TX6 a).2.1 ≠ (TX6 b).2.1 := by decide +kernel
theorem tyX6_ok : ∀ k, k < 19 → parseFieldDescriptor (TX6 k).2.2.1 = some (tyX6 k) := by decide +kernel
abbrev cX6_init : ByteArray := prog_8_method_1_code
def yX6_init : MethodName := ⟨RX6, "<init>", "()V"⟩
abbrev cX6_isIn : ByteArray := prog_8_method_2_code
def yX6_isIn : MethodName := ⟨RX6, "isIn", "(III)Z"⟩
abbrev cX6_isPlate : ByteArray := prog_8_method_3_code
def yX6_isPlate : MethodName := ⟨RX6, "isPlate", "(I)Z"⟩
abbrev cX6_forgets : ByteArray := prog_8_method_4_code
def yX6_forgets : MethodName := ⟨RX6, "forgets", "()V"⟩
abbrev cX6_plate : ByteArray := prog_8_method_5_code
def yX6_plate : MethodName := ⟨RX6, "plate", "(I)I"⟩
abbrev cX6_spot : ByteArray := prog_8_method_6_code
def yX6_spot : MethodName := ⟨RX6, "spot", "(III)I"⟩
abbrev cX6_wipe : ByteArray := prog_8_method_7_code
def yX6_wipe : MethodName := ⟨RX6, "wipe", "(II)Z"⟩
abbrev cX6_reach : ByteArray := prog_8_method_8_code
def yX6_reach : MethodName := ⟨RX6, "reach", "(I)Z"⟩
abbrev cX6_turnX : ByteArray := prog_8_method_9_code
def yX6_turnX : MethodName := ⟨RX6, "turnX", "(III)I"⟩
abbrev cX6_turnY : ByteArray := prog_8_method_10_code
def yX6_turnY : MethodName := ⟨RX6, "turnY", "(III)I"⟩
abbrev cX6_abs : ByteArray := prog_8_method_11_code
def yX6_abs : MethodName := ⟨RX6, "abs", "(I)I"⟩
abbrev cX6_apart : ByteArray := prog_8_method_12_code
def yX6_apart : MethodName := ⟨RX6, "apart", "(IIII)I"⟩
abbrev cX6_comes : ByteArray := prog_8_method_13_code
def yX6_comes : MethodName := ⟨RX6, "comes", "(IIIII)V"⟩
abbrev cX6_farTo : ByteArray := prog_8_method_14_code
def yX6_farTo : MethodName := ⟨RX6, "farTo", "(III)I"⟩
abbrev cX6_near : ByteArray := prog_8_method_15_code
def yX6_near : MethodName := ⟨RX6, "near", "(II)I"⟩
abbrev cX6_weighs : ByteArray := prog_8_method_16_code
def yX6_weighs : MethodName := ⟨RX6, "weighs", "(II)I"⟩
abbrev cX6_finds : ByteArray := prog_8_method_17_code
def yX6_finds : MethodName := ⟨RX6, "finds", "(II)V"⟩
abbrev cX6_count : ByteArray := prog_8_method_18_code
def yX6_count : MethodName := ⟨RX6, "count", "(I)I"⟩
abbrev cX6_lays : ByteArray := prog_8_method_19_code
def yX6_lays : MethodName := ⟨RX6, "lays", "(II)V"⟩
abbrev cX6_takes : ByteArray := prog_8_method_20_code
def yX6_takes : MethodName := ⟨RX6, "takes", "(IIIIIII)I"⟩
abbrev cX6_hasLay : ByteArray := prog_8_method_21_code
def yX6_hasLay : MethodName := ⟨RX6, "hasLay", "(II)Z"⟩
abbrev cX6_lay : ByteArray := prog_8_method_22_code
def yX6_lay : MethodName := ⟨RX6, "lay", "(III)I"⟩
abbrev cX6_pair : ByteArray := prog_8_method_23_code
def yX6_pair : MethodName := ⟨RX6, "pair", "(III)I"⟩
abbrev cX6_frame : ByteArray := prog_8_method_24_code
def yX6_frame : MethodName := ⟨RX6, "frame", "()I"⟩
abbrev cX6_tracks : ByteArray := prog_8_method_25_code
def yX6_tracks : MethodName := ⟨RX6, "tracks", "()I"⟩
abbrev cX6_spotOf : ByteArray := prog_8_method_26_code
def yX6_spotOf : MethodName := ⟨RX6, "spotOf", "(II)I"⟩
abbrev cX6_isTrack : ByteArray := prog_8_method_27_code
def yX6_isTrack : MethodName := ⟨RX6, "isTrack", "(I)Z"⟩
abbrev cX6_track : ByteArray := prog_8_method_28_code
def yX6_track : MethodName := ⟨RX6, "track", "(II)I"⟩
abbrev cX6_onFrame : ByteArray := prog_8_method_29_code
def yX6_onFrame : MethodName := ⟨RX6, "onFrame", "(III)I"⟩
abbrev cX6_place : ByteArray := prog_8_method_30_code
def yX6_place : MethodName := ⟨RX6, "place", "(III)I"⟩
abbrev cX6_moves : ByteArray := prog_8_method_31_code
def yX6_moves : MethodName := ⟨RX6, "moves", "(I)Z"⟩
abbrev cX6_common : ByteArray := prog_8_method_32_code
def yX6_common : MethodName := ⟨RX6, "common", "(II)I"⟩
abbrev cX6_motion : ByteArray := prog_8_method_33_code
def yX6_motion : MethodName := ⟨RX6, "motion", "(II)I"⟩
abbrev cX6_isSteady : ByteArray := prog_8_method_34_code
def yX6_isSteady : MethodName := ⟨RX6, "isSteady", "(I)Z"⟩
abbrev cX6_together : ByteArray := prog_8_method_35_code
def yX6_together : MethodName := ⟨RX6, "together", "(I)I"⟩
abbrev cX6_tell : ByteArray := prog_8_method_36_code
def yX6_tell : MethodName := ⟨RX6, "tell", "(II)I"⟩
abbrev cX6_down : ByteArray := prog_8_method_37_code
def yX6_down : MethodName := ⟨RX6, "down", "(II)I"⟩
abbrev cX6_foretell : ByteArray := prog_8_method_38_code
def yX6_foretell : MethodName := ⟨RX6, "foretell", "(III)I"⟩
abbrev cX6_look : ByteArray := prog_8_method_39_code
def yX6_look : MethodName := ⟨RX6, "look", "(I)I"⟩
abbrev cX6_of : ByteArray := prog_8_method_40_code
def yX6_of : MethodName := ⟨RX6, "of", "(II)I"⟩
abbrev cX6_slipped : ByteArray := prog_8_method_41_code
def yX6_slipped : MethodName := ⟨RX6, "slipped", "(II)I"⟩
abbrev cX6_isPaired : ByteArray := prog_8_method_42_code
def yX6_isPaired : MethodName := ⟨RX6, "isPaired", "(III)Z"⟩
abbrev cX6_slip : ByteArray := prog_8_method_43_code
def yX6_slip : MethodName := ⟨RX6, "slip", "(III)I"⟩
def RJ9 : String := "java/lang/Math"
def TJ9 : u_T := fun k => match k with
  | _ => ("", "", "", false)
def tyJ9 : Nat → FieldType := fun k => match k with
  | _ => .int
abbrev cJ9_floorDiv_7cf53 : ByteArray := prog_9_method_47_code
def yJ9_floorDiv_7cf53 : MethodName := ⟨RJ9, "floorDiv", "(II)I"⟩
abbrev cJ9_abs_0f7a4 : ByteArray := prog_9_method_59_code
def yJ9_abs_0f7a4 : MethodName := ⟨RJ9, "abs", "(I)I"⟩
abbrev cJ9_max_7cf53 : ByteArray := prog_9_method_65_code
def yJ9_max_7cf53 : MethodName := ⟨RJ9, "max", "(II)I"⟩
def RJ7 : String := "java/util/Arrays"
def TJ7 : u_T := fun k => match k with
  | _ => ("", "", "", false)
def tyJ7 : Nat → FieldType := fun k => match k with
  | _ => .int
abbrev cJ7_fill_d0a16 : ByteArray := prog_10_method_101_code
def yJ7_fill_d0a16 : MethodName := ⟨RJ7, "fill", "([JJ)V"⟩
abbrev cJ7_fill_53178 : ByteArray := prog_10_method_103_code
def yJ7_fill_53178 : MethodName := ⟨RJ7, "fill", "([II)V"⟩
def RL : String := "StarPlatesLaw"
abbrev cL_law : ByteArray := code
def yL_law : MethodName := ⟨RL, "law", "([I)Z"⟩
abbrev vwCl : List vw_C := [(RX0, TX0, 12), (RX1, TX1, 9), (RX2, TX2, 10), (RX3, TX3, 4), (RX4, TX4, 13), (RX5, TX5, 8), (RX6, TX6, 19)]
