/-! calls -/
theorem ez_GI {ws : List Cond} (h : ∀ w ∈ ws, w ∈ lw_tg) : GoodIn lw_tg ws := fun w hw => ⟨h w hw, good_of_word (List.mem_filter.mp (h w hw)).2⟩
def ez_okM (N : ez_M) : Prop := Cond.code N.1 N.2.1 N.2.2.1 N.2.2.2.1 ∈ lw_tg ∧ Cond.initialized N.1.cls ∈ lw_tg ∧ (N.1.cls ≠ "java/lang/invoke/MethodHandle" ∧ N.1.cls ≠ "java/lang/invoke/VarHandle")
/-- N's room is within M's, N takes n arguments -/
def ez_fit (M N : ez_M) (n : Nat) : Prop := N.2.2.2.2.1 + 1 ≤ M.2.2.2.2.1 ∧ 8 + (N.2.2.1 + 11) + N.2.2.2.2.2 ≤ M.2.2.2.2.2 ∧ (parseMethodDescriptor N.1.desc).map (fun d => d.parameters.length) = some n
def ez_cats (st : List ez_V) : Nat := (st.map (fun v => if ez_lg v then 2 else 1)).sum
theorem ez_cats_eq (ad : Nat → Nat) (st : List ez_V) : ((st.map (ez_rv ad)).map fun v => v.category).sum = ez_cats st := by
  unfold ez_cats
  rw [List.map_map]
  congr 1
  refine List.map_congr_left fun v _ => ?_
  exact ez_cat ad v
theorem ez_par {N : ez_M} {n : Nat} (h : (parseMethodDescriptor N.1.desc).map (fun d => d.parameters.length) = some n) : ∀ sig, parseMethodDescriptor N.1.desc = some sig → n = sig.parameters.length := fun sig hs => by
  rw [hs] at h
  exact (Option.some.inj h).symm
section
variable {M N : ez_M} {pc : Nat} {L st : List ez_V} {h : ez_H} {Q Q' : ez_H → Option ez_V → Prop} {idx n : Nat}
theorem ez_CB {p : Program} {s : State} {m : MethodId} {args : Array Value} {meth : Method} {c : Code} {G : ez_G} {base : Nat} {ad : Nat → Nat} (C : ez_Cx M p s m args meth c G base ad) (hN : ez_okM N) (hf : ez_fit M N n) (hl : Cond.methodLink M.1.cls idx N.1 ∈ lw_tg) :
    CallB (ez_rm M) s args M.1.cls idx N.1 N.2.1 N.2.2.1 N.2.2.2.1 (ez_w N) (ez_rm N) 0 0 n := by
  have hw : ∀ w ∈ ez_w N, w ∈ lw_tg := fun w hw => by
    rcases List.mem_cons.mp hw with e | e
    · rw [e]; exact hN.1
    · exact e
  have hts := C.2.2.2.2.2.1
  exact ⟨rfl, rfl, hf.1, hf.2.1, pay_in hts (ez_GI hw), List.mem_cons_self, hts _ hN.1, hts _ hN.2.1, hN.2.2, ez_par hf.2.2, hts _ hl⟩
theorem ez_CN {p : Program} {s : State} {m : MethodId} {args : Array Value} {meth : Method} {c : Code} {G : ez_G} {base : Nat} {ad : Nat → Nat} (C : ez_Cx M p s m args meth c G base ad) (hN : ez_okM N) (hf : ez_fit M N n) (hl : (M.1.cls, idx, N.1) ∈ ez_nest) :
    va_CN (ez_rm M) s args M.1.cls idx N.1 "StarPlates" N.2.1 N.2.2.1 N.2.2.2.1 (ez_w N) (ez_rm N) 0 0 n := by
  have hw : ∀ w ∈ ez_w N, w ∈ lw_tg := fun w hw => by
    rcases List.mem_cons.mp hw with e | e
    · rw [e]; exact hN.1
    · exact e
  have hts := C.2.2.2.2.2.1
  exact ⟨⟨rfl, rfl, hf.1, hf.2.1, pay_in hts (ez_GI hw), List.mem_cons_self⟩, hts _ hN.1, hts _ hN.2.1, hN.2.2, ez_par hf.2.2, va_Nw.use rfl (C.2.2.2.2.2.2.2.2.2.2.2 _ hl)⟩
theorem ez_pre {p : Program} {s : State} {m : MethodId} {args : Array Value} {meth : Method} {c : Code} {G : ez_G} {base : Nat} {ad : Nat → Nat} {H : Heap} {locs : List Loc} (C : ez_Cx M p s m args meth c G base ad) (R : ez_Rp G base ad h s H locs) (As : List ez_V) :
    PreS s H (va_Pc (As.map (ez_rv ad)) (ez_Wd G base ad h)) (As.map (ez_rv ad)) := by
  refine ⟨ez_blind _ _ _ _ _, fun U hU hW => ⟨rfl, va_K.moved hW.alike C.2.2.2.2.2.2.2.1, by rw [hU]; exact R.1, R.2.1, R.2.2.2, ?_, ?_, ?_, fun q hq => va_Nw.warmM hW (C.2.2.2.2.2.2.2.2.2.2.2 q hq)⟩⟩
  · rw [hU]
    exact Nat.le_trans C.2.2.2.2.2.2.2.2.2.2.1 R.2.2.1.1
  · refine va_Z.moved hW.alike (va_Z.kept C.2.2.2.2.2.2.2.2.1 ?_)
    rw [hU]
    exact fun a h1 h2 => R.2.2.1.2.1 a h1 h2
  · refine va_T.moved hW.alike (va_T.kept C.2.2.2.2.2.2.2.2.2.1 ?_)
    rw [hU]
    exact fun a h1 h2 => R.2.2.1.2.1 a h1 h2
/-- behind a call -/
theorem ez_back {p : Program} {l : Launch} {e : Env} {s : State} {m : MethodId} {args : Array Value} {below : List Frame} {meth : Method} {c : Code} {G : ez_G} {base : Nat} {ad : Nat → Nat} {H : Heap} {locs : List Loc} {ls : Array Slot} {st0 : List Value} {a : Array Value} (C : ez_Cx M p s m args meth c G base ad) (R : ez_Rp G base ad h s H locs) (hl : ez_ls ad ls M.2.2.1 L) (hL : ez_oks L) (hs : ez_oks st)
    (hr : va_Run p l e (ez_rm M) s m args below meth c H locs 0 0 0 0 (F0 m pc ls st0) (st.map (ez_rv ad)) (ez_Q G ad base Q' a) (ez_A base))
    (kk : ∀ h' r, Q' h' r → ez_En M (pc + 3) L (r.toList ++ st) h' Q) :
    W p l e (ez_rm M) s m args below meth c H locs 0 0 (MQ below (ez_Q G ad base Q) args s 0 0 (ez_A base)) (F0 m pc ls st0) := by
  intro T hT X
  obtain ⟨v, st₀, t, T', L', h0, X', hL', e1, e2, ⟨h', r, hv, hq, hok, hP', hO', hF⟩, hst⟩ := hr T hT X
  cases hv
  obtain ⟨hz, hk⟩ := hF
  rw [h0] at hz hk
  have hS := R.2.2.1
  have S' : va_S (ez_A base) s.heap T'.heap (locs ++ L') := ⟨Nat.le_trans hS.1 (by rw [e1]; exact hz), fun q h1 h2 => by rw [e1, hk q (Nat.lt_of_lt_of_le h1 hS.1) h2]; exact hS.2.1 q h1 h2, fun q hq => by
    rcases List.mem_append.mp hq with h | h
    · exact hS.2.2 q h
    · exact hL' q h⟩
  have ho : ez_oks (r.toList ++ st) := by
    cases r with
    | none => exact hs
    | some w => exact hs.cons (hok w rfl)
  obtain ⟨t2, a1, b1⟩ := kk h' r hq p l e s m args below meth c G base ad C T'.heap (locs ++ L') ls ⟨by rw [e1]; exact hP', ez_D R.2.1, S', hO'⟩ hl hL ho T' rfl X'
  refine ⟨t2, hst t2 ?_, b1⟩
  have e3 : (r.toList ++ st).map (ez_rv ad) = (r.map (ez_rv ad)).toList ++ st.map (ez_rv ad) := by cases r <;> rfl
  rw [e3] at a1
  exact a1
theorem ez_callV {o : Int} {As : List ez_V} {ci : Nat} {K : u_T × Nat} (hd : decode M.2.1 pc = .ok (.invokevirtual idx, 3)) (hN : ez_okM N) (hf : ez_fit M N n) (hl : Cond.methodLink M.1.cls idx N.1 ∈ lw_tg) (hi : Cond.instanceMethod N.1 ∈ lw_tg) (hse : Cond.selects N.1.cls N.1 N.1 ∈ lw_tg) (hc : vwCl[ci]? = some (N.1.cls, K)) (hci : ci < 7)
    (ho : 0 ≤ o ∧ o < 133) (hkd : ez_kd o = ci) (hn : As.length = n) (hst : ez_cats st ≤ 8) (hM : ez_Ct N (ez_R o :: As) h Q') (kk : ∀ h' r, Q' h' r → ez_En M (pc + 3) L (r.toList ++ st) h' Q) : ez_En M pc L (As.reverse ++ ez_R o :: st) h Q := by
  obtain ⟨q, rfl⟩ := Int.eq_ofNat_of_zero_le ho.1
  have hq : q < 133 := by omega
  intro p l e s m args below meth c G base ad C H locs ls R hL0 hL hs
  have hs1 : ez_oks (ez_R (q : Int) :: As) := fun w hw => by
    rcases List.mem_cons.mp hw with e1 | e1
    · rw [e1]; exact ez_okR _
    · exact hs w (List.mem_append_left _ (List.mem_reverse.mpr e1))
  have hs2 : ez_oks st := fun w hw => hs w (List.mem_append_right _ (List.mem_cons_of_mem _ hw))
  have hts := C.2.2.2.2.2.1
  have he := ez_ws_at G ad h hq
  rw [ez_cel_ob hkd hci] at he
  have hpre := ez_pre (h := h) C R (ez_R (q : Int) :: As)
  refine ez_back (a := (Value.ref (ad q) :: As.map (ez_rv ad)).toArray) C R hL0 hL hs2 (va_runV (As := As.map (ez_rv ad)) (b := ad q) ⟨C.1, C.2.1, C.2.2.2.1, C.2.2.2.2.1, hts⟩ (hM l G base ad hs1) ⟨ez_CB C hN hf hl, hts _ hi, hts _ hse⟩ ⟨hpre.1, va_recv C.2.2.2.2.2.2.2.1 R.1 hc he, fun U hU hW => hpre.2 U hU hW⟩ rfl (by simpa using hn) hL0.1 ?_ (lv_room (by rw [ez_cats_eq]; exact hst)) hd ⟨Nat.le_refl _, Nat.le_refl _⟩) kk
  show (As.reverse ++ ez_R (q : Int) :: st).map (ez_rv ad) = _
  rw [List.map_append, List.map_reverse]
  rfl
theorem ez_callS {As : List ez_V} (hd : decode M.2.1 pc = .ok (.invokestatic idx, 3)) (hN : ez_okM N) (hf : ez_fit M N n) (hl : Cond.methodLink M.1.cls idx N.1 ∈ lw_tg) (hi : Cond.static N.1 ∈ lw_tg)
    (hn : As.length = n) (hst : ez_cats st ≤ 8) (hM : ez_Ct N As h Q') (kk : ∀ h' r, Q' h' r → ez_En M (pc + 3) L (r.toList ++ st) h' Q) : ez_En M pc L (As.reverse ++ st) h Q := by
  intro p l e s m args below meth c G base ad C H locs ls R hL0 hL hs
  have hs1 : ez_oks As := fun w hw => hs w (List.mem_append_left _ (List.mem_reverse.mpr hw))
  have hs2 : ez_oks st := fun w hw => hs w (List.mem_append_right _ hw)
  have hts := C.2.2.2.2.2.1
  refine ez_back (a := (As.map (ez_rv ad)).toArray) C R hL0 hL hs2 (va_runS (As := As.map (ez_rv ad)) ⟨C.1, C.2.1, C.2.2.2.1, C.2.2.2.2.1, hts⟩ (hM l G base ad hs1) ⟨ez_CB C hN hf hl, hts _ hi⟩ (ez_pre (h := h) C R As) rfl (by simpa using hn) hL0.1 ?_ (lv_room (by rw [ez_cats_eq]; exact hst)) hd ⟨Nat.le_refl _, Nat.le_refl _⟩) kk
  show (As.reverse ++ st).map (ez_rv ad) = _
  rw [List.map_append, List.map_reverse]
theorem ez_callSN {As : List ez_V} (hd : decode M.2.1 pc = .ok (.invokestatic idx, 3)) (hN : ez_okM N) (hf : ez_fit M N n) (hl : (M.1.cls, idx, N.1) ∈ ez_nest) (hi : Cond.static N.1 ∈ lw_tg)
    (hn : As.length = n) (hst : ez_cats st ≤ 8) (hM : ez_Ct N As h Q') (kk : ∀ h' r, Q' h' r → ez_En M (pc + 3) L (r.toList ++ st) h' Q) : ez_En M pc L (As.reverse ++ st) h Q := by
  intro p l e s m args below meth c G base ad C H locs ls R hL0 hL hs
  have hs1 : ez_oks As := fun w hw => hs w (List.mem_append_left _ (List.mem_reverse.mpr hw))
  have hs2 : ez_oks st := fun w hw => hs w (List.mem_append_right _ hw)
  have hts := C.2.2.2.2.2.1
  refine ez_back (a := (As.map (ez_rv ad)).toArray) C R hL0 hL hs2 (va_runSN (As := As.map (ez_rv ad)) ⟨C.1, C.2.1, C.2.2.2.1, C.2.2.2.2.1, hts⟩ (hM l G base ad hs1) ⟨ez_CN C hN hf hl, hts _ hi, trivial⟩ (ez_pre (h := h) C R As) rfl (by simpa using hn) hL0.1 ?_ (lv_room (by rw [ez_cats_eq]; exact hst)) hd ⟨Nat.le_refl _, Nat.le_refl _⟩) kk
  show (As.reverse ++ st).map (ez_rv ad) = _
  rw [List.map_append, List.map_reverse]
end
/-! ends of methods: an int, nothing, an object -/
def ez_PI (P : ez_H → Int → Prop) : ez_H → Option ez_V → Prop := fun h r => ∃ z : Int, r = some (ez_I z) ∧ P h z
def ez_PV (P : ez_H → Prop) : ez_H → Option ez_V → Prop := fun h r => r = none ∧ P h
def ez_PR (P : ez_H → Int → Prop) : ez_H → Option ez_V → Prop := fun h r => ∃ z : Int, r = some (ez_R z) ∧ P h z
theorem ez_PI.in {P : ez_H → Int → Prop} {h : ez_H} {z : Int} (hp : P h z) : ez_PI P h (some (ez_I z)) := ⟨z, rfl, hp⟩
theorem ez_PV.in {P : ez_H → Prop} {h : ez_H} (hp : P h) : ez_PV P h none := ⟨rfl, hp⟩
theorem ez_PR.in {P : ez_H → Int → Prop} {h : ez_H} {z : Int} (hp : P h z) : ez_PR P h (some (ez_R z)) := ⟨z, rfl, hp⟩
theorem ez_kI {M : ez_M} {pc : Nat} {L st : List ez_V} {Q : ez_H → Option ez_V → Prop} {P : ez_H → Int → Prop} (k : ∀ (h' : ez_H) (z : Int), P h' z → ez_En M pc L (ez_I z :: st) h' Q) : ∀ h' r, ez_PI P h' r → ez_En M pc L (r.toList ++ st) h' Q := fun h' r hr => by
  obtain ⟨z, rfl, hp⟩ := hr
  exact k h' z hp
theorem ez_kV {M : ez_M} {pc : Nat} {L st : List ez_V} {Q : ez_H → Option ez_V → Prop} {P : ez_H → Prop} (k : ∀ (h' : ez_H), P h' → ez_En M pc L st h' Q) : ∀ h' r, ez_PV P h' r → ez_En M pc L (r.toList ++ st) h' Q := fun h' r hr => by
  obtain ⟨rfl, hp⟩ := hr
  exact k h' hp
theorem ez_kR {M : ez_M} {pc : Nat} {L st : List ez_V} {Q : ez_H → Option ez_V → Prop} {P : ez_H → Int → Prop} (k : ∀ (h' : ez_H) (z : Int), P h' z → ez_En M pc L (ez_R z :: st) h' Q) : ∀ h' r, ez_PR P h' r → ez_En M pc L (r.toList ++ st) h' Q := fun h' r hr => by
  obtain ⟨z, rfl, hp⟩ := hr
  exact k h' z hp
/-- a weaker end -/
theorem ez_Ct.mono {M : ez_M} {As : List ez_V} {h : ez_H} {Q Q' : ez_H → Option ez_V → Prop} (hM : ez_Ct M As h Q) (hq : ∀ h' r, Q h' r → Q' h' r) : ez_Ct M As h Q' := by
  intro l G base ad hok
  have key : ∀ (a : Array Value) (st : State) (o : Outcome) (t : State), ez_Q G ad base Q a st o t → ez_Q G ad base Q' a st o t := fun a st o t hx => by
    obtain ⟨h', r, h1, h2, h3⟩ := hx
    exact ⟨h', r, h1, hq h' r h2, h3⟩
  have h0 := hM l G base ad hok
  unfold Met at h0 ⊢
  intro p e ha hc hk s m args below hf happ hP hK
  obtain ⟨k, o, h1, h2, h3, hQ⟩ := h0 p e ha hc hk s m args below hf happ hP hK
  exact ⟨k, o, h1, h2, h3, key _ _ _ _ hQ.1, hQ.2⟩
