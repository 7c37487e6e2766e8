/-- the tables' words that hold at every later state too -/
def lw_tg : List Cond := lw_tbl.filter goodWord
theorem lw_tg_of {w : Cond} (h : w ∈ lw_tbl) (hg : goodWord w = true) : w ∈ lw_tg := List.mem_filter.mpr ⟨h, hg⟩
/-! THE OBJECTS, by their numbers in the order in which they are made: 0 the class; 1 plates; 2 + 3 p a Plate, behind it xs, ys; 17 lays; 18 + 3 n a Lay, behind it lowerOf, upperOf; 93 the Fitter, 94.. its rows, 101 the Matcher, 102.. its rows; 110 the Tracks, 111.. its rows; 121 the reference, 122.. its rows; 200 the static GAPS -/
def ez_kd (o : Int) : Nat :=
  if o ≤ 16 then (if o = 0 then 5 else if o = 1 then 11 else if (o - 2) % 3 = 0 then 3 else 7)
  else if o ≤ 92 then (if o = 17 then 10 else if (o - 18) % 3 = 0 then 1 else 7)
  else if o ≤ 110 then (if o = 93 then 0 else if o = 94 then 8 else if o ≤ 100 then 7 else if o = 101 then 2 else if o = 102 then 7 else if o ≤ 106 then 8 else if o ≤ 108 then 7 else if o = 109 then 9 else 4)
  else (if o = 121 then 6 else if o = 126 then 9 else 7)
def ez_len (o : Int) : Int :=
  if o ≤ 93 then (if o = 1 then 5 else if o = 17 then 25 else 8)
  else if o ≤ 110 then (if o ≤ 99 then 64 else if o ≤ 102 then 8 else if o = 103 then 81 else 9)
  else if o ≤ 121 then (if o ≤ 116 then 8 else if o ≤ 119 then 40 else 5)
  else (if o ≤ 123 then 5 else if o ≤ 125 then 40 else if o = 126 then 25 else if o = 127 then 150 else if o = 128 then 200 else if o = 131 then 2304 else 8)
def ez_nf (c : Nat) : Nat := match c with
  | 0 => 12
  | 1 => 9
  | 2 => 10
  | 3 => 4
  | 4 => 13
  | 5 => 8
  | _ => 19
/-- the object that a field of references holds -/
def ez_rf (c o k : Nat) : Option Nat :=
  if c = 0 then (if k < 7 then some (94 + k) else if k = 7 then some 101 else none)
  else if c = 1 then (if k < 7 then none else some (o + (k - 6)))
  else if c = 2 then (if k < 2 then none else some (100 + k))
  else if c = 3 then (if k < 2 then none else some (o + (k - 1)))
  else if c = 4 then (if k < 3 then none else some (108 + k))
  else if c = 5 then (if k = 0 then some 1 else if k = 1 then some 17 else if k = 2 then some 93 else if k = 3 then some 110 else none)
  else (if k < 2 then none else if k < 13 then some (120 + k) else none)
def ez_fv (ad : Nat → Nat) (h : ez_H) (c o k : Nat) : Value := match ez_rf c o k with
  | some r => .ref (ad r)
  | none => .int (Int32.ofInt (h o k))
/-- the tables of a run: the classes' numbers, the arrays' classes -/
abbrev ez_G : Type := va_G × (Nat → ClassId)
def ez_ty (G : ez_G) : List (ClassId × FieldType) := [(G.2 0, .int), (G.2 1, .long), (G.2 2, .boolean), (G.2 3, .object RX1), (G.2 4, .object RX3)]
def ez_cel (G : ez_G) (ad : Nat → Nat) (h : ez_H) (o : Nat) : va_E :=
  if ez_kd o < 7 then .inr (ez_kd o, (List.range (ez_nf (ez_kd o))).map (ez_fv ad h (ez_kd o) o))
  else if ez_kd o = 7 then .inl (G.2 0, (ez_len o).toNat, .inl (fun j => Int32.ofInt (h o j)))
  else if ez_kd o = 8 then .inl (G.2 1, (ez_len o).toNat, .inr (.inl (fun j => Int64.ofInt (h o j))))
  else if ez_kd o = 9 then .inl (G.2 2, (ez_len o).toNat, .inl (fun j => Int32.ofInt (h o j)))
  else if ez_kd o = 10 then .inl (G.2 3, 25, .inr (.inr (.inr (.inr (fun j => some (ad (18 + 3 * j)))))))
  else .inl (G.2 4, 5, .inr (.inr (.inr (.inr (fun j => some (ad (2 + 3 * j)))))))
def ez_ws (G : ez_G) (ad : Nat → Nat) (h : ez_H) : va_W := (List.range 133).map (fun o => (ad o, ez_cel G ad h o))
theorem ez_ws_at (G : ez_G) (ad : Nat → Nat) (h : ez_H) {o : Nat} (ho : o < 133) : (ez_ws G ad h)[o]? = some (ad o, ez_cel G ad h o) := by
  unfold ez_ws
  rw [List.getElem?_map, List.getElem?_range ho]
  rfl
theorem ez_ws_none (G : ez_G) (ad : Nat → Nat) (h : ez_H) {o : Nat} (ho : ¬ o < 133) : (ez_ws G ad h)[o]? = none := by
  unfold ez_ws
  rw [List.getElem?_map, List.getElem?_eq_none (by simp; omega)]
  rfl
theorem ez_ws_len (G : ez_G) (ad : Nat → Nat) (h : ez_H) : (ez_ws G ad h).length = 133 := by simp [ez_ws]
def ez_up (h : ez_H) (o k v : Int) : ez_H := fun o' k' => if o' = o ∧ k' = k then v else h o' k'
/-- a cell is set: the world of the new heap -/
theorem ez_ws_set (G : ez_G) (ad : Nat → Nat) (h : ez_H) (o : Nat) (k v : Int) (ho : o < 133) (e : va_E) (he : ez_cel G ad (ez_up h o k v) o = e) : (ez_ws G ad h).set o (ad o, e) = ez_ws G ad (ez_up h o k v) := by
  refine List.ext_getElem? fun j => ?_
  by_cases hj : j = o
  · subst hj
    rw [List.getElem?_set_self (by rw [ez_ws_len]; exact ho), ez_ws_at G ad _ ho, he]
  · rw [List.getElem?_set_ne (fun q => hj q.symm)]
    by_cases hj2 : j < 133
    · rw [ez_ws_at G ad _ hj2, ez_ws_at G ad _ hj2]
      have hne : ∀ k' : Int, ez_up h o k v j k' = h j k' := fun k' => by
        unfold ez_up
        rw [if_neg (by omega)]
      have hc : ez_cel G ad (ez_up h o k v) j = ez_cel G ad h j := by
        unfold ez_cel
        have hf : (ez_fv ad (ez_up h o k v) (ez_kd j) j) = (ez_fv ad h (ez_kd j) j) := by
          funext k'
          unfold ez_fv
          rw [hne]
        simp only [hf, hne]
      rw [hc]
    · rw [ez_ws_none G ad _ hj2, ez_ws_none G ad _ hj2]
theorem ez_D {A : Nat → Prop} {G : ez_G} {ad : Nat → Nat} {h h' : ez_H} (hD : va_D A (ez_ws G ad h)) : va_D A (ez_ws G ad h') := by
  have key : ∀ (k : Nat) (q : Nat × va_E), (ez_ws G ad h')[k]? = some q → ∃ q0 : Nat × va_E, (ez_ws G ad h)[k]? = some q0 ∧ q0.1 = q.1 := by
    intro k q hq
    by_cases hk : k < 133
    · rw [ez_ws_at G ad _ hk] at hq
      cases hq
      exact ⟨_, ez_ws_at G ad _ hk, rfl⟩
    · rw [ez_ws_none G ad _ hk] at hq
      cases hq
  refine ⟨fun i j p q hp hq e => ?_, fun k q hq => ?_⟩
  · obtain ⟨p0, h1, h2⟩ := key i p hp
    obtain ⟨q0, h3, h4⟩ := key j q hq
    exact hD.1 i j p0 q0 h1 h3 (by rw [h2, h4, e])
  · obtain ⟨q0, h1, h2⟩ := key k q hq
    rw [← h2]
    exact hD.2 k q0 h1
/-- all that a heap holds fits its type -/
def ez_okh (h : ez_H) : Prop := ∀ o k : Int, in64 (h o k) ∧ (ez_kd o ≠ 8 → in32 (h o k))
theorem ez_okh.up {h : ez_H} {o k v : Int} (hh : ez_okh h) (h1 : in64 v) (h2 : ez_kd o ≠ 8 → in32 v) : ez_okh (ez_up h o k v) := by
  intro o' k'
  unfold ez_up
  by_cases e : o' = o ∧ k' = k
  · rw [if_pos e, e.1]
    exact ⟨h1, h2⟩
  · rw [if_neg e]
    exact hh o' k'
def ez_gp (j : Nat) : Value := .int (match j with
  | 0 => 23
  | 1 => 10
  | 2 => 4
  | _ => 1)
/-- a method: its name, bytes, locals, answer, and the room (frames, locals) that it wants -/
abbrev ez_M : Type := MethodName × ByteArray × Nat × Option FieldType × Nat × Nat
def ez_rm (M : ez_M) : Room := { frames := M.2.2.2.2.1, cells := 0, slots := 0, locals := M.2.2.2.2.2 }
def ez_w (M : ez_M) : List Cond := .code M.1 M.2.1 M.2.2.1 M.2.2.2.1 :: lw_tg
/-- calls of a nest mate's static methods: the links -/
def ez_nest : List (String × Nat × MethodName) := [(RX0, 78, yX5_turnedX), (RX0, 82, yX5_turnedY), (RX0, 129, yX5_farOf), (RX1, 53, yX5_turnedX), (RX1, 57, yX5_turnedY), (RX4, 93, yX5_farOf)]
def ez_NW (U : State) : Prop := ∀ q ∈ ez_nest, va_Nw (.methodLinkNest q.1 q.2.1 q.2.2 "StarPlates") U
def ez_A (base : Nat) : Nat → Prop := fun q => base ≤ q
def ez_Cx (M : ez_M) (p : Program) (s : State) (m : MethodId) (args : Array Value) (meth : Method) (c : Code) (G : ez_G) (base : Nat) (ad : Nat → Nat) : Prop :=
  p.tables.exec = Jvm.exec ∧ c.code = M.2.1 ∧ meth.sig.returnType = M.2.2.2.1 ∧ c.maxLocals = M.2.2.1 ∧ s.vm.findClass M.1.cls = some m.cls ∧ (∀ w ∈ lw_tg, w.before args s = true) ∧ meth.locks = false ∧
  va_K G.1 vwCl (ez_ty G) s ∧ va_Z RX0 "GAPS" "[I" (.ref (ad 200)) (ez_A base) s s.heap ∧ va_T .int (ad 200) 4 ez_gp (ez_A base) s s.heap ∧ base ≤ s.heap.size ∧ ez_NW s
def ez_Rp (G : ez_G) (base : Nat) (ad : Nat → Nat) (h : ez_H) (s : State) (H : Heap) (locs : List Loc) : Prop :=
  va_P G.1 vwCl (ez_ws G ad h) H ∧ va_D (ez_A base) (ez_ws G ad h) ∧ va_S (ez_A base) s.heap H locs ∧ ez_okh h
def ez_Q (G : ez_G) (ad : Nat → Nat) (base : Nat) (Q : ez_H → Option ez_V → Prop) : Array Value → State → Outcome → State → Prop := fun _ st oc t =>
  ∃ (h' : ez_H) (r : Option ez_V), oc = .returned (r.map (ez_rv ad)) ∧ Q h' r ∧ (∀ v, r = some v → ez_ok v) ∧ va_P G.1 vwCl (ez_ws G ad h') t.heap ∧ ez_okh h' ∧ va_F (ez_A base) st t
/-- the method M, at pc, with locals L, operands st and heap h, comes to its end with Q -/
def ez_En (M : ez_M) (pc : Nat) (L st : List ez_V) (h : ez_H) (Q : ez_H → Option ez_V → Prop) : Prop :=
  ∀ (p : Program) (l : Launch) (e : Env) (s : State) (m : MethodId) (args : Array Value) (below : List Frame) (meth : Method) (c : Code) (G : ez_G) (base : Nat) (ad : Nat → Nat),
    ez_Cx M p s m args meth c G base ad → ∀ (H : Heap) (locs : List Loc) (ls : Array Slot), ez_Rp G base ad h s H locs → ez_ls ad ls M.2.2.1 L → ez_oks L → ez_oks st →
    W p l e (ez_rm M) s m args below meth c H locs 0 0 (MQ below (ez_Q G ad base Q) args s 0 0 (ez_A base)) (F0 m pc ls (st.map (ez_rv ad)))
/-- what a state must hold for a method to begin -/
def ez_Wd (G : ez_G) (base : Nat) (ad : Nat → Nat) (h : ez_H) (U : State) : Prop :=
  va_K G.1 vwCl (ez_ty G) U ∧ va_P G.1 vwCl (ez_ws G ad h) U.heap ∧ va_D (ez_A base) (ez_ws G ad h) ∧ ez_okh h ∧ base ≤ U.heap.size ∧ va_Z RX0 "GAPS" "[I" (.ref (ad 200)) (ez_A base) U U.heap ∧ va_T .int (ad 200) 4 ez_gp (ez_A base) U U.heap ∧ ez_NW U
/-- M's contract with the arguments As from the heap h -/
def ez_Ct (M : ez_M) (As : List ez_V) (h : ez_H) (Q : ez_H → Option ez_V → Prop) : Prop :=
  ∀ (l : Launch) (G : ez_G) (base : Nat) (ad : Nat → Nat), ez_oks As →
    Met l M.1 (ez_w M) (ez_rm M) (va_Pc (As.map (ez_rv ad)) (ez_Wd G base ad h)) (ez_Q G ad base Q) 0 0 (ez_A base)
def ez_fl : List ez_V → List ez_V
  | [] => []
  | v :: t => if ez_lg v then v :: ez_N :: ez_fl t else v :: ez_fl t
def ez_ini (n : Nat) (As : List ez_V) : List ez_V := ez_fl As ++ List.replicate (n - (ez_fl As).length) ez_N
theorem ez_fl_len (ad : Nat → Nat) : ∀ As : List ez_V, (lg_sl (As.map (ez_rv ad))).length = (ez_fl As).length
  | [] => rfl
  | v :: t => by
    have ih := ez_fl_len ad t
    unfold lg_sl at ih ⊢
    rw [List.map_cons, List.flatMap_cons, List.length_append, ih, ez_cat, show ez_fl (v :: t) = if ez_lg v then v :: ez_N :: ez_fl t else v :: ez_fl t from rfl]
    cases ez_lg v <;> simp <;> omega
theorem ez_fl_at (ad : Nat → Nat) : ∀ (As : List ez_V) (o i : Nat) (v : ez_V), (ez_fl As)[i]? = some v → v ≠ ez_N → (o + i, ez_rv ad v) ∈ lv_args o (As.map (ez_rv ad))
  | [], o, i, v, h, _ => by simp [ez_fl] at h
  | w :: t, o, i, v, h, hv => by
    rw [List.map_cons, lv_args, ez_cat]
    unfold ez_fl at h
    cases hw : ez_lg w with
    | true =>
      rw [hw] at h
      match i, h with
      | 0, h =>
        simp at h
        subst h
        exact List.mem_cons_self
      | 1, h =>
        simp at h
        exact absurd h.symm hv
      | i + 2, h =>
        have h2 : (ez_fl t)[i]? = some v := by simpa using h
        have ih := ez_fl_at ad t (o + 2) i v h2 hv
        refine List.mem_cons_of_mem _ ?_
        simpa [Nat.add_assoc, Nat.add_comm, Nat.add_left_comm] using ih
    | false =>
      rw [hw] at h
      match i, h with
      | 0, h =>
        simp at h
        subst h
        exact List.mem_cons_self
      | i + 1, h =>
        have h2 : (ez_fl t)[i]? = some v := by simpa using h
        have ih := ez_fl_at ad t (o + 1) i v h2 hv
        refine List.mem_cons_of_mem _ ?_
        simpa [Nat.add_assoc, Nat.add_comm, Nat.add_left_comm] using ih
theorem ez_ini_ls {ad : Nat → Nat} {n : Nat} {As : List ez_V} (hn : (ez_fl As).length ≤ n) : ez_ls ad ((lg_sl (As.map (ez_rv ad)) ++ List.replicate (n - (lg_sl (As.map (ez_rv ad))).length) Slot.unset).toArray) n (ez_ini n As) := by
  have h := lv_entry (As.map (ez_rv ad)) (n := n) (by rw [ez_fl_len]; exact hn)
  refine ⟨h.1, h.2.1, fun i v hi hv => ?_⟩
  unfold ez_ini at hi
  have hlt : i < (ez_fl As).length := by
    refine Nat.not_le.mp fun q => ?_
    rw [List.getElem?_append_right q] at hi
    have := List.mem_of_getElem? hi
    exact hv (List.eq_of_mem_replicate this)
  rw [List.getElem?_append_left hlt] at hi
  have := ez_fl_at ad As 0 i v hi hv
  exact h.2.2 (i, ez_rv ad v) (by simpa using this)
theorem ez_fl_ok {As : List ez_V} (h : ez_oks As) : ez_oks (ez_fl As) := by
  induction As with
  | nil => exact fun w hw => by simp [ez_fl] at hw
  | cons v t ih =>
    unfold ez_fl
    split
    · exact (ez_oks.cons h.head (ez_oks.cons ez_okN (ih h.tail)))
    · exact ez_oks.cons h.head (ih h.tail)
theorem ez_ini_ok {n : Nat} {As : List ez_V} (h : ez_oks As) : ez_oks (ez_ini n As) := by
  intro w hw
  rcases List.mem_append.mp hw with e | e
  · exact ez_fl_ok h w e
  · rw [List.eq_of_mem_replicate e]
    exact ez_okN
theorem ez_blind (As : List Value) (G : ez_G) (base : Nat) (ad : Nat → Nat) (h : ez_H) : FrameBlind (va_Pc As (ez_Wd G base ad h)) := by
  intro a U g mk hq
  obtain ⟨h0, hK, hP, hD, hO, hb, hZ, hT, hNW⟩ := hq
  exact ⟨h0, va_K.moved (u := U) (U := U.calling g mk a) (Vm.Alike.refl U.vm) hK, hP, hD, hO, hb, va_Z.moved (u := U) (U := U.calling g mk a) (Vm.Alike.refl U.vm) hZ, va_T.moved (u := U) (U := U.calling g mk a) (Vm.Alike.refl U.vm) hT, fun q hq => va_Nw.same rfl rfl (hNW q hq)⟩
/-- a contract out of a walk from the entry -/
theorem ez_of {M : ez_M} {As L0 : List ez_V} {h : ez_H} {Q : ez_H → Option ez_V → Prop} (hp : plainName M.1.cls = true) (hn : (ez_fl As).length ≤ M.2.2.1) (hL : ez_ini M.2.2.1 As = L0) (k : ez_En M 0 L0 [] h Q) : ez_Ct M As h Q := by
  intro l G base ad hok
  refine Met.ofW (cc := M.2.1) (maxL := M.2.2.1) (ret := M.2.2.2.1) hp rfl ?_
  intro p e s m args below meth c s₁ B hml hv
  obtain ⟨rfl, hK, hP, hD, hO, hb, hZ, hT, hNW⟩ := hv
  have hts := atoms_spec (ws := ez_w M) B.pre
  rw [lg_entry_eq]
  subst hL
  exact k p l e s m _ below meth c G base ad ⟨B.exec, B.bytes, B.returns, hml, findClass_of_methodNamed B.named, fun w hw => hts w (List.mem_cons_of_mem _ hw), B.notSynchronized, hK, hZ, hT, hb, hNW⟩ s.heap [] _ ⟨hP, hD, va_S.rf, hO⟩ (ez_ini_ls hn) (ez_ini_ok hok) (fun w hw => by cases hw)
