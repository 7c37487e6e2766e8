/-! MAKING THE OBJECTS: the world while it is built. The objects 0 .. n - 1 are made, in the order of their numbers; sf o k: the reference k of object o is set -/
abbrev ca_F : Type := Nat → Nat → Bool
def ci_fv (ad : Nat → Nat) (h : ez_H) (sf : ca_F) (c o k : Nat) : Value := match ez_rf c o k with
  | some r => if sf o k = true then .ref (ad r) else .null
  | none => .int (Int32.ofInt (h o k))
def ci_cel (G : ez_G) (ad : Nat → Nat) (h : ez_H) (sf : ca_F) (o : Nat) : va_E :=
  if ez_kd o < 7 then .inr (ez_kd o, (List.range (ez_nf (ez_kd o))).map (ci_fv ad h sf (ez_kd o) o))
  else if ez_kd o = 7 then .inl (G.2 0, (ez_len o).toNat, .inl (fun j => Int32.ofInt (h o j)))
  else if ez_kd o = 8 then .inl (G.2 1, (ez_len o).toNat, .inr (.inl (fun j => Int64.ofInt (h o j))))
  else if ez_kd o = 9 then .inl (G.2 2, (ez_len o).toNat, .inl (fun j => Int32.ofInt (h o j)))
  else if ez_kd o = 10 then .inl (G.2 3, 25, .inr (.inr (.inr (.inr (fun j => if sf o j = true then some (ad (18 + 3 * j)) else none)))))
  else .inl (G.2 4, 5, .inr (.inr (.inr (.inr (fun j => if sf o j = true then some (ad (2 + 3 * j)) else none)))))
def ci_ws (G : ez_G) (ad : Nat → Nat) (h : ez_H) (sf : ca_F) (n : Nat) : va_W := (List.range n).map (fun o => (ad o, ci_cel G ad h sf o))
/-- what is set holds an object that is made; nothing is set of what is not made -/
def ci_ok (sf : ca_F) (n : Nat) : Prop := (∀ o k : Nat, n ≤ o → sf o k = false) ∧ ∀ o k : Nat, o < n → sf o k = true → (ez_kd o < 7 → ∀ r, ez_rf (ez_kd o) o k = some r → r < n) ∧ (ez_kd o = 10 → 18 + 3 * k < n) ∧ (¬ ez_kd o ≤ 10 → 2 + 3 * k < n)
theorem ci_ok.push {sf : ca_F} {n : Nat} (ok : ci_ok sf n) : ci_ok sf (n + 1) := by
  refine ⟨fun o k ho => ok.1 o k (by omega), fun o k ho hs => ?_⟩
  by_cases c : o = n
  · have := ok.1 o k (by omega)
    rw [this] at hs
    cases hs
  · obtain ⟨a, b, d⟩ := ok.2 o k (by omega) hs
    exact ⟨fun c r hr => Nat.lt_succ_of_lt (a c r hr), fun q => Nat.lt_succ_of_lt (b q), fun q => Nat.lt_succ_of_lt (d q)⟩
theorem ci_ws_at (G : ez_G) (ad : Nat → Nat) (h : ez_H) (sf : ca_F) {n o : Nat} (ho : o < n) : (ci_ws G ad h sf n)[o]? = some (ad o, ci_cel G ad h sf o) := by
  unfold ci_ws
  rw [List.getElem?_map, List.getElem?_range ho]
  rfl
theorem ci_ws_none (G : ez_G) (ad : Nat → Nat) (h : ez_H) (sf : ca_F) {n o : Nat} (ho : ¬ o < n) : (ci_ws G ad h sf n)[o]? = none := by
  unfold ci_ws
  rw [List.getElem?_map, List.getElem?_eq_none (by simp; omega)]
  rfl
theorem ci_ws_len (G : ez_G) (ad : Nat → Nat) (h : ez_H) (sf : ca_F) (n : Nat) : (ci_ws G ad h sf n).length = n := by simp [ci_ws]
theorem ci_cel_ob {G : ez_G} {ad : Nat → Nat} {h : ez_H} {sf : ca_F} {o ci : Nat} (hkd : ez_kd o = ci) (hci : ci < 7) : ci_cel G ad h sf o = .inr (ci, (List.range (ez_nf ci)).map (ci_fv ad h sf ci o)) := by
  unfold ci_cel
  rw [hkd, if_pos hci]
theorem ci_cel_I {G : ez_G} {ad : Nat → Nat} {h : ez_H} {sf : ca_F} {o : Nat} (hkd : ez_kd o = 7) : ci_cel G ad h sf o = .inl (G.2 0, (ez_len o).toNat, .inl (fun j => Int32.ofInt (h o j))) := by
  unfold ci_cel
  rw [hkd]
  rfl
theorem ci_cel_J {G : ez_G} {ad : Nat → Nat} {h : ez_H} {sf : ca_F} {o : Nat} (hkd : ez_kd o = 8) : ci_cel G ad h sf o = .inl (G.2 1, (ez_len o).toNat, .inr (.inl (fun j => Int64.ofInt (h o j)))) := by
  unfold ci_cel
  rw [hkd]
  rfl
theorem ci_cel_Z {G : ez_G} {ad : Nat → Nat} {h : ez_H} {sf : ca_F} {o : Nat} (hkd : ez_kd o = 9) : ci_cel G ad h sf o = .inl (G.2 2, (ez_len o).toNat, .inl (fun j => Int32.ofInt (h o j))) := by
  unfold ci_cel
  rw [hkd]
  rfl
theorem ci_cel_A {G : ez_G} {ad : Nat → Nat} {h : ez_H} {sf : ca_F} {o : Nat} (hkd : ez_kd o = 10) : ci_cel G ad h sf o = .inl (G.2 3, 25, .inr (.inr (.inr (.inr (fun j => if sf o j = true then some (ad (18 + 3 * j)) else none))))) := by
  unfold ci_cel
  rw [hkd]
  rfl
theorem ci_cel_B {G : ez_G} {ad : Nat → Nat} {h : ez_H} {sf : ca_F} {o : Nat} (hkd : ez_kd o = 11) : ci_cel G ad h sf o = .inl (G.2 4, 5, .inr (.inr (.inr (.inr (fun j => if sf o j = true then some (ad (2 + 3 * j)) else none))))) := by
  unfold ci_cel
  rw [hkd]
  rfl
theorem ci_cel_ad {G : ez_G} {ad ad' : Nat → Nat} {h : ez_H} {sf : ca_F} {n o : Nat} (ok : ci_ok sf n) (ho : o < n) (e : ∀ k, k < n → ad' k = ad k) : ci_cel G ad' h sf o = ci_cel G ad h sf o := by
  unfold ci_cel
  by_cases c1 : ez_kd o < 7
  · have hf : ci_fv ad' h sf (ez_kd o) o = ci_fv ad h sf (ez_kd o) o := by
      funext k
      unfold ci_fv
      cases hr : ez_rf (ez_kd o) o k with
      | none => rfl
      | some r =>
        dsimp only
        by_cases q : sf o k = true
        · rw [if_pos q, if_pos q, e r ((ok.2 o k ho q).1 c1 r hr)]
        · rw [if_neg q, if_neg q]
    rw [if_pos c1, if_pos c1, hf]
  · rw [if_neg c1, if_neg c1]
    by_cases c2 : ez_kd o = 7
    · rw [if_pos c2, if_pos c2]
    · rw [if_neg c2, if_neg c2]
      by_cases c3 : ez_kd o = 8
      · rw [if_pos c3, if_pos c3]
      · rw [if_neg c3, if_neg c3]
        by_cases c4 : ez_kd o = 9
        · rw [if_pos c4, if_pos c4]
        · rw [if_neg c4, if_neg c4]
          by_cases c5 : ez_kd o = 10
          · rw [if_pos c5, if_pos c5]
            have hf : (fun j : Nat => if sf o j = true then some (ad' (18 + 3 * j)) else none) = fun j : Nat => if sf o j = true then some (ad (18 + 3 * j)) else none := by
              funext j
              by_cases q : sf o j = true
              · rw [if_pos q, if_pos q, e _ ((ok.2 o j ho q).2.1 c5)]
              · rw [if_neg q, if_neg q]
            rw [hf]
          · rw [if_neg c5, if_neg c5]
            have hf : (fun j : Nat => if sf o j = true then some (ad' (2 + 3 * j)) else none) = fun j : Nat => if sf o j = true then some (ad (2 + 3 * j)) else none := by
              funext j
              by_cases q : sf o j = true
              · rw [if_pos q, if_pos q, e _ ((ok.2 o j ho q).2.2 (by omega))]
              · rw [if_neg q, if_neg q]
            rw [hf]
theorem ci_push {G : ez_G} {ad : Nat → Nat} {h : ez_H} {sf : ca_F} {n q : Nat} {E : va_E} (ok : ci_ok sf n) (hE : ci_cel G (va_up ad n q) h sf n = E) : ci_ws G ad h sf n ++ [(q, E)] = ci_ws G (va_up ad n q) h sf (n + 1) := by
  subst hE
  unfold ci_ws
  rw [List.range_succ, List.map_append]
  congr 1
  · refine List.map_congr_left (fun o ho => ?_)
    have ho2 := List.mem_range.mp ho
    rw [va_up_ne _ _ (by omega), ci_cel_ad ok ho2 (fun k hk => va_up_ne _ _ (by omega))]
  · rw [List.map_cons, List.map_nil, va_up_self]
/-- a cell changes -/
theorem ci_ws_set {G : ez_G} {ad : Nat → Nat} {h h' : ez_H} {sf sf' : ca_F} {n o : Nat} {E : va_E} (ho : o < n) (eh : ∀ (o' : Nat) (k : Int), o' ≠ o → h' o' k = h o' k) (es : ∀ o' k : Nat, o' ≠ o → sf' o' k = sf o' k) (hE : ci_cel G ad h' sf' o = E) : (ci_ws G ad h sf n).set o (ad o, E) = ci_ws G ad h' sf' n := by
  subst hE
  refine List.ext_getElem? fun j => ?_
  by_cases hj : j = o
  · subst hj
    rw [List.getElem?_set_self (by rw [ci_ws_len]; exact ho), ci_ws_at G ad _ _ ho]
  · rw [List.getElem?_set_ne (fun q => hj q.symm)]
    by_cases hj2 : j < n
    · rw [ci_ws_at G ad _ _ hj2, ci_ws_at G ad _ _ hj2]
      have hs : sf' j = sf j := funext fun k => es j k hj
      have hf : ci_fv ad h' sf' (ez_kd j) j = ci_fv ad h sf (ez_kd j) j := by
        funext k
        unfold ci_fv
        rw [hs, eh j k hj]
      unfold ci_cel
      simp only [hf, hs, fun k => eh j k hj]
    · rw [ci_ws_none G ad _ _ hj2, ci_ws_none G ad _ _ hj2]
/-- the references a .. b - 1 of o are set -/
def ca_rg (sf : ca_F) (o a b : Nat) : ca_F := fun o' k => if o' = o ∧ a ≤ k ∧ k < b then true else sf o' k
theorem ca_rg_0 (sf : ca_F) (o a : Nat) : ca_rg sf o a a = sf := by
  funext o' k
  unfold ca_rg
  rw [if_neg (by omega)]
theorem ca_rg_iff {sf : ca_F} {o a b o' k : Nat} : ca_rg sf o a b o' k = true ↔ (o' = o ∧ a ≤ k ∧ k < b) ∨ sf o' k = true := by
  unfold ca_rg
  by_cases c : o' = o ∧ a ≤ k ∧ k < b
  · rw [if_pos c]
    exact ⟨fun _ => Or.inl c, fun _ => rfl⟩
  · rw [if_neg c]
    exact ⟨fun z => Or.inr z, fun z => z.resolve_left c⟩
theorem ca_rg_comm {sf : ca_F} {o a b o2 a2 b2 : Nat} : ca_rg (ca_rg sf o a b) o2 a2 b2 = ca_rg (ca_rg sf o2 a2 b2) o a b := by
  funext o' k
  refine Bool.eq_iff_iff.mpr ?_
  rw [ca_rg_iff, ca_rg_iff, ca_rg_iff, ca_rg_iff]
  constructor
  · rintro (q | q | q)
    · exact Or.inr (Or.inl q)
    · exact Or.inl q
    · exact Or.inr (Or.inr q)
  · rintro (q | q | q)
    · exact Or.inr (Or.inl q)
    · exact Or.inl q
    · exact Or.inr (Or.inr q)
theorem ca_rg_ne {sf : ca_F} {o a b o' k : Nat} (h : o' ≠ o) : ca_rg sf o a b o' k = sf o' k := if_neg (fun q => h q.1)
/-- one more is set, and holds what is made -/
theorem ci_ok.set {sf : ca_F} {n o a k : Nat} (ok : ci_ok (ca_rg sf o a k) n) (ho : o < n) (hr : (ez_kd o < 7 → ∀ r, ez_rf (ez_kd o) o k = some r → r < n) ∧ (ez_kd o = 10 → 18 + 3 * k < n) ∧ (¬ ez_kd o ≤ 10 → 2 + 3 * k < n)) : ci_ok (ca_rg sf o a (k + 1)) n := by
  refine ⟨fun o' k' h' => ?_, fun o' k' h' hs => ?_⟩
  · have := ok.1 o' k' h'
    rw [ca_rg_ne (by omega)] at this ⊢
    exact this
  · by_cases c : o' = o ∧ k' = k
    · rw [c.1, c.2]
      exact hr
    · refine ok.2 o' k' h' (ca_rg_iff.mpr ?_)
      rcases ca_rg_iff.mp hs with q | q
      · exact Or.inl (by omega)
      · exact Or.inr q
theorem ca_fs_set {ad : Nat → Nat} {h : ez_H} {sf : ca_F} {ci o a k r N : Nat} (hr : ez_rf ci o k = some r) (hak : a ≤ k) : (List.range N).map (ci_fv ad h (ca_rg sf o a (k + 1)) ci o) = ((List.range N).map (ci_fv ad h (ca_rg sf o a k) ci o)).set k (.ref (ad r)) := by
  refine List.ext_getElem? fun j => ?_
  by_cases hj : j < N
  · rw [List.getElem?_map, List.getElem?_range hj]
    by_cases hjk : k = j
    · subst hjk
      rw [List.getElem?_set_self (by simp; omega)]
      show some (ci_fv ad h (ca_rg sf o a (k + 1)) ci o k) = _
      unfold ci_fv
      rw [hr]
      dsimp only
      rw [if_pos (ca_rg_iff.mpr (Or.inl ⟨rfl, hak, by omega⟩))]
    · rw [List.getElem?_set_ne hjk, List.getElem?_map, List.getElem?_range hj]
      show some (ci_fv ad h (ca_rg sf o a (k + 1)) ci o j) = some (ci_fv ad h (ca_rg sf o a k) ci o j)
      have e : ca_rg sf o a (k + 1) o j = ca_rg sf o a k o j := by
        refine Bool.eq_iff_iff.mpr ?_
        rw [ca_rg_iff, ca_rg_iff]
        constructor
        · rintro (q | q)
          · exact Or.inl (by omega)
          · exact Or.inr q
        · rintro (q | q)
          · exact Or.inl (by omega)
          · exact Or.inr q
      unfold ci_fv
      rw [e]
  · rw [List.getElem?_eq_none (by simp; omega), List.getElem?_eq_none (by simp; omega)]
theorem ca_fi_set {ad : Nat → Nat} {h : ez_H} {sf : ca_F} {ci o k N : Nat} {v : Int} (hr : ez_rf ci o k = none) : (List.range N).map (ci_fv ad (ez_up h o k v) sf ci o) = ((List.range N).map (ci_fv ad h sf ci o)).set k (.int (Int32.ofInt v)) := by
  refine List.ext_getElem? fun j => ?_
  by_cases hj : j < N
  · rw [List.getElem?_map, List.getElem?_range hj]
    by_cases hjk : k = j
    · subst hjk
      rw [List.getElem?_set_self (by simp; omega)]
      show some (ci_fv ad (ez_up h o k v) sf ci o k) = _
      unfold ci_fv
      rw [hr]
      simp [ez_up]
    · rw [List.getElem?_set_ne hjk, List.getElem?_map, List.getElem?_range hj]
      show some (ci_fv ad (ez_up h o k v) sf ci o j) = some (ci_fv ad h sf ci o j)
      unfold ci_fv
      rw [show ez_up h o k v o j = h o j from if_neg (by omega)]
  · rw [List.getElem?_eq_none (by simp; omega), List.getElem?_eq_none (by simp; omega)]
/-! references below n, and those beyond 200 that are never made here -/
def ca_lt (n : Nat) (v : ez_V) : Prop := match v with
  | .inr (.inr (.inl o)) => 0 ≤ o ∧ (o < n ∨ 200 ≤ o)
  | _ => True
def ca_lts (n : Nat) (L : List ez_V) : Prop := ∀ v ∈ L, ca_lt n v
theorem ca_ltI (n : Nat) (z : Int) : ca_lt n (ez_I z) := trivial
theorem ca_ltR {n : Nat} {o : Int} (h : 0 ≤ o ∧ (o < n ∨ 200 ≤ o)) : ca_lt n (ez_R o) := h
theorem ca_lts.cons {n : Nat} {v : ez_V} {L : List ez_V} (h : ca_lts n L) (hv : ca_lt n v) : ca_lts n (v :: L) := fun w hw => by
  rcases List.mem_cons.mp hw with e | e
  · rw [e]; exact hv
  · exact h w e
theorem ca_lts.head {n : Nat} {v : ez_V} {L : List ez_V} (h : ca_lts n (v :: L)) : ca_lt n v := h v List.mem_cons_self
theorem ca_lts.tail {n : Nat} {v : ez_V} {L : List ez_V} (h : ca_lts n (v :: L)) : ca_lts n L := fun w hw => h w (List.mem_cons_of_mem _ hw)
theorem ca_lts.at {n : Nat} {v : ez_V} {L : List ez_V} {i : Nat} (h : ca_lts n L) (hi : L[i]? = some v) : ca_lt n v := h v (List.mem_of_getElem? hi)
theorem ca_lts.set {n : Nat} {v : ez_V} {L : List ez_V} {i : Nat} (h : ca_lts n L) (hv : ca_lt n v) : ca_lts n (ez_set L i v) := fun w hw => by
  rcases ez_set_mem L i v w hw with e | e | e
  · rw [e]; exact hv
  · exact h w e
  · rw [e]; trivial
theorem ca_lt.mono {n n' : Nat} {v : ez_V} (h : ca_lt n v) (hn : n ≤ n') : ca_lt n' v := by
  rcases v with z | z | o | u
  · trivial
  · trivial
  · have h2 : 0 ≤ o ∧ (o < n ∨ 200 ≤ o) := h
    exact ca_ltR (by omega)
  · trivial
theorem ca_lts.mono {n n' : Nat} {L : List ez_V} (h : ca_lts n L) (hn : n ≤ n') : ca_lts n' L := fun v hv => (h v hv).mono hn
theorem ca_rv {n : Nat} {ad ad' : Nat → Nat} {v : ez_V} (h : ca_lt n v) (e : ∀ k, k < n ∨ 200 ≤ k → ad' k = ad k) : ez_rv ad' v = ez_rv ad v := by
  rcases v with z | z | o | u
  · rfl
  · rfl
  · have h2 : 0 ≤ o ∧ (o < n ∨ 200 ≤ o) := h
    show Value.ref (ad' o.toNat) = Value.ref (ad o.toNat)
    rw [e _ (by omega)]
  · rfl
theorem ca_rvs {n : Nat} {ad ad' : Nat → Nat} {L : List ez_V} (h : ca_lts n L) (e : ∀ k, k < n ∨ 200 ≤ k → ad' k = ad k) : L.map (ez_rv ad') = L.map (ez_rv ad) := List.map_congr_left (fun v hv => ca_rv (h v hv) e)
theorem ca_ls {n nL : Nat} {ad ad' : Nat → Nat} {L : List ez_V} {ls : Array Slot} (h : ez_ls ad ls nL L) (hr : ca_lts n L) (e : ∀ k, k < n ∨ 200 ≤ k → ad' k = ad k) : ez_ls ad' ls nL L := ⟨h.1, h.2.1, fun i v hi hv => by rw [ca_rv (hr.at hi) e]; exact h.2.2 i v hi hv⟩
/-! contexts -/
def ca_nest : List (String × Nat × MethodName) := [(RX5, 15, yX3_init), (RX5, 22, yX1_init), (RX5, 25, yX0_init), (RX0, 36, yX2_init), (RX5, 32, yX4_init)]
def ca_NI (U : State) : Prop := ∀ q ∈ ca_nest, va_Nw (.methodLinkNest q.1 q.2.1 q.2.2 "StarPlates") U
def ca_C (p : Program) (s : State) (m : MethodId) (args : Array Value) (meth : Method) (c : Code) (G : ez_G) (base : Nat) (cc : ByteArray) (nL : Nat) (own : String) : Prop :=
  p.tables.exec = Jvm.exec ∧ c.code = cc ∧ c.maxLocals = nL ∧ s.vm.findClass own = some m.cls ∧ (∀ w ∈ lw_tg, w.before args s = true) ∧ meth.locks = false ∧ va_K G.1 vwCl (ez_ty G) s ∧ base ≤ s.heap.size ∧ va_AO RX3 s ∧ va_AO RX1 s ∧ ca_NI s
def ca_R (G : ez_G) (base : Nat) (ad : Nat → Nat) (h : ez_H) (sf : ca_F) (n : Nat) (s : State) (H : Heap) (locs : List Loc) : Prop :=
  va_P G.1 vwCl (ci_ws G ad h sf n) H ∧ va_D (ez_A base) (ci_ws G ad h sf n) ∧ va_S (ez_A base) s.heap H locs ∧ ci_ok sf n ∧ ez_okh h ∧ ∀ o k : Int, n ≤ o → h o k = 0
/-- the machine, at pc, with n objects made (n0 of them before this method), comes to a state with Z -/
def ca_E (p : Program) (l : Launch) (e : Env) (R : Room) (s : State) (m : MethodId) (args : Array Value) (below : List Frame) (meth : Method) (c : Code) (Z : State → Prop) (G : ez_G) (base nL n0 : Nat) (ad0 : Nat → Nat) (pc : Nat) (L st : List ez_V) (h : ez_H) (sf : ca_F) (n : Nat) : Prop :=
  ∀ ad : Nat → Nat, (∀ k, k < n0 ∨ 200 ≤ k → ad k = ad0 k) → ∀ (H : Heap) (locs : List Loc) (ls : Array Slot), ca_R G base ad h sf n s H locs → ez_ls ad ls nL L → ez_oks L → ez_oks st → ca_lts n L → ca_lts n st →
    W p l e R s m args below meth c H locs (n - n0) (2304 * (n - n0)) Z (F0 m pc ls (st.map (ez_rv ad)))
def ca_Wd (G : ez_G) (base : Nat) (ad : Nat → Nat) (h : ez_H) (sf : ca_F) (n : Nat) (U : State) : Prop :=
  va_K G.1 vwCl (ez_ty G) U ∧ va_P G.1 vwCl (ci_ws G ad h sf n) U.heap ∧ va_D (ez_A base) (ci_ws G ad h sf n) ∧ base ≤ U.heap.size ∧ va_AO RX3 U ∧ va_AO RX1 U ∧ ca_NI U
def ca_Q (G : ez_G) (ad0 : Nat → Nat) (base n0 n1 : Nat) (h1 : ez_H) (sf1 : ca_F) : Array Value → State → Outcome → State → Prop := fun _ st oc t =>
  oc = .returned none ∧ (∃ ad : Nat → Nat, (∀ k, k < n0 ∨ 200 ≤ k → ad k = ad0 k) ∧ va_P G.1 vwCl (ci_ws G ad h1 sf1 n1) t.heap ∧ va_D (ez_A base) (ci_ws G ad h1 sf1 n1) ∧ ci_ok sf1 n1 ∧ ez_okh h1 ∧ ∀ o k : Int, n1 ≤ o → h1 o k = 0) ∧ va_F (ez_A base) st t
def ca_rm (M : ez_M) (k : Nat) : Room := { frames := M.2.2.2.2.1, cells := k, slots := 2304 * k, locals := M.2.2.2.2.2 }
/-- a constructor's contract: from n0 objects to n1 -/
def ca_Ct (M : ez_M) (o n0 n1 : Nat) (h : ez_H) (sf : ca_F) (h1 : ez_H) (sf1 : ca_F) : Prop :=
  ∀ (l : Launch) (G : ez_G) (base : Nat) (ad : Nat → Nat), Met l M.1 (ez_w M) (ca_rm M (n1 - n0)) (va_Pc [.ref (ad o)] (ca_Wd G base ad h sf n0)) (ca_Q G ad base n0 n1 h1 sf1) (n1 - n0) (2304 * (n1 - n0)) (ez_A base)
theorem ca_uni {D : va_G} {cl : List vw_C} {tys : List (ClassId × FieldType)} {U : State} {cA cB : ClassId} {ty : FieldType} (h : va_K D cl (tys ++ [(cA, ty)]) U) (k : Nat) (hk : tys[k]? = some (cB, ty)) : cA = cB := by
  have h1 := (h.2 tys.length (cA, ty) (by simp)).2
  have h2 := (h.2 k (cB, ty) (by rw [List.getElem?_append_left (List.getElem?_eq_some_iff.mp hk).1]; exact hk)).2
  cases ty with
  | object C =>
    obtain ⟨_, _, _, _, _, e1⟩ := h1
    obtain ⟨_, _, _, _, _, e2⟩ := h2
    exact Option.some.inj (e1.symm.trans e2)
  | _ => exact Option.some.inj (h1.symm.trans h2)
