/-! THE ABSTRACT MACHINE. Values: ez_I (int), ez_L (long), ez_R (an object's number), ez_N (nothing known). A heap: h o k, the k-th field or element of object o, a whole number. -/
abbrev ez_V : Type := Int ⊕ (Int ⊕ (Int ⊕ Unit))
def ez_I (z : Int) : ez_V := .inl z
def ez_L (z : Int) : ez_V := .inr (.inl z)
def ez_R (o : Int) : ez_V := .inr (.inr (.inl o))
def ez_N : ez_V := .inr (.inr (.inr ()))
abbrev ez_H : Type := Int → Int → Int
def ez_rv (ad : Nat → Nat) (v : ez_V) : Value := match v with
  | .inl z => .int (Int32.ofInt z)
  | .inr (.inl z) => .long (Int64.ofInt z)
  | .inr (.inr (.inl o)) => .ref (ad o.toNat)
  | .inr (.inr (.inr _)) => .null
abbrev in32 (z : Int) : Prop := -2147483648 ≤ z ∧ z < 2147483648
abbrev in64 (z : Int) : Prop := -9223372036854775808 ≤ z ∧ z < 9223372036854775808
def ez_ok (v : ez_V) : Prop := match v with
  | .inl z => in32 z
  | .inr (.inl z) => in64 z
  | _ => True
theorem ez_okI {z : Int} : ez_ok (ez_I z) ↔ in32 z := Iff.rfl
theorem ez_okL {z : Int} : ez_ok (ez_L z) ↔ in64 z := Iff.rfl
theorem ez_okR (o : Int) : ez_ok (ez_R o) := trivial
theorem ez_okN : ez_ok ez_N := trivial
theorem e3_bm {z : Int} (h : in32 z) : z.bmod (2 ^ 32) = z := by
  have h1 := h.1
  have h2 := h.2
  rw [Int.bmod_eq_of_le (by omega) (by omega)]
theorem e6_bm {z : Int} (h : in64 z) : z.bmod (2 ^ 64) = z := by
  have h1 := h.1
  have h2 := h.2
  rw [Int.bmod_eq_of_le (by omega) (by omega)]
theorem e3_toInt {z : Int} (h : in32 z) : (Int32.ofInt z).toInt = z := by
  rw [Int32.toInt_ofInt]
  exact e3_bm h
theorem e6_toInt {z : Int} (h : in64 z) : (Int64.ofInt z).toInt = z := by
  rw [Int64.toInt_ofInt]
  exact e6_bm h
theorem e3_eq {x : Int32} {z : Int} (h : in32 z) (hx : x.toInt = z) : x = Int32.ofInt z := Int32.toInt_inj.mp (by rw [e3_toInt h, hx])
theorem e6_eq {x : Int64} {z : Int} (h : in64 z) (hx : x.toInt = z) : x = Int64.ofInt z := Int64.toInt_inj.mp (by rw [e6_toInt h, hx])
theorem e3_add {a b : Int} (ha : in32 a) (hb : in32 b) (h : in32 (a + b)) : Int32.ofInt a + Int32.ofInt b = Int32.ofInt (a + b) := e3_eq h (by rw [Int32.toInt_add, e3_toInt ha, e3_toInt hb, e3_bm h])
theorem e3_sub {a b : Int} (ha : in32 a) (hb : in32 b) (h : in32 (a - b)) : Int32.ofInt a - Int32.ofInt b = Int32.ofInt (a - b) := e3_eq h (by rw [Int32.toInt_sub, e3_toInt ha, e3_toInt hb, e3_bm h])
theorem e3_mul {a b : Int} (ha : in32 a) (hb : in32 b) (h : in32 (a * b)) : Int32.ofInt a * Int32.ofInt b = Int32.ofInt (a * b) := e3_eq h (by rw [Int32.toInt_mul, e3_toInt ha, e3_toInt hb, e3_bm h])
theorem e3_neg {a : Int} (ha : in32 a) (h : in32 (-a)) : -Int32.ofInt a = Int32.ofInt (-a) := e3_eq h (by rw [Int32.toInt_neg, e3_toInt ha, e3_bm h])
theorem e3_div {a b : Int} (ha : in32 a) (hb : in32 b) (h : in32 (a.tdiv b)) : Int32.ofInt a / Int32.ofInt b = Int32.ofInt (a.tdiv b) := e3_eq h (by rw [Int32.toInt_div, e3_toInt ha, e3_toInt hb, e3_bm h])
theorem e6_add {a b : Int} (ha : in64 a) (hb : in64 b) (h : in64 (a + b)) : Int64.ofInt a + Int64.ofInt b = Int64.ofInt (a + b) := e6_eq h (by rw [Int64.toInt_add, e6_toInt ha, e6_toInt hb, e6_bm h])
theorem e6_sub {a b : Int} (ha : in64 a) (hb : in64 b) (h : in64 (a - b)) : Int64.ofInt a - Int64.ofInt b = Int64.ofInt (a - b) := e6_eq h (by rw [Int64.toInt_sub, e6_toInt ha, e6_toInt hb, e6_bm h])
theorem e6_mul {a b : Int} (ha : in64 a) (hb : in64 b) (h : in64 (a * b)) : Int64.ofInt a * Int64.ofInt b = Int64.ofInt (a * b) := e6_eq h (by rw [Int64.toInt_mul, e6_toInt ha, e6_toInt hb, e6_bm h])
theorem e6_div {a b : Int} (ha : in64 a) (hb : in64 b) (h : in64 (a.tdiv b)) : Int64.ofInt a / Int64.ofInt b = Int64.ofInt (a.tdiv b) := e6_eq h (by rw [Int64.toInt_div, e6_toInt ha, e6_toInt hb, e6_bm h])
theorem e3_lt {a b : Int} (ha : in32 a) (hb : in32 b) : Int32.ofInt a < Int32.ofInt b ↔ a < b := by rw [Int32.lt_iff_toInt_lt, e3_toInt ha, e3_toInt hb]
theorem e3_le {a b : Int} (ha : in32 a) (hb : in32 b) : Int32.ofInt a ≤ Int32.ofInt b ↔ a ≤ b := by rw [Int32.le_iff_toInt_le, e3_toInt ha, e3_toInt hb]
theorem e3_eqI {a b : Int} (ha : in32 a) (hb : in32 b) : Int32.ofInt a = Int32.ofInt b ↔ a = b := by rw [← Int32.toInt_inj, e3_toInt ha, e3_toInt hb]
theorem e6_lt {a b : Int} (ha : in64 a) (hb : in64 b) : Int64.ofInt a < Int64.ofInt b ↔ a < b := by rw [Int64.lt_iff_toInt_lt, e6_toInt ha, e6_toInt hb]
theorem e6_eqI {a b : Int} (ha : in64 a) (hb : in64 b) : Int64.ofInt a = Int64.ofInt b ↔ a = b := by rw [← Int64.toInt_inj, e6_toInt ha, e6_toInt hb]
theorem e3_0 : in32 0 := by unfold in32; omega
theorem e3_z : Int32.ofInt 0 = 0 := by decide
theorem e3_clamp {a : Int} (ha : in32 a) (h0 : 0 ≤ a) : (Int32.ofInt a).toNatClampNeg = a.toNat := by
  show (Int32.ofInt a).toInt.toNat = a.toNat
  rw [e3_toInt ha]
theorem e3_in {a : Int} {n : Nat} (ha : in32 a) (h0 : 0 ≤ a) (h1 : a.toNat < n) : vp_in (Int32.ofInt a) n := by
  intro h
  rcases h with h | h
  · have h2 := (e3_lt ha e3_0).mp (by rw [e3_z]; exact h)
    omega
  · rw [e3_clamp ha h0] at h
    omega
theorem e3_64 {a : Int} (h : in32 a) : in64 a := by unfold in32 at h; unfold in64; omega
theorem e3_i2l {a : Int} (h : in32 a) : (Int32.ofInt a).toInt64 = Int64.ofInt a := e6_eq (e3_64 h) (by rw [Int32.toInt_toInt64, e3_toInt h])
theorem e6_l2i {a : Int} (h : in32 a) : (Int64.ofInt a).toInt32 = Int32.ofInt a := e3_eq h (by rw [Int64.toInt_toInt32, e6_toInt (e3_64 h), e3_bm h])
/-! LOCALS: a list; storing at i makes a long at i - 1 unknown -/
def ez_cl (x : ez_V) : ez_V := match x with
  | .inr (.inl _) => ez_N
  | x => x
def ez_set : List ez_V → Nat → ez_V → List ez_V
  | [], _, _ => []
  | _ :: t, 0, v => v :: t
  | x :: t, 1, v => ez_cl x :: ez_set t 0 v
  | x :: t, i + 2, v => x :: ez_set t (i + 1) v
def ez_set2 : List ez_V → Nat → ez_V → List ez_V
  | [], _, _ => []
  | [_], 0, _ => [ez_N]
  | _ :: _ :: t, 0, v => v :: ez_N :: t
  | x :: t, 1, v => ez_cl x :: ez_set2 t 0 v
  | x :: t, i + 2, v => x :: ez_set2 t (i + 1) v
def ez_lg (v : ez_V) : Bool := match v with
  | .inr (.inl _) => true
  | _ => false
theorem ez_cat (ad : Nat → Nat) (v : ez_V) : (ez_rv ad v).category = if ez_lg v then 2 else 1 := by
  rcases v with z | z | o | u <;> rfl
theorem ez_cl_of {x w : ez_V} (h : ez_cl x = w) (hw : w ≠ ez_N) : x = w ∧ ez_lg w = false := by
  rcases x with z | z | o | u
  · exact ⟨h, by rw [← h]; rfl⟩
  · exact absurd h.symm hw
  · exact ⟨h, by rw [← h]; rfl⟩
  · exact ⟨h, by rw [← h]; rfl⟩
theorem ez_set_at : ∀ (L : List ez_V) (i j : Nat) (v w : ez_V), (ez_set L i v)[j]? = some w → w ≠ ez_N → (j = i ∧ w = v) ∨ (j ≠ i ∧ L[j]? = some w ∧ (j + 1 = i → ez_lg w = false))
  | [], i, j, v, w, h, _ => by simp [ez_set] at h
  | x :: t, 0, 0, v, w, h, _ => by
    simp [ez_set] at h
    exact Or.inl ⟨rfl, h.symm⟩
  | x :: t, 0, j + 1, v, w, h, _ => by
    simp [ez_set] at h
    exact Or.inr ⟨by omega, by simpa using h, by omega⟩
  | x :: t, 1, 0, v, w, h, hw => by
    simp [ez_set] at h
    obtain ⟨h1, h2⟩ := ez_cl_of h hw
    exact Or.inr ⟨by omega, by simp [h1], fun _ => h2⟩
  | x :: t, 1, j + 1, v, w, h, hw => by
    simp [ez_set] at h
    rcases ez_set_at t 0 j v w h hw with ⟨h1, h2⟩ | ⟨h1, h2, h3⟩
    · exact Or.inl ⟨by omega, h2⟩
    · exact Or.inr ⟨by omega, by simpa using h2, by omega⟩
  | x :: t, i + 2, 0, v, w, h, hw => by
    simp [ez_set] at h
    exact Or.inr ⟨by omega, by simp [h], by omega⟩
  | x :: t, i + 2, j + 1, v, w, h, hw => by
    simp [ez_set] at h
    rcases ez_set_at t (i + 1) j v w h hw with ⟨h1, h2⟩ | ⟨h1, h2, h3⟩
    · exact Or.inl ⟨by omega, h2⟩
    · exact Or.inr ⟨by omega, by simpa using h2, fun q => h3 (by omega)⟩
theorem ez_set2_at : ∀ (L : List ez_V) (i j : Nat) (v w : ez_V), (ez_set2 L i v)[j]? = some w → w ≠ ez_N → (j = i ∧ w = v) ∨ (j ≠ i ∧ j ≠ i + 1 ∧ L[j]? = some w ∧ (j + 1 = i → ez_lg w = false))
  | [], i, j, v, w, h, _ => by simp [ez_set2] at h
  | [x], 0, 0, v, w, h, hw => by
    simp [ez_set2] at h
    exact absurd h.symm hw
  | [x], 0, j + 1, v, w, h, _ => by simp [ez_set2] at h
  | x :: y :: t, 0, 0, v, w, h, _ => by
    simp [ez_set2] at h
    exact Or.inl ⟨rfl, h.symm⟩
  | x :: y :: t, 0, 1, v, w, h, hw => by
    simp [ez_set2] at h
    exact absurd h.symm hw
  | x :: y :: t, 0, j + 2, v, w, h, _ => by
    simp [ez_set2] at h
    exact Or.inr ⟨by omega, by omega, by simpa using h, by omega⟩
  | x :: t, 1, 0, v, w, h, hw => by
    simp [ez_set2] at h
    obtain ⟨h1, h2⟩ := ez_cl_of h hw
    exact Or.inr ⟨by omega, by omega, by simp [h1], fun _ => h2⟩
  | x :: t, 1, j + 1, v, w, h, hw => by
    simp [ez_set2] at h
    rcases ez_set2_at t 0 j v w h hw with ⟨h1, h2⟩ | ⟨h1, h2, h3, h4⟩
    · exact Or.inl ⟨by omega, h2⟩
    · exact Or.inr ⟨by omega, by omega, by simpa using h3, by omega⟩
  | x :: t, i + 2, 0, v, w, h, hw => by
    simp [ez_set2] at h
    exact Or.inr ⟨by omega, by omega, by simp [h], by omega⟩
  | x :: t, i + 2, j + 1, v, w, h, hw => by
    simp [ez_set2] at h
    rcases ez_set2_at t (i + 1) j v w h hw with ⟨h1, h2⟩ | ⟨h1, h2, h3, h4⟩
    · exact Or.inl ⟨by omega, h2⟩
    · exact Or.inr ⟨by omega, by omega, by simpa using h3, fun q => h4 (by omega)⟩
/-- the machine's locals hold the known ones of the list -/
def ez_ls (ad : Nat → Nat) (ls : Array Slot) (nL : Nat) (L : List ez_V) : Prop := ls.size = nL ∧ lv_wf ls ∧ ∀ (i : Nat) (v : ez_V), L[i]? = some v → v ≠ ez_N → ls[i]? = some (.val (ez_rv ad v))
def ez_l1 (ad : Nat → Nat) (i : Nat) (v : Option ez_V) : Option (Nat × Value) := match v with
  | none => none
  | some (.inl z) => some (i, ez_rv ad (.inl z))
  | some (.inr (.inl z)) => some (i, ez_rv ad (.inr (.inl z)))
  | some (.inr (.inr (.inl z))) => some (i, ez_rv ad (.inr (.inr (.inl z))))
  | some (.inr (.inr (.inr _))) => none
def ez_lv (ad : Nat → Nat) (L : List ez_V) : List (Nat × Value) := (List.range L.length).filterMap (fun i => ez_l1 ad i L[i]?)
theorem ez_lv_mem {ad : Nat → Nat} {L : List ez_V} {i : Nat} {v : ez_V} (h : L[i]? = some v) (hv : v ≠ ez_N) : (i, ez_rv ad v) ∈ ez_lv ad L := by
  have hi : i < L.length := (List.getElem?_eq_some_iff.mp h).1
  refine List.mem_filterMap.mpr ⟨i, List.mem_range.mpr hi, ?_⟩
  rw [h]
  rcases v with z | z | o | u
  · rfl
  · rfl
  · rfl
  · exact absurd rfl hv
theorem ez_lv_of {ad : Nat → Nat} {L : List ez_V} {q : Nat × Value} (h : q ∈ ez_lv ad L) : ∃ v : ez_V, L[q.1]? = some v ∧ v ≠ ez_N ∧ q.2 = ez_rv ad v := by
  obtain ⟨i, -, h2⟩ := List.mem_filterMap.mp h
  cases hL : L[i]? with
  | none => rw [hL] at h2; cases h2
  | some v =>
    rw [hL] at h2
    rcases v with z | z | o | u
    · cases h2
      exact ⟨_, hL, (fun q => by cases q), rfl⟩
    · cases h2
      exact ⟨_, hL, (fun q => by cases q), rfl⟩
    · cases h2
      exact ⟨_, hL, (fun q => by cases q), rfl⟩
    · cases h2
theorem ez_ls.has {ad : Nat → Nat} {ls : Array Slot} {nL : Nat} {L : List ez_V} (h : ez_ls ad ls nL L) : lv_has ls nL (ez_lv ad L) := by
  refine ⟨h.1, h.2.1, fun q hq => ?_⟩
  obtain ⟨v, h1, h2, h3⟩ := ez_lv_of hq
  rw [h3]
  exact h.2.2 _ _ h1 h2
theorem ez_ls.set {ad : Nat → Nat} {ls' : Array Slot} {nL i : Nat} {L : List ez_V} {v : ez_V} {x : Value} (hx : ez_rv ad v = x) (h : lv_has ls' nL ((i, x) :: (ez_lv ad L).filter (fun q => !(q.1 == i) && !(q.1 + 1 == i && q.2.category == 2)))) : ez_ls ad ls' nL (ez_set L i v) := by
  refine ⟨h.1, h.2.1, fun j w hj hw => ?_⟩
  rcases ez_set_at L i j v w hj hw with ⟨h1, h2⟩ | ⟨h1, h2, h3⟩
  · subst h1; subst h2
    rw [hx]
    exact h.2.2 (j, x) List.mem_cons_self
  · refine h.2.2 (j, ez_rv ad w) (List.mem_cons_of_mem _ (List.mem_filter.mpr ⟨ez_lv_mem h2 hw, ?_⟩))
    have e := ez_cat ad w
    by_cases hji : j + 1 = i
    · rw [h3 hji] at e
      simp [e, h1]
    · simp [h1, hji]
theorem ez_ls.set2 {ad : Nat → Nat} {ls' : Array Slot} {nL i : Nat} {L : List ez_V} {v : ez_V} {x : Value} (hx : ez_rv ad v = x) (h : lv_has ls' nL ((i, x) :: (ez_lv ad L).filter (fun q => !(q.1 == i) && (!(q.1 == i + 1) && !(q.1 + 1 == i && q.2.category == 2))))) : ez_ls ad ls' nL (ez_set2 L i v) := by
  refine ⟨h.1, h.2.1, fun j w hj hw => ?_⟩
  rcases ez_set2_at L i j v w hj hw with ⟨h1, h2⟩ | ⟨h1, h2, h3, h4⟩
  · subst h1; subst h2
    rw [hx]
    exact h.2.2 (j, x) List.mem_cons_self
  · refine h.2.2 (j, ez_rv ad w) (List.mem_cons_of_mem _ (List.mem_filter.mpr ⟨ez_lv_mem h3 hw, ?_⟩))
    have e := ez_cat ad w
    by_cases hji : j + 1 = i
    · rw [h4 hji] at e
      simp [e, h1, h2]
    · simp [h1, h2, hji]
theorem ez_set_mem : ∀ (L : List ez_V) (i : Nat) (v w : ez_V), w ∈ ez_set L i v → w = v ∨ w ∈ L ∨ w = ez_N
  | [], i, v, w, h => by simp [ez_set] at h
  | x :: t, 0, v, w, h => by
    simp [ez_set] at h
    rcases h with h | h
    · exact Or.inl h
    · exact Or.inr (Or.inl (List.mem_cons_of_mem _ h))
  | x :: t, 1, v, w, h => by
    simp [ez_set] at h
    rcases h with h | h
    · rcases x with z | z | o | u
      · exact Or.inr (Or.inl (by rw [h]; exact List.mem_cons_self))
      · exact Or.inr (Or.inr h)
      · exact Or.inr (Or.inl (by rw [h]; exact List.mem_cons_self))
      · exact Or.inr (Or.inl (by rw [h]; exact List.mem_cons_self))
    · rcases ez_set_mem t 0 v w h with h | h | h
      · exact Or.inl h
      · exact Or.inr (Or.inl (List.mem_cons_of_mem _ h))
      · exact Or.inr (Or.inr h)
  | x :: t, i + 2, v, w, h => by
    simp [ez_set] at h
    rcases h with h | h
    · exact Or.inr (Or.inl (by rw [h]; exact List.mem_cons_self))
    · rcases ez_set_mem t (i + 1) v w h with h | h | h
      · exact Or.inl h
      · exact Or.inr (Or.inl (List.mem_cons_of_mem _ h))
      · exact Or.inr (Or.inr h)
theorem ez_set2_mem : ∀ (L : List ez_V) (i : Nat) (v w : ez_V), w ∈ ez_set2 L i v → w = v ∨ w ∈ L ∨ w = ez_N
  | [], i, v, w, h => by simp [ez_set2] at h
  | [x], 0, v, w, h => by
    simp [ez_set2] at h
    exact Or.inr (Or.inr h)
  | x :: y :: t, 0, v, w, h => by
    simp [ez_set2] at h
    rcases h with h | h | h
    · exact Or.inl h
    · exact Or.inr (Or.inr h)
    · exact Or.inr (Or.inl (List.mem_cons_of_mem _ (List.mem_cons_of_mem _ h)))
  | x :: t, 1, v, w, h => by
    simp [ez_set2] at h
    rcases h with h | h
    · rcases x with z | z | o | u
      · exact Or.inr (Or.inl (by rw [h]; exact List.mem_cons_self))
      · exact Or.inr (Or.inr h)
      · exact Or.inr (Or.inl (by rw [h]; exact List.mem_cons_self))
      · exact Or.inr (Or.inl (by rw [h]; exact List.mem_cons_self))
    · rcases ez_set2_mem t 0 v w h with h | h | h
      · exact Or.inl h
      · exact Or.inr (Or.inl (List.mem_cons_of_mem _ h))
      · exact Or.inr (Or.inr h)
  | x :: t, i + 2, v, w, h => by
    simp [ez_set2] at h
    rcases h with h | h
    · exact Or.inr (Or.inl (by rw [h]; exact List.mem_cons_self))
    · rcases ez_set2_mem t (i + 1) v w h with h | h | h
      · exact Or.inl h
      · exact Or.inr (Or.inl (List.mem_cons_of_mem _ h))
      · exact Or.inr (Or.inr h)
def ez_oks (L : List ez_V) : Prop := ∀ v ∈ L, ez_ok v
theorem ez_oks.cons {v : ez_V} {L : List ez_V} (hv : ez_ok v) (h : ez_oks L) : ez_oks (v :: L) := fun w hw => by
  rcases List.mem_cons.mp hw with e | e
  · rw [e]; exact hv
  · exact h w e
theorem ez_oks.head {v : ez_V} {L : List ez_V} (h : ez_oks (v :: L)) : ez_ok v := h v List.mem_cons_self
theorem ez_oks.tail {v : ez_V} {L : List ez_V} (h : ez_oks (v :: L)) : ez_oks L := fun w hw => h w (List.mem_cons_of_mem _ hw)
theorem ez_oks.set {v : ez_V} {L : List ez_V} {i : Nat} (h : ez_oks L) (hv : ez_ok v) : ez_oks (ez_set L i v) := fun w hw => by
  rcases ez_set_mem L i v w hw with e | e | e
  · rw [e]; exact hv
  · exact h w e
  · rw [e]; exact ez_okN
theorem ez_oks.set2 {v : ez_V} {L : List ez_V} {i : Nat} (h : ez_oks L) (hv : ez_ok v) : ez_oks (ez_set2 L i v) := fun w hw => by
  rcases ez_set2_mem L i v w hw with e | e | e
  · rw [e]; exact hv
  · exact h w e
  · rw [e]; exact ez_okN
theorem ez_oks.at {v : ez_V} {L : List ez_V} {i : Nat} (h : ez_oks L) (hi : L[i]? = some v) : ez_ok v := h v (List.mem_of_getElem? hi)
