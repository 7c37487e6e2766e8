/-! more rows: division of what is not below 0, switches, answers that are a function of the heap -/
section
variable {M : ez_M} {pc : Nat} {L st : List ez_V} {h : ez_H} {Q : ez_H → Option ez_V → Prop}
theorem en_div {a b : Int} (ha : 0 ≤ a) (hb : 0 < b) : a.tdiv b = a / b ∧ 0 ≤ a / b ∧ a / b ≤ a ∧ a - a / b * b = a % b ∧ 0 ≤ a % b ∧ a % b < b ∧ 0 ≤ a / b * b ∧ a / b * b ≤ a := by
  have h1 := Int.emod_def a b
  have h2 := Int.emod_nonneg a (show b ≠ 0 by omega)
  have h3 := Int.emod_lt_of_pos a hb
  have h4 := Int.ediv_nonneg ha (Int.le_of_lt hb)
  have h5 := Int.ediv_le_self b ha
  have h6 : b * (a / b) = a / b * b := Int.mul_comm _ _
  have h7 : 0 ≤ a / b * b := Int.mul_nonneg h4 (Int.le_of_lt hb)
  exact ⟨Int.tdiv_eq_ediv_of_nonneg ha, h4, h5, by omega, h2, h3, h7, by omega⟩
theorem ez_idivN {a b : Int} (hd : decode M.2.1 pc = .ok (.idiv, 1)) (ha : 0 ≤ a) (hb : 0 < b) (k : ez_En M (pc + 1) L (ez_I (a / b) :: st) h Q) : ez_En M pc L (ez_I b :: ez_I a :: st) h Q := by
  intro p l e s m args below meth c G base ad C H locs ls R hl hL hs
  have ra : in32 a := hs.tail.head
  obtain ⟨h1, h2, h3, -⟩ := en_div ha hb
  exact ez_idiv hd (by omega) (by rw [h1]; omega) (by rw [h1]; exact k) p l e s m args below meth c G base ad C H locs ls R hl hL hs
theorem ez_ldivN {a b : Int} (hd : decode M.2.1 pc = .ok (.ldiv, 1)) (ha : 0 ≤ a) (hb : 0 < b) (k : ez_En M (pc + 1) L (ez_L (a / b) :: st) h Q) : ez_En M pc L (ez_L b :: ez_L a :: st) h Q := by
  intro p l e s m args below meth c G base ad C H locs ls R hl hL hs
  have ra : in64 a := hs.tail.head
  obtain ⟨h1, h2, h3, -⟩ := en_div ha hb
  exact ez_ldiv hd (by omega) (by rw [h1]; omega) (by rw [h1]; exact k) p l e s m args below meth c G base ad C H locs ls R hl hL hs
theorem ez_iremN {a b : Int} (hd : decode M.2.1 pc = .ok (.irem, 1)) (ha : 0 ≤ a) (hb : 0 < b) (k : ez_En M (pc + 1) L (ez_I (a % b) :: st) h Q) : ez_En M pc L (ez_I b :: ez_I a :: st) h Q := by
  intro p l e s m args below meth c G base ad C H locs ls R hl hL hs
  have ra : in32 a := hs.tail.head
  have rb : in32 b := hs.head
  obtain ⟨h1, h2, h3, h4, h5, h6, h7, h8⟩ := en_div ha hb
  exact ez_irem hd (by omega) (by rw [h1]; omega) (by rw [h1]; omega) (by rw [h1, h4]; omega) (by rw [h1, h4]; exact k) p l e s m args below meth c G base ad C H locs ls R hl hL hs
theorem ez_lremN {a b : Int} (hd : decode M.2.1 pc = .ok (.lrem, 1)) (ha : 0 ≤ a) (hb : 0 < b) (k : ez_En M (pc + 1) L (ez_L (a % b) :: st) h Q) : ez_En M pc L (ez_L b :: ez_L a :: st) h Q := by
  intro p l e s m args below meth c G base ad C H locs ls R hl hL hs
  have ra : in64 a := hs.tail.head
  have rb : in64 b := hs.head
  obtain ⟨h1, h2, h3, h4, h5, h6, h7, h8⟩ := en_div ha hb
  exact ez_lrem hd (by omega) (by rw [h1]; omega) (by rw [h1]; omega) (by rw [h1, h4]; omega) (by rw [h1, h4]; exact k) p l e s m args below meth c G base ad C H locs ls R hl hL hs
theorem ez_ts3 {d a o0 o1 o2 : Int} {len : Nat} (t0 t1 t2 td : Nat) (hd : decode M.2.1 pc = .ok (.tableswitch d 0 2 #[o0, o1, o2], len)) (ht : (pc : Int) + o0 = (t0 : Int) ∧ (pc : Int) + o1 = (t1 : Int) ∧ (pc : Int) + o2 = (t2 : Int) ∧ (pc : Int) + d = (td : Int)) (k0 : a = 0 → ez_En M t0 L st h Q) (k1 : a = 1 → ez_En M t1 L st h Q) (k2 : a = 2 → ez_En M t2 L st h Q) (kd : ¬ (0 ≤ a ∧ a ≤ 2) → ez_En M td L st h Q) : ez_En M pc L (ez_I a :: st) h Q := by
  obtain ⟨g0, g1, g2, g⟩ := ht
  by_cases q : 0 ≤ a ∧ a ≤ 2
  · rcases (show a = 0 ∨ a = 1 ∨ a = 2 by omega) with q0 | q1 | q2
    · subst q0
      exact ez_tin t0 hd (by decide) (by decide) rfl g0 (k0 rfl)
    · subst q1
      exact ez_tin t1 hd (by decide) (by decide) rfl g1 (k1 rfl)
    · subst q2
      exact ez_tin t2 hd (by decide) (by decide) rfl g2 (k2 rfl)
  · exact ez_tout td hd (by omega) g (kd q)
theorem ez_ts6 {d a o0 o1 o2 o3 o4 o5 : Int} {len : Nat} (t0 t1 t2 t3 t4 t5 td : Nat) (hd : decode M.2.1 pc = .ok (.tableswitch d 0 5 #[o0, o1, o2, o3, o4, o5], len)) (ht : (pc : Int) + o0 = (t0 : Int) ∧ (pc : Int) + o1 = (t1 : Int) ∧ (pc : Int) + o2 = (t2 : Int) ∧ (pc : Int) + o3 = (t3 : Int) ∧ (pc : Int) + o4 = (t4 : Int) ∧ (pc : Int) + o5 = (t5 : Int) ∧ (pc : Int) + d = (td : Int)) (k0 : a = 0 → ez_En M t0 L st h Q) (k1 : a = 1 → ez_En M t1 L st h Q) (k2 : a = 2 → ez_En M t2 L st h Q) (k3 : a = 3 → ez_En M t3 L st h Q) (k4 : a = 4 → ez_En M t4 L st h Q) (k5 : a = 5 → ez_En M t5 L st h Q) (kd : ¬ (0 ≤ a ∧ a ≤ 5) → ez_En M td L st h Q) : ez_En M pc L (ez_I a :: st) h Q := by
  obtain ⟨g0, g1, g2, g3, g4, g5, g⟩ := ht
  by_cases q : 0 ≤ a ∧ a ≤ 5
  · rcases (show a = 0 ∨ a = 1 ∨ a = 2 ∨ a = 3 ∨ a = 4 ∨ a = 5 by omega) with q0 | q1 | q2 | q3 | q4 | q5
    · subst q0
      exact ez_tin t0 hd (by decide) (by decide) rfl g0 (k0 rfl)
    · subst q1
      exact ez_tin t1 hd (by decide) (by decide) rfl g1 (k1 rfl)
    · subst q2
      exact ez_tin t2 hd (by decide) (by decide) rfl g2 (k2 rfl)
    · subst q3
      exact ez_tin t3 hd (by decide) (by decide) rfl g3 (k3 rfl)
    · subst q4
      exact ez_tin t4 hd (by decide) (by decide) rfl g4 (k4 rfl)
    · subst q5
      exact ez_tin t5 hd (by decide) (by decide) rfl g5 (k5 rfl)
  · exact ez_tout td hd (by omega) g (kd q)
end
def ez_F (h : ez_H) (z : Int) : ez_H → Option ez_V → Prop := fun h' r => h' = h ∧ r = some (ez_I z)
theorem ez_kF {M : ez_M} {pc : Nat} {L st : List ez_V} {h : ez_H} {Q : ez_H → Option ez_V → Prop} {z : Int} (k : ez_En M pc L (ez_I z :: st) h Q) : ∀ h' r, ez_F h z h' r → ez_En M pc L (r.toList ++ st) h' Q := fun h' r hr => by
  obtain ⟨rfl, rfl⟩ := hr
  exact k
theorem ez_F.in {h : ez_H} {z z' : Int} (e : z' = z) : ez_F h z h (some (ez_I z')) := ⟨rfl, by rw [e]⟩
def ez_B (h : ez_H) (P : Prop) : ez_H → Option ez_V → Prop := fun h' r => h' = h ∧ ((P ∧ r = some (ez_I 1)) ∨ (¬ P ∧ r = some (ez_I 0)))
theorem ez_kB {M : ez_M} {pc : Nat} {L st : List ez_V} {h : ez_H} {Q : ez_H → Option ez_V → Prop} {P : Prop} (k1 : P → ez_En M pc L (ez_I 1 :: st) h Q) (k0 : ¬ P → ez_En M pc L (ez_I 0 :: st) h Q) : ∀ h' r, ez_B h P h' r → ez_En M pc L (r.toList ++ st) h' Q := fun h' r hr => by
  obtain ⟨rfl, hr⟩ := hr
  rcases hr with ⟨hp, rfl⟩ | ⟨hp, rfl⟩
  · exact k1 hp
  · exact k0 hp
theorem ez_B.t {h : ez_H} {P : Prop} (hp : P) : ez_B h P h (some (ez_I 1)) := ⟨rfl, Or.inl ⟨hp, rfl⟩⟩
theorem ez_B.f {h : ez_H} {P : Prop} (hp : ¬ P) : ez_B h P h (some (ez_I 0)) := ⟨rfl, Or.inr ⟨hp, rfl⟩⟩
/-- the end of a method that answers nothing and leaves the heap h1 -/
def ez_S (h1 : ez_H) : ez_H → Option ez_V → Prop := fun h' r => h' = h1 ∧ r = none
theorem ez_kS {M : ez_M} {pc : Nat} {L st : List ez_V} {h1 : ez_H} {Q : ez_H → Option ez_V → Prop} (k : ez_En M pc L st h1 Q) : ∀ h' r, ez_S h1 h' r → ez_En M pc L (r.toList ++ st) h' Q := fun h' r hr => by
  obtain ⟨rfl, rfl⟩ := hr
  exact k
theorem ez_S.in {h h1 : ez_H} (e : h = h1) : ez_S h1 h none := ⟨e, rfl⟩
theorem ez_up_eq {h : ez_H} {o k v : Int} : ez_up h o k v o k = v := if_pos ⟨rfl, rfl⟩
theorem ez_up_ne {h : ez_H} {o k v o' k' : Int} (hn : ¬ (o' = o ∧ k' = k)) : ez_up h o k v o' k' = h o' k' := if_neg hn
