/-! shifts and masks of numbers that are not below 0 -/
theorem eb_sl : ∀ n, n < 32 → ((nI n &&& 31).toBitVec.smod 32).toNat = n := by decide
theorem eb_nI {n : Nat} (h : n < 2147483648) : nI n = Int32.ofInt n := e3_eq (by unfold in32; omega) (nI_toInt (by omega))
theorem eb_or (a b : Nat) (ha : a < 2 ^ 31) (hb : b < 2 ^ 31) : nI a ||| nI b = nI (a ||| b) := by
  apply Int32.toBitVec_inj.mp
  apply BitVec.eq_of_toNat_eq
  have h3 : a ||| b < 2 ^ 32 := Nat.or_lt_two_pow (by omega) (by omega)
  rw [Int32.toBitVec_or, BitVec.toNat_or, pk_tn (by omega), pk_tn (by omega), pk_tn h3]
theorem eb_in {n : Nat} (h : n < 2147483648) : in32 (n : Int) := by unfold in32; omega
section
variable {M : ez_M} {pc : Nat} {L st : List ez_V} {h : ez_H} {Q : ez_H → Option ez_V → Prop}
theorem ez_ishl (a b : Nat) {x y : Int} (hx : x = (a : Int)) (hy : y = (b : Int)) (hb : b < 31) (hr : a * 2 ^ b < 2147483648) (hd : decode M.2.1 pc = .ok (.ishl, 1)) (k : ez_En M (pc + 1) L (ez_I ((a * 2 ^ b : Nat) : Int) :: st) h Q) : ez_En M pc L (ez_I y :: ez_I x :: st) h Q := by
  subst hx; subst hy
  intro p l e s m args below meth c G base ad C H locs ls R hl hL hs
  have ha : a < 2147483648 := Nat.lt_of_le_of_lt (Nat.le_mul_of_pos_right a (Nat.two_pow_pos b)) hr
  have k1 := k p l e s m args below meth c G base ad C H locs ls R hl hL (hs.tail.tail.cons (eb_in hr))
  refine lv_ishl C.1 C.2.1 hd ?_
  rw [← eb_nI ha, ← eb_nI (show b < 2147483648 by omega), pk_shlN (nI b &&& 31) b (eb_sl b (by omega)) (by omega), eb_nI hr]
  exact k1
theorem ez_ishr (a b : Nat) {x y : Int} (hx : x = (a : Int)) (hy : y = (b : Int)) (hb : b < 31) (ha : a < 2147483648) (hd : decode M.2.1 pc = .ok (.ishr, 1)) (k : ez_En M (pc + 1) L (ez_I ((a / 2 ^ b : Nat) : Int) :: st) h Q) : ez_En M pc L (ez_I y :: ez_I x :: st) h Q := by
  subst hx; subst hy
  intro p l e s m args below meth c G base ad C H locs ls R hl hL hs
  have hr : a / 2 ^ b < 2147483648 := Nat.lt_of_le_of_lt (Nat.div_le_self _ _) ha
  have k1 := k p l e s m args below meth c G base ad C H locs ls R hl hL (hs.tail.tail.cons (eb_in hr))
  refine lv_ishr C.1 C.2.1 hd ?_
  rw [← eb_nI ha, ← eb_nI (show b < 2147483648 by omega), pk_shrN (by omega) (nI b &&& 31) b (eb_sl b (by omega)), eb_nI hr]
  exact k1
theorem ez_iand1 (a : Nat) {x : Int} (hx : x = (a : Int)) (ha : a < 2147483648) (hd : decode M.2.1 pc = .ok (.iand, 1)) (k : ez_En M (pc + 1) L (ez_I ((a % 2 : Nat) : Int) :: st) h Q) : ez_En M pc L (ez_I 1 :: ez_I x :: st) h Q := by
  subst hx
  intro p l e s m args below meth c G base ad C H locs ls R hl hL hs
  have hr : a % 2 < 2147483648 := by omega
  have k1 := k p l e s m args below meth c G base ad C H locs ls R hl hL (hs.tail.tail.cons (eb_in hr))
  refine lv_iand C.1 C.2.1 hd ?_
  rw [← eb_nI ha, pk_andN (by omega) 1 (show (Int32.ofInt 1).toBitVec.toNat = 2 ^ 1 - 1 by decide), show (2 : Nat) ^ 1 = 2 by decide, eb_nI hr]
  exact k1
theorem ez_ior (a b : Nat) {x y : Int} (hx : x = (a : Int)) (hy : y = (b : Int)) (ha : a < 2147483648) (hb : b < 2147483648) (hd : decode M.2.1 pc = .ok (.ior, 1)) (k : ez_En M (pc + 1) L (ez_I ((a ||| b : Nat) : Int) :: st) h Q) : ez_En M pc L (ez_I y :: ez_I x :: st) h Q := by
  subst hx; subst hy
  intro p l e s m args below meth c G base ad C H locs ls R hl hL hs
  have hr : a ||| b < 2147483648 := Nat.or_lt_two_pow (n := 31) (by omega) (by omega)
  have k1 := k p l e s m args below meth c G base ad C H locs ls R hl hL (hs.tail.tail.cons (eb_in hr))
  refine lv_ior C.1 C.2.1 hd ?_
  rw [← eb_nI ha, ← eb_nI hb, eb_or a b (by omega) (by omega), eb_nI hr]
  exact k1
theorem ez_ixor {x y : Int} (hd : decode M.2.1 pc = .ok (.ixor, 1)) (k : ∀ z : Int, (z < 0 ↔ ¬ (x < 0 ↔ y < 0)) → ez_En M (pc + 1) L (ez_I z :: st) h Q) : ez_En M pc L (ez_I y :: ez_I x :: st) h Q := by
  intro p l e s m args below meth c G base ad C H locs ls R hl hL hs
  have hx : in32 x := hs.tail.head
  have hy : in32 y := hs.head
  have hz : in32 (Int32.ofInt x ^^^ Int32.ofInt y).toInt := ⟨by have := Int32.le_toInt (Int32.ofInt x ^^^ Int32.ofInt y); omega, by have := Int32.toInt_lt (Int32.ofInt x ^^^ Int32.ofInt y); omega⟩
  have e1 : ∀ w : Int32, w.toInt < 0 ↔ w.toBitVec.msb = true := fun w => by
    rw [BitVec.msb_eq_toInt]
    exact (decide_eq_true_iff (p := w.toBitVec.toInt < 0)).symm
  have k1 := k (Int32.ofInt x ^^^ Int32.ofInt y).toInt (by
    have ex := e3_toInt hx
    have ey := e3_toInt hy
    have h1 := e1 (Int32.ofInt x)
    have h2 := e1 (Int32.ofInt y)
    rw [ex] at h1
    rw [ey] at h2
    rw [e1, Int32.toBitVec_xor, BitVec.msb_xor, h1, h2]
    cases (Int32.ofInt x).toBitVec.msb <;> cases (Int32.ofInt y).toBitVec.msb <;> simp) p l e s m args below meth c G base ad C H locs ls R hl hL (hs.tail.tail.cons hz)
  refine lv_ixor C.1 C.2.1 hd ?_
  rw [e3_eq hz rfl]
  exact k1
end
