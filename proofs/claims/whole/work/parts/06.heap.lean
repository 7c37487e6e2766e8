/-! rows that read and write the heap -/
theorem ez_cel_ob {G : ez_G} {ad : Nat → Nat} {h : ez_H} {o ci : Nat} (hkd : ez_kd o = ci) (hci : ci < 7) : ez_cel G ad h o = .inr (ci, (List.range (ez_nf ci)).map (ez_fv ad h ci o)) := by
  unfold ez_cel
  rw [hkd, if_pos hci]
theorem ez_cel_I {G : ez_G} {ad : Nat → Nat} {h : ez_H} {o : Nat} (hkd : ez_kd o = 7) : ez_cel G ad h o = .inl (G.2 0, (ez_len o).toNat, .inl (fun j => Int32.ofInt (h o j))) := by
  unfold ez_cel
  rw [hkd]
  rfl
theorem ez_cel_J {G : ez_G} {ad : Nat → Nat} {h : ez_H} {o : Nat} (hkd : ez_kd o = 8) : ez_cel G ad h o = .inl (G.2 1, (ez_len o).toNat, .inr (.inl (fun j => Int64.ofInt (h o j)))) := by
  unfold ez_cel
  rw [hkd]
  rfl
theorem ez_cel_Z {G : ez_G} {ad : Nat → Nat} {h : ez_H} {o : Nat} (hkd : ez_kd o = 9) : ez_cel G ad h o = .inl (G.2 2, (ez_len o).toNat, .inl (fun j => Int32.ofInt (h o j))) := by
  unfold ez_cel
  rw [hkd]
  rfl
theorem ez_cel_A {G : ez_G} {ad : Nat → Nat} {h : ez_H} {o : Nat} (hkd : ez_kd o = 10) : ez_cel G ad h o = .inl (G.2 3, 25, .inr (.inr (.inr (.inr (fun j => some (ad (18 + 3 * j))))))) := by
  unfold ez_cel
  rw [hkd]
  rfl
theorem ez_cel_B {G : ez_G} {ad : Nat → Nat} {h : ez_H} {o : Nat} (hkd : ez_kd o = 11) : ez_cel G ad h o = .inl (G.2 4, 5, .inr (.inr (.inr (.inr (fun j => some (ad (2 + 3 * j))))))) := by
  unfold ez_cel
  rw [hkd]
  rfl
theorem ez_fv_at {ad : Nat → Nat} {h : ez_H} {ci o k N : Nat} (hk : k < N) : ((List.range N).map (ez_fv ad h ci o))[k]? = some (ez_fv ad h ci o k) := by
  rw [List.getElem?_map, List.getElem?_range hk]
  rfl
theorem ez_fv_set {ad : Nat → Nat} {h : ez_H} {ci o k N : Nat} {v : Int} (hr : ez_rf ci o k = none) : (List.range N).map (ez_fv ad (ez_up h o k v) ci o) = ((List.range N).map (ez_fv ad h ci o)).set k (.int (Int32.ofInt v)) := by
  refine List.ext_getElem? fun j => ?_
  by_cases hj : j < N
  · rw [ez_fv_at hj]
    by_cases hjk : k = j
    · subst hjk
      rw [List.getElem?_set_self (by simp; omega)]
      unfold ez_fv
      rw [hr]
      simp [ez_up]
    · rw [List.getElem?_set_ne hjk, ez_fv_at hj]
      unfold ez_fv
      cases ez_rf ci o j with
      | some r => rfl
      | none =>
        have : ez_up h o k v o j = h o j := by
          unfold ez_up
          rw [if_neg (by omega)]
        simp only [this]
  · rw [List.getElem?_eq_none (by simp; omega), List.getElem?_eq_none (by simp; omega)]
section
variable {M : ez_M} {pc : Nat} {L st : List ez_V} {h : ez_H} {Q : ez_H → Option ez_V → Prop}
/-- a field that is a number is read -/
theorem ez_getI {o : Int} (ci k : Nat) {idx : Nat} {C : String} {T : u_T} {N : Nat} (hc : vwCl[ci]? = some (C, T, N)) (hN : ez_nf ci = N) (hci : ci < 7) (hin : ∀ w ∈ u_ws C T N, w ∈ lw_tg) (hk : k < N) (hlink : Cond.fieldLink M.1.cls idx (T k).1 (T k).2.1 (T k).2.2.1 ∈ lw_tg) (ho : 0 ≤ o ∧ o < 133) (hkd : ez_kd o = ci) (hnr : ez_rf ci o.toNat k = none) (h8 : ci ≠ 8)
    (hd : decode M.2.1 pc = .ok (.getfield idx, 3)) (kk : ez_En M (pc + 3) L (ez_I (h o k) :: st) h Q) : ez_En M pc L (ez_R o :: st) h Q := by
  obtain ⟨n, rfl⟩ := Int.eq_ofNat_of_zero_le ho.1
  have hn : n < 133 := by omega
  intro p l e s m args below meth c G base ad C0 H locs ls R hl hL hs
  have he := ez_ws_at G ad h hn
  rw [ez_cel_ob hkd hci, hN] at he
  refine va_get (D := G.1) (ci := ci) (v := .int (Int32.ofInt (h n k))) C0.1 C0.2.1 C0.2.2.2.2.2.1 hin C0.2.2.2.2.1 C0.2.2.2.2.2.2.2.1 R.1 n he hc k hk (C0.2.2.2.2.2.1 _ hlink) (fun _ h9 => h9) ?_ hd
    (kk p l e s m args below meth c G base ad C0 H locs ls R hl hL (hs.tail.cons ((R.2.2.2 n k).2 (by rw [hkd]; exact h8))))
  rw [ez_fv_at hk]
  unfold ez_fv
  rw [show ez_rf ci n k = none from hnr]
/-- a field that is a reference is read -/
theorem ez_getR {o : Int} (ci k r : Nat) {idx : Nat} {C : String} {T : u_T} {N : Nat} (hc : vwCl[ci]? = some (C, T, N)) (hN : ez_nf ci = N) (hci : ci < 7) (hin : ∀ w ∈ u_ws C T N, w ∈ lw_tg) (hk : k < N) (hlink : Cond.fieldLink M.1.cls idx (T k).1 (T k).2.1 (T k).2.2.1 ∈ lw_tg) (ho : 0 ≤ o ∧ o < 133) (hkd : ez_kd o = ci) (hnr : ez_rf ci o.toNat k = some r)
    (hd : decode M.2.1 pc = .ok (.getfield idx, 3)) (kk : ez_En M (pc + 3) L (ez_R (r : Nat) :: st) h Q) : ez_En M pc L (ez_R o :: st) h Q := by
  obtain ⟨n, rfl⟩ := Int.eq_ofNat_of_zero_le ho.1
  have hn : n < 133 := by omega
  intro p l e s m args below meth c G base ad C0 H locs ls R hl hL hs
  have he := ez_ws_at G ad h hn
  rw [ez_cel_ob hkd hci, hN] at he
  refine va_get (D := G.1) (ci := ci) (v := .ref (ad r)) C0.1 C0.2.1 C0.2.2.2.2.2.1 hin C0.2.2.2.2.1 C0.2.2.2.2.2.2.2.1 R.1 n he hc k hk (C0.2.2.2.2.2.1 _ hlink) (fun _ h9 => h9) ?_ hd
    (kk p l e s m args below meth c G base ad C0 H locs ls R hl hL (hs.tail.cons (ez_okR _)))
  rw [ez_fv_at hk]
  unfold ez_fv
  rw [show ez_rf ci n k = some r from hnr]
/-- a field that is a number is written -/
theorem ez_putG {o v : Int} (ci k : Nat) {idx : Nat} {C : String} {T : u_T} {N : Nat} (ty0 : Nat → FieldType) (hty : ∀ k, k < N → parseFieldDescriptor (T k).2.2.1 = some (ty0 k)) (hnm : ∀ a, a < N → ∀ b, b < N → a ≠ b → (T a).2.1 ≠ (T b).2.1) (hc : vwCl[ci]? = some (C, T, N)) (hN : ez_nf ci = N) (hci : ci < 7) (hin : ∀ w ∈ u_ws C T N, w ∈ lw_tg) (hk : k < N) (hlink : Cond.fieldLink M.1.cls idx (T k).1 (T k).2.1 (T k).2.2.1 ∈ lw_tg) (hfin : (T k).2.2.2 = false) (ho : 0 ≤ o ∧ o < 133) (hkd : ez_kd o = ci) (hnr : ez_rf ci o.toNat k = none)
    (hn1 : narrow (ty0 k) (.int (Int32.ofInt v)) = .int (Int32.ofInt v)) (hfit : fits (ty0 k) (.int (Int32.ofInt v)) = true)
    (hd : decode M.2.1 pc = .ok (.putfield idx, 3)) (kk : ez_En M (pc + 3) L st (ez_up h o k v) Q) : ez_En M pc L (ez_I v :: ez_R o :: st) h Q := by
  obtain ⟨n, rfl⟩ := Int.eq_ofNat_of_zero_le ho.1
  have hn : n < 133 := by omega
  intro p l e s m args below meth c G base ad C0 H locs ls R hl hL hs
  have he := ez_ws_at G ad h hn
  rw [ez_cel_ob hkd hci, hN] at he
  refine va_put (D := G.1) (ci := ci) (v := .int (Int32.ofInt v)) (ty := ty0 k) C0.1 C0.2.1 C0.2.2.2.2.2.1 hin ty0 hty hnm C0.2.2.2.2.1 C0.2.2.2.2.2.2.2.1 R.1 R.2.1 R.2.2.1 n he hc k hk (C0.2.2.2.2.2.1 _ hlink) (fun _ h9 => h9) hfin (hty k hk) hn1 hfit (by simp; omega) hd (fun H1 locs1 hP1 hD1 hS1 => ?_)
  have hv : in32 v := hs.head
  have e1 := ez_ws_set G ad h n k v hn _ (show ez_cel G ad (ez_up h n k v) n = .inr (ci, ((List.range N).map (ez_fv ad h ci n)).set k (.int (Int32.ofInt v))) from by rw [ez_cel_ob hkd hci, hN, ez_fv_set (by exact hnr)])
  rw [e1] at hP1 hD1
  exact kk p l e s m args below meth c G base ad C0 H1 locs1 ls ⟨hP1, hD1, hS1, R.2.2.2.up (e3_64 hv) (fun _ => hv)⟩ hl hL hs.tail.tail
theorem ez_iaload {o i : Int} (hd : decode M.2.1 pc = .ok (.iaload, 1)) (ho : 0 ≤ o ∧ o < 133) (hk : ez_kd o = 7) (hi : 0 ≤ i ∧ i < ez_len o) (kk : ez_En M (pc + 1) L (ez_I (h o i) :: st) h Q) : ez_En M pc L (ez_I i :: ez_R o :: st) h Q := by
  obtain ⟨n, rfl⟩ := Int.eq_ofNat_of_zero_le ho.1
  have hn : n < 133 := by omega
  intro p l e s m args below meth c G base ad C0 H locs ls R hl hL hs
  have he := ez_ws_at G ad h hn
  rw [ez_cel_I hk] at he
  have hv : in32 i := hs.head
  refine va_iald C0.1 C0.2.1 C0.2.2.2.2.2.2.2.1 R.1 n 0 he rfl (e3_in hv hi.1 (by omega)) hd ?_
  have k1 := kk p l e s m args below meth c G base ad C0 H locs ls R hl hL (hs.tail.tail.cons ((R.2.2.2 n i).2 (by rw [hk]; decide)))
  rw [e3_clamp hv hi.1, Int.toNat_of_nonneg hi.1]
  exact k1
theorem ez_laload {o i : Int} (hd : decode M.2.1 pc = .ok (.laload, 1)) (ho : 0 ≤ o ∧ o < 133) (hk : ez_kd o = 8) (hi : 0 ≤ i ∧ i < ez_len o) (kk : ez_En M (pc + 1) L (ez_L (h o i) :: st) h Q) : ez_En M pc L (ez_I i :: ez_R o :: st) h Q := by
  obtain ⟨n, rfl⟩ := Int.eq_ofNat_of_zero_le ho.1
  have hn : n < 133 := by omega
  intro p l e s m args below meth c G base ad C0 H locs ls R hl hL hs
  have he := ez_ws_at G ad h hn
  rw [ez_cel_J hk] at he
  have hv : in32 i := hs.head
  refine va_lald C0.1 C0.2.1 C0.2.2.2.2.2.2.2.1 R.1 n 1 he rfl (e3_in hv hi.1 (by omega)) hd ?_
  have k1 := kk p l e s m args below meth c G base ad C0 H locs ls R hl hL (hs.tail.tail.cons ((R.2.2.2 n i).1))
  rw [e3_clamp hv hi.1, Int.toNat_of_nonneg hi.1]
  exact k1
theorem ez_baload {o i : Int} (hd : decode M.2.1 pc = .ok (.baload, 1)) (ho : 0 ≤ o ∧ o < 133) (hk : ez_kd o = 9) (hi : 0 ≤ i ∧ i < ez_len o) (kk : ez_En M (pc + 1) L (ez_I (h o i) :: st) h Q) : ez_En M pc L (ez_I i :: ez_R o :: st) h Q := by
  obtain ⟨n, rfl⟩ := Int.eq_ofNat_of_zero_le ho.1
  have hn : n < 133 := by omega
  intro p l e s m args below meth c G base ad C0 H locs ls R hl hL hs
  have he := ez_ws_at G ad h hn
  rw [ez_cel_Z hk] at he
  have hv : in32 i := hs.head
  refine va_zald C0.1 C0.2.1 C0.2.2.2.2.2.2.2.1 R.1 n 2 he rfl (e3_in hv hi.1 (by omega)) hd ?_
  have k1 := kk p l e s m args below meth c G base ad C0 H locs ls R hl hL (hs.tail.tail.cons ((R.2.2.2 n i).2 (by rw [hk]; decide)))
  rw [e3_clamp hv hi.1, Int.toNat_of_nonneg hi.1]
  exact k1
theorem ez_aaloadP {i : Int} (hd : decode M.2.1 pc = .ok (.aaload, 1)) (hi : 0 ≤ i ∧ i < 5) (kk : ez_En M (pc + 1) L (ez_R (2 + 3 * i) :: st) h Q) : ez_En M pc L (ez_I i :: ez_R 1 :: st) h Q := by
  intro p l e s m args below meth c G base ad C0 H locs ls R hl hL hs
  have he := ez_ws_at G ad h (o := 1) (by decide)
  rw [ez_cel_B (by decide)] at he
  have hv : in32 i := hs.head
  refine va_aldq C0.1 C0.2.1 C0.2.2.2.2.2.2.2.1 R.1 1 4 he rfl (e3_in hv hi.1 (by omega)) hd ?_
  have k1 := kk p l e s m args below meth c G base ad C0 H locs ls R hl hL (hs.tail.tail.cons (ez_okR _))
  rw [e3_clamp hv hi.1]
  have e2 : (2 + 3 * i).toNat = 2 + 3 * i.toNat := by omega
  have e3 : ez_rv ad (ez_R (2 + 3 * i)) = va_rf (some (ad (2 + 3 * i.toNat))) := by rw [← e2]; rfl
  rw [← e3]
  exact k1
theorem ez_aaloadL {i : Int} (hd : decode M.2.1 pc = .ok (.aaload, 1)) (hi : 0 ≤ i ∧ i < 25) (kk : ez_En M (pc + 1) L (ez_R (18 + 3 * i) :: st) h Q) : ez_En M pc L (ez_I i :: ez_R 17 :: st) h Q := by
  intro p l e s m args below meth c G base ad C0 H locs ls R hl hL hs
  have he := ez_ws_at G ad h (o := 17) (by decide)
  rw [ez_cel_A (by decide)] at he
  have hv : in32 i := hs.head
  refine va_aldq C0.1 C0.2.1 C0.2.2.2.2.2.2.2.1 R.1 17 3 he rfl (e3_in hv hi.1 (by omega)) hd ?_
  have k1 := kk p l e s m args below meth c G base ad C0 H locs ls R hl hL (hs.tail.tail.cons (ez_okR _))
  rw [e3_clamp hv hi.1]
  have e2 : (18 + 3 * i).toNat = 18 + 3 * i.toNat := by omega
  have e3 : ez_rv ad (ez_R (18 + 3 * i)) = va_rf (some (ad (18 + 3 * i.toNat))) := by rw [← e2]; rfl
  rw [← e3]
  exact k1
theorem ez_iastore {o i v : Int} (hd : decode M.2.1 pc = .ok (.iastore, 1)) (ho : 0 ≤ o ∧ o < 133) (hk : ez_kd o = 7) (hi : 0 ≤ i ∧ i < ez_len o) (kk : ez_En M (pc + 1) L st (ez_up h o i v) Q) : ez_En M pc L (ez_I v :: ez_I i :: ez_R o :: st) h Q := by
  obtain ⟨n, rfl⟩ := Int.eq_ofNat_of_zero_le ho.1
  have hn : n < 133 := by omega
  intro p l e s m args below meth c G base ad C0 H locs ls R hl hL hs
  have he := ez_ws_at G ad h hn
  rw [ez_cel_I hk] at he
  have hv : in32 v := hs.head
  have hi2 : in32 i := hs.tail.head
  refine va_iast C0.1 C0.2.1 C0.2.2.2.2.2.2.2.1 R.1 R.2.1 R.2.2.1 n 0 he rfl (e3_in hi2 hi.1 (by omega)) hd (fun H1 locs1 hP1 hD1 hS1 => ?_)
  rw [e3_clamp hi2 hi.1] at hP1 hD1
  have e0 : (fun j : Nat => Int32.ofInt (ez_up h n i v n j)) = upd (fun j : Nat => Int32.ofInt (h n j)) i.toNat (Int32.ofInt v) := by
    funext j
    unfold upd ez_up
    by_cases hj : j = i.toNat
    · rw [if_pos hj, if_pos (by omega)]
    · rw [if_neg hj, if_neg (by omega)]
  have e1 := ez_ws_set G ad h n i v hn _ (show ez_cel G ad (ez_up h n i v) n = .inl (G.2 0, (ez_len n).toNat, .inl (upd (fun j : Nat => Int32.ofInt (h n j)) i.toNat (Int32.ofInt v))) from by rw [ez_cel_I hk, e0])
  rw [e1] at hP1 hD1
  exact kk p l e s m args below meth c G base ad C0 H1 locs1 ls ⟨hP1, hD1, hS1, R.2.2.2.up (e3_64 hv) (fun _ => hv)⟩ hl hL hs.tail.tail.tail
theorem ez_lastore {o i v : Int} (hd : decode M.2.1 pc = .ok (.lastore, 1)) (ho : 0 ≤ o ∧ o < 133) (hk : ez_kd o = 8) (hi : 0 ≤ i ∧ i < ez_len o) (kk : ez_En M (pc + 1) L st (ez_up h o i v) Q) : ez_En M pc L (ez_L v :: ez_I i :: ez_R o :: st) h Q := by
  obtain ⟨n, rfl⟩ := Int.eq_ofNat_of_zero_le ho.1
  have hn : n < 133 := by omega
  intro p l e s m args below meth c G base ad C0 H locs ls R hl hL hs
  have he := ez_ws_at G ad h hn
  rw [ez_cel_J hk] at he
  have hv : in64 v := hs.head
  have hi2 : in32 i := hs.tail.head
  refine va_last C0.1 C0.2.1 C0.2.2.2.2.2.2.2.1 R.1 R.2.1 R.2.2.1 n 1 he rfl (e3_in hi2 hi.1 (by omega)) hd (fun H1 locs1 hP1 hD1 hS1 => ?_)
  rw [e3_clamp hi2 hi.1] at hP1 hD1
  have e0 : (fun j : Nat => Int64.ofInt (ez_up h n i v n j)) = vp_updL (fun j : Nat => Int64.ofInt (h n j)) i.toNat (Int64.ofInt v) := by
    funext j
    unfold vp_updL ez_up
    by_cases hj : j = i.toNat
    · rw [if_pos hj, if_pos (by omega)]
    · rw [if_neg hj, if_neg (by omega)]
  have e1 := ez_ws_set G ad h n i v hn _ (show ez_cel G ad (ez_up h n i v) n = .inl (G.2 1, (ez_len n).toNat, .inr (.inl (vp_updL (fun j : Nat => Int64.ofInt (h n j)) i.toNat (Int64.ofInt v)))) from by rw [ez_cel_J hk, e0])
  rw [e1] at hP1 hD1
  exact kk p l e s m args below meth c G base ad C0 H1 locs1 ls ⟨hP1, hD1, hS1, R.2.2.2.up hv (fun q => absurd hk q)⟩ hl hL hs.tail.tail.tail
theorem ez_bastore {o i v : Int} (hd : decode M.2.1 pc = .ok (.bastore, 1)) (ho : 0 ≤ o ∧ o < 133) (hk : ez_kd o = 9) (hi : 0 ≤ i ∧ i < ez_len o) (hz : v = 0 ∨ v = 1) (kk : ez_En M (pc + 1) L st (ez_up h o i v) Q) : ez_En M pc L (ez_I v :: ez_I i :: ez_R o :: st) h Q := by
  obtain ⟨n, rfl⟩ := Int.eq_ofNat_of_zero_le ho.1
  have hn : n < 133 := by omega
  intro p l e s m args below meth c G base ad C0 H locs ls R hl hL hs
  have he := ez_ws_at G ad h hn
  rw [ez_cel_Z hk] at he
  have hv : in32 v := hs.head
  have hi2 : in32 i := hs.tail.head
  refine va_zast C0.1 C0.2.1 C0.2.2.2.2.2.2.2.1 R.1 R.2.1 R.2.2.1 n 2 he rfl (e3_in hi2 hi.1 (by omega)) hd (fun H1 locs1 hP1 hD1 hS1 => ?_)
  rw [e3_clamp hi2 hi.1, show vp_nar .boolean (Int32.ofInt v) = Int32.ofInt v from by rcases hz with rfl | rfl <;> rfl] at hP1 hD1
  have e0 : (fun j : Nat => Int32.ofInt (ez_up h n i v n j)) = upd (fun j : Nat => Int32.ofInt (h n j)) i.toNat (Int32.ofInt v) := by
    funext j
    unfold upd ez_up
    by_cases hj : j = i.toNat
    · rw [if_pos hj, if_pos (by omega)]
    · rw [if_neg hj, if_neg (by omega)]
  have e1 := ez_ws_set G ad h n i v hn _ (show ez_cel G ad (ez_up h n i v) n = .inl (G.2 2, (ez_len n).toNat, .inl (upd (fun j : Nat => Int32.ofInt (h n j)) i.toNat (Int32.ofInt v))) from by rw [ez_cel_Z hk, e0])
  rw [e1] at hP1 hD1
  exact kk p l e s m args below meth c G base ad C0 H1 locs1 ls ⟨hP1, hD1, hS1, R.2.2.2.up (e3_64 hv) (fun _ => hv)⟩ hl hL hs.tail.tail.tail
theorem ez_alenI {o : Int} (hd : decode M.2.1 pc = .ok (.arraylength, 1)) (ho : 0 ≤ o ∧ o < 133) (hk : ez_kd o = 7) (hr : 0 ≤ ez_len o ∧ ez_len o < 3000) (kk : ez_En M (pc + 1) L (ez_I (ez_len o) :: st) h Q) : ez_En M pc L (ez_R o :: st) h Q := by
  obtain ⟨n, rfl⟩ := Int.eq_ofNat_of_zero_le ho.1
  have hn : n < 133 := by omega
  intro p l e s m args below meth c G base ad C0 H locs ls R hl hL hs
  have he := ez_ws_at G ad h hn
  rw [ez_cel_I hk] at he
  have hi : in32 (ez_len n) := by unfold in32; omega
  refine va_alen (v := Int32.ofInt (ez_len n)) C0.1 C0.2.1 C0.2.2.2.2.2.2.2.1 R.1 n 0 he (ty := .int) rfl (e3_eq hi ?_) hd (kk p l e s m args below meth c G base ad C0 H locs ls R hl hL (hs.tail.cons hi))
  show (Int32.ofNat (ez_len n).toNat).toInt = _
  rw [show Int32.ofNat (ez_len n).toNat = nI (ez_len n).toNat from rfl, nI_toInt (by omega)]
  omega
theorem ez_alenJ {o : Int} (hd : decode M.2.1 pc = .ok (.arraylength, 1)) (ho : 0 ≤ o ∧ o < 133) (hk : ez_kd o = 8) (hr : 0 ≤ ez_len o ∧ ez_len o < 3000) (kk : ez_En M (pc + 1) L (ez_I (ez_len o) :: st) h Q) : ez_En M pc L (ez_R o :: st) h Q := by
  obtain ⟨n, rfl⟩ := Int.eq_ofNat_of_zero_le ho.1
  have hn : n < 133 := by omega
  intro p l e s m args below meth c G base ad C0 H locs ls R hl hL hs
  have he := ez_ws_at G ad h hn
  rw [ez_cel_J hk] at he
  have hi : in32 (ez_len n) := by unfold in32; omega
  refine va_alen (v := Int32.ofInt (ez_len n)) C0.1 C0.2.1 C0.2.2.2.2.2.2.2.1 R.1 n 1 he (ty := .long) rfl (e3_eq hi ?_) hd (kk p l e s m args below meth c G base ad C0 H locs ls R hl hL (hs.tail.cons hi))
  show (Int32.ofNat (ez_len n).toNat).toInt = _
  rw [show Int32.ofNat (ez_len n).toNat = nI (ez_len n).toNat from rfl, nI_toInt (by omega)]
  omega
/-- the static row of gaps -/
theorem ez_gaps {idx : Nat} (hlink : Cond.fieldLink M.1.cls idx RX0 "GAPS" "[I" ∈ lw_tg) (hd : decode M.2.1 pc = .ok (.getstatic idx, 3)) (kk : ez_En M (pc + 3) L (ez_R 200 :: st) h Q) : ez_En M pc L st h Q := by
  intro p l e s m args below meth c G base ad C0 H locs ls R hl hL hs
  exact va_gets C0.1 C0.2.1 C0.2.2.2.2.2.2.2.2.1 R.2.2.1 C0.2.2.2.2.1 (C0.2.2.2.2.2.1 _ hlink) (fun _ h9 => h9) hd (kk p l e s m args below meth c G base ad C0 H locs ls R hl hL (hs.cons (ez_okR _)))
theorem ez_glen (hd : decode M.2.1 pc = .ok (.arraylength, 1)) (kk : ez_En M (pc + 1) L (ez_I 4 :: st) h Q) : ez_En M pc L (ez_R 200 :: st) h Q := by
  intro p l e s m args below meth c G base ad C0 H locs ls R hl hL hs
  exact va_tlen (v := Int32.ofInt 4) C0.1 C0.2.1 C0.2.2.2.2.2.2.2.2.2.1 R.2.2.1 (by decide) hd (kk p l e s m args below meth c G base ad C0 H locs ls R hl hL (hs.tail.cons (by unfold ez_ok ez_I in32; simp)))
def ez_gap (i : Int) : Int := if i = 0 then 23 else if i = 1 then 10 else if i = 2 then 4 else 1
theorem ez_gld {i : Int} (hd : decode M.2.1 pc = .ok (.iaload, 1)) (hi : 0 ≤ i ∧ i < 4) (kk : ez_En M (pc + 1) L (ez_I (ez_gap i) :: st) h Q) : ez_En M pc L (ez_I i :: ez_R 200 :: st) h Q := by
  intro p l e s m args below meth c G base ad C0 H locs ls R hl hL hs
  have hv : in32 i := hs.head
  have hi4 : i = 0 ∨ i = 1 ∨ i = 2 ∨ i = 3 := by omega
  have hg : in32 (ez_gap i) := by rcases hi4 with rfl | rfl | rfl | rfl <;> (unfold ez_gap in32; decide)
  refine va_ti (v := .int (Int32.ofInt (ez_gap i))) C0.1 C0.2.1 C0.2.2.2.2.2.2.2.2.2.1 R.2.2.1 (e3_in hv hi.1 (by omega)) ?_ hd (kk p l e s m args below meth c G base ad C0 H locs ls R hl hL (hs.tail.tail.cons hg))
  rw [e3_clamp hv hi.1]
  rcases hi4 with rfl | rfl | rfl | rfl <;> rfl
end
