/-! between the class and the reference: neither touches the other -/
theorem md_V.eqv {h h' : ez_H} (e : ∀ o k : Int, 121 ≤ o → o ≤ 132 → h' o k = h o k) (v : md_V h) : md_V h' ∧ md_S h' = md_S h := by
  have e1 : h' 121 = h 121 := funext fun k => e 121 k (by omega) (by omega)
  have e2 : h' 122 = h 122 := funext fun k => e 122 k (by omega) (by omega)
  have e3 : h' 123 = h 123 := funext fun k => e 123 k (by omega) (by omega)
  have e4 : h' 124 = h 124 := funext fun k => e 124 k (by omega) (by omega)
  have e5 : h' 125 = h 125 := funext fun k => e 125 k (by omega) (by omega)
  have e6 : h' 126 = h 126 := funext fun k => e 126 k (by omega) (by omega)
  have e7 : h' 127 = h 127 := funext fun k => e 127 k (by omega) (by omega)
  have e8 : h' 128 = h 128 := funext fun k => e 128 k (by omega) (by omega)
  constructor
  · have key : md_V h' = md_V h := by
      unfold md_V md_W md_L md_P
      rw [e1, e2, e3, e4, e5, e6, e7, e8]
    rw [key]
    exact v
  · unfold md_S
    rw [e1, e2, e3, e4, e5]
theorem cd_V.eqv {h h' : ez_H} (e0 : ∀ o k : Int, o < 121 → h' o k = h o k) (v : cd_V h) : cd_V h' ∧ cd_S h' = cd_S h := by
  have e : ∀ o k : Int, ¬ (o = 0 ∧ k = 4) → o < 17 → h' o k = h o k := fun o k _ c => e0 o k (by omega)
  have e5 := e 0 5 (by omega) (by omega)
  have n := v.b.n
  have sS := cd_S_keep n.2 e
  refine ⟨⟨v.b.eq e, fun a' b' a0 a1 b0 b1 hf => ?_, fun a' b' a0 a1 b0 b1 hc => ?_, fun q q2 => ?_, fun q => by rw [e0 110 0 (by omega), e0 110 1 (by omega)]; exact v.u (by omega)⟩, sS⟩
  · rw [e5] at a1 b1
    have pa := ((v.b.w a' a0 a1).1.eq (fun o' k x c => e o' k (by omega) c)).2
    have pb := ((v.b.w b' b0 b1).1.eq (fun o' k x c => e o' k (by omega) c)).2
    rw [pa, pb, e 0 7 (by omega) (by omega)]
    rw [e0 _ 0 (by omega)] at hf
    exact (v.l a' b' a0 a1 b0 b1 hf).eq (fun x _ _ => e0 _ x (by omega)) (fun x => e0 _ x (by omega)) (fun x => e0 _ x (by omega))
  · rw [e5] at hc
    rw [e0 _ 0 (by omega)]
    exact v.z a' b' a0 a1 b0 b1 hc
  · rw [e0 0 4 (by omega)] at q
    rw [sS]
    exact (v.t q (by omega)).eq (fun o k a b => e0 o k (by omega))
/-- what holds between two calls -/
def lw_I (h : ez_H) : Prop := cd_V h ∧ md_V h ∧ cd_S h = md_S h
theorem lw_m {h h1 : ez_H} (I : lw_I h) (f : ∀ o k : Int, 120 < o → h1 o k = h o k) : md_V h1 ∧ md_S h1 = cd_S h := by
  have z := md_V.eqv (h := h) (h' := h1) (fun o k a b => f o k (by omega)) I.2.1
  exact ⟨z.1, z.2.trans I.2.2.symm⟩
theorem lw_q {h h1 h2 : ez_H} (I : lw_I h) (g1 : cd_g h h1) (g2 : md_g h1 h2) : lw_I h2 := by
  have m1 := lw_m I (fun o k a => g1.2 o k (by omega) (by omega))
  have w2 := cd_V.eqv (h := h1) (h' := h2) (fun o k a => g2.2.1 o k (by omega) (by omega)) g1.1
  refine ⟨w2.1, g2.1, ?_⟩
  rw [w2.2, g2.2.1.S, m1.2]
  exact g1.2.S I.1.b.n.2
theorem lw_c {h h1 h2 : ez_H} {S' : sp_S} (v1 : cd_V h1) (f2 : mo_fr h1 h2) (v2 : md_V h2) (e1 : cd_S h1 = S') (e2 : md_S h2 = S') : lw_I h2 := by
  have w2 := cd_V.eqv (h := h1) (h' := h2) (fun o k a => f2 o k (by omega)) v1
  exact ⟨w2.1, v2, w2.2.trans (e1.trans e2.symm)⟩
def hp_0 : ez_H := fun _ _ => 0
def hp_1 : ez_H := ez_up (ez_up (ez_up (ez_up (ez_up hp_0 0 4 0) 0 5 0) 0 6 (-1)) 0 7 3) 121 1 3
theorem hp_at {o k : Int} (h : ¬ (o = 0 ∧ (k = 6 ∨ k = 7)) ∧ ¬ (o = 121 ∧ k = 1)) : hp_1 o k = 0 := by
  unfold hp_1
  rw [ez_up_ne (by omega), ez_up_ne (by omega), ez_up_ne (by omega)]
  by_cases c : o = 0 ∧ k = 5
  · rw [c.1, c.2, ez_up_eq]
  · rw [ez_up_ne (by omega)]
    by_cases c2 : o = 0 ∧ k = 4
    · rw [c2.1, c2.2, ez_up_eq]
    · rw [ez_up_ne (by omega)]
      rfl
theorem hp_I : lw_I hp_1 := by
  have z5 : hp_1 0 5 = 0 := hp_at (by omega)
  have z7 : hp_1 0 7 = 3 := by
    unfold hp_1
    rw [ez_up_ne (by omega), ez_up_eq]
  have z6 : hp_1 0 6 = -1 := by
    unfold hp_1
    rw [ez_up_ne (by omega), ez_up_ne (by omega), ez_up_eq]
  have y0 : hp_1 121 0 = 0 := hp_at (by omega)
  have y1 : hp_1 121 1 = 3 := by
    unfold hp_1
    rw [ez_up_eq]
  refine ⟨⟨⟨by omega, by omega, fun p p0 p1 => by omega, fun p q p0 p1 => by omega, fun p p0 p1 => hp_at (by omega), ?_⟩, fun a b a0 a1 => by omega, fun a b a0 a1 b0 b1 _ => hp_at (by omega), fun q => absurd (hp_at (by omega)) q, fun _ => ⟨hp_at (by omega), hp_at (by omega)⟩⟩, md_V.new (by omega) (by omega) (fun p p0 p1 => by omega) (fun p q p0 p1 => by omega) (fun x x0 x1 => hp_at (by omega)), ?_⟩
  · rw [z6]
    unfold sp_f
    rw [show (cd_S hp_1).1.toNat = 0 from by show (hp_1 0 5).toNat = 0; rw [z5]; rfl]
    rfl
  · unfold cd_S md_S
    rw [z5, z7, y0, y1]
    exact sp_mk_eq (fun p p0 p1 => by omega) (fun p i p0 p1 => by omega)
/-- the world is built -/
theorem ci_done {G : ez_G} {ad : Nat → Nat} {h : ez_H} {sf : ca_F} {H : Heap} {A : Nat → Prop} (hf : ∀ o k : Nat, o < 133 → k < 19 → (ez_rf (ez_kd o) o k).isSome = true → ez_kd o < 7 → k < ez_nf (ez_kd o) → sf o k = true) (hB : ∀ j : Nat, j < 5 → sf 1 j = true) (hA : ∀ j : Nat, j < 25 → sf 17 j = true) (hP : va_P G.1 vwCl (ci_ws G ad h sf 133) H) (hD : va_D A (ci_ws G ad h sf 133)) : va_P G.1 vwCl (ez_ws G ad h) H ∧ va_D A (ez_ws G ad h) := by
  have ar : ∀ (cA : ClassId) (N : Nat) (f g : Nat → Value), (∀ j, j < N → f j = g j) → arrV cA N f = arrV cA N g := fun cA N f g e => by
    unfold arrV
    rw [show (fun j : Fin N => f j.val) = fun j : Fin N => g j.val from funext fun j => e j.val j.isLt]
  have kd : ∀ o : Nat, o < 133 → ez_kd o ≤ 11 ∧ (ez_kd o = 10 → o = 17) ∧ (ez_kd o = 11 → o = 1) ∧ ez_nf (ez_kd o) ≤ 19 := by decide +kernel
  constructor
  · intro o q hq
    by_cases ho : o < 133
    · rw [ez_ws_at G ad h ho] at hq
      cases hq
      have z := hP o _ (ci_ws_at G ad h sf ho)
      obtain ⟨d1, d2, d3, d4⟩ := kd o ho
      by_cases c1 : ez_kd o < 7
      · have e1 : (List.range (ez_nf (ez_kd o))).map (ci_fv ad h sf (ez_kd o) o) = (List.range (ez_nf (ez_kd o))).map (ez_fv ad h (ez_kd o) o) := List.map_congr_left (fun k hk => by
          have hk2 := List.mem_range.mp hk
          unfold ci_fv ez_fv
          cases hr : ez_rf (ez_kd o) o k with
          | none => rfl
          | some r =>
            dsimp only
            rw [if_pos (hf o k ho (by omega) (by rw [hr]; rfl) c1 hk2)])
        rw [ci_cel_ob rfl c1, e1] at z
        rw [ez_cel_ob rfl c1]
        exact z
      · by_cases c2 : ez_kd o = 10
        · rw [ci_cel_A c2] at z
          rw [ez_cel_A c2]
          have z2 : H[ad o]? = some (arrV (G.2 3) 25 (fun j => va_rf (if sf o j = true then some (ad (18 + 3 * j)) else none))) := z
          rw [ar (G.2 3) 25 _ (fun j => va_rf (some (ad (18 + 3 * j)))) (fun j hj => by rw [if_pos (by rw [d2 c2]; exact hA j hj)])] at z2
          exact z2
        · by_cases c3 : ez_kd o = 11
          · rw [ci_cel_B c3] at z
            rw [ez_cel_B c3]
            have z2 : H[ad o]? = some (arrV (G.2 4) 5 (fun j => va_rf (if sf o j = true then some (ad (2 + 3 * j)) else none))) := z
            rw [ar (G.2 4) 5 _ (fun j => va_rf (some (ad (2 + 3 * j)))) (fun j hj => by rw [if_pos (by rw [d3 c3]; exact hB j hj)])] at z2
            exact z2
          · have e1 : ci_cel G ad h sf o = ez_cel G ad h o := by
              unfold ci_cel ez_cel
              rw [if_neg c1, if_neg c1]
              by_cases c4 : ez_kd o = 7
              · rw [if_pos c4, if_pos c4]
              · rw [if_neg c4, if_neg c4]
                by_cases c5 : ez_kd o = 8
                · rw [if_pos c5, if_pos c5]
                · rw [if_neg c5, if_neg c5, if_pos (by omega), if_pos (by omega)]
            rw [e1] at z
            exact z
    · rw [ez_ws_none G ad h ho] at hq
      cases hq
  · have key : ∀ (k : Nat) (q : Nat × va_E), (ez_ws G ad h)[k]? = some q → ∃ q0 : Nat × va_E, (ci_ws G ad h sf 133)[k]? = some q0 ∧ q0.1 = q.1 := by
      intro k q hq
      by_cases hk : k < 133
      · rw [ez_ws_at G ad _ hk] at hq
        cases hq
        exact ⟨_, ci_ws_at G ad h sf hk, rfl⟩
      · rw [ez_ws_none G ad _ hk] at hq
        cases hq
    refine ⟨fun i j p q hp hq e => ?_, fun k q hq => ?_⟩
    · obtain ⟨p0, h1, h2⟩ := key i p hp
      obtain ⟨q0, h3, h4⟩ := key j q hq
      exact hD.1 i j p0 q0 h1 h3 (by rw [h2, h4, e])
    · obtain ⟨q0, h1, h2⟩ := key k q hq
      rw [← h2]
      exact hD.2 k q0 h1
def sf_0 : ca_F := fun _ _ => false
def sf_1 : ca_F := ca_rg (ca_rg (s4_ sf_0) 0 0 4) 121 2 13
theorem sf_f' : ∀ o : Nat, o < 133 → ∀ k : Nat, k < 19 → (ez_rf (ez_kd o) o k).isSome = true → ez_kd o < 7 → k < ez_nf (ez_kd o) → sf_1 o k = true := by decide +kernel
theorem sf_f : ∀ o k : Nat, o < 133 → k < 19 → (ez_rf (ez_kd o) o k).isSome = true → ez_kd o < 7 → k < ez_nf (ez_kd o) → sf_1 o k = true := fun o k ho hk => sf_f' o ho k hk
theorem sf_B : ∀ j : Nat, j < 5 → sf_1 1 j = true := by decide +kernel
theorem sf_A : ∀ j : Nat, j < 25 → sf_1 17 j = true := by decide +kernel
