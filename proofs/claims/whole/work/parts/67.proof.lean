/-! The class's proof: a list of parts. -/
theorem bs_cp {f : pl_H} {sa da n0 n1 b k : Nat} (h0 : ax_sh (f sa) = (2, 0, [n0])) (h1 : ax_sh (f da) = (2, 0, [n1])) (hb : b + k ≤ n0) (hk : k ≤ n1) (l0 : n0 < 2 ^ 31) (l1 : n1 < 2 ^ 31) : ∃ f', pl_cp f sa (nI b) da 0 (nI k) = some f' ∧ (∀ q, ax_sh (f' q) = ax_sh (f q)) ∧ bs_kp (fun q => q = da) f f' ∧ ∀ i, ax_I f' da i = if i < k then ax_I f sa (b + i) else ax_I f da i := by
  obtain ⟨g0, e0⟩ := ax_arI h0
  obtain ⟨g1, e1⟩ := ax_arI h1
  have z0 : (0 : Int32).toNatClampNeg = 0 := rfl
  refine ⟨va_up f da (.inl (0, n1, .inl (va_cpy g0 g1 b 0 k))), ?_, fun q => ?_, bs_kp.up rfl, fun i => ?_⟩
  · unfold pl_cp
    rw [e0, e1]
    show (if _ then _ else _) = _
    rw [bs_cl (by omega), bs_cl (by omega), z0, if_pos ⟨nI_pos (by omega), by decide, nI_pos (by omega), by omega, by omega⟩]
  · refine sx_up ?_
    rw [e1]
    rfl
  · have ea : ax_I (va_up f da (.inl (0, n1, .inl (va_cpy g0 g1 b 0 k)))) da = va_cpy g0 g1 b 0 k := by
      unfold ax_I
      rw [va_up_self]
      rfl
    have e2 : ax_I f sa = g0 := by unfold ax_I; rw [e0]; rfl
    have e3 : ax_I f da = g1 := by unfold ax_I; rw [e1]; rfl
    rw [ea, e2, e3]
    by_cases z : i < k
    · rw [if_pos z, pk_cpy_in (by omega) (by omega)]
      rfl
    · rw [if_neg z, pk_cpy_out (by omega)]
def pf_L (f : pl_H) (n : Nat) : Prop := ax_sh (f (n + 83)) = (1, 4, [2, 2, 0]) ∧ ax_r f (n + 83) 0 = some (n + 84) ∧ ax_r f (n + 83) 1 = some (n + 90) ∧ ax_sh (f (n + 84)) = (4, 3, [5]) ∧ (∀ p, p < 5 → ax_Q f (n + 84) p = some (n + 85 + p)) ∧ (∀ p, p < 5 → ax_sh (f (n + 85 + p)) = (2, 0, [404])) ∧ ax_sh (f (n + 90)) = (2, 0, [5])
def pf_S (n : Nat) : Nat → Prop := fun q => n + 83 ≤ q ∧ q ≤ n + 90
theorem pf_ch {f f' : pl_H} {n : Nat} (h : pf_L f n) (hs : ∀ q, ax_sh (f' q) = ax_sh (f q)) (h0 : ∀ k, k < 2 → ax_r f' (n + 83) k = ax_r f (n + 83) k) (hQ : ∀ i, i < 5 → ax_Q f' (n + 84) i = ax_Q f (n + 84) i) : pf_L f' n := by
  obtain ⟨a0, a1, a2, a3, a4, a5, a6⟩ := h
  exact ⟨by rw [hs]; exact a0, by rw [h0 0 (by decide)]; exact a1, by rw [h0 1 (by decide)]; exact a2, by rw [hs]; exact a3, fun p hp => by rw [hQ p hp]; exact a4 p hp, fun p hp => by rw [hs]; exact a5 p hp, by rw [hs]; exact a6⟩
theorem pf_kp {f f' : pl_H} {n : Nat} {S : Nat → Prop} (h : pf_L f n) (hk : bs_kp S f f') (hS : ∀ q, n + 83 ≤ q → q ≤ n + 90 → ¬ S q) : pf_L f' n := by
  obtain ⟨a0, a1, a2, a3, a4, a5, a6⟩ := h
  have e0 := hk (n + 83) (hS _ (by omega) (by omega))
  have e1 := hk (n + 84) (hS _ (by omega) (by omega))
  refine ⟨by rw [e0]; exact a0, ?_, ?_, by rw [e1]; exact a3, fun p hp => ?_, fun p hp => by rw [hk _ (hS _ (by omega) (by omega))]; exact a5 p hp, by rw [hk _ (hS _ (by omega) (by omega))]; exact a6⟩
  · unfold ax_r ax_v; rw [e0]; exact a1
  · unfold ax_r ax_v; rw [e0]; exact a2
  · unfold ax_Q; rw [e1]; exact a4 p hp
/-- the parts that stand in the rows -/
def pf_R (f : pl_H) (n : Nat) (P : List (List Int32)) : Prop := pf_L f n ∧ ax_i f (n + 83) 2 = nI P.length ∧ P.length ≤ 5 ∧ ∀ (p : Nat) (L : List Int32), P[p]? = some L → L.length ≤ 404 ∧ ax_I f (n + 90) p = nI L.length ∧ ∀ (i : Nat) (x : Int32), L[i]? = some x → ax_I f (n + 85 + p) i = x
theorem pf_R_kp {f f' : pl_H} {n : Nat} {S : Nat → Prop} {P : List (List Int32)} (h : pf_R f n P) (hk : bs_kp S f f') (hS : ∀ q, n + 83 ≤ q → q ≤ n + 90 → ¬ S q) : pf_R f' n P := by
  obtain ⟨h0, h1, h2, h3⟩ := h
  refine ⟨pf_kp h0 hk hS, ?_, h2, fun p L hp => ?_⟩
  · unfold ax_i ax_v
    rw [hk _ (hS _ (by omega) (by omega))]
    exact h1
  · have hp5 : p < P.length := by
      rcases Nat.lt_or_ge p P.length with z | z
      · exact z
      · rw [List.getElem?_eq_none z] at hp
        cases hp
    obtain ⟨a, b, c⟩ := h3 p L hp
    refine ⟨a, ?_, fun i x hx => ?_⟩
    · unfold ax_I
      rw [hk _ (hS _ (by omega) (by omega))]
      exact b
    · unfold ax_I
      rw [hk _ (hS _ (by omega) (by omega))]
      exact c i x hx
theorem pf_0 {f : pl_H} {n : Nat} (h : pf_L f n) : pl_gR f (n + 83) 4 0 = some (n + 84) := (ax_gR h.1 rfl).trans h.2.1
theorem pf_1 {f : pl_H} {n : Nat} (h : pf_L f n) : pl_gR f (n + 83) 4 1 = some (n + 90) := (ax_gR h.1 rfl).trans h.2.2.1
theorem pf_2 {f : pl_H} {n : Nat} (h : pf_L f n) : pl_gI f (n + 83) 4 2 = some (ax_i f (n + 83) 2) := ax_gI h.1 rfl
theorem pf_p2 {f : pl_H} {n : Nat} (h : pf_L f n) (x : Int32) : pl_pV f (n + 83) 4 2 (.int x) = some (ux_f f (n + 83) 2 (.int x)) := ax_pV h.1 (by decide)
theorem pf_u2 {f : pl_H} {n : Nat} (h : pf_L f n) (x : Int32) : pf_L (ux_f f (n + 83) 2 (.int x)) n := pf_ch h (sx_f h.1 rfl) (fun k hk => ar_v (rx_v_fne (Or.inr (by omega)))) (fun i _ => by rw [rx_Q_f])
theorem pf_uI {f : pl_H} {n : Nat} (h : pf_L f n) (b k : Nat) (x : Int32) : pf_L (ux_I f b k x) n := pf_ch h (sx_I f b k x) (fun k hk => ar_v (rx_v_I ..)) (fun i _ => by rw [rx_Q_I])
theorem gl_lt {α : Type} {P : List α} {p : Nat} {L : α} (h : P[p]? = some L) : p < P.length := by
  rcases Nat.lt_or_ge p P.length with z | z
  · exact z
  · rw [List.getElem?_eq_none z] at h
    cases h
theorem gl_app {α : Type} {P : List α} {p : Nat} {x L : α} (h : (P ++ [x])[p]? = some L) : (p < P.length ∧ P[p]? = some L) ∨ (p = P.length ∧ x = L) := by
  have hp := gl_lt h
  rw [List.length_append] at hp
  have e1 : [x].length = 1 := rfl
  rcases Nat.lt_or_ge p P.length with z | z
  · rw [List.getElem?_append_left z] at h
    exact Or.inl ⟨z, h⟩
  · have e : p = P.length := by omega
    subst e
    rw [List.getElem?_append_right (Nat.le_refl _), Nat.sub_self] at h
    exact Or.inr ⟨rfl, Option.some.inj h⟩
theorem pf_clear {f : pl_H} {n : Nat} (h : pf_L f n) : ∃ f', fn_P_clear f (n + 83) = some f' ∧ pf_R f' n [] ∧ bs_kp (pf_S n) f f' := by
  refine ⟨_, ?_, ⟨pf_u2 h 0, ix_f h.1 (by decide), by decide, fun p L hp => by simp at hp⟩, bs_kp.f (by unfold pf_S; omega)⟩
  unfold fn_P_clear
  rw [pf_p2 h, Option.bind_some]
/-- a code out of a row is added as a part -/
theorem pf_add {f : pl_H} {n a1 b : Nat} {P : List (List Int32)} {C : List Int32} (h : pf_R f n P) (hP : P.length < 5) (hC : C.length ≤ 404) (h1 : ax_sh (f a1) = (2, 0, [2176])) (hb : b + C.length ≤ 2176) (hr : ∀ (j : Nat) (x : Int32), C[j]? = some x → ax_I f a1 (b + j) = x) (ha : ¬ pf_S n a1) : ∃ f', fn_P_add f (n + 83) a1 (nI b) (nI C.length) = some f' ∧ pf_R f' n (P ++ [C]) ∧ bs_kp (pf_S n) f f' := by
  obtain ⟨hL, hc, h5, hp⟩ := h
  obtain ⟨f1, p1, s1, k1, q1⟩ := bs_cp (f := f) (sa := a1) (da := n + 85 + P.length) (b := b) (k := C.length) h1 (hL.2.2.2.2.2.1 P.length hP) hb hC (by decide) (by decide)
  have nda : n + 83 ≠ n + 85 + P.length := by omega
  have l1 : pf_L f1 n := pf_ch hL s1 (fun k hk => by unfold ax_r ax_v; rw [k1 _ nda]) (fun i _ => by unfold ax_Q; rw [k1 _ (by omega)])
  have l2 := pf_uI l1 (n + 90) P.length (nI C.length)
  have c1 : ax_i f1 (n + 83) 2 = nI P.length := by
    unfold ax_i ax_v
    rw [k1 _ nda]
    exact hc
  have l3 := pf_u2 l2 (nI (P.length + 1))
  refine ⟨_, ?_, ⟨l3, ?_, by rw [List.length_append]; show P.length + 1 ≤ 5; omega, fun p L hpL => ?_⟩, ((k1.mono (fun q hq => by unfold pf_S; omega)).tr (bs_kp.I (by unfold pf_S; omega))).tr (bs_kp.f (by unfold pf_S; omega))⟩
  · unfold fn_P_add fn_P_add_21
    rw [if_neg (nI_pos (by omega)), if_neg (nI_pos (by omega)), bs_ln h1 (Or.inl rfl) (by decide), Option.bind_some, pk_sub (show b ≤ 2176 by omega), if_neg (fun z => absurd ((bs_lt (by omega) (by omega)).mp z) (by omega)), if_neg (by decide), if_neg (show ¬ 404 < nI C.length from fun z => absurd ((bs_lt (a := 404) (by decide) (by omega)).mp z) (by omega))]
    rw [pf_2 hL, hc, Option.bind_some, if_pos (show nI P.length < 5 from (bs_lt (b := 5) (by omega) (by decide)).mpr hP), pf_0 hL, Option.bind_some, Option.bind_some, bs_aQ hL.2.2.2.1 hP (by decide), Option.bind_some, hL.2.2.2.2.1 P.length hP, Option.bind_some, p1, Option.bind_some]
    rw [pf_1 l1, Option.bind_some, pf_2 l1, c1, Option.bind_some, bs_sI l1.2.2.2.2.2.2 (by omega) (by decide), Option.bind_some, pf_2 l2, ix_I, c1, Option.bind_some, show nI P.length + 1 = nI (P.length + 1) from nI_add _ 1, pf_p2 l2, Option.bind_some]
  · rw [ix_f l2.1 (by decide), List.length_append]
    rfl
  · rw [rx_I_f, rx_I l1.2.2.2.2.2.2, bs_vI]
    rcases gl_app hpL with ⟨z, zL⟩ | ⟨rfl, rfl⟩
    · obtain ⟨a, b', c⟩ := hp p L zL
      refine ⟨a, ?_, fun i x hx => ?_⟩
      · rw [if_neg (by omega)]
        unfold ax_I
        rw [k1 _ (by omega)]
        exact b'
      · rw [rx_I_f, rx_I_ne (by omega)]
        unfold ax_I
        rw [k1 _ (by omega)]
        exact c i x hx
    · refine ⟨hC, by rw [if_pos rfl], fun i x hx => ?_⟩
      rw [rx_I_f, rx_I_ne (by omega), q1, if_pos (gl_lt hx)]
      exact hr i x hx
