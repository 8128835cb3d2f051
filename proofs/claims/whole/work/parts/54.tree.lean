/-! The class's tree: where it lies; become, take, finish. -/
theorem bs_aQ {f : pl_H} {t a len j : Nat} (h : ax_sh (f a) = (4, t, [len])) (hj : j < len) (hl : len < 2 ^ 31) : pl_aQ f t a (nI j) = some (ax_Q f a j) := by
  rw [ax_aQ h, if_pos (bs_ok hj hl), bs_cl (by omega)]
theorem bs_sQ {f : pl_H} {t a ci len j : Nat} (h : ax_sh (f a) = (4, t, [len])) (hj : j < len) (hl : len < 2 ^ 31) {r : Option Nat} (hr : ∀ v, r = some v → pl_is f v ci = some ()) : pl_sQ f t ci a (nI j) r = some (ux_Q f a j r) := by
  obtain ⟨g, hg⟩ := ax_arQ h
  unfold pl_sQ ux_Q
  rw [hg]
  show (if t = t ∧ pl_ok (nI j) len = true then _ else _) = _
  rw [if_pos ⟨rfl, bs_ok hj hl⟩, bs_cl (by omega)]
  cases r with
  | none => rfl
  | some v =>
    show (pl_is f v ci).bind _ = _
    rw [hr v rfl]
    rfl
def nd_L (f : pl_H) (n i : Nat) : Prop := ax_sh (f (n + 15 + 2 * i)) = (1, 3, [2, 0, 0, 0, 0, 0, 0]) ∧ ax_r f (n + 15 + 2 * i) 0 = some (n + 16 + 2 * i) ∧ ax_sh (f (n + 16 + 2 * i)) = (4, 2, [16])
def tr_L (f : pl_H) (n : Nat) : Prop := ax_sh (f (n + 9)) = (1, 5, [2, 2, 2, 2, 2, 2, 0, 2, 0]) ∧ (ax_r f (n + 9) 0 = some (n + 1) ∧ ax_r f (n + 9) 1 = some (n + 5) ∧ ax_r f (n + 9) 2 = some (n + 10) ∧ ax_r f (n + 9) 3 = some (n + 12) ∧ ax_r f (n + 9) 4 = some (n + 13) ∧ ax_r f (n + 9) 5 = some (n + 14)) ∧ ax_sh (f (n + 12)) = (4, 2, [34]) ∧ (∀ i, i < 34 → ax_Q f (n + 12) i = some (n + 15 + 2 * i)) ∧ ax_sh (f (n + 13)) = (2, 0, [4]) ∧ ax_sh (f (n + 14)) = (2, 0, [32]) ∧ ∀ i, i < 34 → nd_L f n i
theorem ar_v {f f' : pl_H} {a k : Nat} (h : ax_v f' a k = ax_v f a k) : ax_r f' a k = ax_r f a k := by unfold ax_r; rw [h]
/-- the layout is kept where shapes, references and the pool are -/
theorem tr_ch {f f' : pl_H} {n : Nat} (h : tr_L f n) (hs : ∀ q, ax_sh (f' q) = ax_sh (f q)) (h9 : ∀ k, k < 6 → ax_r f' (n + 9) k = ax_r f (n + 9) k) (hQ : ∀ i, i < 34 → ax_Q f' (n + 12) i = ax_Q f (n + 12) i) (hN : ∀ i, i < 34 → ax_r f' (n + 15 + 2 * i) 0 = ax_r f (n + 15 + 2 * i) 0) : tr_L f' n := by
  obtain ⟨a0, ⟨b0, b1, b2, b3, b4, b5⟩, a2, a3, a4, a5, a6⟩ := h
  refine ⟨by rw [hs]; exact a0, ⟨by rw [h9 0 (by decide)]; exact b0, by rw [h9 1 (by decide)]; exact b1, by rw [h9 2 (by decide)]; exact b2, by rw [h9 3 (by decide)]; exact b3, by rw [h9 4 (by decide)]; exact b4, by rw [h9 5 (by decide)]; exact b5⟩, by rw [hs]; exact a2, fun i hi => by rw [hQ i hi]; exact a3 i hi, by rw [hs]; exact a4, by rw [hs]; exact a5, fun i hi => ?_⟩
  obtain ⟨c0, c1, c2⟩ := a6 i hi
  exact ⟨by rw [hs]; exact c0, by rw [hN i hi]; exact c1, by rw [hs]; exact c2⟩
theorem tr_kp {f f' : pl_H} {n : Nat} {S : Nat → Prop} (h : tr_L f n) (hk : bs_kp S f f') (hS : ∀ q, n + 9 ≤ q → q ≤ n + 82 → q ≠ n + 10 → q ≠ n + 11 → ¬ S q) : tr_L f' n := by
  obtain ⟨a0, ⟨b0, b1, b2, b3, b4, b5⟩, a2, a3, a4, a5, a6⟩ := h
  have e9 := hk (n + 9) (hS _ (by omega) (by omega) (by omega) (by omega))
  have e12 := hk (n + 12) (hS _ (by omega) (by omega) (by omega) (by omega))
  have er : ∀ k, ax_r f' (n + 9) k = ax_r f (n + 9) k := fun k => by unfold ax_r ax_v; rw [e9]
  refine ⟨by rw [e9]; exact a0, ⟨by rw [er]; exact b0, by rw [er]; exact b1, by rw [er]; exact b2, by rw [er]; exact b3, by rw [er]; exact b4, by rw [er]; exact b5⟩, by rw [e12]; exact a2, fun i hi => by unfold ax_Q; rw [e12]; exact a3 i hi, by rw [hk (n + 13) (hS _ (by omega) (by omega) (by omega) (by omega))]; exact a4, by rw [hk (n + 14) (hS _ (by omega) (by omega) (by omega) (by omega))]; exact a5, fun i hi => ?_⟩
  obtain ⟨c0, c1, c2⟩ := a6 i hi
  have ei := hk (n + 15 + 2 * i) (hS _ (by omega) (by omega) (by omega) (by omega))
  refine ⟨by rw [ei]; exact c0, ?_, by rw [hk (n + 16 + 2 * i) (hS _ (by omega) (by omega) (by omega) (by omega))]; exact c2⟩
  unfold ax_r ax_v
  rw [ei]
  exact c1
theorem tr_uI {f : pl_H} {n : Nat} (h : tr_L f n) (b k : Nat) (x : Int32) : tr_L (ux_I f b k x) n := tr_ch h (sx_I f b k x) (fun j _ => ar_v (rx_v_I ..)) (fun i _ => by rw [rx_Q_I]) (fun i _ => ar_v (rx_v_I ..))
theorem tr_uQ {f : pl_H} {n : Nat} (h : tr_L f n) {b k : Nat} (hb : b ≠ n + 12) (x : Option Nat) : tr_L (ux_Q f b k x) n := tr_ch h (sx_Q f b k x) (fun j _ => ar_v (rx_v_Q ..)) (fun i _ => by rw [rx_Q_ne (Ne.symm hb)]) (fun i _ => ar_v (rx_v_Q ..))
theorem tr_u9 {f : pl_H} {n : Nat} (h : tr_L f n) {k : Nat} {v : Value} (hk : k = 6 ∧ ax_vt v = 0 ∨ k = 7 ∧ ax_vt v = 2 ∨ k = 8 ∧ ax_vt v = 0) : tr_L (ux_f f (n + 9) k v) n := by
  refine tr_ch h (sx_f h.1 ?_) (fun j hj => ar_v (rx_v_fne (Or.inr (by omega)))) (fun i _ => by rw [rx_Q_f]) (fun i _ => ar_v (rx_v_fne (Or.inl (by omega))))
  rcases hk with ⟨rfl, hv⟩ | ⟨rfl, hv⟩ | ⟨rfl, hv⟩ <;> rw [hv] <;> rfl
theorem tr_uN {f : pl_H} {n : Nat} (h : tr_L f n) {i k : Nat} (hi : i < 34) (hk : 0 < k ∧ k < 7) (x : Int32) : tr_L (ux_f f (n + 15 + 2 * i) k (.int x)) n := by
  refine tr_ch h (sx_f (h.2.2.2.2.2.2 i hi).1 ?_) (fun j hj => ar_v (rx_v_fne (Or.inl (by omega)))) (fun i _ => by rw [rx_Q_f]) (fun j _ => ar_v (rx_v_fne (Or.inr (by omega))))
  have : k = 1 ∨ k = 2 ∨ k = 3 ∨ k = 4 ∨ k = 5 ∨ k = 6 := by omega
  rcases this with rfl | rfl | rfl | rfl | rfl | rfl <;> rfl
theorem nd_p {f : pl_H} {n i : Nat} (h : nd_L f n i) {k : Nat} (hk : k < 7) (x : Int32) : pl_pV f (n + 15 + 2 * i) 3 k (.int x) = some (ux_f f (n + 15 + 2 * i) k (.int x)) := ax_pV h.1 hk
theorem nd_g {f : pl_H} {n i : Nat} (h : nd_L f n i) {k : Nat} (hk : 0 < k ∧ k < 7) : pl_gI f (n + 15 + 2 * i) 3 k = some (ax_i f (n + 15 + 2 * i) k) := by
  refine ax_gI h.1 ?_
  have : k = 1 ∨ k = 2 ∨ k = 3 ∨ k = 4 ∨ k = 5 ∨ k = 6 := by omega
  rcases this with rfl | rfl | rfl | rfl | rfl | rfl <;> rfl
theorem nd_0 {f : pl_H} {n i : Nat} (h : nd_L f n i) : pl_gR f (n + 15 + 2 * i) 3 0 = some (n + 16 + 2 * i) := (ax_gR h.1 rfl).trans h.2.1
theorem nb_24e (k : Nat) (f : pl_H) (a : Nat) (x : Int32) : fn_N_become_24 (k + 1) f a x = if 16 ≤ x then some f else (pl_gR f a 3 0).bind fun v1 => (pl_sQ f 2 3 v1 x none).bind fun f2 => fn_N_become_24 k f2 a (x + 1) := rfl
theorem nb_24 {n i : Nat} (hi : i < 34) : ∀ (d k x : Nat) (f : pl_H), 16 - x = d → x ≤ 16 → d < k → tr_L f n → ∃ f', fn_N_become_24 k f (n + 15 + 2 * i) (nI x) = some f' ∧ tr_L f' n ∧ bs_kp (fun q => q = n + 16 + 2 * i) f f' ∧ (∀ e, e < x → ax_Q f' (n + 16 + 2 * i) e = ax_Q f (n + 16 + 2 * i) e) ∧ ∀ e, x ≤ e → e < 16 → ax_Q f' (n + 16 + 2 * i) e = none := by
  intro d
  induction d with
  | zero =>
    intro k x f hd hx hk h
    obtain ⟨k, rfl⟩ : ∃ k', k = k' + 1 := ⟨k - 1, by omega⟩
    have e : x = 16 := by omega
    subst e
    exact ⟨f, by rw [nb_24e, if_pos (by decide)], h, bs_kp.rf, fun _ _ => rfl, fun e h1 h2 => absurd h1 (by omega)⟩
  | succ d ih =>
    intro k x f hd hx hk h
    obtain ⟨k, rfl⟩ : ∃ k', k = k' + 1 := ⟨k - 1, by omega⟩
    have hN := h.2.2.2.2.2.2 i hi
    have h1 := tr_uQ h (b := n + 16 + 2 * i) (k := x) (by omega) none
    obtain ⟨f', g1, g2, g3, g4, g5⟩ := ih k (x + 1) _ (by omega) (by omega) (by omega) h1
    refine ⟨f', ?_, g2, (bs_kp.Q (S := fun q => q = n + 16 + 2 * i) rfl).tr g3, fun e he => ?_, fun e h1 h2 => ?_⟩
    · rw [nb_24e, if_neg (show ¬ 16 ≤ nI x from fun z => absurd ((bs_le (a := 16) (by decide) (by omega)).mp z) (by omega)), nd_0 hN, Option.bind_some, bs_sQ hN.2.2 (by omega) (by decide) (fun v hv => by cases hv), Option.bind_some, show nI x + 1 = nI (x + 1) from nI_add x 1]
      exact g1
    · rw [g4 e (by omega), rx_Q hN.2.2, va_up_ne _ _ (by omega)]
    · by_cases he : e = x
      · rw [g4 e (by omega), rx_Q hN.2.2, he]
        unfold va_up; rw [if_pos rfl]
      · exact g5 e (by omega) h2
theorem nb_become {f : pl_H} {n i : Nat} (hi : i < 34) (h : tr_L f n) (x1 x2 x3 x4 : Int32) : ∃ f', fn_N_become f (n + 15 + 2 * i) x1 x2 x3 x4 = some f' ∧ tr_L f' n ∧ bs_kp (fun q => q = n + 15 + 2 * i ∨ q = n + 16 + 2 * i) f f' ∧ (ax_i f' (n + 15 + 2 * i) 1 = x1 ∧ ax_i f' (n + 15 + 2 * i) 2 = x2 ∧ ax_i f' (n + 15 + 2 * i) 3 = x3 ∧ ax_i f' (n + 15 + 2 * i) 4 = x4) ∧ ∀ e, e < 16 → ax_Q f' (n + 16 + 2 * i) e = none := by
  have h1 := tr_uN h hi (k := 1) (by decide) x1
  have h2 := tr_uN h1 hi (k := 2) (by decide) x2
  have h3 := tr_uN h2 hi (k := 3) (by decide) x3
  have h4 := tr_uN h3 hi (k := 4) (by decide) x4
  obtain ⟨f', g1, g2, g3, g4, g5⟩ := nb_24 hi 16 pl_N 0 _ rfl (by decide) (by decide) h4
  have e0 := g3 (n + 15 + 2 * i) (by omega)
  have n1 := (h.2.2.2.2.2.2 i hi).1
  have n2 := (h1.2.2.2.2.2.2 i hi).1
  have n3 := (h2.2.2.2.2.2.2 i hi).1
  have n4 := (h3.2.2.2.2.2.2 i hi).1
  refine ⟨f', ?_, g2, ((((bs_kp.f (Or.inl rfl)).tr (bs_kp.f (Or.inl rfl))).tr (bs_kp.f (Or.inl rfl))).tr (bs_kp.f (Or.inl rfl))).tr (g3.mono (fun q hq => Or.inr hq)), ⟨?_, ?_, ?_, ?_⟩, fun e he => g5 e (by omega) he⟩
  · unfold fn_N_become
    rw [nd_p (h.2.2.2.2.2.2 i hi) (by decide), Option.bind_some, nd_p (h1.2.2.2.2.2.2 i hi) (by decide), Option.bind_some, nd_p (h2.2.2.2.2.2.2 i hi) (by decide), Option.bind_some, nd_p (h3.2.2.2.2.2.2 i hi) (by decide), Option.bind_some]
    exact g1
  · unfold ax_i ax_v
    rw [e0]
    show ax_i _ _ 1 = _
    rw [ix_fne (Or.inr (by decide)), ix_fne (Or.inr (by decide)), ix_fne (Or.inr (by decide)), ix_f n1 (by decide)]
  · unfold ax_i ax_v
    rw [e0]
    show ax_i _ _ 2 = _
    rw [ix_fne (Or.inr (by decide)), ix_fne (Or.inr (by decide)), ix_f n2 (by decide)]
  · unfold ax_i ax_v
    rw [e0]
    show ax_i _ _ 3 = _
    rw [ix_fne (Or.inr (by decide)), ix_f n3 (by decide)]
  · unfold ax_i ax_v
    rw [e0]
    show ax_i _ _ 4 = _
    rw [ix_f n4 (by decide)]
