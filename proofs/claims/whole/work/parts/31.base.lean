/-! Indices as numbers; reads and writes at them; what stays. -/
theorem bs_ok {j len : Nat} (h : j < len) (hl : len < 2 ^ 31) : pl_ok (nI j) len = true := by
  have h1 := vp_in_nI h hl
  unfold vp_in at h1
  unfold pl_ok
  simpa using h1
theorem bs_cl {j : Nat} (h : j < 2 ^ 31) : (nI j).toNatClampNeg = j := nI_clamp h
theorem bs_aI {f : pl_H} {a len j : Nat} (h : ax_sh (f a) = (2, 0, [len])) (hj : j < len) (hl : len < 2 ^ 31) : pl_aI f a (nI j) = some (ax_I f a j) := by
  rw [ax_aI h, if_pos (bs_ok hj hl), bs_cl (by omega)]
theorem bs_aZ {f : pl_H} {a len j : Nat} (h : ax_sh (f a) = (2, 4, [len])) (hj : j < len) (hl : len < 2 ^ 31) : pl_aZ f a (nI j) = some (ax_I f a j) := by
  rw [ax_aZ h, if_pos (bs_ok hj hl), bs_cl (by omega)]
theorem bs_aL {f : pl_H} {a len j : Nat} (h : ax_sh (f a) = (3, 1, [len])) (hj : j < len) (hl : len < 2 ^ 31) : pl_aL f a (nI j) = some (ax_L f a j) := by
  rw [ax_aL h, if_pos (bs_ok hj hl), bs_cl (by omega)]
theorem bs_sI {f : pl_H} {a len j : Nat} (h : ax_sh (f a) = (2, 0, [len])) (hj : j < len) (hl : len < 2 ^ 31) (x : Int32) : pl_sI f a (nI j) x = some (ux_I f a j x) := by
  rw [ax_sI h, if_pos (bs_ok hj hl), bs_cl (by omega)]
theorem bs_sL {f : pl_H} {a len j : Nat} (h : ax_sh (f a) = (3, 1, [len])) (hj : j < len) (hl : len < 2 ^ 31) (x : Int64) : pl_sL f a (nI j) x = some (ux_L f a j x) := by
  rw [ax_sL h, if_pos (bs_ok hj hl), bs_cl (by omega)]
/-- outside of S nothing has changed -/
def bs_kp (S : Nat → Prop) (f f' : pl_H) : Prop := ∀ q, ¬ S q → f' q = f q
theorem bs_kp.rf {S : Nat → Prop} {f : pl_H} : bs_kp S f f := fun _ _ => rfl
theorem bs_kp.tr {S : Nat → Prop} {f g h : pl_H} (h1 : bs_kp S f g) (h2 : bs_kp S g h) : bs_kp S f h := fun q hq => (h2 q hq).trans (h1 q hq)
theorem bs_kp.up {S : Nat → Prop} {f : pl_H} {a : Nat} {e : va_E} (h : S a) : bs_kp S f (va_up f a e) := fun q hq => va_up_ne _ _ (fun e => hq (by rw [e]; exact h))
theorem bs_kp.L {S : Nat → Prop} {f : pl_H} {a k : Nat} {x : Int64} (h : S a) : bs_kp S f (ux_L f a k x) := bs_kp.up h
theorem bs_kp.I {S : Nat → Prop} {f : pl_H} {a k : Nat} {x : Int32} (h : S a) : bs_kp S f (ux_I f a k x) := bs_kp.up h
theorem bs_kp.Q {S : Nat → Prop} {f : pl_H} {a k : Nat} {x : Option Nat} (h : S a) : bs_kp S f (ux_Q f a k x) := bs_kp.up h
theorem bs_kp.f {S : Nat → Prop} {f : pl_H} {a k : Nat} {v : Value} (h : S a) : bs_kp S f (ux_f f a k v) := bs_kp.up h
theorem bs_kp.mono {S T : Nat → Prop} {f g : pl_H} (h : bs_kp S f g) (hs : ∀ q, S q → T q) : bs_kp T f g := fun q hq => h q (fun z => hq (hs q z))
theorem bs_vL {g : Nat → Int64} {k j : Nat} {x : Int64} : vp_updL g k x j = if j = k then x else g j := rfl
theorem bs_vI {g : Nat → Int32} {k j : Nat} {x : Int32} : upd g k x j = if j = k then x else g j := rfl
theorem bs_lt {a b : Nat} (ha : a < 2 ^ 31) (hb : b < 2 ^ 31) : nI a < nI b ↔ a < b := nI_ltI ha hb
theorem bs_le {a b : Nat} (ha : a < 2 ^ 31) (hb : b < 2 ^ 31) : nI a ≤ nI b ↔ a ≤ b := nI_leI ha hb
/-- the hasher at a, its rows w, t, c -/
def kh_L (f : pl_H) (a w t c : Nat) : Prop := ax_sh (f a) = (1, 2, [2, 2, 2]) ∧ ax_r f a 0 = some w ∧ ax_r f a 1 = some t ∧ ax_r f a 2 = some c ∧ ax_sh (f w) = (3, 1, [25]) ∧ ax_sh (f t) = (3, 1, [25]) ∧ ax_sh (f c) = (3, 1, [5]) ∧ w ≠ t ∧ w ≠ c ∧ t ≠ c
theorem kh_up {f : pl_H} {a w t c : Nat} (h : kh_L f a w t c) (b k : Nat) (x : Int64) : kh_L (ux_L f b k x) a w t c := by
  obtain ⟨h0, h1, h2, h3, h4, h5, h6, h7⟩ := h
  refine ⟨by rw [sx_L]; exact h0, ?_, ?_, ?_, by rw [sx_L]; exact h4, by rw [sx_L]; exact h5, by rw [sx_L]; exact h6, h7⟩
  · unfold ax_r; rw [rx_v_L]; exact h1
  · unfold ax_r; rw [rx_v_L]; exact h2
  · unfold ax_r; rw [rx_v_L]; exact h3
theorem kh_0 {f : pl_H} {a w t c : Nat} (h : kh_L f a w t c) : pl_gR f a 2 0 = some w := (ax_gR h.1 rfl).trans h.2.1
theorem kh_1 {f : pl_H} {a w t c : Nat} (h : kh_L f a w t c) : pl_gR f a 2 1 = some t := (ax_gR h.1 rfl).trans h.2.2.1
theorem kh_2 {f : pl_H} {a w t c : Nat} (h : kh_L f a w t c) : pl_gR f a 2 2 = some c := (ax_gR h.1 rfl).trans h.2.2.2.1
theorem kh_w {f : pl_H} {a w t c : Nat} (h : kh_L f a w t c) {j : Nat} (hj : j < 25) : pl_aL f w (nI j) = some (ax_L f w j) := bs_aL h.2.2.2.2.1 hj (by decide)
theorem kh_t {f : pl_H} {a w t c : Nat} (h : kh_L f a w t c) {j : Nat} (hj : j < 25) : pl_aL f t (nI j) = some (ax_L f t j) := bs_aL h.2.2.2.2.2.1 hj (by decide)
theorem kh_c {f : pl_H} {a w t c : Nat} (h : kh_L f a w t c) {j : Nat} (hj : j < 5) : pl_aL f c (nI j) = some (ax_L f c j) := bs_aL h.2.2.2.2.2.2.1 hj (by decide)
theorem kh_sw {f : pl_H} {a w t c : Nat} (h : kh_L f a w t c) {j : Nat} (hj : j < 25) (x : Int64) : pl_sL f w (nI j) x = some (ux_L f w j x) := bs_sL h.2.2.2.2.1 hj (by decide) x
theorem kh_st {f : pl_H} {a w t c : Nat} (h : kh_L f a w t c) {j : Nat} (hj : j < 25) (x : Int64) : pl_sL f t (nI j) x = some (ux_L f t j x) := bs_sL h.2.2.2.2.2.1 hj (by decide) x
theorem kh_sc {f : pl_H} {a w t c : Nat} (h : kh_L f a w t c) {j : Nat} (hj : j < 5) (x : Int64) : pl_sL f c (nI j) x = some (ux_L f c j x) := bs_sL h.2.2.2.2.2.2.1 hj (by decide) x
def kh_S (w t c : Nat) : Nat → Prop := fun q => q = w ∨ q = t ∨ q = c
-- the words of one round, as relations
def kk_c (w : Nat → Int64) (x : Nat) : Int64 := (((w x ^^^ w (x + 5)) ^^^ w (x + 10)) ^^^ w (x + 15)) ^^^ w (x + 20)
def kk_1 (v : Int64) : Int64 := (v <<< ((1 : Int32).toInt64 &&& 63)) ||| ((v.toUInt64 >>> ((63 : Int32).toInt64.toUInt64 &&& Int64.toUInt64 63)).toInt64)
def kk_m (w : Nat → Int64) (x : Nat) : Int64 := kk_c w ((x + 4) % 5) ^^^ kk_1 (kk_c w ((x + 1) % 5))
def kk_t (w : Nat → Int64) (j : Nat) : Int64 := w j ^^^ kk_m w (j % 5)
def kk_r (v : Int64) (d : Int32) : Int64 := (v <<< ((d : Int32).toInt64 &&& 63)) ||| ((v.toUInt64 >>> (((64 - d) : Int32).toInt64.toUInt64 &&& Int64.toUInt64 63)).toInt64)
def kk_T (i : Nat) : Nat := (pl_t0.getD i 0).toNatClampNeg
def kk_x (b : Nat → Int64) (y i : Nat) : Int64 := b (y + i) ^^^ ((b (y + (i + 1) % 5) ^^^ (-1)) &&& b (y + (i + 2) % 5))
set_option maxHeartbeats 1000000 in
/-- the first loop of mixColumns -/
theorem kh_mc2 {a w t c : Nat} : ∀ (m : Nat) (k x : Nat) (f : pl_H), 5 - x = m → x ≤ 5 → m < k → kh_L f a w t c → ∃ f', fn_H_mixColumns_2 k f a (nI x) = fn_H_mixColumns_66 pl_N f' a 0 ∧ kh_L f' a w t c ∧ bs_kp (kh_S w t c) f f' ∧ ax_L f' w = ax_L f w ∧ (∀ j, j < x → ax_L f' c j = ax_L f c j) ∧ (∀ j, x ≤ j → j < 5 → ax_L f' c j = kk_c (ax_L f w) j) := by
  intro m
  induction m with
  | zero =>
    intro k x f hm hx hk h
    have hx5 : x = 5 := by omega
    subst hx5
    obtain ⟨k, rfl⟩ : ∃ k', k = k' + 1 := ⟨k - 1, by omega⟩
    refine ⟨f, ?_, h, bs_kp.rf, rfl, fun _ _ => rfl, fun j h1 h2 => absurd h2 (by omega)⟩
    rfl
  | succ m ih =>
    intro k x f hm hx hk h
    obtain ⟨k, rfl⟩ : ∃ k', k = k' + 1 := ⟨k - 1, by omega⟩
    have hlt : ¬ (5 : Int32) ≤ nI x := fun q => absurd ((bs_le (a := 5) (by decide) (by omega)).mp q) (by omega)
    have e5 : nI x + 5 = nI (x + 5) := nI_add x 5
    have e10 : nI x + 10 = nI (x + 10) := nI_add x 10
    have e15 : nI x + 15 = nI (x + 15) := nI_add x 15
    have e20 : nI x + 20 = nI (x + 20) := nI_add x 20
    have e1 : nI x + 1 = nI (x + 1) := nI_add x 1
    have h' := kh_up h c x (kk_c (ax_L f w) x)
    obtain ⟨f', g1, g2, g3, g4, g5, g6⟩ := ih k (x + 1) _ (by omega) (by omega) (by omega) h'
    have hwc : w ≠ c := h.2.2.2.2.2.2.2.2.1
    refine ⟨f', ?_, g2, (bs_kp.L (Or.inr (Or.inr rfl))).tr g3, by rw [g4, rx_L_ne hwc], fun j hj => ?_, fun j h1 h2 => ?_⟩
    · rw [← g1]
      conv => lhs; unfold fn_H_mixColumns_2
      simp only [if_neg hlt, kh_2 h, kh_0 h, e5, e10, e15, e20, e1, kh_w h (show x < 25 by omega), kh_w h (show x + 5 < 25 by omega), kh_w h (show x + 10 < 25 by omega), kh_w h (show x + 15 < 25 by omega), kh_w h (show x + 20 < 25 by omega), Option.bind_some]
      rw [kh_sc h (show x < 5 by omega)]
      rfl
    · rw [g5 j (by omega), rx_L h.2.2.2.2.2.2.1, bs_vL, if_neg (by omega)]
    · by_cases hj : j = x
      · subst hj
        rw [g5 j (by omega), rx_L h.2.2.2.2.2.2.1, bs_vL, if_pos rfl]
      · rw [g6 j (by omega) h2, rx_L_ne hwc]
