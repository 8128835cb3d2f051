/-! The class's book. -/
def bk_L (f : pl_H) (a : Nat) : Prop := ax_sh (f a) = (1, 0, [2, 2, 2, 0]) ∧ ax_r f a 0 = some (a + 1) ∧ ax_r f a 1 = some (a + 2) ∧ ax_r f a 2 = some (a + 3) ∧ ax_sh (f (a + 1)) = (2, 0, [12]) ∧ ax_sh (f (a + 2)) = (2, 0, [12]) ∧ ax_sh (f (a + 3)) = (3, 1, [12])
def bk_S (a : Nat) : Nat → Prop := fun q => a ≤ q ∧ q ≤ a + 3
theorem bk_kp {f f' : pl_H} {a : Nat} {S : Nat → Prop} (h : bk_L f a) (hk : bs_kp S f f') (hS : ∀ q, a ≤ q → q ≤ a + 3 → ¬ S q) : bk_L f' a := by
  have e0 := hk a (hS a (Nat.le_refl _) (by omega))
  obtain ⟨h0, h1, h2, h3, h4, h5, h6⟩ := h
  refine ⟨by rw [e0]; exact h0, ?_, ?_, ?_, by rw [hk _ (hS _ (by omega) (by omega))]; exact h4, by rw [hk _ (hS _ (by omega) (by omega))]; exact h5, by rw [hk _ (hS _ (by omega) (by omega))]; exact h6⟩
  · unfold ax_r ax_v; rw [e0]; exact h1
  · unfold ax_r ax_v; rw [e0]; exact h2
  · unfold ax_r ax_v; rw [e0]; exact h3
theorem bk_uI {f : pl_H} {a : Nat} (h : bk_L f a) (b k : Nat) (x : Int32) : bk_L (ux_I f b k x) a := by
  obtain ⟨h0, h1, h2, h3, h4, h5, h6⟩ := h
  refine ⟨by rw [sx_I]; exact h0, ?_, ?_, ?_, by rw [sx_I]; exact h4, by rw [sx_I]; exact h5, by rw [sx_I]; exact h6⟩
  · unfold ax_r; rw [rx_v_I]; exact h1
  · unfold ax_r; rw [rx_v_I]; exact h2
  · unfold ax_r; rw [rx_v_I]; exact h3
theorem bk_uL {f : pl_H} {a : Nat} (h : bk_L f a) (b k : Nat) (x : Int64) : bk_L (ux_L f b k x) a := by
  obtain ⟨h0, h1, h2, h3, h4, h5, h6⟩ := h
  refine ⟨by rw [sx_L]; exact h0, ?_, ?_, ?_, by rw [sx_L]; exact h4, by rw [sx_L]; exact h5, by rw [sx_L]; exact h6⟩
  · unfold ax_r; rw [rx_v_L]; exact h1
  · unfold ax_r; rw [rx_v_L]; exact h2
  · unfold ax_r; rw [rx_v_L]; exact h3
theorem bk_u3 {f : pl_H} {a : Nat} (h : bk_L f a) (x : Int32) : bk_L (ux_f f a 3 (.int x)) a := by
  have hs := sx_f (v := .int x) h.1 (k := 3) rfl
  obtain ⟨h0, h1, h2, h3, h4, h5, h6⟩ := h
  refine ⟨by rw [hs]; exact h0, ?_, ?_, ?_, by rw [hs]; exact h4, by rw [hs]; exact h5, by rw [hs]; exact h6⟩
  · unfold ax_r; rw [rx_v_fne (Or.inr (by decide))]; exact h1
  · unfold ax_r; rw [rx_v_fne (Or.inr (by decide))]; exact h2
  · unfold ax_r; rw [rx_v_fne (Or.inr (by decide))]; exact h3
theorem bk_c {f : pl_H} {a : Nat} (h : bk_L f a) : pl_gI f a 0 3 = some (ax_i f a 3) := ax_gI h.1 rfl
theorem bk_0 {f : pl_H} {a : Nat} (h : bk_L f a) : pl_gR f a 0 0 = some (a + 1) := (ax_gR h.1 rfl).trans h.2.1
theorem bk_1 {f : pl_H} {a : Nat} (h : bk_L f a) : pl_gR f a 0 1 = some (a + 2) := (ax_gR h.1 rfl).trans h.2.2.1
theorem bk_2 {f : pl_H} {a : Nat} (h : bk_L f a) : pl_gR f a 0 2 = some (a + 3) := (ax_gR h.1 rfl).trans h.2.2.2.1
theorem bk_g0 {f : pl_H} {a j : Nat} (h : bk_L f a) (hj : j < 12) : pl_aI f (a + 1) (nI j) = some (ax_I f (a + 1) j) := bs_aI h.2.2.2.2.1 hj (by decide)
theorem bk_g1 {f : pl_H} {a j : Nat} (h : bk_L f a) (hj : j < 12) : pl_aI f (a + 2) (nI j) = some (ax_I f (a + 2) j) := bs_aI h.2.2.2.2.2.1 hj (by decide)
theorem bk_g2 {f : pl_H} {a j : Nat} (h : bk_L f a) (hj : j < 12) : pl_aL f (a + 3) (nI j) = some (ax_L f (a + 3) j) := bs_aL h.2.2.2.2.2.2 hj (by decide)
theorem bk_w0 {f : pl_H} {a j : Nat} (h : bk_L f a) (hj : j < 12) (x : Int32) : pl_sI f (a + 1) (nI j) x = some (ux_I f (a + 1) j x) := bs_sI h.2.2.2.2.1 hj (by decide) x
theorem bk_w1 {f : pl_H} {a j : Nat} (h : bk_L f a) (hj : j < 12) (x : Int32) : pl_sI f (a + 2) (nI j) x = some (ux_I f (a + 2) j x) := bs_sI h.2.2.2.2.2.1 hj (by decide) x
theorem bk_w2 {f : pl_H} {a j : Nat} (h : bk_L f a) (hj : j < 12) (x : Int64) : pl_sL f (a + 3) (nI j) x = some (ux_L f (a + 3) j x) := bs_sL h.2.2.2.2.2.2 hj (by decide) x
theorem ix_f {f : pl_H} {a k ci : Nat} {x : Int32} {tg : List Nat} (h : ax_sh (f a) = (1, ci, tg)) (hk : k < tg.length) : ax_i (ux_f f a k (.int x)) a k = x := by unfold ax_i; rw [rx_v_f h hk]
theorem ix_fne {f : pl_H} {a k : Nat} {v : Value} {b j : Nat} (h : b ≠ a ∨ j ≠ k) : ax_i (ux_f f a k v) b j = ax_i f b j := by unfold ax_i; rw [rx_v_fne h]
/-- the three rows at a place of f' are those of f at a place -/
def bk_eq (f' f : pl_H) (a j i : Nat) : Prop := ax_I f' (a + 1) j = ax_I f (a + 1) i ∧ ax_I f' (a + 2) j = ax_I f (a + 2) i ∧ ax_L f' (a + 3) j = ax_L f (a + 3) i
set_option maxHeartbeats 1000000 in
theorem bk_move {f : pl_H} {a i j : Nat} (h : bk_L f a) (hi : i < 12) (hj : j < 12) : ∃ f', fn_B_move f a (nI i) (nI j) = some f' ∧ bk_L f' a ∧ bs_kp (bk_S a) f f' ∧ ax_i f' a 3 = ax_i f a 3 ∧ ∀ q, bk_eq f' f a q (if q = j then i else q) := by
  have h1 := bk_uI h (a + 1) j (ax_I f (a + 1) i)
  have h2 := bk_uI h1 (a + 2) j (ax_I f (a + 2) i)
  have h3 := bk_uL h2 (a + 3) j (ax_L f (a + 3) i)
  refine ⟨_, ?_, h3, ((bs_kp.I (by unfold bk_S; omega)).tr (bs_kp.I (by unfold bk_S; omega))).tr (bs_kp.L (by unfold bk_S; omega)), by rw [ix_L, ix_I, ix_I], fun q => ?_⟩
  · unfold fn_B_move
    simp only [bk_0 h, bk_g0 h hi, bk_w0 h hj, Option.bind_some, bk_1 h1, bk_g1 h1 hi, bk_w1 h1 hj, bk_2 h2, bk_g2 h2 hi]
    rw [rx_I_ne (show a + 2 ≠ a + 1 by omega)]
    simp only [Option.bind_some, bk_2 h2, bk_g2 h2 hi, bk_w2 h2 hj]
    rw [rx_L_I, rx_L_I]
  · refine ⟨?_, ?_, ?_⟩
    · rw [rx_I_L, rx_I_ne (show a + 1 ≠ a + 2 by omega), rx_I h.2.2.2.2.1, bs_vI]
      split <;> rfl
    · rw [rx_I_L, rx_I h1.2.2.2.2.2.1, bs_vI, rx_I_ne (show a + 2 ≠ a + 1 by omega)]
      split <;> rfl
    · rw [rx_L h2.2.2.2.2.2.2, bs_vL, rx_L_I, rx_L_I]
      split <;> rfl
set_option maxHeartbeats 1000000 in
theorem bk_rem2 {a c : Nat} (hc : c < 12) : ∀ (m k x : Nat) (f : pl_H), c - x = m → x ≤ c → m < k → bk_L f a → ax_i f a 3 = nI (c + 1) → ∃ f', fn_B_remove_2 k f a (nI x) = some f' ∧ bk_L f' a ∧ bs_kp (bk_S a) f f' ∧ ax_i f' a 3 = nI c ∧ (∀ j, j < x → bk_eq f' f a j j) ∧ ∀ j, x ≤ j → j < c → bk_eq f' f a j (j + 1) := by
  have e1 : nI (c + 1) - 1 = nI c := nI_pred c
  intro m
  induction m with
  | zero =>
    intro k x f hm hx hk h hn
    have hxc : x = c := by omega
    subst hxc
    obtain ⟨k, rfl⟩ : ∃ k', k = k' + 1 := ⟨k - 1, by omega⟩
    refine ⟨_, ?_, bk_u3 h (nI x), bs_kp.f (by unfold bk_S; omega), ix_f h.1 (by decide), fun j hj => ⟨by rw [rx_I_f], by rw [rx_I_f], by rw [rx_L_f]⟩, fun j h1 h2 => absurd h2 (by omega)⟩
    conv => lhs; unfold fn_B_remove_2
    simp only [bk_c h, hn, e1, Option.bind_some]
    rw [if_pos ((bs_le (by omega) (by omega)).mpr (Nat.le_refl _)), ax_pV h.1 (by decide)]
    rfl
  | succ m ih =>
    intro k x f hm hx hk h hn
    obtain ⟨k, rfl⟩ : ∃ k', k = k' + 1 := ⟨k - 1, by omega⟩
    obtain ⟨f1, a1, a2, a3, a4, a5⟩ := bk_move h (show x + 1 < 12 by omega) (show x < 12 by omega)
    obtain ⟨f', g1, g2, g3, g4, g5, g6⟩ := ih k (x + 1) f1 (by omega) (by omega) (by omega) a2 (by rw [a4]; exact hn)
    have tr : ∀ {j i i' : Nat}, bk_eq f' f1 a j i → bk_eq f1 f a i i' → bk_eq f' f a j i' := fun p q => ⟨p.1.trans q.1, p.2.1.trans q.2.1, p.2.2.trans q.2.2⟩
    refine ⟨f', ?_, g2, a3.tr g3, g4, fun j hj => ?_, fun j h1 h2 => ?_⟩
    · rw [← g1]
      conv => lhs; unfold fn_B_remove_2
      simp only [bk_c h, hn, e1, Option.bind_some]
      rw [if_neg (fun q => absurd ((bs_le (by omega) (by omega)).mp q) (by omega)), ax_is h.1]
      simp only [Option.bind_some]
      rw [show nI x + 1 = nI (x + 1) from nI_add x 1, a1]
      rfl
    · have := a5 j
      rw [if_neg (by omega)] at this
      exact tr (g5 j (by omega)) this
    · by_cases e : j = x
      · subst e
        have := a5 j
        rw [if_pos rfl] at this
        exact tr (g5 j (by omega)) this
      · have := a5 (j + 1)
        rw [if_neg (by omega)] at this
        exact tr (g6 j (by omega) h2) this
set_option maxHeartbeats 1000000 in
theorem bk_ins16 {a c : Nat} {x : Int32} (hc : c < 12) : ∀ (z k : Nat) (f : pl_H), z ≤ c → z < k → bk_L f a → ax_i f a 3 = nI c → ∃ p f', fn_B_insert_16 k f a x (nI z) = some (nI p, f') ∧ p ≤ z ∧ bk_L f' a ∧ bs_kp (bk_S a) f f' ∧ ax_i f' a 3 = nI (c + 1) ∧ ax_I f' (a + 1) p = x ∧ (∀ j, j < p → bk_eq f' f a j j) ∧ (∀ j, p ≤ j → j < z → bk_eq f' f a (j + 1) j) ∧ (∀ j, z < j → bk_eq f' f a j j) ∧ (∀ j, p ≤ j → j < z → x < ax_I f (a + 1) j) ∧ (0 < p → ax_I f (a + 1) (p - 1) ≤ x) := by
  have stop : ∀ (z : Nat) (f : pl_H), z ≤ c → bk_L f a → ax_i f a 3 = nI c → ∃ f', fn_B_insert_46 f a x (nI z) = some (nI z, f') ∧ bk_L f' a ∧ bs_kp (bk_S a) f f' ∧ ax_i f' a 3 = nI (c + 1) ∧ ax_I f' (a + 1) z = x ∧ ∀ j, j ≠ z → bk_eq f' f a j j := by
    intro z f hz h hn
    have h1 := bk_uI h (a + 1) z x
    refine ⟨_, ?_, bk_u3 h1 (nI (c + 1)), (bs_kp.I (by unfold bk_S; omega)).tr (bs_kp.f (by unfold bk_S; omega)), ix_f h1.1 (by decide), ?_, fun j hj => ⟨?_, ?_, ?_⟩⟩
    · unfold fn_B_insert_46
      simp only [bk_0 h, bk_w0 h (show z < 12 by omega), Option.bind_some, bk_c h1]
      rw [ix_I, hn, show nI c + 1 = nI (c + 1) from nI_add c 1, ax_pV h1.1 (by decide)]
      rfl
    · rw [rx_I_f, rx_I h.2.2.2.2.1, bs_vI, if_pos rfl]
    · rw [rx_I_f, rx_I h.2.2.2.2.1, bs_vI, if_neg hj]
    · rw [rx_I_f, rx_I_ne (show a + 2 ≠ a + 1 by omega)]
    · rw [rx_L_f, rx_L_I]
  intro z
  induction z with
  | zero =>
    intro k f hz hk h hn
    obtain ⟨k, rfl⟩ : ∃ k', k = k' + 1 := ⟨k - 1, by omega⟩
    obtain ⟨f', g1, g2, g3, g4, g5, g6⟩ := stop 0 f (by omega) h hn
    refine ⟨0, f', ?_, Nat.le_refl _, g2, g3, g4, g5, fun j hj => absurd hj (by omega), fun j h1 h2 => absurd h2 (by omega), fun j hj => g6 j (by omega), fun j h1 h2 => absurd h2 (by omega), fun q => absurd q (by omega)⟩
    rw [← g1]
    rfl
  | succ z ih =>
    intro k f hz hk h hn
    obtain ⟨k, rfl⟩ : ∃ k', k = k' + 1 := ⟨k - 1, by omega⟩
    have hpos : ¬ nI (z + 1) ≤ 0 := nI_nle (by omega) (by omega)
    have em : nI (z + 1) - 1 = nI z := nI_pred z
    have em2 : nI (z + 1) + (-1) = nI z := pk_m1 z
    by_cases hle : ax_I f (a + 1) z ≤ x
    · obtain ⟨f', g1, g2, g3, g4, g5, g6⟩ := stop (z + 1) f hz h hn
      refine ⟨z + 1, f', ?_, Nat.le_refl _, g2, g3, g4, g5, fun j hj => g6 j (by omega), fun j h1 h2 => absurd h2 (by omega), fun j hj => g6 j (by omega), fun j h1 h2 => absurd h2 (by omega), fun _ => hle⟩
      rw [← g1]
      conv => lhs; unfold fn_B_insert_16
      rw [if_neg hpos]
      simp only [bk_0 h, em, bk_g0 h (show z < 12 by omega), Option.bind_some, if_pos hle]
    · obtain ⟨f1, a1, a2, a3, a4, a5⟩ := bk_move h (show z < 12 by omega) (show z + 1 < 12 by omega)
      obtain ⟨p, f', g1, g2, g3, g4, g5, g6, g7, g8, g9, g10, g11⟩ := ih k f1 (by omega) (by omega) a2 (by rw [a4]; exact hn)
      have tr : ∀ {j i i' : Nat}, bk_eq f' f1 a j i → bk_eq f1 f a i i' → bk_eq f' f a j i' := fun p q => ⟨p.1.trans q.1, p.2.1.trans q.2.1, p.2.2.trans q.2.2⟩
      have same : ∀ j, j ≠ z + 1 → bk_eq f1 f a j j := fun j hj => by
        have := a5 j
        rw [if_neg hj] at this
        exact this
      refine ⟨p, f', ?_, by omega, g3, a3.tr g4, g5, g6, fun j hj => tr (g7 j hj) (same j (by omega)), fun j h1 h2 => ?_, fun j hj => tr (g9 j (by omega)) (same j (by omega)), fun j h1 h2 => ?_, fun q => ?_⟩
      · rw [← g1]
        conv => lhs; unfold fn_B_insert_16
        rw [if_neg hpos]
        simp only [bk_0 h, em, em2, bk_g0 h (show z < 12 by omega), Option.bind_some, if_neg hle, ax_is h.1, a1]
      · by_cases e : j = z
        · subst e
          have := a5 (j + 1)
          rw [if_pos rfl] at this
          exact tr (g9 (j + 1) (by omega)) this
        · exact tr (g8 j h1 (by omega)) (same j (by omega))
      · by_cases e : j = z
        · subst e
          exact Int32.not_le.mp hle
        · have := g10 j h1 (by omega)
          rw [(same j (by omega)).1] at this
          exact this
      · have := g11 q
        rw [(same (p - 1) (by omega)).1] at this
        exact this
