/-! The reference's accounts stand for a map. -/
def mo_R (f : pl_H) (a c : Nat) (m : am_M) : Prop := mo_L f a ∧ ax_i f a 0 = nI c ∧ c ≤ 12 ∧ am_R c (ax_I f (a + 1)) (ax_I f (a + 2)) (ax_L f (a + 3)) m
def mo_A (a : Nat) : Nat → Prop := fun q => a ≤ q ∧ q ≤ a + 3
theorem mo_R_kp {f f' : pl_H} {a c : Nat} {m : am_M} {S : Nat → Prop} (h : mo_R f a c m) (hL : mo_L f' a) (h0 : ax_i f' a 0 = ax_i f a 0) (hk : bs_kp S f f') (hS : ∀ q, a < q → q ≤ a + 3 → ¬ S q) : mo_R f' a c m := by
  obtain ⟨h1, h2, h3, h4⟩ := h
  have e1 := hk (a + 1) (hS _ (by omega) (by omega))
  have e2 := hk (a + 2) (hS _ (by omega) (by omega))
  have e3 := hk (a + 3) (hS _ (by omega) (by omega))
  refine ⟨hL, by rw [h0]; exact h2, h3, ?_⟩
  unfold ax_I ax_L
  rw [e1, e2, e3]
  exact h4
theorem ma_find4 {f : pl_H} {a c : Nat} {m : am_M} (h : mo_R f a c m) (x : Int32) : ∀ (d k z : Nat) (b : Int32), c - z = d → z ≤ c → d < k → ((∃ j, j < z ∧ ax_I f (a + 1) j = x ∧ b = nI j) ∨ ((∀ j, j < z → ax_I f (a + 1) j ≠ x) ∧ b = -1)) → ∃ r, fn_M_find_4 k f a x b (nI z) = some r ∧ ((∃ j, j < c ∧ ax_I f (a + 1) j = x ∧ r = nI j) ∨ (m x = none ∧ r = -1)) := by
  have hc := h.2.2.1
  intro d
  induction d with
  | zero =>
    intro k z b hd hz hk hb
    have hzc : z = c := by omega
    subst hzc
    obtain ⟨k, rfl⟩ : ∃ k', k = k' + 1 := ⟨k - 1, by omega⟩
    refine ⟨b, ?_, ?_⟩
    · unfold fn_M_find_4
      simp only [mo_many h.1, h.2.1, Option.bind_some]
      rw [if_pos ((bs_le (by omega) (by omega)).mpr (Nat.le_refl _))]
    · rcases hb with hb | ⟨h1, h2⟩
      · exact Or.inl hb
      · exact Or.inr ⟨am_no h.2.2.2 h1, h2⟩
  | succ d ih =>
    intro k z b hd hz hk hb
    obtain ⟨k, rfl⟩ : ∃ k', k = k' + 1 := ⟨k - 1, by omega⟩
    have hz1 : z + 1 ≤ c := by clear hb; omega
    have hd1 : c - (z + 1) = d := by clear hb; omega
    have hk1 : d < k := by clear hb; omega
    have hz13 : z < 13 := by clear hb; omega
    have hn : ¬ nI c ≤ nI z := by
      clear hb
      exact fun q => absurd ((bs_le (by omega) (by omega)).mp q) (by omega)
    have hzz : z < z + 1 := Nat.lt_succ_self z
    have step : ∀ b', fn_M_find_27 (fn_M_find_4 k) f a x (nI z) b' = fn_M_find_4 k f a x b' (nI (z + 1)) := fun b' => by
      unfold fn_M_find_27
      rw [show nI z + 1 = nI (z + 1) from nI_add z 1]
    by_cases e : ax_I f (a + 1) z = x
    · obtain ⟨r, r1, r2⟩ := ih k (z + 1) (nI z) hd1 hz1 hk1 (Or.inl ⟨z, hzz, e, rfl⟩)
      refine ⟨r, ?_, r2⟩
      rw [← r1, ← step]
      conv => lhs; unfold fn_M_find_4
      simp only [mo_many h.1, h.2.1, Option.bind_some]
      rw [if_neg hn]
      simp only [mo_number h.1, mo_number_g h.1 hz13, Option.bind_some, if_pos e]
    · obtain ⟨r, r1, r2⟩ := ih k (z + 1) b hd1 hz1 hk1 (by
        rcases hb with ⟨j, j1, j2, j3⟩ | ⟨h1, h2⟩
        · exact Or.inl ⟨j, Nat.lt_succ_of_lt j1, j2, j3⟩
        · refine Or.inr ⟨fun j hj => ?_, h2⟩
          by_cases ej : j = z
          · rw [ej]; exact e
          · exact h1 j (by omega))
      refine ⟨r, ?_, r2⟩
      rw [← r1, ← step]
      conv => lhs; unfold fn_M_find_4
      simp only [mo_many h.1, h.2.1, Option.bind_some]
      rw [if_neg hn]
      simp only [mo_number h.1, mo_number_g h.1 hz13, Option.bind_some, if_neg e]
theorem ma_find {f : pl_H} {a c : Nat} {m : am_M} (h : mo_R f a c m) (x : Int32) : ∃ r, fn_M_find f a x = some r ∧ ((∃ j, j < c ∧ ax_I f (a + 1) j = x ∧ r = nI j) ∨ (m x = none ∧ r = -1)) := ma_find4 h x c pl_N 0 (-1) (by omega) (by omega) (by have := h.2.2.1; unfold pl_N; omega) (Or.inr ⟨fun j hj => absurd hj (by omega), rfl⟩)
theorem ma_nonce {f : pl_H} {a c : Nat} {m : am_M} (h : mo_R f a c m) (x : Int32) : fn_M_nonce f a x = some (am_n m x) := by
  obtain ⟨r, r1, r2⟩ := ma_find h x
  have hc := h.2.2.1
  unfold fn_M_nonce fn_M_nonce_20
  simp only [ax_is h.1.1, r1, Option.bind_some]
  rcases r2 with ⟨j, j1, j2, rfl⟩ | ⟨j1, rfl⟩
  · rw [if_pos (nI_pos' (by omega)), mo_nonces h.1]
    simp only [Option.bind_some, mo_nonces_g h.1 (show j < 13 by omega)]
    unfold am_n
    rw [← j2, am_at h.2.2.2 j1]
  · rw [if_neg (by decide)]
    unfold am_n
    rw [j1]
theorem ma_balance {f : pl_H} {a c : Nat} {m : am_M} (h : mo_R f a c m) (x : Int32) : fn_M_balance f a x = some (am_b m x) := by
  obtain ⟨r, r1, r2⟩ := ma_find h x
  have hc := h.2.2.1
  unfold fn_M_balance fn_M_balance_20
  simp only [ax_is h.1.1, r1, Option.bind_some]
  rcases r2 with ⟨j, j1, j2, rfl⟩ | ⟨j1, rfl⟩
  · rw [if_pos (nI_pos' (by omega)), mo_balances h.1]
    simp only [Option.bind_some, mo_balances_g h.1 (show j < 13 by omega)]
    unfold am_b
    rw [← j2, am_at h.2.2.2 j1]
  · rw [if_neg (by decide)]
    unfold am_b
    rw [j1]
theorem am_up_up {m : am_M} {x : Int32} {u v : Option (Int32 × Int64)} : am_up (am_up m x u) x v = am_up m x v := by
  funext y
  unfold am_up
  by_cases e : y = x
  · rw [if_pos e, if_pos e]
  · rw [if_neg e, if_neg e, if_neg e]
theorem am_up_same {m : am_M} {x : Int32} {v : Int32 × Int64} (h : m x = some v) : am_up m x (some v) = m := by
  funext y
  unfold am_up
  by_cases e : y = x
  · rw [if_pos e, e, h]
  · rw [if_neg e]
set_option maxHeartbeats 1000000 in
/-- open(account): its place, and it is there -/
theorem ma_open {f : pl_H} {a c : Nat} {m : am_M} (h : mo_R f a c m) {y : Nat} (hy : y < 65536) (hroom : m (nI y) = none → c < 12) : ∃ p f' c', fn_M_open f a (nI y) = some (nI p, f') ∧ mo_R f' a c' (am_up m (nI y) (some (am_n m (nI y), am_b m (nI y)))) ∧ p < c' ∧ ax_I f' (a + 1) p = nI y ∧ bs_kp (mo_A a) f f' ∧ (∀ k, k ≠ 0 → ax_v f' a k = ax_v f a k) ∧ c' + am_1 (m (nI y)) = c + 1 := by
  have hc := h.2.2.1
  obtain ⟨r, r1, r2⟩ := ma_find h (nI y)
  rcases r2 with ⟨p, p1, p2, rfl⟩ | ⟨p1, rfl⟩
  · have hsome : m (nI y) = some (ax_I f (a + 2) p, ax_L f (a + 3) p) := by rw [← p2]; exact am_at h.2.2.2 p1
    refine ⟨p, f, c, ?_, ?_, p1, p2, bs_kp.rf, fun _ _ => rfl, by rw [hsome]; rfl⟩
    · unfold fn_M_open fn_M_open_46
      simp only [ax_is h.1.1, r1, Option.bind_some]
      rw [if_pos (nI_pos' (by omega))]
    · have e : some (am_n m (nI y), am_b m (nI y)) = m (nI y) := by unfold am_n am_b; rw [hsome]
      rw [e, hsome, am_up_same hsome]
      exact h
  · have hc12 := hroom p1
    have h1 := mo_uI h.1 (a + 1) c (nI y)
    have h2 := mo_uI h1 (a + 2) c 0
    have h3 := mo_uL h2 (a + 3) c 0
    have h4 := mo_uF h3 (k := 0) (v := .int (nI (c + 1))) rfl (show (0 : Nat) ≠ 2 by decide)
    have eN : ∀ j, ax_I (ux_f (ux_L (ux_I (ux_I f (a + 1) c (nI y)) (a + 2) c 0) (a + 3) c 0) a 0 (.int (nI (c + 1)))) (a + 1) j = if j = c then nI y else ax_I f (a + 1) j := fun j => by rw [rx_I_f, rx_I_L, rx_I_ne (show a + 1 ≠ a + 2 by omega), rx_I (mo_number_s h.1), bs_vI]
    have eO : ∀ j, ax_I (ux_f (ux_L (ux_I (ux_I f (a + 1) c (nI y)) (a + 2) c 0) (a + 3) c 0) a 0 (.int (nI (c + 1)))) (a + 2) j = if j = c then 0 else ax_I f (a + 2) j := fun j => by rw [rx_I_f, rx_I_L, rx_I (mo_nonces_s h1), bs_vI, rx_I_ne (show a + 2 ≠ a + 1 by omega)]
    have eB : ∀ j, ax_L (ux_f (ux_L (ux_I (ux_I f (a + 1) c (nI y)) (a + 2) c 0) (a + 3) c 0) a 0 (.int (nI (c + 1)))) (a + 3) j = if j = c then 0 else ax_L f (a + 3) j := fun j => by rw [rx_L_f, rx_L (mo_balances_s h2), bs_vL, rx_L_I, rx_L_I]
    refine ⟨c, _, c + 1, ?_, ⟨h4, ix_f h3.1 (by decide), by omega, ?_⟩, by omega, by rw [eN, if_pos rfl], ((bs_kp.I (by unfold mo_A; omega)).tr (bs_kp.I (by unfold mo_A; omega))).tr ((bs_kp.L (by unfold mo_A; omega)).tr (bs_kp.f (by unfold mo_A; omega))), fun k hk => ?_, by rw [p1]; rfl⟩
    · unfold fn_M_open fn_M_open_46
      simp only [ax_is h.1.1, r1, Option.bind_some]
      rw [if_neg (by decide)]
      simp only [mo_many h.1, h.2.1, mo_number h.1, mo_number_w h.1 (show c < 13 by omega), mo_nonces h1, mo_nonces_w h1 (show c < 13 by omega), mo_balances h2, mo_balances_w h2 (show c < 13 by omega), mo_many h3, Option.bind_some]
      rw [ix_L, ix_I, ix_I, h.2.1, show nI c + 1 = nI (c + 1) from nI_add c 1, mo_many_p h3]
      rfl
    · have hs := am_ins (n' := ax_I (ux_f (ux_L (ux_I (ux_I f (a + 1) c (nI y)) (a + 2) c 0) (a + 3) c 0) a 0 (.int (nI (c + 1)))) (a + 1)) (o' := ax_I (ux_f (ux_L (ux_I (ux_I f (a + 1) c (nI y)) (a + 2) c 0) (a + 3) c 0) a 0 (.int (nI (c + 1)))) (a + 2)) (b' := ax_L (ux_f (ux_L (ux_I (ux_I f (a + 1) c (nI y)) (a + 2) c 0) (a + 3) c 0) a 0 (.int (nI (c + 1)))) (a + 3)) h.2.2.2 (p := c) (Nat.le_refl _) hy p1 (by rw [eN, if_pos rfl]) (fun j hj => by
        rw [eN, eO, eB, if_neg (by omega), if_neg (by omega), if_neg (by omega)]
        exact ⟨rfl, rfl, rfl⟩) (fun j h1 h2 => absurd h2 (by omega))
      rw [eO, eB, if_pos rfl, if_pos rfl] at hs
      have e : (some (am_n m (nI y), am_b m (nI y)) : Option (Int32 × Int64)) = some (0, 0) := by unfold am_n am_b; rw [p1]
      rw [e]
      exact hs
    · rw [rx_v_fne (Or.inr hk), rx_v_L, rx_v_I, rx_v_I]
/-- another balance at a place -/
theorem ma_setB {f : pl_H} {a c : Nat} {m : am_M} (h : mo_R f a c m) {p : Nat} (hp : p < c) (bb : Int64) : mo_R (ux_L f (a + 3) p bb) a c (am_up m (ax_I f (a + 1) p) (some (ax_I f (a + 2) p, bb))) := by
  refine ⟨mo_uL h.1 _ _ _, by rw [ix_L]; exact h.2.1, h.2.2.1, ?_⟩
  have hs := am_set (o' := ax_I (ux_L f (a + 3) p bb) (a + 2)) (b' := ax_L (ux_L f (a + 3) p bb) (a + 3)) h.2.2.2 hp (fun j hj hne => by rw [rx_I_L]) (fun j hj hne => by rw [rx_L (mo_balances_s h.1), bs_vL, if_neg hne])
  rw [rx_I_L, show ax_L (ux_L f (a + 3) p bb) (a + 3) p = bb by rw [rx_L (mo_balances_s h.1), bs_vL, if_pos rfl]] at hs
  exact am_c hs (fun j _ => by rw [rx_I_L]) (fun _ _ => by rw [rx_I_L]) (fun _ _ => rfl)
/-- another nonce at a place -/
theorem ma_setN {f : pl_H} {a c : Nat} {m : am_M} (h : mo_R f a c m) {p : Nat} (hp : p < c) (nn : Int32) : mo_R (ux_I f (a + 2) p nn) a c (am_up m (ax_I f (a + 1) p) (some (nn, ax_L f (a + 3) p))) := by
  refine ⟨mo_uI h.1 _ _ _, by rw [ix_I]; exact h.2.1, h.2.2.1, ?_⟩
  have hs := am_set (o' := ax_I (ux_I f (a + 2) p nn) (a + 2)) (b' := ax_L (ux_I f (a + 2) p nn) (a + 3)) h.2.2.2 hp (fun j hj hne => by rw [rx_I (mo_nonces_s h.1), bs_vI, if_neg hne]) (fun j hj hne => by rw [rx_L_I])
  rw [rx_L_I, show ax_I (ux_I f (a + 2) p nn) (a + 2) p = nn by rw [rx_I (mo_nonces_s h.1), bs_vI, if_pos rfl]] at hs
  exact am_c hs (fun j _ => by rw [rx_I_ne (show a + 1 ≠ a + 2 by omega)]) (fun _ _ => rfl) (fun _ _ => by rw [rx_L_I])
set_option maxHeartbeats 2000000 in
theorem ma_close35 {a c : Nat} (hc : c < 12) : ∀ (d k x : Nat) (f : pl_H), c - x = d → x ≤ c → d < k → mo_L f a → ax_i f a 0 = nI c → ∃ f', fn_M_close_35 k f a (nI x) = some (1, f') ∧ mo_L f' a ∧ bs_kp (mo_A a) f f' ∧ (∀ k, k ≠ 5 → ax_v f' a k = ax_v f a k) ∧ ax_i f' a 5 = 0 ∧ (∀ j, j < x → bk_eq f' f a j j) ∧ ∀ j, x ≤ j → j < c → bk_eq f' f a j (j + 1) := by
  intro d
  induction d with
  | zero =>
    intro k x f hd hx hk h hn
    have hxc : x = c := by omega
    subst hxc
    obtain ⟨k, rfl⟩ : ∃ k', k = k' + 1 := ⟨k - 1, by omega⟩
    refine ⟨_, ?_, mo_uF h (k := 5) (v := .int 0) rfl (by decide), bs_kp.f (by unfold mo_A; omega), fun k hk => rx_v_fne (Or.inr hk), ix_f h.1 (by decide), fun j hj => ⟨by rw [rx_I_f], by rw [rx_I_f], by rw [rx_L_f]⟩, fun j h1 h2 => absurd h2 (by omega)⟩
    conv => lhs; unfold fn_M_close_35
    simp only [mo_many h, hn, Option.bind_some]
    rw [if_pos ((bs_le (by omega) (by omega)).mpr (Nat.le_refl _)), mo_worked_p h]
    rfl
  | succ d ih =>
    intro k x f hd hx hk h hn
    obtain ⟨k, rfl⟩ : ∃ k', k = k' + 1 := ⟨k - 1, by omega⟩
    have h1 := mo_uI h (a + 1) x (ax_I f (a + 1) (x + 1))
    have h2 := mo_uI h1 (a + 2) x (ax_I f (a + 2) (x + 1))
    have h3 := mo_uL h2 (a + 3) x (ax_L f (a + 3) (x + 1))
    have e1 : nI x + 1 = nI (x + 1) := nI_add x 1
    have eq3 : ∀ q, bk_eq (ux_L (ux_I (ux_I f (a + 1) x (ax_I f (a + 1) (x + 1))) (a + 2) x (ax_I f (a + 2) (x + 1))) (a + 3) x (ax_L f (a + 3) (x + 1))) f a q (if q = x then x + 1 else q) := fun q => by
      refine ⟨?_, ?_, ?_⟩
      · rw [rx_I_L, rx_I_ne (show a + 1 ≠ a + 2 by omega), rx_I (mo_number_s h), bs_vI]
        split <;> rfl
      · rw [rx_I_L, rx_I (mo_nonces_s h1), bs_vI, rx_I_ne (show a + 2 ≠ a + 1 by omega)]
        split <;> rfl
      · rw [rx_L (mo_balances_s h2), bs_vL, rx_L_I, rx_L_I]
        split <;> rfl
    obtain ⟨f', g1, g2, g3, g4, g5, g6, g7⟩ := ih k (x + 1) _ (by omega) (by omega) (by omega) h3 (by rw [ix_L, ix_I, ix_I]; exact hn)
    have tr : ∀ {j i i' : Nat} {f1 : pl_H}, bk_eq f' f1 a j i → bk_eq f1 f a i i' → bk_eq f' f a j i' := fun p q => ⟨p.1.trans q.1, p.2.1.trans q.2.1, p.2.2.trans q.2.2⟩
    refine ⟨f', ?_, g2, (((bs_kp.I (by unfold mo_A; omega)).tr (bs_kp.I (by unfold mo_A; omega))).tr (bs_kp.L (by unfold mo_A; omega))).tr g3, fun k hk => by rw [g4 k hk, rx_v_L, rx_v_I, rx_v_I], g5, fun j hj => ?_, fun j hj1 hj2 => ?_⟩
    · rw [← g1]
      conv => lhs; unfold fn_M_close_35
      simp only [mo_many h, hn, Option.bind_some]
      rw [if_neg (fun q => absurd ((bs_le (by omega) (by omega)).mp q) (by omega))]
      simp only [e1, mo_number h, mo_number_g h (show x + 1 < 13 by omega), mo_number_w h (show x < 13 by omega), mo_nonces h1, mo_nonces_g h1 (show x + 1 < 13 by omega), Option.bind_some]
      rw [rx_I_ne (show a + 2 ≠ a + 1 by omega)]
      simp only [mo_nonces_w h1 (show x < 13 by omega), mo_balances h2, mo_balances_g h2 (show x + 1 < 13 by omega), Option.bind_some]
      rw [rx_L_I, rx_L_I, mo_balances_w h2 (show x < 13 by omega)]
      rfl
    · have := eq3 j
      rw [if_neg (by omega)] at this
      exact tr (g6 j (by omega)) this
    · by_cases e : j = x
      · subst e
        have := eq3 j
        rw [if_pos rfl] at this
        exact tr (g6 j (by omega)) this
      · have := eq3 (j + 1)
        rw [if_neg (by omega)] at this
        exact tr (g7 j (by omega) hj2) this
