/-! refresh, its end: the root. -/
theorem rf_113e (k : Nat) (f : pl_H) (a : Nat) (x : Int32) : fn_T_refresh_113 (k + 1) f a x = if 32 ≤ x then some f else (pl_gR f a 5 5).bind fun v1 => (pl_gR f a 5 1).bind fun v2 => (pl_is f v2 2).bind fun u4 => (fn_H_hashByte f v2 x).bind fun v3 => (pl_sI f v1 x v3).bind fun f5 => fn_T_refresh_113 k f5 a (x + 1) := rfl
theorem gw_14 {f f' : pl_H} {n c T : Nat} {m : am_M} {W : List Int32} (h : gw f n c m W T) (hr : tr_L f' n) (hk : bs_kp (fun q => q = n + 9 ∨ q = n + 14) f f') (h6 : ax_i f' (n + 9) 6 = ax_i f (n + 9) 6) : gw f' n c m W T := by
  obtain ⟨h1, h2, h3, h4, h5, h7⟩ := h
  refine ⟨bk_R_kp h1 hk (fun q a b z => by omega), ?_, hr, cd_R_kp h4 hk (fun z => by omega) (fun z => by omega), h6.trans h5, h7⟩
  have e5 := hk (n + 5) (fun z => by omega)
  have e6 := hk (n + 6) (fun z => by omega)
  have e7 := hk (n + 7) (fun z => by omega)
  have e8 := hk (n + 8) (fun z => by omega)
  unfold kh_L ax_r ax_v at h2 ⊢
  rw [e5, e6, e7, e8]
  exact h2
theorem rf_113 {n c T : Nat} {m : am_M} {W : List Int32} {g : Nat → Int32} {len : Nat} : ∀ (j k i : Nat) (f : pl_H), 32 - i = j → i ≤ 32 → j < k → gw f n c m W T → kk_is g len (ax_L f (n + 6)) → (∀ q, q < i → ax_I f (n + 14) q = kk_h g len q) → ∃ f', fn_T_refresh_113 k f (n + 9) (nI i) = some f' ∧ gw f' n c m W T ∧ bs_kp (fun q => q = n + 14) f f' ∧ ∀ q, q < 32 → ax_I f' (n + 14) q = kk_h g len q := by
  intro j
  induction j with
  | zero =>
    intro k i f hj hi hk h hw hq
    obtain ⟨k, rfl⟩ : ∃ k', k = k' + 1 := ⟨k - 1, by omega⟩
    have e : i = 32 := by omega
    subst e
    exact ⟨f, by rw [rf_113e, if_pos (by decide)], h, bs_kp.rf, hq⟩
  | succ j ih =>
    intro k i f hj hi hk h hw hq
    obtain ⟨k, rfl⟩ : ∃ k', k = k' + 1 := ⟨k - 1, by omega⟩
    have hL := h.2.2.1
    have l1 := tr_uI hL (n + 14) i (kk_h g len i)
    have k1 : bs_kp (fun q => q = n + 14) f (ux_I f (n + 14) i (kk_h g len i)) := bs_kp.I rfl
    have w1 : gw (ux_I f (n + 14) i (kk_h g len i)) n c m W T := gw_14 h l1 (k1.mono (fun q hq => Or.inr hq)) (by rw [ix_I])
    obtain ⟨f', g1, g2, g3, g4⟩ := ih k (i + 1) _ (by omega) (by omega) (by omega) w1 (by rw [rx_L_I]; exact hw) (fun q hq' => by
      rw [rx_I hL.2.2.2.2.2.1, bs_vI]
      by_cases z : q = i
      · rw [if_pos z, z]
      · rw [if_neg z]
        exact hq q (by omega))
    refine ⟨f', ?_, g2, k1.tr g3, g4⟩
    rw [rf_113e, if_neg (show ¬ 32 ≤ nI i from fun z => absurd ((bs_le (a := 32) (by decide) (by omega)).mp z) (by omega)), tg_5 hL, Option.bind_some, tg_1 hL, Option.bind_some, ax_is h.2.1.1, Option.bind_some, kh_byte h.2.1 hw (by omega), Option.bind_some, bs_sI hL.2.2.2.2.2.1 (by omega) (by decide), Option.bind_some, show nI i + 1 = nI (i + 1) from nI_add i 1]
    exact g1
theorem tg_7 {f : pl_H} {n : Nat} (h : tr_L f n) : pl_gR f (n + 9) 5 7 = ax_r f (n + 9) 7 := ax_gR h.1 rfl
theorem rf_80 {f : pl_H} {n c T : Nat} {m : am_M} {W C : List Int32} (h : gw f n c m W T) (hC : nd_C f n 0 W C) (hl : C.length ≤ 404) : ∃ f', fn_T_refresh_80 f (n + 9) (n + 15) (n + 9) = some f' ∧ gw f' n c m W T ∧ ax_r f' (n + 9) 7 = some (n + 15) ∧ bs_kp (fun q => (n + 6 ≤ q ∧ q ≤ n + 9) ∨ q = n + 14) f f' ∧ (∀ k, k ≠ 7 → ax_v f' (n + 9) k = ax_v f (n + 9) k) ∧ ∀ q, q < 32 → ax_I f' (n + 14) q = kk_h (fun j => C.getD j 0) C.length q := by
  have hL := h.2.2.1
  obtain ⟨b, c1, c2, c3, c4⟩ := hC
  have hcap := h.2.2.2.1.2.2.1
  have l1 := tr_u9 hL (k := 7) (v := .ref (n + 15)) (Or.inr (Or.inl ⟨rfl, rfl⟩))
  have k1 : bs_kp (fun q => q = n + 9) f (ux_f f (n + 9) 7 (.ref (n + 15))) := bs_kp.f rfl
  have w1 : gw (ux_f f (n + 9) 7 (.ref (n + 15))) n c m W T := gw_14 h l1 (k1.mono (fun q hq => Or.inl hq)) (ix_fne (Or.inr (by decide)))
  have e7 : ax_r (ux_f f (n + 9) 7 (.ref (n + 15))) (n + 9) 7 = some (n + 15) := by
    unfold ax_r
    rw [rx_v_f hL.1 (by decide)]
  have hN := l1.2.2.2.2.2.2 0 (by decide)
  have ei : ∀ k, ax_i (ux_f f (n + 9) 7 (.ref (n + 15))) (n + 15 + 2 * 0) k = ax_i f (n + 15 + 2 * 0) k := fun k => ix_fne (Or.inl (by omega))
  have hv1 : ∀ k, k ≠ 7 → ax_v (ux_f f (n + 9) 7 (.ref (n + 15))) (n + 9) k = ax_v f (n + 9) k := fun k hk => rx_v_fne (Or.inr hk)
  have p0 : pl_pV f (n + 9) 5 7 (.ref (n + 15)) = some (ux_f f (n + 9) 7 (.ref (n + 15))) := ax_pV hL.1 (by decide)
  generalize ux_f f (n + 9) 7 (.ref (n + 15)) = f1 at l1 k1 w1 e7 hN ei hv1 p0
  obtain ⟨f2, p2, h2, k2, q2⟩ := kh_hash' (a1 := n + 11) (rl := 2176) (begin := b) (len := C.length) (g := fun j => C.getD j 0) (by omega) (by omega) (by decide) w1.2.1 w1.2.2.2.1.1.2.2 (nd_C_row w1 c3 c4)
  obtain ⟨w2, r2, -⟩ := gw_hash w1 h2 k2
  obtain ⟨f3, p3, w3, k3, q3⟩ := rf_113 32 pl_N 0 f2 rfl (by decide) (by decide) w2 q2 (fun q hq => absurd hq (by omega))
  have hv3 : ∀ k, ax_v f3 (n + 9) k = ax_v f1 (n + 9) k := fun k => by
    unfold ax_v
    rw [k3 _ (by omega), k2 _ (by unfold kh_S; omega)]
  refine ⟨f3, ?_, w3, ?_, ((k1.mono (fun q hq => by omega)).tr (k2.mono (fun q hq => by unfold kh_S at hq; omega))).tr (k3.mono (fun q hq => Or.inr hq)), fun k hk => by rw [hv3, hv1 k hk], q3⟩
  · unfold fn_T_refresh_80 fn_C_bytes
    rw [p0, Option.bind_some, tg_1 l1, Option.bind_some, tg_2 l1, Option.bind_some, cd_is w1.2.2.2.1, Option.bind_some, cd_0 w1.2.2.2.1.1, Option.bind_some, Option.bind_some, tg_7 l1, e7, Option.bind_some]
    rw [show pl_gI f1 (n + 15) 3 5 = some (nI b) from (nd_g hN (by decide)).trans (congrArg some ((ei 5).trans c1)), Option.bind_some, Option.bind_some]
    rw [show pl_gI f1 (n + 15) 3 6 = some (nI C.length) from (nd_g hN (by decide)).trans (congrArg some ((ei 6).trans c2)), Option.bind_some]
    rw [ax_is w1.2.1.1, Option.bind_some, p2, Option.bind_some]
    exact p3
  · rw [ar_v (hv3 7)]
    exact e7
theorem rf_27e (k : Nat) (f : pl_H) (a0 : Nat) (x1 : Int32) : fn_T_refresh_27 (k + 1) f a0 x1 = (pl_gR f a0 5 4).bind fun v1 => (pl_ln f v1).bind fun v2 => if v2 ≤ x1 then (pl_gR f a0 5 0).bind fun v3 => (pl_is f v3 0).bind fun u5 => (fn_B_count f v3).bind fun v4 => if v4 = 0 then (pl_is f a0 5).bind fun u12 => (fn_T_growNothing f a0).bind fun q11 => fn_T_refresh_80 q11.2 a0 q11.1 a0 else (pl_gR f a0 5 0).bind fun v6 => (pl_is f v6 0).bind fun u8 => (fn_B_count f v6).bind fun v7 => (pl_is f a0 5).bind fun u10 => (fn_T_grow pl_D f a0 0 v7 0).bind fun q9 => fn_T_refresh_80 q9.2 a0 q9.1 a0 else (pl_gR f a0 5 4).bind fun v13 => (pl_sI f v13 x1 0).bind fun f14 => fn_T_refresh_27 k f14 a0 (x1 + 1) := rfl
theorem rf_27 {n c T : Nat} {m : am_M} {W : List Int32} : ∀ (j k i : Nat) (f : pl_H), 4 - i = j → i ≤ 4 → j < k → gw f n c m W T → (∀ q, q < i → ax_I f (n + 13) q = 0) → ∃ f' k', fn_T_refresh_27 k f (n + 9) (nI i) = fn_T_refresh_27 (k' + 1) f' (n + 9) (nI 4) ∧ gw f' n c m W T ∧ bs_kp (fun q => q = n + 13) f f' ∧ ∀ q, q < 4 → ax_I f' (n + 13) q = 0 := by
  intro j
  induction j with
  | zero =>
    intro k i f hj hi hk h hq
    obtain ⟨k, rfl⟩ : ∃ k', k = k' + 1 := ⟨k - 1, by omega⟩
    have e : i = 4 := by omega
    subst e
    exact ⟨f, k, rfl, h, bs_kp.rf, hq⟩
  | succ j ih =>
    intro k i f hj hi hk h hq
    obtain ⟨k, rfl⟩ : ∃ k', k = k' + 1 := ⟨k - 1, by omega⟩
    have hL := h.2.2.1
    have l1 := tr_uI hL (n + 13) i 0
    have k1 : bs_kp (fun q => q = n + 13) f (ux_I f (n + 13) i 0) := bs_kp.I rfl
    have w1 : gw (ux_I f (n + 13) i 0) n c m W T := gw_tree h l1 (k1.mono (fun q hq => by omega)) (by rw [ix_I]; exact h.2.2.2.2.1) h.2.2.2.2.2
    obtain ⟨f', k', g1, g2, g3, g4⟩ := ih k (i + 1) _ (by omega) (by omega) (by omega) w1 (fun q hq' => by
      rw [rx_I hL.2.2.2.2.1, bs_vI]
      by_cases z : q = i
      · rw [if_pos z]
      · rw [if_neg z]
        exact hq q (by omega))
    refine ⟨f', k', ?_, g2, k1.tr g3, g4⟩
    rw [rf_27e, tg_4 hL, Option.bind_some, bs_ln hL.2.2.2.2.1 (Or.inl rfl) (by decide), Option.bind_some, if_neg (fun z => absurd ((bs_le (a := 4) (by decide) (by omega)).mp z) (by omega)), Option.bind_some, bs_sI hL.2.2.2.2.1 (by omega) (by decide), Option.bind_some, show nI i + 1 = nI (i + 1) from nI_add i 1]
    exact g1
