/-! The reference's hash. -/
def mo_H (a : Nat) : Nat → Prop := fun q => q = a + 14 ∨ q = a + 15 ∨ q = a + 16 ∨ q = a + 19 ∨ q = a + 20
theorem mo_SH {a q : Nat} (h : mo_S a q) : mo_H a q := by
  unfold mo_S at h
  unfold mo_H
  omega
theorem mo_HT {a : Nat} : ¬ mo_H a (a + 17) ∧ ¬ mo_H a (a + 18) := by
  unfold mo_H
  constructor <;> omega
theorem ix_I (f : pl_H) (a k : Nat) (x : Int32) (b j : Nat) : ax_i (ux_I f a k x) b j = ax_i f b j := by unfold ax_i; rw [rx_v_I]
theorem ix_L (f : pl_H) (a k : Nat) (x : Int64) (b j : Nat) : ax_i (ux_L f a k x) b j = ax_i f b j := by unfold ax_i; rw [rx_v_L]
def kk_hb (w : Nat → Int64) (i : Nat) : Int32 := (((w (i / 8) >>> (((nI (8 * (i % 8))) : Int32).toInt64 &&& 63)) &&& 255) : Int64).toInt32
set_option maxHeartbeats 2000000 in
theorem mm_h13 {a len nb : Nat} {g : Nat → Int32} (hlen : len < 136 * nb) (hnb : 136 * nb ≤ 680) (hl6 : len ≤ 600) : ∀ (m k x : Nat) (f : pl_H), 136 * nb - x = m → x ≤ 136 * nb → m < k → mo_L f a → ax_i f a 12 = nI len → (∀ i, i < len → ax_I f (a + 9) i = g i) →
    ∃ f', fn_M_hashCodeNow_13 k f a (nI nb) (nI x) = fn_M_hashCodeNow_94 pl_N f' a (nI nb) 0 ∧ mo_L f' a ∧ bs_kp (mo_H a) f f' ∧ (∀ j, j < x → ax_I f' (a + 19) j = if j = 136 * nb - 1 then ax_I f (a + 19) j + 128 else ax_I f (a + 19) j) ∧ ∀ j, x ≤ j → j < 136 * nb → ax_I f' (a + 19) j = kk_pb g len nb j := by
  have hP : 136 * nI nb = nI (136 * nb) := pk_mul 136 nb
  intro m
  induction m with
  | zero =>
    intro k x f hm hx hk h hc hg
    have hx5 : x = 136 * nb := by omega
    subst hx5
    obtain ⟨k, rfl⟩ : ∃ k', k = k' + 1 := ⟨k - 1, by omega⟩
    have el : nI (136 * nb) - 1 = nI (136 * nb - 1) := pk_sub (b := 1) (by omega)
    refine ⟨_, ?_, mo_uI h (a + 19) (136 * nb - 1) (ax_I f (a + 19) (136 * nb - 1) + 128), bs_kp.I (Or.inr (Or.inr (Or.inr (Or.inl rfl)))), fun j hj => ?_, fun j h1 h2 => absurd h2 (by omega)⟩
    · conv => lhs; unfold fn_M_hashCodeNow_13
      simp only [hP]
      rw [if_pos ((bs_le (by omega) (by omega)).mpr (Nat.le_refl _))]
      simp only [mo_padded h, el, mo_padded_g h (show 136 * nb - 1 < 680 by omega), Option.bind_some]
      rw [mo_padded_w h (show 136 * nb - 1 < 680 by omega)]
      rfl
    · rw [rx_I (mo_padded_s h), bs_vI]
      by_cases hj1 : j = 136 * nb - 1
      · rw [if_pos hj1, if_pos hj1, hj1]
      · rw [if_neg hj1, if_neg hj1]
  | succ m ih =>
    intro k x f hm hx hk h hc hg
    obtain ⟨k, rfl⟩ : ∃ k', k = k' + 1 := ⟨k - 1, by omega⟩
    generalize hb : (if x = len then (1 : Int32) else if x < len then g x else 0) = bb
    have hn : ¬ nI (136 * nb) ≤ nI x := fun q => absurd ((bs_le (by omega) (by omega)).mp q) (by omega)
    have h' := mo_uI h (a + 19) x bb
    obtain ⟨f', g1, g2, g3, g4, g5⟩ := ih k (x + 1) (ux_I f (a + 19) x bb) (by omega) (by omega) (by omega) h' (by rw [ix_I]; exact hc) (fun i hi => by rw [rx_I_ne (by omega)]; exact hg i hi)
    refine ⟨f', ?_, g2, (bs_kp.I (Or.inr (Or.inr (Or.inr (Or.inl rfl))))).tr g3, fun j hj => ?_, fun j h1 h2 => ?_⟩
    · rw [← g1]
      have h57 : fn_M_hashCodeNow_57 (fn_M_hashCodeNow_13 k) f a (nI nb) (nI x) bb (nI x) (a + 19) = fn_M_hashCodeNow_13 k (ux_I f (a + 19) x bb) a (nI nb) (nI (x + 1)) := by
        unfold fn_M_hashCodeNow_57
        rw [mo_padded_w h (show x < 680 by omega)]
        simp only [Option.bind_some]
        rw [show nI x + 1 = nI (x + 1) from nI_add x 1]
      rw [← h57]
      conv => lhs; unfold fn_M_hashCodeNow_13
      simp only [hP, if_neg hn, mo_padded h, mo_codeLength h, mo_code h, hc, Option.bind_some]
      by_cases hlx : len ≤ x
      · rw [if_pos ((bs_le (by omega) (by omega)).mpr hlx)]
        by_cases hle : x = len
        · rw [if_pos (by rw [hle])]
          rw [if_pos hle] at hb
          rw [hb]
        · rw [if_neg (fun q => hle ((nI_eq (by omega) (by omega)).mp q))]
          rw [if_neg hle, if_neg (by omega)] at hb
          rw [hb]
      · rw [if_neg (fun q => hlx ((bs_le (by omega) (by omega)).mp q)), mo_code_g h (show x < 600 by omega)]
        simp only [Option.bind_some]
        rw [if_neg (by omega), if_pos (by omega), ← hg x (by omega)] at hb
        rw [hb]
    · rw [g4 j (by omega), rx_I (mo_padded_s h), bs_vI, if_neg (show ¬ j = x by omega)]
    · by_cases hjx : j = x
      · subst hjx
        rw [g4 j (by omega), rx_I (mo_padded_s h), bs_vI, if_pos rfl, ← hb]
        rfl
      · exact g5 j (by omega) h2
set_option maxHeartbeats 1000000 in
theorem mm_h94 {a : Nat} {x1 : Int32} : ∀ (m k x : Nat) (f : pl_H), 25 - x = m → x ≤ 25 → m < k → mo_L f a → ∃ f', fn_M_hashCodeNow_94 k f a x1 (nI x) = fn_M_hashCodeNow_115 pl_N f' a x1 0 ∧ mo_L f' a ∧ bs_kp (mo_S a) f f' ∧ (∀ j, j < x → ax_L f' (a + 14) j = ax_L f (a + 14) j) ∧ ∀ j, x ≤ j → j < 25 → ax_L f' (a + 14) j = 0 := by
  intro m
  induction m with
  | zero =>
    intro k x f hm hx hk h
    have hx5 : x = 25 := by omega
    subst hx5
    obtain ⟨k, rfl⟩ : ∃ k', k = k' + 1 := ⟨k - 1, by omega⟩
    exact ⟨f, rfl, h, bs_kp.rf, fun _ _ => rfl, fun j h1 h2 => absurd h2 (by omega)⟩
  | succ m ih =>
    intro k x f hm hx hk h
    obtain ⟨k, rfl⟩ : ∃ k', k = k' + 1 := ⟨k - 1, by omega⟩
    have hlt : ¬ (25 : Int32) ≤ nI x := fun q => absurd ((bs_le (a := 25) (by decide) (by omega)).mp q) (by omega)
    have h' := mo_uL h (a + 14) x 0
    obtain ⟨f', g1, g2, g3, g4, g5⟩ := ih k (x + 1) _ (by omega) (by omega) (by omega) h'
    refine ⟨f', ?_, g2, (bs_kp.L (Or.inl rfl)).tr g3, fun j hj => ?_, fun j h1 h2 => ?_⟩
    · rw [← g1]
      conv => lhs; unfold fn_M_hashCodeNow_94
      simp only [if_neg hlt, mo_word h, Option.bind_some]
      rw [mo_word_w h (show x < 25 by omega)]
      simp only [Option.bind_some]
      rw [show nI x + 1 = nI (x + 1) from nI_add x 1]
    · rw [g4 j (by omega), rx_L (mo_word_s h), bs_vL, if_neg (by omega)]
    · by_cases hjx : j = x
      · subst hjx
        rw [g4 j (by omega), rx_L (mo_word_s h), bs_vL, if_pos rfl]
      · exact g5 j (by omega) h2
set_option maxHeartbeats 1000000 in
theorem mm_h122 {a b P : Nat} {x1 : Int32} {p : Nat → Int32} {w0 : Nat → Int64} {rc : pl_H → Nat → Int32 → Int32 → Option pl_H} (hb : 136 * b + 136 ≤ P) (hP : P ≤ 680) : ∀ (m k i : Nat) (f : pl_H), 136 - i = m → i ≤ 136 → m < k → mo_L f a → (∀ j, j < P → ax_I f (a + 19) j = p j) → ax_L f (a + 14) = kk_B p b i w0 → ∃ f', fn_M_hashCodeNow_122 rc k f a x1 (nI b) (nI i) = fn_M_hashCodeNow_177 rc pl_N f' a x1 (nI b) 0 ∧ mo_L f' a ∧ bs_kp (mo_S a) f f' ∧ ax_L f' (a + 14) = kk_B p b 136 w0 := by
  intro m
  induction m with
  | zero =>
    intro k i f hm hx hk h hp hw
    have hx5 : i = 136 := by omega
    subst hx5
    obtain ⟨k, rfl⟩ : ∃ k', k = k' + 1 := ⟨k - 1, by omega⟩
    exact ⟨f, rfl, h, bs_kp.rf, hw⟩
  | succ m ih =>
    intro k i f hm hx hk h hp hw
    obtain ⟨k, rfl⟩ : ∃ k', k = k' + 1 := ⟨k - 1, by omega⟩
    have hlt : ¬ (136 : Int32) ≤ nI i := fun q => absurd ((bs_le (a := 136) (by decide) (by omega)).mp q) (by omega)
    have e2 : nI i / 8 = nI (i / 8) := pk_div (d := 8) (by omega) (by decide) (by decide)
    have e3 : nI i - nI (i / 8) * 8 = nI (i % 8) := by rw [← e2]; exact pk_rem (d := 8) (by omega) (by decide) (by decide)
    have e4 : 8 * nI (i % 8) = nI (8 * (i % 8)) := pk_mul 8 (i % 8)
    have e5 : 136 * nI b + nI i = nI (136 * b + i) := by rw [show 136 * nI b = nI (136 * b) from pk_mul 136 b]; exact nI_add _ _
    generalize hxv : ax_L f (a + 14) (i / 8) ^^^ ((p (136 * b + i) : Int32).toInt64 <<< (((nI (8 * (i % 8))) : Int32).toInt64 &&& 63)) = xv
    have h' := mo_uL h (a + 14) (i / 8) xv
    obtain ⟨f', g1, g2, g3, g4⟩ := ih k (i + 1) (ux_L f (a + 14) (i / 8) xv) (by omega) (by omega) (by omega) h' (fun j hj => by rw [rx_I_L]; exact hp j hj) (by
      rw [rx_L (mo_word_s h), ← hxv, hw]
      rfl)
    refine ⟨f', ?_, g2, (bs_kp.L (Or.inl rfl)).tr g3, g4⟩
    rw [← g1]
    conv => lhs; unfold fn_M_hashCodeNow_122
    simp only [if_neg hlt, mo_word h, mo_padded h, e2, e3, e4, e5, mo_word_g h (show i / 8 < 25 by omega), mo_padded_g h (show 136 * b + i < 680 by omega), hp _ (show 136 * b + i < P by omega), hxv, Option.bind_some]
    rw [mo_word_w h (show i / 8 < 25 by omega)]
    simp only [Option.bind_some]
    rw [show nI i + 1 = nI (i + 1) from nI_add i 1]
set_option maxHeartbeats 1000000 in
theorem mm_h177 {a b : Nat} {x1 : Int32} {rc : pl_H → Nat → Int32 → Int32 → Option pl_H} : ∀ (m k r : Nat) (f : pl_H), 24 - r = m → r ≤ 24 → m < k → mo_L f a → mo_T f a → ∃ f', fn_M_hashCodeNow_177 rc k f a x1 (nI b) (nI r) = rc f' a x1 (nI (b + 1)) ∧ mo_L f' a ∧ bs_kp (mo_S a) f f' ∧ kk_G m r (ax_L f (a + 14)) (ax_L f' (a + 14)) := by
  intro m
  induction m with
  | zero =>
    intro k r f hm hx hk h hT
    have hx5 : r = 24 := by omega
    subst hx5
    obtain ⟨k, rfl⟩ : ∃ k', k = k' + 1 := ⟨k - 1, by omega⟩
    refine ⟨f, ?_, h, bs_kp.rf, fun _ _ => rfl⟩
    conv => lhs; unfold fn_M_hashCodeNow_177
    rw [if_pos (show (24 : Int32) ≤ nI 24 from (bs_le (a := 24) (b := 24) (by decide) (by decide)).mpr (by omega)), show nI b + 1 = nI (b + 1) from nI_add b 1]
  | succ m ih =>
    intro k r f hm hx hk h hT
    obtain ⟨k, rfl⟩ : ∃ k', k = k' + 1 := ⟨k - 1, by omega⟩
    have hlt : ¬ (24 : Int32) ≤ nI r := fun q => absurd ((bs_le (a := 24) (by decide) (by omega)).mp q) (by omega)
    obtain ⟨f1, a1, a2, a3, a4⟩ := mm_round (show r < 24 by omega) h hT
    obtain ⟨f', g1, g2, g3, g4⟩ := ih k (r + 1) f1 (by omega) (by omega) (by omega) a2 (mo_T_kp hT a3 mo_ST.1 mo_ST.2)
    refine ⟨f', ?_, g2, a3.tr g3, _, a4, g4⟩
    rw [← g1]
    conv => lhs; unfold fn_M_hashCodeNow_177
    simp only [if_neg hlt, ax_is h.1, a1, Option.bind_some]
    rw [show nI r + 1 = nI (r + 1) from nI_add r 1]
set_option maxHeartbeats 1000000 in
theorem mm_h115 {a nb : Nat} {p : Nat → Int32} (hP : 136 * nb ≤ 680) : ∀ (m k b : Nat) (f : pl_H), nb - b = m → b ≤ nb → m < k → mo_L f a → mo_T f a → (∀ j, j < 136 * nb → ax_I f (a + 19) j = p j) → ∃ f', fn_M_hashCodeNow_115 k f a (nI nb) (nI b) = fn_M_hashCodeNow_202 pl_N f' a 0 ∧ mo_L f' a ∧ bs_kp (mo_S a) f f' ∧ kk_M p m b (ax_L f (a + 14)) (ax_L f' (a + 14)) := by
  intro m
  induction m with
  | zero =>
    intro k b f hm hx hk h hT hp
    have hx5 : b = nb := by omega
    subst hx5
    obtain ⟨k, rfl⟩ : ∃ k', k = k' + 1 := ⟨k - 1, by omega⟩
    refine ⟨f, ?_, h, bs_kp.rf, fun _ _ => rfl⟩
    conv => lhs; unfold fn_M_hashCodeNow_115
    rw [if_pos ((bs_le (by omega) (by omega)).mpr (Nat.le_refl _))]
  | succ m ih =>
    intro k b f hm hx hk h hT hp
    obtain ⟨k, rfl⟩ : ∃ k', k = k' + 1 := ⟨k - 1, by omega⟩
    have hlt : ¬ nI nb ≤ nI b := fun q => absurd ((bs_le (by omega) (by omega)).mp q) (by omega)
    obtain ⟨f1, a1, a2, a3, a4⟩ := mm_h122 (x1 := nI nb) (rc := fn_M_hashCodeNow_115 k) (w0 := ax_L f (a + 14)) (show 136 * b + 136 ≤ 136 * nb by omega) hP 136 pl_N 0 f rfl (by omega) (by decide) h hp rfl
    have hT1 := mo_T_kp hT a3 mo_ST.1 mo_ST.2
    obtain ⟨f2, b1, b2, b3, b4⟩ := mm_h177 (b := b) (x1 := nI nb) (rc := fn_M_hashCodeNow_115 k) 24 pl_N 0 f1 rfl (by omega) (by decide) a2 hT1
    have hne : ¬ mo_S a (a + 19) := by unfold mo_S; omega
    obtain ⟨f', g1, g2, g3, g4⟩ := ih k (b + 1) f2 (by omega) (by omega) (by omega) b2 (mo_T_kp hT1 b3 mo_ST.1 mo_ST.2) (fun j hj => by
      unfold ax_I
      rw [b3 _ hne, a3 _ hne]
      exact hp j hj)
    refine ⟨f', ?_, g2, (a3.tr b3).tr g3, ax_L f2 (a + 14), ?_, g4⟩
    · rw [← g1, ← b1]
      conv => lhs; unfold fn_M_hashCodeNow_115
      rw [if_neg hlt]
      exact a1
    · rw [← a4]
      exact b4
set_option maxHeartbeats 1000000 in
theorem mm_h202 {a : Nat} : ∀ (m k x : Nat) (f : pl_H), 32 - x = m → x ≤ 32 → m < k → mo_L f a → ∃ f', fn_M_hashCodeNow_202 k f a (nI x) = some f' ∧ mo_L f' a ∧ bs_kp (mo_H a) f f' ∧ ax_L f' (a + 14) = ax_L f (a + 14) ∧ (∀ j, j < x → ax_I f' (a + 20) j = ax_I f (a + 20) j) ∧ ∀ j, x ≤ j → j < 32 → ax_I f' (a + 20) j = kk_hb (ax_L f (a + 14)) j := by
  intro m
  induction m with
  | zero =>
    intro k x f hm hx hk h
    have hx5 : x = 32 := by omega
    subst hx5
    obtain ⟨k, rfl⟩ : ∃ k', k = k' + 1 := ⟨k - 1, by omega⟩
    exact ⟨f, rfl, h, bs_kp.rf, rfl, fun _ _ => rfl, fun j h1 h2 => absurd h2 (by omega)⟩
  | succ m ih =>
    intro k x f hm hx hk h
    obtain ⟨k, rfl⟩ : ∃ k', k = k' + 1 := ⟨k - 1, by omega⟩
    have hlt : ¬ (32 : Int32) ≤ nI x := fun q => absurd ((bs_le (a := 32) (by decide) (by omega)).mp q) (by omega)
    have e2 : nI x / 8 = nI (x / 8) := pk_div (d := 8) (by omega) (by decide) (by decide)
    have e3 : nI x - nI (x / 8) * 8 = nI (x % 8) := by rw [← e2]; exact pk_rem (d := 8) (by omega) (by decide) (by decide)
    have e4 : 8 * nI (x % 8) = nI (8 * (x % 8)) := pk_mul 8 (x % 8)
    have h' := mo_uI h (a + 20) x (kk_hb (ax_L f (a + 14)) x)
    obtain ⟨f', g1, g2, g3, g4, g5, g6⟩ := ih k (x + 1) _ (by omega) (by omega) (by omega) h'
    refine ⟨f', ?_, g2, (bs_kp.I (Or.inr (Or.inr (Or.inr (Or.inr rfl))))).tr g3, by rw [g4, rx_L_I], fun j hj => ?_, fun j h1 h2 => ?_⟩
    · rw [← g1]
      conv => lhs; unfold fn_M_hashCodeNow_202
      simp only [if_neg hlt, mo_hash h, mo_word h, e2, e3, e4, mo_word_g h (show x / 8 < 25 by omega), Option.bind_some]
      rw [mo_hash_w h (show x < 32 by omega)]
      simp only [Option.bind_some]
      rw [show nI x + 1 = nI (x + 1) from nI_add x 1]
      rfl
    · rw [g5 j (by omega), rx_I (mo_hash_s h), bs_vI, if_neg (by omega)]
    · by_cases hjx : j = x
      · subst hjx
        rw [g5 j (by omega), rx_I (mo_hash_s h), bs_vI, if_pos rfl]
      · rw [g6 j (by omega) h2, rx_L_I]
/-- hashCodeNow of the reference -/
theorem mm_hash {a len : Nat} {g : Nat → Int32} {f : pl_H} (hlen : len < 544) (h : mo_L f a) (hT : mo_T f a) (hc : ax_i f a 12 = nI len) (hg : ∀ i, i < len → ax_I f (a + 9) i = g i) :
    ∃ f', fn_M_hashCodeNow f a = some f' ∧ mo_L f' a ∧ bs_kp (mo_H a) f f' ∧ ∃ w0 wf : Nat → Int64, (∀ j, j < 25 → w0 j = 0) ∧ kk_M (kk_pb g len (len / 136 + 1)) (len / 136 + 1) 0 w0 wf ∧ ∀ i, i < 32 → ax_I f' (a + 20) i = kk_hb wf i := by
  have e : (nI len / 136) + 1 = nI (len / 136 + 1) := by rw [show nI len / 136 = nI (len / 136) from pk_div (d := 136) (by omega) (by decide) (by decide)]; exact nI_add _ 1
  obtain ⟨f1, a1, a2, a3, -, a5⟩ := mm_h13 (nb := len / 136 + 1) (g := g) (show len < 136 * (len / 136 + 1) by omega) (by omega) (by omega) (136 * (len / 136 + 1)) pl_N 0 f (by omega) (by omega) (by unfold pl_N; omega) h hc hg
  obtain ⟨f2, b1, b2, b3, -, b5⟩ := mm_h94 (x1 := nI (len / 136 + 1)) 25 pl_N 0 f1 rfl (by omega) (by decide) a2
  have hT2 := mo_T_kp (mo_T_kp hT a3 mo_HT.1 mo_HT.2) b3 mo_ST.1 mo_ST.2
  have hne : ¬ mo_S a (a + 19) := by unfold mo_S; omega
  obtain ⟨f3, c1, c2, c3, c4⟩ := mm_h115 (nb := len / 136 + 1) (p := kk_pb g len (len / 136 + 1)) (by omega) (len / 136 + 1) pl_N 0 f2 (by omega) (by omega) (by unfold pl_N; omega) b2 hT2 (fun j hj => by
    unfold ax_I
    rw [b3 _ hne]
    exact a5 j (Nat.zero_le _) hj)
  obtain ⟨f4, d1, d2, d3, d4, -, d6⟩ := mm_h202 32 pl_N 0 f3 rfl (by omega) (by decide) c2
  refine ⟨f4, ?_, d2, ((a3.tr (b3.mono (fun q h => mo_SH h))).tr (c3.mono (fun q h => mo_SH h))).tr d3, ax_L f2 (a + 14), ax_L f3 (a + 14), fun j hj => b5 j (Nat.zero_le _) hj, c4, fun i hi => d6 i (Nat.zero_le _) hi⟩
  unfold fn_M_hashCodeNow
  rw [mo_codeLength h, hc]
  simp only [Option.bind_some]
  rw [e]
  exact (show fn_M_hashCodeNow_13 pl_N f a (nI (len / 136 + 1)) 0 = _ from a1).trans (b1.trans (c1.trans d1))
