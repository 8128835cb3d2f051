/-! The reference's rounds: the same relation. -/
def mo_S (a : Nat) : Nat → Prop := fun q => q = a + 14 ∨ q = a + 15 ∨ q = a + 16
/-- its two tables are those of the class -/
def mo_T (f : pl_H) (a : Nat) : Prop := (∀ i, i < 25 → ax_I f (a + 17) i = pl_t1.getD i 0) ∧ ∀ r, r < 24 → ax_L f (a + 18) r = pl_t2.getD r 0
theorem mo_T_kp {f f' : pl_H} {a : Nat} {S : Nat → Prop} (h : mo_T f a) (hk : bs_kp S f f') (h1 : ¬ S (a + 17)) (h2 : ¬ S (a + 18)) : mo_T f' a := by
  refine ⟨fun i hi => ?_, fun r hr => ?_⟩
  · unfold ax_I; rw [hk _ h1]; exact h.1 i hi
  · unfold ax_L; rw [hk _ h2]; exact h.2 r hr
theorem mo_ST {a : Nat} : ¬ mo_S a (a + 17) ∧ ¬ mo_S a (a + 18) := by
  unfold mo_S
  constructor <;> omega
theorem kk_r0 (v : Int64) : kk_r v 0 = v := by
  unfold kk_r
  rw [show ((0 : Int32).toInt64 &&& 63) = 0 by decide, show (((64 - 0 : Int32)).toInt64.toUInt64 &&& Int64.toUInt64 63) = 0 by decide]
  simp
theorem mm_turn (f : pl_H) (v : Int64) (d : Int32) : fn_M_turn f v d = some (kk_r v d) := by
  unfold fn_M_turn fn_M_turn_18
  by_cases h : d = 0
  · rw [if_pos h, h, kk_r0]
  · rw [if_neg h]
    rfl
theorem kk_r1 (v : Int64) : kk_r v 1 = kk_1 v := rfl
theorem mm_turn1 (f : pl_H) (v : Int64) : fn_M_turn f v 1 = some (kk_1 v) := by
  rw [mm_turn]
  rfl
set_option maxHeartbeats 1000000 in
theorem mm_r2 {a : Nat} {r : Int32} : ∀ (m k x : Nat) (f : pl_H), 5 - x = m → x ≤ 5 → m < k → mo_L f a → ∃ f', fn_M_round_2 k f a r (nI x) = fn_M_round_66 pl_N f' a r 0 ∧ mo_L f' a ∧ bs_kp (mo_S a) f f' ∧ ax_L f' (a + 14) = ax_L f (a + 14) ∧ (∀ j, j < x → ax_L f' (a + 16) j = ax_L f (a + 16) j) ∧ (∀ j, x ≤ j → j < 5 → ax_L f' (a + 16) j = kk_c (ax_L f (a + 14)) j) := by
  intro m
  induction m with
  | zero =>
    intro k x f hm hx hk h
    have hx5 : x = 5 := by omega
    subst hx5
    obtain ⟨k, rfl⟩ : ∃ k', k = k' + 1 := ⟨k - 1, by omega⟩
    exact ⟨f, rfl, h, bs_kp.rf, rfl, fun _ _ => rfl, fun j h1 h2 => absurd h2 (by omega)⟩
  | succ m ih =>
    intro k x f hm hx hk h
    obtain ⟨k, rfl⟩ : ∃ k', k = k' + 1 := ⟨k - 1, by omega⟩
    have hlt : ¬ (5 : Int32) ≤ nI x := fun q => absurd ((bs_le (a := 5) (by decide) (by omega)).mp q) (by omega)
    have e5 : nI x + 5 = nI (x + 5) := nI_add x 5
    have e10 : nI x + 10 = nI (x + 10) := nI_add x 10
    have e15 : nI x + 15 = nI (x + 15) := nI_add x 15
    have e20 : nI x + 20 = nI (x + 20) := nI_add x 20
    have e1 : nI x + 1 = nI (x + 1) := nI_add x 1
    have h' := mo_uL h (a + 16) x (kk_c (ax_L f (a + 14)) x)
    obtain ⟨f', g1, g2, g3, g4, g5, g6⟩ := ih k (x + 1) _ (by omega) (by omega) (by omega) h'
    have hwc : a + 14 ≠ a + 16 := by omega
    refine ⟨f', ?_, g2, (bs_kp.L (Or.inr (Or.inr rfl))).tr g3, by rw [g4, rx_L_ne hwc], fun j hj => ?_, fun j h1 h2 => ?_⟩
    · rw [← g1]
      conv => lhs; unfold fn_M_round_2
      simp only [if_neg hlt, mo_column h, mo_word h, e5, e10, e15, e20, e1, mo_word_g h (show x < 25 by omega), mo_word_g h (show x + 5 < 25 by omega), mo_word_g h (show x + 10 < 25 by omega), mo_word_g h (show x + 15 < 25 by omega), mo_word_g h (show x + 20 < 25 by omega), Option.bind_some]
      rw [mo_column_w h (show x < 5 by omega)]
      rfl
    · rw [g5 j (by omega), rx_L (mo_column_s h), bs_vL, if_neg (by omega)]
    · by_cases hj : j = x
      · subst hj
        rw [g5 j (by omega), rx_L (mo_column_s h), bs_vL, if_pos rfl]
      · rw [g6 j (by omega) h2, rx_L_ne hwc]
theorem kk_T_xy : ∀ x, x < 5 → ∀ y, y < 5 → kk_T (x + 5 * y) = y + 5 * ((2 * x + 3 * y) % 5) := by decide +kernel
def mm_v (f : pl_H) (a i : Nat) : Int64 := kk_r (ax_L f (a + 14) i ^^^ (ax_L f (a + 16) ((i % 5 + 4) % 5) ^^^ kk_1 (ax_L f (a + 16) ((i % 5 + 1) % 5)))) (pl_t1.getD i 0)
set_option maxHeartbeats 2000000 in
theorem mm_r73 {a x : Nat} {r : Int32} {rc : pl_H → Nat → Int32 → Int32 → Option pl_H} (hx : x < 5) : ∀ (m k y : Nat) (f : pl_H), 5 - y = m → y ≤ 5 → m < k → mo_L f a → mo_T f a → ∃ f', fn_M_round_73 rc k f a r (nI x) (nI y) = rc f' a r (nI (x + 1)) ∧ mo_L f' a ∧ bs_kp (mo_S a) f f' ∧ ax_L f' (a + 14) = ax_L f (a + 14) ∧ ax_L f' (a + 16) = ax_L f (a + 16) ∧ ∀ i, i < 25 → ax_L f' (a + 15) (kk_T i) = if i % 5 = x ∧ y ≤ i / 5 then mm_v f a i else ax_L f (a + 15) (kk_T i) := by
  intro m
  induction m with
  | zero =>
    intro k y f hm hy hk h hT
    have hy5 : y = 5 := by omega
    subst hy5
    obtain ⟨k, rfl⟩ : ∃ k', k = k' + 1 := ⟨k - 1, by omega⟩
    refine ⟨f, ?_, h, bs_kp.rf, rfl, rfl, fun i hi => by rw [if_neg (by omega)]⟩
    conv => lhs; unfold fn_M_round_73
    rw [if_pos (show (5 : Int32) ≤ nI 5 from (bs_le (a := 5) (b := 5) (by decide) (by decide)).mpr (by omega)), show nI x + 1 = nI (x + 1) from nI_add x 1]
  | succ m ih =>
    intro k y f hm hy hk h hT
    obtain ⟨k, rfl⟩ : ∃ k', k = k' + 1 := ⟨k - 1, by omega⟩
    have hlt : ¬ (5 : Int32) ≤ nI y := fun q => absurd ((bs_le (a := 5) (by decide) (by omega)).mp q) (by omega)
    have e1 : nI x + 1 = nI (x + 1) := nI_add x 1
    have e4 : nI x + 4 = nI (x + 4) := nI_add x 4
    have r1 : nI (x + 1) - nI (x + 1) / 5 * 5 = nI ((x + 1) % 5) := pk_rem (d := 5) (by omega) (by decide) (by decide)
    have r4 : nI (x + 4) - nI (x + 4) / 5 * 5 = nI ((x + 4) % 5) := pk_rem (d := 5) (by omega) (by decide) (by decide)
    have ei : nI x + 5 * nI y = nI (x + 5 * y) := by rw [show 5 * nI y = nI (5 * y) from pk_mul 5 y]; exact nI_add _ _
    have ej : nI y + 5 * ((2 * nI x + 3 * nI y) - (2 * nI x + 3 * nI y) / 5 * 5) = nI (kk_T (x + 5 * y)) := by
      rw [show 2 * nI x = nI (2 * x) from pk_mul 2 x, show 3 * nI y = nI (3 * y) from pk_mul 3 y, nI_add, show nI (2 * x + 3 * y) - nI (2 * x + 3 * y) / 5 * 5 = nI ((2 * x + 3 * y) % 5) from pk_rem (d := 5) (by omega) (by decide) (by decide), show 5 * nI ((2 * x + 3 * y) % 5) = nI (5 * ((2 * x + 3 * y) % 5)) from pk_mul 5 _, nI_add, kk_T_xy x hx y (by omega)]
    have hi25 : x + 5 * y < 25 := by omega
    have hmod : (x + 5 * y) % 5 = x := by omega
    have hdiv : (x + 5 * y) / 5 = y := by omega
    have hv : kk_r (ax_L f (a + 14) (x + 5 * y) ^^^ ax_L f (a + 16) ((x + 4) % 5) ^^^ kk_1 (ax_L f (a + 16) ((x + 1) % 5))) (pl_t1.getD (x + 5 * y) 0) = mm_v f a (x + 5 * y) := by
      unfold mm_v
      rw [hmod, Int64.xor_assoc]
    have h' := mo_uL h (a + 15) (kk_T (x + 5 * y)) (mm_v f a (x + 5 * y))
    have hT' : mo_T (ux_L f (a + 15) (kk_T (x + 5 * y)) (mm_v f a (x + 5 * y))) a := mo_T_kp hT (bs_kp.L (S := mo_S a) (Or.inr (Or.inl rfl))) mo_ST.1 mo_ST.2
    obtain ⟨f', g1, g2, g3, g4, g5, g6⟩ := ih k (y + 1) _ (by omega) (by omega) (by omega) h' hT'
    have hn1 : a + 14 ≠ a + 15 := by omega
    have hn2 : a + 16 ≠ a + 15 := by omega
    refine ⟨f', ?_, g2, (bs_kp.L (Or.inr (Or.inl rfl))).tr g3, by rw [g4, rx_L_ne hn1], by rw [g5, rx_L_ne hn2], fun i hi => ?_⟩
    · rw [← g1]
      conv => lhs; unfold fn_M_round_73
      simp only [if_neg hlt, mo_word h, mo_column h, mo_moved h, mo_distance h, e1, e4, r1, r4, ei, ej, mo_word_g h hi25, mo_column_g h (show (x + 4) % 5 < 5 by omega), mo_column_g h (show (x + 1) % 5 < 5 by omega), mo_distance_g h hi25, hT.1 _ hi25, mm_turn, kk_r1, hv, Option.bind_some]
      rw [mo_moved_w h (kk_T_ok _ hi25).2]
      simp only [Option.bind_some]
      rw [show nI y + 1 = nI (y + 1) from nI_add y 1]
    · rw [g6 i hi, rx_L (mo_moved_s h), bs_vL]
      have hmv : ∀ i, mm_v (ux_L f (a + 15) (kk_T (x + 5 * y)) (mm_v f a (x + 5 * y))) a i = mm_v f a i := fun i => by
        unfold mm_v
        rw [rx_L_ne hn1, rx_L_ne hn2]
      rw [hmv]
      by_cases hc : i = x + 5 * y
      · subst hc
        rw [if_neg (by omega), if_pos rfl, if_pos (by omega)]
      · have hTi : kk_T i ≠ kk_T (x + 5 * y) := fun q => hc (kk_T_inj i hi _ hi25 q)
        rw [if_neg hTi]
        by_cases hd : i % 5 = x ∧ y ≤ i / 5
        · rw [if_pos (by omega), if_pos hd]
        · rw [if_neg (by omega), if_neg hd]
set_option maxHeartbeats 1000000 in
theorem mm_r66 {a : Nat} {r : Int32} : ∀ (m k x : Nat) (f : pl_H), 5 - x = m → x ≤ 5 → m < k → mo_L f a → mo_T f a → ∃ f', fn_M_round_66 k f a r (nI x) = fn_M_round_163 pl_N f' a r 0 ∧ mo_L f' a ∧ bs_kp (mo_S a) f f' ∧ ax_L f' (a + 14) = ax_L f (a + 14) ∧ ax_L f' (a + 16) = ax_L f (a + 16) ∧ ∀ i, i < 25 → ax_L f' (a + 15) (kk_T i) = if x ≤ i % 5 then mm_v f a i else ax_L f (a + 15) (kk_T i) := by
  intro m
  induction m with
  | zero =>
    intro k x f hm hx hk h hT
    have hx5 : x = 5 := by omega
    subst hx5
    obtain ⟨k, rfl⟩ : ∃ k', k = k' + 1 := ⟨k - 1, by omega⟩
    exact ⟨f, rfl, h, bs_kp.rf, rfl, rfl, fun i hi => by rw [if_neg (by omega)]⟩
  | succ m ih =>
    intro k x f hm hx hk h hT
    obtain ⟨k, rfl⟩ : ∃ k', k = k' + 1 := ⟨k - 1, by omega⟩
    have hlt : ¬ (5 : Int32) ≤ nI x := fun q => absurd ((bs_le (a := 5) (by decide) (by omega)).mp q) (by omega)
    obtain ⟨f1, g1, g2, g3, g4, g5, g6⟩ := mm_r73 (r := r) (rc := fn_M_round_66 k) (show x < 5 by omega) 5 pl_N 0 f rfl (by omega) (by decide) h hT
    have hT1 := mo_T_kp hT g3 mo_ST.1 mo_ST.2
    obtain ⟨f', i1, i2, i3, i4, i5, i6⟩ := ih k (x + 1) f1 (by omega) (by omega) (by omega) g2 hT1
    refine ⟨f', ?_, i2, g3.tr i3, by rw [i4, g4], by rw [i5, g5], fun i hi => ?_⟩
    · rw [← i1, ← g1]
      conv => lhs; unfold fn_M_round_66
      simp only [if_neg hlt]
      rfl
    · rw [i6 i hi, g6 i hi]
      have hmv : mm_v f1 a i = mm_v f a i := by
        unfold mm_v
        rw [g4, g5]
      rw [hmv]
      by_cases hc : i % 5 = x
      · rw [if_neg (by omega), if_pos (by omega), if_pos (by omega)]
      · by_cases hd : x ≤ i % 5
        · rw [if_pos (by omega), if_pos hd]
        · rw [if_neg (by omega), if_neg (by omega), if_neg hd]
set_option maxHeartbeats 2000000 in
theorem mm_r163 {a r : Nat} (hr : r < 24) : ∀ (m k x : Nat) (f : pl_H), 25 - x = m → x ≤ 25 → m < k → mo_L f a → mo_T f a → ∃ f', fn_M_round_163 k f a (nI r) (nI x) = some f' ∧ mo_L f' a ∧ bs_kp (mo_S a) f f' ∧ ∀ j, j < 25 → ax_L f' (a + 14) j = if j = 0 then (if x = 0 then kk_x (ax_L f (a + 15)) 0 0 else ax_L f (a + 14) 0) ^^^ pl_t2.getD r 0 else if x ≤ j then kk_x (ax_L f (a + 15)) (j / 5 * 5) (j % 5) else ax_L f (a + 14) j := by
  intro m
  induction m with
  | zero =>
    intro k x f hm hx hk h hT
    have hx5 : x = 25 := by omega
    subst hx5
    obtain ⟨k, rfl⟩ : ∃ k', k = k' + 1 := ⟨k - 1, by omega⟩
    have h' := mo_uL h (a + 14) 0 (ax_L f (a + 14) 0 ^^^ pl_t2.getD r 0)
    refine ⟨_, ?_, h', bs_kp.L (Or.inl rfl), fun j hj => ?_⟩
    · conv => lhs; unfold fn_M_round_163
      rw [if_pos (show (25 : Int32) ≤ nI 25 from (bs_le (a := 25) (b := 25) (by decide) (by decide)).mpr (by omega))]
      simp only [mo_word h, mo_constant h, mo_constant_g h hr, hT.2 r hr, Option.bind_some]
      rw [show pl_aL f (a + 14) 0 = some (ax_L f (a + 14) 0) from mo_word_g h (j := 0) (by decide)]
      simp only [Option.bind_some]
      rw [show pl_sL f (a + 14) 0 (ax_L f (a + 14) 0 ^^^ pl_t2.getD r 0) = some (ux_L f (a + 14) 0 (ax_L f (a + 14) 0 ^^^ pl_t2.getD r 0)) from mo_word_w h (j := 0) (by decide) _]
      rfl
    · rw [rx_L (mo_word_s h), bs_vL]
      by_cases hj0 : j = 0
      · rw [if_pos hj0, if_pos hj0, if_neg (by omega)]
      · rw [if_neg hj0, if_neg hj0, if_neg (by omega)]
  | succ m ih =>
    intro k x f hm hx hk h hT
    obtain ⟨k, rfl⟩ : ∃ k', k = k' + 1 := ⟨k - 1, by omega⟩
    have hlt : ¬ (25 : Int32) ≤ nI x := fun q => absurd ((bs_le (a := 25) (by decide) (by omega)).mp q) (by omega)
    have e1 : nI x + 1 = nI (x + 1) := nI_add x 1
    have e2 : nI x + 2 = nI (x + 2) := nI_add x 2
    have r1 : nI (x + 1) - nI (x + 1) / 5 * 5 = nI ((x + 1) % 5) := pk_rem (d := 5) (by omega) (by decide) (by decide)
    have r2 : nI (x + 2) - nI (x + 2) / 5 * 5 = nI ((x + 2) % 5) := pk_rem (d := 5) (by omega) (by decide) (by decide)
    have r5 : nI x / 5 * 5 = nI (x / 5 * 5) := by rw [show nI x / 5 = nI (x / 5) from pk_div (d := 5) (by omega) (by decide) (by decide)]; exact pk_mul _ 5
    have hkx : ax_L f (a + 15) x ^^^ ((ax_L f (a + 15) (x / 5 * 5 + (x + 1) % 5) ^^^ (-1)) &&& ax_L f (a + 15) (x / 5 * 5 + (x + 2) % 5)) = kk_x (ax_L f (a + 15)) (x / 5 * 5) (x % 5) := by
      unfold kk_x
      rw [show x / 5 * 5 + x % 5 = x by omega, show (x % 5 + 1) % 5 = (x + 1) % 5 by omega, show (x % 5 + 2) % 5 = (x + 2) % 5 by omega]
    have h' := mo_uL h (a + 14) x (kk_x (ax_L f (a + 15)) (x / 5 * 5) (x % 5))
    have hT' : mo_T (ux_L f (a + 14) x (kk_x (ax_L f (a + 15)) (x / 5 * 5) (x % 5))) a := mo_T_kp hT (bs_kp.L (S := mo_S a) (Or.inl rfl)) mo_ST.1 mo_ST.2
    obtain ⟨f', g1, g2, g3, g4⟩ := ih k (x + 1) _ (by omega) (by omega) (by omega) h' hT'
    have hn : a + 15 ≠ a + 14 := by omega
    refine ⟨f', ?_, g2, (bs_kp.L (Or.inl rfl)).tr g3, fun j hj => ?_⟩
    · rw [← g1]
      conv => lhs; unfold fn_M_round_163
      simp only [if_neg hlt, mo_word h, mo_moved h, e1, e2, r1, r2, r5, nI_add, mo_moved_g h (show x < 25 by omega), mo_moved_g h (show x / 5 * 5 + (x + 1) % 5 < 25 by omega), mo_moved_g h (show x / 5 * 5 + (x + 2) % 5 < 25 by omega), hkx, Option.bind_some]
      rw [mo_word_w h (show x < 25 by omega)]
      rfl
    · rw [g4 j hj, rx_L_ne hn, rx_L (mo_word_s h), bs_vL, bs_vL]
      by_cases hj0 : j = 0
      · rw [if_pos hj0, if_pos hj0, if_neg (by omega)]
        by_cases hx0 : x = 0
        · subst hx0
          rw [if_pos rfl]
        · rw [if_neg (by omega), if_neg hx0]
      · rw [if_neg hj0, if_neg hj0]
        by_cases hjx : j = x
        · subst hjx
          rw [if_neg (by omega), if_pos rfl, if_pos (Nat.le_refl _)]
        · by_cases hd : x ≤ j
          · rw [if_pos (by omega), if_pos hd]
          · rw [if_neg (by omega), if_neg hjx, if_neg hd]
/-- round(r) of the reference -/
theorem mm_round {a r : Nat} (hr : r < 24) {f : pl_H} (h : mo_L f a) (hT : mo_T f a) : ∃ f', fn_M_round f a (nI r) = some f' ∧ mo_L f' a ∧ bs_kp (mo_S a) f f' ∧ kk_R (pl_t2.getD r 0) (ax_L f (a + 14)) (ax_L f' (a + 14)) := by
  obtain ⟨f1, a1, a2, a3, a4, -, a6⟩ := mm_r2 (r := nI r) 5 pl_N 0 f rfl (by omega) (by decide) h
  have hT1 := mo_T_kp hT a3 mo_ST.1 mo_ST.2
  obtain ⟨f2, b1, b2, b3, b4, b5, b6⟩ := mm_r66 (r := nI r) 5 pl_N 0 f1 rfl (by omega) (by decide) a2 hT1
  have hT2 := mo_T_kp hT1 b3 mo_ST.1 mo_ST.2
  obtain ⟨f3, c1, c2, c3, c4⟩ := mm_r163 hr 25 pl_N 0 f2 rfl (by omega) (by decide) b2 hT2
  refine ⟨f3, ?_, c2, (a3.tr b3).tr c3, ax_L f2 (a + 15), fun i hi => ?_, fun j hj => ?_⟩
  · unfold fn_M_round
    exact a1.trans (b1.trans c1)
  · rw [b6 i hi, if_pos (Nat.zero_le _)]
    unfold mm_v kk_t kk_m
    rw [a4, a6 _ (Nat.zero_le _) (by omega), a6 _ (Nat.zero_le _) (by omega)]
  · rw [c4 j hj, if_pos rfl, if_pos (Nat.zero_le _)]
