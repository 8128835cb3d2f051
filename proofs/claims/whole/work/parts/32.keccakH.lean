/-! The class's rounds. -/
set_option maxHeartbeats 1000000 in
theorem kh_mc106 {a w t c x : Nat} {y : Int64} {rc : pl_H → Nat → Int32 → Option pl_H} (hx : x < 5) : ∀ (m k z : Nat) (f : pl_H), 25 - z ≤ m → z < 30 → m < k → kh_L f a w t c → ∃ f', fn_H_mixColumns_106 rc k f a (nI x) y (nI z) = rc f' a (nI (x + 1)) ∧ kh_L f' a w t c ∧ bs_kp (kh_S w t c) f f' ∧ ax_L f' c = ax_L f c ∧ ∀ j, j < 25 → ax_L f' w j = if z ≤ j ∧ (j - z) % 5 = 0 then ax_L f w j ^^^ y else ax_L f w j := by
  intro m
  induction m with
  | zero =>
    intro k z f hm hz hk h
    obtain ⟨k, rfl⟩ : ∃ k', k = k' + 1 := ⟨k - 1, by omega⟩
    have hge : (25 : Int32) ≤ nI z := (bs_le (a := 25) (by decide) (by omega)).mpr (by omega)
    refine ⟨f, ?_, h, bs_kp.rf, rfl, fun j hj => by rw [if_neg (by omega)]⟩
    conv => lhs; unfold fn_H_mixColumns_106
    simp only [if_pos hge]
    rw [show nI x + 1 = nI (x + 1) from nI_add x 1]
  | succ m ih =>
    intro k z f hm hz hk h
    obtain ⟨k, rfl⟩ : ∃ k', k = k' + 1 := ⟨k - 1, by omega⟩
    by_cases hz25 : 25 ≤ z
    · have hge : (25 : Int32) ≤ nI z := (bs_le (a := 25) (by decide) (by omega)).mpr hz25
      refine ⟨f, ?_, h, bs_kp.rf, rfl, fun j hj => by rw [if_neg (by omega)]⟩
      conv => lhs; unfold fn_H_mixColumns_106
      simp only [if_pos hge]
      rw [show nI x + 1 = nI (x + 1) from nI_add x 1]
    · have hlt : ¬ (25 : Int32) ≤ nI z := fun q => absurd ((bs_le (a := 25) (by decide) (by omega)).mp q) hz25
      have h' := kh_up h w z (ax_L f w z ^^^ y)
      obtain ⟨f', g1, g2, g3, g4, g5⟩ := ih k (z + 5) _ (by omega) (by omega) (by omega) h'
      have hcw : c ≠ w := fun q => h.2.2.2.2.2.2.2.2.1 q.symm
      refine ⟨f', ?_, g2, (bs_kp.L (Or.inl rfl)).tr g3, by rw [g4, rx_L_ne hcw], fun j hj => ?_⟩
      · rw [← g1]
        conv => lhs; unfold fn_H_mixColumns_106
        simp only [if_neg hlt, kh_0 h, kh_w h (show z < 25 by omega), Option.bind_some]
        rw [kh_sw h (show z < 25 by omega)]
        simp only [Option.bind_some]
        rw [show nI z + 5 = nI (z + 5) from nI_add z 5]
      · rw [g5 j hj, rx_L h.2.2.2.2.1, bs_vL]
        by_cases hjz : j = z
        · subst hjz
          rw [if_neg (by omega), if_pos rfl, if_pos ⟨Nat.le_refl _, by simp⟩]
        · rw [if_neg hjz]
          by_cases hc : z ≤ j ∧ (j - z) % 5 = 0
          · rw [if_pos hc, if_pos (by omega)]
          · rw [if_neg hc, if_neg (by omega)]
set_option maxHeartbeats 1000000 in
theorem kh_mc66 {a w t c : Nat} : ∀ (m k x : Nat) (f : pl_H), 5 - x = m → x ≤ 5 → m < k → kh_L f a w t c → ∃ f', fn_H_mixColumns_66 k f a (nI x) = some f' ∧ kh_L f' a w t c ∧ bs_kp (kh_S w t c) f f' ∧ ∀ j, j < 25 → ax_L f' w j = if x ≤ j % 5 then ax_L f w j ^^^ (ax_L f c ((j % 5 + 4) % 5) ^^^ kk_1 (ax_L f c ((j % 5 + 1) % 5))) else ax_L f w j := by
  intro m
  induction m with
  | zero =>
    intro k x f hm hx hk h
    have hx5 : x = 5 := by omega
    subst hx5
    obtain ⟨k, rfl⟩ : ∃ k', k = k' + 1 := ⟨k - 1, by omega⟩
    refine ⟨f, rfl, h, bs_kp.rf, fun j hj => by rw [if_neg (by omega)]⟩
  | succ m ih =>
    intro k x f hm hx hk h
    obtain ⟨k, rfl⟩ : ∃ k', k = k' + 1 := ⟨k - 1, by omega⟩
    have hlt : ¬ (5 : Int32) ≤ nI x := fun q => absurd ((bs_le (a := 5) (by decide) (by omega)).mp q) (by omega)
    have e1 : nI x + 1 = nI (x + 1) := nI_add x 1
    have e4 : nI x + 4 = nI (x + 4) := nI_add x 4
    have r1 : nI (x + 1) - nI (x + 1) / 5 * 5 = nI ((x + 1) % 5) := pk_rem (d := 5) (by omega) (by decide) (by decide)
    have r4 : nI (x + 4) - nI (x + 4) / 5 * 5 = nI ((x + 4) % 5) := pk_rem (d := 5) (by omega) (by decide) (by decide)
    obtain ⟨f1, g1, g2, g3, g4, g5⟩ := kh_mc106 (rc := fn_H_mixColumns_66 k) (y := ax_L f c ((x + 4) % 5) ^^^ kk_1 (ax_L f c ((x + 1) % 5))) (show x < 5 by omega) 25 pl_N x f (by omega) (by omega) (by decide) h
    obtain ⟨f', i1, i2, i3, i4⟩ := ih k (x + 1) f1 (by omega) (by omega) (by omega) g2
    refine ⟨f', ?_, i2, g3.tr i3, fun j hj => ?_⟩
    · rw [← i1, ← g1]
      conv => lhs; unfold fn_H_mixColumns_66
      simp only [if_neg hlt, e1, e4, r1, r4, kh_2 h, kh_c h (show (x + 1) % 5 < 5 by omega), kh_c h (show (x + 4) % 5 < 5 by omega), Option.bind_some]
      rfl
    · rw [i4 j hj, g4, g5 j hj]
      by_cases hjx : j % 5 = x
      · rw [if_neg (by omega), if_pos (by omega), if_pos (by omega), hjx]
      · by_cases hlx : x ≤ j % 5
        · rw [if_pos (by omega), if_neg (by omega), if_pos hlx]
        · rw [if_neg (by omega), if_neg (by omega), if_neg hlx]
theorem kh_mc {a w t c : Nat} {f : pl_H} (h : kh_L f a w t c) : ∃ f', fn_H_mixColumns f a = some f' ∧ kh_L f' a w t c ∧ bs_kp (kh_S w t c) f f' ∧ ∀ j, j < 25 → ax_L f' w j = kk_t (ax_L f w) j := by
  obtain ⟨f1, g1, g2, g3, g4, -, g6⟩ := kh_mc2 5 pl_N 0 f rfl (by omega) (by decide) h
  obtain ⟨f', i1, i2, i3, i4⟩ := kh_mc66 5 pl_N 0 f1 rfl (by omega) (by decide) g2
  refine ⟨f', ?_, i2, g3.tr i3, fun j hj => ?_⟩
  · unfold fn_H_mixColumns
    exact (g1.trans i1)
  · rw [i4 j hj, if_pos (Nat.zero_le _), g4, g6 _ (Nat.zero_le _) (by omega), g6 _ (Nat.zero_le _) (by omega)]
    rfl
theorem kk_T_ok : ∀ i, i < 25 → pl_t0.getD i 0 = nI (kk_T i) ∧ kk_T i < 25 := by decide +kernel
theorem kk_T_inj : ∀ i, i < 25 → ∀ j, j < 25 → kk_T i = kk_T j → i = j := by decide +kernel
theorem kk_T_on : ∀ j, j < 25 → ∃ i, i < 25 ∧ kk_T i = j := by decide +kernel
theorem kk_tb0 {i : Nat} (h : i < 25) : pl_tb0 (nI i) = some (nI (kk_T i)) := by
  unfold pl_tb0
  rw [if_pos (bs_ok h (by decide)), bs_cl (by omega), (kk_T_ok i h).1]
theorem kk_tb1 {i : Nat} (h : i < 25) : pl_tb1 (nI i) = some (pl_t1.getD i 0) := by
  unfold pl_tb1
  rw [if_pos (bs_ok h (by decide)), bs_cl (by omega)]
theorem kk_tb2 {i : Nat} (h : i < 24) : pl_tb2 (nI i) = some (pl_t2.getD i 0) := by
  unfold pl_tb2
  rw [if_pos (bs_ok h (by decide)), bs_cl (by omega)]
set_option maxHeartbeats 1000000 in
theorem kh_tw2 {a w t c : Nat} : ∀ (m k x : Nat) (f : pl_H), 25 - x = m → x ≤ 25 → m < k → kh_L f a w t c → ∃ f', fn_H_turnWords_2 k f a (nI x) = some f' ∧ kh_L f' a w t c ∧ bs_kp (kh_S w t c) f f' ∧ ax_L f' w = ax_L f w ∧ (∀ i, i < x → ax_L f' t (kk_T i) = ax_L f t (kk_T i)) ∧ ∀ i, x ≤ i → i < 25 → ax_L f' t (kk_T i) = kk_r (ax_L f w i) (pl_t1.getD i 0) := by
  intro m
  induction m with
  | zero =>
    intro k x f hm hx hk h
    have hx5 : x = 25 := by omega
    subst hx5
    obtain ⟨k, rfl⟩ : ∃ k', k = k' + 1 := ⟨k - 1, by omega⟩
    exact ⟨f, rfl, h, bs_kp.rf, rfl, fun _ _ => rfl, fun i h1 h2 => absurd h2 (by omega)⟩
  | succ m ih =>
    intro k x f hm hx hk h
    obtain ⟨k, rfl⟩ : ∃ k', k = k' + 1 := ⟨k - 1, by omega⟩
    have hx25 : x < 25 := by omega
    have hlt : ¬ (25 : Int32) ≤ nI x := fun q => absurd ((bs_le (a := 25) (by decide) (by omega)).mp q) (by omega)
    have h' := kh_up h t (kk_T x) (kk_r (ax_L f w x) (pl_t1.getD x 0))
    obtain ⟨f', g1, g2, g3, g4, g5, g6⟩ := ih k (x + 1) _ (by omega) (by omega) (by omega) h'
    have hwt : w ≠ t := h.2.2.2.2.2.2.2.1
    refine ⟨f', ?_, g2, (bs_kp.L (Or.inr (Or.inl rfl))).tr g3, by rw [g4, rx_L_ne hwt], fun i hi => ?_, fun i h1 h2 => ?_⟩
    · rw [← g1]
      conv => lhs; unfold fn_H_turnWords_2
      simp only [if_neg hlt, kh_0 h, kh_w h hx25, kk_tb1 hx25, kh_1 h, kk_tb0 hx25, Option.bind_some]
      rw [kh_st h (kk_T_ok x hx25).2]
      simp only [Option.bind_some]
      rw [show nI x + 1 = nI (x + 1) from nI_add x 1]
      rfl
    · rw [g5 i (by omega), rx_L h.2.2.2.2.2.1, bs_vL, if_neg (fun q => absurd (kk_T_inj i (by omega) x hx25 q) (by omega))]
    · by_cases hix : i = x
      · subst hix
        rw [g5 i (by omega), rx_L h.2.2.2.2.2.1, bs_vL, if_pos rfl]
      · rw [g6 i (by omega) h2, rx_L_ne hwt]
set_option maxHeartbeats 2000000 in
theorem kh_mr2 {a w t c : Nat} : ∀ (m k y : Nat) (f : pl_H), 5 - y = m → y ≤ 5 → m < k → kh_L f a w t c → ∃ f', fn_H_mixRows_2 k f a (nI (5 * y)) = some f' ∧ kh_L f' a w t c ∧ bs_kp (kh_S w t c) f f' ∧ ax_L f' t = ax_L f t ∧ (∀ j, j < 5 * y → ax_L f' w j = ax_L f w j) ∧ ∀ j, 5 * y ≤ j → j < 25 → ax_L f' w j = kk_x (ax_L f t) (j / 5 * 5) (j % 5) := by
  intro m
  induction m with
  | zero =>
    intro k x f hm hx hk h
    have hx5 : x = 5 := by omega
    subst hx5
    obtain ⟨k, rfl⟩ : ∃ k', k = k' + 1 := ⟨k - 1, by omega⟩
    exact ⟨f, rfl, h, bs_kp.rf, rfl, fun _ _ => rfl, fun i h1 h2 => absurd h2 (by omega)⟩
  | succ m ih =>
    intro k y f hm hx hk h
    obtain ⟨k, rfl⟩ : ∃ k', k = k' + 1 := ⟨k - 1, by omega⟩
    have hy : y < 5 := by omega
    generalize hz : 5 * y = z
    have hz20 : z ≤ 20 := by omega
    have hlt : ¬ (25 : Int32) ≤ nI z := fun q => absurd ((bs_le (a := 25) (by decide) (by omega)).mp q) (by omega)
    have e1 : nI z + 1 = nI (z + 1) := nI_add z 1
    have e2 : nI z + 2 = nI (z + 2) := nI_add z 2
    have e3 : nI z + 3 = nI (z + 3) := nI_add z 3
    have e4 : nI z + 4 = nI (z + 4) := nI_add z 4
    have e5 : nI z + 5 = nI (5 * (y + 1)) := by rw [show 5 * (y + 1) = z + 5 by omega]; exact nI_add z 5
    generalize hv0 : ax_L f t z = v0
    generalize hv1 : ax_L f t (z + 1) = v1
    generalize hv2 : ax_L f t (z + 2) = v2
    generalize hv3 : ax_L f t (z + 3) = v3
    generalize hv4 : ax_L f t (z + 4) = v4
    have h1 := kh_up h w z (v0 ^^^ ((v1 ^^^ (-1)) &&& v2))
    have h2 := kh_up h1 w (z + 1) (v1 ^^^ ((v2 ^^^ (-1)) &&& v3))
    have h3 := kh_up h2 w (z + 2) (v2 ^^^ ((v3 ^^^ (-1)) &&& v4))
    have h4 := kh_up h3 w (z + 3) (v3 ^^^ ((v4 ^^^ (-1)) &&& v0))
    have h5 := kh_up h4 w (z + 4) (v4 ^^^ ((v0 ^^^ (-1)) &&& v1))
    obtain ⟨f', g1, g2, g3, g4, g5, g6⟩ := ih k (y + 1) _ (by omega) (by omega) (by omega) h5
    have htw : t ≠ w := fun q => h.2.2.2.2.2.2.2.1 q.symm
    refine ⟨f', ?_, g2, ((((bs_kp.L (Or.inl rfl)).tr (bs_kp.L (Or.inl rfl))).tr (bs_kp.L (Or.inl rfl))).tr (bs_kp.L (Or.inl rfl))).tr ((bs_kp.L (Or.inl rfl)).tr g3), by rw [g4, rx_L_ne htw, rx_L_ne htw, rx_L_ne htw, rx_L_ne htw, rx_L_ne htw], fun i hi => ?_, fun j hj1 hj2 => ?_⟩
    · rw [← g1]
      conv => lhs; unfold fn_H_mixRows_2
      simp only [if_neg hlt, kh_1 h, e1, e2, e3, e4, e5, kh_t h (show z < 25 by omega), kh_t h (show z + 1 < 25 by omega), kh_t h (show z + 2 < 25 by omega), kh_t h (show z + 3 < 25 by omega), kh_t h (show z + 4 < 25 by omega), hv0, hv1, hv2, hv3, hv4, kh_0 h, Option.bind_some]
      rw [kh_sw h (show z < 25 by omega)]
      simp only [Option.bind_some, kh_0 h1]
      rw [kh_sw h1 (show z + 1 < 25 by omega)]
      simp only [Option.bind_some, kh_0 h2]
      rw [kh_sw h2 (show z + 2 < 25 by omega)]
      simp only [Option.bind_some, kh_0 h3]
      rw [kh_sw h3 (show z + 3 < 25 by omega)]
      simp only [Option.bind_some, kh_0 h4]
      rw [kh_sw h4 (show z + 4 < 25 by omega)]
      rfl
    · rw [g5 i (by omega), rx_L h4.2.2.2.2.1, bs_vL, if_neg (by omega), rx_L h3.2.2.2.2.1, bs_vL, if_neg (by omega), rx_L h2.2.2.2.2.1, bs_vL, if_neg (by omega), rx_L h1.2.2.2.2.1, bs_vL, if_neg (by omega), rx_L h.2.2.2.2.1, bs_vL, if_neg (by omega)]
    · by_cases hjz : z + 5 ≤ j
      · rw [g6 j (by omega) hj2, rx_L_ne htw, rx_L_ne htw, rx_L_ne htw, rx_L_ne htw, rx_L_ne htw]
      · rw [g5 j (by omega), rx_L h4.2.2.2.2.1, bs_vL, rx_L h3.2.2.2.2.1, bs_vL, rx_L h2.2.2.2.2.1, bs_vL, rx_L h1.2.2.2.2.1, bs_vL, rx_L h.2.2.2.2.1, bs_vL]
        have hjd : j / 5 * 5 = z := by omega
        rw [hjd]
        unfold kk_x
        rcases (show j = z ∨ j = z + 1 ∨ j = z + 2 ∨ j = z + 3 ∨ j = z + 4 by omega) with rfl | rfl | rfl | rfl | rfl
        · rw [if_neg (by omega), if_neg (by omega), if_neg (by omega), if_neg (by omega), if_pos rfl, show j % 5 = 0 by omega]
          simp only [Nat.add_zero, Nat.reduceAdd, Nat.reduceMod, hv0, hv1, hv2]
        · rw [if_neg (by omega), if_neg (by omega), if_neg (by omega), if_pos rfl, show (z + 1) % 5 = 1 by omega]
          simp only [Nat.reduceAdd, Nat.reduceMod, hv1, hv2, hv3]
        · rw [if_neg (by omega), if_neg (by omega), if_pos rfl, show (z + 2) % 5 = 2 by omega]
          simp only [Nat.reduceAdd, Nat.reduceMod, hv2, hv3, hv4]
        · rw [if_neg (by omega), if_pos rfl, show (z + 3) % 5 = 3 by omega]
          simp only [Nat.reduceAdd, Nat.reduceMod, Nat.add_zero, hv3, hv4, hv0]
        · rw [if_pos rfl, show (z + 4) % 5 = 4 by omega]
          simp only [Nat.reduceAdd, Nat.reduceMod, Nat.add_zero, hv4, hv0, hv1]
/-- one round -/
def kk_R (rc : Int64) (w w' : Nat → Int64) : Prop := ∃ b : Nat → Int64, (∀ i, i < 25 → b (kk_T i) = kk_r (kk_t w i) (pl_t1.getD i 0)) ∧ ∀ j, j < 25 → w' j = if j = 0 then kk_x b 0 0 ^^^ rc else kk_x b (j / 5 * 5) (j % 5)
/-- m rounds from the round r on -/
def kk_G : Nat → Nat → (Nat → Int64) → (Nat → Int64) → Prop
  | 0, _, w, w' => ∀ j, j < 25 → w' j = w j
  | m + 1, r, w, w' => ∃ v, kk_R (pl_t2.getD r 0) w v ∧ kk_G m (r + 1) v w'
set_option maxHeartbeats 1000000 in
theorem kh_dr2 {a w t c : Nat} : ∀ (m k r : Nat) (f : pl_H), 24 - r = m → r ≤ 24 → m < k → kh_L f a w t c → ∃ f', fn_H_doRounds_2 k f a (nI r) = some f' ∧ kh_L f' a w t c ∧ bs_kp (kh_S w t c) f f' ∧ kk_G m r (ax_L f w) (ax_L f' w) := by
  intro m
  induction m with
  | zero =>
    intro k r f hm hx hk h
    have hx5 : r = 24 := by omega
    subst hx5
    obtain ⟨k, rfl⟩ : ∃ k', k = k' + 1 := ⟨k - 1, by omega⟩
    exact ⟨f, rfl, h, bs_kp.rf, fun _ _ => rfl⟩
  | succ m ih =>
    intro k r f hm hx hk h
    obtain ⟨k, rfl⟩ : ∃ k', k = k' + 1 := ⟨k - 1, by omega⟩
    have hr : r < 24 := by omega
    have hlt : ¬ (pl_tn2 : Int32) ≤ nI r := fun q => absurd ((bs_le (a := 24) (by decide) (by omega)).mp q) (by omega)
    obtain ⟨f1, a1, a2, a3, a4⟩ := kh_mc h
    obtain ⟨f2, b1, b2, b3, b4, -, b6⟩ := kh_tw2 25 pl_N 0 f1 rfl (by omega) (by decide) a2
    obtain ⟨f3, c1, c2, c3, c4, -, c6⟩ := kh_mr2 5 pl_N 0 f2 rfl (by omega) (by decide) b2
    have h' := kh_up c2 w 0 (ax_L f3 w 0 ^^^ pl_t2.getD r 0)
    obtain ⟨f', i1, i2, i3, i4⟩ := ih k (r + 1) _ (by omega) (by omega) (by omega) h'
    refine ⟨f', ?_, i2, ((a3.tr b3).tr c3).tr ((bs_kp.L (Or.inl rfl)).tr i3), _, ⟨ax_L f2 t, fun i hi => ?_, fun j hj => ?_⟩, i4⟩
    · rw [← i1]
      conv => lhs; unfold fn_H_doRounds_2
      simp only [if_neg hlt, ax_is h.1, a1, ax_is a2.1, Option.bind_some]
      rw [show fn_H_turnWords f1 a = some f2 from b1]
      simp only [Option.bind_some, ax_is b2.1]
      rw [show fn_H_mixRows f2 a = some f3 from c1]
      simp only [Option.bind_some, kh_0 c2]
      rw [show pl_aL f3 w 0 = some (ax_L f3 w 0) from kh_w c2 (j := 0) (by decide)]
      simp only [Option.bind_some, kk_tb2 hr]
      rw [show pl_sL f3 w 0 (ax_L f3 w 0 ^^^ pl_t2.getD r 0) = some (ux_L f3 w 0 (ax_L f3 w 0 ^^^ pl_t2.getD r 0)) from kh_sw c2 (j := 0) (by decide) _]
      simp only [Option.bind_some]
      rw [show nI r + 1 = nI (r + 1) from nI_add r 1]
    · rw [b6 i (Nat.zero_le _) hi, a4 i hi]
    · rw [rx_L c2.2.2.2.2.1, bs_vL]
      by_cases hj0 : j = 0
      · subst hj0
        rw [if_pos rfl, if_pos rfl, c6 0 (by omega) (by omega)]
      · rw [if_neg hj0, if_neg hj0, c6 j (by omega) hj]
theorem kh_dr {a w t c : Nat} {f : pl_H} (h : kh_L f a w t c) : ∃ f', fn_H_doRounds f a = some f' ∧ kh_L f' a w t c ∧ bs_kp (kh_S w t c) f f' ∧ kk_G 24 0 (ax_L f w) (ax_L f' w) := kh_dr2 24 pl_N 0 f rfl (by omega) (by decide) h
