/-! The book stands for a map of accounts. -/
def bk_R (f : pl_H) (a c : Nat) (m : am_M) : Prop := bk_L f a ∧ ax_i f a 3 = nI c ∧ c ≤ 12 ∧ am_R c (ax_I f (a + 1)) (ax_I f (a + 2)) (ax_L f (a + 3)) m ∧ ∀ i j, i < j → j < c → ax_I f (a + 1) i < ax_I f (a + 1) j
theorem bk_R_kp {f f' : pl_H} {a c : Nat} {m : am_M} {S : Nat → Prop} (h : bk_R f a c m) (hk : bs_kp S f f') (hS : ∀ q, a ≤ q → q ≤ a + 3 → ¬ S q) : bk_R f' a c m := by
  obtain ⟨h1, h2, h3, h4, h5⟩ := h
  have e0 := hk a (hS a (Nat.le_refl _) (by omega))
  have e1 := hk (a + 1) (hS _ (by omega) (by omega))
  have e2 := hk (a + 2) (hS _ (by omega) (by omega))
  have e3 := hk (a + 3) (hS _ (by omega) (by omega))
  refine ⟨bk_kp h1 hk hS, ?_, h3, ?_, ?_⟩
  · unfold ax_i ax_v; rw [e0]; exact h2
  · unfold ax_I ax_L; rw [e1, e2, e3]; exact h4
  · unfold ax_I; rw [e1]; exact h5
theorem bk_find2 {f : pl_H} {a c : Nat} {m : am_M} (h : bk_R f a c m) (x : Int32) : ∀ (d k z : Nat), c - z = d → z ≤ c → d < k → (∀ j, j < z → ax_I f (a + 1) j ≠ x) → ∃ r, fn_B_find_2 k f a x (nI z) = some r ∧ ((∃ j, j < c ∧ ax_I f (a + 1) j = x ∧ r = nI j) ∨ (m x = none ∧ r = -1)) := by
  intro d
  induction d with
  | zero =>
    intro k z hd hz hk hn
    have hzc : z = c := by omega
    subst hzc
    obtain ⟨k, rfl⟩ : ∃ k', k = k' + 1 := ⟨k - 1, by omega⟩
    have hc := h.2.2.1
    refine ⟨-1, ?_, Or.inr ⟨am_no h.2.2.2.1 hn, rfl⟩⟩
    unfold fn_B_find_2
    simp only [bk_c h.1, h.2.1, Option.bind_some]
    rw [if_pos ((bs_le (by omega) (by omega)).mpr (Nat.le_refl _))]
  | succ d ih =>
    intro k z hd hz hk hn
    obtain ⟨k, rfl⟩ : ∃ k', k = k' + 1 := ⟨k - 1, by omega⟩
    have hc := h.2.2.1
    by_cases e : ax_I f (a + 1) z = x
    · refine ⟨nI z, ?_, Or.inl ⟨z, by omega, e, rfl⟩⟩
      unfold fn_B_find_2
      simp only [bk_c h.1, h.2.1, Option.bind_some]
      rw [if_neg (fun q => absurd ((bs_le (by omega) (by omega)).mp q) (by omega))]
      simp only [bk_0 h.1, bk_g0 h.1 (show z < 12 by omega), Option.bind_some, if_pos e]
    · obtain ⟨r, r1, r2⟩ := ih k (z + 1) (by omega) (by omega) (by omega) (fun j hj => by
        by_cases ej : j = z
        · rw [ej]; exact e
        · exact hn j (by omega))
      refine ⟨r, ?_, r2⟩
      rw [← r1]
      conv => lhs; unfold fn_B_find_2
      simp only [bk_c h.1, h.2.1, Option.bind_some]
      rw [if_neg (fun q => absurd ((bs_le (by omega) (by omega)).mp q) (by omega))]
      simp only [bk_0 h.1, bk_g0 h.1 (show z < 12 by omega), Option.bind_some, if_neg e]
      rw [show nI z + 1 = nI (z + 1) from nI_add z 1]
theorem bk_find {f : pl_H} {a c : Nat} {m : am_M} (h : bk_R f a c m) (x : Int32) : ∃ r, fn_B_find f a x = some r ∧ ((∃ j, j < c ∧ ax_I f (a + 1) j = x ∧ r = nI j) ∨ (m x = none ∧ r = -1)) := bk_find2 h x c pl_N 0 (by omega) (by omega) (by have := h.2.2.1; unfold pl_N; omega) (fun j hj => absurd hj (by omega))
def am_n (m : am_M) (x : Int32) : Int32 := match m x with
  | some v => v.1
  | none => 0
def am_b (m : am_M) (x : Int32) : Int64 := match m x with
  | some v => v.2
  | none => 0
theorem bk_nonceOf {f : pl_H} {a c : Nat} {m : am_M} (h : bk_R f a c m) (x : Int32) : fn_B_nonceOf f a x = some (am_n m x) := by
  obtain ⟨r, r1, r2⟩ := bk_find h x
  have hc := h.2.2.1
  unfold fn_B_nonceOf fn_B_nonceOf_20
  simp only [ax_is h.1.1, r1, Option.bind_some]
  rcases r2 with ⟨j, j1, j2, rfl⟩ | ⟨j1, rfl⟩
  · rw [if_pos (nI_pos' (by omega)), bk_1 h.1]
    simp only [Option.bind_some, bk_g1 h.1 (show j < 12 by omega)]
    unfold am_n
    rw [← j2, am_at h.2.2.2.1 j1]
  · rw [if_neg (by decide)]
    unfold am_n
    rw [j1]
theorem bk_balanceOf {f : pl_H} {a c : Nat} {m : am_M} (h : bk_R f a c m) (x : Int32) : fn_B_balanceOf f a x = some (am_b m x) := by
  obtain ⟨r, r1, r2⟩ := bk_find h x
  have hc := h.2.2.1
  unfold fn_B_balanceOf fn_B_balanceOf_20
  simp only [ax_is h.1.1, r1, Option.bind_some]
  rcases r2 with ⟨j, j1, j2, rfl⟩ | ⟨j1, rfl⟩
  · rw [if_pos (nI_pos' (by omega)), bk_2 h.1]
    simp only [Option.bind_some, bk_g2 h.1 (show j < 12 by omega)]
    unfold am_b
    rw [← j2, am_at h.2.2.2.1 j1]
  · rw [if_neg (by decide)]
    unfold am_b
    rw [j1]
def am_h (m : am_M) (x : Int32) : Int32 := match m x with
  | some _ => 1
  | none => 0
theorem bk_has {f : pl_H} {a c : Nat} {m : am_M} (h : bk_R f a c m) (x : Int32) : fn_B_has f a x = some (am_h m x) := by
  obtain ⟨r, r1, r2⟩ := bk_find h x
  have hc := h.2.2.1
  unfold fn_B_has fn_B_has_13
  simp only [ax_is h.1.1, r1, Option.bind_some]
  rcases r2 with ⟨j, j1, j2, rfl⟩ | ⟨j1, rfl⟩
  · rw [if_neg (nI_pos (by omega))]
    unfold am_h
    rw [← j2, am_at h.2.2.2.1 j1]
    rfl
  · rw [if_pos (by decide)]
    unfold am_h
    rw [j1]
    rfl
theorem bk_count {f : pl_H} {a c : Nat} {m : am_M} (h : bk_R f a c m) : fn_B_count f a = some (nI c) := by
  unfold fn_B_count
  simp only [bk_c h.1, h.2.1, Option.bind_some]
theorem am_up_id {m : am_M} {x : Int32} (h : m x = none) : am_up m x none = m := by
  funext y
  unfold am_up
  by_cases e : y = x
  · rw [if_pos e, e, h]
  · rw [if_neg e]
/-- how many more accounts: 0 or 1 for a map's entry -/
def am_1 (v : Option (Int32 × Int64)) : Nat := match v with
  | some _ => 1
  | none => 0
set_option maxHeartbeats 2000000 in
/-- put(account, nonce, balance): 0 and 0 take the account out -/
theorem bk_put {f : pl_H} {a c : Nat} {m : am_M} (h : bk_R f a c m) {y : Nat} (hy : y < 65536) (nn : Int32) (bb : Int64) {v : Option (Int32 × Int64)} (hv : v = if nn = 0 ∧ bb = 0 then none else some (nn, bb)) (hroom : m (nI y) = none → v ≠ none → c < 12) :
    ∃ f' c', fn_B_put f a (nI y) nn bb = some f' ∧ bk_R f' a c' (am_up m (nI y) v) ∧ bs_kp (bk_S a) f f' ∧ c' + am_1 (m (nI y)) = c + am_1 v := by
  have hc := h.2.2.1
  have hL := h.1
  obtain ⟨r, r1, r2⟩ := bk_find h (nI y)
  have key : fn_B_put f a (nI y) nn bb = fn_B_put_15 f a (nI y) nn bb (if nn = 0 ∧ bb = 0 then 0 else 1) := by
    unfold fn_B_put fn_B_put_10
    by_cases h1 : nn = 0
    · rw [if_pos h1]
      by_cases h2 : bb = 0
      · rw [if_pos ((lg_cmp_eq bb 0).mpr h2), if_pos ⟨h1, h2⟩]
      · rw [if_neg (fun q => h2 ((lg_cmp_eq bb 0).mp q)), if_neg (fun q => h2 q.2)]
    · rw [if_neg h1, if_neg (fun q => h1 q.1)]
  rcases r2 with ⟨p, p1, p2, rfl⟩ | ⟨p1, rfl⟩
  · have hsome : m (nI y) = some (ax_I f (a + 2) p, ax_L f (a + 3) p) := by rw [← p2]; exact am_at h.2.2.2.1 p1
    by_cases hz : nn = 0 ∧ bb = 0
    · -- it goes
      rw [if_pos hz] at hv
      subst hv
      obtain ⟨c, rfl⟩ : ∃ c', c = c' + 1 := ⟨c - 1, by omega⟩
      obtain ⟨f', g1, g2, g3, g4, g5, g6⟩ := bk_rem2 (show c < 12 by omega) (c - p) pl_N p f rfl (by omega) (by unfold pl_N; omega) hL h.2.1
      refine ⟨f', c, ?_, ⟨g2, g4, by omega, ?_, ?_⟩, g3, by rw [hsome]; rfl⟩
      · rw [key, if_pos hz]
        unfold fn_B_put_15
        simp only [ax_is hL.1, r1, Option.bind_some]
        rw [if_neg (nI_pos (by omega)), if_pos trivial]
        rw [show fn_B_remove f a (nI p) = some f' from g1]
        rfl
      · rw [← p2]
        exact am_del h.2.2.2.1 (by omega) (fun j hj => g5 j hj) (fun j h1 h2 => g6 j h1 h2)
      · intro i j hij hj
        by_cases e1 : j < p
        · rw [(g5 j e1).1, (g5 i (by omega)).1]
          exact h.2.2.2.2 i j hij (by omega)
        · rw [(g6 j (by omega) hj).1]
          by_cases e2 : i < p
          · rw [(g5 i e2).1]
            exact h.2.2.2.2 i (j + 1) (by omega) (by omega)
          · rw [(g6 i (by omega) (by omega)).1]
            exact h.2.2.2.2 (i + 1) (j + 1) (by omega) (by omega)
    · -- another value
      rw [if_neg hz] at hv
      subst hv
      have h1 := bk_uI hL (a + 2) p nn
      have h2 := bk_uL h1 (a + 3) p bb
      refine ⟨_, c, ?_, ⟨h2, by rw [ix_L, ix_I]; exact h.2.1, hc, ?_, ?_⟩, (bs_kp.I (by unfold bk_S; omega)).tr (bs_kp.L (by unfold bk_S; omega)), by rw [hsome]; rfl⟩
      · rw [key, if_neg hz]
        unfold fn_B_put_15 fn_B_put_41 fn_B_put_58 fn_B_put_79
        simp only [ax_is hL.1, r1, Option.bind_some]
        rw [if_neg (nI_pos (by omega)), if_neg (by decide), if_pos (nI_pos' (by omega)), bk_1 hL]
        simp only [Option.bind_some, bk_w1 hL (show p < 12 by omega), bk_2 h1, bk_w2 h1 (show p < 12 by omega)]
        rw [if_neg (nI_pos (by omega))]
      · have hs := am_set (o' := ax_I (ux_L (ux_I f (a + 2) p nn) (a + 3) p bb) (a + 2)) (b' := ax_L (ux_L (ux_I f (a + 2) p nn) (a + 3) p bb) (a + 3)) h.2.2.2.1 p1 (fun j hj hne => by rw [rx_I_L, rx_I hL.2.2.2.2.2.1, bs_vI, if_neg hne]) (fun j hj hne => by rw [rx_L h1.2.2.2.2.2.2, bs_vL, if_neg hne, rx_L_I])
        rw [p2, show ax_I (ux_L (ux_I f (a + 2) p nn) (a + 3) p bb) (a + 2) p = nn by rw [rx_I_L, rx_I hL.2.2.2.2.2.1, bs_vI, if_pos rfl], show ax_L (ux_L (ux_I f (a + 2) p nn) (a + 3) p bb) (a + 3) p = bb by rw [rx_L h1.2.2.2.2.2.2, bs_vL, if_pos rfl]] at hs
        exact am_c hs (fun j _ => by rw [rx_I_L, rx_I_ne (show a + 1 ≠ a + 2 by omega)]) (fun _ _ => rfl) (fun _ _ => rfl)
      · intro i j hij hj
        rw [rx_I_L, rx_I_ne (show a + 1 ≠ a + 2 by omega)]
        exact h.2.2.2.2 i j hij hj
  · by_cases hz : nn = 0 ∧ bb = 0
    · rw [if_pos hz] at hv
      subst hv
      refine ⟨f, c, ?_, by rw [am_up_id p1]; exact h, bs_kp.rf, by rw [p1]⟩
      rw [key, if_pos hz]
      unfold fn_B_put_15 fn_B_put_41 fn_B_put_58 fn_B_put_79
      simp only [ax_is hL.1, r1, Option.bind_some]
      rw [if_pos (by decide), if_neg (by decide), if_pos trivial, if_pos (by decide)]
    · rw [if_neg hz] at hv
      subst hv
      have hc12 : c < 12 := hroom p1 (fun q => by cases q)
      obtain ⟨p, f1, g1, g2, g3, g4, g5, g6, g7, g8, -, g10, g11⟩ := bk_ins16 (x := nI y) hc12 c pl_N f (Nat.le_refl _) (by unfold pl_N; omega) hL h.2.1
      have h1 := bk_uI g3 (a + 2) p nn
      have h2 := bk_uL h1 (a + 3) p bb
      have eN : ∀ j, ax_I (ux_L (ux_I f1 (a + 2) p nn) (a + 3) p bb) (a + 1) j = ax_I f1 (a + 1) j := fun j => by rw [rx_I_L, rx_I_ne (show a + 1 ≠ a + 2 by omega)]
      have eO : ∀ j, ax_I (ux_L (ux_I f1 (a + 2) p nn) (a + 3) p bb) (a + 2) j = if j = p then nn else ax_I f1 (a + 2) j := fun j => by rw [rx_I_L, rx_I g3.2.2.2.2.2.1, bs_vI]
      have eB : ∀ j, ax_L (ux_L (ux_I f1 (a + 2) p nn) (a + 3) p bb) (a + 3) j = if j = p then bb else ax_L f1 (a + 3) j := fun j => by rw [rx_L h1.2.2.2.2.2.2, bs_vL, rx_L_I]
      refine ⟨_, c + 1, ?_, ⟨h2, by rw [ix_L, ix_I]; exact g5, by omega, ?_, ?_⟩, g4.tr ((bs_kp.I (by unfold bk_S; omega)).tr (bs_kp.L (by unfold bk_S; omega))), by rw [p1]; rfl⟩
      · rw [key, if_neg hz]
        unfold fn_B_put_15 fn_B_put_41
        simp only [ax_is hL.1, r1, Option.bind_some]
        rw [if_pos (by decide), if_neg (by decide), if_neg (by decide)]
        unfold fn_B_insert
        simp only [bk_c hL, h.2.1, Option.bind_some]
        rw [if_pos (show nI c < 12 from (bs_lt (b := 12) (by omega) (by decide)).mpr hc12), g1]
        simp only [Option.bind_some]
        unfold fn_B_put_58 fn_B_put_79
        rw [if_neg (nI_pos (by omega)), bk_1 g3]
        simp only [Option.bind_some, bk_w1 g3 (show p < 12 by omega), bk_2 h1, bk_w2 h1 (show p < 12 by omega)]
      · have hs := am_ins (n' := ax_I (ux_L (ux_I f1 (a + 2) p nn) (a + 3) p bb) (a + 1)) (o' := ax_I (ux_L (ux_I f1 (a + 2) p nn) (a + 3) p bb) (a + 2)) (b' := ax_L (ux_L (ux_I f1 (a + 2) p nn) (a + 3) p bb) (a + 3)) h.2.2.2.1 (p := p) g2 hy p1 (by rw [eN]; exact g6) (fun j hj => by
          rw [eN, eO, eB, if_neg (by omega), if_neg (by omega)]
          exact g7 j hj) (fun j hj1 hj2 => by
          rw [eN, eO, eB, if_neg (by omega), if_neg (by omega)]
          exact g8 j hj1 hj2)
        rw [eO, eB, if_pos rfl, if_pos rfl] at hs
        exact hs
      · intro i j hij hj
        rw [eN, eN]
        have lo : ∀ q, q < p → ax_I f (a + 1) q < nI y := fun q hq => by
          have h9 := g11 (by omega)
          have hne := am_ne h.2.2.2.1 p1
          have hle : ax_I f (a + 1) q ≤ nI y := by
            by_cases e : q = p - 1
            · rw [e]; exact h9
            · exact Int32.le_of_lt (Int32.lt_of_lt_of_le (h.2.2.2.2 q (p - 1) (by omega) (by omega)) h9)
          exact Int32.lt_of_le_of_ne hle (hne q (by omega))
        by_cases e1 : j < p
        · rw [(g7 j e1).1, (g7 i (by omega)).1]
          exact h.2.2.2.2 i j hij (by omega)
        · by_cases e2 : j = p
          · rw [e2, g6, (g7 i (by omega)).1]
            exact lo i (by omega)
          · have hj' := (g8 (j - 1) (by omega) (by omega)).1
            rw [show j - 1 + 1 = j by omega] at hj'
            rw [hj']
            by_cases e3 : i < p
            · rw [(g7 i e3).1]
              exact h.2.2.2.2 i (j - 1) (by omega) (by omega)
            · by_cases e4 : i = p
              · rw [e4, g6]
                exact g10 (j - 1) (by omega) (by omega)
              · have hi' := (g8 (i - 1) (by omega) (by omega)).1
                rw [show i - 1 + 1 = i by omega] at hi'
                rw [hi']
                exact h.2.2.2.2 (i - 1) (j - 1) (by omega) (by omega)
/-- credit(account, amount) -/
theorem bk_credit {f : pl_H} {a c : Nat} {m : am_M} (h : bk_R f a c m) {y : Nat} (hy : y < 65536) (bb : Int64) {v : Option (Int32 × Int64)} (hv : v = if am_n m (nI y) = 0 ∧ am_b m (nI y) + bb = 0 then none else some (am_n m (nI y), am_b m (nI y) + bb)) (hroom : m (nI y) = none → v ≠ none → c < 12) :
    ∃ f' c', fn_B_credit f a (nI y) bb = some f' ∧ bk_R f' a c' (am_up m (nI y) v) ∧ bs_kp (bk_S a) f f' ∧ c' + am_1 (m (nI y)) = c + am_1 v := by
  obtain ⟨f', c', h1, h2, h3, h4⟩ := bk_put h hy (am_n m (nI y)) (am_b m (nI y) + bb) hv hroom
  refine ⟨f', c', ?_, h2, h3, h4⟩
  unfold fn_B_credit
  simp only [ax_is h.1.1, bk_nonceOf h, bk_balanceOf h, h1, Option.bind_some]
