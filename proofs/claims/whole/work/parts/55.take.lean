/-! The state while a tree grows: take, finish, putReference. -/
def gw (f : pl_H) (n c : Nat) (m : am_M) (W : List Int32) (T : Nat) : Prop := bk_R f (n + 1) c m ∧ kh_L f (n + 5) (n + 6) (n + 7) (n + 8) ∧ tr_L f n ∧ cd_R f (n + 10) W ∧ ax_i f (n + 9) 6 = nI (min T 33) ∧ T ≤ 34
def gw_S (n : Nat) : Nat → Prop := fun q => n + 6 ≤ q ∧ q ≤ n + 82 ∧ q ≠ n + 12 ∧ q ≠ n + 14
/-- what is kept: cells outside, nodes taken before, the tree's other fields -/
def fr (n T : Nat) (f f' : pl_H) : Prop := bs_kp (gw_S n) f f' ∧ (∀ q, n + 15 ≤ q → q < n + 15 + 2 * T → f' q = f q) ∧ ∀ k, k ≠ 6 → ax_v f' (n + 9) k = ax_v f (n + 9) k
theorem fr.rf {n T : Nat} {f : pl_H} : fr n T f f := ⟨bs_kp.rf, fun _ _ _ => rfl, fun _ _ => rfl⟩
theorem fr.tr {n T T' : Nat} {f g h : pl_H} (h1 : fr n T f g) (h2 : fr n T' g h) (hT : T ≤ T') : fr n T f h := ⟨h1.1.tr h2.1, fun q a b => (h2.2.1 q a (by omega)).trans (h1.2.1 q a b), fun k hk => (h2.2.2 k hk).trans (h1.2.2 k hk)⟩
theorem fr.mono {n T T' : Nat} {f g : pl_H} (h : fr n T' f g) (hT : T ≤ T') : fr n T f g := ⟨h.1, fun q a b => h.2.1 q a (by omega), h.2.2⟩
/-- cells that no part of the layout but the named ones -/
theorem gw_code {f f' : pl_H} {n c T : Nat} {m : am_M} {W W' : List Int32} (h : gw f n c m W T) (hr : cd_R f' (n + 10) W') (hk : bs_kp (cd_S (n + 10)) f f') : gw f' n c m W' T ∧ fr n 34 f f' ∧ ax_I f' (n + 13) = ax_I f (n + 13) ∧ ax_L f' (n + 6) = ax_L f (n + 6) := by
  obtain ⟨h1, h2, h3, h4, h5, h6⟩ := h
  have nS : ∀ q, q ≠ n + 10 → q ≠ n + 11 → ¬ cd_S (n + 10) q := fun q a b => by unfold cd_S; omega
  have e9 := hk (n + 9) (nS _ (by omega) (by omega))
  have hL : kh_L f' (n + 5) (n + 6) (n + 7) (n + 8) := by
    have e5 := hk (n + 5) (nS _ (by omega) (by omega))
    have e6 := hk (n + 6) (nS _ (by omega) (by omega))
    have e7 := hk (n + 7) (nS _ (by omega) (by omega))
    have e8 := hk (n + 8) (nS _ (by omega) (by omega))
    unfold kh_L ax_r ax_v at h2 ⊢
    rw [e5, e6, e7, e8]
    exact h2
  refine ⟨⟨bk_R_kp h1 hk (fun q a b => nS q (by omega) (by omega)), hL, tr_kp h3 hk (fun q a b c d => nS q c d), hr, ?_, h6⟩, ⟨hk.mono (fun q hq => by unfold cd_S at hq; unfold gw_S; omega), fun q a b => hk q (nS q (by omega) (by omega)), fun k _ => by unfold ax_v; rw [e9]⟩, ?_, ?_⟩
  · unfold ax_i ax_v
    rw [e9]
    exact h5
  · unfold ax_I
    rw [hk (n + 13) (nS _ (by omega) (by omega))]
  · unfold ax_L
    rw [hk (n + 6) (nS _ (by omega) (by omega))]
theorem gw_hash {f f' : pl_H} {n c T : Nat} {m : am_M} {W : List Int32} (h : gw f n c m W T) (hr : kh_L f' (n + 5) (n + 6) (n + 7) (n + 8)) (hk : bs_kp (kh_S (n + 6) (n + 7) (n + 8)) f f') : gw f' n c m W T ∧ fr n 34 f f' ∧ ax_I f' (n + 13) = ax_I f (n + 13) := by
  obtain ⟨h1, h2, h3, h4, h5, h6⟩ := h
  have nS : ∀ q, q ≠ n + 6 → q ≠ n + 7 → q ≠ n + 8 → ¬ kh_S (n + 6) (n + 7) (n + 8) q := fun q a b c => by unfold kh_S; omega
  have e9 := hk (n + 9) (nS _ (by omega) (by omega) (by omega))
  refine ⟨⟨bk_R_kp h1 hk (fun q a b => nS q (by omega) (by omega) (by omega)), hr, tr_kp h3 hk (fun q a b c d => nS q (by omega) (by omega) (by omega)), cd_R_kp h4 hk (nS _ (by omega) (by omega) (by omega)) (nS _ (by omega) (by omega) (by omega)), ?_, h6⟩, ⟨hk.mono (fun q hq => by unfold kh_S at hq; unfold gw_S; omega), fun q a b => hk q (nS q (by omega) (by omega) (by omega)), fun k _ => by unfold ax_v; rw [e9]⟩, ?_⟩
  · unfold ax_i ax_v
    rw [e9]
    exact h5
  · unfold ax_I
    rw [hk (n + 13) (nS _ (by omega) (by omega) (by omega))]
/-- cells of the tree alone changed -/
theorem gw_tree {f f' : pl_H} {n c T T' : Nat} {m : am_M} {W : List Int32} (h : gw f n c m W T) (hr : tr_L f' n) (hk : bs_kp (fun q => q = n + 9 ∨ q = n + 13 ∨ (n + 15 ≤ q ∧ q ≤ n + 82)) f f') (h6 : ax_i f' (n + 9) 6 = nI (min T' 33)) (hT : T' ≤ 34) : gw f' n c m W T' := by
  obtain ⟨h1, h2, h3, h4, h5, -⟩ := h
  refine ⟨bk_R_kp h1 hk (fun q a b z => by omega), ?_, hr, cd_R_kp h4 hk (fun z => by omega) (fun z => by omega), h6, hT⟩
  have e5 := hk (n + 5) (fun z => by omega)
  have e6 := hk (n + 6) (fun z => by omega)
  have e7 := hk (n + 7) (fun z => by omega)
  have e8 := hk (n + 8) (fun z => by omega)
  unfold kh_L ax_r ax_v at h2 ⊢
  rw [e5, e6, e7, e8]
  exact h2
theorem tg_0 {f : pl_H} {n : Nat} (h : tr_L f n) : pl_gR f (n + 9) 5 0 = some (n + 1) := (ax_gR h.1 rfl).trans h.2.1.1
theorem tg_1 {f : pl_H} {n : Nat} (h : tr_L f n) : pl_gR f (n + 9) 5 1 = some (n + 5) := (ax_gR h.1 rfl).trans h.2.1.2.1
theorem tg_2 {f : pl_H} {n : Nat} (h : tr_L f n) : pl_gR f (n + 9) 5 2 = some (n + 10) := (ax_gR h.1 rfl).trans h.2.1.2.2.1
theorem tg_3 {f : pl_H} {n : Nat} (h : tr_L f n) : pl_gR f (n + 9) 5 3 = some (n + 12) := (ax_gR h.1 rfl).trans h.2.1.2.2.2.1
theorem tg_4 {f : pl_H} {n : Nat} (h : tr_L f n) : pl_gR f (n + 9) 5 4 = some (n + 13) := (ax_gR h.1 rfl).trans h.2.1.2.2.2.2.1
theorem tg_5 {f : pl_H} {n : Nat} (h : tr_L f n) : pl_gR f (n + 9) 5 5 = some (n + 14) := (ax_gR h.1 rfl).trans h.2.1.2.2.2.2.2
theorem tg_6 {f : pl_H} {n : Nat} (h : tr_L f n) : pl_gI f (n + 9) 5 6 = some (ax_i f (n + 9) 6) := ax_gI h.1 rfl
theorem tg_p6 {f : pl_H} {n : Nat} (h : tr_L f n) (x : Int32) : pl_pV f (n + 9) 5 6 (.int x) = some (ux_f f (n + 9) 6 (.int x)) := ax_pV h.1 (by decide)
/-- behind the place: a node is begun, and counted -/
theorem tk_35 {f : pl_H} {n T kd : Nat} (h : tr_L f n) (hT : T < 34) (hk : kd < 4) (x d e : Int32) : ∃ f', fn_T_take_35 f (n + 9) (nI kd) x d e (some (n + 15 + 2 * T)) = some (n + 15 + 2 * T, f') ∧ tr_L f' n ∧ bs_kp (fun q => q = n + 13 ∨ q = n + 15 + 2 * T ∨ q = n + 16 + 2 * T) f f' ∧ ax_I f' (n + 13) = upd (ax_I f (n + 13)) kd (ax_I f (n + 13) kd + 1) ∧ (ax_i f' (n + 15 + 2 * T) 1 = nI kd ∧ ax_i f' (n + 15 + 2 * T) 2 = x ∧ ax_i f' (n + 15 + 2 * T) 3 = d ∧ ax_i f' (n + 15 + 2 * T) 4 = e) ∧ ∀ e, e < 16 → ax_Q f' (n + 16 + 2 * T) e = none := by
  obtain ⟨f1, g1, g2, g3, g4, g5⟩ := nb_become hT h (nI kd) x d e
  have h2 := tr_uI g2 (n + 13) kd (ax_I f1 (n + 13) kd + 1)
  have e13 : ax_I f1 (n + 13) = ax_I f (n + 13) := by
    unfold ax_I
    rw [g3 (n + 13) (by omega)]
  refine ⟨_, ?_, h2, (g3.mono (fun q hq => by omega)).tr (bs_kp.I (Or.inl rfl)), ?_, ?_, fun e he => ?_⟩
  · unfold fn_T_take_35
    rw [Option.bind_some, ax_is (h.2.2.2.2.2.2 T hT).1, Option.bind_some, g1, Option.bind_some, tg_4 g2, Option.bind_some, bs_aI g2.2.2.2.2.1 hk (by decide), Option.bind_some, bs_sI g2.2.2.2.2.1 hk (by decide), Option.bind_some]
  · rw [rx_I g2.2.2.2.2.1, e13]
  · obtain ⟨a1, a2, a3, a4⟩ := g4
    exact ⟨by rw [ix_I]; exact a1, by rw [ix_I]; exact a2, by rw [ix_I]; exact a3, by rw [ix_I]; exact a4⟩
  · rw [rx_Q_I]
    exact g5 e he
theorem gw_take {f : pl_H} {n c T kd : Nat} {m : am_M} {W : List Int32} (h : gw f n c m W T) (hT : T < 34) (hk : kd < 4) (x d e : Int32) : ∃ f', fn_T_take f (n + 9) (nI kd) x d e = some (n + 15 + 2 * T, f') ∧ gw f' n c m W (T + 1) ∧ fr n T f f' ∧ ax_I f' (n + 13) = upd (ax_I f (n + 13)) kd (ax_I f (n + 13) kd + 1) ∧ (ax_i f' (n + 15 + 2 * T) 1 = nI kd ∧ ax_i f' (n + 15 + 2 * T) 2 = x ∧ ax_i f' (n + 15 + 2 * T) 3 = d ∧ ax_i f' (n + 15 + 2 * T) 4 = e) ∧ ∀ e, e < 16 → ax_Q f' (n + 16 + 2 * T) e = none := by
  have hL := h.2.2.1
  have e6 : ax_i f (n + 9) 6 = nI T := by rw [h.2.2.2.2.1, Nat.min_eq_left (by omega)]
  unfold fn_T_take
  rw [tg_3 hL, Option.bind_some, tg_6 hL, Option.bind_some, e6, bs_aQ hL.2.2.1 hT (by decide), Option.bind_some, hL.2.2.2.1 T hT, Option.bind_some, Option.bind_some, bs_ln hL.2.2.1 (Or.inr (Or.inr rfl)) (by decide), Option.bind_some]
  by_cases h33 : T = 33
  · rw [if_pos (show nI 34 - 1 ≤ nI T by rw [h33]; decide)]
    obtain ⟨f', g1, g2, g3, g4, g5, g6⟩ := tk_35 hL hT hk x d e
    have e9 := g3 (n + 9) (by omega)
    refine ⟨f', g1, gw_tree h g2 (g3.mono (fun q hq => by omega)) ?_ (by omega), ⟨g3.mono (fun q hq => by unfold gw_S; omega), fun q a b => g3 q (by omega), fun k _ => by unfold ax_v; rw [e9]⟩, g4, g5, g6⟩
    unfold ax_i ax_v
    rw [e9]
    show ax_i f (n + 9) 6 = _
    rw [e6, h33]
    rfl
  · rw [if_neg (show ¬ nI 34 - 1 ≤ nI T from fun z => absurd ((bs_le (a := 33) (by decide) (by omega)).mp (show nI 33 ≤ nI T from z)) (by omega))]
    rw [Option.bind_some, show nI T + 1 = nI (T + 1) from nI_add T 1, tg_p6 hL, Option.bind_some]
    have h1 := tr_u9 hL (k := 6) (v := .int (nI (T + 1))) (Or.inl ⟨rfl, rfl⟩)
    obtain ⟨f', g1, g2, g3, g4, g5, g6⟩ := tk_35 h1 hT hk x d e
    have e9 := g3 (n + 9) (by omega)
    have hS : bs_kp (fun q => q = n + 9 ∨ q = n + 13 ∨ q = n + 15 + 2 * T ∨ q = n + 16 + 2 * T) f f' := (bs_kp.f (Or.inl rfl)).tr (g3.mono (fun q hq => Or.inr hq))
    refine ⟨f', g1, gw_tree h g2 (hS.mono (fun q hq => by omega)) ?_ (by omega), ⟨hS.mono (fun q hq => by unfold gw_S; omega), fun q a b => hS q (by omega), fun k hk => ?_⟩, by rw [rx_I_f] at g4; exact g4, g5, g6⟩
    · unfold ax_i ax_v
      rw [e9]
      show ax_i _ (n + 9) 6 = _
      rw [ix_f hL.1 (by decide), Nat.min_eq_left (by omega)]
    · unfold ax_v
      rw [e9]
      exact rx_v_fne (Or.inr hk)
theorem gw_finish {f : pl_H} {n c T i : Nat} {m : am_M} {W : List Int32} (h : gw f n c m W T) (hi : i < 34) {b : Nat} (hb : b ≤ W.length) : ∃ f', fn_T_finish f (n + 9) (n + 15 + 2 * i) (nI b) = some (n + 15 + 2 * i, f') ∧ gw f' n c m W T ∧ bs_kp (fun q => q = n + 15 + 2 * i) f f' ∧ ax_i f' (n + 15 + 2 * i) 5 = nI b ∧ ax_i f' (n + 15 + 2 * i) 6 = nI (W.length - b) ∧ ∀ k, k ≠ 5 → k ≠ 6 → ax_v f' (n + 15 + 2 * i) k = ax_v f (n + 15 + 2 * i) k := by
  have hL := h.2.2.1
  have hc := h.2.2.2.1.2.2.1
  have h1 := tr_uN hL hi (k := 5) (by decide) (nI b)
  have h2 := tr_uN h1 hi (k := 6) (by decide) (nI (W.length - b))
  have k1 : bs_kp (fun q => q = n + 15 + 2 * i) f (ux_f f (n + 15 + 2 * i) 5 (.int (nI b))) := bs_kp.f rfl
  have hcd := cd_R_kp h.2.2.2.1 k1 (by omega) (by omega)
  have k2 : bs_kp (fun q => q = n + 15 + 2 * i) f (ux_f (ux_f f (n + 15 + 2 * i) 5 (.int (nI b))) (n + 15 + 2 * i) 6 (.int (nI (W.length - b)))) := k1.tr (bs_kp.f rfl)
  refine ⟨_, ?_, gw_tree h h2 (k2.mono (fun q hq => by omega)) ?_ h.2.2.2.2.2, k2, ?_, ?_, fun k a b => ?_⟩
  · unfold fn_T_finish fn_C_used
    rw [nd_p (hL.2.2.2.2.2.2 i hi) (by decide), Option.bind_some, tg_2 h1, Option.bind_some, cd_is hcd, Option.bind_some, cd_1 hcd.1, hcd.2.1, Option.bind_some, Option.bind_some, pk_sub hb, nd_p (h1.2.2.2.2.2.2 i hi) (by decide), Option.bind_some]
  · rw [ix_fne (Or.inl (by omega)), ix_fne (Or.inl (by omega))]
    exact h.2.2.2.2.1
  · rw [ix_fne (Or.inr (by decide)), ix_f (hL.2.2.2.2.2.2 i hi).1 (by decide)]
  · rw [ix_f (h1.2.2.2.2.2.2 i hi).1 (by decide)]
  · rw [rx_v_fne (Or.inr b), rx_v_fne (Or.inr a)]
