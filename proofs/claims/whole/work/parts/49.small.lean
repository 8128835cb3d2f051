/-! collector, close, nonce, balance, accounts: both sides. -/
theorem lg_collector {f : pl_H} {n : Nat} (h : lg_L f n) (x : Int32) : ∃ f', fn_L_collector f n x = some ((if sp_acc x = true then 1 else 0), f') ∧ lg_L f' n ∧ bs_kp (fun q => q = n) f f' ∧ ax_i f' n 5 = (if sp_acc x = true then x else ax_i f n 5) ∧ ∀ k, k ≠ 5 → ax_v f' n k = ax_v f n k := by
  unfold fn_L_collector
  rw [lg_isA]
  simp only [Option.bind_some]
  by_cases ha : sp_acc x = true
  · simp only [if_pos ha]
    rw [if_neg (by decide), ax_pV h.1 (by decide)]
    have hv : ∀ k, k ≠ 5 → ax_v (ux_f f n 5 (.int x)) n k = ax_v f n k := fun k hk => rx_v_fne (Or.inr hk)
    have kp : bs_kp (fun q => q = n) f (ux_f f n 5 (.int x)) := bs_kp.f rfl
    refine ⟨_, rfl, ⟨?_, ?_, ?_, ?_, ?_, ?_, ?_⟩, kp, ix_f h.1 (by decide), hv⟩
    · rw [sx_f h.1 rfl]
      exact h.1
    · unfold ax_r; rw [hv 0 (by decide)]; exact h.2.1
    · unfold ax_r; rw [hv 1 (by decide)]; exact h.2.2.1
    · unfold ax_r; rw [hv 2 (by decide)]; exact h.2.2.2.1
    · unfold ax_r; rw [hv 3 (by decide)]; exact h.2.2.2.2.1
    · unfold ax_r; rw [hv 4 (by decide)]; exact h.2.2.2.2.2.1
    · rw [kp (n + 9) (by omega)]; exact h.2.2.2.2.2.2
  · simp only [if_neg ha]
    rw [if_pos trivial]
    exact ⟨f, rfl, h, bs_kp.rf, rfl, fun _ _ => rfl⟩
theorem ma_collector {f : pl_H} {a : Nat} (h : mo_L f a) (x : Int32) : ∃ f', fn_M_collector f a x = some ((if sp_acc x = true then 1 else 0), f') ∧ mo_L f' a ∧ bs_kp (fun q => q = a) f f' ∧ ax_i f' a 4 = (if sp_acc x = true then x else ax_i f a 4) ∧ ∀ k, k ≠ 4 → ax_v f' a k = ax_v f a k := by
  unfold fn_M_collector
  rw [mo_isA]
  simp only [Option.bind_some]
  by_cases ha : sp_acc x = true
  · simp only [if_pos ha]
    rw [if_neg (by decide), mo_fees_p h]
    exact ⟨_, rfl, mo_uF h rfl (show (0 : Nat) ≠ 2 by decide), bs_kp.f rfl, ix_f h.1 (by decide), fun k hk => rx_v_fne (Or.inr hk)⟩
  · simp only [if_neg ha]
    rw [if_pos trivial]
    exact ⟨f, rfl, h, bs_kp.rf, rfl, fun _ _ => rfl⟩
theorem lg_nonce {f : pl_H} {n c : Nat} {m : am_M} (h : lg_L f n) (hb : bk_R f (n + 1) c m) (x : Int32) : fn_L_nonce f n x = some (am_n m x) := by
  unfold fn_L_nonce
  simp only [lg_0 h, ax_is hb.1.1, bk_nonceOf hb, Option.bind_some]
theorem lg_balance {f : pl_H} {n c : Nat} {m : am_M} (h : lg_L f n) (hb : bk_R f (n + 1) c m) (x : Int32) : fn_L_balance f n x = some (am_b m x) := by
  unfold fn_L_balance
  simp only [lg_0 h, ax_is hb.1.1, bk_balanceOf hb, Option.bind_some]
theorem lg_accounts {f : pl_H} {n c : Nat} {m : am_M} (h : lg_L f n) (hb : bk_R f (n + 1) c m) : fn_L_accounts f n = some (nI c) := by
  unfold fn_L_accounts
  simp only [lg_0 h, ax_is hb.1.1, bk_count hb, Option.bind_some]
theorem ma_accounts {f : pl_H} {a c : Nat} {m : am_M} (h : mo_R f a c m) : fn_M_accounts f a = some (nI c) := by
  unfold fn_M_accounts
  simp only [mo_many h.1, h.2.1, Option.bind_some]
def sp_close (c : Nat) (m : am_M) (x : Int32) : Int32 × Nat × am_M × Bool := if sp_acc x = true ∧ m x ≠ none then (1, c - 1, am_up m x none, true) else (0, c, m, false)
theorem sp_close_ok {K c : Nat} {m : am_M} (h : am_ok K m) (x : Int32) : am_ok (K + 1) (sp_close c m x).2.2.1 := by
  unfold sp_close
  split
  · intro y v hv
    have hv : am_up m x none y = some v := hv
    unfold am_up at hv
    by_cases hy : y = x
    · rw [if_pos hy] at hv
      cases hv
    · rw [if_neg hy] at hv
      exact am_ok_mono h (by omega : K ≤ K + 1) y v hv
  · exact am_ok_mono h (by omega)
set_option maxHeartbeats 2000000 in
theorem lg_close {f : pl_H} {n c : Nat} {m : am_M} (h : lg_L f n) (hb : bk_R f (n + 1) c m) (x : Int32) : ∃ f', fn_L_close f n x = some ((sp_close c m x).1, f') ∧ lg_L f' n ∧ bk_R f' (n + 1) (sp_close c m x).2.1 (sp_close c m x).2.2.1 ∧ bs_kp (lg_G n) f f' ∧ ((sp_close c m x).2.2.2 = true → ax_i f' (n + 9) 8 = 1) ∧ ((sp_close c m x).2.2.2 = false → f' = f) ∧ ∀ k, k ≠ 8 → ax_v f' (n + 9) k = ax_v f (n + 9) k := by
  have no : sp_close c m x = (0, c, m, false) → ∃ f', (pl_z 0).bind (fun z => some (z, f)) = some ((sp_close c m x).1, f') ∧ lg_L f' n ∧ bk_R f' (n + 1) (sp_close c m x).2.1 (sp_close c m x).2.2.1 ∧ bs_kp (lg_G n) f f' ∧ ((sp_close c m x).2.2.2 = true → ax_i f' (n + 9) 8 = 1) ∧ ((sp_close c m x).2.2.2 = false → f' = f) ∧ ∀ k, k ≠ 8 → ax_v f' (n + 9) k = ax_v f (n + 9) k := by
    intro er
    rw [er]
    exact ⟨f, rfl, h, hb, bs_kp.rf, fun z => (by cases z), fun _ => rfl, fun _ _ => rfl⟩
  unfold fn_L_close fn_L_close_18
  rw [lg_isA]
  simp only [Option.bind_some]
  by_cases ha : sp_acc x = true
  · rw [if_pos ha, if_neg (by decide)]
    simp only [lg_0 h, ax_is hb.1.1, bk_has hb, Option.bind_some]
    by_cases hm : m x = none
    · rw [if_pos ((am_h_n m x).mpr hm)]
      exact no (by unfold sp_close; rw [if_neg (fun z => z.2 hm)])
    · rw [if_neg (fun z => hm ((am_h_n m x).mp z))]
      have es : sp_close c m x = (1, c - 1, am_up m x none, true) := by unfold sp_close; rw [if_pos ⟨ha, hm⟩]
      rw [es]
      obtain ⟨y, hy, rfl⟩ := sp_acc_n ha
      obtain ⟨f1, c', g1, g2, g3, g4⟩ := bk_put hb hy 0 0 (v := none) (by rw [if_pos ⟨rfl, rfl⟩]) (fun _ z => absurd rfl z)
      have h1 : am_1 (m (nI y)) = 1 := by
        cases hmm : m (nI y) with
        | none => exact absurd hmm hm
        | some v => rfl
      have h0 : am_1 none = 0 := rfl
      have hc' : c' = c - 1 := by omega
      subst hc'
      have hS9 : ¬ bk_S (n + 1) (n + 9) := by unfold bk_S; omega
      have hS0 : ¬ bk_S (n + 1) n := by unfold bk_S; omega
      have h' := lg_kp h g3 hS0 (by rw [g3 _ hS9])
      have hsx := sx_f (v := .int 1) h'.2.2.2.2.2.2 (k := 8) rfl
      have h'' : lg_L (ux_f f1 (n + 9) 8 (.int 1)) n := lg_kp h' (bs_kp.f (S := fun q => q = n + 9) rfl) (by omega) (hsx _)
      have hb'' : bk_R (ux_f f1 (n + 9) 8 (.int 1)) (n + 1) (c - 1) (am_up m (nI y) none) := bk_R_kp g2 (bs_kp.f (S := fun q => q = n + 9) rfl) (fun q h1 h2 => by omega)
      refine ⟨_, ?_, h'', hb'', (g3.mono (fun q hq => by unfold bk_S at hq; unfold lg_G; omega)).tr (bs_kp.f (Or.inr rfl)), fun _ => ix_f h'.2.2.2.2.2.2 (by decide), fun z => (by cases z), fun k hk => ?_⟩
      · simp only [g1, lg_2 h', ax_is h'.2.2.2.2.2.2, tr_out h'.2.2.2.2.2.2, Option.bind_some]
        rfl
      · rw [rx_v_fne (Or.inr hk)]
        unfold ax_v
        rw [g3 _ hS9]
  · rw [if_neg ha, if_pos rfl]
    exact no (by unfold sp_close; rw [if_neg (fun z => ha z.1)])
set_option maxHeartbeats 2000000 in
theorem ma_close {f : pl_H} {a c : Nat} {m : am_M} (h : mo_R f a c m) (x : Int32) : ∃ f', fn_M_close f a x = some ((sp_close c m x).1, f') ∧ mo_R f' a (sp_close c m x).2.1 (sp_close c m x).2.2.1 ∧ bs_kp (mo_A a) f f' ∧ ((sp_close c m x).2.2.2 = true → ax_i f' a 5 = 0) ∧ ((sp_close c m x).2.2.2 = false → f' = f) ∧ ∀ k, k ≠ 0 → k ≠ 5 → ax_v f' a k = ax_v f a k := by
  have hc := h.2.2.1
  have no : sp_close c m x = (0, c, m, false) → ∃ f', (pl_z 0).bind (fun z => some (z, f)) = some ((sp_close c m x).1, f') ∧ mo_R f' a (sp_close c m x).2.1 (sp_close c m x).2.2.1 ∧ bs_kp (mo_A a) f f' ∧ ((sp_close c m x).2.2.2 = true → ax_i f' a 5 = 0) ∧ ((sp_close c m x).2.2.2 = false → f' = f) ∧ ∀ k, k ≠ 0 → k ≠ 5 → ax_v f' a k = ax_v f a k := by
    intro er
    rw [er]
    exact ⟨f, rfl, h, bs_kp.rf, fun z => (by cases z), fun _ => rfl, fun _ _ _ => rfl⟩
  unfold fn_M_close
  rw [mo_isA]
  simp only [Option.bind_some]
  by_cases ha : sp_acc x = true
  · rw [if_pos ha, if_neg (by decide)]
    obtain ⟨r, r1, r2⟩ := ma_find h x
    simp only [ax_is h.1.1, r1, Option.bind_some]
    unfold fn_M_close_16
    rcases r2 with ⟨p, p1, p2, rfl⟩ | ⟨p1, rfl⟩
    · rw [if_pos (nI_pos' (by omega))]
      have hat := am_at h.2.2.2 p1
      rw [p2] at hat
      have hm : m x ≠ none := fun z => by rw [hat] at z; cases z
      have es : sp_close c m x = (1, c - 1, am_up m x none, true) := by unfold sp_close; rw [if_pos ⟨ha, hm⟩]
      rw [es]
      obtain ⟨c', rfl⟩ : ∃ c', c = c' + 1 := ⟨c - 1, by omega⟩
      have em : nI (c' + 1) - 1 = nI c' := by
        rw [← nI_add c' 1]
        exact Int32.add_sub_cancel _ _
      simp only [mo_many h.1, h.2.1, Option.bind_some, em, mo_many_p h.1]
      have h1 := mo_uF h.1 (k := 0) (v := .int (nI c')) rfl (show (0 : Nat) ≠ 2 by decide)
      obtain ⟨f', g1, g2, g3, g4, g5, g6, g7⟩ := ma_close35 (a := a) (c := c') (by omega) (c' - p) pl_N p _ rfl (by omega) (by unfold pl_N; omega) h1 (ix_f h.1.1 (by decide))
      refine ⟨f', g1, ⟨g2, ?_, by show c' + 1 - 1 ≤ 12; omega, ?_⟩, (bs_kp.f (by unfold mo_A; omega)).tr g3, fun _ => g5, fun z => (by cases z), fun k hk0 hk5 => ?_⟩
      · rw [ix_v (g4 0 (by decide)), ix_f h.1.1 (by decide)]
        rfl
      · show am_R c' _ _ _ (am_up m x none)
        rw [← p2]
        refine am_del h.2.2.2 (p := p) (by omega) (fun j hj => ?_) (fun j h1 h2 => ?_)
        · have := g6 j hj
          unfold bk_eq at this
          rw [rx_I_f, rx_I_f, rx_L_f] at this
          exact this
        · have := g7 j h1 h2
          unfold bk_eq at this
          rw [rx_I_f, rx_I_f, rx_L_f] at this
          exact this
      · rw [g4 k hk5, rx_v_fne (Or.inr hk0)]
    · rw [if_neg (by decide)]
      exact no (by unfold sp_close; rw [if_neg (fun z => z.2 p1)])
  · rw [if_neg ha, if_pos rfl]
    unfold fn_M_close_16
    rw [if_neg (by decide)]
    exact no (by unfold sp_close; rw [if_neg (fun z => ha z.1)])
