/-! The ledger object; collector, grant, close, nonce, balance, accounts: both sides by one specification. -/
def lg_L (f : pl_H) (n : Nat) : Prop := ax_sh (f n) = (1, 7, [2, 2, 2, 2, 2, 0, 0]) ∧ ax_r f n 0 = some (n + 1) ∧ ax_r f n 1 = some (n + 5) ∧ ax_r f n 2 = some (n + 9) ∧ ax_r f n 3 = some (n + 83) ∧ ax_r f n 4 = some (n + 91) ∧ ax_sh (f (n + 9)) = (1, 5, [2, 2, 2, 2, 2, 2, 0, 2, 0])
theorem lg_kp {f f' : pl_H} {n : Nat} {S : Nat → Prop} (h : lg_L f n) (hk : bs_kp S f f') (h0 : ¬ S n) (h9 : ax_sh (f' (n + 9)) = ax_sh (f (n + 9))) : lg_L f' n := by
  have e0 := hk n h0
  obtain ⟨a0, a1, a2, a3, a4, a5, a6⟩ := h
  refine ⟨by rw [e0]; exact a0, ?_, ?_, ?_, ?_, ?_, by rw [h9]; exact a6⟩
  · unfold ax_r ax_v; rw [e0]; exact a1
  · unfold ax_r ax_v; rw [e0]; exact a2
  · unfold ax_r ax_v; rw [e0]; exact a3
  · unfold ax_r ax_v; rw [e0]; exact a4
  · unfold ax_r ax_v; rw [e0]; exact a5
theorem lg_0 {f : pl_H} {n : Nat} (h : lg_L f n) : pl_gR f n 7 0 = some (n + 1) := (ax_gR h.1 rfl).trans h.2.1
theorem lg_2 {f : pl_H} {n : Nat} (h : lg_L f n) : pl_gR f n 7 2 = some (n + 9) := (ax_gR h.1 rfl).trans h.2.2.2.1
theorem lg_5 {f : pl_H} {n : Nat} (h : lg_L f n) : pl_gI f n 7 5 = some (ax_i f n 5) := ax_gI h.1 rfl
theorem tr_out {f : pl_H} {t : Nat} (h : ax_sh (f t) = (1, 5, [2, 2, 2, 2, 2, 2, 0, 2, 0])) : fn_T_outdate f t = some (ux_f f t 8 (.int 1)) := by
  unfold fn_T_outdate
  rw [ax_pV h (by decide)]
  rfl
def sp_acc (x : Int32) : Bool := decide (0 ≤ x) && decide (x ≤ 65535)
theorem sp_acc_n {x : Int32} (h : sp_acc x = true) : ∃ y, y < 65536 ∧ x = nI y := by
  unfold sp_acc at h
  simp at h
  obtain ⟨j, h1, h2⟩ := nI_of2 (x := x) (M := 65535) (n := 65535) (by decide) (Int32.not_lt.mpr h.1) h.2
  exact ⟨j, by omega, h2⟩
theorem lg_isA (f : pl_H) (x : Int32) : fn_L_isAccount f x = some (if sp_acc x = true then 1 else 0) := by
  unfold fn_L_isAccount fn_L_isAccount_14 fn_L_isAccount_15 sp_acc
  by_cases h1 : x < 0
  · rw [if_pos h1]
    have : ¬ (0 : Int32) ≤ x := Int32.not_le.mpr h1
    simp [this]
    rfl
  · rw [if_neg h1]
    have h2 : (0 : Int32) ≤ x := Int32.not_lt.mp h1
    by_cases h3 : 65535 < x
    · rw [if_pos h3]
      have : ¬ x ≤ (65535 : Int32) := Int32.not_le.mpr h3
      simp [this]
      rfl
    · rw [if_neg h3]
      have : x ≤ (65535 : Int32) := Int32.not_lt.mp h3
      simp [this, h2]
      rfl
theorem mo_isA (f : pl_H) (x : Int32) : fn_M_isAccount f x = some (if sp_acc x = true then 1 else 0) := lg_isA f x
/-- after K calls: bounds of every account, and none is empty -/
def am_ok (K : Nat) (m : am_M) : Prop := ∀ y v, m y = some v → (0 ≤ v.1.toInt ∧ v.1.toInt ≤ K) ∧ (0 ≤ v.2.toInt ∧ v.2.toInt ≤ K * 2000000000000) ∧ (v.1 ≠ 0 ∨ v.2 ≠ 0)
theorem am_b_ok {K : Nat} {m : am_M} (h : am_ok K m) (x : Int32) : 0 ≤ (am_b m x).toInt ∧ (am_b m x).toInt ≤ K * 2000000000000 := by
  unfold am_b
  cases hm : m x with
  | none => simp; omega
  | some v => exact (h x v hm).2.1
theorem am_n_ok {K : Nat} {m : am_M} (h : am_ok K m) (x : Int32) : 0 ≤ (am_n m x).toInt ∧ (am_n m x).toInt ≤ K := by
  unfold am_n
  cases hm : m x with
  | none => simp
  | some v => exact (h x v hm).1
theorem l_add {x y : Int64} (h0 : 0 ≤ x.toInt) (h1 : 0 ≤ y.toInt) (h2 : x.toInt + y.toInt < 2 ^ 63) : (x + y).toInt = x.toInt + y.toInt := by
  rw [Int64.toInt_add]
  exact Int.bmod_eq_of_le (by omega) (by omega)
/-- grant: the answer, how many accounts then, the map then, whether something changed -/
def sp_grant (c : Nat) (m : am_M) (x : Int32) (q : Int64) : Int32 × Nat × am_M × Bool :=
  if sp_acc x = true ∧ 1 ≤ q ∧ q ≤ 1000000000000 then
    (if m x = none ∧ 12 ≤ c then (-4, c, m, false) else (nI (c + 1 - am_1 (m x)), c + 1 - am_1 (m x), am_up m x (some (am_n m x, am_b m x + q)), true))
  else (-1, c, m, false)
def lg_G (n : Nat) : Nat → Prop := fun q => (n + 1 ≤ q ∧ q ≤ n + 4) ∨ q = n + 9
set_option maxHeartbeats 2000000 in
theorem lg_grant {f : pl_H} {n c K : Nat} {m : am_M} (h : lg_L f n) (hb : bk_R f (n + 1) c m) (hok : am_ok K m) (hK : K ≤ 512) (x : Int32) (q : Int64) : ∃ f', fn_L_grant f n x q = some ((sp_grant c m x q).1, f') ∧ lg_L f' n ∧ bk_R f' (n + 1) (sp_grant c m x q).2.1 (sp_grant c m x q).2.2.1 ∧ bs_kp (lg_G n) f f' ∧ ((sp_grant c m x q).2.2.2 = true → ax_i f' (n + 9) 8 = 1) ∧ ((sp_grant c m x q).2.2.2 = false → f' = f) ∧ ∀ k, k ≠ 8 → ax_v f' (n + 9) k = ax_v f (n + 9) k := by
  have hc := hb.2.2.1
  unfold fn_L_grant fn_L_grant_21
  rw [lg_isA]
  simp only [Option.bind_some]
  by_cases ha : sp_acc x = true
  · rw [if_pos ha, if_neg (by decide)]
    by_cases h1 : q < 1
    · have e : sp_grant c m x q = (-1, c, m, false) := by
        unfold sp_grant
        rw [if_neg (fun z => absurd z.2.1 (Int64.not_le.mpr h1))]
      rw [if_pos ((lg_cmp_lt q 1).mpr h1), e]
      exact ⟨f, rfl, h, hb, bs_kp.rf, fun z => (by cases z), fun _ => rfl, fun _ _ => rfl⟩
    · rw [if_neg (fun z => h1 ((lg_cmp_lt q 1).mp z))]
      by_cases h2 : q ≤ 1000000000000
      · rw [if_pos ((lg_cmp_le q _).mpr h2)]
        obtain ⟨y, hy, rfl⟩ := sp_acc_n ha
        have hcond : sp_acc (nI y) = true ∧ 1 ≤ q ∧ q ≤ 1000000000000 := ⟨ha, Int64.not_lt.mp h1, h2⟩
        simp only [lg_0 h, ax_is hb.1.1, bk_has hb, bk_count hb, Option.bind_some]
        have go : (m (nI y) = none → c < 12) → ∃ f', fn_L_grant_49 f n (nI y) q = some (nI (c + 1 - am_1 (m (nI y))), f') ∧ lg_L f' n ∧ bk_R f' (n + 1) (c + 1 - am_1 (m (nI y))) (am_up m (nI y) (some (am_n m (nI y), am_b m (nI y) + q))) ∧ bs_kp (lg_G n) f f' ∧ ax_i f' (n + 9) 8 = 1 ∧ ∀ k, k ≠ 8 → ax_v f' (n + 9) k = ax_v f (n + 9) k := by
          intro hroom
          have hbal := am_b_ok hok (nI y)
          have hq1 : 1 ≤ q.toInt := by have := Int64.le_iff_toInt_le.mp hcond.2.1; simpa using this
          have hq2 : q.toInt ≤ 1000000000000 := by have := Int64.le_iff_toInt_le.mp hcond.2.2; simpa using this
          have hsum := l_add (x := am_b m (nI y)) (y := q) hbal.1 (by omega) (by omega)
          have hnz : ¬ (am_n m (nI y) = 0 ∧ am_b m (nI y) + q = 0) := fun z => by
            have := congrArg Int64.toInt z.2
            rw [hsum] at this
            simp at this
            omega
          obtain ⟨f1, c', g1, g2, g3, g4⟩ := bk_credit hb hy q (v := some (am_n m (nI y), am_b m (nI y) + q)) (by rw [if_neg hnz]) (fun z _ => hroom z)
          have hc' : c' = c + 1 - am_1 (m (nI y)) := by
            have : am_1 (some (am_n m (nI y), am_b m (nI y) + q)) = 1 := rfl
            omega
          subst hc'
          have hS9 : ¬ bk_S (n + 1) (n + 9) := by unfold bk_S; omega
          have hS0 : ¬ bk_S (n + 1) n := by unfold bk_S; omega
          have h' := lg_kp h g3 hS0 (by rw [g3 _ hS9])
          have hsx := sx_f (v := .int 1) h'.2.2.2.2.2.2 (k := 8) rfl
          have h'' : lg_L (ux_f f1 (n + 9) 8 (.int 1)) n := lg_kp h' (bs_kp.f (S := fun q => q = n + 9) rfl) (by omega) (hsx _)
          have hb'' : bk_R (ux_f f1 (n + 9) 8 (.int 1)) (n + 1) (c + 1 - am_1 (m (nI y))) (am_up m (nI y) (some (am_n m (nI y), am_b m (nI y) + q))) := bk_R_kp g2 (bs_kp.f (S := fun q => q = n + 9) rfl) (fun q h1 h2 => by omega)
          refine ⟨_, ?_, h'', hb'', (g3.mono (fun q hq => by unfold bk_S at hq; unfold lg_G; omega)).tr (bs_kp.f (Or.inr rfl)), ix_f h'.2.2.2.2.2.2 (by decide), fun k hk => ?_⟩
          · unfold fn_L_grant_49
            simp only [lg_0 h, ax_is hb.1.1, g1, lg_2 h', ax_is h'.2.2.2.2.2.2, tr_out h'.2.2.2.2.2.2, lg_0 h'', ax_is hb''.1.1, bk_count hb'', Option.bind_some]
          · rw [rx_v_fne (Or.inr hk)]
            unfold ax_v
            rw [g3 _ hS9]
        cases hm : m (nI y) with
        | none =>
          rw [show am_h m (nI y) = 0 by unfold am_h; rw [hm], if_pos rfl]
          by_cases h12 : c < 12
          · have e : sp_grant c m (nI y) q = (nI (c + 1 - am_1 (m (nI y))), c + 1 - am_1 (m (nI y)), am_up m (nI y) (some (am_n m (nI y), am_b m (nI y) + q)), true) := by
              unfold sp_grant
              rw [if_pos hcond, if_neg (fun z => absurd z.2 (by omega))]
            rw [if_pos (show nI c < 12 from (bs_lt (b := 12) (by omega) (by decide)).mpr h12), e]
            obtain ⟨f', g1, g2, g3, g4, g5, g6⟩ := go (fun _ => h12)
            exact ⟨f', g1, g2, g3, g4, fun _ => g5, fun z => (by cases z), g6⟩
          · have e : sp_grant c m (nI y) q = (-4, c, m, false) := by
              unfold sp_grant
              rw [if_pos hcond, if_pos ⟨hm, by omega⟩]
            rw [if_neg (show ¬ nI c < 12 from fun z => h12 ((bs_lt (b := 12) (by omega) (by decide)).mp z)), e]
            exact ⟨f, rfl, h, hb, bs_kp.rf, fun z => (by cases z), fun _ => rfl, fun _ _ => rfl⟩
        | some v =>
          have e : sp_grant c m (nI y) q = (nI (c + 1 - am_1 (m (nI y))), c + 1 - am_1 (m (nI y)), am_up m (nI y) (some (am_n m (nI y), am_b m (nI y) + q)), true) := by
            unfold sp_grant
            rw [if_pos hcond, if_neg (fun z => by rw [hm] at z; cases z.1)]
          rw [show am_h m (nI y) = 1 by unfold am_h; rw [hm], if_neg (by decide), e]
          obtain ⟨f', g1, g2, g3, g4, g5, g6⟩ := go (fun z => by rw [hm] at z; cases z)
          exact ⟨f', g1, g2, g3, g4, fun _ => g5, fun z => (by cases z), g6⟩
      · have e : sp_grant c m x q = (-1, c, m, false) := by
          unfold sp_grant
          rw [if_neg (fun z => h2 z.2.2)]
        rw [if_neg (fun z => h2 ((lg_cmp_le q _).mp z)), e]
        exact ⟨f, rfl, h, hb, bs_kp.rf, fun z => (by cases z), fun _ => rfl, fun _ _ => rfl⟩
  · have e : sp_grant c m x q = (-1, c, m, false) := by
      unfold sp_grant
      rw [if_neg (fun z => ha z.1)]
    rw [if_neg ha, if_pos rfl, e]
    exact ⟨f, rfl, h, hb, bs_kp.rf, fun z => (by cases z), fun _ => rfl, fun _ _ => rfl⟩
set_option maxHeartbeats 2000000 in
theorem ma_grant {f : pl_H} {a c : Nat} {m : am_M} (h : mo_R f a c m) (x : Int32) (q : Int64) : ∃ f', fn_M_grant f a x q = some ((sp_grant c m x q).1, f') ∧ mo_R f' a (sp_grant c m x q).2.1 (sp_grant c m x q).2.2.1 ∧ bs_kp (mo_A a) f f' ∧ ((sp_grant c m x q).2.2.2 = true → ax_i f' a 5 = 0) ∧ ((sp_grant c m x q).2.2.2 = false → f' = f) ∧ ∀ k, k ≠ 0 → k ≠ 5 → ax_v f' a k = ax_v f a k := by
  have hc := h.2.2.1
  unfold fn_M_grant fn_M_grant_21
  rw [mo_isA]
  simp only [Option.bind_some]
  by_cases ha : sp_acc x = true
  · rw [if_pos ha, if_neg (by decide)]
    by_cases h1 : q < 1
    · have e : sp_grant c m x q = (-1, c, m, false) := by
        unfold sp_grant
        rw [if_neg (fun z => absurd z.2.1 (Int64.not_le.mpr h1))]
      rw [if_pos ((lg_cmp_lt q 1).mpr h1), e]
      exact ⟨f, rfl, h, bs_kp.rf, fun z => (by cases z), fun _ => rfl, fun _ _ _ => rfl⟩
    · rw [if_neg (fun z => h1 ((lg_cmp_lt q 1).mp z))]
      by_cases h2 : q ≤ 1000000000000
      · rw [if_pos ((lg_cmp_le q _).mpr h2)]
        obtain ⟨y, hy, rfl⟩ := sp_acc_n ha
        have hcond : sp_acc (nI y) = true ∧ 1 ≤ q ∧ q ≤ 1000000000000 := ⟨ha, Int64.not_lt.mp h1, h2⟩
        have go : (m (nI y) = none → c < 12) → ∃ f', fn_M_grant_43 f a (nI y) q = some (nI (c + 1 - am_1 (m (nI y))), f') ∧ mo_R f' a (c + 1 - am_1 (m (nI y))) (am_up m (nI y) (some (am_n m (nI y), am_b m (nI y) + q))) ∧ bs_kp (mo_A a) f f' ∧ ax_i f' a 5 = 0 ∧ ∀ k, k ≠ 0 → k ≠ 5 → ax_v f' a k = ax_v f a k := by
          intro hroom
          obtain ⟨p, f1, c', g1, g2, g3, g4, g5, g6, g7⟩ := ma_open h hy hroom
          have hc' : c' = c + 1 - am_1 (m (nI y)) := by omega
          subst hc'
          have hc1 := g2.2.2.1
          have hat := am_at g2.2.2.2 g3
          rw [g4] at hat
          unfold am_up at hat
          rw [if_pos rfl] at hat
          have hat' := Option.some.inj hat
          have hN : am_n m (nI y) = ax_I f1 (a + 2) p := congrArg Prod.fst hat'
          have hB : am_b m (nI y) = ax_L f1 (a + 3) p := congrArg Prod.snd hat'
          have h2 := ma_setB g2 g3 (ax_L f1 (a + 3) p + q)
          rw [g4, am_up_up, ← hN, ← hB] at h2
          have h3 := mo_uF h2.1 (k := 5) (v := .int 0) rfl (by decide)
          refine ⟨_, ?_, ⟨h3, by rw [ix_fne (Or.inr (by decide))]; exact h2.2.1, h2.2.2.1, am_c h2.2.2.2 (fun j _ => by rw [rx_I_f]) (fun j _ => by rw [rx_I_f]) (fun j _ => by rw [rx_L_f])⟩, g5.tr ((bs_kp.L (by unfold mo_A; omega)).tr (bs_kp.f (by unfold mo_A; omega))), ix_f h2.1.1 (by decide), fun k hk0 hk5 => ?_⟩
          · unfold fn_M_grant_43
            simp only [ax_is h.1.1, g1, mo_balances g2.1, mo_balances_g g2.1 (show p < 13 by omega), Option.bind_some]
            rw [← hB, mo_balances_w g2.1 (show p < 13 by omega)]
            simp only [Option.bind_some, mo_worked_p h2.1, mo_many h3]
            rw [ix_fne (Or.inr (by decide)), h2.2.1]
          · rw [rx_v_fne (Or.inr hk5), rx_v_L, g6 k hk0]
        obtain ⟨r, r1, r2⟩ := ma_find h (nI y)
        simp only [ax_is h.1.1, r1, Option.bind_some]
        rcases r2 with ⟨p, p1, p2, rfl⟩ | ⟨p1, rfl⟩
        · have hsome : m (nI y) = some (ax_I f (a + 2) p, ax_L f (a + 3) p) := by rw [← p2]; exact am_at h.2.2.2 p1
          have e : sp_grant c m (nI y) q = (nI (c + 1 - am_1 (m (nI y))), c + 1 - am_1 (m (nI y)), am_up m (nI y) (some (am_n m (nI y), am_b m (nI y) + q)), true) := by
            unfold sp_grant
            rw [if_pos hcond, if_neg (fun z => by rw [hsome] at z; cases z.1)]
          rw [if_pos (nI_pos' (by omega)), e]
          obtain ⟨f', g1, g2, g3, g4, g5⟩ := go (fun z => by rw [hsome] at z; cases z)
          exact ⟨f', g1, g2, g3, fun _ => g4, fun z => (by cases z), g5⟩
        · rw [if_neg (by decide)]
          simp only [mo_many h.1, h.2.1, Option.bind_some]
          by_cases h12 : c < 12
          · have e : sp_grant c m (nI y) q = (nI (c + 1 - am_1 (m (nI y))), c + 1 - am_1 (m (nI y)), am_up m (nI y) (some (am_n m (nI y), am_b m (nI y) + q)), true) := by
              unfold sp_grant
              rw [if_pos hcond, if_neg (fun z => absurd z.2 (by omega))]
            rw [if_neg (show ¬ nI c = 12 from fun z => absurd ((nI_eq (by omega) (by decide)).mp (show nI c = nI 12 from z)) (by omega)), e]
            obtain ⟨f', g1, g2, g3, g4, g5⟩ := go (fun _ => h12)
            exact ⟨f', g1, g2, g3, fun _ => g4, fun z => (by cases z), g5⟩
          · have e : sp_grant c m (nI y) q = (-4, c, m, false) := by
              unfold sp_grant
              rw [if_pos hcond, if_pos ⟨p1, by omega⟩]
            rw [if_pos (show nI c = 12 by rw [show c = 12 by omega]; rfl), e]
            exact ⟨f, rfl, h, bs_kp.rf, fun z => (by cases z), fun _ => rfl, fun _ _ _ => rfl⟩
      · have e : sp_grant c m x q = (-1, c, m, false) := by
          unfold sp_grant
          rw [if_neg (fun z => h2 z.2.2)]
        rw [if_neg (fun z => h2 ((lg_cmp_le q _).mp z)), e]
        exact ⟨f, rfl, h, bs_kp.rf, fun z => (by cases z), fun _ => rfl, fun _ _ _ => rfl⟩
  · have e : sp_grant c m x q = (-1, c, m, false) := by
      unfold sp_grant
      rw [if_neg (fun z => ha z.1)]
    rw [if_neg ha, if_pos rfl, e]
    exact ⟨f, rfl, h, bs_kp.rf, fun z => (by cases z), fun _ => rfl, fun _ _ _ => rfl⟩
