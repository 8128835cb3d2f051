/-! send: the reference. -/
/-- open, then another balance, by an amount more -/
theorem ma_more {f : pl_H} {a c : Nat} {m : am_M} (h : mo_R f a c m) {y : Nat} (hy : y < 65536) (q : Int64) (hroom : m (nI y) = none → c < 12) : ∃ p f1, fn_M_open f a (nI y) = some (nI p, f1) ∧ p < 13 ∧ mo_L f1 a ∧ mo_R (ux_L f1 (a + 3) p (ax_L f1 (a + 3) p + q)) a (c + 1 - am_1 (m (nI y))) (am_up m (nI y) (some (am_n m (nI y), am_b m (nI y) + q))) ∧ bs_kp (mo_A a) f (ux_L f1 (a + 3) p (ax_L f1 (a + 3) p + q)) ∧ ∀ k, k ≠ 0 → ax_v (ux_L f1 (a + 3) p (ax_L f1 (a + 3) p + q)) a k = ax_v f a k := by
  obtain ⟨p, f1, c', g1, g2, g3, g4, g5, g6, g7⟩ := ma_open h hy hroom
  have hc' : c' = c + 1 - am_1 (m (nI y)) := by omega
  subst hc'
  have hc1 := g2.2.2.1
  have hat := am_at g2.2.2.2 g3
  rw [g4] at hat
  unfold am_up at hat
  rw [if_pos rfl] at hat
  have hat' := Option.some.inj hat
  have hN : am_n m (nI y) = ax_I f1 (a + 2) p := congrArg Prod.fst hat'
  have hB : am_b m (nI y) = ax_L f1 (a + 3) p := congrArg Prod.snd hat'
  have h2 := ma_setB g2 g3 (ax_L f1 (a + 3) p + q)
  rw [g4, am_up_up, ← hN] at h2
  refine ⟨p, f1, g1, by omega, g2.1, ?_, g5.tr (bs_kp.L (by unfold mo_A; omega)), fun k hk => by rw [rx_v_L, g6 k hk]⟩
  rw [← hB] at h2 ⊢
  exact h2
set_option maxHeartbeats 2000000 in
theorem ma_288 {f : pl_H} {a c : Nat} {m : am_M} (h : mo_R f a c m) : ∃ f', fn_M_send_288 f a = some (nI c, f') ∧ mo_R f' a c m ∧ bs_kp (mo_A a) f f' ∧ ax_i f' a 5 = 0 ∧ ∀ k, k ≠ 0 → k ≠ 5 → ax_v f' a k = ax_v f a k := by
  have h3 := mo_uF h.1 (k := 5) (v := .int 0) rfl (by decide)
  refine ⟨_, ?_, ⟨h3, by rw [ix_fne (Or.inr (by decide))]; exact h.2.1, h.2.2.1, am_c h.2.2.2 (fun j _ => by rw [rx_I_f]) (fun j _ => by rw [rx_I_f]) (fun j _ => by rw [rx_L_f])⟩, bs_kp.f (by unfold mo_A; omega), ix_f h.1.1 (by decide), fun k _ hk => rx_v_fne (Or.inr hk)⟩
  unfold fn_M_send_288
  simp only [mo_worked_p h.1, mo_many h3, Option.bind_some]
  rw [ix_fne (Or.inr (by decide)), h.2.1]
theorem ix_v {f f' : pl_H} {a k : Nat} (h : ax_v f' a k = ax_v f a k) : ax_i f' a k = ax_i f a k := by unfold ax_i; rw [h]
set_option maxHeartbeats 2000000 in
theorem ma_254 {f : pl_H} {a c : Nat} {m : am_M} {fn : Nat} (h : mo_R f a c m) (hfn : fn < 65536) (hfe : ax_i f a 4 = nI fn) (e : Int64) (hroom : 0 < e → m (nI fn) = none → c < 12) : ∃ f', fn_M_send_254 f a e = some (nI (c + sp_new m (nI fn) e), f') ∧ mo_R f' a (c + sp_new m (nI fn) e) (sp_m2 m (nI fn) e) ∧ bs_kp (mo_A a) f f' ∧ ax_i f' a 5 = 0 ∧ ∀ k, k ≠ 0 → k ≠ 5 → ax_v f' a k = ax_v f a k := by
  unfold fn_M_send_254
  by_cases he : 0 < e
  · rw [if_neg (fun z => absurd ((lg_cmp_le e 0).mp z) (Int64.not_le.mpr he))]
    obtain ⟨p, f1, g1, g2, g3, g4, g5, g6⟩ := ma_more h hfn e (hroom he)
    obtain ⟨f', i1, i2, i3, i4, i5⟩ := ma_288 g4
    have hcn : c + 1 - am_1 (m (nI fn)) = c + sp_new m (nI fn) e := by
      unfold sp_new
      cases hm : m (nI fn) with
      | none => rw [if_pos ⟨he, rfl⟩]; rfl
      | some v => rw [if_neg (fun z => by cases z.2)]; rfl
    rw [hcn] at i1 i2
    refine ⟨f', ?_, ?_, g5.tr i3, i4, fun k h0 h5 => by rw [i5 k h0 h5, g6 k h0]⟩
    · simp only [mo_fees h.1, hfe, ax_is h.1.1, g1, mo_balances g3, mo_balances_g g3 g2, Option.bind_some]
      rw [mo_balances_w g3 g2]
      simp only [Option.bind_some]
      exact i1
    · unfold sp_m2
      rw [if_pos he]
      exact i2
  · rw [if_pos ((lg_cmp_le e 0).mpr (Int64.not_lt.mp he))]
    have hcn : sp_new m (nI fn) e = 0 := by unfold sp_new; rw [if_neg (fun z => he z.1)]
    rw [hcn, show sp_m2 m (nI fn) e = m by unfold sp_m2; rw [if_neg he]]
    exact ma_288 h
set_option maxHeartbeats 4000000 in
theorem ma_170 {f : pl_H} {a c : Nat} {m : am_M} {fn xn yn : Nat} (h : mo_R f a c m) (hfn : fn < 65536) (hxn : xn < 65536) (hyn : yn < 65536) (hfe : ax_i f a 4 = nI fn) (q e : Int64) {k : Int32} (hk : k = am_n m (nI xn)) (A T F : Nat) (hA : A = 1 - am_1 (m (nI xn))) (hT : T = sp_new (sp_m1 m (nI xn) k q e) (nI yn) q) (hF : F = sp_new (sp_m2 (sp_m1 m (nI xn) k q e) (nI yn) q) (nI fn) e) :
    ∃ f', fn_M_send_170 f a (nI xn) (nI yn) q e (nI F) (nI (A + T)) = some ((if c + (A + T + F) ≤ 12 then nI (c + (A + T + F)) else -4), f') ∧ (c + (A + T + F) ≤ 12 → mo_R f' a (c + (A + T + F)) (sp_m3 m (nI fn) (nI xn) (nI yn) q e k) ∧ bs_kp (mo_A a) f f' ∧ ax_i f' a 5 = 0 ∧ ∀ k, k ≠ 0 → k ≠ 5 → ax_v f' a k = ax_v f a k) ∧ (¬ c + (A + T + F) ≤ 12 → f' = f) := by
  have hc := h.2.2.1
  have hT1 : T ≤ 1 := by rw [hT]; unfold sp_new; split <;> omega
  have hF1 : F ≤ 1 := by rw [hF]; unfold sp_new; split <;> omega
  have hx1 : am_1 (m (nI xn)) ≤ 1 := by unfold am_1; split <;> omega
  unfold fn_M_send_170
  simp only [mo_many h.1, h.2.1, Option.bind_some, nI_add]
  by_cases h12 : c + (A + T + F) ≤ 12
  · rw [if_pos (show nI (c + (A + T + F)) ≤ 12 from (bs_le (b := 12) (by omega) (by decide)).mpr h12), if_pos h12]
    obtain ⟨p, f1, c', g1, g2, g3, g4, g5, g6, g7⟩ := ma_open h hxn (fun z => by
      have : am_1 (m (nI xn)) = 0 := by rw [z]; rfl
      omega)
    have hc' : c' = c + A := by omega
    subst hc'
    have hc1 := g2.2.2.1
    have hat := am_at g2.2.2.2 g3
    rw [g4] at hat
    unfold am_up at hat
    rw [if_pos rfl] at hat
    have hat' := Option.some.inj hat
    have hN : am_n m (nI xn) = ax_I f1 (a + 2) p := congrArg Prod.fst hat'
    have hB : am_b m (nI xn) = ax_L f1 (a + 3) p := congrArg Prod.snd hat'
    have h2 := ma_setN g2 g3 (ax_I f1 (a + 2) p + 1)
    rw [g4, am_up_up] at h2
    have h3 := ma_setB h2 g3 (ax_L f1 (a + 3) p - q - e)
    rw [rx_I_ne (show a + 1 ≠ a + 2 by omega), g4, am_up_up, rx_I (mo_nonces_s g2.1), bs_vI, if_pos rfl, ← hN, ← hB, ← hk] at h3
    have h3 : mo_R (ux_L (ux_I f1 (a + 2) p (k + 1)) (a + 3) p (am_b m (nI xn) - q - e)) a (c + A) (sp_m1 m (nI xn) k q e) := h3
    have kp3 : bs_kp (mo_A a) f (ux_L (ux_I f1 (a + 2) p (k + 1)) (a + 3) p (am_b m (nI xn) - q - e)) := g5.tr ((bs_kp.I (by unfold mo_A; omega)).tr (bs_kp.L (by unfold mo_A; omega)))
    have v3 : ∀ j, j ≠ 0 → ax_v (ux_L (ux_I f1 (a + 2) p (k + 1)) (a + 3) p (am_b m (nI xn) - q - e)) a j = ax_v f a j := fun j hj => by rw [rx_v_L, rx_v_I, g6 j hj]
    rw [← hN, ← hk] at h2
    have front : ∀ (R : Option (Int32 × pl_H)), ((if lg_cmp q 0 ≤ 0 then fn_M_send_254 (ux_L (ux_I f1 (a + 2) p (k + 1)) (a + 3) p (am_b m (nI xn) - q - e)) a e else (pl_is (ux_L (ux_I f1 (a + 2) p (k + 1)) (a + 3) p (am_b m (nI xn) - q - e)) a 8).bind fun u12 => (fn_M_open (ux_L (ux_I f1 (a + 2) p (k + 1)) (a + 3) p (am_b m (nI xn) - q - e)) a (nI yn)).bind fun q11 => (pl_gR q11.2 a 8 3).bind fun v13 => (pl_gR q11.2 a 8 3).bind fun v14 => (pl_aL q11.2 v14 q11.1).bind fun v15 => (pl_sL q11.2 v13 q11.1 (v15 + q)).bind fun f16 => fn_M_send_254 f16 a e) = R) → ((pl_is f a 8).bind fun u3 => (fn_M_open f a (nI xn)).bind fun q2 => (pl_gR q2.2 a 8 2).bind fun v4 => (pl_aI q2.2 v4 q2.1).bind fun v5 => (pl_sI q2.2 v4 q2.1 (v5 + 1)).bind fun f6 => (pl_gR f6 a 8 3).bind fun v7 => (pl_gR f6 a 8 3).bind fun v8 => (pl_aL f6 v8 q2.1).bind fun v9 => (pl_sL f6 v7 q2.1 ((v9 - q) - e)).bind fun f10 => if lg_cmp q 0 ≤ 0 then fn_M_send_254 f10 a e else (pl_is f10 a 8).bind fun u12 => (fn_M_open f10 a (nI yn)).bind fun q11 => (pl_gR q11.2 a 8 3).bind fun v13 => (pl_gR q11.2 a 8 3).bind fun v14 => (pl_aL q11.2 v14 q11.1).bind fun v15 => (pl_sL q11.2 v13 q11.1 (v15 + q)).bind fun f16 => fn_M_send_254 f16 a e) = R := by
      intro R hR
      simp only [ax_is h.1.1, g1, mo_nonces g2.1, mo_nonces_g g2.1 (show p < 13 by omega), Option.bind_some]
      rw [← hN, ← hk, mo_nonces_w g2.1 (show p < 13 by omega)]
      simp only [mo_balances h2.1, mo_balances_g h2.1 (show p < 13 by omega), Option.bind_some]
      rw [rx_L_I, ← hB, mo_balances_w h2.1 (show p < 13 by omega)]
      simp only [Option.bind_some]
      exact hR
    by_cases hq : 0 < q
    · obtain ⟨p2, f2, i1, i2, i3, i4, i5, i6⟩ := ma_more h3 hyn q (fun z => by
        have : T = 1 := by rw [hT]; unfold sp_new; rw [if_pos ⟨hq, z⟩]
        omega)
      have hcn : c + A + 1 - am_1 (sp_m1 m (nI xn) k q e (nI yn)) = c + A + T := by
        rw [hT]
        unfold sp_new
        cases hm : sp_m1 m (nI xn) k q e (nI yn) with
        | none => rw [if_pos ⟨hq, rfl⟩]; rfl
        | some v => rw [if_neg (fun z => by cases z.2)]; rfl
      rw [hcn] at i4
      have hm2 : am_up (sp_m1 m (nI xn) k q e) (nI yn) (some (am_n (sp_m1 m (nI xn) k q e) (nI yn), am_b (sp_m1 m (nI xn) k q e) (nI yn) + q)) = sp_m2 (sp_m1 m (nI xn) k q e) (nI yn) q := by unfold sp_m2; rw [if_pos hq]
      rw [hm2] at i4
      obtain ⟨f', j1, j2, j3, j4, j5⟩ := ma_254 i4 hfn (by rw [ix_v (i6 4 (by decide)), ix_v (v3 4 (by decide))]; exact hfe) e (fun z1 z2 => by
        have : F = 1 := by rw [hF]; unfold sp_new; rw [if_pos ⟨z1, z2⟩]
        omega)
      rw [← hF, show c + A + T + F = c + (A + T + F) by omega] at j1 j2
      refine ⟨f', front _ ?_, fun _ => ⟨j2, (kp3.tr i5).tr j3, j4, fun k h0 h5 => by rw [j5 k h0 h5, i6 k h0, v3 k h0]⟩, fun z => absurd h12 z⟩
      rw [if_neg (fun z => absurd ((lg_cmp_le q 0).mp z) (Int64.not_le.mpr hq))]
      simp only [ax_is h3.1.1, i1, mo_balances i3, mo_balances_g i3 i2, Option.bind_some]
      rw [mo_balances_w i3 i2]
      simp only [Option.bind_some]
      exact j1
    · have hm2 : sp_m2 (sp_m1 m (nI xn) k q e) (nI yn) q = sp_m1 m (nI xn) k q e := by unfold sp_m2; rw [if_neg hq]
      have hT0 : T = 0 := by rw [hT]; unfold sp_new; rw [if_neg (fun z => hq z.1)]
      rw [hm2] at hF
      obtain ⟨f', j1, j2, j3, j4, j5⟩ := ma_254 h3 hfn (by rw [ix_v (v3 4 (by decide))]; exact hfe) e (fun z1 z2 => by
        have : F = 1 := by rw [hF]; unfold sp_new; rw [if_pos ⟨z1, z2⟩]
        omega)
      rw [← hF, show c + A + F = c + (A + T + F) by omega] at j1 j2
      refine ⟨f', front _ ?_, fun _ => ⟨by unfold sp_m3; rw [hm2]; exact j2, kp3.tr j3, j4, fun k h0 h5 => by rw [j5 k h0 h5, v3 k h0]⟩, fun z => absurd h12 z⟩
      rw [if_pos ((lg_cmp_le q 0).mpr (Int64.not_lt.mp hq))]
      exact j1
  · rw [if_neg (show ¬ nI (c + (A + T + F)) ≤ 12 from fun z => h12 ((bs_le (b := 12) (by omega) (by decide)).mp z)), if_neg h12]
    exact ⟨f, rfl, fun z => absurd z h12, fun _ => rfl⟩
