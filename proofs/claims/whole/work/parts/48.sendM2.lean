/-! send: the reference's front; the small calls of both sides. -/
theorem ma_fnd {f : pl_H} {a c : Nat} {m : am_M} (h : mo_R f a c m) (x : Int32) : ∃ r, fn_M_find f a x = some r ∧ (0 ≤ r ↔ m x ≠ none) := by
  have hc := h.2.2.1
  obtain ⟨r, r1, r2⟩ := ma_find h x
  refine ⟨r, r1, ?_⟩
  rcases r2 with ⟨p, p1, p2, rfl⟩ | ⟨p1, rfl⟩
  · have := am_at h.2.2.2 p1
    rw [p2] at this
    exact ⟨fun _ z => (by rw [this] at z; cases z), fun _ => nI_pos' (by omega)⟩
  · exact ⟨fun z => absurd z (by decide), fun z => absurd p1 z⟩
theorem ma_s145 (f : pl_H) (a : Nat) (x y : Int32) (q e : Int64) (A : Nat) : ∀ T, T < 2 → ∀ F, F < 2 → fn_M_send_145 f a x y q e (nI A) (nI T) (nI F) = fn_M_send_170 f a x y q e (nI F) (nI (A + T)) := by
  intro T hT F hF
  unfold fn_M_send_145 fn_M_send_159
  have b : ∀ B, B < 2 → B = 0 ∨ B = 1 := fun B hB => by omega
  rcases b T hT with rfl | rfl
  · rw [if_pos (show nI 0 = 0 from rfl)]
    rw [show nI A + 0 = nI (A + 0) from nI_add A 0]
    rcases b F hF with rfl | rfl
    · rw [if_pos (show nI 0 = 0 from rfl)]
      rfl
    · rw [if_neg (show ¬ nI 1 = 0 by decide)]
      rfl
  · rw [if_neg (show ¬ nI 1 = 0 by decide)]
    rw [show nI A + 1 = nI (A + 1) from nI_add A 1]
    rcases b F hF with rfl | rfl
    · rw [if_pos (show nI 0 = 0 from rfl)]
      rfl
    · rw [if_neg (show ¬ nI 1 = 0 by decide)]
      rfl
theorem ma_s99 {f : pl_H} {a c : Nat} {m : am_M} (h : mo_R f a c m) (x y : Int32) (q e : Int64) (A T F : Nat) (hT : T = if 0 < q ∧ y ≠ x ∧ m y = none then 1 else 0) (hF : F = if 0 < e ∧ ax_i f a 4 ≠ x ∧ m (ax_i f a 4) = none ∧ ¬ ((0 < q ∧ y ≠ x ∧ m y = none) ∧ ax_i f a 4 = y) then 1 else 0) : fn_M_send_99 f a x y q e (nI A) (nI T) = fn_M_send_170 f a x y q e (nI F) (nI (A + T)) := by
  have hT2 : T < 2 := by rw [hT]; split <;> omega
  unfold fn_M_send_99 fn_M_send_144 fn_M_send_140
  by_cases he : 0 < e
  · rw [if_neg (fun z => absurd ((lg_cmp_le e 0).mp z) (Int64.not_le.mpr he))]
    simp only [mo_fees h.1, Option.bind_some]
    by_cases h1 : ax_i f a 4 = x
    · rw [if_neg (fun z => z.2.1 h1)] at hF
      subst hF
      rw [if_pos h1]
      exact ma_s145 f a x y q e A T hT2 0 (by decide)
    · rw [if_neg h1]
      obtain ⟨r, r1, r2⟩ := ma_fnd h (ax_i f a 4)
      simp only [ax_is h.1.1, r1, Option.bind_some]
      by_cases h2 : m (ax_i f a 4) = none
      · rw [if_neg (show ¬ 0 ≤ r from fun z => r2.mp z h2)]
        by_cases h3 : 0 < q ∧ y ≠ x ∧ m y = none
        · rw [if_pos h3] at hT
          subst hT
          rw [if_neg (show ¬ nI 1 = 0 by decide)]
          by_cases h4 : ax_i f a 4 = y
          · rw [if_neg (fun z => z.2.2.2 ⟨h3, h4⟩)] at hF
            subst hF
            rw [if_pos h4]
            exact ma_s145 f a x y q e A 1 hT2 0 (by decide)
          · rw [if_pos ⟨he, h1, h2, fun z => h4 z.2⟩] at hF
            subst hF
            rw [if_neg h4]
            exact ma_s145 f a x y q e A 1 hT2 1 (by decide)
        · rw [if_neg h3] at hT
          subst hT
          rw [if_pos ⟨he, h1, h2, fun z => h3 z.1⟩] at hF
          subst hF
          rw [if_pos (show nI 0 = 0 from rfl)]
          exact ma_s145 f a x y q e A 0 hT2 1 (by decide)
      · rw [if_pos (r2.mpr h2)]
        rw [if_neg (fun z => h2 z.2.2.1)] at hF
        subst hF
        exact ma_s145 f a x y q e A T hT2 0 (by decide)
  · rw [if_pos ((lg_cmp_le e 0).mpr (Int64.not_lt.mp he))]
    rw [if_neg (fun z => he z.1)] at hF
    subst hF
    exact ma_s145 f a x y q e A T hT2 0 (by decide)
theorem ma_s73 {f : pl_H} {a c : Nat} {m : am_M} (h : mo_R f a c m) (x y : Int32) (q e : Int64) (A T F : Nat) (hT : T = if 0 < q ∧ y ≠ x ∧ m y = none then 1 else 0) (hF : F = if 0 < e ∧ ax_i f a 4 ≠ x ∧ m (ax_i f a 4) = none ∧ ¬ ((0 < q ∧ y ≠ x ∧ m y = none) ∧ ax_i f a 4 = y) then 1 else 0) : fn_M_send_73 f a x y q e (nI A) = fn_M_send_170 f a x y q e (nI F) (nI (A + T)) := by
  have key := ma_s99 h x y q e A T F hT hF
  unfold fn_M_send_73 fn_M_send_98
  by_cases hq : 0 < q
  · rw [if_neg (fun z => absurd ((lg_cmp_le q 0).mp z) (Int64.not_le.mpr hq))]
    by_cases h1 : y = x
    · rw [if_neg (fun z => z.2.1 h1)] at hT
      subst hT
      rw [if_pos h1]
      exact key
    · rw [if_neg h1]
      obtain ⟨r, r1, r2⟩ := ma_fnd h y
      simp only [ax_is h.1.1, r1, Option.bind_some]
      by_cases h2 : m y = none
      · rw [if_neg (show ¬ 0 ≤ r from fun z => r2.mp z h2)]
        rw [if_pos ⟨hq, h1, h2⟩] at hT
        subst hT
        exact key
      · rw [if_pos (r2.mpr h2)]
        rw [if_neg (fun z => h2 z.2.2)] at hT
        subst hT
        exact key
  · rw [if_pos ((lg_cmp_le q 0).mpr (Int64.not_lt.mp hq))]
    rw [if_neg (fun z => hq z.1)] at hT
    subst hT
    exact key
set_option maxHeartbeats 2000000 in
theorem ma_send {f : pl_H} {a c : Nat} {m : am_M} (h : mo_R f a c m) (hfe : sp_acc (ax_i f a 4) = true) (x y : Int32) (q e : Int64) (k : Int32) : ∃ f', fn_M_send f a x y q e k = some ((sp_send c m (ax_i f a 4) x y q e k).1, f') ∧ mo_R f' a (sp_send c m (ax_i f a 4) x y q e k).2.1 (sp_send c m (ax_i f a 4) x y q e k).2.2.1 ∧ bs_kp (mo_A a) f f' ∧ ((sp_send c m (ax_i f a 4) x y q e k).2.2.2 = true → ax_i f' a 5 = 0) ∧ ((sp_send c m (ax_i f a 4) x y q e k).2.2.2 = false → f' = f) ∧ ∀ k, k ≠ 0 → k ≠ 5 → ax_v f' a k = ax_v f a k := by
  generalize hfe' : ax_i f a 4 = fe at *
  have no : ∀ r : Int32, sp_send c m fe x y q e k = (r, c, m, false) → ∃ f', some (r, f) = some ((sp_send c m fe x y q e k).1, f') ∧ mo_R f' a (sp_send c m fe x y q e k).2.1 (sp_send c m fe x y q e k).2.2.1 ∧ bs_kp (mo_A a) f f' ∧ ((sp_send c m fe x y q e k).2.2.2 = true → ax_i f' a 5 = 0) ∧ ((sp_send c m fe x y q e k).2.2.2 = false → f' = f) ∧ ∀ k, k ≠ 0 → k ≠ 5 → ax_v f' a k = ax_v f a k := by
    intro r er
    rw [er]
    exact ⟨f, rfl, h, bs_kp.rf, fun z => (by cases z), fun _ => rfl, fun _ _ _ => rfl⟩
  unfold fn_M_send fn_M_send_29
  simp only [mo_isA, mo_isS, Option.bind_some]
  by_cases h1 : sp_acc x = true
  · rw [if_pos h1, if_neg (by decide)]
    by_cases h2 : sp_acc y = true
    · rw [if_pos h2, if_neg (by decide)]
      by_cases h3 : sp_amt q = true
      · rw [if_pos h3, if_neg (by decide)]
        by_cases h4 : sp_amt e = true
        · rw [if_pos h4, if_neg (by decide)]
          have hall : sp_acc x = true ∧ sp_acc y = true ∧ sp_amt q = true ∧ sp_amt e = true := ⟨h1, h2, h3, h4⟩
          simp only [ax_is h.1.1, ma_nonce h, Option.bind_some]
          by_cases h5 : k = am_n m x
          · rw [if_pos h5]
            simp only [ma_balance h, Option.bind_some]
            by_cases h6 : q + e ≤ am_b m x
            · rw [if_pos ((lg_cmp_le _ _).mpr h6)]
              obtain ⟨r, r1, r2⟩ := ma_fnd h x
              simp only [r1, Option.bind_some]
              obtain ⟨xn, hxn, rfl⟩ := sp_acc_n h1
              obtain ⟨yn, hyn, rfl⟩ := sp_acc_n h2
              obtain ⟨fn, hfn, rfl⟩ := sp_acc_n hfe
              have hfront : (if 0 ≤ r then fn_M_send_73 f a (nI xn) (nI yn) q e 0 else fn_M_send_73 f a (nI xn) (nI yn) q e 1) = fn_M_send_73 f a (nI xn) (nI yn) q e (nI (1 - am_1 (m (nI xn)))) := by
                cases hm : m (nI xn) with
                | none => rw [if_neg (fun z => r2.mp z hm)]; rfl
                | some v => rw [if_pos (r2.mpr (by rw [hm]; exact fun z => (by cases z)))]; rfl
              rw [hfront]
              rw [ma_s73 h (nI xn) (nI yn) q e _ (sp_new (sp_m1 m (nI xn) k q e) (nI yn) q) (sp_new (sp_m2 (sp_m1 m (nI xn) k q e) (nI yn) q) (nI fn) e) sp_newT (by rw [hfe']; exact sp_newF)]
              obtain ⟨f', g1, g2, g3⟩ := ma_170 h hfn hxn hyn hfe' q e h5 _ _ _ rfl rfl rfl
              rw [g1]
              have hsum : (1 - am_1 (m (nI xn))) + sp_new (sp_m1 m (nI xn) k q e) (nI yn) q + sp_new (sp_m2 (sp_m1 m (nI xn) k q e) (nI yn) q) (nI fn) e = sp_t m (nI fn) (nI xn) (nI yn) q e k := rfl
              rw [hsum] at g2 g3 ⊢
              by_cases h7 : c + sp_t m (nI fn) (nI xn) (nI yn) q e k ≤ 12
              · have es : sp_send c m (nI fn) (nI xn) (nI yn) q e k = (nI (c + sp_t m (nI fn) (nI xn) (nI yn) q e k), c + sp_t m (nI fn) (nI xn) (nI yn) q e k, sp_m3 m (nI fn) (nI xn) (nI yn) q e k, true) := by
                  unfold sp_send
                  rw [if_pos hall, if_pos h5, if_pos h6, if_pos h7]
                rw [es, if_pos h7]
                obtain ⟨i1, i2, i3, i4⟩ := g2 h7
                exact ⟨f', rfl, i1, i2, fun _ => i3, fun z => (by cases z), i4⟩
              · rw [if_neg h7, g3 h7]
                exact no (-4) (by unfold sp_send; rw [if_pos hall, if_pos h5, if_pos h6, if_neg h7])
            · rw [if_neg (fun z => h6 ((lg_cmp_le _ _).mp z))]
              exact no (-3) (by unfold sp_send; rw [if_pos hall, if_pos h5, if_neg h6])
          · rw [if_neg h5]
            exact no (-2) (by unfold sp_send; rw [if_pos hall, if_neg h5])
        · rw [if_neg h4, if_pos rfl]
          exact no (-1) (by unfold sp_send; rw [if_neg (fun z => h4 z.2.2.2)])
      · rw [if_neg h3, if_pos rfl]
        exact no (-1) (by unfold sp_send; rw [if_neg (fun z => h3 z.2.2.1)])
    · rw [if_neg h2, if_pos rfl]
      exact no (-1) (by unfold sp_send; rw [if_neg (fun z => h2 z.2.1)])
  · rw [if_neg h1, if_pos rfl]
    exact no (-1) (by unfold sp_send; rw [if_neg (fun z => h1 z.1)])
/-! bounds after a call -/
theorem am_ok_mono {K K' : Nat} {m : am_M} (h : am_ok K m) (hK : K ≤ K') : am_ok K' m := fun y v hv => by
  have := h y v hv
  refine ⟨⟨by omega, by omega⟩, ⟨by omega, by omega⟩, this.2.2⟩
theorem sp_grant_ok {K c : Nat} {m : am_M} (h : am_ok K m) (hK : K ≤ 512) (x : Int32) (q : Int64) : am_ok (K + 1) (sp_grant c m x q).2.2.1 := by
  unfold sp_grant
  split
  · rename_i hcond
    split
    · exact am_ok_mono h (by omega)
    · show am_ok (K + 1) (am_up m x (some (am_n m x, am_b m x + q)))
      have hq1 : 1 ≤ q.toInt := by have := Int64.le_iff_toInt_le.mp hcond.2.1; simpa using this
      have hq2 : q.toInt ≤ 1000000000000 := by have := Int64.le_iff_toInt_le.mp hcond.2.2; simpa using this
      have hbal := am_b_ok h x
      have hn := am_n_ok h x
      have hsum := l_add (x := am_b m x) (y := q) hbal.1 (by omega) (by omega)
      intro y v hv
      unfold am_up at hv
      by_cases hy : y = x
      · rw [if_pos hy] at hv
        cases hv
        refine ⟨⟨hn.1, ?_⟩, ⟨?_, ?_⟩, Or.inr (fun z => ?_)⟩
        · show (am_n m x).toInt ≤ _
          omega
        · show 0 ≤ (am_b m x + q).toInt
          omega
        · show (am_b m x + q).toInt ≤ _
          omega
        · have z : am_b m x + q = 0 := z
          have := congrArg Int64.toInt z
          rw [hsum] at this
          simp at this
          omega
      · rw [if_neg hy] at hv
        exact am_ok_mono h (by omega : K ≤ K + 1) y v hv
  · exact am_ok_mono h (by omega)
theorem sp_send_ok {K c : Nat} {m : am_M} (h : am_ok K m) (hK : K ≤ 512) (fe x y : Int32) (q e : Int64) (k : Int32) : am_ok (K + 1) (sp_send c m fe x y q e k).2.2.1 := by
  unfold sp_send
  split
  · rename_i hall
    split
    · rename_i h5
      split
      · rename_i h6
        split
        · have hq := sp_amt_e hall.2.2.1
          have he := sp_amt_e hall.2.2.2
          obtain ⟨ok1, B1, -⟩ := sp_m1_ok h hK h5 hq he h6
          have ok2 : am_ok (K + 1) (sp_m2 (sp_m1 m x k q e) y q) := sp_m2_ok (B := K * 2000000000000) ok1 (fun y v hv => by have := B1 y v hv; simpa using this) (by omega) (by omega) y hq
          obtain ⟨-, -, -, B2⟩ := sp_cred (B := K * 2000000000000) ok1 (fun y v hv => by have := B1 y v hv; simpa using this) (by omega) y hq rfl
          exact sp_m2_ok (B := K * 2000000000000 + 1000000000000) ok2 (fun y v hv => by have := B2 y v hv; simpa using this) (by omega) (by omega) fe he
        · exact am_ok_mono h (by omega)
      · exact am_ok_mono h (by omega)
    · exact am_ok_mono h (by omega)
  · exact am_ok_mono h (by omega)
