/-! send: the class. -/
theorem sp_m1_none {m : am_M} {x k y : Int32} {q e : Int64} : sp_m1 m x k q e y = none ↔ y ≠ x ∧ m y = none := by
  unfold sp_m1 am_up
  by_cases h : y = x
  · rw [if_pos h]; simp [h]
  · rw [if_neg h]; simp [h]
theorem sp_newT {m : am_M} {x k y : Int32} {q e : Int64} : sp_new (sp_m1 m x k q e) y q = if 0 < q ∧ y ≠ x ∧ m y = none then 1 else 0 := by
  unfold sp_new
  by_cases h : 0 < q ∧ y ≠ x ∧ m y = none
  · rw [if_pos h, if_pos ⟨h.1, sp_m1_none.mpr h.2⟩]
  · rw [if_neg h, if_neg (fun z => h ⟨z.1, sp_m1_none.mp z.2⟩)]
theorem sp_newF {m : am_M} {x k y fe : Int32} {q e : Int64} : sp_new (sp_m2 (sp_m1 m x k q e) y q) fe e = if 0 < e ∧ fe ≠ x ∧ m fe = none ∧ ¬ ((0 < q ∧ y ≠ x ∧ m y = none) ∧ fe = y) then 1 else 0 := by
  have key : sp_m2 (sp_m1 m x k q e) y q fe = none ↔ fe ≠ x ∧ m fe = none ∧ ¬ ((0 < q ∧ y ≠ x ∧ m y = none) ∧ fe = y) := by
    unfold sp_m2
    by_cases hp : 0 < q
    · rw [if_pos hp]
      unfold am_up
      by_cases hy : fe = y
      · rw [if_pos hy]
        subst hy
        simp [hp]
        exact fun z1 z2 => ⟨z1, z2⟩
      · rw [if_neg hy, sp_m1_none]
        simp [hy]
    · rw [if_neg hp, sp_m1_none]
      simp [hp]
  unfold sp_new
  by_cases h : 0 < e ∧ fe ≠ x ∧ m fe = none ∧ ¬ ((0 < q ∧ y ≠ x ∧ m y = none) ∧ fe = y)
  · rw [if_pos h, if_pos ⟨h.1, key.mpr h.2⟩]
  · rw [if_neg h, if_neg (fun z => h ⟨z.1, key.mp z.2⟩)]
theorem nc_94 (f : pl_H) : ∀ a, a < 2 → ∀ t, t < 2 → ∀ g, g < 2 → fn_L_newcomers_94 f (nI a) (nI t) (nI g) = some (nI (a + t + g)) := by
  intro a ha t ht g hg
  rcases (show a = 0 ∨ a = 1 by omega) with rfl | rfl <;> rcases (show t = 0 ∨ t = 1 by omega) with rfl | rfl <;> rcases (show g = 0 ∨ g = 1 by omega) with rfl | rfl <;> rfl
theorem am_h_n (m : am_M) (x : Int32) : (am_h m x = 0 ↔ m x = none) := by
  unfold am_h
  cases m x with
  | none => simp
  | some v => simp
set_option maxHeartbeats 1000000 in
theorem lg_newc {f : pl_H} {n c : Nat} {m : am_M} (h : lg_L f n) (hb : bk_R f (n + 1) c m) (x y k : Int32) (q e : Int64) : fn_L_newcomers f n x y q e = some (nI (sp_t m (ax_i f n 5) x y q e k)) := by
  generalize hfe : ax_i f n 5 = fe
  have h45 : ∀ a, a < 2 → ∀ t, t < 2 → (t = if 0 < q ∧ y ≠ x ∧ m y = none then 1 else 0) → fn_L_newcomers_45 f n x y e (nI a) (nI t) = some (nI (a + t + sp_new (sp_m2 (sp_m1 m x k q e) y q) fe e)) := by
    intro a ha t ht htd
    rw [sp_newF]
    have h93 : fn_L_newcomers_93 f (nI a) (nI t) = some (nI (a + t + 0)) := nc_94 f a ha t ht 0 (by decide)
    have h89 : fn_L_newcomers_89 f (nI a) (nI t) = some (nI (a + t + 1)) := nc_94 f a ha t ht 1 (by decide)
    unfold fn_L_newcomers_45
    by_cases he : 0 < e
    · rw [if_neg (fun z => absurd ((lg_cmp_le e 0).mp z) (Int64.not_le.mpr he))]
      simp only [lg_5 h, hfe, Option.bind_some]
      by_cases hx : fe = x
      · rw [if_pos hx, h93, if_neg (fun z => z.2.1 hx)]
      · rw [if_neg hx]
        simp only [lg_0 h, ax_is hb.1.1, bk_has hb, Option.bind_some]
        by_cases hm : m fe = none
        · rw [if_pos ((am_h_n m fe).mpr hm)]
          by_cases ht0 : t = 0
          · subst ht0
            rw [if_pos (show nI 0 = 0 from rfl), h89, if_pos ⟨he, hx, hm, fun z => by rw [if_pos z.1] at htd; cases htd⟩]
          · have ht1 : t = 1 := by omega
            subst ht1
            have hT : 0 < q ∧ y ≠ x ∧ m y = none := by
              by_cases hT : 0 < q ∧ y ≠ x ∧ m y = none
              · exact hT
              · rw [if_neg hT] at htd; cases htd
            rw [if_neg (by decide)]
            by_cases hy : fe = y
            · rw [if_pos hy, h93, if_neg (fun z => z.2.2.2 ⟨hT, hy⟩)]
            · rw [if_neg hy, h89, if_pos ⟨he, hx, hm, fun z => hy z.2⟩]
        · rw [if_neg (fun z => hm ((am_h_n m fe).mp z)), h93, if_neg (fun z => hm z.2.2.1)]
    · rw [if_pos ((lg_cmp_le e 0).mpr (Int64.not_lt.mp he)), h93, if_neg (fun z => he z.1)]
  have h16 : ∀ a, a < 2 → fn_L_newcomers_16 f n x y q e (nI a) = some (nI (a + sp_new (sp_m1 m x k q e) y q + sp_new (sp_m2 (sp_m1 m x k q e) y q) fe e)) := by
    intro a ha
    rw [sp_newT]
    unfold fn_L_newcomers_16 fn_L_newcomers_44
    by_cases hq : 0 < q
    · rw [if_neg (fun z => absurd ((lg_cmp_le q 0).mp z) (Int64.not_le.mpr hq))]
      by_cases hx : y = x
      · have hT : ¬ (0 < q ∧ y ≠ x ∧ m y = none) := fun z => z.2.1 hx
        rw [if_pos hx, if_neg hT]
        exact h45 a ha 0 (by decide) (by rw [if_neg hT])
      · rw [if_neg hx]
        simp only [lg_0 h, ax_is hb.1.1, bk_has hb, Option.bind_some]
        by_cases hm : m y = none
        · have hT : 0 < q ∧ y ≠ x ∧ m y = none := ⟨hq, hx, hm⟩
          rw [if_pos ((am_h_n m y).mpr hm), if_pos hT]
          exact h45 a ha 1 (by decide) (by rw [if_pos hT])
        · have hT : ¬ (0 < q ∧ y ≠ x ∧ m y = none) := fun z => hm z.2.2
          rw [if_neg (fun z => hm ((am_h_n m y).mp z)), if_neg hT]
          exact h45 a ha 0 (by decide) (by rw [if_neg hT])
    · have hT : ¬ (0 < q ∧ y ≠ x ∧ m y = none) := fun z => hq z.1
      rw [if_pos ((lg_cmp_le q 0).mpr (Int64.not_lt.mp hq)), if_neg hT]
      exact h45 a ha 0 (by decide) (by rw [if_neg hT])
  unfold fn_L_newcomers sp_t
  simp only [lg_0 h, ax_is hb.1.1, bk_has hb, Option.bind_some]
  cases hm : m x with
  | none =>
    rw [if_pos ((am_h_n m x).mpr hm)]
    exact h16 1 (by decide)
  | some v =>
    rw [if_neg (fun z => by rw [(am_h_n m x).mp z] at hm; cases hm)]
    exact h16 0 (by decide)
set_option maxHeartbeats 4000000 in
theorem lg_send {f : pl_H} {n c K : Nat} {m : am_M} (h : lg_L f n) (hb : bk_R f (n + 1) c m) (hok : am_ok K m) (hK : K ≤ 512) (hfe : sp_acc (ax_i f n 5) = true) (x y : Int32) (q e : Int64) (k : Int32) : ∃ f', fn_L_send f n x y q e k = some ((sp_send c m (ax_i f n 5) x y q e k).1, f') ∧ lg_L f' n ∧ bk_R f' (n + 1) (sp_send c m (ax_i f n 5) x y q e k).2.1 (sp_send c m (ax_i f n 5) x y q e k).2.2.1 ∧ bs_kp (lg_G n) f f' ∧ ((sp_send c m (ax_i f n 5) x y q e k).2.2.2 = true → ax_i f' (n + 9) 8 = 1) ∧ ((sp_send c m (ax_i f n 5) x y q e k).2.2.2 = false → f' = f) ∧ ∀ k, k ≠ 8 → ax_v f' (n + 9) k = ax_v f (n + 9) k := by
  have hc := hb.2.2.1
  generalize hfe' : ax_i f n 5 = fe at *
  have no : ∀ r : Int32, sp_send c m fe x y q e k = (r, c, m, false) → ∃ f', some (r, f) = some ((sp_send c m fe x y q e k).1, f') ∧ lg_L f' n ∧ bk_R f' (n + 1) (sp_send c m fe x y q e k).2.1 (sp_send c m fe x y q e k).2.2.1 ∧ bs_kp (lg_G n) f f' ∧ ((sp_send c m fe x y q e k).2.2.2 = true → ax_i f' (n + 9) 8 = 1) ∧ ((sp_send c m fe x y q e k).2.2.2 = false → f' = f) ∧ ∀ k, k ≠ 8 → ax_v f' (n + 9) k = ax_v f (n + 9) k := by
    intro r er
    rw [er]
    exact ⟨f, rfl, h, hb, bs_kp.rf, fun z => (by cases z), fun _ => rfl, fun _ _ => rfl⟩
  unfold fn_L_send fn_L_send_29
  simp only [lg_isA, lg_isS, Option.bind_some]
  by_cases h1 : sp_acc x = true
  · rw [if_pos h1, if_neg (by decide)]
    by_cases h2 : sp_acc y = true
    · rw [if_pos h2, if_neg (by decide)]
      by_cases h3 : sp_amt q = true
      · rw [if_pos h3, if_neg (by decide)]
        by_cases h4 : sp_amt e = true
        · rw [if_pos h4, if_neg (by decide)]
          have hall : sp_acc x = true ∧ sp_acc y = true ∧ sp_amt q = true ∧ sp_amt e = true := ⟨h1, h2, h3, h4⟩
          simp only [lg_0 h, ax_is hb.1.1, bk_nonceOf hb, Option.bind_some]
          by_cases h5 : k = am_n m x
          · rw [if_pos h5]
            simp only [bk_balanceOf hb, Option.bind_some]
            by_cases h6 : q + e ≤ am_b m x
            · rw [if_pos ((lg_cmp_le _ _).mpr h6)]
              simp only [bk_count hb, ax_is h.1, lg_newc h hb x y k q e, hfe', Option.bind_some]
              rw [nI_add]
              have ht3 : sp_t m fe x y q e k ≤ 3 := by
                unfold sp_t
                rw [sp_newT, sp_newF]
                split <;> split <;> omega
              by_cases h7 : c + sp_t m fe x y q e k ≤ 12
              · rw [if_pos (show nI (c + sp_t m fe x y q e k) ≤ 12 from (bs_le (b := 12) (by omega) (by decide)).mpr h7)]
                have er : sp_send c m fe x y q e k = (nI (c + sp_t m fe x y q e k), c + sp_t m fe x y q e k, sp_m3 m fe x y q e k, true) := by
                  unfold sp_send
                  rw [if_pos hall, if_pos h5, if_pos h6, if_pos h7]
                rw [er]
                have hq := sp_amt_e h3
                have he := sp_amt_e h4
                obtain ⟨ok1, B1, hne⟩ := sp_m1_ok hok hK h5 hq he h6
                obtain ⟨xn, hxn, rfl⟩ := sp_acc_n h1
                obtain ⟨yn, hyn, rfl⟩ := sp_acc_n h2
                obtain ⟨fn, hfn, rfl⟩ := sp_acc_n hfe
                -- put
                obtain ⟨f1, c1, p1, p2, p3, p4⟩ := bk_put hb hxn (k + 1) (am_b m (nI xn) - q - e) (v := some (k + 1, am_b m (nI xn) - q - e)) (by rw [if_neg (fun z => hne z.1)]) (fun z _ => by
                  have : 1 - am_1 (m (nI xn)) = 1 := by rw [z]; rfl
                  have : sp_t m (nI fn) (nI xn) (nI yn) q e k ≥ 1 := by unfold sp_t; omega
                  omega)
                have p2 : bk_R f1 (n + 1) c1 (sp_m1 m (nI xn) k q e) := p2
                have hc1 : c1 = c + (1 - am_1 (m (nI xn))) := by
                  have z1 : am_1 (some (k + 1, am_b m (nI xn) - q - e)) = 1 := rfl
                  have z2 : am_1 (m (nI xn)) ≤ 1 := by unfold am_1; split <;> omega
                  omega
                have hS9 : ¬ bk_S (n + 1) (n + 9) := by unfold bk_S; omega
                have hS0 : ¬ bk_S (n + 1) n := by unfold bk_S; omega
                have l1 := lg_kp h p3 hS0 (by rw [p3 _ hS9])
                -- credit the other
                generalize hv2 : (if am_n (sp_m1 m (nI xn) k q e) (nI yn) = 0 ∧ am_b (sp_m1 m (nI xn) k q e) (nI yn) + q = 0 then none else some (am_n (sp_m1 m (nI xn) k q e) (nI yn), am_b (sp_m1 m (nI xn) k q e) (nI yn) + q)) = v2
                obtain ⟨r1, r2, r3, B2⟩ := sp_cred (B := K * 2000000000000) ok1 (fun y v hv => by have := B1 y v hv; simpa using this) (by omega) (nI yn) hq hv2.symm
                obtain ⟨f2, c2, q1, q2, q3, q4⟩ := bk_credit p2 hyn q hv2.symm (fun z1 z2 => by
                  have zz := r2 z1 z2
                  have : sp_new (sp_m1 m (nI xn) k q e) (nI yn) q = 1 := by unfold sp_new; rw [if_pos ⟨zz, z1⟩]
                  have : sp_t m (nI fn) (nI xn) (nI yn) q e k ≥ (1 - am_1 (m (nI xn))) + 1 := by unfold sp_t; omega
                  omega)
                rw [r1] at q2
                have hc2 : c2 = c1 + sp_new (sp_m1 m (nI xn) k q e) (nI yn) q := by omega
                have l2 := lg_kp l1 q3 hS0 (by rw [q3 _ hS9])
                have hfe2 : ax_i f2 n 5 = nI fn := by
                  unfold ax_i ax_v
                  rw [q3 _ hS0, p3 _ hS0]
                  exact hfe'
                have ok2 : am_ok (K + 1) (sp_m2 (sp_m1 m (nI xn) k q e) (nI yn) q) := sp_m2_ok (B := K * 2000000000000) ok1 (fun y v hv => by have := B1 y v hv; simpa using this) (by omega) (by omega) (nI yn) hq
                -- credit the fees
                generalize hv3 : (if am_n (sp_m2 (sp_m1 m (nI xn) k q e) (nI yn) q) (nI fn) = 0 ∧ am_b (sp_m2 (sp_m1 m (nI xn) k q e) (nI yn) q) (nI fn) + e = 0 then none else some (am_n (sp_m2 (sp_m1 m (nI xn) k q e) (nI yn) q) (nI fn), am_b (sp_m2 (sp_m1 m (nI xn) k q e) (nI yn) q) (nI fn) + e)) = v3
                obtain ⟨s1, s2, s3, -⟩ := sp_cred (B := K * 2000000000000 + 1000000000000) ok2 (fun y v hv => by have := B2 y v hv; simpa using this) (by omega) (nI fn) he hv3.symm
                obtain ⟨f3, c3, t1, t2, t3, t4⟩ := bk_credit q2 hfn e hv3.symm (fun z1 z2 => by
                  have zz := s2 z1 z2
                  have : sp_new (sp_m2 (sp_m1 m (nI xn) k q e) (nI yn) q) (nI fn) e = 1 := by unfold sp_new; rw [if_pos ⟨zz, z1⟩]
                  have : sp_t m (nI fn) (nI xn) (nI yn) q e k = (1 - am_1 (m (nI xn))) + sp_new (sp_m1 m (nI xn) k q e) (nI yn) q + 1 := by unfold sp_t; omega
                  omega)
                rw [s1] at t2
                have hc3 : c3 = c + sp_t m (nI fn) (nI xn) (nI yn) q e k := by unfold sp_t; omega
                subst hc3
                have l3 := lg_kp l2 t3 hS0 (by rw [t3 _ hS9])
                have hsx := sx_f (v := .int 1) l3.2.2.2.2.2.2 (k := 8) rfl
                have l4 : lg_L (ux_f f3 (n + 9) 8 (.int 1)) n := lg_kp l3 (bs_kp.f (S := fun q => q = n + 9) rfl) (by omega) (hsx _)
                have b4 : bk_R (ux_f f3 (n + 9) 8 (.int 1)) (n + 1) (c + sp_t m (nI fn) (nI xn) (nI yn) q e k) (sp_m3 m (nI fn) (nI xn) (nI yn) q e k) := bk_R_kp t2 (bs_kp.f (S := fun q => q = n + 9) rfl) (fun q h1 h2 => by omega)
                refine ⟨_, ?_, l4, b4, (((p3.tr q3).tr t3).mono (fun q hq => by unfold bk_S at hq; unfold lg_G; omega)).tr (bs_kp.f (Or.inr rfl)), fun _ => ix_f l3.2.2.2.2.2.2 (by decide), fun z => (by cases z), fun k hk => ?_⟩
                · simp only [lg_0 h, ax_is hb.1.1, bk_balanceOf hb, p1, lg_0 l1, ax_is p2.1.1, q1, lg_0 l2, lg_5 l2, hfe2, ax_is q2.1.1, t1, lg_2 l3, ax_is l3.2.2.2.2.2.2, tr_out l3.2.2.2.2.2.2, lg_0 l4, ax_is b4.1.1, bk_count b4, Option.bind_some]
                · rw [rx_v_fne (Or.inr hk)]
                  unfold ax_v
                  rw [t3 _ hS9, q3 _ hS9, p3 _ hS9]
              · rw [if_neg (show ¬ nI (c + sp_t m fe x y q e k) ≤ 12 from fun z => h7 ((bs_le (b := 12) (by omega) (by decide)).mp z))]
                exact no (-4) (by unfold sp_send; rw [if_pos hall, if_pos h5, if_pos h6, if_neg h7])
            · rw [if_neg (fun z => h6 ((lg_cmp_le _ _).mp z))]
              exact no (-3) (by unfold sp_send; rw [if_pos hall, if_pos h5, if_neg h6])
          · rw [if_neg h5]
            exact no (-2) (by unfold sp_send; rw [if_pos hall, if_neg h5])
        · rw [if_neg h4, if_pos rfl]
          exact no (-1) (by unfold sp_send; rw [if_neg (fun z => h4 z.2.2.2)])
      · rw [if_neg h3, if_pos rfl]
        exact no (-1) (by unfold sp_send; rw [if_neg (fun z => h3 z.2.2.1)])
    · rw [if_neg h2, if_pos rfl]
      exact no (-1) (by unfold sp_send; rw [if_neg (fun z => h2 z.2.1)])
  · rw [if_neg h1, if_pos rfl]
    exact no (-1) (by unfold sp_send; rw [if_neg (fun z => h1 z.1)])
