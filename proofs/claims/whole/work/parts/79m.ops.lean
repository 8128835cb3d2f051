/-! Both sides as wholes, call by call. -/
def CS (f : pl_H) (n c : Nat) (m : am_M) (P : List (List Int32)) (fe : Int32) (v0 v1 : Int64) : Prop := lg_L f n ∧ ts f n c m ∧ (ax_i f (n + 9) 8 = 0 → fs f n c m) ∧ pf_R f n P ∧ wy_L f n ∧ ax_i f n 5 = fe ∧ (if ax_i f n 6 = 1 then ax_l f (n + 91) 9 else 0) = v0 ∧ (if ax_i f n 6 = 1 then ax_l f (n + 91) 10 else 0) = v1
def MS (f : pl_H) (a c : Nat) (m : am_M) (P : List (List Int32)) (fe : Int32) (v0 v1 : Int64) : Prop := mo_R f a c m ∧ mo_T f a ∧ (ax_i f a 5 ≠ 0 → ws f a c m) ∧ mp_R f a P ∧ ax_i f a 4 = fe ∧ ax_l f a 19 = v0 ∧ ax_l f a 20 = v1
theorem kh_un {f f' : pl_H} {n : Nat} {S : Nat → Prop} (h : kh_L f (n + 5) (n + 6) (n + 7) (n + 8)) (hk : bs_kp S f f') (hS : ∀ q, n + 5 ≤ q → q ≤ n + 8 → ¬ S q) : kh_L f' (n + 5) (n + 6) (n + 7) (n + 8) := by
  have e5 := hk (n + 5) (hS _ (by omega) (by omega))
  have e6 := hk (n + 6) (hS _ (by omega) (by omega))
  have e7 := hk (n + 7) (hS _ (by omega) (by omega))
  have e8 := hk (n + 8) (hS _ (by omega) (by omega))
  unfold kh_L ax_r ax_v at h ⊢
  rw [e5, e6, e7, e8]
  exact h
theorem ts_un {f f' : pl_H} {n c : Nat} {m : am_M} {S : Nat → Prop} (h : ts f n c m) (hk : bs_kp S f f') (hS : ∀ q, n + 1 ≤ q → q ≤ n + 82 → ¬ S q) : ts f' n c m := ⟨bk_R_kp h.1 hk (fun q a b => hS q (by omega) (by omega)), kh_un h.2.1 hk (fun q a b => hS q (by omega) (by omega)), tr_kp h.2.2.1 hk (fun q a b _ _ => hS q (by omega) (by omega)), cd_kp h.2.2.2 hk (hS _ (by omega) (by omega)) (hS _ (by omega) (by omega))⟩
theorem wy_un {f f' : pl_H} {n : Nat} (h : wy_L f n) (hk : f' (n + 91) = f (n + 91)) : wy_L f' n := by
  unfold wy_L ax_r ax_v at h ⊢
  rw [hk]
  exact h
theorem xi_c {f f' : pl_H} {a : Nat} (h : f' a = f a) (k : Nat) : ax_i f' a k = ax_i f a k := by
  unfold ax_i ax_v
  rw [h]
theorem xl_c {f f' : pl_H} {a : Nat} (h : f' a = f a) (k : Nat) : ax_l f' a k = ax_l f a k := by
  unfold ax_l ax_v
  rw [h]
theorem CS_un {f f' : pl_H} {n c : Nat} {m : am_M} {P : List (List Int32)} {fe : Int32} {v0 v1 : Int64} {S : Nat → Prop} (h : CS f n c m P fe v0 v1) (hk : bs_kp S f f') (hS : ∀ q, n ≤ q → q ≤ n + 91 → ¬ S q) : CS f' n c m P fe v0 v1 := by
  obtain ⟨h1, h2, h3, h4, h5, h6, h7, h8⟩ := h
  have e0 := hk n (hS _ (by omega) (by omega))
  have e9 := hk (n + 9) (hS _ (by omega) (by omega))
  have e91 := hk (n + 91) (hS _ (by omega) (by omega))
  refine ⟨lg_un h1 hk (fun q hq => hS q (by omega) (by omega)), ts_un h2 hk (fun q a b => hS q (by omega) (by omega)), fun z => fs_un (h3 (by rw [← xi_c e9]; exact z)) hk (fun q a b => hS q (by omega) (by omega)), pf_R_kp h4 hk (fun q a b => hS q (by omega) (by omega)), wy_un h5 e91, by rw [xi_c e0]; exact h6, ?_, ?_⟩
  · rw [xi_c e0, xl_c e91]
    exact h7
  · rw [xi_c e0, xl_c e91]
    exact h8
theorem MS_z {f f' : pl_H} {a c : Nat} {m : am_M} {P : List (List Int32)} {fe : Int32} {v0 v1 : Int64} {S K : Nat → Prop} (h : MS f a c m P fe v0 v1) (z : mz a S K f f') (hK : ∀ k, K k → k ≠ 0 ∧ k ≠ 4 ∧ k ≠ 5 ∧ k ≠ 16 ∧ k ≠ 19 ∧ k ≠ 20) (hS : ∀ q, a < q → q ≤ a + 6 ∨ q = a + 12 ∨ q = a + 13 ∨ q = a + 17 ∨ q = a + 18 ∨ q = a + 21 → ¬ S q) : MS f' a c m P fe v0 v1 := by
  obtain ⟨h1, h2, h3, h4, h5, h6, h7⟩ := h
  have nK : ∀ k, k = 0 ∨ k = 4 ∨ k = 5 ∨ k = 16 ∨ k = 19 ∨ k = 20 → ¬ K k := fun k hk y => by have := hK k y; omega
  exact ⟨z.R h1 (fun q a b => hS q a (by omega)) (nK 0 (by omega)), mz_T h2 z (hS _ (by omega) (by omega)) (hS _ (by omega) (by omega)), fun y => ws_z (h3 (by rw [← z.i (nK 5 (by omega))]; exact y)) z (nK 0 (by omega)) (fun q a b => hS q a (by omega)) (hS _ (by omega) (by omega)) (hS _ (by omega) (by omega)) (hS _ (by omega) (by omega)), mp_z h4 z (nK 16 (by omega)) (hS _ (by omega) (by omega)) (hS _ (by omega) (by omega)), by rw [z.i (nK 4 (by omega))]; exact h5, by rw [z.l (nK 19 (by omega))]; exact h6, by rw [z.l (nK 20 (by omega))]; exact h7⟩
theorem MS_un {f f' : pl_H} {a c : Nat} {m : am_M} {P : List (List Int32)} {fe : Int32} {v0 v1 : Int64} {S : Nat → Prop} (h : MS f a c m P fe v0 v1) (hk : bs_kp S f f') (hS : ∀ q, a ≤ q → q ≤ a + 21 → ¬ S q) : MS f' a c m P fe v0 v1 := by
  have z : mz a S (fun _ => False) f f' := ⟨mo_kp h.1.1 hk (fun q x y => hS q x (by omega)), hk.mono (fun q hq => Or.inr hq), fun k _ => by
    unfold ax_v
    rw [hk a (hS a (by omega) (by omega))]⟩
  exact MS_z h z (fun k hk => hk.elim) (fun q x y => hS q (by omega) (by omega))
-- calls that change accounts
theorem CS_chg {f f' : pl_H} {n c c' : Nat} {m m' : am_M} {P : List (List Int32)} {fe : Int32} {v0 v1 : Int64} {ch : Bool} (h : CS f n c m P fe v0 v1) (hL : lg_L f' n) (hb : bk_R f' (n + 1) c' m') (hk : bs_kp (lg_G n) f f') (ht : ch = true → ax_i f' (n + 9) 8 = 1) (hf : ch = false → f' = f ∧ c' = c ∧ m' = m) (hv : ∀ k, k ≠ 8 → ax_v f' (n + 9) k = ax_v f (n + 9) k) : CS f' n c' m' P fe v0 v1 := by
  cases ch with
  | false =>
    obtain ⟨rfl, rfl, rfl⟩ := hf rfl
    exact h
  | true =>
    obtain ⟨h1, h2, h3, h4, h5, h6, h7, h8⟩ := h
    have e0 := hk n (by unfold lg_G; omega)
    have e91 := hk (n + 91) (by unfold lg_G; omega)
    have hT : tr_L f' n := by
      obtain ⟨t1, ⟨r0, r1, r2, r3, r4, r5⟩, t3, t4, t5, t6, t7⟩ := h2.2.2.1
      have er : ∀ k, k ≠ 8 → ax_r f' (n + 9) k = ax_r f (n + 9) k := fun k hk => ar_v (hv k hk)
      refine ⟨hL.2.2.2.2.2.2, ⟨by rw [er 0 (by decide)]; exact r0, by rw [er 1 (by decide)]; exact r1, by rw [er 2 (by decide)]; exact r2, by rw [er 3 (by decide)]; exact r3, by rw [er 4 (by decide)]; exact r4, by rw [er 5 (by decide)]; exact r5⟩, by rw [hk _ (by unfold lg_G; omega)]; exact t3, fun i hi => ?_, by rw [hk _ (by unfold lg_G; omega)]; exact t5, by rw [hk _ (by unfold lg_G; omega)]; exact t6, fun i hi => ?_⟩
      · unfold ax_Q
        rw [hk _ (by unfold lg_G; omega)]
        exact t4 i hi
      · obtain ⟨u1, u2, u3⟩ := t7 i hi
        refine ⟨by rw [hk _ (by unfold lg_G; omega)]; exact u1, ?_, by rw [hk _ (by unfold lg_G; omega)]; exact u3⟩
        unfold ax_r ax_v
        rw [hk _ (by unfold lg_G; omega)]
        exact u2
    refine ⟨hL, ⟨hb, kh_un h2.2.1 hk (fun q _ _ => by unfold lg_G; omega), hT, cd_kp h2.2.2.2 hk (by unfold lg_G; omega) (by unfold lg_G; omega)⟩, fun z => ?_, pf_R_kp h4 hk (fun q _ _ => by unfold lg_G; omega), wy_un h5 e91, by rw [xi_c e0]; exact h6, ?_, ?_⟩
    · rw [ht rfl] at z
      exact absurd z (by decide)
    · rw [xi_c e0, xl_c e91]
      exact h7
    · rw [xi_c e0, xl_c e91]
      exact h8
theorem MS_chg {f f' : pl_H} {a c c' : Nat} {m m' : am_M} {P : List (List Int32)} {fe : Int32} {v0 v1 : Int64} {ch : Bool} (h : MS f a c m P fe v0 v1) (hR : mo_R f' a c' m') (hk : bs_kp (mo_A a) f f') (ht : ch = true → ax_i f' a 5 = 0) (hf : ch = false → f' = f ∧ c' = c ∧ m' = m) (hv : ∀ k, k ≠ 0 → k ≠ 5 → ax_v f' a k = ax_v f a k) : MS f' a c' m' P fe v0 v1 := by
  cases ch with
  | false =>
    obtain ⟨rfl, rfl, rfl⟩ := hf rfl
    exact h
  | true =>
    obtain ⟨h1, h2, h3, h4, h5, h6, h7⟩ := h
    refine ⟨hR, mo_T_kp h2 hk (by unfold mo_A; omega) (by unfold mo_A; omega), fun z => absurd (ht rfl) z, mp_R_kp h4 hk (hv 16 (by decide) (by decide)) (by unfold mo_A; omega) (by unfold mo_A; omega), ?_, ?_, ?_⟩
    · rw [ix_v (hv 4 (by decide) (by decide))]
      exact h5
    · rw [al_v (hv 19 (by decide) (by decide))]
      exact h6
    · rw [al_v (hv 20 (by decide) (by decide))]
      exact h7
theorem sp_grant_f {c : Nat} {m : am_M} {x : Int32} {q : Int64} (h : (sp_grant c m x q).2.2.2 = false) : (sp_grant c m x q).2.1 = c ∧ (sp_grant c m x q).2.2.1 = m := by
  unfold sp_grant at h ⊢
  split
  · rename_i c1
    rw [if_pos c1] at h
    split
    · exact ⟨rfl, rfl⟩
    · rename_i c2
      rw [if_neg c2] at h
      cases h
  · exact ⟨rfl, rfl⟩
theorem sp_close_f {c : Nat} {m : am_M} {x : Int32} (h : (sp_close c m x).2.2.2 = false) : (sp_close c m x).2.1 = c ∧ (sp_close c m x).2.2.1 = m := by
  unfold sp_close at h ⊢
  split
  · rename_i c1
    rw [if_pos c1] at h
    cases h
  · exact ⟨rfl, rfl⟩
