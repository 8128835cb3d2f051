/-! Every call of the law keeps both sides. -/
def IV (f : pl_H) (n K : Nat) : Prop := ∃ c m P fe v0 v1, CS f n c m P fe v0 v1 ∧ MS f (n + 92) c m P fe v0 v1 ∧ am_ok K m ∧ sp_acc fe = true ∧ pk_ok P
/-- a call that both sides answer alike -/
def OP (f : pl_H) (n K : Nat) {α : Type} (cl : pl_H → Option (α × pl_H)) (re : pl_H → Option (α × pl_H)) : Prop := ∃ r f1 f2, cl f = some (r, f1) ∧ pl_is f1 (n + 92) 8 = some () ∧ re f1 = some (r, f2) ∧ IV f2 n (K + 1)
theorem CS_fr {f f' : pl_H} {n c : Nat} {m : am_M} {P P' : List (List Int32)} {fe : Int32} {v0 v1 : Int64} (h : CS f n c m P fe v0 v1) (hL : lg_L f' n) (ht : ts f' n c m) (ho : ax_i f' (n + 9) 8 = 0 → fs f' n c m) (hp : pf_R f' n P') (hk : bs_kp (fun q => n + 6 ≤ q ∧ q ≤ n + 90) f f') : CS f' n c m P' fe v0 v1 := by
  obtain ⟨h1, h2, h3, h4, h5, h6, h7, h8⟩ := h
  have e0 := hk n (by omega)
  have e91 := hk (n + 91) (by omega)
  refine ⟨hL, ht, ho, hp, wy_un h5 e91, by rw [xi_c e0]; exact h6, ?_, ?_⟩
  · rw [xi_c e0, xl_c e91]
    exact h7
  · rw [xi_c e0, xl_c e91]
    exact h8
theorem MS_w {f f' : pl_H} {a c : Nat} {m : am_M} {P P' : List (List Int32)} {fe : Int32} {v0 v1 : Int64} {S K : Nat → Prop} (h : MS f a c m P fe v0 v1) (hR : mo_R f' a c m) (hT : mo_T f' a) (hw : ax_i f' a 5 ≠ 0 → ws f' a c m) (hp : mp_R f' a P') (z : mz a S K f f') (hK : ∀ k, K k → k ≠ 4 ∧ k ≠ 19 ∧ k ≠ 20) : MS f' a c m P' fe v0 v1 := by
  obtain ⟨h1, h2, h3, h4, h5, h6, h7⟩ := h
  have nK : ∀ k, k = 4 ∨ k = 19 ∨ k = 20 → ¬ K k := fun k hk y => by have := hK k y; omega
  exact ⟨hR, hT, hw, hp, by rw [z.i (nK 4 (by omega))]; exact h5, by rw [z.l (nK 19 (by omega))]; exact h6, by rw [z.l (nK 20 (by omega))]; exact h7⟩
theorem CS_m {f f' : pl_H} {n c : Nat} {m : am_M} {P : List (List Int32)} {fe : Int32} {v0 v1 : Int64} {S K : Nat → Prop} (h : CS f n c m P fe v0 v1) (z : mz (n + 92) S K f f') (hS : ∀ q, q ≤ n + 91 → ¬ S q) : CS f' n c m P fe v0 v1 := CS_un h z.2.1 (fun q _ b y => y.elim (fun e => by omega) (hS q b))
theorem op_collector {f : pl_H} {n K : Nat} (h : IV f n K) (x : Int32) : OP f n K (fun f => fn_L_collector f n x) (fun f => fn_M_collector f (n + 92) x) := by
  obtain ⟨c, m, P, fe, v0, v1, hC, hM, hok, hfe, hpk⟩ := h
  obtain ⟨f1, p1, L1, k1, i1, w1⟩ := lg_collector hC.1 x
  have M1 := MS_un hM k1 (fun q _ _ z => by omega)
  obtain ⟨f2, p2, L2, k2, i2, w2⟩ := ma_collector M1.1.1 x
  have z2 : mz (n + 92) (fun _ => False) (fun k => k = 4) f1 f2 := ⟨L2, k2.mono (fun q hq => Or.inl hq), w2⟩
  have C1 : CS f1 n c m P (if sp_acc x = true then x else fe) v0 v1 := by
    obtain ⟨h1, h2, h3, h4, h5, h6, h7, h8⟩ := hC
    have e9 := k1 (n + 9) (by omega)
    have e91 := k1 (n + 91) (by omega)
    refine ⟨L1, ts_un h2 k1 (fun q _ _ z => by omega), fun z => fs_un (h3 (by rw [← xi_c e9]; exact z)) k1 (fun q _ _ z => by omega), pf_R_kp h4 k1 (fun q _ _ z => by omega), wy_un h5 e91, by rw [i1, h6], ?_, ?_⟩
    · rw [ix_v (w1 6 (by decide)), xl_c e91]
      exact h7
    · rw [ix_v (w1 6 (by decide)), xl_c e91]
      exact h8
  have M2 : MS f2 (n + 92) c m P (if sp_acc x = true then x else fe) v0 v1 := by
    obtain ⟨h1, h2, h3, h4, h5, h6, h7⟩ := M1
    exact ⟨z2.R h1 (fun _ _ _ z => z) (by decide), mz_T h2 z2 (fun z => z) (fun z => z), fun y => ws_z (h3 (by rw [← z2.i (k := 5) (by decide)]; exact y)) z2 (by decide) (fun _ _ _ z => z) (fun z => z) (fun z => z) (fun z => z), mp_z h4 z2 (by decide) (fun z => z) (fun z => z), by rw [i2, h5], by rw [z2.l (by decide)]; exact h6, by rw [z2.l (by decide)]; exact h7⟩
  refine ⟨_, f1, f2, p1, ax_is M1.1.1.1, p2, c, m, P, _, v0, v1, CS_m C1 z2 (fun _ _ z => z), M2, am_ok_mono hok (by omega), ?_, hpk⟩
  by_cases ha : sp_acc x = true
  · rw [if_pos ha]
    exact ha
  · rw [if_neg ha]
    exact hfe
theorem sp_send_f {c : Nat} {m : am_M} {fe x y : Int32} {q e : Int64} {k : Int32} (h : (sp_send c m fe x y q e k).2.2.2 = false) : (sp_send c m fe x y q e k).2.1 = c ∧ (sp_send c m fe x y q e k).2.2.1 = m := by
  unfold sp_send at h ⊢
  by_cases c1 : sp_acc x = true ∧ sp_acc y = true ∧ sp_amt q = true ∧ sp_amt e = true
  · rw [if_pos c1] at h ⊢
    by_cases c2 : k = am_n m x
    · rw [if_pos c2] at h ⊢
      by_cases c3 : q + e ≤ am_b m x
      · rw [if_pos c3] at h ⊢
        by_cases c4 : c + sp_t m fe x y q e k ≤ 12
        · rw [if_pos c4] at h
          cases h
        · rw [if_neg c4]
          exact ⟨rfl, rfl⟩
      · rw [if_neg c3]
        exact ⟨rfl, rfl⟩
    · rw [if_neg c2]
      exact ⟨rfl, rfl⟩
  · rw [if_neg c1]
    exact ⟨rfl, rfl⟩
theorem op_grant {f : pl_H} {n K : Nat} (h : IV f n K) (hK : K ≤ 512) (x : Int32) (q : Int64) : OP f n K (fun f => fn_L_grant f n x q) (fun f => fn_M_grant f (n + 92) x q) := by
  obtain ⟨c, m, P, fe, v0, v1, hC, hM, hok, hfe, hpk⟩ := h
  obtain ⟨f1, p1, L1, b1, k1, t1, u1, w1⟩ := lg_grant hC.1 hC.2.1.1 hok hK x q
  have C1 := CS_chg hC L1 b1 k1 t1 (fun z => ⟨u1 z, sp_grant_f z⟩) w1
  have M1 := MS_un hM k1 (fun q _ _ => by unfold lg_G; omega)
  obtain ⟨f2, p2, R2, k2, t2, u2, w2⟩ := ma_grant M1.1 x q
  have M2 := MS_chg M1 R2 k2 t2 (fun z => ⟨u2 z, sp_grant_f z⟩) w2
  exact ⟨_, f1, f2, p1, ax_is M1.1.1.1, p2, _, _, P, fe, v0, v1, CS_un C1 k2 (fun q _ _ => by unfold mo_A; omega), M2, sp_grant_ok hok hK x q, hfe, hpk⟩
theorem op_send {f : pl_H} {n K : Nat} (h : IV f n K) (hK : K ≤ 512) (x y : Int32) (q e : Int64) (k : Int32) : OP f n K (fun f => fn_L_send f n x y q e k) (fun f => fn_M_send f (n + 92) x y q e k) := by
  obtain ⟨c, m, P, fe, v0, v1, hC, hM, hok, hfe, hpk⟩ := h
  have e5 : ax_i f n 5 = fe := hC.2.2.2.2.2.1
  obtain ⟨f1, p1, L1, b1, k1, t1, u1, w1⟩ := lg_send hC.1 hC.2.1.1 hok hK (by rw [e5]; exact hfe) x y q e k
  rw [e5] at p1 b1 t1 u1
  have C1 := CS_chg hC L1 b1 k1 t1 (fun z => ⟨u1 z, sp_send_f z⟩) w1
  have M1 := MS_un hM k1 (fun q _ _ => by unfold lg_G; omega)
  have e4 : ax_i f1 (n + 92) 4 = fe := M1.2.2.2.2.1
  obtain ⟨f2, p2, R2, k2, t2, u2, w2⟩ := ma_send M1.1 (by rw [e4]; exact hfe) x y q e k
  rw [e4] at p2 R2 t2 u2
  have M2 := MS_chg M1 R2 k2 t2 (fun z => ⟨u2 z, sp_send_f z⟩) w2
  exact ⟨_, f1, f2, p1, ax_is M1.1.1.1, p2, _, _, P, fe, v0, v1, CS_un C1 k2 (fun q _ _ => by unfold mo_A; omega), M2, sp_send_ok hok hK fe x y q e k, hfe, hpk⟩
theorem op_close {f : pl_H} {n K : Nat} (h : IV f n K) (x : Int32) : OP f n K (fun f => fn_L_close f n x) (fun f => fn_M_close f (n + 92) x) := by
  obtain ⟨c, m, P, fe, v0, v1, hC, hM, hok, hfe, hpk⟩ := h
  obtain ⟨f1, p1, L1, b1, k1, t1, u1, w1⟩ := lg_close hC.1 hC.2.1.1 x
  have C1 := CS_chg hC L1 b1 k1 t1 (fun z => ⟨u1 z, sp_close_f z⟩) w1
  have M1 := MS_un hM k1 (fun q _ _ => by unfold lg_G; omega)
  obtain ⟨f2, p2, R2, k2, t2, u2, w2⟩ := ma_close M1.1 x
  have M2 := MS_chg M1 R2 k2 t2 (fun z => ⟨u2 z, sp_close_f z⟩) w2
  exact ⟨_, f1, f2, p1, ax_is M1.1.1.1, p2, _, _, P, fe, v0, v1, CS_un C1 k2 (fun q _ _ => by unfold mo_A; omega), M2, sp_close_ok hok x, hfe, hpk⟩
theorem mw_lo {n q : Nat} (h : q ≤ n + 91) : ¬ mw_S (n + 92) q := fun z => by
  unfold mw_S mo_NS mx_S mo_H at z
  omega
theorem op_root {f : pl_H} {n K : Nat} (h : IV f n K) (hK : K ≤ 512) (x : Int32) : OP f n K (fun f => fn_L_root f n x) (fun f => fn_M_root f (n + 92) x) := by
  obtain ⟨c, m, P, fe, v0, v1, hC, hM, hok, hfe, hpk⟩ := h
  obtain ⟨f1, p1, L1, t1, o1, k1⟩ := lg_root hC.1 hC.2.1 hC.2.2.1 x
  have C1 := CS_fr hC L1 t1 o1 (pf_R_kp hC.2.2.2.1 k1 (fun q _ _ => by unfold fs_S; omega)) (k1.mono (fun q hq => by unfold fs_S at hq; omega))
  have M1 := MS_un hM k1 (fun q _ _ => by unfold fs_S; omega)
  obtain ⟨f2, p2, R2, T2, w2, z2⟩ := ma_root M1.1 M1.2.1 hok hK M1.2.2.1 x
  have M2 := MS_w M1 R2 T2 w2 (mp_z M1.2.2.2.1 z2 (by unfold mw_K; omega) (mw_nS (by omega) (by omega)) (mw_nS (by omega) (by omega))) z2 (fun k hk => by unfold mw_K at hk; omega)
  exact ⟨_, f1, f2, p1, ax_is M1.1.1.1, p2, c, m, P, fe, v0, v1, CS_m C1 z2 (fun q hq => mw_lo hq), M2, am_ok_mono hok (by omega), hfe, hpk⟩
theorem op_nodes {f : pl_H} {n K : Nat} (h : IV f n K) (x : Int32) : OP f n K (fun f => fn_L_nodes f n x) (fun f => fn_M_nodes f (n + 92) x) := by
  obtain ⟨c, m, P, fe, v0, v1, hC, hM, hok, hfe, hpk⟩ := h
  obtain ⟨f1, p1, L1, t1, o1, k1⟩ := lg_nodes hC.1 hC.2.1 hC.2.2.1 x
  have C1 := CS_fr hC L1 t1 o1 (pf_R_kp hC.2.2.2.1 k1 (fun q _ _ => by unfold fs_S; omega)) (k1.mono (fun q hq => by unfold fs_S at hq; omega))
  have M1 := MS_un hM k1 (fun q _ _ => by unfold fs_S; omega)
  obtain ⟨f2, p2, z2⟩ := ma_nodes M1.1 x
  have M2 := MS_z M1 z2 (fun k hk => hk.elim) (fun q h1 h2 z => by omega)
  exact ⟨_, f1, f2, p1, ax_is M1.1.1.1, p2, c, m, P, fe, v0, v1, CS_m C1 z2 (fun q hq z => by omega), M2, am_ok_mono hok (by omega), hfe, hpk⟩
theorem op_size {f : pl_H} {n K : Nat} (h : IV f n K) (hK : K ≤ 512) : OP f n K (fun f => fn_L_size f n) (fun f => fn_M_size f (n + 92)) := by
  obtain ⟨c, m, P, fe, v0, v1, hC, hM, hok, hfe, hpk⟩ := h
  obtain ⟨f1, p1, L1, t1, o1, k1⟩ := lg_size hC.1 hC.2.1 hC.2.2.1
  have C1 := CS_fr hC L1 t1 o1 (pf_R_kp hC.2.2.2.1 k1 (fun q _ _ => by unfold fs_S; omega)) (k1.mono (fun q hq => by unfold fs_S at hq; omega))
  have M1 := MS_un hM k1 (fun q _ _ => by unfold fs_S; omega)
  obtain ⟨f2, p2, R2, T2, w2, z2⟩ := ma_size M1.1 M1.2.1 hok hK M1.2.2.1
  have M2 := MS_w M1 R2 T2 w2 (mp_z M1.2.2.2.1 z2 (by unfold mw_K; omega) (mw_nS (by omega) (by omega)) (mw_nS (by omega) (by omega))) z2 (fun k hk => by unfold mw_K at hk; omega)
  exact ⟨_, f1, f2, p1, ax_is M1.1.1.1, p2, c, m, P, fe, v0, v1, CS_m C1 z2 (fun q hq => mw_lo hq), M2, am_ok_mono hok (by omega), hfe, hpk⟩
theorem op_prove {f : pl_H} {n K : Nat} (h : IV f n K) (hK : K ≤ 512) (x : Int32) : OP f n K (fun f => fn_L_prove f n x) (fun f => fn_M_prove f (n + 92) x) := by
  obtain ⟨c, m, P, fe, v0, v1, hC, hM, hok, hfe, hpk⟩ := h
  obtain ⟨f1, p1, L1, t1, o1, r1, k1⟩ := lg_prove hC.1 hC.2.1 hC.2.2.1 hC.2.2.2.1 x
  have C1 := CS_fr hC L1 t1 o1 r1 k1
  have M1 := MS_un hM k1 (fun q _ _ z => by omega)
  obtain ⟨f2, p2, R2, T2, w2, r2, z2⟩ := ma_prove M1.1 M1.2.1 hok hK M1.2.2.1 M1.2.2.2.1 x (fun ha => by
    rw [if_pos ha] at r1
    exact r1.2.2.1) (fun ha L hL => by
    rw [if_pos ha] at r1
    obtain ⟨p, hp⟩ := List.getElem?_of_mem hL
    exact (r1.2.2.2 p L hp).1)
  have M2 := MS_w M1 R2 T2 w2 r2 z2 (fun k hk => by unfold mv_K mw_K at hk; omega)
  refine ⟨_, f1, f2, p1, ax_is M1.1.1.1, p2, c, m, _, fe, v0, v1, CS_m C1 z2 (fun q hq z => z.elim (mw_lo hq) (fun y => by omega)), M2, am_ok_mono hok (by omega), hfe, ?_⟩
  by_cases ha : sp_acc x = true
  · rw [if_pos ha]
    exact pk_prove m _
  · rw [if_neg ha]
    exact hpk
theorem op_alter {f : pl_H} {n K : Nat} (h : IV f n K) (x i b : Int32) : OP f n K (fun f => fn_L_alter f n x i b) (fun f => fn_M_alter f (n + 92) x i b) := by
  obtain ⟨c, m, P, fe, v0, v1, hC, hM, hok, hfe, hpk⟩ := h
  obtain ⟨f1, p1, L1, r1, k1⟩ := lg_alter hC.1 hC.2.2.2.1 x i b
  have C1 : CS f1 n c m (sp_alter P x i b).2 fe v0 v1 := CS_fr hC L1 (ts_un hC.2.1 k1 (fun q _ _ => by unfold pf_S; omega)) (fun z => fs_un (hC.2.2.1 (by rw [← xi_c (k1 (n + 9) (by unfold pf_S; omega))]; exact z)) k1 (fun q _ _ => by unfold pf_S; omega)) r1 (k1.mono (fun q hq => by unfold pf_S at hq; omega))
  have M1 := MS_un hM k1 (fun q _ _ => by unfold pf_S; omega)
  obtain ⟨f2, p2, L2, r2, k2⟩ := ma_alter M1.1.1 M1.2.2.2.1 x i b
  have z2 : mz (n + 92) (fun q => q = n + 92 + 13) (fun _ => False) f1 f2 := ⟨L2, k2.mono (fun q hq => Or.inr hq), fun k _ => by unfold ax_v; rw [k2 _ (by omega)]⟩
  have M2 := MS_w M1 (z2.R M1.1 (fun q _ _ z => by omega) (fun z => z)) (mz_T M1.2.1 z2 (by omega) (by omega)) (fun y => ws_z (M1.2.2.1 (by rw [← z2.i (k := 5) (fun z => z)]; exact y)) z2 (fun z => z) (fun q _ _ z => by omega) (by omega) (by omega) (by omega)) r2 z2 (fun k hk => hk.elim)
  exact ⟨_, f1, f2, p1, ax_is M1.1.1.1, p2, c, m, _, fe, v0, v1, CS_m C1 z2 (fun q hq z => by omega), M2, am_ok_mono hok (by omega), hfe, pk_alter hpk x i b⟩
theorem op_shorten {f : pl_H} {n K : Nat} (h : IV f n K) : OP f n K (fun f => fn_L_shorten f n) (fun f => fn_M_shorten f (n + 92)) := by
  obtain ⟨c, m, P, fe, v0, v1, hC, hM, hok, hfe, hpk⟩ := h
  obtain ⟨f1, p1, L1, r1, k1⟩ := lg_shorten hC.1 hC.2.2.2.1
  have C1 : CS f1 n c m (sp_short P).2 fe v0 v1 := CS_fr hC L1 (ts_un hC.2.1 k1 (fun q _ _ => by unfold pf_S; omega)) (fun z => fs_un (hC.2.2.1 (by rw [← xi_c (k1 (n + 9) (by unfold pf_S; omega))]; exact z)) k1 (fun q _ _ => by unfold pf_S; omega)) r1 (k1.mono (fun q hq => by unfold pf_S at hq; omega))
  have M1 := MS_un hM k1 (fun q _ _ => by unfold pf_S; omega)
  obtain ⟨f2, p2, L2, r2, k2, w2⟩ := ma_shorten M1.1.1 M1.2.2.2.1
  have z2 : mz (n + 92) (fun _ => False) (fun k => k = 16) f1 f2 := ⟨L2, k2.mono (fun q hq => Or.inl hq), w2⟩
  have M2 := MS_w M1 (z2.R M1.1 (fun _ _ _ z => z) (by decide)) (mz_T M1.2.1 z2 (fun z => z) (fun z => z)) (fun y => ws_z (M1.2.2.1 (by rw [← z2.i (k := 5) (by decide)]; exact y)) z2 (by decide) (fun _ _ _ z => z) (fun z => z) (fun z => z) (fun z => z)) r2 z2 (fun k hk => by omega)
  exact ⟨_, f1, f2, p1, ax_is M1.1.1.1, p2, c, m, _, fe, v0, v1, CS_m C1 z2 (fun _ _ z => z), M2, am_ok_mono hok (by omega), hfe, pk_short hpk⟩
theorem ck_z (P : List (List Int32)) (x : Nat) : ∀ (t p i d : Nat), (ckr P x t p i d).1 ≠ 1 → (ckr P x t p i d).2 = (0, 0)
  | 0, _, _, _, _ => rfl
  | t + 1, p, i, d, h => by
    cases e : pn (pb P p) x i d with
    | none =>
      rw [ck_n e] at h ⊢
      split <;> rfl
    | some o =>
      obtain ⟨b, it, d'⟩ := o
      cases b with
      | true =>
        rw [ck_t e] at h ⊢
        by_cases c : p + 1 = P.length
        · rw [if_pos c] at h
          exact absurd rfl h
        · rw [if_neg c]
      | false =>
        rw [ck_f e] at h ⊢
        by_cases cb : pb P p it = 160
        · rw [if_pos cb] at h ⊢
          by_cases c2 : p + 1 < P.length ∧ ∀ k, k < 32 → phx P (p + 1) k = nI (pb P p (it + 1 + k))
          · rw [cif_pos c2] at h ⊢
            exact ck_z P x t _ _ _ h
          · rw [cif_neg c2]
        · rw [if_neg cb] at h ⊢
          by_cases c9 : 192 ≤ pb P p it
          · rw [if_pos c9] at h ⊢
            exact ck_z P x t _ _ _ h
          · rw [if_neg c9]
            split <;> rfl
theorem sk_z (P : List (List Int32)) (m : am_M) (x : Int32) (h : (sp_check P m x).1 ≠ 1) : (sp_check P m x).2 = (0, 0) := by
  unfold sp_check at h ⊢
  by_cases ha : sp_acc x = true
  · rw [if_pos ha] at h ⊢
    by_cases c : 0 < P.length ∧ ∀ k, k < 32 → phx P 0 k = sp_hash m k
    · rw [cif_pos c] at h ⊢
      exact ck_z P _ _ _ _ _ h
    · rw [cif_neg c]
  · rw [if_neg ha]
theorem op_check {f : pl_H} {n K : Nat} (h : IV f n K) (hK : K ≤ 512) (x : Int32) : OP f n K (fun f => fn_L_check f n x) (fun f => fn_M_check f (n + 92) x) := by
  obtain ⟨c, m, P, fe, v0, v1, hC, hM, hok, hfe, hpk⟩ := h
  obtain ⟨f1, p1, L1, t1, o1, r1, y1, i1, a1, k1, w1⟩ := lg_check hC.1 hC.2.1 hC.2.2.1 hC.2.2.2.1 hC.2.2.2.2.1 hpk x
  have C1 : CS f1 n c m P fe (sp_check P m x).2.1 (sp_check P m x).2.2 := by
    refine ⟨L1, t1, o1, r1, y1, by rw [ix_v (w1 5 (by decide))]; exact hC.2.2.2.2.2.1, ?_, ?_⟩
    · rw [i1]
      by_cases e : (sp_check P m x).1 = 1
      · rw [if_pos e]
        exact (a1 e).1
      · rw [if_neg e, sk_z P m x e]
    · rw [i1]
      by_cases e : (sp_check P m x).1 = 1
      · rw [if_pos e]
        exact (a1 e).2
      · rw [if_neg e, sk_z P m x e]
  have M1 := MS_un hM k1 (fun q _ _ z => by omega)
  obtain ⟨f2, p2, R2, T2, w2, r2, l19, l20, z2⟩ := ma_check M1.1 M1.2.1 hok hK M1.2.2.1 M1.2.2.2.1 hpk x
  have M2 : MS f2 (n + 92) c m P fe (sp_check P m x).2.1 (sp_check P m x).2.2 := ⟨R2, T2, w2, r2, by rw [z2.i (by unfold rwK mw_K rcK rpK; omega)]; exact M1.2.2.2.2.1, l19, l20⟩
  exact ⟨_, f1, f2, p1, ax_is M1.1.1.1, p2, c, m, P, fe, _, _, CS_m C1 z2 (fun q hq z => z.elim (mw_lo hq) (fun y => by unfold rS mo_H at y; omega)), M2, am_ok_mono hok (by omega), hfe, hpk⟩
/-- a call that changes nothing -/
theorem IV_s {f : pl_H} {n K : Nat} (h : IV f n K) : IV f n (K + 1) := by
  obtain ⟨c, m, P, fe, v0, v1, hC, hM, hok, hfe, hpk⟩ := h
  exact ⟨c, m, P, fe, v0, v1, hC, hM, am_ok_mono hok (by omega), hfe, hpk⟩
theorem IV_is {f : pl_H} {n K : Nat} (h : IV f n K) : pl_is f n 7 = some () ∧ pl_is f (n + 92) 8 = some () := by
  obtain ⟨c, m, P, fe, v0, v1, hC, hM, -⟩ := h
  exact ⟨ax_is hC.1.1, ax_is hM.1.1.1⟩
theorem oq_nonce {f : pl_H} {n K : Nat} (h : IV f n K) (x : Int32) : ∃ r, fn_L_nonce f n x = some r ∧ fn_M_nonce f (n + 92) x = some r := by
  obtain ⟨c, m, P, fe, v0, v1, hC, hM, -⟩ := h
  exact ⟨_, lg_nonce hC.1 hC.2.1.1 x, ma_nonce hM.1 x⟩
theorem oq_balance {f : pl_H} {n K : Nat} (h : IV f n K) (x : Int32) : ∃ r, fn_L_balance f n x = some r ∧ fn_M_balance f (n + 92) x = some r := by
  obtain ⟨c, m, P, fe, v0, v1, hC, hM, -⟩ := h
  exact ⟨_, lg_balance hC.1 hC.2.1.1 x, ma_balance hM.1 x⟩
theorem oq_accounts {f : pl_H} {n K : Nat} (h : IV f n K) : ∃ r, fn_L_accounts f n = some r ∧ fn_M_accounts f (n + 92) = some r := by
  obtain ⟨c, m, P, fe, v0, v1, hC, hM, -⟩ := h
  exact ⟨_, lg_accounts hC.1 hC.2.1.1, ma_accounts hM.1⟩
theorem oq_parts {f : pl_H} {n K : Nat} (h : IV f n K) : ∃ r, fn_L_parts f n = some r ∧ fn_M_parts f (n + 92) = some r := by
  obtain ⟨c, m, P, fe, v0, v1, hC, hM, -⟩ := h
  exact ⟨_, lg_parts hC.1 hC.2.2.2.1, ma_parts hM.1.1 hM.2.2.2.1⟩
theorem oq_length {f : pl_H} {n K : Nat} (h : IV f n K) (x : Int32) : ∃ r, fn_L_length f n x = some r ∧ fn_M_length f (n + 92) x = some r := by
  obtain ⟨c, m, P, fe, v0, v1, hC, hM, -⟩ := h
  exact ⟨_, lg_length hC.1 hC.2.2.2.1 x, ma_length hM.1.1 hM.2.2.2.1 x⟩
theorem oq_part {f : pl_H} {n K : Nat} (h : IV f n K) (x i : Int32) : ∃ r, fn_L_part f n x i = some r ∧ fn_M_part f (n + 92) x i = some r := by
  obtain ⟨c, m, P, fe, v0, v1, hC, hM, -⟩ := h
  exact ⟨_, lg_part hC.1 hC.2.2.2.1 x i, ma_part hM.1.1 hM.2.2.2.1 x i⟩
theorem oq_proven {f : pl_H} {n K : Nat} (h : IV f n K) (x : Int32) : ∃ r, fn_L_proven f n x = some r ∧ fn_M_proven f (n + 92) x = some r := by
  obtain ⟨c, m, P, fe, v0, v1, hC, hM, -⟩ := h
  refine ⟨_, lg_proven hC.1 hC.2.2.2.2.1 x, ?_⟩
  rw [ma_proven hM.1.1, hM.2.2.2.2.2.1, hM.2.2.2.2.2.2, ← hC.2.2.2.2.2.2.1, ← hC.2.2.2.2.2.2.2]
  by_cases c1 : ax_i f n 6 = 1
  · rw [if_pos c1, if_pos c1, if_pos c1]
  · rw [if_neg c1, if_neg c1, if_neg c1]
    split
    · rfl
    · split <;> rfl
