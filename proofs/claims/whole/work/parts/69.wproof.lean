/-! writeProof and prove of the class. -/
theorem gw_un {f f' : pl_H} {n c T : Nat} {m : am_M} {W : List Int32} {S : Nat → Prop} (h : gw f n c m W T) (hk : bs_kp S f f') (hS : ∀ q, n + 1 ≤ q → q ≤ n + 82 → ¬ S q) : gw f' n c m W T := by
  obtain ⟨h1, h2, h3, h4, h5, h6⟩ := h
  refine ⟨bk_R_kp h1 hk (fun q a b => hS q (by omega) (by omega)), ?_, tr_kp h3 hk (fun q a b _ _ => hS q (by omega) (by omega)), cd_R_kp h4 hk (hS _ (by omega) (by omega)) (hS _ (by omega) (by omega)), ?_, h6⟩
  · have e5 := hk (n + 5) (hS _ (by omega) (by omega))
    have e6 := hk (n + 6) (hS _ (by omega) (by omega))
    have e7 := hk (n + 7) (hS _ (by omega) (by omega))
    have e8 := hk (n + 8) (hS _ (by omega) (by omega))
    unfold kh_L ax_r ax_v at h2 ⊢
    rw [e5, e6, e7, e8]
    exact h2
  · unfold ax_i ax_v
    rw [hk (n + 9) (hS _ (by omega) (by omega))]
    exact h5
theorem fs_un {f f' : pl_H} {n c : Nat} {m : am_M} {S : Nat → Prop} (h : fs f n c m) (hk : bs_kp S f f') (hS : ∀ q, n + 1 ≤ q → q ≤ n + 82 → ¬ S q) : fs f' n c m := by
  obtain ⟨W, T, w, h7, hC, hl, hR, hc, hr⟩ := h
  have hT := w.2.2.2.2.2
  have e15 := hk (n + 15) (hS _ (by omega) (by omega))
  refine ⟨W, T, gw_un w hk hS, ?_, nd_C_kp hC ⟨?_, ?_⟩ (Nat.le_refl _) (fun _ _ hx => hx), hl, ?_, fun kd hkd => ?_, fun q hq => ?_⟩
  · unfold ax_r ax_v
    rw [hk (n + 9) (hS _ (by omega) (by omega))]
    exact h7
  · unfold ax_i ax_v
    rw [hk _ (hS _ (by omega) (by omega))]
  · unfold ax_i ax_v
    rw [hk _ (hS _ (by omega) (by omega))]
  · rcases hR with ⟨a, b⟩ | ⟨a, b⟩
    · refine Or.inl ⟨a, ?_⟩
      unfold ax_i ax_v
      rw [e15]
      exact b
    · exact Or.inr ⟨a, nd_R_kp (lo0 := 0) (fun q a b => hk q (hS q (by omega) (by omega))) (Nat.le_refl _) (fun _ _ hx => hx) (Nat.le_refl _) 6 0 0 0 _ _ (Nat.le_refl _) (Nat.le_refl _) b⟩
  · unfold ax_I
    rw [hk _ (hS _ (by omega) (by omega))]
    exact hc kd hkd
  · unfold ax_I
    rw [hk _ (hS _ (by omega) (by omega))]
    exact hr q hq
theorem gs_to_st {G : Nat → Prop} (h : gs_st G 0) : gs_st G (gs_to G) := by
  unfold gs_to
  by_cases h4 : gs_st G 4
  · rw [cif_pos h4]; exact h4
  · rw [cif_neg h4]
    by_cases h3 : gs_st G 3
    · rw [cif_pos h3]; exact h3
    · rw [cif_neg h3]
      by_cases h2 : gs_st G 2
      · rw [cif_pos h2]; exact h2
      · rw [cif_neg h2]
        by_cases h1 : gs_st G 1
        · rw [cif_pos h1]; exact h1
        · rw [cif_neg h1]; exact h
theorem wp_41n (k : Nat) (f : pl_H) (a0 : Nat) (x1 : Int32) (a2 : Nat) (x4 : Int32) : fn_T_writeProof_41 (k + 1) f a0 x1 a2 none x4 = some f := by
  show (if 4 < x4 then some f else some f) = some f
  split <;> rfl
theorem wp_41e (k : Nat) (f : pl_H) (a0 : Nat) (x1 : Int32) (a2 a1 : Nat) (x4 : Int32) : fn_T_writeProof_41 (k + 1) f a0 x1 a2 (some a1) x4 = if 4 < x4 then some f else (fn_T_isHashed f a1).bind fun v2 => if v2 = 0 then fn_T_writeProof_77 (fn_T_writeProof_41 k) f a0 x1 a2 (some a1) x4 else (pl_gR f a0 5 2).bind fun v3 => (pl_is f v3 1).bind fun u5 => (fn_C_bytes f v3).bind fun v4 => (pl_gI f a1 3 5).bind fun v6 => (pl_gI f a1 3 6).bind fun v7 => (pl_is f a2 4).bind fun u9 => (fn_P_add f a2 v4 v6 v7).bind fun q8 => fn_T_writeProof_77 (fn_T_writeProof_41 k) q8 a0 x1 a2 (some a1) x4 := rfl
theorem ih_s {f : pl_H} {n i : Nat} {C : List Int32} (hN : nd_L f n i) (h : ax_i f (n + 15 + 2 * i) 6 = nI C.length) (hC : C.length ≤ 404) : fn_T_isHashed f (n + 15 + 2 * i) = some (if C.length < 32 then 0 else 1) := by
  unfold fn_T_isHashed fn_T_isHashed_14
  rw [nd_g hN (by decide), h, Option.bind_some]
  by_cases z : C.length < 32
  · rw [if_pos z, if_pos (show nI C.length < 32 from (bs_lt (b := 32) (by omega) (by decide)).mpr z)]
    rfl
  · rw [if_neg z, if_neg (show ¬ nI C.length < 32 from fun q => z ((bs_lt (b := 32) (by omega) (by decide)).mp q))]
    rfl
/-- a node's code is added to the proof -/
theorem wp_add {f : pl_H} {n c T i : Nat} {m : am_M} {W C : List Int32} {P : List (List Int32)} (w : gw f n c m W T) (hi : i < 34) (hC : nd_C f n i W C) (hl : C.length ≤ 404) (hP : pf_R f n P) (h5 : P.length < 5) (cont : pl_H → Option pl_H) : ∃ f', ((pl_gR f (n + 9) 5 2).bind fun v3 => (pl_is f v3 1).bind fun u5 => (fn_C_bytes f v3).bind fun v4 => (pl_gI f (n + 15 + 2 * i) 3 5).bind fun v6 => (pl_gI f (n + 15 + 2 * i) 3 6).bind fun v7 => (pl_is f (n + 83) 4).bind fun u9 => (fn_P_add f (n + 83) v4 v6 v7).bind fun q8 => cont q8) = cont f' ∧ pf_R f' n (P ++ [C]) ∧ bs_kp (pf_S n) f f' := by
  obtain ⟨b, b1, b2, b3, b4⟩ := hC
  have hN := w.2.2.1.2.2.2.2.2.2 i hi
  have hcd := w.2.2.2.1
  have hcap := hcd.2.2.1
  obtain ⟨f', p, r, k⟩ := pf_add (a1 := n + 11) (b := b) hP h5 hl hcd.1.2.2 (by omega) (fun j x hx => hcd.2.2.2 _ _ (b4 j x hx)) (by unfold pf_S; omega)
  refine ⟨f', ?_, r, k⟩
  rw [tg_2 w.2.2.1, Option.bind_some, cd_is hcd, Option.bind_some]
  unfold fn_C_bytes
  rw [cd_0 hcd.1, Option.bind_some, Option.bind_some, nd_g hN (by decide), b1, Option.bind_some, nd_g hN (by decide), b2, Option.bind_some, ax_is hP.1.1, Option.bind_some]
  rw [show fn_P_add f (n + 83) (n + 10 + 1) (nI b) (nI C.length) = some f' from p, Option.bind_some]
theorem wp_41 {n c T x lo : Nat} {m : am_M} {W : List Int32} (hx : x < 65536) : ∀ (j K e i d : Nat) (G : Nat → Prop) (P : List (List Int32)) (f : pl_H), d ≤ 4 → e ≤ d → P.length ≤ e → j + 1 < K → gw f n c m W T → pf_R f n P → nd_R m f n W T j lo i G d → (∀ y, G y → ag x y d) → (∀ y, G y → y < 65536) → ∃ f', fn_T_writeProof_41 K f (n + 9) (nI x) (n + 83) (some (n + 15 + 2 * i)) (nI e) = some f' ∧ pf_R f' n (P ++ (pv_p m G d ++ pv_n m x j G d)) ∧ bs_kp (pf_S n) f f' := by
  intro j
  induction j with
  | zero => intro K e i d G P f _ _ _ _ _ _ h; exact h.elim
  | succ j ih =>
    intro K e i d G P f hd he hP hK w hpf h hag hG
    obtain ⟨K, rfl⟩ : ∃ k', K = k' + 1 := ⟨K - 1, by omega⟩
    have hT := w.2.2.2.2.2
    have h' := h
    obtain ⟨a1, a2, a3, a4, a5, -⟩ := h'
    have hN := w.2.2.1.2.2.2.2.2.2 i (by omega)
    have h6 : ax_i f (n + 15 + 2 * i) 6 = nI (sc m G d).length := by
      obtain ⟨b, -, b2, -⟩ := a3
      exact b2
    have key : ∀ (P' : List (List Int32)) (f1 : pl_H), bs_kp (pf_S n) f f1 → pf_R f1 n P' → P'.length ≤ e + 1 → ∃ f', fn_T_writeProof_77 (fn_T_writeProof_41 K) f1 (n + 9) (nI x) (n + 83) (some (n + 15 + 2 * i)) (nI e) = some f' ∧ pf_R f' n (P' ++ pv_n m x (j + 1) G d) ∧ bs_kp (pf_S n) f1 f' := by
      intro P' f1 k1 r1 l1
      have hS : ∀ q, n + 1 ≤ q → q ≤ n + 82 → ¬ pf_S n q := fun q a b => by unfold pf_S; omega
      have w1 := gw_un w k1 hS
      have n1 : nd_R m f1 n W T (j + 1) lo i G d := nd_R_kp (lo0 := 0) (fun q a b => k1 q (hS q (by omega) (by omega))) (Nat.le_refl _) (fun _ _ hx => hx) (Nat.le_refl _) (j + 1) lo lo i G d (Nat.zero_le _) (Nat.le_refl _) h
      obtain ⟨r, p, q⟩ := nx_R hT w1.2.2.1 n1 hx hd (gs_to_st (fun y z hy hz => ag_0 (hG y hy) (hG z hz))) hag
      unfold fn_T_writeProof_77
      rw [Option.bind_some, ax_is (w1.2.2.1.2.2.2.2.2.2 i (by omega)).1, Option.bind_some, p, Option.bind_some, show nI e + 1 = nI (e + 1) from nI_add e 1]
      rcases q with ⟨rfl, q⟩ | ⟨i', G', d', rfl, c1, c2, c3, c4, -, c6, c7⟩
      · obtain ⟨K, rfl⟩ : ∃ k', K = k' + 1 := ⟨K - 1, by omega⟩
        rw [wp_41n, q, List.append_nil]
        exact ⟨f1, rfl, r1, bs_kp.rf⟩
      · rw [c7]
        exact ih K (e + 1) i' d' G' P' f1 c2 (by omega) l1 (by omega) w1 r1 c3 c4 (fun y hy => hG y (c6 y hy))
    rw [wp_41e, if_neg (show ¬ 4 < nI e from fun z => absurd ((bs_lt (a := 4) (by decide) (by omega)).mp z) (by omega)), ih_s hN h6 a5, Option.bind_some]
    unfold pv_p
    by_cases z : (sc m G d).length < 32
    · rw [if_pos z, if_pos rfl, if_pos z, List.nil_append]
      exact key P f bs_kp.rf hpf (by omega)
    · rw [if_neg z, if_neg (by decide), if_neg z]
      obtain ⟨f1, p1, r1, k1⟩ := wp_add w (show i < 34 by omega) a3 a5 hpf (by omega) (fun q8 => fn_T_writeProof_77 (fn_T_writeProof_41 K) q8 (n + 9) (nI x) (n + 83) (some (n + 15 + 2 * i)) (nI e))
      obtain ⟨f', p2, r2, k2⟩ := key _ f1 k1 r1 (by rw [List.length_append]; show P.length + 1 ≤ e + 1; omega)
      refine ⟨f', p1.trans p2, ?_, k1.tr k2⟩
      rw [← List.append_assoc]
      exact r2
noncomputable def sp_prove (m : am_M) (x : Nat) : List (List Int32) := tp m :: cif (∃ y, ga m y) (pv_n m x 6 (ga m) 0) []
theorem tr_wp {f : pl_H} {n c x : Nat} {m : am_M} (h : fs f n c m) (hp : pf_L f n) (hx : x < 65536) : ∃ f', fn_T_writeProof f (n + 9) (nI x) (n + 83) = some f' ∧ pf_R f' n (sp_prove m x) ∧ bs_kp (pf_S n) f f' := by
  have hS : ∀ q, n + 1 ≤ q → q ≤ n + 82 → ¬ pf_S n q := fun q a b => by unfold pf_S; omega
  obtain ⟨f1, p1, r1, k1⟩ := pf_clear hp
  have h1 := fs_un h k1 hS
  obtain ⟨W, T, w1, t1, c1, l1, R1, -, -⟩ := h1
  obtain ⟨f2, p2, r2, k2⟩ := wp_add w1 (show 0 < 34 by decide) c1 l1 r1 (by decide) (fun q10 => (pl_gR q10 (n + 9) 5 7).bind fun v12 => (pl_is q10 v12 3).bind fun u14 => (fn_N_next q10 v12 (nI x)).bind fun v13 => fn_T_writeProof_41 pl_N q10 (n + 9) (nI x) (n + 83) v13 1)
  have w2 := gw_un w1 k2 hS
  have t2 : ax_r f2 (n + 9) 7 = some (n + 15) := by
    unfold ax_r ax_v
    rw [k2 _ (hS _ (by omega) (by omega))]
    exact t1
  have e15 : f2 (n + 15) = f1 (n + 15) := k2 _ (hS _ (by omega) (by omega))
  have hN := w2.2.2.1.2.2.2.2.2.2 0 (by decide)
  have front : fn_T_writeProof f (n + 9) (nI x) (n + 83) = (fn_N_next f2 (n + 15) (nI x)).bind fun v13 => fn_T_writeProof_41 pl_N f2 (n + 9) (nI x) (n + 83) v13 1 := by
    unfold fn_T_writeProof
    rw [ax_is hp.1, Option.bind_some, p1, Option.bind_some, tg_7 w1.2.2.1, t1]
    simp only [Option.bind_some]
    rw [show n + 15 = n + 15 + 2 * 0 from rfl, p2, tg_7 w2.2.2.1, t2, Option.bind_some, show pl_is f2 (n + 15) 3 = some () from ax_is hN.1, Option.bind_some]
  rw [front]
  unfold sp_prove
  rcases R1 with ⟨z0, z1⟩ | ⟨z0, z1⟩
  · have hex : ¬ ∃ y, ga m y := fun z => absurd ((ga_0 w1.1).mp z) (by omega)
    have hk : ax_i f2 (n + 15) 1 = 3 := by
      unfold ax_i ax_v
      rw [e15]
      exact z1
    have hnx : fn_N_next f2 (n + 15) (nI x) = some none := by
      unfold fn_N_next fn_N_next_47 fn_N_next_48
      have g1 : pl_gI f2 (n + 15) 3 1 = some 3 := (nd_g hN (by decide)).trans (congrArg some hk)
      simp only [g1, Option.bind_some]
      rfl
    rw [hnx, Option.bind_some, cif_neg hex, show pl_N = 99999 + 1 from rfl, wp_41n]
    exact ⟨f2, rfl, r2, k1.tr k2⟩
  · have hex : ∃ y, ga m y := (ga_0 w1.1).mpr z0
    have n2 : nd_R m f2 n W T 6 0 0 (ga m) 0 := nd_R_kp (lo0 := 0) (fun q a b => k2 q (hS q (by omega) (by have := w1.2.2.2.2.2; omega))) (Nat.le_refl _) (fun _ _ hx => hx) (Nat.le_refl _) 6 0 0 0 _ _ (Nat.le_refl _) (Nat.le_refl _) z1
    obtain ⟨r, p, q⟩ := nx_R w2.2.2.2.2.2 w2.2.2.1 n2 hx (by decide) (gs_to_st (ga_st m)) (fun y hy => ag_0 hx hy.1)
    rw [show n + 15 = n + 15 + 2 * 0 from rfl, p, Option.bind_some, cif_pos hex]
    rcases q with ⟨rfl, q⟩ | ⟨i', G', d', rfl, c1, c2, c3, c4, -, c6, c7⟩
    · rw [q, show pl_N = 99999 + 1 from rfl, wp_41n]
      exact ⟨f2, rfl, r2, k1.tr k2⟩
    · rw [c7]
      obtain ⟨f3, p3, r3, k3⟩ := wp_41 hx 5 pl_N 1 i' d' G' ([] ++ [tp m]) f2 c2 (by omega) (Nat.le_refl _) (by decide) w2 r2 c3 c4 (fun y hy => (c6 y hy).1)
      exact ⟨f3, p3, r3, (k1.tr k2).tr k3⟩
theorem lg_3 {f : pl_H} {n : Nat} (h : lg_L f n) : pl_gR f n 7 3 = some (n + 83) := (ax_gR h.1 rfl).trans h.2.2.2.2.1
theorem lg_4 {f : pl_H} {n : Nat} (h : lg_L f n) : pl_gR f n 7 4 = some (n + 91) := (ax_gR h.1 rfl).trans h.2.2.2.2.2.1
theorem lg_un {f f' : pl_H} {n : Nat} {S : Nat → Prop} (h : lg_L f n) (hk : bs_kp S f f') (hS : ∀ q, q = n ∨ q = n + 9 → ¬ S q) : lg_L f' n := by
  obtain ⟨a0, a1, a2, a3, a4, a5, a6⟩ := h
  have e0 := hk n (hS _ (Or.inl rfl))
  have er : ∀ k, ax_r f' n k = ax_r f n k := fun k => by unfold ax_r ax_v; rw [e0]
  exact ⟨by rw [e0]; exact a0, by rw [er]; exact a1, by rw [er]; exact a2, by rw [er]; exact a3, by rw [er]; exact a4, by rw [er]; exact a5, by rw [hk _ (hS _ (Or.inr rfl))]; exact a6⟩
theorem pf_cnt {f : pl_H} {n : Nat} {P : List (List Int32)} (h : pf_R f n P) : fn_P_count f (n + 83) = some (nI P.length) := by
  unfold fn_P_count
  rw [pf_2 h.1, h.2.1, Option.bind_some]
theorem lg_prove {f : pl_H} {n c : Nat} {m : am_M} {P : List (List Int32)} (hL : lg_L f n) (h : ts f n c m) (ho : ax_i f (n + 9) 8 = 0 → fs f n c m) (hp : pf_R f n P) (x : Int32) : ∃ f', fn_L_prove f n x = some (if sp_acc x = true then nI (sp_prove m x.toNatClampNeg).length else -1, f') ∧ lg_L f' n ∧ ts f' n c m ∧ (ax_i f' (n + 9) 8 = 0 → fs f' n c m) ∧ pf_R f' n (if sp_acc x = true then sp_prove m x.toNatClampNeg else P) ∧ bs_kp (fun q => n + 6 ≤ q ∧ q ≤ n + 90) f f' := by
  unfold fn_L_prove
  rw [lg_isA, Option.bind_some]
  by_cases ha : sp_acc x = true
  · simp only [if_pos ha]
    rw [if_neg (show ¬ (1 : Int32) = 0 by decide)]
    obtain ⟨y, hy, rfl⟩ := sp_acc_n ha
    obtain ⟨f1, p1, h1, -, k1⟩ := lg_fresh h ho
    have L1 := lg_S hL k1 h1
    have hp1 : pf_L f1 n := pf_kp hp.1 k1 (fun q a b => by unfold fs_S; omega)
    obtain ⟨f2, p2, r2, k2⟩ := tr_wp h1 hp1 hy
    have h2 := fs_un h1 k2 (fun q a b => by unfold pf_S; omega)
    have L2 := lg_un L1 k2 (fun q a => by unfold pf_S; omega)
    rw [bs_cl (by omega)]
    refine ⟨f2, ?_, L2, fs_L h2, fun _ => h2, r2, (k1.mono (fun q hq => by unfold fs_S at hq; omega)).tr (k2.mono (fun q hq => by unfold pf_S at hq; omega))⟩
    rw [lg_2 hL, Option.bind_some, ax_is h.2.2.1.1, Option.bind_some, p1, Option.bind_some, lg_2 L1, Option.bind_some, lg_3 L1, Option.bind_some, ax_is (fs_L h1).2.2.1.1, Option.bind_some, p2, Option.bind_some, lg_3 L2, Option.bind_some, ax_is r2.1.1, Option.bind_some, pf_cnt r2, Option.bind_some]
  · simp only [if_neg ha]
    rw [if_pos trivial]
    exact ⟨f, rfl, hL, h, ho, hp, bs_kp.rf⟩
