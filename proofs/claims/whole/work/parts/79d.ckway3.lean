/-! check: the class's answer. -/
theorem ck_n {P : List (List Int32)} {x t p i d : Nat} (h : pn (pb P p) x i d = none) : ckr P x (t + 1) p i d = if p + 1 = P.length then (0, 0, 0) else (-1, 0, 0) := by
  simp only [ckr, h]
theorem ck_t {P : List (List Int32)} {x t p i d two d' : Nat} (h : pn (pb P p) x i d = some (true, two, d')) : ckr P x (t + 1) p i d = if p + 1 = P.length then (1, nm_ (pb P p) (ib (pb P p) two + 1), nm_b (pb P p) (ib (pb P p) two + 1)) else (-1, 0, 0) := by
  simp only [ckr, h]
theorem ck_f {P : List (List Int32)} {x t p i d it d' : Nat} (h : pn (pb P p) x i d = some (false, it, d')) : ckr P x (t + 1) p i d = if pb P p it = 160 then cif (p + 1 < P.length ∧ ∀ k, k < 32 → phx P (p + 1) k = nI (pb P p (it + 1 + k))) (ckr P x t (p + 1) 0 d') (-1, 0, 0) else if 192 ≤ pb P p it then ckr P x t p it d' else if p + 1 = P.length then (0, 0, 0) else (-1, 0, 0) := by
  simp only [ckr, h]
theorem wf_34e (k : Nat) (f : pl_H) (a0 : Nat) (x3 x4 : Int32) : fn_W_follow_34 (k + 1) f a0 x3 x4 = if 2020 ≤ x4 then fn_W_follow_75 f a0 x3 else if x3 = 0 then (pl_is f a0 6).bind fun u2 => (fn_W_passNode f a0).bind fun q1 => if q1.1 = -1 then fn_W_follow_34 k q1.2 a0 1 (x4 + 1) else (pl_is q1.2 a0 6).bind fun u4 => (fn_W_goOn q1.2 a0 q1.1).bind fun q3 => fn_W_follow_34 k q3.2 a0 q3.1 (x4 + 1) else fn_W_follow_75 f a0 x3 := rfl
theorem wf_34s (k : Nat) (f : pl_H) (a0 : Nat) {x3 : Int32} (x4 : Int32) (h : x3 ≠ 0) : fn_W_follow_34 (k + 1) f a0 x3 x4 = fn_W_follow_75 f a0 x3 := by
  rw [wf_34e, if_neg h]
  split <;> rfl
theorem wf_75 {f : pl_H} {n p x : Nat} {P : List (List Int32)} (h : wq f n P p x) {v8 : Int32} (h8 : ax_i f (n + 91) 8 = v8) : fn_W_follow_75 f (n + 91) 1 = some (if p + 1 = P.length then (if v8 = 0 then 0 else 1) else -1, f) := by
  have h5 := h.2.1.2.2.1
  have hp := h.2.2.1
  unfold fn_W_follow_75 fn_W_follow_96 fn_W_follow_110
  rw [if_neg (by decide), wy_i h.1 rfl, h.2.2.2.2.1, Option.bind_some, wy_0 h.1, Option.bind_some, ax_is h.2.1.1.1, Option.bind_some, pf_cnt h.2.1, Option.bind_some]
  have e : nI P.length - 1 = nI (P.length - 1) := pk_sub (b := 1) (by omega)
  rw [e]
  by_cases c : p + 1 = P.length
  · rw [if_pos (by rw [show P.length - 1 = p by omega]), if_pos c, wy_i h.1 rfl, h8, Option.bind_some]
    by_cases c2 : v8 = 0
    · rw [if_pos c2, if_pos c2]
    · rw [if_neg c2, if_neg c2]
  · rw [if_neg (fun z => c (by have := (nI_eq (by omega) (by omega)).mp z; omega)), if_neg c]
theorem kh_91 {f f' : pl_H} {n : Nat} (h : kh_L f (n + 5) (n + 6) (n + 7) (n + 8)) (hk : bs_kp (fun q => q = n + 91) f f') : kh_L f' (n + 5) (n + 6) (n + 7) (n + 8) := by
  have e5 := hk (n + 5) (by omega)
  have e6 := hk (n + 6) (by omega)
  have e7 := hk (n + 7) (by omega)
  have e8 := hk (n + 8) (by omega)
  unfold kh_L ax_r ax_v at h ⊢
  rw [e5, e6, e7, e8]
  exact h
theorem wf_34 {n x : Nat} {P : List (List Int32)} (hok : pk_ok P) (hx : x < 65536) : ∀ (t K s p i d : Nat) (f : pl_H), 2020 ≤ t + i + 404 * p → s + t ≤ 2020 → t + 1 < K → i < 404 → d ≤ 4 → wq f n P p x → kh_L f (n + 5) (n + 6) (n + 7) (n + 8) → ax_i f (n + 91) 6 = nI i → ax_i f (n + 91) 7 = nI d → ax_i f (n + 91) 8 = 0 → ∃ f', fn_W_follow_34 K f (n + 91) 0 (nI s) = some ((ckr P x t p i d).1, f') ∧ wy_L f' n ∧ kh_L f' (n + 5) (n + 6) (n + 7) (n + 8) ∧ bs_kp (wS n) f f' ∧ ((ckr P x t p i d).1 = 1 → ax_l f' (n + 91) 9 = (ckr P x t p i d).2.1 ∧ ax_l f' (n + 91) 10 = (ckr P x t p i d).2.2) := by
  intro t
  induction t with
  | zero =>
    intro K s p i d f hM hs hK hi hd h
    have := (wq_len h).2
    omega
  | succ t ih =>
    intro K s p i d f hM hs hK hi hd h hk h6 h7 h8
    obtain ⟨hl, hp5⟩ := wq_len h
    have m1 : 2020 ≤ t + 0 + 404 * (p + 1) := by clear h6 h7 h8; omega
    have m2 : s + 1 + t ≤ 2020 := by clear h6 h7 h8; omega
    obtain ⟨K, rfl⟩ : ∃ k', K = k' + 1 := ⟨K - 1, by omega⟩
    have m3 : t + 1 < K := by clear h6 h7 h8; omega
    obtain ⟨K, rfl⟩ : ∃ k', K = k' + 1 := ⟨K - 1, by omega⟩
    obtain ⟨r, f1, p1, z1, w1⟩ := wp_node h hok hx (by omega) h6 h7 hd h8
    have q1 := wq_z h z1 (fun k hk => by unfold wK at hk; omega)
    have k1 := kh_91 hk z1.2.1
    have c1 : bs_kp (wS n) f f1 := z1.2.1.mono (fun q hq => by unfold wS; omega)
    rw [wf_34e, if_neg (show ¬ 2020 ≤ nI s from fun z => absurd ((bs_le (a := 2020) (by decide) (by omega)).mp z) (by omega)), if_pos rfl, wy_is h.1, Option.bind_some, p1, Option.bind_some]
    rcases w1 with ⟨ho, rfl, w8⟩ | ⟨two, d', ho, rfl, w8, w9, w10⟩ | ⟨it, d', ho, rfl, w8, w7, wd, wi1, wi2⟩
    · rw [if_pos rfl, wf_34s K f1 (n + 91) _ (by decide), wf_75 q1 w8, ck_n ho]
      refine ⟨f1, ?_, z1.1, k1, c1, ?_⟩
      · by_cases c : p + 1 = P.length
        · rw [if_pos c, if_pos c, if_pos rfl]
        · rw [if_neg c, if_neg c]
      · by_cases c : p + 1 = P.length
        · rw [if_pos c]
          intro z
          exact absurd z (by decide)
        · rw [if_neg c]
          intro z
          exact absurd z (by decide)
    · rw [if_pos rfl, wf_34s K f1 (n + 91) _ (by decide), wf_75 q1 w8, ck_t ho]
      refine ⟨f1, ?_, z1.1, k1, c1, ?_⟩
      · by_cases c : p + 1 = P.length
        · rw [if_pos c, if_pos c, if_neg (by decide)]
        · rw [if_neg c, if_neg c]
      · by_cases c : p + 1 = P.length
        · rw [if_pos c]
          exact fun _ => ⟨w9, w10⟩
        · rw [if_neg c]
          intro z
          exact absurd z (by decide)
    · have hne : nI it ≠ -1 := fun z => by
        have := nI_pos (n := it) (by omega)
        rw [z] at this
        exact absurd (by decide) this
      rw [if_neg hne, wy_is z1.1, Option.bind_some, ck_f ho]
      have h61 : ax_i f1 (n + 91) 6 = nI i := (ix_v (z1.2.2 6 (by unfold wK; omega))).trans h6
      unfold fn_W_goOn fn_W_goOn_42
      have hb := (pb_is hok p it).2
      dsimp only
      rw [wy_is z1.1, Option.bind_some, wb_at q1 hok (by omega), Option.bind_some]
      by_cases cb : pb P p it = 160
      · rw [if_pos (by rw [cb]; rfl), if_pos cb, wy_i q1.1 rfl, q1.2.2.2.2.1, Option.bind_some, ax_gR q1.1.1 rfl, q1.2.2.2.2.2.1, Option.bind_some, wy_i q1.1 rfl, q1.2.2.2.2.2.2, Option.bind_some, nI_1, nI_1]
        have hsh := q1.2.1.1.2.2.2.2.2.1 p hp5
        obtain ⟨v, f2, p2, y2, k2, c2, u2, o2⟩ := we_enter (p := p + 1) (a2 := n + 85 + p) (rl := (P.getD p []).length) (N := 404) (hp := it + 1) (R := fun k => nI (pb P p (it + 1 + k))) q1.1 q1.2.1 k1 hsh hl (by decide) (by omega) (by unfold wS; omega) (fun k hk => by
          show nI (pb P p (it + 1 + k)) = _
          by_cases c : it + 1 + k < (P.getD p []).length
          · rw [if_pos c, (q1.2.1.2.2.2 p _ (gd_lt q1.2.2.1)).2.2 _ _ (gd_lt (z := (0 : Int32)) c), (pb_is hok p (it + 1 + k)).1]
          · rw [if_neg c, pb_out (by omega)]
            rfl) (by omega)
        rw [Option.bind_some, p2, Option.bind_some]
        rcases o2 with ⟨rfl, o2⟩ | ⟨rfl, o2, o3, o4, o5, o6⟩
        · rw [if_pos rfl, cif_neg o2, Option.bind_some, wf_34s K f2 (n + 91) _ (show (2 : Int32) ≠ 0 by decide)]
          unfold fn_W_follow_75 fn_W_follow_96
          rw [if_pos rfl]
          exact ⟨f2, rfl, y2, k2, c1.tr c2, fun z => absurd z (by decide)⟩
        · rw [if_neg (show ¬ (1 : Int32) = 0 by decide), cif_pos o2, Option.bind_some, nI_1]
          have P2 : pf_R f2 n P := pf_R_kp q1.2.1 c2 (fun q _ _ => by unfold wS; omega)
          have q2 : wq f2 n P (p + 1) x := ⟨y2, P2, o2.1, (ix_v (u2 2 (by decide) (by decide) (by decide) (by decide))).trans q1.2.2.2.1, o3, o4, o5⟩
          obtain ⟨f', p', a1, a2, a3, a4⟩ := ih (K + 1) (s + 1) (p + 1) 0 d' f2 m1 m2 m3 (by decide) wd q2 k2 o6 ((ix_v (u2 7 (by decide) (by decide) (by decide) (by decide))).trans w7) ((ix_v (u2 8 (by decide) (by decide) (by decide) (by decide))).trans w8)
          exact ⟨f', p', a1, a2, (c1.tr c2).tr a3, a4⟩
      · rw [if_neg (show ¬ nI (pb P p it) = 160 from fun z => cb ((nI_eq (b := 160) (by omega) (by decide)).mp z)), if_neg cb]
        by_cases c9 : 192 ≤ pb P p it
        · have hit : it < 404 := by
            rcases Nat.lt_or_ge it (P.getD p []).length with y | y
            · omega
            · rw [pb_out y] at c9
              omega
          rw [if_pos (show 192 ≤ nI (pb P p it) from (bs_le (a := 192) (by decide) (by omega)).mpr c9), if_pos c9, wy_p q1.1 (by decide), Option.bind_some, Option.bind_some, nI_1]
          have z2 := wz_u (v := .int (nI it)) q1.1 (k := 6) rfl (by decide) (by decide)
          have q2 := wq_z q1 z2 (fun k hk => by omega)
          obtain ⟨f', p', a1, a2, a3, a4⟩ := ih (K + 1) (s + 1) p it d' (ux_f f1 (n + 91) 6 (.int (nI it))) (by omega) (by omega) (by omega) hit wd q2 (kh_91 k1 z2.2.1) (ix_f q1.1.1 (by decide)) ((ix_v (z2.2.2 7 (by decide))).trans w7) ((ix_v (z2.2.2 8 (by decide))).trans w8)
          exact ⟨f', p', a1, a2, (c1.tr (z2.2.1.mono (fun q hq => by unfold wS; omega))).tr a3, a4⟩
        · rw [if_neg (show ¬ 192 ≤ nI (pb P p it) from fun z => c9 ((bs_le (a := 192) (by decide) (by omega)).mp z)), if_neg c9, Option.bind_some, wf_34s K f1 (n + 91) _ (show (1 : Int32) ≠ 0 by decide), wf_75 q1 w8]
          refine ⟨f1, ?_, z1.1, k1, c1, ?_⟩
          · by_cases c : p + 1 = P.length
            · rw [if_pos c, if_pos c, if_pos rfl]
            · rw [if_neg c, if_neg c]
          · by_cases c : p + 1 = P.length
            · rw [if_pos c]
              intro z
              exact absurd z (by decide)
            · rw [if_neg c]
              intro z
              exact absurd z (by decide)
theorem wf_follow {f : pl_H} {n x : Nat} {P : List (List Int32)} {R : Nat → Int32} (hy : wy_L f n) (hP : pf_R f n P) (hk : kh_L f (n + 5) (n + 6) (n + 7) (n + 8)) (hok : pk_ok P) (hx : x < 65536) (hs : ax_sh (f (n + 14)) = (2, 0, [32])) (hR : ∀ k, k < 32 → ax_I f (n + 14) k = R k) : ∃ r f', fn_W_follow f (n + 91) (nI x) (n + 14) = some (r.1, f') ∧ r = cif (0 < P.length ∧ ∀ k, k < 32 → phx P 0 k = R k) (ckr P x 2020 0 0 0) (-1, 0, 0) ∧ wy_L f' n ∧ kh_L f' (n + 5) (n + 6) (n + 7) (n + 8) ∧ bs_kp (wS n) f f' ∧ (r.1 = 1 → ax_l f' (n + 91) 9 = r.2.1 ∧ ax_l f' (n + 91) 10 = r.2.2) := by
  have z1 := wz_u (v := .int (nI x)) hy (k := 2) rfl (by decide) (by decide)
  have z2 := wz_u (v := .int 0) z1.1 (k := 7) rfl (by decide) (by decide)
  have z3 := wz_u (v := .int 0) z2.1 (k := 8) rfl (by decide) (by decide)
  have Z := (z1.2.1.tr z2.2.1).tr z3.2.1
  have c1 := Z.mono (T := wS n) (fun q hq => by unfold wS; omega)
  have e14 := Z (n + 14) (by omega)
  have P1 := pf_R_kp hP Z (fun q _ _ e => by omega)
  have k1 := kh_91 hk Z
  obtain ⟨v, f2, p2, y2, k2, c2, u2, o2⟩ := we_enter (p := 0) (a2 := n + 14) (rl := 32) (N := 32) (hp := 0) (R := R) z3.1 P1 k1 (by rw [e14]; exact hs) (Nat.le_refl _) (by decide) (by decide) (by unfold wS; omega) (fun k hk => by
    rw [if_pos (by omega), Nat.zero_add]
    unfold ax_I
    rw [e14]
    exact (hR k hk).symm) (by decide)
  unfold fn_W_follow
  rw [wy_p hy (by decide), Option.bind_some, wy_p z1.1 (by decide), Option.bind_some, wy_p z2.1 (by decide), Option.bind_some, bs_ln (by rw [e14]; exact hs) (Or.inl rfl) (by decide), Option.bind_some, wy_is z3.1, Option.bind_some]
  rw [show fn_W_enterPart _ (n + 91) 0 (n + 14) (nI 32) 0 = some (v, f2) from p2, Option.bind_some]
  rcases o2 with ⟨rfl, o2⟩ | ⟨rfl, o2, o3, o4, o5, o6⟩
  · rw [if_pos rfl]
    exact ⟨(-1, 0, 0), f2, rfl, (cif_neg o2).symm, y2, k2, c1.tr c2, fun z => absurd z (by decide)⟩
  · rw [if_neg (show ¬ (1 : Int32) = 0 by decide)]
    have P2 : pf_R f2 n P := pf_R_kp P1 c2 (fun q _ _ => by unfold wS; omega)
    have e2 : ax_i f2 (n + 91) 2 = nI x := by
      rw [ix_v (u2 2 (by decide) (by decide) (by decide) (by decide)), ix_v (z3.2.2 2 (by decide)), ix_v (z2.2.2 2 (by decide)), ix_f hy.1 (by decide)]
    have e7 : ax_i f2 (n + 91) 7 = nI 0 := by
      rw [ix_v (u2 7 (by decide) (by decide) (by decide) (by decide)), ix_v (z3.2.2 7 (by decide)), ix_f z1.1.1 (by decide)]
      rfl
    have e8 : ax_i f2 (n + 91) 8 = 0 := by
      rw [ix_v (u2 8 (by decide) (by decide) (by decide) (by decide)), ix_f z2.1.1 (by decide)]
    have q2 : wq f2 n P 0 x := ⟨y2, P2, o2.1, e2, o3, o4, o5⟩
    obtain ⟨f', p', a1, a2, a3, a4⟩ := wf_34 hok hx 2020 pl_N 0 0 0 0 f2 (by decide) (by decide) (by decide) (by decide) (by decide) q2 k2 o6 e7 e8
    exact ⟨ckr P x 2020 0 0 0, f', p', (cif_pos o2).symm, a1, a2, (c1.tr c2).tr a3, a4⟩
theorem lg_check {f : pl_H} {n c : Nat} {m : am_M} {P : List (List Int32)} (hL : lg_L f n) (h : ts f n c m) (ho : ax_i f (n + 9) 8 = 0 → fs f n c m) (hp : pf_R f n P) (hy : wy_L f n) (hok : pk_ok P) (x : Int32) : ∃ f', fn_L_check f n x = some ((sp_check P m x).1, f') ∧ lg_L f' n ∧ ts f' n c m ∧ (ax_i f' (n + 9) 8 = 0 → fs f' n c m) ∧ pf_R f' n P ∧ wy_L f' n ∧ ax_i f' n 6 = (sp_check P m x).1 ∧ ((sp_check P m x).1 = 1 → ax_l f' (n + 91) 9 = (sp_check P m x).2.1 ∧ ax_l f' (n + 91) 10 = (sp_check P m x).2.2) ∧ bs_kp (fun q => q = n ∨ (n + 6 ≤ q ∧ q ≤ n + 82) ∨ q = n + 91) f f' ∧ ∀ k, k ≠ 6 → ax_v f' n k = ax_v f n k := by
  obtain ⟨f1, p1, h1, -, k1⟩ := lg_fresh h ho
  have L1 := lg_S hL k1 h1
  have hp1 := pf_R_kp hp k1 (fun q a b => by unfold fs_S; omega)
  have e91 := k1 (n + 91) (by unfold fs_S; omega)
  have hy1 : wy_L f1 n := by
    unfold wy_L ax_r ax_v
    rw [e91]
    exact hy
  have hT := (fs_L h1)
  have en : f1 n = f n := k1 n (by unfold fs_S; omega)
  have fin : ∀ (g : pl_H) (r : Int32 × Int64 × Int64), fs g n c m → lg_L g n → pf_R g n P → wy_L g n → bs_kp (wS n) f1 g → (r.1 = 1 → ax_l g (n + 91) 9 = r.2.1 ∧ ax_l g (n + 91) 10 = r.2.2) → ∃ f', fn_L_check_34 g n r.1 n = some (r.1, f') ∧ lg_L f' n ∧ ts f' n c m ∧ (ax_i f' (n + 9) 8 = 0 → fs f' n c m) ∧ pf_R f' n P ∧ wy_L f' n ∧ ax_i f' n 6 = r.1 ∧ (r.1 = 1 → ax_l f' (n + 91) 9 = r.2.1 ∧ ax_l f' (n + 91) 10 = r.2.2) ∧ bs_kp (fun q => q = n ∨ (n + 6 ≤ q ∧ q ≤ n + 82) ∨ q = n + 91) f f' ∧ ∀ k, k ≠ 6 → ax_v f' n k = ax_v f n k := by
    intro g r hg Lg Pg Wg kg hr
    have kn : bs_kp (fun q => q = n) g (ux_f g n 6 (.int r.1)) := bs_kp.f rfl
    have i6 : ax_i (ux_f g n 6 (.int r.1)) n 6 = r.1 := ix_f Lg.1 (by decide)
    have L2 : lg_L (ux_f g n 6 (.int r.1)) n := by
      have hs := sx_f (v := .int r.1) Lg.1 (k := 6) rfl
      obtain ⟨a0, a1, a2, a3, a4, a5, a6⟩ := Lg
      have er : ∀ k, k ≠ 6 → ax_r (ux_f g n 6 (.int r.1)) n k = ax_r g n k := fun k hk => ar_v (rx_v_fne (Or.inr hk))
      exact ⟨by rw [hs]; exact a0, by rw [er 0 (by decide)]; exact a1, by rw [er 1 (by decide)]; exact a2, by rw [er 2 (by decide)]; exact a3, by rw [er 3 (by decide)]; exact a4, by rw [er 4 (by decide)]; exact a5, by rw [hs]; exact a6⟩
    have h2 := fs_un hg kn (fun q _ _ z => by omega)
    have e2 : (ux_f g n 6 (.int r.1)) (n + 91) = g (n + 91) := kn _ (by omega)
    refine ⟨_, ?_, L2, fs_L h2, fun _ => h2, pf_R_kp Pg kn (fun q _ _ z => by omega), ?_, i6, fun z => ?_, ((k1.mono (fun q hq => by unfold fs_S at hq; omega)).tr (kg.mono (fun q hq => by unfold wS at hq; omega))).tr (kn.mono (fun q hq => by omega)), fun k hk => ?_⟩
    · unfold fn_L_check_34
      rw [ax_pV Lg.1 (by decide), Option.bind_some, ax_gI L2.1 rfl, i6, Option.bind_some]
    · unfold wy_L ax_r ax_v
      rw [e2]
      exact Wg
    · obtain ⟨z1, z2⟩ := hr z
      unfold ax_l ax_v at z1 z2 ⊢
      rw [e2]
      exact ⟨z1, z2⟩
    · rw [rx_v_fne (Or.inr hk)]
      unfold ax_v
      rw [kg n (by unfold wS; omega), en]
  unfold fn_L_check sp_check
  rw [lg_2 hL, Option.bind_some, ax_is h.2.2.1.1, Option.bind_some, p1, Option.bind_some, lg_isA, Option.bind_some]
  by_cases ha : sp_acc x = true
  · simp only [if_pos ha]
    rw [if_neg (show ¬ (1 : Int32) = 0 by decide)]
    obtain ⟨y, hyx, rfl⟩ := sp_acc_n ha
    rw [bs_cl (by omega)]
    have hroot : ∀ k, k < 32 → ax_I f1 (n + 14) k = sp_hash m k := by
      obtain ⟨W, T, -, -, -, -, -, -, hr⟩ := h1
      exact hr
    obtain ⟨r, f2, p2, er, y2, k2, c2, a2⟩ := wf_follow hy1 hp1 hT.2.1 hok hyx hT.2.2.1.2.2.2.2.2.1 hroot
    have h2 : fs f2 n c m := by
      obtain ⟨W, T, w, h7, hC, hl, hRR, hc, hr⟩ := h1
      have e9 := c2 (n + 9) (by unfold wS; omega)
      have hTT := w.2.2.2.2.2
      refine ⟨W, T, ⟨bk_R_kp w.1 c2 (fun q _ _ => by unfold wS; omega), k2, tr_kp w.2.2.1 c2 (fun q _ _ _ _ => by unfold wS; omega), cd_R_kp w.2.2.2.1 c2 (by unfold wS; omega) (by unfold wS; omega), ?_, w.2.2.2.2.2⟩, ?_, nd_C_kp hC ⟨?_, ?_⟩ (Nat.le_refl _) (fun _ _ hx => hx), hl, ?_, fun kd hkd => ?_, fun q hq => ?_⟩
      · unfold ax_i ax_v
        rw [e9]
        exact w.2.2.2.2.1
      · unfold ax_r ax_v
        rw [e9]
        exact h7
      · unfold ax_i ax_v
        rw [c2 _ (by unfold wS; omega)]
      · unfold ax_i ax_v
        rw [c2 _ (by unfold wS; omega)]
      · rcases hRR with ⟨a, b⟩ | ⟨a, b⟩
        · refine Or.inl ⟨a, ?_⟩
          unfold ax_i ax_v
          rw [c2 _ (by unfold wS; omega)]
          exact b
        · exact Or.inr ⟨a, nd_R_kp (lo0 := 0) (fun q a b => c2 q (by unfold wS; omega)) (Nat.le_refl _) (fun _ _ hx => hx) (Nat.le_refl _) 6 0 0 0 _ _ (Nat.le_refl _) (Nat.le_refl _) b⟩
      · unfold ax_I
        rw [c2 _ (by unfold wS; omega)]
        exact hc kd hkd
      · unfold ax_I
        rw [c2 _ (by unfold wS; omega)]
        exact hr q hq
    obtain ⟨f3, p3, rest⟩ := fin f2 r h2 (lg_un L1 c2 (fun q hq => by unfold wS; omega)) (pf_R_kp hp1 c2 (fun q _ _ => by unfold wS; omega)) y2 c2 a2
    rw [← er]
    refine ⟨f3, ?_, rest⟩
    unfold fn_T_rootRow
    rw [lg_4 L1, Option.bind_some, lg_2 L1, Option.bind_some, ax_is hT.2.2.1.1, Option.bind_some, tg_5 hT.2.2.1, Option.bind_some, Option.bind_some, wy_is hy1, Option.bind_some, p2, Option.bind_some]
    exact p3
  · simp only [if_neg ha]
    rw [if_pos trivial]
    exact fin f1 (-1, 0, 0) h1 L1 hp1 hy1 bs_kp.rf (fun z => absurd z (by decide))
theorem lg_proven {f : pl_H} {n : Nat} (hL : lg_L f n) (hy : wy_L f n) (x : Int32) : fn_L_proven f n x = some (if ax_i f n 6 = 1 then (if x = 0 then ax_l f (n + 91) 9 else if x = 1 then ax_l f (n + 91) 10 else 0) else 0) := by
  unfold fn_L_proven fn_L_proven_38 fn_W_foundNonce fn_W_foundBalance
  rw [ax_gI hL.1 rfl, Option.bind_some]
  by_cases c : ax_i f n 6 = 1
  · rw [if_pos c, if_pos c]
    by_cases c0 : x = 0
    · rw [if_pos c0, if_pos c0, lg_4 hL, Option.bind_some, wy_is hy, Option.bind_some, ax_gL hy.1 rfl, Option.bind_some, Option.bind_some]
    · rw [if_neg c0, if_neg c0]
      by_cases c1 : x = 1
      · rw [if_pos c1, if_pos c1, lg_4 hL, Option.bind_some, wy_is hy, Option.bind_some, ax_gL hy.1 rfl, Option.bind_some, Option.bind_some]
      · rw [if_neg c1, if_neg c1]
  · rw [if_neg c, if_neg c]
