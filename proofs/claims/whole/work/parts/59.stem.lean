/-! growStem. -/
def gr_pre (f : pl_H) (n c : Nat) (m : am_M) (W : List Int32) (T a b d D : Nat) (G : Nat → Prop) : Prop := gw f n c m W T ∧ a < b ∧ b ≤ c ∧ d ≤ 4 ∧ 5 ≤ d + D ∧ gr_G f n a b G ∧ gs_st G d ∧ T + 3 * (b - a) ≤ 37 ∧ ((gs_one G ∨ 4 ≤ d) ∨ d < gs_to G → T + 3 * (b - a) ≤ 36) ∧ W.length + 147 * (b - a) ≤ 1900
def gr_post (r : Option (Nat × pl_H)) (f : pl_H) (n c : Nat) (m : am_M) (W : List Int32) (T k d D : Nat) (G : Nat → Prop) : Prop := ∃ (f' : pl_H) (X : List Int32) (T' : Nat), r = some (n + 15 + 2 * T, f') ∧ gw f' n c m (W ++ X) T' ∧ fr n T f f' ∧ T < T' ∧ T' + 2 ≤ T + 3 * k ∧ X.length + 122 ≤ 147 * k ∧ (¬ (gs_one G ∨ 4 ≤ d) → ¬ d < gs_to G → T' + 3 ≤ T + 3 * k ∧ X.length + 160 ≤ 147 * k) ∧ nd_R m f' n (W ++ X) T' D T T G d ∧ ∀ kd, kd < 4 → ax_I f' (n + 13) kd = ax_I f (n + 13) kd + nI (nc kd G d)
def gr_does (gr : pl_H → Nat → Int32 → Int32 → Int32 → Option (Nat × pl_H)) (D : Nat) : Prop := ∀ (f : pl_H) (n c : Nat) (m : am_M) (W : List Int32) (T a b d : Nat) (G : Nat → Prop), gr_pre f n c m W T a b d D G → gr_post (gr f (n + 9) (nI a) (nI b) (nI d)) f n c m W T (b - a) d D G
theorem ap_pre {W X : List Int32} {j : Nat} {x : Int32} (h : W[j]? = some x) : (W ++ X)[j]? = some x := by
  have hj : j < W.length := by
    rcases Nat.lt_or_ge j W.length with z | z
    · exact z
    · rw [List.getElem?_eq_none z] at h
      cases h
  rw [List.getElem?_append_left hj]
  exact h
theorem nd_R_C {m : am_M} {f : pl_H} {n T : Nat} {W : List Int32} {j lo i : Nat} {G : Nat → Prop} {d : Nat} (h : nd_R m f n W T j lo i G d) : nd_C f n i W (sc m G d) ∧ lo ≤ i ∧ i < T := by
  cases j with
  | zero => exact h.elim
  | succ j => exact ⟨h.2.2.1, h.1, h.2.1⟩
set_option maxHeartbeats 4000000 in
theorem gw_stem {gr : pl_H → Nat → Int32 → Int32 → Int32 → Option (Nat × pl_H)} {D : Nat} (ok : gr_does gr D) {f : pl_H} {n c : Nat} {m : am_M} {W : List Int32} {T a b d : Nat} {G : Nat → Prop} (h : gr_pre f n c m W T a b d (D + 1) G) (h1 : ¬ (gs_one G ∨ 4 ≤ d)) (h2 : d < gs_to G) : gr_post (fn_T_growStem gr f (n + 9) (nI a) (nI b) (nI d) (nI (gs_to G))) f n c m W T (b - a) d (D + 1) G := by
  obtain ⟨hw, hab, hbc, hd, hD, hG, hst, hT1, hT2, hWl⟩ := h
  have hT2 := hT2 (Or.inr h2)
  have hb := hw.1
  have hx := nu_is hb (show a < c by omega)
  obtain ⟨-, -, hst'⟩ := gr_to hb hab hbc hG hd hst
  have hto := gs_to_le G
  have hk2 : 2 ≤ b - a := by
    have : ¬ b - a = 1 := fun z => h1 (Or.inl ((gr_one hb hab hbc hG).mpr z))
    omega
  have ht4 : gs_to G < 4 := by
    rcases Nat.lt_or_ge (gs_to G) 4 with z | z
    · exact z
    · have e : gs_to G = 4 := by omega
      rw [e] at hst'
      have := gr_st4 hb hab hbc hG hst'
      omega
  have hno : ¬ (gs_one G ∨ 4 ≤ gs_to G) := by
    rintro (z | z)
    · exact h1 (Or.inl z)
    · omega
  obtain ⟨f1, p1, w1, r1, q1, ⟨t1, t2, t3, t4⟩, -⟩ := gw_take hw (show T < 34 by omega) (kd := 1) (by decide) (nI (nu f n a)) (nI d) (nI (gs_to G))
  obtain ⟨f2, X, T2, p2, w2, r2, c1, c2, c3, c4, c5, c6⟩ := ok f1 n c m W (T + 1) a b (gs_to G) G ⟨w1, hab, hbc, hto, by omega, gr_G_kp hG (fr_2 r1), hst', by omega, fun z => (by rcases z with z | z; exact absurd z hno; omega), hWl⟩
  obtain ⟨c4a, c4b⟩ := c4 hno (by omega)
  have hN2 := w2.2.2.1.2.2.2.2.2.2
  have l3 := tr_uQ w2.2.2.1 (b := n + 16 + 2 * T) (k := 0) (by omega) (some (n + 15 + 2 * (T + 1)))
  have k3 : bs_kp (fun q => q = n + 16 + 2 * T) f2 (ux_Q f2 (n + 16 + 2 * T) 0 (some (n + 15 + 2 * (T + 1)))) := bs_kp.Q rfl
  have w3 : gw (ux_Q f2 (n + 16 + 2 * T) 0 (some (n + 15 + 2 * (T + 1)))) n c m (W ++ X) T2 := gw_tree w2 l3 (k3.mono (fun q hq => by omega)) (by
    rw [ix_v (rx_v_Q ..)]
    exact w2.2.2.2.2.1) w2.2.2.2.2.2
  have nWX : (W ++ X).length = W.length + X.length := List.length_append
  generalize hf3 : ux_Q f2 (n + 16 + 2 * T) 0 (some (n + 15 + 2 * (T + 1))) = f3 at l3 k3 w3
  obtain ⟨f4, p4, d4, k4⟩ := cd_open w3.2.2.2.1 (by omega)
  obtain ⟨w4, r4, q4, -⟩ := gw_code w3 d4 k4
  have lE := dg_p_l (nu f n a) d (gs_to G) 0
  have lE2 := cd_enc_1 (k := 128) (B := dg_p (nu f n a) d (gs_to G) 0) (by omega)
  have n4 : (W ++ X ++ [0, 0, 0] : List Int32).length = W.length + X.length + 3 := by rw [List.length_append, nWX]; rfl
  obtain ⟨f5, p5, d5, k5⟩ := cd_dig w4.2.2.2.1 hx.2 (show d ≤ gs_to G by omega) hto (by omega) 0 (fl := 0) rfl
  obtain ⟨w5, r5, q5, -⟩ := gw_code w4 d5 k5
  generalize hE : cd_enc 128 (dg_p (nu f n a) d (gs_to G) 0) = E at lE2 d5 w5
  have n5 : (W ++ X ++ [0, 0, 0] ++ E : List Int32).length = W.length + X.length + 3 + E.length := by rw [List.length_append, n4]
  have R35 : fr n 34 f3 f5 := r4.tr r5 (Nat.le_refl _)
  have hC2 := (nd_R_C c5).1
  have eT1 : ∀ k, ax_i f5 (n + 15 + 2 * (T + 1)) k = ax_i f2 (n + 15 + 2 * (T + 1)) k := fun k => by
    unfold ax_i ax_v
    rw [R35.2.1 (n + 15 + 2 * (T + 1)) (by omega) (by omega), k3 _ (by omega)]
  have hC5 : nd_C f5 n (T + 1) (W ++ X ++ [0, 0, 0] ++ E) (sc m G (gs_to G)) := nd_C_kp hC2 ⟨eT1 5, eT1 6⟩ (by omega) (fun j x hx => ap_pre (ap_pre hx))
  obtain ⟨f6, p6, w6, r6, q6⟩ := gw_ref w5 (show T + 1 < 34 by omega) hC5 (by omega)
  have lR := rf_l (sc m G (gs_to G))
  obtain ⟨f7, p7, d7, k7⟩ := cd_shut (U := W ++ X) (H := [0, 0, 0]) (B := E ++ rf (sc m G (gs_to G))) (by rw [← List.append_assoc]; exact w6.2.2.2.1) rfl 192
  obtain ⟨w7, r7, q7, -⟩ := gw_code w6 d7 k7
  have hS : cd_enc 192 (E ++ rf (sc m G (gs_to G))) = sc m G d := by
    rw [sc_S h1 h2]
    unfold sc_stem
    have ey : G (gs_y G) := gs_y_in ⟨nu f n a, (hG _).mpr ⟨a, Nat.le_refl _, hab, rfl⟩⟩
    have ex : G (nu f n a) := (hG _).mpr ⟨a, Nat.le_refl _, hab, rfl⟩
    rw [dg_p_c (hst' _ _ ey ex) (by omega) hto, hE]
  rw [hS] at d7 w7
  have lS : (sc m G d).length ≤ 38 := by
    rw [← hS]
    have := cd_enc_1 (k := 192) (B := E ++ rf (sc m G (gs_to G))) (by rw [List.length_append]; omega)
    rw [List.length_append] at this
    omega
  obtain ⟨f8, p8, w8, k8, b1, b2, b3⟩ := gw_finish w7 (show T < 34 by omega) (b := (W ++ X).length) (by rw [List.length_append (as := W ++ X)]; omega)
  have R37 : fr n 34 f3 f7 := (R35.tr r6 (Nat.le_refl _)).tr r7 (Nat.le_refl _)
  have eN7 := R37.2.1 (n + 15 + 2 * T) (by omega) (by omega)
  have eB7 := R37.2.1 (n + 16 + 2 * T) (by omega) (by omega)
  have eN3 := k3 (n + 15 + 2 * T) (by omega)
  have eN2 := r2.2.1 (n + 15 + 2 * T) (by omega) (by omega)
  have ek : ∀ k, k ≠ 5 → k ≠ 6 → ax_i f8 (n + 15 + 2 * T) k = ax_i f1 (n + 15 + 2 * T) k := fun k a b => by
    rw [ix_v (b3 k a b)]
    unfold ax_i ax_v
    rw [eN7, eN3, eN2]
  have eQ3 : ax_Q f3 (n + 16 + 2 * T) 0 = some (n + 15 + 2 * (T + 1)) := by
    rw [← hf3, rx_Q (hN2 T (by omega)).2.2]
    exact va_up_self _ _ _
  have eQ8 : ax_Q f8 (n + 16 + 2 * T) 0 = some (n + 15 + 2 * (T + 1)) := by
    rw [← eQ3]
    unfold ax_Q
    rw [k8 _ (by omega), eB7]
  have F23 : fr n T f2 f3 := ⟨k3.mono (fun q hq => by unfold gw_S; omega), fun q a b => k3 q (by omega), fun k _ => by unfold ax_v; rw [k3 (n + 9) (by omega)]⟩
  have F78 : fr n T f7 f8 := ⟨k8.mono (fun q hq => by unfold gw_S; omega), fun q a b => k8 q (by omega), fun k _ => by unfold ax_v; rw [k8 (n + 9) (by omega)]⟩
  refine ⟨f8, X ++ sc m G d, T2, ?_, by rw [← List.append_assoc]; exact w8, (((r1.tr r2 (by omega)).tr F23 (by omega)).tr R37 (by omega)).tr F78 (by omega), by omega, by omega, by rw [List.length_append]; omega, fun _ z => absurd h2 z, ?_, fun kd hkd => ?_⟩
  · unfold fn_T_growStem
    rw [tg_0 hw.2.2.1, Option.bind_some, ax_is hb.1.1, Option.bind_some, nu_at hb (by omega), Option.bind_some, ax_is hw.2.2.1.1, Option.bind_some, show (1 : Int32) = nI 1 from rfl, p1, Option.bind_some]
    rw [nd_0 (w1.2.2.1.2.2.2.2.2.2 T (by omega)), Option.bind_some, ax_is w1.2.2.1.1, Option.bind_some, p2, Option.bind_some]
    rw [show (0 : Int32) = nI 0 from rfl, bs_sQ (hN2 T (by omega)).2.2 (by decide) (by decide) (fun v hv => by cases hv; exact ax_is (hN2 (T + 1) (by omega)).1), Option.bind_some, hf3]
    rw [tg_2 w3.2.2.1, Option.bind_some, cd_is w3.2.2.2.1, Option.bind_some, p4, Option.bind_some]
    rw [tg_2 w4.2.2.1, Option.bind_some, cd_is w4.2.2.2.1, Option.bind_some, show nI 0 = (0 : Int32) from rfl, p5, Option.bind_some]
    rw [nd_0 (w5.2.2.1.2.2.2.2.2.2 T (by omega)), Option.bind_some, show (0 : Int32) = nI 0 from rfl, bs_aQ (w5.2.2.1.2.2.2.2.2.2 T (by omega)).2.2 (by decide) (by decide), Option.bind_some]
    rw [show ax_Q f5 (n + 16 + 2 * T) 0 = some (n + 15 + 2 * (T + 1)) by rw [← eQ3]; unfold ax_Q; rw [R35.2.1 _ (by omega) (by omega)]]
    rw [ax_is w5.2.2.1.1, Option.bind_some, p6, Option.bind_some]
    rw [tg_2 w6.2.2.1, Option.bind_some, cd_is w6.2.2.2.1, Option.bind_some, p7, Option.bind_some]
    rw [ax_is w7.2.2.1.1, Option.bind_some, p8, Option.bind_some]
  · have child : nd_R m f8 n (W ++ (X ++ sc m G d)) T2 D T (T + 1) G (gs_to G) := nd_R_kp (lo0 := T + 1) (fun q a b => by
      rw [k8 q (by omega), R37.2.1 q (by omega) (by have := w2.2.2.2.2.2; omega), k3 q (by omega)]) (by rw [← List.append_assoc, List.length_append (as := W ++ X)]; omega) (fun j x hx => by rw [← List.append_assoc]; exact ap_pre hx) (Nat.le_refl _) D (T + 1) T (T + 1) G _ (Nat.le_refl _) (by omega) c5
    refine ⟨Nat.le_refl _, by omega, ⟨(W ++ X).length, b1, ?_, ?_, fun j x hx => ?_⟩, by rw [ek 3 (by decide) (by decide)]; exact t3, by omega, Or.inr (Or.inl ⟨h1, h2, by rw [ek 1 (by decide) (by decide)]; exact t1, ⟨nu f n a, hx.2, (hG _).mpr ⟨a, Nat.le_refl _, hab, rfl⟩, by rw [ek 2 (by decide) (by decide)]; exact t2⟩, by rw [ek 4 (by decide) (by decide)]; exact t4, T + 1, eQ8, child⟩)⟩
    · rw [b2, List.length_append (as := W ++ X), show (W ++ X).length + (sc m G d).length - (W ++ X).length = (sc m G d).length by omega]
    · rw [← List.append_assoc, List.length_append (as := W ++ X)]
      omega
    · rw [← List.append_assoc, List.getElem?_append_right (by omega), show (W ++ X).length + j - (W ++ X).length = j by omega]
      exact hx
  · have e8 : ax_I f8 (n + 13) = ax_I f7 (n + 13) := by unfold ax_I; rw [k8 (n + 13) (by omega)]
    have e3 : ax_I f3 (n + 13) = ax_I f2 (n + 13) := by unfold ax_I; rw [k3 (n + 13) (by omega)]
    rw [e8, q7, q6, q5, q4, e3, c6 kd hkd, q1, bs_vI, nc_S h1 h2, ← nI_add]
    by_cases hk1 : kd = 1
    · rw [if_pos hk1, if_pos hk1, hk1, Int32.add_assoc]
      rfl
    · rw [if_neg hk1, if_neg hk1]
      rw [show nI 0 + nI (nc kd G (gs_to G)) = nI (nc kd G (gs_to G)) from Int32.zero_add _]
