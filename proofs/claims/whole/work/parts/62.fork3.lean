/-! growFork: all digits, then the row of references; grow. -/
theorem fk_16e (gr : pl_H → Nat → Int32 → Int32 → Int32 → Option (Nat × pl_H)) (k : Nat) (f : pl_H) (a0 : Nat) (x2 x3 : Int32) (a4 : Nat) (x5 x6 : Int32) : fn_T_growFork_16 gr (k + 1) f a0 x2 x3 a4 x5 x6 = if 16 ≤ x6 then (pl_gR f a0 5 2).bind fun v1 => (pl_is f v1 1).bind fun u3 => (fn_C_open f v1).bind fun q2 => fn_T_growFork_105 gr pl_N q2.2 a0 a4 q2.1 0 else fn_T_growFork_27 gr (fn_T_growFork_16 gr k) pl_N f a0 x2 x3 a4 x5 x6 x5 := rfl
theorem fk_16 {gr : pl_H → Nat → Int32 → Int32 → Int32 → Option (Nat × pl_H)} {D : Nat} (ok : gr_does gr D) {f1 : pl_H} {n c : Nat} {m : am_M} {W : List Int32} {T a b d : Nat} {G : Nat → Prop} (hd : d < 4) (hD : 5 ≤ d + 1 + D) (hbc : b ≤ c) (hst : gs_st G d) (hn : ¬ gs_st G (d + 1)) (hT : T + 3 * (b - a) ≤ 37) (hW : W.length + 147 * (b - a) ≤ 1900) (hG : gr_G f1 n a b G) : ∀ (j k e s : Nat) (f : pl_H) (X : List Int32) (T1 : Nat), 16 - e = j → e ≤ 16 → j < k → fk_I m f1 n c W T a b d D G f e s X T1 → ∃ (f' : pl_H) (s' : Nat) (X' : List Int32) (T1' : Nat), fn_T_growFork_16 gr k f (n + 9) (nI b) (nI d) (n + 15 + 2 * T) (nI s) (nI e) = ((pl_gR f' (n + 9) 5 2).bind fun v1 => (pl_is f' v1 1).bind fun u3 => (fn_C_open f' v1).bind fun q2 => fn_T_growFork_105 gr pl_N q2.2 (n + 9) (n + 15 + 2 * T) q2.1 0) ∧ fk_I m f1 n c W T a b d D G f' 16 s' X' T1' := by
  intro j
  induction j with
  | zero =>
    intro k e s f X T1 hj he hk h
    obtain ⟨k, rfl⟩ : ∃ k', k = k' + 1 := ⟨k - 1, by omega⟩
    have e16 : e = 16 := by omega
    subst e16
    exact ⟨f, s, X, T1, by rw [fk_16e, if_pos (by decide)], h⟩
  | succ j ih =>
    intro k e s f X T1 hj he hk h
    obtain ⟨k, rfl⟩ : ∃ k', k = k' + 1 := ⟨k - 1, by omega⟩
    obtain ⟨f2, s2, X2, T2, p2, i2⟩ := fk_step ok hd hD hbc hst hn hT hW (show e < 16 by omega) h (gr_G_kp hG (fr_2 h.2.1)) (fn_T_growFork_16 gr k)
    obtain ⟨f', s', X', T', p', i'⟩ := ih k (e + 1) s2 f2 X2 T2 (by omega) (by omega) (by omega) i2
    refine ⟨f', s', X', T', ?_, i'⟩
    rw [fk_16e, if_neg (show ¬ 16 ≤ nI e from fun z => absurd ((bs_le (a := 16) (by decide) (by omega)).mp z) (by omega)), p2]
    exact p'
theorem fk_105e (gr : pl_H → Nat → Int32 → Int32 → Int32 → Option (Nat × pl_H)) (k : Nat) (f : pl_H) (a0 a4 : Nat) (x6 x7 : Int32) : fn_T_growFork_105 gr (k + 1) f a0 a4 x6 x7 = if 16 ≤ x7 then (pl_gR f a0 5 2).bind fun v1 => (pl_is f v1 1).bind fun u3 => (fn_C_put f v1 128).bind fun q2 => (pl_gR q2 a0 5 2).bind fun v4 => (pl_is q2 v4 1).bind fun u6 => (fn_C_shut q2 v4 x6 192).bind fun q5 => (pl_is q5 a0 5).bind fun u8 => (fn_T_finish q5 a0 a4 x6).bind fun q7 => some (q7.1, q7.2) else (pl_gR f a4 3 0).bind fun v9 => (pl_aQ f 2 v9 x7).bind fun r10 => (pl_is f a0 5).bind fun u12 => (fn_T_putReference f a0 r10).bind fun q11 => fn_T_growFork_105 gr k q11 a0 a4 x6 (x7 + 1) := rfl
/-- the references of the digits from e on -/
theorem fk_105 {gr : pl_H → Nat → Int32 → Int32 → Int32 → Option (Nat × pl_H)} {f0 : pl_H} {n c : Nat} {m : am_M} {V : List Int32} {T T1 d : Nat} {x6 : Int32} {G : Nat → Prop} (hT : T < 34) (hch : ∀ e, e < 16 → ((∃ y, gs_d G d e y) → ∃ i', i' < 34 ∧ ax_Q f0 (n + 16 + 2 * T) e = some (n + 15 + 2 * i') ∧ nd_C f0 n i' V (sc m (gs_d G d e) (d + 1))) ∧ ((¬ ∃ y, gs_d G d e y) → ax_Q f0 (n + 16 + 2 * T) e = none)) (hV : V.length + 3 + 16 + 32 * rn G d 16 + 33 ≤ 2176) : ∀ (j k e : Nat) (f : pl_H), 16 - e = j → e ≤ 16 → j < k → gw f n c m (V ++ [0, 0, 0] ++ sc_row G d (fun G' => sc m G' (d + 1)) e) T1 → fr n 34 f0 f → ∃ (f' : pl_H) (k' : Nat), fn_T_growFork_105 gr k f (n + 9) (n + 15 + 2 * T) x6 (nI e) = fn_T_growFork_105 gr (k' + 1) f' (n + 9) (n + 15 + 2 * T) x6 (nI 16) ∧ gw f' n c m (V ++ [0, 0, 0] ++ sc_row G d (fun G' => sc m G' (d + 1)) 16) T1 ∧ fr n 34 f0 f' ∧ ax_I f' (n + 13) = ax_I f (n + 13) := by
  intro j
  induction j with
  | zero =>
    intro k e f hj he hk h hfr
    obtain ⟨k, rfl⟩ : ∃ k', k = k' + 1 := ⟨k - 1, by omega⟩
    have e16 : e = 16 := by omega
    subst e16
    exact ⟨f, k, rfl, h, hfr, rfl⟩
  | succ j ih =>
    intro k e f hj he hk h hfr
    obtain ⟨k, rfl⟩ : ∃ k', k = k' + 1 := ⟨k - 1, by omega⟩
    have he' : e < 16 := by omega
    have hlen : (V ++ [0, 0, 0] ++ sc_row G d (fun G' => sc m G' (d + 1)) e).length ≤ V.length + 3 + e + 32 * rn G d 16 := by
      have h1 := sc_row_l G d (fun G' => sc m G' (d + 1)) e
      have h2 := rn_mono G d (16 - e) e
      rw [show e + (16 - e) = 16 by omega] at h2
      rw [List.length_append, List.length_append]
      show V.length + 3 + _ ≤ _
      omega
    have eQ : ax_Q f (n + 16 + 2 * T) e = ax_Q f0 (n + 16 + 2 * T) e := by unfold ax_Q; rw [hfr.2.1 _ (by omega) (by omega)]
    have hN := h.2.2.1.2.2.2.2.2.2 T hT
    have key : ∃ f2, fn_T_putReference f (n + 9) (ax_Q f (n + 16 + 2 * T) e) = some f2 ∧ gw f2 n c m (V ++ [0, 0, 0] ++ sc_row G d (fun G' => sc m G' (d + 1)) (e + 1)) T1 ∧ fr n 34 f f2 ∧ ax_I f2 (n + 13) = ax_I f (n + 13) := by
      rw [eQ]
      show ∃ f2, _ ∧ gw f2 n c m (V ++ [0, 0, 0] ++ (sc_row G d (fun G' => sc m G' (d + 1)) e ++ cif (∃ y, gs_d G d e y) (rf (sc m (gs_d G d e) (d + 1))) [128])) T1 ∧ _
      rw [← List.append_assoc]
      by_cases hex : ∃ y, gs_d G d e y
      · obtain ⟨i', i1, i2, i3⟩ := (hch e he').1 hex
        rw [i2, cif_pos hex]
        refine gw_ref h i1 (nd_C_kp i3 ⟨?_, ?_⟩ (by rw [List.length_append, List.length_append]; omega) (fun j x hx => ap_pre (ap_pre hx))) (by omega)
        · unfold ax_i ax_v
          rw [hfr.2.1 _ (by omega) (by omega)]
        · unfold ax_i ax_v
          rw [hfr.2.1 _ (by omega) (by omega)]
      · rw [(hch e he').2 hex, cif_neg hex]
        exact gw_ref0 h (by omega)
    obtain ⟨f2, p2, w2, r2, q2⟩ := key
    obtain ⟨f', k', g1, g2, g3, g4⟩ := ih k (e + 1) f2 (by omega) (by omega) (by omega) w2 (hfr.tr r2 (Nat.le_refl _))
    refine ⟨f', k', ?_, g2, g3, g4.trans q2⟩
    rw [fk_105e, if_neg (show ¬ 16 ≤ nI e from fun z => absurd ((bs_le (a := 16) (by decide) (by omega)).mp z) (by omega)), nd_0 hN, Option.bind_some, bs_aQ hN.2.2 he' (by decide), Option.bind_some, ax_is h.2.2.1.1, Option.bind_some, p2, Option.bind_some, show nI e + 1 = nI (e + 1) from nI_add e 1]
    exact g1
set_option maxHeartbeats 4000000 in
theorem gw_fork {gr : pl_H → Nat → Int32 → Int32 → Int32 → Option (Nat × pl_H)} {D : Nat} (ok : gr_does gr D) {f : pl_H} {n c : Nat} {m : am_M} {W : List Int32} {T a b d : Nat} {G : Nat → Prop} (h : gr_pre f n c m W T a b d (D + 1) G) (h1 : ¬ (gs_one G ∨ 4 ≤ d)) (h2 : ¬ d < gs_to G) : gr_post (fn_T_growFork gr f (n + 9) (nI a) (nI b) (nI d)) f n c m W T (b - a) d (D + 1) G := by
  obtain ⟨hw, hab, hbc, hd4, hD, hG, hst, hT1, -, hWl⟩ := h
  have hb := hw.1
  have hc := hb.2.2.1
  have hd : d < 4 := by
    rcases Nat.lt_or_ge d 4 with z | z
    · exact z
    · exact absurd (Or.inr z) h1
  obtain ⟨-, hto, -⟩ := gr_to hb hab hbc hG hd4 hst
  have hn : ¬ gs_st G (d + 1) := fun z => by
    have e : gs_to G = d := by omega
    have h3 := (gr_st hb hab hbc hG).mp z
    obtain ⟨t1, t2, t3⟩ := gr_to hb hab hbc hG (show d + 1 ≤ 4 by omega) z
    omega
  have hr2 := fk_two hd hst hn
  have hk1 : 2 ≤ b - a := by
    have : ¬ b - a = 1 := fun z => h1 (Or.inl ((gr_one hb hab hbc hG).mpr z))
    omega
  obtain ⟨f1, p1, w1, r1, q1, ⟨t1, t2, t3, t4⟩, t5⟩ := gw_take hw (show T < 34 by omega) (kd := 2) (by decide) 0 (nI d) (nI d)
  have hG1 := gr_G_kp hG (fr_2 r1)
  have i1 : fk_I m f1 n c W T a b d D G f1 0 a [] (T + 1) := ⟨by rw [List.append_nil]; exact w1, fr.rf, rfl, ⟨Nat.le_refl _, by omega⟩, fun j x y => absurd x (by omega), fun j _ _ => Nat.zero_le _, ⟨Nat.le_refl _, by show T + 1 + 2 * 0 ≤ _; omega, by show 0 + 122 * 0 ≤ _; omega, Nat.zero_le _, fun z => absurd z (by omega)⟩, fun e he => ⟨fun z => absurd z (by omega), fun _ => t5 e he⟩, fun kd _ => by show _ = _ + nI 0; exact (Int32.add_zero _).symm⟩
  obtain ⟨f2, s2, X, T2, p2, hw2, r2, o2, ⟨s2a, s2b⟩, -, hhi, ⟨B1, B2, B3, B4, -⟩, hch, hcn⟩ := fk_16 ok hd (by omega) hbc hst hn hT1 hWl hG1 16 pl_N 0 a f1 [] (T + 1) rfl (by decide) (by decide) i1
  have hs : s2 - a ≤ b - a := by omega
  have hT2 := hw2.2.2.2.2.2
  have nWX : (W ++ X).length = W.length + X.length := List.length_append
  obtain ⟨f3, p3, d3, k3⟩ := cd_open hw2.2.2.2.1 (by omega)
  obtain ⟨w3, r3, q3, -⟩ := gw_code hw2 d3 k3
  have hch' : ∀ e, e < 16 → ((∃ y, gs_d G d e y) → ∃ i', i' < 34 ∧ ax_Q f3 (n + 16 + 2 * T) e = some (n + 15 + 2 * i') ∧ nd_C f3 n i' (W ++ X) (sc m (gs_d G d e) (d + 1))) ∧ ((¬ ∃ y, gs_d G d e y) → ax_Q f3 (n + 16 + 2 * T) e = none) := fun e he => by
    have hh := (hch e he).1 he
    have eQ : ax_Q f3 (n + 16 + 2 * T) e = ax_Q f2 (n + 16 + 2 * T) e := by unfold ax_Q; rw [r3.2.1 _ (by omega) (by omega)]
    rw [eQ]
    refine ⟨fun z => ?_, hh.2⟩
    obtain ⟨i', j1, j2⟩ := hh.1 z
    obtain ⟨j3, j4, j5⟩ := nd_R_C j2
    refine ⟨i', by omega, j1, nd_C_kp j3 ⟨?_, ?_⟩ (Nat.le_refl _) (fun _ _ hx => hx)⟩
    · unfold ax_i ax_v
      rw [r3.2.1 _ (by omega) (by omega)]
    · unfold ax_i ax_v
      rw [r3.2.1 _ (by omega) (by omega)]
  obtain ⟨f4, k4, p4, w4, r4, q4⟩ := fk_105 (gr := gr) (x6 := nI (W ++ X).length) (show T < 34 by omega) hch' (by omega) 16 pl_N 0 f3 rfl (by decide) (by decide) (by rw [show sc_row G d (fun G' => sc m G' (d + 1)) 0 = [] from rfl, List.append_nil]; exact w3) fr.rf
  have lr := sc_row_l G d (fun G' => sc m G' (d + 1)) 16
  generalize hR : sc_row G d (fun G' => sc m G' (d + 1)) 16 = R at lr w4
  have n4 : (W ++ X ++ [0, 0, 0] ++ R).length = W.length + X.length + 3 + R.length := by
    rw [List.length_append, List.length_append, nWX]
    rfl
  obtain ⟨f5, p5, d5, k5, -⟩ := cd_put w4.2.2.2.1 (by omega) 128
  obtain ⟨w5, r5, q5, -⟩ := gw_code w4 d5 k5
  obtain ⟨f6, p6, d6, k6⟩ := cd_shut (U := W ++ X) (H := [0, 0, 0]) (B := R ++ [128]) (by rw [← List.append_assoc]; exact d5) rfl 192
  obtain ⟨w6, r6, q6, -⟩ := gw_code w5 d6 k6
  have hS : cd_enc 192 (R ++ [128]) = sc m G d := by
    rw [sc_F h1 h2]
    unfold sc_fork
    rw [hR]
  have lS : (sc m G d).length ≤ 20 + 32 * rn G d 16 := by
    have := (cd_enc_l 192 (R ++ [128])).1
    rw [List.length_append, hS] at this
    have e1 : ([128] : List Int32).length = 1 := rfl
    omega
  rw [hS] at w6
  obtain ⟨f7, p7, w7, k7, b1, b2, b3⟩ := gw_finish w6 (show T < 34 by omega) (b := (W ++ X).length) (by rw [List.length_append (as := W ++ X)]; omega)
  have R26 : fr n 34 f2 f6 := ((r3.tr r4 (Nat.le_refl _)).tr r5 (Nat.le_refl _)).tr r6 (Nat.le_refl _)
  have F67 : fr n T f6 f7 := ⟨k7.mono (fun q hq => by unfold gw_S; omega), fun q a b => k7 q (by omega), fun k _ => by unfold ax_v; rw [k7 (n + 9) (by omega)]⟩
  have eN : f6 (n + 15 + 2 * T) = f1 (n + 15 + 2 * T) := by rw [R26.2.1 _ (by omega) (by omega), o2]
  have ek : ∀ k, k ≠ 5 → k ≠ 6 → ax_i f7 (n + 15 + 2 * T) k = ax_i f1 (n + 15 + 2 * T) k := fun k a b => by
    rw [ix_v (b3 k a b)]
    unfold ax_i ax_v
    rw [eN]
  have eQ7 : ∀ e, ax_Q f7 (n + 16 + 2 * T) e = ax_Q f2 (n + 16 + 2 * T) e := fun e => by
    unfold ax_Q
    rw [k7 _ (by omega), R26.2.1 _ (by omega) (by omega)]
  refine ⟨f7, X ++ sc m G d, T2, ?_, by rw [← List.append_assoc]; exact w7, ((r1.tr r2 (Nat.le_refl _)).tr R26 (by omega)).tr F67 (Nat.le_refl _), by omega, by omega, by rw [List.length_append]; omega, fun _ _ => ⟨by omega, by rw [List.length_append]; omega⟩, ?_, fun kd hkd => ?_⟩
  · unfold fn_T_growFork
    rw [ax_is hw.2.2.1.1, Option.bind_some, show (2 : Int32) = nI 2 from rfl, p1, Option.bind_some]
    show fn_T_growFork_16 gr pl_N f1 (n + 9) (nI b) (nI d) (n + 15 + 2 * T) (nI a) (nI 0) = _
    rw [p2, tg_2 hw2.2.2.1, Option.bind_some, cd_is hw2.2.2.2.1, Option.bind_some, p3, Option.bind_some]
    show fn_T_growFork_105 gr pl_N f3 (n + 9) (n + 15 + 2 * T) (nI (W ++ X).length) (nI 0) = _
    rw [p4, fk_105e, if_pos (by decide), tg_2 w4.2.2.1, Option.bind_some, cd_is w4.2.2.2.1, Option.bind_some, p5, Option.bind_some]
    rw [tg_2 w5.2.2.1, Option.bind_some, cd_is w5.2.2.2.1, Option.bind_some, p6, Option.bind_some]
    rw [ax_is w6.2.2.1.1, Option.bind_some, p7, Option.bind_some]
  · refine ⟨Nat.le_refl _, by omega, ⟨(W ++ X).length, b1, ?_, ?_, fun j x hx => ?_⟩, by rw [ek 3 (by decide) (by decide)]; exact t3, by omega, Or.inr (Or.inr ⟨h1, h2, by rw [ek 1 (by decide) (by decide)]; exact t1, fun e he => ?_⟩)⟩
    · rw [b2, List.length_append (as := W ++ X), show (W ++ X).length + (sc m G d).length - (W ++ X).length = (sc m G d).length by omega]
    · rw [← List.append_assoc, List.length_append (as := W ++ X)]
      omega
    · rw [← List.append_assoc, List.getElem?_append_right (by omega), show (W ++ X).length + j - (W ++ X).length = j by omega]
      exact hx
    · rw [eQ7]
      have hh := (hch e he).1 he
      refine ⟨fun z => ?_, hh.2⟩
      obtain ⟨i', j1, j2⟩ := hh.1 z
      refine ⟨i', j1, ?_⟩
      exact nd_R_kp (lo0 := T + 1) (fun q a b => by
        rw [k7 q (by omega), R26.2.1 q (by omega) (by omega)]) (by rw [← List.append_assoc, List.length_append (as := W ++ X)]; omega) (fun j x hx => by rw [← List.append_assoc]; exact ap_pre hx) (Nat.le_refl _) D (T + 1) T i' _ _ (Nat.le_refl _) (by omega) j2
  · have e7 : ax_I f7 (n + 13) = ax_I f6 (n + 13) := by unfold ax_I; rw [k7 (n + 13) (by omega)]
    rw [e7, q6, q5, q4, q3, hcn kd hkd, q1, bs_vI, nc_F h1 h2, ← nI_add]
    by_cases hk2 : kd = 2
    · rw [if_pos hk2, if_pos hk2, hk2, Int32.add_assoc]
      rfl
    · rw [if_neg hk2, if_neg hk2]
      rw [show ∀ z : Int32, nI 0 + z = z from fun z => Int32.zero_add z]
theorem gw_grow : ∀ D, gr_does (fn_T_grow D) D := by
  intro D
  induction D with
  | zero =>
    intro f n c m W T a b d G h
    have := h.2.2.2.2.1
    have := h.2.2.2.1
    omega
  | succ D ih =>
    intro f n c m W T a b d G h
    have h0 := h
    obtain ⟨hw, hab, hbc, hd, hD, hG, hst, hT1, hT2, hWl⟩ := h
    have hb := hw.1
    have hc := hb.2.2.1
    show gr_post (fn_T_growB (fn_T_grow D) f (n + 9) (nI a) (nI b) (nI d)) f n c m W T (b - a) d (D + 1) G
    have leaf : (gs_one G ∨ 4 ≤ d) → gr_post (fn_T_growB_12 (fn_T_grow D) f (n + 9) (nI a) (nI d)) f n c m W T (b - a) d (D + 1) G := by
      intro hl
      have hone : b - a = 1 := by
        rcases hl with z | z
        · exact (gr_one hb hab hbc hG).mp z
        · have e : d = 4 := by omega
          rw [e] at hst
          exact gr_st4 hb hab hbc hG hst
      have hT2 := hT2 (Or.inl hl)
      have hx := nu_is hb (show a < c by omega)
      obtain ⟨f', p1, w1, r1, q1, n1, t1, t3⟩ := gw_leaf hw (show T < 34 by omega) hx.2 hd (by omega)
      have hS : sc_leaf m (nu f n a) d = sc m G d := by
        rw [sc_L hl, gr_y1 hG hone]
      have lS := sc_leaf_l m (nu f n a) d
      rw [hS] at w1 n1 lS
      refine ⟨f', sc m G d, T + 1, ?_, w1, r1, by omega, by omega, by omega, fun z => absurd hl z, ⟨Nat.le_refl _, by omega, n1, t3, by omega, Or.inl ⟨hl, t1⟩⟩, fun kd hkd => ?_⟩
      · unfold fn_T_growB_12
        rw [tg_0 hw.2.2.1, Option.bind_some, ax_is hb.1.1, Option.bind_some, nu_at hb (by omega), Option.bind_some, ax_is hw.2.2.1.1, Option.bind_some, p1, Option.bind_some]
      · rw [q1, bs_vI, nc_L hl]
        by_cases hk : kd = 0
        · rw [if_pos hk, if_pos hk, hk]
          rfl
        · rw [if_neg hk, if_neg hk]
          exact (Int32.add_zero _).symm
    unfold fn_T_growB fn_T_growB_75
    rw [pk_sub (show a ≤ b by omega)]
    by_cases hone : b - a = 1
    · rw [if_pos (show nI (b - a) = 1 by rw [hone]; rfl)]
      exact leaf (Or.inl ((gr_one hb hab hbc hG).mpr hone))
    · rw [if_neg (show ¬ nI (b - a) = 1 from fun z => hone ((nI_eq (by omega) (by decide)).mp (show nI (b - a) = nI 1 from z)))]
      by_cases hd4 : d < 4
      · rw [if_pos (show nI d < 4 from (bs_lt (b := 4) (by omega) (by decide)).mpr hd4)]
        have hno : ¬ (gs_one G ∨ 4 ≤ d) := by
          rintro (z | z)
          · exact hone ((gr_one hb hab hbc hG).mp z)
          · omega
        obtain ⟨t1, t2, t3⟩ := gr_to hb hab hbc hG hd hst
        have hto := gs_to_le G
        rw [tg_0 hw.2.2.1, Option.bind_some, ax_is hb.1.1, Option.bind_some, nu_at hb (by omega), Option.bind_some, Option.bind_some, ax_is hb.1.1, Option.bind_some, show nI b - 1 = nI (b - 1) from pk_sub (b := 1) (by omega), nu_at hb (by omega), Option.bind_some, t1, Option.bind_some]
        by_cases h2 : d < gs_to G
        · rw [if_neg (fun z => absurd ((bs_le (by omega) (by omega)).mp z) (by omega)), ax_is hw.2.2.1.1, Option.bind_some]
          obtain ⟨f', X, T', p, rest⟩ := gw_stem ih h0 hno h2
          exact ⟨f', X, T', by rw [p]; rfl, rest⟩
        · rw [if_pos ((bs_le (by omega) (by omega)).mpr (by omega)), ax_is hw.2.2.1.1, Option.bind_some]
          obtain ⟨f', X, T', p, rest⟩ := gw_fork ih h0 hno h2
          exact ⟨f', X, T', by rw [p]; rfl, rest⟩
      · rw [if_neg (show ¬ nI d < 4 from fun z => hd4 ((bs_lt (b := 4) (by omega) (by decide)).mp z))]
        exact leaf (Or.inr (by omega))
