/-! Constructors of the tree, the proof, the way, the ledger. -/
abbrev tgT : List Nat := [2, 2, 2, 2, 2, 2, 0, 2, 0]
abbrev nd0 : va_E := .inr (3, [.null, .int 0, .int 0, .int 0, .int 0, .int 0, .int 0])
def TI (f : pl_H) (a i : Nat) : Prop := ax_sh (f a) = (1, 5, tgT) ∧ ax_r f a 3 = some (a + 3) ∧ ax_sh (f (a + 3)) = (4, 2, [34]) ∧ ∀ j, j < i → ax_Q f (a + 3) j = some (a + 6 + 2 * j) ∧ ax_sh (f (a + 6 + 2 * j)) = (1, 3, [2, 0, 0, 0, 0, 0, 0]) ∧ ax_r f (a + 6 + 2 * j) 0 = some (a + 7 + 2 * j) ∧ ax_sh (f (a + 7 + 2 * j)) = (4, 2, [16])
theorem tn_step {f : pl_H} {a i b : Nat} {ix : Int32} (h : TI f a i) (hi : i < 34) (hb : b = a + 6 + 2 * i) (hx : ix = nI i) : ∃ f', (∀ {β : Type} (g : pl_H → Option β), ((pl_gR f a 5 3).bind fun v12 => (pl_ln f v12).bind fun v13 => if v13 ≤ ix then none else (pl_gR f a 5 3).bind fun v14 => (pl_mk f b nd0).bind fun f15 => (fn_N_init (b + 1) f15 b).bind fun q16 => (pl_sQ q16 2 3 v14 ix (some b)).bind g) = g f') ∧ TI f' a (i + 1) ∧ ∀ q, q ≠ a + 3 → q ≠ b → q ≠ b + 1 → f' q = f q := by
  obtain ⟨h1, h2, h3, h4⟩ := h
  obtain ⟨f1, p1, s1, r1, c1, -, q1⟩ := ib_N (f := va_up f b nd0) (a := b) (by rw [va_up_self]; rfl)
  have e0 : ∀ q, q ≠ b → q ≠ b + 1 → f1 q = f q := fun q z1 z2 => by rw [q1 q (by omega), va_up_ne _ _ z1]
  have e3 := e0 (a + 3) (by omega) (by omega)
  have sp : ax_sh (f1 (a + 3)) = (4, 2, [34]) := by rw [e3]; exact h3
  have hs := bs_sQ (ci := 3) (j := i) (r := some b) sp hi (by decide) (fun v hv => by
    have := Option.some.inj hv
    subst this
    exact ax_is s1)
  have hne : ∀ q, q ≠ a + 3 → ux_Q f1 (a + 3) i (some b) q = f1 q := fun q z => va_up_ne _ _ z
  refine ⟨ux_Q f1 (a + 3) i (some b), fun g => ?_, ⟨?_, ?_, ?_, fun j hj => ?_⟩, fun q z1 z2 z3 => by rw [hne q z1, e0 q z2 z3]⟩
  · rw [ax_gR h1 rfl, h2, Option.bind_some, bs_ln h3 (Or.inr (Or.inr rfl)) (by decide), Option.bind_some, hx, if_neg (fun z => absurd ((bs_le (by decide) (by omega)).mp z) (by omega)), Option.bind_some]
    show ((fn_N_init (b + 1) (va_up f b nd0) b).bind _) = _
    rw [p1, Option.bind_some, hs, Option.bind_some]
  · rw [hne a (by omega), e0 a (by omega) (by omega)]
    exact h1
  · unfold ax_r ax_v
    rw [hne a (by omega), e0 a (by omega) (by omega)]
    exact h2
  · rw [sx_Q]
    exact sp
  · rw [rx_Q sp]
    by_cases e : j = i
    · subst e
      refine ⟨by rw [va_up_self, hb], ?_, ?_, ?_⟩
      · rw [hne _ (by omega), ← hb]
        exact s1
      · unfold ax_r ax_v at r1 ⊢
        rw [hne _ (by omega), ← hb, r1]
        show some (b + 1) = _
        congr 1
        omega
      · rw [hne _ (by omega), show a + 7 + 2 * j = b + 1 by omega, c1]
        rfl
    · obtain ⟨a1, a2, a3, a4⟩ := h4 j (by omega)
      refine ⟨?_, ?_, ?_, ?_⟩
      · rw [va_up_ne _ _ e]
        unfold ax_Q
        rw [e3]
        exact a1
      · rw [hne _ (by omega), e0 _ (by omega) (by omega)]
        exact a2
      · unfold ax_r ax_v
        rw [hne _ (by omega), e0 _ (by omega) (by omega)]
        exact a3
      · rw [hne _ (by omega), e0 _ (by omega) (by omega)]
        exact a4
set_option maxHeartbeats 8000000 in
set_option maxRecDepth 100000 in
theorem ib_T {f : pl_H} {a a1 a2 : Nat} (hs : ax_sh (f a) = (1, 5, tgT)) : ∃ f', fn_T_init (a + 1) f a a1 a2 = some f' ∧ TI f' a 34 ∧ (ax_r f' a 0 = some a1 ∧ ax_r f' a 1 = some a2 ∧ ax_r f' a 2 = some (a + 1) ∧ ax_r f' a 3 = some (a + 3) ∧ ax_r f' a 4 = some (a + 4) ∧ ax_r f' a 5 = some (a + 5)) ∧ ax_i f' a 8 = 1 ∧ cd_L f' (a + 1) ∧ ax_sh (f' (a + 4)) = (2, 0, [4]) ∧ ax_sh (f' (a + 5)) = (2, 0, [32]) ∧ ∀ q, q < a ∨ a + 73 < q → f' q = f q := by
  obtain ⟨g1, gp1, gs1, gr1, gc1, -, gq1⟩ := ib_C (f := va_up f (a + 1) (.inr (1, [.null, .int 0]))) (a := a + 1) (by rw [va_up_self]; rfl)
  have E1 : ∀ q, q ≠ a + 1 → q ≠ a + 2 → g1 q = f q := fun q z1 z2 => by rw [gq1 q (by omega), va_up_ne _ _ z1]
  have S1 : ax_sh (g1 a) = (1, 5, tgT) := by rw [E1 a (by omega) (by omega)]; exact hs
  obtain ⟨g2, gp2, gs2, gv2, gw2, gq2⟩ := pvp (k := 2) (v := .ref (a + 1)) S1 rfl
  obtain ⟨g3, gp3, gs3, gb3, gr3, gv3, gq3⟩ := mkp (b := a + 1 + 2) (k := 3) (e := .inl (2, 34, .inr (.inr (.inr (.inr (fun _ => none)))))) gs2 rfl (by omega)
  obtain ⟨g4, gp4, gs4, gb4, gr4, gv4, gq4⟩ := mkp (b := a + 1 + 3) (k := 4) (e := .inl (0, 4, .inl (fun _ => 0))) gs3 rfl (by omega)
  obtain ⟨g5, gp5, gs5, gb5, gr5, gv5, gq5⟩ := mkp (b := a + 1 + 4) (k := 5) (e := .inl (0, 32, .inl (fun _ => 0))) gs4 rfl (by omega)
  obtain ⟨g6, gp6, gs6, gv6, gw6, gq6⟩ := pvp (k := 0) (v := .ref a1) gs5 rfl
  obtain ⟨g7, gp7, gs7, gv7, gw7, gq7⟩ := pvp (k := 1) (v := .ref a2) gs6 rfl
  have T0 : TI g7 a 0 := by
    refine ⟨gs7, ?_, ?_, fun j hj => absurd hj (by omega)⟩
    · rw [ar_v (gw7 3 (by decide)), ar_v (gw6 3 (by decide)), ar_v (gv5 3 (by decide)), ar_v (gv4 3 (by decide)), gr3]
    · rw [gq7 _ (by omega), gq6 _ (by omega), gq5 _ (by omega) (by omega), gq4 _ (by omega) (by omega), show a + 3 = a + 1 + 2 from rfl, gb3]
      rfl
  obtain ⟨f1, p1, T1, q1⟩ := tn_step (f := g7) (b := a + 1 + 5) (ix := 0) T0 (by decide) (by omega) rfl
  obtain ⟨f2, p2, T2, q2⟩ := tn_step (f := f1) (b := a + 1 + 7) (ix := 1) T1 (by decide) (by omega) rfl
  obtain ⟨f3, p3, T3, q3⟩ := tn_step (f := f2) (b := a + 1 + 9) (ix := 2) T2 (by decide) (by omega) rfl
  obtain ⟨f4, p4, T4, q4⟩ := tn_step (f := f3) (b := a + 1 + 11) (ix := 3) T3 (by decide) (by omega) rfl
  obtain ⟨f5, p5, T5, q5⟩ := tn_step (f := f4) (b := a + 1 + 13) (ix := 4) T4 (by decide) (by omega) rfl
  obtain ⟨f6, p6, T6, q6⟩ := tn_step (f := f5) (b := a + 1 + 15) (ix := 5) T5 (by decide) (by omega) rfl
  obtain ⟨f7, p7, T7, q7⟩ := tn_step (f := f6) (b := a + 1 + 17) (ix := 6) T6 (by decide) (by omega) rfl
  obtain ⟨f8, p8, T8, q8⟩ := tn_step (f := f7) (b := a + 1 + 19) (ix := 7) T7 (by decide) (by omega) rfl
  obtain ⟨f9, p9, T9, q9⟩ := tn_step (f := f8) (b := a + 1 + 21) (ix := 8) T8 (by decide) (by omega) rfl
  obtain ⟨f10, p10, T10, q10⟩ := tn_step (f := f9) (b := a + 1 + 23) (ix := 9) T9 (by decide) (by omega) rfl
  obtain ⟨f11, p11, T11, q11⟩ := tn_step (f := f10) (b := a + 1 + 25) (ix := 10) T10 (by decide) (by omega) rfl
  obtain ⟨f12, p12, T12, q12⟩ := tn_step (f := f11) (b := a + 1 + 27) (ix := 11) T11 (by decide) (by omega) rfl
  obtain ⟨f13, p13, T13, q13⟩ := tn_step (f := f12) (b := a + 1 + 29) (ix := 12) T12 (by decide) (by omega) rfl
  obtain ⟨f14, p14, T14, q14⟩ := tn_step (f := f13) (b := a + 1 + 31) (ix := 13) T13 (by decide) (by omega) rfl
  obtain ⟨f15, p15, T15, q15⟩ := tn_step (f := f14) (b := a + 1 + 33) (ix := 14) T14 (by decide) (by omega) rfl
  obtain ⟨f16, p16, T16, q16⟩ := tn_step (f := f15) (b := a + 1 + 35) (ix := 15) T15 (by decide) (by omega) rfl
  obtain ⟨f17, p17, T17, q17⟩ := tn_step (f := f16) (b := a + 1 + 37) (ix := 16) T16 (by decide) (by omega) rfl
  obtain ⟨f18, p18, T18, q18⟩ := tn_step (f := f17) (b := a + 1 + 39) (ix := 17) T17 (by decide) (by omega) rfl
  obtain ⟨f19, p19, T19, q19⟩ := tn_step (f := f18) (b := a + 1 + 41) (ix := 18) T18 (by decide) (by omega) rfl
  obtain ⟨f20, p20, T20, q20⟩ := tn_step (f := f19) (b := a + 1 + 43) (ix := 19) T19 (by decide) (by omega) rfl
  obtain ⟨f21, p21, T21, q21⟩ := tn_step (f := f20) (b := a + 1 + 45) (ix := 20) T20 (by decide) (by omega) rfl
  obtain ⟨f22, p22, T22, q22⟩ := tn_step (f := f21) (b := a + 1 + 47) (ix := 21) T21 (by decide) (by omega) rfl
  obtain ⟨f23, p23, T23, q23⟩ := tn_step (f := f22) (b := a + 1 + 49) (ix := 22) T22 (by decide) (by omega) rfl
  obtain ⟨f24, p24, T24, q24⟩ := tn_step (f := f23) (b := a + 1 + 51) (ix := 23) T23 (by decide) (by omega) rfl
  obtain ⟨f25, p25, T25, q25⟩ := tn_step (f := f24) (b := a + 1 + 53) (ix := 24) T24 (by decide) (by omega) rfl
  obtain ⟨f26, p26, T26, q26⟩ := tn_step (f := f25) (b := a + 1 + 55) (ix := 25) T25 (by decide) (by omega) rfl
  obtain ⟨f27, p27, T27, q27⟩ := tn_step (f := f26) (b := a + 1 + 57) (ix := 26) T26 (by decide) (by omega) rfl
  obtain ⟨f28, p28, T28, q28⟩ := tn_step (f := f27) (b := a + 1 + 59) (ix := 27) T27 (by decide) (by omega) rfl
  obtain ⟨f29, p29, T29, q29⟩ := tn_step (f := f28) (b := a + 1 + 61) (ix := 28) T28 (by decide) (by omega) rfl
  obtain ⟨f30, p30, T30, q30⟩ := tn_step (f := f29) (b := a + 1 + 63) (ix := 29) T29 (by decide) (by omega) rfl
  obtain ⟨f31, p31, T31, q31⟩ := tn_step (f := f30) (b := a + 1 + 65) (ix := 30) T30 (by decide) (by omega) rfl
  obtain ⟨f32, p32, T32, q32⟩ := tn_step (f := f31) (b := a + 1 + 67) (ix := 31) T31 (by decide) (by omega) rfl
  obtain ⟨f33, p33, T33, q33⟩ := tn_step (f := f32) (b := a + 1 + 69) (ix := 32) T32 (by decide) (by omega) rfl
  obtain ⟨f34, p34, T34, q34⟩ := tn_step (f := f33) (b := a + 1 + 71) (ix := 33) T33 (by decide) (by omega) rfl
  have Q : ∀ q, q ≠ a + 3 → q < a + 6 ∨ a + 73 < q → f34 q = g7 q := fun q z1 z2 => by rw [q34 q z1 (by omega) (by omega), q33 q z1 (by omega) (by omega), q32 q z1 (by omega) (by omega), q31 q z1 (by omega) (by omega), q30 q z1 (by omega) (by omega), q29 q z1 (by omega) (by omega), q28 q z1 (by omega) (by omega), q27 q z1 (by omega) (by omega), q26 q z1 (by omega) (by omega), q25 q z1 (by omega) (by omega), q24 q z1 (by omega) (by omega), q23 q z1 (by omega) (by omega), q22 q z1 (by omega) (by omega), q21 q z1 (by omega) (by omega), q20 q z1 (by omega) (by omega), q19 q z1 (by omega) (by omega), q18 q z1 (by omega) (by omega), q17 q z1 (by omega) (by omega), q16 q z1 (by omega) (by omega), q15 q z1 (by omega) (by omega), q14 q z1 (by omega) (by omega), q13 q z1 (by omega) (by omega), q12 q z1 (by omega) (by omega), q11 q z1 (by omega) (by omega), q10 q z1 (by omega) (by omega), q9 q z1 (by omega) (by omega), q8 q z1 (by omega) (by omega), q7 q z1 (by omega) (by omega), q6 q z1 (by omega) (by omega), q5 q z1 (by omega) (by omega), q4 q z1 (by omega) (by omega), q3 q z1 (by omega) (by omega), q2 q z1 (by omega) (by omega), q1 q z1 (by omega) (by omega)]
  obtain ⟨g8, gp8, gs8, gv8, gw8, gq8⟩ := pvp (k := 7) (v := .ref (a + 6)) T34.1 rfl
  obtain ⟨g9, gp9, gs9, gv9, gw9, gq9⟩ := pvp (k := 8) (v := .int 1) gs8 rfl
  have va : ∀ k, ax_v f34 a k = ax_v g7 a k := fun k => by
    unfold ax_v
    rw [Q a (by omega) (by omega)]
  have T9 : TI g9 a 34 := by
    obtain ⟨t1, t2, t3, t4⟩ := T34
    refine ⟨gs9, by rw [ar_v (gw9 3 (by decide)), ar_v (gw8 3 (by decide))]; exact t2, by rw [gq9 _ (by omega), gq8 _ (by omega)]; exact t3, fun j hj => ?_⟩
    obtain ⟨u1, u2, u3, u4⟩ := t4 j hj
    refine ⟨?_, by rw [gq9 _ (by omega), gq8 _ (by omega)]; exact u2, ?_, by rw [gq9 _ (by omega), gq8 _ (by omega)]; exact u4⟩
    · unfold ax_Q
      rw [gq9 _ (by omega), gq8 _ (by omega)]
      exact u1
    · unfold ax_r ax_v
      rw [gq9 _ (by omega), gq8 _ (by omega)]
      exact u3
  have cell : ∀ q, q ≠ a → q ≠ a + 3 → q ≠ a + 4 → q ≠ a + 5 → q < a + 6 → g9 q = g1 q := fun q z0 z3 z4 z5 z6 => by
    rw [gq9 q z0, gq8 q z0, Q q z3 (by omega), gq7 q z0, gq6 q z0, gq5 q z0 (by omega), gq4 q z0 (by omega), gq3 q z0 (by omega), gq2 q z0]
  refine ⟨g9, ?_, T9, ⟨?_, ?_, ?_, ?_, ?_, ?_⟩, ?_, ⟨?_, ?_, ?_⟩, ?_, ?_, fun q hq => ?_⟩
  · unfold fn_T_init
    show ((fn_C_init (a + 1 + 1) (va_up f (a + 1) (.inr (1, [.null, .int 0]))) (a + 1)).bind _) = _
    rw [gp1, Option.bind_some]
    refine (gp2 _).trans ((gp3 _).trans ((gp4 _).trans ((gp5 _).trans ((gp6 _).trans ((gp7 _).trans ?_)))))
    refine (p1 _).trans ((p2 _).trans ((p3 _).trans ((p4 _).trans ((p5 _).trans ((p6 _).trans ((p7 _).trans ((p8 _).trans ((p9 _).trans ((p10 _).trans ((p11 _).trans ((p12 _).trans ((p13 _).trans ((p14 _).trans ((p15 _).trans ((p16 _).trans ((p17 _).trans ((p18 _).trans ((p19 _).trans ((p20 _).trans ((p21 _).trans ((p22 _).trans ((p23 _).trans ((p24 _).trans ((p25 _).trans ((p26 _).trans ((p27 _).trans ((p28 _).trans ((p29 _).trans ((p30 _).trans ((p31 _).trans ((p32 _).trans ((p33 _).trans ((p34 _).trans (?_))))))))))))))))))))))))))))))))))
    rw [ax_gR T34.1 rfl, T34.2.1, Option.bind_some, bs_ln T34.2.2.1 (Or.inr (Or.inr rfl)) (by decide), Option.bind_some, if_pos (by decide), Option.bind_some, show pl_aQ f34 2 (a + 3) 0 = some (ax_Q f34 (a + 3) 0) from bs_aQ T34.2.2.1 (show 0 < 34 by decide) (by decide), Option.bind_some, (T34.2.2.2 0 (by decide)).1, Option.bind_some]
    exact (gp8 _).trans (gp9 _)
  · rw [ar_v (gw9 0 (by decide)), ar_v (gw8 0 (by decide)), ar_v (va 0), ar_v (gw7 0 (by decide))]
    unfold ax_r
    rw [gv6]
  · rw [ar_v (gw9 1 (by decide)), ar_v (gw8 1 (by decide)), ar_v (va 1)]
    unfold ax_r
    rw [gv7]
  · rw [ar_v (gw9 2 (by decide)), ar_v (gw8 2 (by decide)), ar_v (va 2), ar_v (gw7 2 (by decide)), ar_v (gw6 2 (by decide)), ar_v (gv5 2 (by decide)), ar_v (gv4 2 (by decide)), ar_v (gv3 2 (by decide))]
    unfold ax_r
    rw [gv2]
  · exact T9.2.1
  · rw [ar_v (gw9 4 (by decide)), ar_v (gw8 4 (by decide)), ar_v (va 4), ar_v (gw7 4 (by decide)), ar_v (gw6 4 (by decide)), ar_v (gv5 4 (by decide)), gr4]
  · rw [ar_v (gw9 5 (by decide)), ar_v (gw8 5 (by decide)), ar_v (va 5), ar_v (gw7 5 (by decide)), ar_v (gw6 5 (by decide)), gr5]
  · unfold ax_i
    rw [gv9]
  · rw [cell _ (by omega) (by omega) (by omega) (by omega) (by omega)]
    exact gs1
  · unfold ax_r ax_v at gr1 ⊢
    rw [cell _ (by omega) (by omega) (by omega) (by omega) (by omega)]
    exact gr1
  · rw [cell _ (by omega) (by omega) (by omega) (by omega) (by omega), gc1]
    rfl
  · rw [gq9 _ (by omega), gq8 _ (by omega), Q _ (by omega) (by omega), gq7 _ (by omega), gq6 _ (by omega), gq5 _ (by omega) (by omega), show a + 4 = a + 1 + 3 from rfl, gb4]
    rfl
  · rw [gq9 _ (by omega), gq8 _ (by omega), Q _ (by omega) (by omega), gq7 _ (by omega), gq6 _ (by omega), show a + 5 = a + 1 + 4 from rfl, gb5]
    rfl
  · rw [gq9 q (by omega), gq8 q (by omega), Q q (by omega) (by omega), gq7 q (by omega), gq6 q (by omega), gq5 q (by omega) (by omega), gq4 q (by omega) (by omega), gq3 q (by omega) (by omega), gq2 q (by omega), E1 q (by omega) (by omega)]
