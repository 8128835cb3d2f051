/-! growFork: a digit's turn. -/
theorem hf3_len {W X Y : List Int32} : (W ++ X).length ≤ (W ++ X ++ Y).length := by
  rw [List.length_append (as := W ++ X)]
  omega
set_option maxHeartbeats 4000000 in
theorem fk_step {gr : pl_H → Nat → Int32 → Int32 → Int32 → Option (Nat × pl_H)} {D : Nat} (ok : gr_does gr D) {f1 f : pl_H} {n c : Nat} {m : am_M} {W X : List Int32} {T T1 a b d e s : Nat} {G : Nat → Prop} (hd : d < 4) (hD : 5 ≤ d + 1 + D) (hbc : b ≤ c) (hst : gs_st G d) (hn : ¬ gs_st G (d + 1)) (hT : T + 3 * (b - a) ≤ 37) (hW : W.length + 147 * (b - a) ≤ 1900) (he : e < 16) (h : fk_I m f1 n c W T a b d D G f e s X T1) (hG : gr_G f n a b G) (rc : pl_H → Nat → Int32 → Int32 → Nat → Int32 → Int32 → Option (Nat × pl_H)) : ∃ (f' : pl_H) (s' : Nat) (X' : List Int32) (T1' : Nat), fn_T_growFork_27 gr rc pl_N f (n + 9) (nI b) (nI d) (n + 15 + 2 * T) (nI s) (nI e) (nI s) = rc f' (n + 9) (nI b) (nI d) (n + 15 + 2 * T) (nI s') (nI (e + 1)) ∧ fk_I m f1 n c W T a b d D G f' (e + 1) s' X' T1' := by
  obtain ⟨hw, hfr, hown, ⟨has, hsb⟩, hlo, hhi, ⟨hB1, hB2, hB3, hB4, hB5⟩, hch, hcn⟩ := h
  have hb := hw.1
  have hc := hb.2.2.1
  obtain ⟨to, g1, g2, g3, g4, g5⟩ := fk_27 (gr := gr) (rc := rc) (a4 := n + 15 + 2 * T) (s := s) hb hw.2.2.1 hbc hd he (b - s) pl_N s rfl hsb (by unfold pl_N; omega)
  have inG : ∀ j, a ≤ j → j < b → G (nu f n j) := fun j h1 h2 => (hG _).mpr ⟨j, h1, h2, rfl⟩
  have hhi' : ∀ j, to ≤ j → j < b → e + 1 ≤ dg (nu f n j) d := fun j h1 h2 => by
    have a1 := hhi to g2 (by omega)
    have a2 := g5 (by omega)
    have a3 := dg_mono hd (hst _ _ (inG to (by omega) (by omega)) (inG j (by omega) h2)) (nu_le hb h1 (by omega))
    omega
  have hlo' : ∀ j, a ≤ j → j < to → dg (nu f n j) d < e + 1 := fun j h1 h2 => by
    rcases Nat.lt_or_ge j s with z | z
    · have := hlo j h1 z
      omega
    · have := g4 j z h2
      omega
  have hGc : gr_G f n s to (gs_d G d e) := fun y => by
    constructor
    · rintro ⟨y1, y2⟩
      obtain ⟨j, j1, j2, rfl⟩ := (hG y).mp y1
      refine ⟨j, ?_, ?_, rfl⟩
      · rcases Nat.lt_or_ge j s with z | z
        · have := hlo j j1 z
          omega
        · exact z
      · rcases Nat.lt_or_ge j to with z | z
        · exact z
        · have := hhi' j z j2
          omega
    · rintro ⟨j, j1, j2, rfl⟩
      exact ⟨inG j (by omega) (by omega), g4 j j1 j2⟩
  have hrs := rn_s G d e
  rw [g1]
  unfold fn_T_growFork_57 fn_T_growFork_83
  rcases Nat.lt_or_ge s to with hlt | hge
  · -- a child
    have hex : ∃ y, gs_d G d e y := ⟨nu f n s, (hGc _).mpr ⟨s, Nat.le_refl _, hlt, rfl⟩⟩
    rw [cif_pos hex] at hrs
    rw [if_neg (fun z => absurd ((bs_le (by omega) (by omega)).mp z) (by omega))]
    have hTc : T1 + 3 * (to - s) ≤ 36 := by
      rcases Nat.lt_or_ge a s with z | z
      · have := hB5 z
        omega
      · have hs : s = a := by omega
        rcases Nat.lt_or_ge to b with w | w
        · omega
        · exfalso
          refine hn (fun y z hy hz => (ag_s hd).mpr ⟨hst y z hy hz, ?_⟩)
          obtain ⟨i, i1, i2, rfl⟩ := (hG y).mp hy
          obtain ⟨j, j1, j2, rfl⟩ := (hG z).mp hz
          rw [g4 i (by omega) (by omega), g4 j (by omega) (by omega)]
    have nWX : (W ++ X).length = W.length + X.length := List.length_append
    have hstc : gs_st (gs_d G d e) (d + 1) := fun y z hy hz => (ag_s hd).mpr ⟨hst y z hy.1 hz.1, by rw [hy.2, hz.2]⟩
    obtain ⟨f2, Y, T2, p2, w2, r2, c1, c2, c3, -, c5, c6⟩ := ok f n c m (W ++ X) T1 s to (d + 1) (gs_d G d e) ⟨hw, hlt, by omega, by omega, hD, hGc, hstc, by omega, fun _ => hTc, by omega⟩
    have hT2 := w2.2.2.2.2.2
    have hN2 := w2.2.2.1.2.2.2.2.2.2
    have l3 := tr_uQ w2.2.2.1 (b := n + 16 + 2 * T) (k := e) (by omega) (some (n + 15 + 2 * T1))
    have k3 : bs_kp (fun q => q = n + 16 + 2 * T) f2 (ux_Q f2 (n + 16 + 2 * T) e (some (n + 15 + 2 * T1))) := bs_kp.Q rfl
    have w3 : gw (ux_Q f2 (n + 16 + 2 * T) e (some (n + 15 + 2 * T1))) n c m (W ++ X ++ Y) T2 := gw_tree w2 l3 (k3.mono (fun q hq => by omega)) (by
      rw [ix_v (rx_v_Q ..)]
      exact w2.2.2.2.2.1) hT2
    have eQ : ∀ e', ax_Q (ux_Q f2 (n + 16 + 2 * T) e (some (n + 15 + 2 * T1))) (n + 16 + 2 * T) e' = if e' = e then some (n + 15 + 2 * T1) else ax_Q f (n + 16 + 2 * T) e' := fun e' => by
      rw [rx_Q (hN2 T (by omega)).2.2]
      by_cases z : e' = e
      · rw [if_pos z, z]
        exact va_up_self _ _ _
      · rw [if_neg z, va_up_ne _ _ z]
        unfold ax_Q
        rw [r2.2.1 (n + 16 + 2 * T) (by omega) (by omega)]
    have hl3 := hf3_len (W := W) (X := X) (Y := Y)
    generalize hf3 : ux_Q f2 (n + 16 + 2 * T) e (some (n + 15 + 2 * T1)) = f3 at l3 k3 w3 eQ
    have F23 : fr n T f2 f3 := ⟨k3.mono (fun q hq => by unfold gw_S; omega), fun q a b => k3 q (by omega), fun k _ => by unfold ax_v; rw [k3 (n + 9) (by omega)]⟩
    have F03 : fr n T f f3 := (r2.mono (by omega)).tr F23 (Nat.le_refl _)
    have en : ∀ j, nu f3 n j = nu f n j := nu_kp (fr_2 F03)
    have low : ∀ q, n + 15 + 2 * (T + 1) ≤ q → q < n + 15 + 2 * T1 → f3 q = f q := fun q h1 h2 => by rw [k3 q (by omega), r2.2.1 q (by omega) (by omega)]
    refine ⟨f3, to, X ++ Y, T2, ?_, by rw [← List.append_assoc]; exact w3, hfr.tr F03 (Nat.le_refl _), ?_, ⟨by omega, g3⟩, fun j h1 h2 => by rw [en]; exact hlo' j h1 h2, fun j h1 h2 => by rw [en]; exact hhi' j h1 h2, ⟨by omega, by omega, by rw [List.length_append]; omega, by omega, fun _ => by omega⟩, fun e' he' => ⟨fun z => ?_, fun z => ?_⟩, fun kd hkd => ?_⟩
    · rw [nd_0 (hw.2.2.1.2.2.2.2.2.2 T (by omega)), Option.bind_some, ax_is hw.2.2.1.1, Option.bind_some, show nI d + 1 = nI (d + 1) from nI_add d 1, p2, Option.bind_some]
      rw [bs_sQ (hN2 T (by omega)).2.2 (by omega) (by decide) (fun v hv => by cases hv; exact ax_is (hN2 T1 (by omega)).1), Option.bind_some, hf3, show nI e + 1 = nI (e + 1) from nI_add e 1]
    · rw [k3 _ (by omega), r2.2.1 _ (by omega) (by omega)]
      exact hown
    · rw [eQ e']
      by_cases ze : e' = e
      · rw [if_pos ze]
        subst ze
        refine ⟨fun _ => ⟨T1, rfl, ?_⟩, fun w => absurd hex w⟩
        exact nd_R_kp (lo0 := T1) (fun q a b => k3 q (by omega)) (by rw [← List.append_assoc]; exact Nat.le_refl _) (fun j x hx => by rw [← List.append_assoc]; exact hx) (Nat.le_refl _) D T1 (T + 1) T1 _ _ (Nat.le_refl _) (by omega) c5
      · rw [if_neg ze]
        have hc' := (hch e' he').1 (by omega)
        refine ⟨fun w => ?_, hc'.2⟩
        obtain ⟨i', i1, i2⟩ := hc'.1 w
        refine ⟨i', i1, ?_⟩
        exact nd_R_kp (lo0 := T + 1) low (by rw [← List.append_assoc]; exact hl3) (fun j x hx => by rw [← List.append_assoc]; exact ap_pre hx) (by omega) D (T + 1) (T + 1) i' _ _ (Nat.le_refl _) (Nat.le_refl _) i2
    · rw [eQ e', if_neg (by omega)]
      exact (hch e' he').2 (by omega)
    · have e3 : ax_I f3 (n + 13) = ax_I f2 (n + 13) := by unfold ax_I; rw [k3 (n + 13) (by omega)]
      rw [e3, c6 kd hkd, hcn kd hkd, Int32.add_assoc, nI_add]
      show _ = _ + nI (nc_s G d (fun G' => nc kd G' (d + 1)) e + cif (∃ y, gs_d G d e y) (nc kd (gs_d G d e) (d + 1)) 0)
      rw [cif_pos hex]
  · -- none
    have hto : to = s := by omega
    subst hto
    have hex : ¬ ∃ y, gs_d G d e y := by
      rintro ⟨y, hy⟩
      obtain ⟨j, j1, j2, -⟩ := (hGc y).mp hy
      omega
    rw [cif_neg hex] at hrs
    rw [if_pos ((bs_le (by omega) (by omega)).mpr (Nat.le_refl _)), show nI e + 1 = nI (e + 1) from nI_add e 1]
    refine ⟨f, to, X, T1, rfl, hw, hfr, hown, ⟨has, hsb⟩, hlo', hhi', ⟨hB1, by omega, by omega, by omega, fun z => by have := hB5 z; omega⟩, fun e' he' => ⟨fun z => ?_, fun z => ?_⟩, fun kd hkd => ?_⟩
    · by_cases ze : e' = e
      · subst ze
        exact ⟨fun w => absurd w hex, fun _ => (hch e' he').2 (Nat.le_refl _)⟩
      · exact (hch e' he').1 (by omega)
    · exact (hch e' he').2 (by omega)
    · rw [hcn kd hkd]
      show _ = _ + nI (nc_s G d (fun G' => nc kd G' (d + 1)) e + cif (∃ y, gs_d G d e y) (nc kd (gs_d G d e) (d + 1)) 0)
      rw [cif_neg hex]
      rfl
