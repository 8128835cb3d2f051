/-! prove: the class's way down the tree. -/
noncomputable def pv_p (m : am_M) (G : Nat → Prop) (d : Nat) : List (List Int32) := if (sc m G d).length < 32 then [] else [sc m G d]
/-- the parts below a node, on the way of x -/
noncomputable def pv_n (m : am_M) (x : Nat) : Nat → (Nat → Prop) → Nat → List (List Int32)
  | 0, _, _ => []
  | j + 1, G, d => cif (gs_one G ∨ 4 ≤ d) [] (cif (d < gs_to G) (cif (∃ y, G y ∧ ag x y (gs_to G)) (pv_p m G (gs_to G) ++ pv_n m x j G (gs_to G)) []) (cif (∃ y, gs_d G d (dg x d) y) (pv_p m (gs_d G d (dg x d)) (d + 1) ++ pv_n m x j (gs_d G d (dg x d)) (d + 1)) []))
theorem pv_fuel (m : am_M) (x : Nat) : ∀ (j j' : Nat) (G : Nat → Prop) (d : Nat), d ≤ 4 → 5 ≤ d + j → 5 ≤ d + j' → pv_n m x j G d = pv_n m x j' G d := by
  intro j
  induction j with
  | zero => intro j' G d h1 h2 h3; omega
  | succ j ih =>
    intro j' G d h1 h2 h3
    obtain ⟨j', rfl⟩ : ∃ k, j' = k + 1 := ⟨j' - 1, by omega⟩
    show cif _ _ _ = cif _ _ _
    by_cases c1 : gs_one G ∨ 4 ≤ d
    · rw [cif_pos c1, cif_pos c1]
    · rw [cif_neg c1, cif_neg c1]
      have hd : ¬ 4 ≤ d := fun z => c1 (Or.inr z)
      by_cases c2 : d < gs_to G
      · rw [cif_pos c2, cif_pos c2, ih j' G (gs_to G) (gs_to_le G) (by omega) (by omega)]
      · rw [cif_neg c2, cif_neg c2, ih j' _ (d + 1) (by omega) (by omega) (by omega)]
theorem hd_5e (k : Nat) (f : pl_H) (a : Nat) (x1 x2 : Int32) : fn_N_hasDigitsOf_5 (k + 1) f a x1 x2 = (pl_gI f a 3 4).bind fun v1 => if v1 ≤ x2 then pl_z 1 else (fn_L_digit f x1 x2).bind fun v2 => (pl_gI f a 3 2).bind fun v3 => (fn_L_digit f v3 x2).bind fun v4 => if v2 = v4 then fn_N_hasDigitsOf_5 k f a x1 (x2 + 1) else pl_z 0 := rfl
theorem hd_5 {f : pl_H} {n i x y e : Nat} (hN : nd_L f n i) (hx : x < 65536) (hy : y < 65536) (he : e ≤ 4) (h2 : ax_i f (n + 15 + 2 * i) 2 = nI y) (h4 : ax_i f (n + 15 + 2 * i) 4 = nI e) : ∀ (j k t : Nat), e - t = j → t ≤ e → j < k → ag x y t → ∃ r, fn_N_hasDigitsOf_5 k f (n + 15 + 2 * i) (nI x) (nI t) = some r ∧ (r = 0 ↔ ¬ ag x y e) := by
  intro j
  induction j with
  | zero =>
    intro k t hj ht hk h
    obtain ⟨k, rfl⟩ : ∃ k', k = k' + 1 := ⟨k - 1, by omega⟩
    have e1 : t = e := by omega
    subst e1
    refine ⟨1, ?_, ⟨fun z => absurd z (by decide), fun z => absurd h z⟩⟩
    rw [hd_5e, nd_g hN (by decide), h4, Option.bind_some, if_pos ((bs_le (by omega) (by omega)).mpr (Nat.le_refl _))]
    rfl
  | succ j ih =>
    intro k t hj ht hk h
    obtain ⟨k, rfl⟩ : ∃ k', k = k' + 1 := ⟨k - 1, by omega⟩
    have d1 := dg_lt x t
    have d2 := dg_lt y t
    rw [hd_5e, nd_g hN (by decide), h4, Option.bind_some, if_neg (fun z => absurd ((bs_le (by omega) (by omega)).mp z) (by omega)), dg_at f hx (by omega), Option.bind_some, nd_g hN (by decide), h2, Option.bind_some, dg_at f hy (by omega), Option.bind_some]
    by_cases hd : dg x t = dg y t
    · rw [if_pos (by rw [hd]), show nI t + 1 = nI (t + 1) from nI_add t 1]
      exact ih k (t + 1) (by omega) (by omega) (by omega) ((ag_s (by omega)).mpr ⟨h, hd⟩)
    · rw [if_neg (fun z => hd ((nI_eq (by omega) (by omega)).mp z))]
      exact ⟨0, rfl, ⟨fun _ z => hd (ag_dg (by omega) he z), fun _ => rfl⟩⟩
theorem nx_R {m : am_M} {f : pl_H} {n T : Nat} {W : List Int32} {j lo i x d : Nat} {G : Nat → Prop} (hT : T ≤ 34) (hL : tr_L f n) (h : nd_R m f n W T (j + 1) lo i G d) (hx : x < 65536) (hd : d ≤ 4) (hst : gs_st G (gs_to G)) (hag : ∀ y, G y → ag x y d) : ∃ r, fn_N_next f (n + 15 + 2 * i) (nI x) = some r ∧ ((r = none ∧ pv_n m x (j + 1) G d = []) ∨ ∃ i' G' d', r = some (n + 15 + 2 * i') ∧ d < d' ∧ d' ≤ 4 ∧ nd_R m f n W T j lo i' G' d' ∧ (∀ y, G' y → ag x y d') ∧ (∃ y, G' y) ∧ (∀ y, G' y → G y) ∧ pv_n m x (j + 1) G d = pv_p m G' d' ++ pv_n m x j G' d') := by
  obtain ⟨a1, a2, a3, a4, a5, a6⟩ := h
  have hN := hL.2.2.2.2.2.2 i (by omega)
  have epv : pv_n m x (j + 1) G d = cif (gs_one G ∨ 4 ≤ d) [] (cif (d < gs_to G) (cif (∃ y, G y ∧ ag x y (gs_to G)) (pv_p m G (gs_to G) ++ pv_n m x j G (gs_to G)) []) (cif (∃ y, gs_d G d (dg x d) y) (pv_p m (gs_d G d (dg x d)) (d + 1) ++ pv_n m x j (gs_d G d (dg x d)) (d + 1)) [])) := rfl
  unfold fn_N_next fn_N_next_47 fn_N_next_48
  rw [epv, nd_g hN (by decide), Option.bind_some]
  rcases a6 with ⟨b1, b2⟩ | ⟨b1, b2, b3, ⟨y, y1, y2, y3⟩, b5, i', b6, b7⟩ | ⟨b1, b2, b3, b4⟩
  · rw [b2, if_neg (by decide), Option.bind_some, if_neg (by decide), cif_pos b1]
    exact ⟨none, rfl, Or.inl ⟨rfl, rfl⟩⟩
  · rw [b3, if_neg (by decide), Option.bind_some, if_pos rfl, cif_neg b1, cif_pos b2]
    have hto := gs_to_le G
    obtain ⟨r, r1, r2⟩ := hd_5 hN hx y1 hto y3 b5 (gs_to G - d) pl_N d rfl (by omega) (by unfold pl_N; omega) (hag y y2)
    unfold fn_N_hasDigitsOf
    rw [ax_is hN.1, Option.bind_some, nd_g hN (by decide), a4, Option.bind_some, r1, Option.bind_some]
    by_cases hr : r = 0
    · rw [if_pos hr, cif_neg]
      · exact ⟨none, rfl, Or.inl ⟨rfl, rfl⟩⟩
      · rintro ⟨z, z1, z2⟩
        exact r2.mp hr (ag_tr z2 (hst z y z1 y2))
    · rw [if_neg hr, nd_0 hN, Option.bind_some, show (0 : Int32) = nI 0 from rfl, bs_aQ hN.2.2 (by decide) (by decide), Option.bind_some]
      have hagy : ag x y (gs_to G) := Classical.byContradiction fun z => hr (r2.mpr z)
      rw [cif_pos ⟨y, y2, hagy⟩]
      exact ⟨_, rfl, Or.inr ⟨i', G, gs_to G, b6, b2, hto, b7, fun z hz => ag_tr hagy (hst y z y2 hz), ⟨y, y2⟩, fun _ hz => hz, rfl⟩⟩
  · have hd4 : d < 4 := by
      rcases Nat.lt_or_ge d 4 with z | z
      · exact z
      · exact absurd (Or.inr z) b1
    have hdl := dg_lt x d
    rw [b3, if_pos rfl, cif_neg b1, cif_neg b2, nd_0 hN, Option.bind_some, nd_g hN (by decide), a4, Option.bind_some, dg_at f hx hd4, Option.bind_some, bs_aQ hN.2.2 hdl (by decide), Option.bind_some]
    by_cases hex : ∃ y, gs_d G d (dg x d) y
    · obtain ⟨i', c1, c2⟩ := (b4 _ hdl).1 hex
      rw [cif_pos hex]
      exact ⟨_, rfl, Or.inr ⟨i', _, d + 1, c1, by omega, by omega, c2, fun z hz => (ag_s hd4).mpr ⟨hag z hz.1, hz.2.symm⟩, hex, fun _ hz => hz.1, rfl⟩⟩
    · rw [cif_neg hex]
      exact ⟨_, rfl, Or.inl ⟨(b4 _ hdl).2 hex, rfl⟩⟩
