/-! What a grown node is; growLeaf. -/
theorem cd_hd_1 {k : Int32} {len : Nat} (h : len ≤ 55) : (cd_hd k len).length = 1 := by
  unfold cd_hd
  rw [if_pos h]
  rfl
theorem cd_enc_1 {k : Int32} {B : List Int32} (h : B.length ≤ 55) : (cd_enc k B).length ≤ B.length + 1 := by
  unfold cd_enc
  split
  · rw [List.length_append, cd_hd_1 h]
    omega
  · omega
theorem nb_len (v : Int64) : (nb v).length ≤ 9 := by
  have h1 := nb_l_l v 8 false
  have h2 := cd_enc_1 (k := 128) (B := nb_l v 8 false) (by omega)
  unfold nb
  omega
theorem sc_leaf_l (m : am_M) (x d : Nat) : (sc_leaf m x d).length ≤ 25 := by
  have h1 := dg_p_l x d 4 2
  have h2 := cd_enc_1 (k := 128) (B := dg_p x d 4 2) (by omega)
  have h3 := nb_len (am_n m (nI x)).toInt64
  have h4 := nb_len (am_b m (nI x))
  have h5 : (nb (am_n m (nI x)).toInt64 ++ nb (am_b m (nI x))).length ≤ 18 := by rw [List.length_append]; omega
  have h6 := cd_enc_1 (k := 192) (B := nb (am_n m (nI x)).toInt64 ++ nb (am_b m (nI x))) (by omega)
  have h7 := cd_enc_1 (k := 128) (B := cd_enc 192 (nb (am_n m (nI x)).toInt64 ++ nb (am_b m (nI x)))) (by omega)
  have h8 : (cd_enc 128 (dg_p x d 4 2) ++ cd_enc 128 (cd_enc 192 (nb (am_n m (nI x)).toInt64 ++ nb (am_b m (nI x))))).length ≤ 24 := by rw [List.length_append]; omega
  have h9 := cd_enc_1 (k := 192) (B := cd_enc 128 (dg_p x d 4 2) ++ cd_enc 128 (cd_enc 192 (nb (am_n m (nI x)).toInt64 ++ nb (am_b m (nI x))))) (by omega)
  unfold sc_leaf
  omega
/-- a grown node, and what stands below it -/
def nd_R (m : am_M) (f : pl_H) (n : Nat) (W : List Int32) (T : Nat) : Nat → Nat → Nat → (Nat → Prop) → Nat → Prop
  | 0, _, _, _, _ => False
  | j + 1, lo, i, G, d => lo ≤ i ∧ i < T ∧ nd_C f n i W (sc m G d) ∧ ax_i f (n + 15 + 2 * i) 3 = nI d ∧ (sc m G d).length ≤ 404 ∧ (((gs_one G ∨ 4 ≤ d) ∧ ax_i f (n + 15 + 2 * i) 1 = 0) ∨ (¬ (gs_one G ∨ 4 ≤ d) ∧ d < gs_to G ∧ ax_i f (n + 15 + 2 * i) 1 = 1 ∧ (∃ y, y < 65536 ∧ G y ∧ ax_i f (n + 15 + 2 * i) 2 = nI y) ∧ ax_i f (n + 15 + 2 * i) 4 = nI (gs_to G) ∧ ∃ i', ax_Q f (n + 16 + 2 * i) 0 = some (n + 15 + 2 * i') ∧ nd_R m f n W T j lo i' G (gs_to G)) ∨ (¬ (gs_one G ∨ 4 ≤ d) ∧ ¬ d < gs_to G ∧ ax_i f (n + 15 + 2 * i) 1 = 2 ∧ ∀ e, e < 16 → ((∃ y, gs_d G d e y) → ∃ i', ax_Q f (n + 16 + 2 * i) e = some (n + 15 + 2 * i') ∧ nd_R m f n W T j lo i' (gs_d G d e) (d + 1)) ∧ ((¬ ∃ y, gs_d G d e y) → ax_Q f (n + 16 + 2 * i) e = none)))
theorem nd_C_kp {f f' : pl_H} {n i : Nat} {W W' C : List Int32} (h : nd_C f n i W C) (hi : ax_i f' (n + 15 + 2 * i) 5 = ax_i f (n + 15 + 2 * i) 5 ∧ ax_i f' (n + 15 + 2 * i) 6 = ax_i f (n + 15 + 2 * i) 6) (hl : W.length ≤ W'.length) (hW : ∀ (j : Nat) (x : Int32), W[j]? = some x → W'[j]? = some x) : nd_C f' n i W' C := by
  obtain ⟨b, h1, h2, h3, h4⟩ := h
  exact ⟨b, hi.1.trans h1, hi.2.trans h2, by omega, fun j x hx => hW _ _ (h4 j x hx)⟩
theorem nd_R_kp {m : am_M} {f f' : pl_H} {n T T' lo0 : Nat} {W W' : List Int32} (hk : ∀ q, n + 15 + 2 * lo0 ≤ q → q < n + 15 + 2 * T → f' q = f q) (hl : W.length ≤ W'.length) (hW : ∀ (j : Nat) (x : Int32), W[j]? = some x → W'[j]? = some x) (hT : T ≤ T') : ∀ (j lo lo' i : Nat) (G : Nat → Prop) (d : Nat), lo0 ≤ lo → lo' ≤ lo → nd_R m f n W T j lo i G d → nd_R m f' n W' T' j lo' i G d := by
  intro j
  induction j with
  | zero => intro lo lo' i G d _ _ h; exact h
  | succ j ih =>
    intro lo lo' i G d h0 h1 h
    obtain ⟨a1, a2, a3, a4, a5, a6⟩ := h
    have e0 := hk (n + 15 + 2 * i) (by omega) (by omega)
    have e1 := hk (n + 16 + 2 * i) (by omega) (by omega)
    have ei : ∀ k, ax_i f' (n + 15 + 2 * i) k = ax_i f (n + 15 + 2 * i) k := fun k => by unfold ax_i ax_v; rw [e0]
    have eQ : ∀ k, ax_Q f' (n + 16 + 2 * i) k = ax_Q f (n + 16 + 2 * i) k := fun k => by unfold ax_Q; rw [e1]
    refine ⟨by omega, by omega, nd_C_kp a3 ⟨ei 5, ei 6⟩ hl hW, by rw [ei]; exact a4, a5, ?_⟩
    rw [ei, ei, ei]
    rcases a6 with b | ⟨b1, b2, b3, b4, b5, i', b6, b7⟩ | ⟨b1, b2, b3, b4⟩
    · exact Or.inl b
    · exact Or.inr (Or.inl ⟨b1, b2, b3, b4, b5, i', by rw [eQ]; exact b6, ih lo lo' i' G _ h0 h1 b7⟩)
    · refine Or.inr (Or.inr ⟨b1, b2, b3, fun e he => ⟨fun z => ?_, fun z => ?_⟩⟩)
      · obtain ⟨i', c1, c2⟩ := (b4 e he).1 z
        exact ⟨i', by rw [eQ]; exact c1, ih lo lo' i' _ _ h0 h1 c2⟩
      · rw [eQ]
        exact (b4 e he).2 z
/-- how many nodes of a kind -/
noncomputable def nc_s (G : Nat → Prop) (d : Nat) (s : (Nat → Prop) → Nat) : Nat → Nat
  | 0 => 0
  | e + 1 => nc_s G d s e + cif (∃ y, gs_d G d e y) (s (gs_d G d e)) 0
noncomputable def nc_n (k : Nat) : Nat → (Nat → Prop) → Nat → Nat
  | 0, _, _ => 0
  | j + 1, G, d => cif (gs_one G ∨ 4 ≤ d) (if k = 0 then 1 else 0) (cif (d < gs_to G) ((if k = 1 then 1 else 0) + nc_n k j G (gs_to G)) ((if k = 2 then 1 else 0) + nc_s G d (fun G' => nc_n k j G' (d + 1)) 16))
theorem nc_fuel (k : Nat) : ∀ (j j' : Nat) (G : Nat → Prop) (d : Nat), d ≤ 4 → 5 ≤ d + j → 5 ≤ d + j' → nc_n k j G d = nc_n k j' G d := by
  intro j
  induction j with
  | zero => intro j' G d h1 h2 h3; omega
  | succ j ih =>
    intro j' G d h1 h2 h3
    obtain ⟨j', rfl⟩ : ∃ k, j' = k + 1 := ⟨j' - 1, by omega⟩
    show cif _ _ _ = cif _ _ _
    by_cases c1 : gs_one G ∨ 4 ≤ d
    · rw [cif_pos c1, cif_pos c1]
    · rw [cif_neg c1, cif_neg c1]
      have hd : ¬ 4 ≤ d := fun z => c1 (Or.inr z)
      by_cases c2 : d < gs_to G
      · rw [cif_pos c2, cif_pos c2, ih j' G (gs_to G) (gs_to_le G) (by omega) (by omega)]
      · rw [cif_neg c2, cif_neg c2]
        have e : (fun G' => nc_n k j G' (d + 1)) = (fun G' => nc_n k j' G' (d + 1)) := funext fun G' => ih j' G' (d + 1) (by omega) (by omega) (by omega)
        rw [e]
noncomputable def nc (k : Nat) (G : Nat → Prop) (d : Nat) : Nat := nc_n k 5 G d
theorem nc_L {k : Nat} {G : Nat → Prop} {d : Nat} (h : gs_one G ∨ 4 ≤ d) : nc k G d = if k = 0 then 1 else 0 := by
  show cif _ _ _ = _
  rw [cif_pos h]
theorem nc_S {k : Nat} {G : Nat → Prop} {d : Nat} (h : ¬ (gs_one G ∨ 4 ≤ d)) (h2 : d < gs_to G) : nc k G d = (if k = 1 then 1 else 0) + nc k G (gs_to G) := by
  show cif _ _ _ = _
  rw [cif_neg h, cif_pos h2]
  have := nc_fuel k 4 5 G (gs_to G) (gs_to_le G) (by omega) (by omega)
  unfold nc
  rw [this]
theorem nc_F {k : Nat} {G : Nat → Prop} {d : Nat} (h : ¬ (gs_one G ∨ 4 ≤ d)) (h2 : ¬ d < gs_to G) : nc k G d = (if k = 2 then 1 else 0) + nc_s G d (fun G' => nc k G' (d + 1)) 16 := by
  show cif _ _ _ = _
  rw [cif_neg h, cif_neg h2]
  have hd : ¬ 4 ≤ d := fun z => h (Or.inr z)
  have e : (fun G' => nc_n k 4 G' (d + 1)) = (fun G' => nc k G' (d + 1)) := funext fun G' => nc_fuel k 4 5 G' (d + 1) (by omega) (by omega) (by omega)
  rw [e]
set_option maxHeartbeats 2000000 in
theorem gw_leaf {f : pl_H} {n c T x d : Nat} {m : am_M} {W : List Int32} (h : gw f n c m W T) (hT : T < 34) (hx : x < 65536) (hd : d ≤ 4) (hW : W.length + 60 ≤ 2176) : ∃ f', fn_T_growLeaf f (n + 9) (nI x) (nI d) = some (n + 15 + 2 * T, f') ∧ gw f' n c m (W ++ sc_leaf m x d) (T + 1) ∧ fr n T f f' ∧ ax_I f' (n + 13) = upd (ax_I f (n + 13)) 0 (ax_I f (n + 13) 0 + 1) ∧ nd_C f' n T (W ++ sc_leaf m x d) (sc_leaf m x d) ∧ ax_i f' (n + 15 + 2 * T) 1 = 0 ∧ ax_i f' (n + 15 + 2 * T) 3 = nI d := by
  obtain ⟨f1, p1, w1, r1, q1, ⟨t1, t2, t3, t4⟩, -⟩ := gw_take h hT (kd := 0) (by decide) (nI x) (nI d) 4
  have l1 := dg_p_l x d 4 2
  have l2 := cd_enc_1 (k := 128) (B := dg_p x d 4 2) (by omega)
  have l3 := nb_len (am_n m (nI x)).toInt64
  have l4 := nb_len (am_b m (nI x))
  generalize hE : cd_enc 128 (dg_p x d 4 2) = E at l2
  generalize hA : nb (am_n m (nI x)).toInt64 = A at l3
  generalize hB : nb (am_b m (nI x)) = B at l4
  have hleaf : sc_leaf m x d = cd_enc 192 (E ++ cd_enc 128 (cd_enc 192 (A ++ B))) := by
    unfold sc_leaf
    rw [hE, hA, hB]
  obtain ⟨f2, p2, c2, k2⟩ := cd_open w1.2.2.2.1 (by omega)
  obtain ⟨w2, r2, q2, -⟩ := gw_code w1 c2 k2
  obtain ⟨f3, p3, c3, k3⟩ := cd_dig w2.2.2.2.1 hx hd (Nat.le_refl 4) (by rw [List.length_append]; show W.length + 3 + 10 ≤ 2176; omega) 1 (fl := 2) rfl
  rw [hE] at c3
  obtain ⟨w3, r3, q3, -⟩ := gw_code w2 c3 k3
  have n3 : (W ++ [0, 0, 0] ++ E : List Int32).length = W.length + 3 + E.length := by rw [List.length_append, List.length_append]; rfl
  obtain ⟨f4, p4, c4, k4⟩ := cd_open w3.2.2.2.1 (by omega)
  obtain ⟨w4, r4, q4, -⟩ := gw_code w3 c4 k4
  have n4 : (W ++ [0, 0, 0] ++ E ++ [0, 0, 0] : List Int32).length = W.length + 3 + E.length + 3 := by rw [List.length_append, n3]; rfl
  obtain ⟨f5, p5, c5, k5⟩ := cd_open w4.2.2.2.1 (by omega)
  obtain ⟨w5, r5, q5, -⟩ := gw_code w4 c5 k5
  have n5 : (W ++ [0, 0, 0] ++ E ++ [0, 0, 0] ++ [0, 0, 0] : List Int32).length = W.length + 3 + E.length + 6 := by rw [List.length_append, n4]; rfl
  obtain ⟨f6, p6, c6, k6⟩ := cd_num w5.2.2.2.1 (by omega) (am_n m (nI x)).toInt64
  rw [hA] at c6
  obtain ⟨w6, r6, q6, -⟩ := gw_code w5 c6 k6
  have n6 : (W ++ [0, 0, 0] ++ E ++ [0, 0, 0] ++ [0, 0, 0] ++ A : List Int32).length = W.length + 3 + E.length + 6 + A.length := by rw [List.length_append, n5]
  obtain ⟨f7, p7, c7, k7⟩ := cd_num w6.2.2.2.1 (by omega) (am_b m (nI x))
  rw [hB] at c7
  obtain ⟨w7, r7, q7, -⟩ := gw_code w6 c7 k7
  obtain ⟨f8, p8, c8, k8⟩ := cd_shut (U := W ++ [0, 0, 0] ++ E ++ [0, 0, 0]) (H := [0, 0, 0]) (B := A ++ B) (by rw [← List.append_assoc]; exact c7) rfl 192
  obtain ⟨w8, r8, q8, -⟩ := gw_code w7 c8 k8
  obtain ⟨f9, p9, c9, k9⟩ := cd_shut (U := W ++ [0, 0, 0] ++ E) (H := [0, 0, 0]) (B := cd_enc 192 (A ++ B)) c8 rfl 128
  obtain ⟨w9, r9, q9, -⟩ := gw_code w8 c9 k9
  obtain ⟨fa, pa, ca, ka⟩ := cd_shut (U := W) (H := [0, 0, 0]) (B := E ++ cd_enc 128 (cd_enc 192 (A ++ B))) (by rw [← List.append_assoc]; exact c9) rfl 192
  obtain ⟨wa, ra, qa, -⟩ := gw_code w9 ca ka
  rw [← hleaf] at wa
  obtain ⟨fb, pb, wb, kb, b1, b2, b3⟩ := gw_finish wa hT (b := W.length) (by rw [List.length_append]; omega)
  have R : fr n 34 f1 fa := ((((((((r2.tr r3 (Nat.le_refl _)).tr r4 (Nat.le_refl _)).tr r5 (Nat.le_refl _)).tr r6 (Nat.le_refl _)).tr r7 (Nat.le_refl _)).tr r8 (Nat.le_refl _)).tr r9 (Nat.le_refl _)).tr ra (Nat.le_refl _))
  have eN := R.2.1 (n + 15 + 2 * T) (by omega) (by omega)
  have ek : ∀ k, k ≠ 5 → k ≠ 6 → ax_i fb (n + 15 + 2 * T) k = ax_i f1 (n + 15 + 2 * T) k := fun k a b => by
    rw [ix_v (b3 k a b)]
    unfold ax_i ax_v
    rw [eN]
  refine ⟨fb, ?_, wb, ?_, ?_, ⟨W.length, b1, ?_, ?_, fun j x hx => ?_⟩, by rw [ek 1 (by decide) (by decide)]; exact t1, by rw [ek 3 (by decide) (by decide)]; exact t3⟩
  · unfold fn_T_growLeaf
    rw [ax_is h.2.2.1.1, Option.bind_some, show (0 : Int32) = nI 0 from rfl, p1, Option.bind_some]
    rw [tg_2 w1.2.2.1, Option.bind_some, cd_is w1.2.2.2.1, Option.bind_some, p2, Option.bind_some]
    rw [tg_2 w2.2.2.1, Option.bind_some, cd_is w2.2.2.2.1, Option.bind_some, show (4 : Int32) = nI 4 from rfl, p3, Option.bind_some]
    rw [tg_2 w3.2.2.1, Option.bind_some, cd_is w3.2.2.2.1, Option.bind_some, p4, Option.bind_some]
    rw [tg_2 w4.2.2.1, Option.bind_some, cd_is w4.2.2.2.1, Option.bind_some, p5, Option.bind_some]
    rw [tg_2 w5.2.2.1, Option.bind_some, tg_0 w5.2.2.1, Option.bind_some, ax_is w5.1.1.1, Option.bind_some, bk_nonceOf w5.1, Option.bind_some, cd_is w5.2.2.2.1, Option.bind_some, p6, Option.bind_some]
    rw [tg_2 w6.2.2.1, Option.bind_some, tg_0 w6.2.2.1, Option.bind_some, ax_is w6.1.1.1, Option.bind_some, bk_balanceOf w6.1, Option.bind_some, cd_is w6.2.2.2.1, Option.bind_some, p7, Option.bind_some]
    rw [tg_2 w7.2.2.1, Option.bind_some, cd_is w7.2.2.2.1, Option.bind_some, p8, Option.bind_some]
    rw [tg_2 w8.2.2.1, Option.bind_some, cd_is w8.2.2.2.1, Option.bind_some, p9, Option.bind_some]
    rw [tg_2 w9.2.2.1, Option.bind_some, cd_is w9.2.2.2.1, Option.bind_some, pa, Option.bind_some]
    rw [ax_is wa.2.2.1.1, Option.bind_some, pb, Option.bind_some]
  · have F : fr n T fa fb := ⟨kb.mono (fun q hq => by unfold gw_S; omega), fun q a b => kb q (by omega), fun k _ => by unfold ax_v; rw [kb (n + 9) (by omega)]⟩
    exact (r1.tr (R.mono (by omega)) (Nat.le_refl _)).tr F (Nat.le_refl _)
  · have e13 : ax_I fb (n + 13) = ax_I fa (n + 13) := by unfold ax_I; rw [kb (n + 13) (by omega)]
    rw [e13, qa, q9, q8, q7, q6, q5, q4, q3, q2, q1]
  · rw [b2, List.length_append, show W.length + (sc_leaf m x d).length - W.length = (sc_leaf m x d).length by omega]
  · rw [List.length_append]
    omega
  · rw [List.getElem?_append_right (by omega), show W.length + j - W.length = j by omega]
    exact hx
