/-! putReference; where a node's code stands. -/
theorem pr_58e (k : Nat) (f : pl_H) (a : Nat) (x : Int32) : fn_T_putReference_58 (k + 1) f a x = if 32 ≤ x then some f else (pl_gR f a 5 2).bind fun v1 => (pl_gR f a 5 1).bind fun v2 => (pl_is f v2 2).bind fun u4 => (fn_H_hashByte f v2 x).bind fun v3 => (pl_is f v1 1).bind fun u6 => (fn_C_put f v1 v3).bind fun q5 => fn_T_putReference_58 k q5 a (x + 1) := rfl
theorem pr_58 {n c T : Nat} {m : am_M} {V : List Int32} {g : Nat → Int32} {len : Nat} (hV : V.length + 32 ≤ 2176) : ∀ (d k i : Nat) (f : pl_H), 32 - i = d → i ≤ 32 → d < k → gw f n c m (V ++ (List.range i).map (kk_h g len)) T → kk_is g len (ax_L f (n + 6)) → ∃ f', fn_T_putReference_58 k f (n + 9) (nI i) = some f' ∧ gw f' n c m (V ++ (List.range 32).map (kk_h g len)) T ∧ fr n 34 f f' ∧ ax_I f' (n + 13) = ax_I f (n + 13) := by
  intro d
  induction d with
  | zero =>
    intro k i f hd hi hk h hw
    obtain ⟨k, rfl⟩ : ∃ k', k = k' + 1 := ⟨k - 1, by omega⟩
    have e : i = 32 := by omega
    subst e
    exact ⟨f, by rw [pr_58e, if_pos (by decide)], h, fr.rf, rfl⟩
  | succ d ih =>
    intro k i f hd hi hk h hw
    obtain ⟨k, rfl⟩ : ∃ k', k = k' + 1 := ⟨k - 1, by omega⟩
    have hlen : (V ++ (List.range i).map (kk_h g len)).length = V.length + i := by simp
    obtain ⟨f1, p1, r1, k1, -⟩ := cd_put h.2.2.2.1 (by omega) (kk_h g len i)
    obtain ⟨w1, w2, w3, w4⟩ := gw_code h r1 k1
    obtain ⟨f', g1, g2, g3, g4⟩ := ih k (i + 1) f1 (by omega) (by omega) (by omega) (by
      rw [List.range_succ, List.map_append, ← List.append_assoc]
      exact w1) (by rw [w4]; exact hw)
    refine ⟨f', ?_, g2, w2.tr g3 (Nat.le_refl _), g4.trans w3⟩
    rw [pr_58e, if_neg (show ¬ 32 ≤ nI i from fun z => absurd ((bs_le (a := 32) (by decide) (by omega)).mp z) (by omega)), tg_2 h.2.2.1, Option.bind_some, tg_1 h.2.2.1, Option.bind_some, ax_is h.2.1.1, Option.bind_some, kh_byte h.2.1 hw (by omega), Option.bind_some, cd_is h.2.2.2.1, Option.bind_some, p1, Option.bind_some, show nI i + 1 = nI (i + 1) from nI_add i 1]
    exact g1
/-- a node's code stands in the row from its beginning on -/
def nd_C (f : pl_H) (n i : Nat) (W C : List Int32) : Prop := ∃ b, ax_i f (n + 15 + 2 * i) 5 = nI b ∧ ax_i f (n + 15 + 2 * i) 6 = nI C.length ∧ b + C.length ≤ W.length ∧ ∀ j x, C[j]? = some x → W[b + j]? = some x
theorem nd_C_row {f : pl_H} {n c T b : Nat} {m : am_M} {W C : List Int32} (h : gw f n c m W T) (hb : b + C.length ≤ W.length) (hC : ∀ j x, C[j]? = some x → W[b + j]? = some x) : ∀ i, i < C.length → kk_row f (n + 11) 2176 b i = C.getD i 0 := by
  intro i hi
  have hcap := h.2.2.2.1.2.2.1
  unfold kk_row
  rw [if_pos (by omega)]
  have := hC i C[i] (by simp [hi])
  rw [show n + 11 = n + 10 + 1 from rfl, h.2.2.2.1.2.2.2 _ _ this]
  simp [hi]
theorem gw_ref0 {f : pl_H} {n c T : Nat} {m : am_M} {W : List Int32} (h : gw f n c m W T) (hW : W.length < 2176) : ∃ f', fn_T_putReference f (n + 9) none = some f' ∧ gw f' n c m (W ++ [128]) T ∧ fr n 34 f f' ∧ ax_I f' (n + 13) = ax_I f (n + 13) := by
  obtain ⟨f1, p1, r1, k1, -⟩ := cd_put h.2.2.2.1 hW 128
  obtain ⟨w1, w2, w3, w4⟩ := gw_code h r1 k1
  refine ⟨f1, ?_, w1, w2, w3⟩
  unfold fn_T_putReference fn_T_putReference_103
  show ((pl_gR f (n + 9) 5 2).bind _) = _
  rw [tg_2 h.2.2.1, Option.bind_some, cd_is h.2.2.2.1, Option.bind_some, p1, Option.bind_some]
theorem gw_ref {f : pl_H} {n c T i : Nat} {m : am_M} {W C : List Int32} (h : gw f n c m W T) (hi : i < 34) (hC : nd_C f n i W C) (hW : W.length + 33 ≤ 2176) : ∃ f', fn_T_putReference f (n + 9) (some (n + 15 + 2 * i)) = some f' ∧ gw f' n c m (W ++ rf C) T ∧ fr n 34 f f' ∧ ax_I f' (n + 13) = ax_I f (n + 13) := by
  obtain ⟨b, c1, c2, c3, c4⟩ := hC
  have hN := h.2.2.1.2.2.2.2.2.2 i hi
  have key : ∃ f', ((fn_T_isHashed f (n + 15 + 2 * i)).bind fun v5 => if v5 = 0 then (pl_gR f (n + 9) 5 2).bind fun v6 => (pl_gI f (n + 15 + 2 * i) 3 5).bind fun v7 => (pl_gI f (n + 15 + 2 * i) 3 6).bind fun v8 => (pl_is f v6 1).bind fun u10 => (fn_C_copy f v6 v7 v8).bind fun q9 => fn_T_putReference_103 q9 else (pl_gR f (n + 9) 5 1).bind fun v11 => (pl_gR f (n + 9) 5 2).bind fun v12 => (pl_is f v12 1).bind fun u14 => (fn_C_bytes f v12).bind fun v13 => (pl_gI f (n + 15 + 2 * i) 3 5).bind fun v15 => (pl_gI f (n + 15 + 2 * i) 3 6).bind fun v16 => (pl_is f v11 2).bind fun u18 => (fn_H_hash f v11 v13 v15 v16).bind fun q17 => (pl_gR q17 (n + 9) 5 2).bind fun v19 => (pl_is q17 v19 1).bind fun u21 => (fn_C_put q17 v19 160).bind fun q20 => fn_T_putReference_58 pl_N q20 (n + 9) 0) = some f' ∧ gw f' n c m (W ++ rf C) T ∧ fr n 34 f f' ∧ ax_I f' (n + 13) = ax_I f (n + 13) := by
    have hcap := h.2.2.2.1.2.2.1
    unfold fn_T_isHashed fn_T_isHashed_14 rf
    rw [nd_g hN (by decide), c2, Option.bind_some]
    by_cases h32 : C.length < 32
    · rw [if_pos (show nI C.length < 32 from (bs_lt (b := 32) (by omega) (by decide)).mpr h32), if_pos h32]
      obtain ⟨f1, p1, r1, k1⟩ := cd_cp h.2.2.2.1 (begin := b) (B := C) c4 c3 (by omega)
      obtain ⟨w1, w2, w3, w4⟩ := gw_code h r1 k1
      refine ⟨f1, ?_, w1, w2, w3⟩
      show (some (0 : Int32)).bind _ = _
      rw [Option.bind_some, if_pos rfl, tg_2 h.2.2.1, Option.bind_some, nd_g hN (by decide), c1, Option.bind_some, Option.bind_some, cd_is h.2.2.2.1, Option.bind_some, p1, Option.bind_some]
      rfl
    · rw [if_neg (show ¬ nI C.length < 32 from fun z => h32 ((bs_lt (b := 32) (by omega) (by decide)).mp z)), if_neg h32]
      obtain ⟨f1, p1, r1, k1, q1⟩ := kh_hash' (a1 := n + 11) (rl := 2176) (begin := b) (len := C.length) (g := fun j => C.getD j 0) (by omega) (by omega) (by decide) h.2.1 h.2.2.2.1.1.2.2 (nd_C_row h c3 c4)
      obtain ⟨w1, w2, w3⟩ := gw_hash h r1 k1
      obtain ⟨f2, p2, r2, k2, -⟩ := cd_put w1.2.2.2.1 (by omega) 160
      obtain ⟨x1, x2, x3, x4⟩ := gw_code w1 r2 k2
      obtain ⟨f3, p3, r3, k3, q3⟩ := pr_58 (V := W ++ [160]) (g := fun j => C.getD j 0) (len := C.length) (by rw [List.length_append]; show W.length + 1 + 32 ≤ 2176; omega) 32 pl_N 0 f2 rfl (by decide) (by decide) (by simpa using x1) (by rw [x4]; exact q1)
      refine ⟨f3, ?_, ?_, (w2.tr x2 (Nat.le_refl _)).tr k3 (Nat.le_refl _), q3.trans (x3.trans w3)⟩
      · show (some (1 : Int32)).bind _ = _
        unfold fn_C_bytes
        rw [Option.bind_some, if_neg (by decide), tg_1 h.2.2.1, Option.bind_some, tg_2 h.2.2.1, Option.bind_some, cd_is h.2.2.2.1, Option.bind_some, cd_0 h.2.2.2.1.1, Option.bind_some, Option.bind_some, nd_g hN (by decide), c1, Option.bind_some, Option.bind_some, ax_is h.2.1.1, Option.bind_some, p1, Option.bind_some, tg_2 w1.2.2.1, Option.bind_some, cd_is w1.2.2.2.1, Option.bind_some, p2, Option.bind_some]
        exact p3
      · rw [List.append_assoc] at r3
        exact r3
  exact key
