/-! root, nodes, size: the class. -/
def rw_ (g : Nat → Int32) : Nat → Nat → Int64 → Int64
  | 0, _, w => w
  | j + 1, i, w => rw_ g j (i + 1) ((w <<< ((8 : Int32).toInt64 &&& 63)) ||| ((g i : Int32).toInt64))
theorem rw_c {g g' : Nat → Int32} : ∀ (j i : Nat) (w : Int64), (∀ q, i ≤ q → q < i + j → g q = g' q) → rw_ g j i w = rw_ g' j i w
  | 0, _, _, _ => rfl
  | j + 1, i, w, h => by
    show rw_ g j (i + 1) _ = rw_ g' j (i + 1) _
    rw [h i (by omega) (by omega)]
    exact rw_c j (i + 1) _ (fun q a b => h q (by omega) (by omega))
noncomputable def sp_hash (m : am_M) (q : Nat) : Int32 := kk_h (fun j => (tp m).getD j 0) (tp m).length q
/-- root: word k of the root -/
noncomputable def sp_root (m : am_M) (x : Int32) : Int64 := if x < 0 then 0 else if x < 4 then rw_ (sp_hash m) 8 (8 * x.toNatClampNeg) 0 else 0
theorem lr_26e (k : Nat) (f : pl_H) (a0 : Nat) (x1 : Int32) (y2 : Int64) (x4 : Int32) : fn_L_root_26 (k + 1) f a0 x1 y2 x4 = if ((8 * x1) + 8) ≤ x4 then some (y2, f) else (pl_gR f a0 7 2).bind fun v1 => (pl_is f v1 5).bind fun u3 => (fn_T_rootByte f v1 x4).bind fun v2 => fn_L_root_26 k f a0 x1 ((y2 <<< ((8 : Int32).toInt64 &&& 63)) ||| ((v2 : Int32).toInt64)) (x4 + 1) := rfl
theorem tr_rb {f : pl_H} {n i : Nat} (h : tr_L f n) (hi : i < 32) : fn_T_rootByte f (n + 9) (nI i) = some (ax_I f (n + 14) i) := by
  unfold fn_T_rootByte fn_T_rootByte_20
  rw [if_neg (nI_pos (by omega)), if_neg (show ¬ 32 ≤ nI i from fun z => absurd ((bs_le (a := 32) (by decide) (by omega)).mp z) (by omega)), tg_5 h, Option.bind_some, bs_aI h.2.2.2.2.2.1 hi (by decide), Option.bind_some]
theorem lr_26 {f : pl_H} {n k : Nat} (hL : lg_L f n) (h : tr_L f n) (hk : k < 4) : ∀ (j K i : Nat) (w : Int64), i + j = 8 * k + 8 → 8 * k ≤ i → j < K → fn_L_root_26 K f n (nI k) w (nI i) = some (rw_ (ax_I f (n + 14)) j i w, f) := by
  intro j
  induction j with
  | zero =>
    intro K i w hi h0 hK
    obtain ⟨K, rfl⟩ : ∃ k', K = k' + 1 := ⟨K - 1, by omega⟩
    rw [lr_26e, show (8 : Int32) * nI k + 8 = nI (8 * k + 8) by rw [← nI_add, ← pk_mul]; rfl, if_pos ((bs_le (by omega) (by omega)).mpr (by omega))]
    rfl
  | succ j ih =>
    intro K i w hi h0 hK
    obtain ⟨K, rfl⟩ : ∃ k', K = k' + 1 := ⟨K - 1, by omega⟩
    rw [lr_26e, show (8 : Int32) * nI k + 8 = nI (8 * k + 8) by rw [← nI_add, ← pk_mul]; rfl, if_neg (fun z => absurd ((bs_le (by omega) (by omega)).mp z) (by omega)), lg_2 hL, Option.bind_some, ax_is h.1, Option.bind_some, tr_rb h (by omega), Option.bind_some, show nI i + 1 = nI (i + 1) from nI_add i 1, ih K (i + 1) _ (by omega) (by omega) (by omega)]
    rfl
theorem fs_L {f : pl_H} {n c : Nat} {m : am_M} (h : fs f n c m) : ts f n c m := by
  obtain ⟨W, T, w, -⟩ := h
  exact ⟨w.1, w.2.1, w.2.2.1, w.2.2.2.1.1⟩
theorem lg_S {f f' : pl_H} {n c : Nat} {m : am_M} (h : lg_L f n) (hk : bs_kp (fs_S n) f f') (hf : fs f' n c m) : lg_L f' n := by
  obtain ⟨a0, a1, a2, a3, a4, a5, a6⟩ := h
  have e0 := hk n (by unfold fs_S; omega)
  have er : ∀ k, ax_r f' n k = ax_r f n k := fun k => by unfold ax_r ax_v; rw [e0]
  exact ⟨by rw [e0]; exact a0, by rw [er]; exact a1, by rw [er]; exact a2, by rw [er]; exact a3, by rw [er]; exact a4, by rw [er]; exact a5, (fs_L hf).2.2.1.1⟩
theorem lg_root {f : pl_H} {n c : Nat} {m : am_M} (hL : lg_L f n) (h : ts f n c m) (ho : ax_i f (n + 9) 8 = 0 → fs f n c m) (x : Int32) : ∃ f', fn_L_root f n x = some (sp_root m x, f') ∧ lg_L f' n ∧ ts f' n c m ∧ (ax_i f' (n + 9) 8 = 0 → fs f' n c m) ∧ bs_kp (fs_S n) f f' := by
  unfold fn_L_root fn_L_root_9 sp_root
  by_cases h0 : x < 0
  · rw [if_pos h0, if_pos h0]
    exact ⟨f, rfl, hL, h, ho, bs_kp.rf⟩
  · rw [if_neg h0, if_neg h0]
    by_cases h4 : x < 4
    · rw [if_pos h4, if_pos h4]
      obtain ⟨f', p, hf, -, hk⟩ := lg_fresh h ho
      have hL' := lg_S hL hk hf
      obtain ⟨j, j1, rfl⟩ := nI_of2 (x := x) (M := 3) (n := 3) (by decide) h0 (by
        have := Int32.lt_iff_toInt_lt.mp h4
        refine Int32.le_iff_toInt_le.mpr ?_
        have e4 : (4 : Int32).toInt = 4 := rfl
        have e3 : (3 : Int32).toInt = 3 := rfl
        omega)
      refine ⟨f', ?_, hL', fs_L hf, fun _ => hf, hk⟩
      rw [lg_2 hL, Option.bind_some, ax_is h.2.2.1.1, Option.bind_some, p, Option.bind_some, show (8 : Int32) * nI j = nI (8 * j) from pk_mul 8 j, lr_26 hL' (fs_L hf).2.2.1 (by omega) 8 pl_N (8 * j) 0 rfl (Nat.le_refl _) (by decide), bs_cl (by omega)]
      obtain ⟨W, T, -, -, -, -, -, -, hr⟩ := hf
      rw [rw_c 8 (8 * j) 0 (fun q a b => hr q (by omega))]
      rfl
    · rw [if_neg h4, if_neg h4]
      exact ⟨f, rfl, hL, h, ho, bs_kp.rf⟩
noncomputable def sp_nodes (m : am_M) (x : Int32) : Int32 := if x = 0 ∨ x = 1 ∨ x = 2 then nI (cif (∃ y, ga m y) (nc x.toNatClampNeg (ga m) 0) 0) else -1
theorem lg_nodes {f : pl_H} {n c : Nat} {m : am_M} (hL : lg_L f n) (h : ts f n c m) (ho : ax_i f (n + 9) 8 = 0 → fs f n c m) (x : Int32) : ∃ f', fn_L_nodes f n x = some (sp_nodes m x, f') ∧ lg_L f' n ∧ ts f' n c m ∧ (ax_i f' (n + 9) 8 = 0 → fs f' n c m) ∧ bs_kp (fs_S n) f f' := by
  have key : ∀ j, j < 3 → ∃ f', fn_L_nodes_16 f n (nI j) = some (nI (cif (∃ y, ga m y) (nc j (ga m) 0) 0), f') ∧ lg_L f' n ∧ ts f' n c m ∧ (ax_i f' (n + 9) 8 = 0 → fs f' n c m) ∧ bs_kp (fs_S n) f f' := by
    intro j hj
    obtain ⟨f', p, hf, -, hk⟩ := lg_fresh h ho
    have hL' := lg_S hL hk hf
    have hT := (fs_L hf).2.2.1
    refine ⟨f', ?_, hL', fs_L hf, fun _ => hf, hk⟩
    unfold fn_L_nodes_16 fn_T_countOf fn_T_countOf_23
    rw [lg_2 hL, Option.bind_some, ax_is h.2.2.1.1, Option.bind_some, p, Option.bind_some, lg_2 hL', Option.bind_some, ax_is hT.1, Option.bind_some, if_neg (nI_pos (by omega)), tg_4 hT, Option.bind_some, bs_ln hT.2.2.2.2.1 (Or.inl rfl) (by decide), Option.bind_some, if_neg (fun z => absurd ((bs_le (a := 4) (by decide) (by omega)).mp z) (by omega)), Option.bind_some, bs_aI hT.2.2.2.2.1 (by omega) (by decide), Option.bind_some, Option.bind_some]
    obtain ⟨W, T, -, -, -, -, -, hr, -⟩ := hf
    rw [hr j hj]
  unfold fn_L_nodes sp_nodes
  by_cases h0 : x = 0
  · rw [if_pos h0, if_pos (Or.inl h0), h0]
    exact key 0 (by decide)
  · rw [if_neg h0]
    by_cases h1 : x = 1
    · rw [if_pos h1, if_pos (Or.inr (Or.inl h1)), h1]
      exact key 1 (by decide)
    · rw [if_neg h1]
      by_cases h2 : x = 2
      · rw [if_pos h2, if_pos (Or.inr (Or.inr h2)), h2]
        exact key 2 (by decide)
      · rw [if_neg h2, if_neg]
        · exact ⟨f, rfl, hL, h, ho, bs_kp.rf⟩
        · rintro (z | z | z)
          · exact h0 z
          · exact h1 z
          · exact h2 z
theorem lg_size {f : pl_H} {n c : Nat} {m : am_M} (hL : lg_L f n) (h : ts f n c m) (ho : ax_i f (n + 9) 8 = 0 → fs f n c m) : ∃ f', fn_L_size f n = some (nI (tp m).length, f') ∧ lg_L f' n ∧ ts f' n c m ∧ (ax_i f' (n + 9) 8 = 0 → fs f' n c m) ∧ bs_kp (fs_S n) f f' := by
  obtain ⟨f', p, hf, -, hk⟩ := lg_fresh h ho
  have hL' := lg_S hL hk hf
  have hT := (fs_L hf).2.2.1
  refine ⟨f', ?_, hL', fs_L hf, fun _ => hf, hk⟩
  obtain ⟨W, T, -, h7, ⟨b, -, h6, -⟩, -⟩ := hf
  unfold fn_L_size fn_T_topLength
  rw [lg_2 hL, Option.bind_some, ax_is h.2.2.1.1, Option.bind_some, p, Option.bind_some, lg_2 hL', Option.bind_some, ax_is hT.1, Option.bind_some, tg_7 hT, h7, Option.bind_some]
  rw [show pl_gI f' (n + 15) 3 6 = some (nI (tp m).length) from (nd_g (hT.2.2.2.2.2.2 0 (by decide)) (by decide)).trans (congrArg some h6), Option.bind_some, Option.bind_some]
