/-! Tables of the reference. -/
def dl_ : Nat → Int32 → Int32 → Int32 → (Nat → Int32) → Option (Nat → Int32)
  | 0, _, _, _, _ => none
  | k + 1, x1, x2, x3, g => if 24 ≤ x3 then some g else if pl_ok (x1 + (5 * x2)) 25 = true then dl_ k x2 (((2 * x1) + (3 * x2)) - ((2 * x1) + (3 * x2)) / 5 * 5) (x3 + 1) (upd g (x1 + (5 * x2)).toNatClampNeg ((((x3 + 1) * (x3 + 2)) / 2) - (((x3 + 1) * (x3 + 2)) / 2) / 64 * 64)) else none
theorem mi_180e (k : Nat) (f : pl_H) (a0 : Nat) (x1 x2 x3 : Int32) : fn_M_init_180 (k + 1) f a0 x1 x2 x3 = if 24 ≤ x3 then fn_M_init_235 pl_N f a0 1 0 else (pl_gR f a0 8 24).bind fun v1 => (pl_sI f v1 (x1 + (5 * x2)) ((((x3 + 1) * (x3 + 2)) / 2) - (((x3 + 1) * (x3 + 2)) / 2) / 64 * 64)).bind fun f2 => fn_M_init_180 k f2 a0 x2 (((2 * x1) + (3 * x2)) - ((2 * x1) + (3 * x2)) / 5 * 5) (x3 + 1) := rfl
theorem mi_180 {a : Nat} : ∀ (j k : Nat) (f : pl_H) (x1 x2 x3 : Int32) (g : Nat → Int32), j ≤ k → mo_L f a → dl_ j x1 x2 x3 (ax_I f (a + 17)) = some g → ∃ f', fn_M_init_180 k f a x1 x2 x3 = fn_M_init_235 pl_N f' a 1 0 ∧ ax_I f' (a + 17) = g ∧ mz a (fun q => q = a + 17) (fun _ => False) f f' := by
  intro j
  induction j with
  | zero => intro k f x1 x2 x3 g _ _ h; cases h
  | succ j ih =>
    intro k f x1 x2 x3 g hk hM h
    obtain ⟨k, rfl⟩ : ∃ k', k = k' + 1 := ⟨k - 1, by omega⟩
    rw [mi_180e]
    have h : (if 24 ≤ x3 then some (ax_I f (a + 17)) else if pl_ok (x1 + (5 * x2)) 25 = true then dl_ j x2 (((2 * x1) + (3 * x2)) - ((2 * x1) + (3 * x2)) / 5 * 5) (x3 + 1) (upd (ax_I f (a + 17)) (x1 + (5 * x2)).toNatClampNeg ((((x3 + 1) * (x3 + 2)) / 2) - (((x3 + 1) * (x3 + 2)) / 2) / 64 * 64)) else none) = some g := h
    by_cases c : 24 ≤ x3
    · rw [if_pos c] at h ⊢
      exact ⟨f, rfl, Option.some.inj h, mz.rf hM⟩
    · rw [if_neg c] at h ⊢
      by_cases c2 : pl_ok (x1 + (5 * x2)) 25 = true
      · rw [if_pos c2] at h
        rw [mo_distance hM, Option.bind_some, ax_sI (mo_distance_s hM), if_pos c2, Option.bind_some]
        have z1 := mz_I (K := fun _ => False) hM (show a + 17 ≠ a by omega) (x1 + (5 * x2)).toNatClampNeg ((((x3 + 1) * (x3 + 2)) / 2) - (((x3 + 1) * (x3 + 2)) / 2) / 64 * 64)
        obtain ⟨f', p, q, z⟩ := ih k _ x2 _ (x3 + 1) g (by omega) z1.1 (by rw [rx_I (mo_distance_s hM)]; exact h)
        exact ⟨f', p, q, z1.tr z⟩
      · rw [if_neg c2] at h
        cases h
def dc_ : Nat → Int32 → Int32 → (Nat → Int64) → Option (Nat → Int64)
  | 0, _, _, _ => none
  | k + 1, x3, x4, g => if 168 ≤ x4 then some g else if pl_ok (x4 / 7) 24 = true then dc_ k (if (2 * x3) < 256 then 2 * x3 else (2 * x3) ^^^ 369) (x4 + 1) (vp_updL g (x4 / 7).toNatClampNeg (g (x4 / 7).toNatClampNeg ||| ((((x3 &&& 1) : Int32).toInt64) <<< ((((1 <<< ((x4 - x4 / 7 * 7) &&& 31)) - 1) : Int32).toInt64 &&& 63)))) else none
theorem mi_235e (k : Nat) (f : pl_H) (a0 : Nat) (x3 x4 : Int32) : fn_M_init_235 (k + 1) f a0 x3 x4 = if 168 ≤ x4 then some f else (pl_gR f a0 8 25).bind fun v1 => (pl_gR f a0 8 25).bind fun v2 => (pl_aL f v2 (x4 / 7)).bind fun v3 => (pl_sL f v1 (x4 / 7) (v3 ||| ((((x3 &&& 1) : Int32).toInt64) <<< ((((1 <<< ((x4 - x4 / 7 * 7) &&& 31)) - 1) : Int32).toInt64 &&& 63)))).bind fun f4 => if (2 * x3) < 256 then fn_M_init_235 k f4 a0 (2 * x3) (x4 + 1) else fn_M_init_235 k f4 a0 ((2 * x3) ^^^ 369) (x4 + 1) := rfl
theorem mz_Lw {f : pl_H} {a q : Nat} {K : Nat → Prop} (h : mo_L f a) (hq : q ≠ a) (i : Nat) (x : Int64) : mz a (fun s => s = q) K f (ux_L f q i x) := ⟨mo_uL h _ _ _, bs_kp.L (Or.inr rfl), fun k _ => rx_v_L ..⟩
theorem mi_235 {a : Nat} : ∀ (j k : Nat) (f : pl_H) (x3 x4 : Int32) (g : Nat → Int64), j ≤ k → mo_L f a → dc_ j x3 x4 (ax_L f (a + 18)) = some g → ∃ f', fn_M_init_235 k f a x3 x4 = some f' ∧ ax_L f' (a + 18) = g ∧ mz a (fun q => q = a + 18) (fun _ => False) f f' := by
  intro j
  induction j with
  | zero => intro k f x3 x4 g _ _ h; cases h
  | succ j ih =>
    intro k f x3 x4 g hk hM h
    obtain ⟨k, rfl⟩ : ∃ k', k = k' + 1 := ⟨k - 1, by omega⟩
    rw [mi_235e]
    have h : (if 168 ≤ x4 then some (ax_L f (a + 18)) else if pl_ok (x4 / 7) 24 = true then dc_ j (if (2 * x3) < 256 then 2 * x3 else (2 * x3) ^^^ 369) (x4 + 1) (vp_updL (ax_L f (a + 18)) (x4 / 7).toNatClampNeg (ax_L f (a + 18) (x4 / 7).toNatClampNeg ||| ((((x3 &&& 1) : Int32).toInt64) <<< ((((1 <<< ((x4 - x4 / 7 * 7) &&& 31)) - 1) : Int32).toInt64 &&& 63)))) else none) = some g := h
    by_cases c : 168 ≤ x4
    · rw [if_pos c] at h ⊢
      exact ⟨f, rfl, Option.some.inj h, mz.rf hM⟩
    · rw [if_neg c] at h ⊢
      by_cases c2 : pl_ok (x4 / 7) 24 = true
      · rw [if_pos c2] at h
        rw [mo_constant hM, Option.bind_some, Option.bind_some, ax_aL (mo_constant_s hM), if_pos c2, Option.bind_some, ax_sL (mo_constant_s hM), if_pos c2, Option.bind_some]
        have z1 := mz_Lw (K := fun _ => False) hM (show a + 18 ≠ a by omega) (x4 / 7).toNatClampNeg (ax_L f (a + 18) (x4 / 7).toNatClampNeg ||| ((((x3 &&& 1) : Int32).toInt64) <<< ((((1 <<< ((x4 - x4 / 7 * 7) &&& 31)) - 1) : Int32).toInt64 &&& 63)))
        obtain ⟨f', p, q, z⟩ := ih k _ _ (x4 + 1) g (by omega) z1.1 (by rw [rx_L (mo_constant_s hM)]; exact h)
        refine ⟨f', ?_, q, z1.tr z⟩
        by_cases c3 : 2 * x3 < 256
        · rw [if_pos c3] at p ⊢
          exact p
        · rw [if_neg c3] at p ⊢
          exact p
      · rw [if_neg c2] at h
        cases h
def tb_1 (o : Option (Nat → Int32)) : Bool := match o with
  | none => false
  | some g => (List.range 25).all (fun i => decide (g i = pl_t1.getD i 0))
def tb_2 (o : Option (Nat → Int64)) : Bool := match o with
  | none => false
  | some g => (List.range 24).all (fun i => decide (g i = pl_t2.getD i 0))
theorem tb_1k : tb_1 (dl_ 25 1 0 0 (fun _ => 0)) = true := by decide +kernel
theorem tb_2k : tb_2 (dc_ 169 1 0 (fun _ => 0)) = true := by decide +kernel
theorem tb_1g : ∃ g, dl_ 25 1 0 0 (fun _ => 0) = some g ∧ ∀ i, i < 25 → g i = pl_t1.getD i 0 := by
  have h := tb_1k
  unfold tb_1 at h
  split at h
  · cases h
  · rename_i g hg
    refine ⟨g, hg, fun i hi => ?_⟩
    have := List.all_eq_true.mp h i (List.mem_range.mpr hi)
    exact of_decide_eq_true this
theorem tb_2g : ∃ g, dc_ 169 1 0 (fun _ => 0) = some g ∧ ∀ i, i < 24 → g i = pl_t2.getD i 0 := by
  have h := tb_2k
  unfold tb_2 at h
  split at h
  · cases h
  · rename_i g hg
    refine ⟨g, hg, fun i hi => ?_⟩
    have := List.all_eq_true.mp h i (List.mem_range.mpr hi)
    exact of_decide_eq_true this
