/-! The class's row of codes: what is written stands for a list of bytes. -/
def cd_L (f : pl_H) (a : Nat) : Prop := ax_sh (f a) = (1, 1, [2, 0]) ∧ ax_r f a 0 = some (a + 1) ∧ ax_sh (f (a + 1)) = (2, 0, [2176])
def cd_S (a : Nat) : Nat → Prop := fun q => q = a ∨ q = a + 1
theorem cd_kp {f f' : pl_H} {a : Nat} {S : Nat → Prop} (h : cd_L f a) (hk : bs_kp S f f') (h0 : ¬ S a) (h1 : ¬ S (a + 1)) : cd_L f' a := by
  have e0 := hk a h0
  refine ⟨by rw [e0]; exact h.1, ?_, by rw [hk _ h1]; exact h.2.2⟩
  unfold ax_r ax_v
  rw [e0]
  exact h.2.1
theorem cd_uI {f : pl_H} {a : Nat} (h : cd_L f a) (b k : Nat) (x : Int32) : cd_L (ux_I f b k x) a := by
  refine ⟨by rw [sx_I]; exact h.1, ?_, by rw [sx_I]; exact h.2.2⟩
  unfold ax_r
  rw [rx_v_I]
  exact h.2.1
theorem cd_u1 {f : pl_H} {a : Nat} (h : cd_L f a) (x : Int32) : cd_L (ux_f f a 1 (.int x)) a := by
  have hs := sx_f (v := .int x) h.1 (k := 1) rfl
  refine ⟨by rw [hs]; exact h.1, ?_, by rw [hs]; exact h.2.2⟩
  unfold ax_r
  rw [rx_v_fne (Or.inr (by decide))]
  exact h.2.1
theorem cd_0 {f : pl_H} {a : Nat} (h : cd_L f a) : pl_gR f a 1 0 = some (a + 1) := (ax_gR h.1 rfl).trans h.2.1
theorem cd_1 {f : pl_H} {a : Nat} (h : cd_L f a) : pl_gI f a 1 1 = some (ax_i f a 1) := ax_gI h.1 rfl
theorem cd_p1 {f : pl_H} {a : Nat} (h : cd_L f a) (x : Int32) : pl_pV f a 1 1 (.int x) = some (ux_f f a 1 (.int x)) := ax_pV h.1 (by decide)
/-- at the used places stand the list's bytes -/
def cd_R (f : pl_H) (a : Nat) (W : List Int32) : Prop := cd_L f a ∧ ax_i f a 1 = nI W.length ∧ W.length ≤ 2176 ∧ ∀ i x, W[i]? = some x → ax_I f (a + 1) i = x
theorem cd_R_kp {f f' : pl_H} {a : Nat} {S : Nat → Prop} {W : List Int32} (h : cd_R f a W) (hk : bs_kp S f f') (h0 : ¬ S a) (h1 : ¬ S (a + 1)) : cd_R f' a W := by
  refine ⟨cd_kp h.1 hk h0 h1, ?_, h.2.2.1, fun i x hx => ?_⟩
  · unfold ax_i ax_v
    rw [hk _ h0]
    exact h.2.1
  · unfold ax_I
    rw [hk _ h1]
    exact h.2.2.2 i x hx
theorem cd_put {f : pl_H} {a : Nat} {W : List Int32} (h : cd_R f a W) (hW : W.length < 2176) (b : Int32) : ∃ f', fn_C_put f a b = some f' ∧ cd_R f' a (W ++ [b]) ∧ bs_kp (cd_S a) f f' ∧ ∀ i, i ≠ W.length → ax_I f' (a + 1) i = ax_I f (a + 1) i := by
  have hL := h.1
  have h1 := cd_uI hL (a + 1) W.length b
  have h2 := cd_u1 h1 (nI (W.length + 1))
  refine ⟨_, ?_, ⟨h2, ?_, ?_, fun i x hx => ?_⟩, (bs_kp.I (Or.inr rfl)).tr (bs_kp.f (Or.inl rfl)), fun i hi => ?_⟩
  · unfold fn_C_put fn_C_put_32
    simp only [cd_0 hL, cd_1 hL, bs_ln hL.2.2 (Or.inl rfl) (by decide), h.2.1, Option.bind_some]
    rw [if_neg (fun z => absurd ((bs_le (by decide) (by omega)).mp z) (by omega)), bs_sI hL.2.2 hW (by decide)]
    simp only [cd_1 h1, Option.bind_some]
    rw [ix_I, h.2.1, show nI W.length + 1 = nI (W.length + 1) from nI_add _ 1, cd_p1 h1]
    rfl
  · rw [ix_f h1.1 (by decide), List.length_append]
    rfl
  · rw [List.length_append]
    show W.length + 1 ≤ 2176
    omega
  · rw [rx_I_f, rx_I hL.2.2, bs_vI]
    by_cases hi : i < W.length
    · rw [if_neg (by omega)]
      rw [List.getElem?_append_left hi] at hx
      exact h.2.2.2 i x hx
    · rw [List.getElem?_append_right (by omega)] at hx
      by_cases hi2 : i = W.length
      · rw [if_pos hi2]
        subst hi2
        simp at hx
        exact hx
      · obtain ⟨j, hj⟩ : ∃ j, i - W.length = j + 1 := ⟨i - W.length - 1, by omega⟩
        rw [hj] at hx
        simp at hx
  · rw [rx_I_f, rx_I hL.2.2, bs_vI, if_neg hi]
theorem cd_is {f : pl_H} {a : Nat} {W : List Int32} (h : cd_R f a W) : pl_is f a 1 = some () := ax_is h.1.1
theorem cd_o7 (k : Nat) (f : pl_H) (a : Nat) (x j : Int32) : fn_C_open_7 (k + 1) f a x j = if 3 ≤ j then some (x, f) else (pl_is f a 1).bind fun u2 => (fn_C_put f a 0).bind fun q1 => fn_C_open_7 k q1 a x (j + 1) := rfl
theorem cd_open {f : pl_H} {a : Nat} {W : List Int32} (h : cd_R f a W) (hW : W.length + 3 ≤ 2176) : ∃ f', fn_C_open f a = some (nI W.length, f') ∧ cd_R f' a (W ++ [0, 0, 0]) ∧ bs_kp (cd_S a) f f' := by
  obtain ⟨f1, p1, r1, k1, -⟩ := cd_put h (by omega) 0
  obtain ⟨f2, p2, r2, k2, -⟩ := cd_put r1 (by rw [List.length_append]; show W.length + 1 < 2176; omega) 0
  obtain ⟨f3, p3, r3, k3, -⟩ := cd_put r2 (by rw [List.length_append, List.length_append]; show W.length + 1 + 1 < 2176; omega) 0
  refine ⟨f3, ?_, ?_, (k1.tr k2).tr k3⟩
  · unfold fn_C_open
    rw [cd_1 h.1, h.2.1, Option.bind_some]
    show fn_C_open_7 (99999 + 1) f a _ 0 = _
    rw [cd_o7, if_neg (by decide), cd_is h, Option.bind_some, p1, Option.bind_some]
    show fn_C_open_7 (99998 + 1) f1 a _ 1 = _
    rw [cd_o7, if_neg (by decide), cd_is r1, Option.bind_some, p2, Option.bind_some]
    show fn_C_open_7 (99997 + 1) f2 a _ 2 = _
    rw [cd_o7, if_neg (by decide), cd_is r2, Option.bind_some, p3, Option.bind_some]
    show fn_C_open_7 (99996 + 1) f3 a _ 3 = _
    rw [cd_o7, if_pos (by decide)]
  · have e : W ++ [0, 0, 0] = W ++ [0] ++ [0] ++ [0] := by simp
    rw [e]
    exact r3
/-- the head of so many bytes -/
def cd_hd (k : Int32) (len : Nat) : List Int32 := if len ≤ 55 then [k + nI len] else if len < 256 then [(k + 55) + 1, nI len] else [(k + 55) + 2, nI (len / 256), nI (len % 256)]
theorem cd_hd_l (k : Int32) (len : Nat) : (cd_hd k len).length ≤ 3 := by
  unfold cd_hd
  split
  · simp
  · split <;> simp
theorem cd_sh8 : ∀ len, len < 2177 → (nI len >>> (8 &&& 31) = nI (len / 256)) ∧ (nI len &&& 255 = nI (len % 256)) := by decide +kernel
theorem cd_head {f : pl_H} {a : Nat} {U : List Int32} (h : cd_R f a U) (k : Int32) {len : Nat} (hl : len ≤ 2176) (hU : U.length + 3 ≤ 2176) : ∃ f', fn_C_putHead f a k (nI len) = some f' ∧ cd_R f' a (U ++ cd_hd k len) ∧ bs_kp (cd_S a) f f' ∧ ∀ i, U.length + (cd_hd k len).length ≤ i → ax_I f' (a + 1) i = ax_I f (a + 1) i := by
  unfold fn_C_putHead fn_C_putHead_68 cd_hd
  by_cases h1 : len ≤ 55
  · rw [if_neg (show ¬ 55 < nI len from fun z => absurd ((bs_lt (a := 55) (by decide) (by omega)).mp z) (by omega)), if_pos h1]
    obtain ⟨f1, p1, r1, k1, q1⟩ := cd_put h (by omega) (k + nI len)
    refine ⟨f1, ?_, r1, k1, fun i hi => q1 i (by simp at hi; omega)⟩
    rw [cd_is h, Option.bind_some, p1]
    rfl
  · rw [if_pos (show 55 < nI len from (bs_lt (a := 55) (by decide) (by omega)).mpr (by omega)), if_neg h1]
    by_cases h2 : len < 256
    · rw [if_neg (show ¬ 256 ≤ nI len from fun z => absurd ((bs_le (a := 256) (by decide) (by omega)).mp z) (by omega)), if_pos h2]
      obtain ⟨f1, p1, r1, k1, q1⟩ := cd_put h (by omega) ((k + 55) + 1)
      obtain ⟨f2, p2, r2, k2, q2⟩ := cd_put r1 (by rw [List.length_append]; show U.length + 1 < 2176; omega) (nI len)
      refine ⟨f2, ?_, ?_, k1.tr k2, fun i hi => ?_⟩
      · simp only [cd_is h, cd_is r1, p1, p2, Option.bind_some]
      · have e : U ++ [(k + 55) + 1, nI len] = U ++ [(k + 55) + 1] ++ [nI len] := by simp
        rw [e]
        exact r2
      · simp at hi
        rw [q2 i (by rw [List.length_append]; show i ≠ U.length + 1; omega), q1 i (by omega)]
    · rw [if_pos (show 256 ≤ nI len from (bs_le (a := 256) (by decide) (by omega)).mpr (by omega)), if_neg h2]
      obtain ⟨f1, p1, r1, k1, q1⟩ := cd_put h (by omega) ((k + 55) + 2)
      obtain ⟨f2, p2, r2, k2, q2⟩ := cd_put r1 (by rw [List.length_append]; show U.length + 1 < 2176; omega) (nI (len / 256))
      obtain ⟨f3, p3, r3, k3, q3⟩ := cd_put r2 (by rw [List.length_append, List.length_append]; show U.length + 1 + 1 < 2176; omega) (nI (len % 256))
      refine ⟨f3, ?_, ?_, (k1.tr k2).tr k3, fun i hi => ?_⟩
      · have e := cd_sh8 len (by omega)
        rw [e.1, e.2]
        simp only [cd_is h, cd_is r1, cd_is r2, p1, p2, p3, Option.bind_some]
      · have e : U ++ [(k + 55) + 2, nI (len / 256), nI (len % 256)] = U ++ [(k + 55) + 2] ++ [nI (len / 256)] ++ [nI (len % 256)] := by simp
        rw [e]
        exact r3
      · simp at hi
        rw [q3 i (by rw [List.length_append, List.length_append]; show i ≠ U.length + 1 + 1; omega), q2 i (by rw [List.length_append]; show i ≠ U.length + 1; omega), q1 i (by omega)]
