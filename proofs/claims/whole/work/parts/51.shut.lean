/-! shut, copy. -/
theorem nI_sub (c b : Nat) : nI (c + b) - nI b = nI c := by
  rw [← nI_add c b]
  exact Int32.add_sub_cancel _ _
def cd_enc (k : Int32) (B : List Int32) : List Int32 := if k = 192 ∨ B.length ≠ 1 ∨ 128 ≤ B.headD 0 then cd_hd k B.length ++ B else B
theorem cd_enc_l (k : Int32) (B : List Int32) : (cd_enc k B).length ≤ B.length + 3 ∧ B.length ≤ (cd_enc k B).length := by
  have := cd_hd_l k B.length
  unfold cd_enc
  split
  · rw [List.length_append]
    omega
  · omega
theorem cd_s75e (k : Nat) (f : pl_H) (a : Nat) (x3 x4 x6 : Int32) : fn_C_shut_75 (k + 1) f a x3 x4 x6 = if (x3 + x4) ≤ x6 then some f else (pl_gR f a 1 0).bind fun v1 => (pl_aI f v1 x6).bind fun v2 => (pl_is f a 1).bind fun u4 => (fn_C_put f a v2).bind fun q3 => fn_C_shut_75 k q3 a x3 x4 (x6 + 1) := rfl
theorem cd_take {B : List Int32} {i : Nat} (hi : i < B.length) : B.take (i + 1) = B.take i ++ [B[i]] := by
  rw [List.take_add_one]
  simp [hi]
theorem cd_s75 {a body : Nat} {V B : List Int32} (hV : V.length ≤ body) (hb : body + B.length ≤ 2176) : ∀ (d k i : Nat) (f : pl_H), B.length - i = d → i ≤ B.length → d < k → cd_R f a (V ++ B.take i) → (∀ j x, i ≤ j → B[j]? = some x → ax_I f (a + 1) (body + j) = x) → ∃ f', fn_C_shut_75 k f a (nI body) (nI B.length) (nI (body + i)) = some f' ∧ cd_R f' a (V ++ B) ∧ bs_kp (cd_S a) f f' := by
  intro d
  induction d with
  | zero =>
    intro k i f hd hi hk h hB
    obtain ⟨k, rfl⟩ : ∃ k', k = k' + 1 := ⟨k - 1, by omega⟩
    have e : i = B.length := by omega
    subst e
    refine ⟨f, ?_, by rw [List.take_length] at h; exact h, bs_kp.rf⟩
    rw [cd_s75e, nI_add, if_pos ((bs_le (by omega) (by omega)).mpr (Nat.le_refl _))]
  | succ d ih =>
    intro k i f hd hi hk h hB
    obtain ⟨k, rfl⟩ : ∃ k', k = k' + 1 := ⟨k - 1, by omega⟩
    have hi' : i < B.length := by omega
    have hlen : (V ++ B.take i).length = V.length + i := by
      rw [List.length_append, List.length_take]
      omega
    have hrd := hB i B[i] (Nat.le_refl _) (by simp [hi'])
    obtain ⟨f1, p1, r1, k1, q1⟩ := cd_put h (by omega) B[i]
    obtain ⟨f', g1, g2, g3⟩ := ih k (i + 1) f1 (by omega) (by omega) (by omega) (by rw [cd_take hi', ← List.append_assoc]; exact r1) (fun j x hj hx => by
      rw [q1 _ (by omega)]
      exact hB j x (by omega) hx)
    refine ⟨f', ?_, g2, k1.tr g3⟩
    rw [cd_s75e, nI_add, if_neg (fun z => absurd ((bs_le (by omega) (by omega)).mp z) (by omega))]
    rw [cd_0 h.1, Option.bind_some, bs_aI h.1.2.2 (show body + i < 2176 by omega) (by decide), Option.bind_some, hrd, cd_is h, Option.bind_some, p1, Option.bind_some, show nI (body + i) + 1 = nI (body + (i + 1)) from nI_add (body + i) 1]
    exact g1
theorem cd_shut {f : pl_H} {a : Nat} {U H B : List Int32} (h : cd_R f a (U ++ H ++ B)) (hH : H.length = 3) (k : Int32) : ∃ f', fn_C_shut f a (nI U.length) k = some f' ∧ cd_R f' a (U ++ cd_enc k B) ∧ bs_kp (cd_S a) f f' := by
  have hL := h.1
  have hlen : (U ++ H ++ B).length = B.length + (U.length + 3) := by
    rw [List.length_append, List.length_append, hH]
    omega
  have hcap := h.2.2.1
  rw [hlen] at hcap
  have h1 := cd_u1 hL (nI U.length)
  have hU : cd_R (ux_f f a 1 (.int (nI U.length))) a U := by
    refine ⟨h1, ix_f hL.1 (by decide), by omega, fun i x hx => ?_⟩
    rw [rx_I_f]
    have hi : i < U.length := by
      rcases Nat.lt_or_ge i U.length with z | z
      · exact z
      · rw [List.getElem?_eq_none z] at hx
        cases hx
    refine h.2.2.2 i x ?_
    rw [List.append_assoc, List.getElem?_append_left hi]
    exact hx
  have hB : ∀ j x, B[j]? = some x → ax_I f (a + 1) (U.length + 3 + j) = x := fun j x hx => by
    refine h.2.2.2 _ x ?_
    rw [List.getElem?_append_right (by rw [List.length_append, hH]; omega), List.length_append, hH]
    rw [show U.length + 3 + j - (U.length + 3) = j by omega]
    exact hx
  have k1 : bs_kp (cd_S a) f (ux_f f a 1 (.int (nI U.length))) := bs_kp.f (Or.inl rfl)
  -- with no head
  have go72 : ∃ f', fn_C_shut_72 (ux_f f a 1 (.int (nI U.length))) a (nI (U.length + 3)) (nI B.length) = some f' ∧ cd_R f' a (U ++ B) ∧ bs_kp (cd_S a) f f' := by
    obtain ⟨f', g1, g2, g3⟩ := cd_s75 (V := U) (body := U.length + 3) (B := B) (by omega) (by omega) B.length pl_N 0 (ux_f f a 1 (.int (nI U.length))) (by omega) (by omega) (by unfold pl_N; omega) (by simpa using hU) (fun j x _ hx => by rw [rx_I_f]; exact hB j x hx)
    exact ⟨f', g1, g2, k1.tr g3⟩
  have go65 : ∃ f', fn_C_shut_65 (ux_f f a 1 (.int (nI U.length))) a k (nI (U.length + 3)) (nI B.length) = some f' ∧ cd_R f' a (U ++ (cd_hd k B.length ++ B)) ∧ bs_kp (cd_S a) f f' := by
    obtain ⟨f2, p2, r2, k2, q2⟩ := cd_head hU k (len := B.length) (by omega) (by omega)
    have hd3 := cd_hd_l k B.length
    obtain ⟨f', g1, g2, g3⟩ := cd_s75 (V := U ++ cd_hd k B.length) (body := U.length + 3) (B := B) (by rw [List.length_append]; omega) (by omega) B.length pl_N 0 f2 (by omega) (by omega) (by unfold pl_N; omega) (by simpa using r2) (fun j x _ hx => by
      rw [q2 _ (by omega), rx_I_f]
      exact hB j x hx)
    refine ⟨f', ?_, by rw [← List.append_assoc]; exact g2, (k1.tr k2).tr g3⟩
    unfold fn_C_shut_65
    rw [cd_is hU, Option.bind_some, p2, Option.bind_some]
    exact g1
  have go37 : ∃ f', fn_C_shut_37 f a (nI U.length) k (nI (U.length + 3)) (nI B.length) (B.headD 0) = some f' ∧ cd_R f' a (U ++ cd_enc k B) ∧ bs_kp (cd_S a) f f' := by
    unfold fn_C_shut_37 cd_enc
    rw [cd_p1 hL, Option.bind_some]
    by_cases c1 : k = 192
    · rw [if_pos c1, if_pos (Or.inl c1)]
      exact go65
    · rw [if_neg c1]
      by_cases c2 : B.length = 1
      · rw [if_pos (show nI B.length = 1 by rw [c2]; rfl)]
        by_cases c3 : B.headD 0 < 128
        · rw [if_pos c3, if_neg]
          · exact go72
          · rintro (z | z | z)
            · exact c1 z
            · exact z c2
            · exact absurd c3 (Int32.not_lt.mpr z)
        · rw [if_neg c3, if_pos (Or.inr (Or.inr (Int32.not_lt.mp c3)))]
          exact go65
      · rw [if_neg (show ¬ nI B.length = 1 from fun z => c2 ((nI_eq (by omega) (by decide)).mp (show nI B.length = nI 1 from z))), if_pos (Or.inr (Or.inl c2))]
        exact go65
  unfold fn_C_shut
  rw [cd_1 hL, h.2.1, hlen, Option.bind_some, if_neg (Int32.not_lt.mpr (nI_pos' (by omega))), show nI U.length + 3 = nI (U.length + 3) from nI_add U.length 3, nI_sub, if_pos (nI_pos' (by omega))]
  cases hBB : B with
  | nil =>
    rw [if_pos (show nI ([] : List Int32).length = 0 from rfl)]
    rw [hBB] at go37
    exact go37
  | cons b B' =>
    rw [if_neg (show ¬ nI (b :: B').length = 0 from fun z => absurd ((nI_eq (by rw [← hBB]; omega) (by decide)).mp (show nI (b :: B').length = nI 0 from z)) (by simp))]
    have hr := hB 0 b (by rw [hBB]; rfl)
    have hbl : 0 < B.length := by rw [hBB]; simp
    rw [cd_0 hL, Option.bind_some, bs_aI hL.2.2 (show U.length + 3 < 2176 by omega) (by decide), Option.bind_some, show ax_I f (a + 1) (U.length + 3) = b from hr]
    rw [hBB] at go37
    exact go37
theorem cd_c2e (k : Nat) (f : pl_H) (a : Nat) (x1 x2 x3 : Int32) : fn_C_copy_2 (k + 1) f a x1 x2 x3 = if (x1 + x2) ≤ x3 then some f else if x3 < 0 then some f else (pl_gI f a 1 1).bind fun v1 => if v1 ≤ x3 then some f else (pl_gR f a 1 0).bind fun v2 => (pl_aI f v2 x3).bind fun v3 => (pl_is f a 1).bind fun u5 => (fn_C_put f a v3).bind fun q4 => fn_C_copy_2 k q4 a x1 x2 (x3 + 1) := rfl
theorem cd_copy {a begin : Nat} {W B : List Int32} (hB : ∀ j x, B[j]? = some x → W[begin + j]? = some x) (hb : begin + B.length ≤ W.length) (hc : W.length + B.length ≤ 2176) : ∀ (d k i : Nat) (f : pl_H), B.length - i = d → i ≤ B.length → d < k → cd_R f a (W ++ B.take i) → ∃ f', fn_C_copy_2 k f a (nI begin) (nI B.length) (nI (begin + i)) = some f' ∧ cd_R f' a (W ++ B) ∧ bs_kp (cd_S a) f f' := by
  intro d
  induction d with
  | zero =>
    intro k i f hd hi hk h
    obtain ⟨k, rfl⟩ : ∃ k', k = k' + 1 := ⟨k - 1, by omega⟩
    have e : i = B.length := by omega
    subst e
    refine ⟨f, ?_, by rw [List.take_length] at h; exact h, bs_kp.rf⟩
    rw [cd_c2e, nI_add, if_pos ((bs_le (by omega) (by omega)).mpr (Nat.le_refl _))]
  | succ d ih =>
    intro k i f hd hi hk h
    obtain ⟨k, rfl⟩ : ∃ k', k = k' + 1 := ⟨k - 1, by omega⟩
    have hi' : i < B.length := by omega
    have hlen : (W ++ B.take i).length = W.length + i := by
      rw [List.length_append, List.length_take]
      omega
    have hrd : ax_I f (a + 1) (begin + i) = B[i] := by
      refine h.2.2.2 _ _ ?_
      rw [List.getElem?_append_left (by omega)]
      exact hB i B[i] (by simp [hi'])
    obtain ⟨f1, p1, r1, k1, -⟩ := cd_put h (by omega) B[i]
    obtain ⟨f', g1, g2, g3⟩ := ih k (i + 1) f1 (by omega) (by omega) (by omega) (by rw [cd_take hi', ← List.append_assoc]; exact r1)
    refine ⟨f', ?_, g2, k1.tr g3⟩
    rw [cd_c2e, nI_add, if_neg (fun z => absurd ((bs_le (by omega) (by omega)).mp z) (by omega)), if_neg (Int32.not_lt.mpr (nI_pos' (by omega)))]
    rw [cd_1 h.1, h.2.1, hlen, Option.bind_some, if_neg (fun z => absurd ((bs_le (by omega) (by omega)).mp z) (by omega))]
    rw [cd_0 h.1, Option.bind_some, bs_aI h.1.2.2 (show begin + i < 2176 by omega) (by decide), Option.bind_some, hrd, cd_is h, Option.bind_some, p1, Option.bind_some, show nI (begin + i) + 1 = nI (begin + (i + 1)) from nI_add (begin + i) 1]
    exact g1
theorem cd_cp {f : pl_H} {a begin : Nat} {W B : List Int32} (h : cd_R f a W) (hB : ∀ j x, B[j]? = some x → W[begin + j]? = some x) (hb : begin + B.length ≤ W.length) (hc : W.length + B.length ≤ 2176) : ∃ f', fn_C_copy f a (nI begin) (nI B.length) = some f' ∧ cd_R f' a (W ++ B) ∧ bs_kp (cd_S a) f f' :=
  cd_copy hB hb hc B.length pl_N 0 f (by omega) (by omega) (by unfold pl_N; omega) (by simpa using h)
