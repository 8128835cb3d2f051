/-! The reference: put, putRow, putDigits, putReference, finish. -/
def mb_R (f : pl_H) (a : Nat) (W : List Int32) : Prop := ax_i f a 10 = nI W.length ∧ ∀ (i : Nat) (x : Int32), W[i]? = some x → ax_I f (a + 8) i = x
theorem mb_put {f : pl_H} {a : Nat} {W : List Int32} (hM : mo_L f a) (h : mb_R f a W) (hW : W.length < 600) (x : Int32) : ∃ f', fn_M_put f a x = some f' ∧ mb_R f' a (W ++ [x]) ∧ mz a (fun q => q = a + 8) (fun k => k = 10) f f' := by
  have hM1 := mo_uI hM (a + 8) W.length x
  refine ⟨_, ?_, ⟨?_, fun i y hy => ?_⟩, (mz_I hM (by omega) W.length x).tr (mz_f hM1 rfl (nI (W.length + 1)))⟩
  · unfold fn_M_put
    rw [mo_body hM, Option.bind_some, mo_bodyLength hM, h.1, Option.bind_some, mo_body_w hM hW, Option.bind_some, mo_bodyLength hM1, ix_I, h.1, Option.bind_some, nI_1, mo_bodyLength_p hM1, Option.bind_some]
  · rw [ix_f hM1.1 (by decide), List.length_append]
    rfl
  · rw [rx_I_f, rx_I (mo_body_s hM), bs_vI]
    rcases gl_app hy with ⟨z, zL⟩ | ⟨rfl, rfl⟩
    · rw [if_neg (by omega)]
      exact h.2 i y zL
    · rw [if_pos rfl]
theorem mr_24e (k : Nat) (f : pl_H) (a0 a1 : Nat) (x2 x3 : Int32) : fn_M_putRow_24 (k + 1) f a0 a1 x2 x3 = if x2 ≤ x3 then some f else (pl_aI f a1 x3).bind fun v1 => (pl_is f a0 8).bind fun u3 => (fn_M_put f a0 v1).bind fun q2 => fn_M_putRow_24 k q2 a0 a1 x2 (x3 + 1) := rfl
theorem mr_24 {a a1 N : Nat} {W B : List Int32} (h1 : a1 ≠ a) (h2 : a1 ≠ a + 8) (hN : B.length ≤ N) (hN' : N < 2 ^ 31) (hW : W.length + B.length ≤ 600) : ∀ (r k i : Nat) (f : pl_H), B.length - i = r → i ≤ B.length → r < k → mo_L f a → mb_R f a (W ++ B.take i) → ax_sh (f a1) = (2, 0, [N]) → (∀ (j : Nat) (x : Int32), B[j]? = some x → ax_I f a1 j = x) → ∃ f', fn_M_putRow_24 k f a a1 (nI B.length) (nI i) = some f' ∧ mb_R f' a (W ++ B) ∧ mz a (fun q => q = a + 8) (fun k => k = 10) f f' := by
  intro r
  induction r with
  | zero =>
    intro k i f hr hi hk hM h hs hB
    obtain ⟨k, rfl⟩ : ∃ k', k = k' + 1 := ⟨k - 1, by omega⟩
    have e : i = B.length := by omega
    subst e
    rw [List.take_length] at h
    exact ⟨f, by rw [mr_24e, if_pos ((bs_le (by omega) (by omega)).mpr (Nat.le_refl _))], h, mz.rf hM⟩
  | succ r ih =>
    intro k i f hr hi hk hM h hs hB
    obtain ⟨k, rfl⟩ : ∃ k', k = k' + 1 := ⟨k - 1, by omega⟩
    have hlt : i < B.length := by omega
    have hb : ax_I f a1 i = B[i] := hB i B[i] (by simp [hlt])
    have hl : (W ++ B.take i).length = W.length + i := by simp; omega
    obtain ⟨f1, p1, r1, z1⟩ := mb_put hM h (by omega) B[i]
    have e1 : f1 a1 = f a1 := z1.2.1 a1 (fun z => by omega)
    obtain ⟨f', p, r2, z2⟩ := ih k (i + 1) f1 (by omega) (by omega) (by omega) z1.1 (by rw [cd_take hlt, ← List.append_assoc]; exact r1) (by rw [e1]; exact hs) (fun j x hx => by unfold ax_I; rw [e1]; exact hB j x hx)
    refine ⟨f', ?_, r2, z1.tr z2⟩
    rw [mr_24e, if_neg (fun z => absurd ((bs_le (by omega) (by omega)).mp z) (by omega)), bs_aI hs (by omega) hN', hb, Option.bind_some, ax_is hM.1, Option.bind_some, p1, Option.bind_some, nI_1]
    exact p
/-- a row of up to 55 bytes -/
theorem mr_row {f : pl_H} {a a1 N : Nat} {W B : List Int32} (hM : mo_L f a) (h : mb_R f a W) (h1 : a1 ≠ a) (h2 : a1 ≠ a + 8) (hs : ax_sh (f a1) = (2, 0, [N])) (hN : B.length ≤ N) (hN' : N < 2 ^ 31) (hB : ∀ (j : Nat) (x : Int32), B[j]? = some x → ax_I f a1 j = x) (hW : W.length + B.length + 1 ≤ 600) (h55 : B.length ≤ 55) : ∃ f', fn_M_putRow f a a1 (nI B.length) = some f' ∧ mb_R f' a (W ++ cd_enc 128 B) ∧ mz a (fun q => q = a + 8) (fun k => k = 10) f f' := by
  unfold fn_M_putRow fn_M_putRow_13 fn_M_putRow_22
  have plain := mr_24 h1 h2 hN hN' (show W.length + B.length ≤ 600 by omega) B.length pl_N 0 f rfl (Nat.zero_le _) (by unfold pl_N; omega) hM (by rw [List.take_zero, List.append_nil]; exact h) hs hB
  have headed : ∃ f', ((pl_is f a 8).bind fun u2 => (fn_M_put f a (128 + nI B.length)).bind fun q1 => fn_M_putRow_24 pl_N q1 a a1 (nI B.length) 0) = some f' ∧ mb_R f' a (W ++ (cd_hd 128 B.length ++ B)) ∧ mz a (fun q => q = a + 8) (fun k => k = 10) f f' := by
    obtain ⟨f1, p1, r1, z1⟩ := mb_put hM h (by omega) (128 + nI B.length)
    have e1 : f1 a1 = f a1 := z1.2.1 a1 (fun z => by omega)
    have eh : cd_hd 128 B.length = [128 + nI B.length] := by
      unfold cd_hd
      rw [if_pos h55]
    have hl : (W ++ [128 + nI B.length]).length = W.length + 1 := by rw [List.length_append]; rfl
    obtain ⟨f', p, r2, z2⟩ := mr_24 (W := W ++ [128 + nI B.length]) h1 h2 hN hN' (by omega) B.length pl_N 0 f1 rfl (Nat.zero_le _) (by unfold pl_N; omega) z1.1 (by rw [List.take_zero, List.append_nil]; exact r1) (by rw [e1]; exact hs) (fun j x hx => by unfold ax_I; rw [e1]; exact hB j x hx)
    refine ⟨f', ?_, by rw [eh, ← List.append_assoc]; exact r2, z1.tr z2⟩
    rw [ax_is hM.1, Option.bind_some, p1, Option.bind_some]
    exact p
  unfold cd_enc
  by_cases c1 : B.length = 1
  · obtain ⟨b, rfl⟩ : ∃ b, B = [b] := by
      match B, c1 with
      | [b], _ => exact ⟨b, rfl⟩
    have hb : ax_I f a1 0 = b := hB 0 b rfl
    rw [if_pos (show nI [b].length = 1 from rfl), show (0 : Int32) = nI 0 from rfl, bs_aI hs (show 0 < N from hN) hN', hb, Option.bind_some]
    by_cases c2 : b ≤ 127
    · rw [if_pos c2, if_neg]
      · exact plain
      · rintro (q | q | q)
        · cases q
        · exact q rfl
        · have q : (128 : Int32) ≤ b := q
          have h1 := Int32.le_iff_toInt_le.mp c2
          have h2 := Int32.le_iff_toInt_le.mp q
          have e1 : (127 : Int32).toInt = 127 := rfl
          have e2 : (128 : Int32).toInt = 128 := rfl
          omega
    · rw [if_neg c2, if_pos]
      · exact headed
      · refine Or.inr (Or.inr ?_)
        show (128 : Int32) ≤ b
        have h1 := Int32.lt_iff_toInt_lt.mp (Int32.not_le.mp c2)
        have e1 : (127 : Int32).toInt = 127 := rfl
        have e2 : (128 : Int32).toInt = 128 := rfl
        exact Int32.le_iff_toInt_le.mpr (by omega)
  · rw [if_neg (show ¬ nI B.length = 1 from fun z => c1 ((nI_eq (b := 1) (by omega) (by decide)).mp z)), if_pos (Or.inr (Or.inl c1))]
    exact headed
/-- the row of packed digits -/
def mk_R (f : pl_H) (a : Nat) (D : List Int32) : Prop := ∀ (i : Nat) (x : Int32), D[i]? = some x → ax_I f (a + 10) i = x
theorem md_67e (k : Nat) (f : pl_H) (a0 : Nat) (x1 x3 x6 x7 : Int32) : fn_M_putDigits_67 (k + 1) f a0 x1 x3 x6 x7 = if x3 ≤ x7 then (pl_gR f a0 8 14).bind fun v1 => (pl_is f a0 8).bind fun u3 => (fn_M_putRow f a0 v1 x6).bind fun q2 => some q2 else (pl_gR f a0 8 14).bind fun v4 => (fn_M_digit f x1 x7).bind fun v5 => (fn_M_digit f x1 (x7 + 1)).bind fun v6 => (pl_sI f v4 x6 ((16 * v5) + v6)).bind fun f7 => fn_M_putDigits_67 k f7 a0 x1 x3 (x6 + 1) (x7 + 2) := rfl
theorem md_67 {a x e : Nat} {W : List Int32} (hx : x < 65536) (he : e ≤ 4) (hW : W.length + 4 ≤ 600) : ∀ (j k t : Nat) (f : pl_H) (D : List Int32), t + 2 * j = e → j < k → D.length + j ≤ 3 → mo_L f a → mk_R f a D → mb_R f a W → ∃ f', fn_M_putDigits_67 k f a (nI x) (nI e) (nI D.length) (nI t) = some f' ∧ mb_R f' a (W ++ cd_enc 128 (D ++ dg_r x j t)) ∧ mz a (fun q => q = a + 8 ∨ q = a + 10) (fun k => k = 10) f f' := by
  intro j
  induction j with
  | zero =>
    intro k t f D ht hk hD hM hk' hb
    obtain ⟨k, rfl⟩ : ∃ k', k = k' + 1 := ⟨k - 1, by omega⟩
    obtain ⟨f', p, r, z⟩ := mr_row (B := D) hM hb (show a + 10 ≠ a by omega) (by omega) (mo_packed_s hM) (by omega) (by decide) hk' (by omega) (by omega)
    rw [show dg_r x 0 t = [] from rfl, List.append_nil]
    refine ⟨f', ?_, r, z.mo (fun q hq => Or.inl hq) (fun _ h => h)⟩
    rw [md_67e, if_pos ((bs_le (by omega) (by omega)).mpr (by omega)), mo_packed hM, Option.bind_some, ax_is hM.1, Option.bind_some, p, Option.bind_some]
  | succ j ih =>
    intro k t f D ht hk hD hM hk' hb
    obtain ⟨k, rfl⟩ : ∃ k', k = k' + 1 := ⟨k - 1, by omega⟩
    have z1 := mz_I (K := fun k => k = 10) hM (show a + 10 ≠ a by omega) D.length (nI (16 * dg x t + dg x (t + 1)))
    have hl : (D ++ [nI (16 * dg x t + dg x (t + 1))]).length = D.length + 1 := by rw [List.length_append]; rfl
    obtain ⟨f', p, r, z⟩ := ih k (t + 2) (ux_I f (a + 10) D.length (nI (16 * dg x t + dg x (t + 1)))) (D ++ [nI (16 * dg x t + dg x (t + 1))]) (by omega) (by omega) (by omega) z1.1 (fun i y hy => by
      rw [rx_I (mo_packed_s hM), bs_vI]
      rcases gl_app hy with ⟨q, qL⟩ | ⟨rfl, rfl⟩
      · rw [if_neg (by omega)]
        exact hk' i y qL
      · rw [if_pos rfl]) ⟨by rw [ix_I]; exact hb.1, fun i y hy => by rw [rx_I_ne (by omega)]; exact hb.2 i y hy⟩
    have el : D ++ dg_r x (j + 1) t = D ++ [nI (16 * dg x t + dg x (t + 1))] ++ dg_r x j (t + 2) := by
      rw [List.append_assoc]
      rfl
    rw [el]
    refine ⟨f', ?_, r, (z1.mo (fun q hq => Or.inr hq) (fun _ h => h)).tr z⟩
    rw [md_67e, if_neg (fun z => absurd ((bs_le (by omega) (by omega)).mp z) (by omega)), mo_packed hM, Option.bind_some, md_at f hx (by omega), Option.bind_some, nI_1, md_at f hx (by omega), Option.bind_some, show (16 : Int32) * nI (dg x t) + nI (dg x (t + 1)) = nI (16 * dg x t + dg x (t + 1)) by rw [← nI_add, ← pk_mul]; rfl, mo_packed_w hM (by omega), Option.bind_some, nI_1, show nI t + 2 = nI (t + 2) from nI_add t 2]
    rw [hl] at p
    exact p
theorem md_dig {f : pl_H} {a x d e : Nat} {W : List Int32} (hM : mo_L f a) (h : mb_R f a W) (hx : x < 65536) (hde : d ≤ e) (he : e ≤ 4) (hW : W.length + 4 ≤ 600) (mk : Int32) {fl : Nat} (hfl : fl = if mk = 0 then 0 else 2) : ∃ f', fn_M_putDigits f a (nI x) (nI d) (nI e) mk = some f' ∧ mb_R f' a (W ++ cd_enc 128 (dg_p x d e fl)) ∧ mz a (fun q => q = a + 8 ∨ q = a + 10) (fun k => k = 10) f f' := by
  have key : fn_M_putDigits f a (nI x) (nI d) (nI e) mk = fn_M_putDigits_10 f a (nI x) (nI d) (nI e) (nI fl) := by
    unfold fn_M_putDigits
    by_cases c : mk = 0
    · rw [if_pos c] at hfl ⊢
      rw [hfl]
      rfl
    · rw [if_neg c] at hfl ⊢
      rw [hfl]
      rfl
  rw [key]
  unfold fn_M_putDigits_10 fn_M_putDigits_64 dg_p
  rw [pk_sub hde, show (2 : Int32) = nI 2 from rfl, pk_rem (by omega) (by decide) (by decide)]
  have one : ∀ (v : Int32) (t : Nat), t + 2 * ((e - d) / 2) = e → ∃ f', ((pl_gR f a 8 14).bind fun v1 => (pl_sI f v1 0 v).bind fun f2 => fn_M_putDigits_67 pl_N f2 a (nI x) (nI e) (0 + 1) (nI t)) = some f' ∧ mb_R f' a (W ++ cd_enc 128 (v :: dg_r x ((e - d) / 2) t)) ∧ mz a (fun q => q = a + 8 ∨ q = a + 10) (fun k => k = 10) f f' := by
    intro v t ht
    have z1 := mz_I (K := fun k => k = 10) hM (show a + 10 ≠ a by omega) 0 v
    obtain ⟨f', p, r, z⟩ := md_67 hx he hW ((e - d) / 2) pl_N t (ux_I f (a + 10) 0 v) [v] ht (by unfold pl_N; omega) (by show 1 + _ ≤ 3; omega) z1.1 (fun i y hy => by
      rw [rx_I (mo_packed_s hM), bs_vI]
      have hi := gl_lt hy
      have hi : i < 1 := hi
      have : i = 0 := by omega
      subst this
      rw [if_pos rfl]
      exact Option.some.inj hy) ⟨by rw [ix_I]; exact h.1, fun i y hy => by rw [rx_I_ne (by omega)]; exact h.2 i y hy⟩
    refine ⟨f', ?_, r, (z1.mo (fun q hq => Or.inr hq) (fun _ h => h)).tr z⟩
    rw [mo_packed hM, Option.bind_some, show (0 : Int32) = nI 0 from rfl, mo_packed_w hM (by decide), Option.bind_some]
    exact p
  by_cases c : (e - d) % 2 = 0
  · rw [c, if_neg (by decide), if_pos rfl, show (16 : Int32) * nI fl = nI (16 * fl) from pk_mul 16 fl]
    exact one _ d (by omega)
  · rw [if_neg c, if_pos (by rw [show (e - d) % 2 = 1 by omega]; rfl), md_at f hx (by omega)]
    simp only [Option.bind_some]
    rw [nI_1, nI_1, show (16 : Int32) * nI (fl + 1) + nI (dg x d) = nI (16 * (fl + 1) + dg x d) by rw [show (16 : Int32) * nI (fl + 1) = nI (16 * (fl + 1)) from pk_mul 16 (fl + 1), nI_add]]
    exact one _ (d + 1) (by omega)
/-- a reference that is noted -/
def me_R (f : pl_H) (a at' : Nat) (R : List Int32) : Prop := R.length ≤ 33 ∧ ax_I f (a + 5) at' = nI R.length ∧ ∀ (j : Nat) (x : Int32), R[j]? = some x → ax_I f (a + 4) (33 * at' + j) = x
theorem me_10e (k : Nat) (f : pl_H) (a0 : Nat) (x3 x4 : Int32) : fn_M_putReference_10 (k + 1) f a0 x3 x4 = (pl_gR f a0 8 7).bind fun v1 => (pl_aI f v1 x3).bind fun v2 => if v2 ≤ x4 then some f else (pl_gR f a0 8 6).bind fun v3 => (pl_aI f v3 ((33 * x3) + x4)).bind fun v4 => (pl_is f a0 8).bind fun u6 => (fn_M_put f a0 v4).bind fun q5 => fn_M_putReference_10 k q5 a0 x3 (x4 + 1) := rfl
theorem me_10 {a at' : Nat} {W R : List Int32} (ha : at' < 60) (hW : W.length + R.length ≤ 600) : ∀ (r k i : Nat) (f : pl_H), R.length - i = r → i ≤ R.length → r < k → mo_L f a → mb_R f a (W ++ R.take i) → me_R f a at' R → ∃ f', fn_M_putReference_10 k f a (nI at') (nI i) = some f' ∧ mb_R f' a (W ++ R) ∧ mz a (fun q => q = a + 8) (fun k => k = 10) f f' := by
  intro r
  induction r with
  | zero =>
    intro k i f hr hi hk hM h hR
    obtain ⟨k, rfl⟩ : ∃ k', k = k' + 1 := ⟨k - 1, by omega⟩
    have h33 := hR.1
    have e : i = R.length := by omega
    subst e
    rw [List.take_length] at h
    refine ⟨f, ?_, h, mz.rf hM⟩
    rw [me_10e, mo_referLength hM, Option.bind_some, mo_referLength_g hM ha, hR.2.1, Option.bind_some, if_pos ((bs_le (by omega) (by omega)).mpr (Nat.le_refl _))]
  | succ r ih =>
    intro k i f hr hi hk hM h hR
    obtain ⟨k, rfl⟩ : ∃ k', k = k' + 1 := ⟨k - 1, by omega⟩
    have h33 := hR.1
    have hlt : i < R.length := by omega
    have hb : ax_I f (a + 4) (33 * at' + i) = R[i] := hR.2.2 i R[i] (by simp [hlt])
    have hl : (W ++ R.take i).length = W.length + i := by simp; omega
    obtain ⟨f1, p1, r1, z1⟩ := mb_put hM h (by omega) R[i]
    obtain ⟨f', p, r2, z2⟩ := ih k (i + 1) f1 (by omega) (by omega) (by omega) z1.1 (by rw [cd_take hlt, ← List.append_assoc]; exact r1) ⟨h33, by rw [z1.I (by omega) (by omega)]; exact hR.2.1, fun j x hx => by rw [z1.I (by omega) (by omega)]; exact hR.2.2 j x hx⟩
    refine ⟨f', ?_, r2, z1.tr z2⟩
    rw [me_10e, mo_referLength hM, Option.bind_some, mo_referLength_g hM ha, hR.2.1, Option.bind_some, if_neg (fun z => absurd ((bs_le (by omega) (by omega)).mp z) (by omega)), mo_refer hM, Option.bind_some, show (33 : Int32) * nI at' + nI i = nI (33 * at' + i) by rw [← nI_add, ← pk_mul]; rfl, mo_refer_g hM (by omega), hb, Option.bind_some, ax_is hM.1, Option.bind_some, p1, Option.bind_some, nI_1]
    exact p
theorem me_at (d i : Nat) : (12 : Int32) * nI d + nI i = nI (12 * d + i) := by
  rw [show (12 : Int32) * nI d = nI (12 * d) from pk_mul 12 d, nI_add]
theorem me_ref {f : pl_H} {a i d : Nat} {W R : List Int32} (hM : mo_L f a) (h : mb_R f a W) (hd : d ≤ 4) (hi : i < 12) (hR : me_R f a (12 * d + i) R) (hW : W.length + 33 ≤ 600) : ∃ f', fn_M_putReference f a (nI i) (nI d) = some f' ∧ mb_R f' a (W ++ R) ∧ mz a (fun q => q = a + 8) (fun k => k = 10) f f' := by
  have h33 := hR.1
  unfold fn_M_putReference
  rw [me_at]
  exact me_10 (by omega) (by omega) R.length pl_N 0 f rfl (Nat.zero_le _) (by unfold pl_N; omega) hM (by rw [List.take_zero, List.append_nil]; exact h) hR
/-- the code that is finished -/
def mc_R (f : pl_H) (a : Nat) (C : List Int32) : Prop := ax_i f a 12 = nI C.length ∧ ∀ (i : Nat) (x : Int32), C[i]? = some x → ax_I f (a + 9) i = x
theorem mn_117e (k : Nat) (f : pl_H) (a0 : Nat) (x1 : Int32) : fn_M_finish_117 (k + 1) f a0 x1 = (pl_gI f a0 8 10).bind fun v1 => if v1 ≤ x1 then (pl_gI f a0 8 12).bind fun v2 => (pl_gI f a0 8 10).bind fun v3 => (pl_pV f a0 8 12 (.int (v2 + v3))).bind fun f4 => some f4 else (pl_gR f a0 8 13).bind fun v5 => (pl_gI f a0 8 12).bind fun v6 => (pl_gR f a0 8 11).bind fun v7 => (pl_aI f v7 x1).bind fun v8 => (pl_sI f v5 (v6 + x1) v8).bind fun f9 => fn_M_finish_117 k f9 a0 (x1 + 1) := rfl
theorem mn_117 {a : Nat} {H B : List Int32} (hB : H.length + B.length ≤ 600) : ∀ (r k i : Nat) (f : pl_H), B.length - i = r → i ≤ B.length → r < k → mo_L f a → mb_R f a B → ax_i f a 12 = nI H.length → (∀ (j : Nat) (x : Int32), (H ++ B.take i)[j]? = some x → ax_I f (a + 9) j = x) → ∃ f', fn_M_finish_117 k f a (nI i) = some f' ∧ mc_R f' a (H ++ B) ∧ mz a (fun q => q = a + 9) (fun k => k = 12) f f' := by
  intro r
  induction r with
  | zero =>
    intro k i f hr hi hk hM h hH hc
    obtain ⟨k, rfl⟩ : ∃ k', k = k' + 1 := ⟨k - 1, by omega⟩
    have e : i = B.length := by omega
    subst e
    rw [List.take_length] at hc
    refine ⟨_, ?_, ⟨ix_f hM.1 (by decide), fun j x hx => by rw [rx_I_f]; exact hc j x hx⟩, mz_f hM rfl (nI (H ++ B).length)⟩
    rw [mn_117e, mo_bodyLength hM, h.1, Option.bind_some, if_pos ((bs_le (by omega) (by omega)).mpr (Nat.le_refl _)), mo_codeLength hM, hH, Option.bind_some, Option.bind_some, nI_add, mo_codeLength_p hM, Option.bind_some, List.length_append]
  | succ r ih =>
    intro k i f hr hi hk hM h hH hc
    obtain ⟨k, rfl⟩ : ∃ k', k = k' + 1 := ⟨k - 1, by omega⟩
    have hlt : i < B.length := by omega
    have hb : ax_I f (a + 8) i = B[i] := h.2 i B[i] (by simp [hlt])
    have hl : (H ++ B.take i).length = H.length + i := by simp; omega
    have z1 := mz_I (K := fun k => k = 12) hM (show a + 9 ≠ a by omega) (H.length + i) B[i]
    obtain ⟨f', p, r2, z2⟩ := ih k (i + 1) (ux_I f (a + 9) (H.length + i) B[i]) (by omega) (by omega) (by omega) z1.1 ⟨by rw [ix_I]; exact h.1, fun j x hx => by rw [rx_I_ne (by omega)]; exact h.2 j x hx⟩ (by rw [ix_I]; exact hH) (fun j x hx => by
      rw [cd_take hlt, ← List.append_assoc] at hx
      rw [rx_I (mo_code_s hM), bs_vI]
      rcases gl_app hx with ⟨q, qL⟩ | ⟨rfl, rfl⟩
      · rw [if_neg (by omega)]
        exact hc j x qL
      · rw [hl, if_pos rfl])
    refine ⟨f', ?_, r2, z1.tr z2⟩
    rw [mn_117e, mo_bodyLength hM, h.1, Option.bind_some, if_neg (fun z => absurd ((bs_le (by omega) (by omega)).mp z) (by omega)), mo_code hM, Option.bind_some, mo_codeLength hM, hH, Option.bind_some, mo_body hM, Option.bind_some, mo_body_g hM (by omega), hb, Option.bind_some, nI_add, mo_code_w hM (by omega), Option.bind_some, nI_1]
    exact p
theorem mn_fin {f : pl_H} {a : Nat} {B : List Int32} (hM : mo_L f a) (h : mb_R f a B) (hB : B.length ≤ 540) : ∃ f', fn_M_finish f a = some f' ∧ mc_R f' a (cd_enc 192 B) ∧ mz a (fun q => q = a + 9) (fun k => k = 12) f f' := by
  have hM1 : mo_L (ux_f f a 12 (.int 0)) a := (mz_f (S := fun q => q = a + 9) hM rfl 0).1
  have b1 : ax_i (ux_f f a 12 (.int 0)) a 10 = nI B.length := by rw [ix_fne (Or.inr (by decide))]; exact h.1
  have last : ∀ (H : List Int32) (g : pl_H), H.length ≤ 3 → mz a (fun q => q = a + 9) (fun k => k = 12) f g → (∀ (j : Nat) (x : Int32), H[j]? = some x → ax_I g (a + 9) j = x) → ∃ f', ((pl_pV g a 8 12 (.int (nI H.length))).bind fun f12 => fn_M_finish_117 pl_N f12 a 0) = some f' ∧ mc_R f' a (H ++ B) ∧ mz a (fun q => q = a + 9) (fun k => k = 12) f f' := by
    intro H g hH zg hg
    have z1 := mz_f (S := fun q => q = a + 9) zg.1 (k := 12) rfl (nI H.length)
    obtain ⟨f', p, r, z⟩ := mn_117 (H := H) (B := B) (by omega) B.length pl_N 0 (ux_f g a 12 (.int (nI H.length))) rfl (Nat.zero_le _) (by unfold pl_N; omega) z1.1 ⟨by rw [ix_fne (Or.inr (by decide)), zg.i (by decide)]; exact h.1, fun j x hx => by rw [rx_I_f, zg.I (by omega) (by omega)]; exact h.2 j x hx⟩ (ix_f zg.1.1 (by decide)) (fun j x hx => by
      rw [List.take_zero, List.append_nil] at hx
      rw [rx_I_f]
      exact hg j x hx)
    refine ⟨f', ?_, r, (zg.tr z1).tr z⟩
    rw [mo_codeLength_p zg.1, Option.bind_some]
    exact p
  have z0 : mz a (fun q => q = a + 9) (fun k => k = 12) f (ux_f f a 12 (.int 0)) := mz_f hM rfl 0
  have w0 : ∀ {g : pl_H} {x : Int32}, mo_L g a → pl_sI g (a + 9) 0 x = some (ux_I g (a + 9) 0 x) := fun hg => mo_code_w hg (j := 0) (by decide) _
  have w1 : ∀ {g : pl_H} {x : Int32}, mo_L g a → pl_sI g (a + 9) 1 x = some (ux_I g (a + 9) 1 x) := fun hg => mo_code_w hg (j := 1) (by decide) _
  have w2 : ∀ {g : pl_H} {x : Int32}, mo_L g a → pl_sI g (a + 9) 2 x = some (ux_I g (a + 9) 2 x) := fun hg => mo_code_w hg (j := 2) (by decide) _
  have ee : cd_enc 192 B = cd_hd 192 B.length ++ B := by
    unfold cd_enc
    rw [if_pos (Or.inl rfl)]
  rw [ee]
  unfold fn_M_finish fn_M_finish_115 cd_hd
  rw [mo_codeLength_p hM, Option.bind_some, mo_bodyLength hM1, b1, Option.bind_some]
  by_cases c1 : B.length ≤ 55
  · rw [if_pos c1, if_neg (show ¬ 55 < nI B.length from fun z => absurd ((bs_lt (a := 55) (by decide) (by omega)).mp z) (by omega)), mo_code hM1, Option.bind_some, Option.bind_some, w0 hM1, Option.bind_some]
    refine last [192 + nI B.length] _ (by show 1 ≤ 3; omega) (z0.tr (mz_I hM1 (by omega) 0 (192 + nI B.length))) (fun j x hx => ?_)
    have hj : j < 1 := gl_lt hx
    have : j = 0 := by omega
    subst this
    rw [rx_I (mo_code_s hM1), bs_vI, if_pos rfl]
    exact Option.some.inj hx
  · rw [if_neg c1, if_pos (show 55 < nI B.length from (bs_lt (a := 55) (by decide) (by omega)).mpr (by omega)), Option.bind_some]
    by_cases c2 : B.length < 256
    · rw [if_pos c2, if_neg (show ¬ 256 ≤ nI B.length from fun z => absurd ((bs_le (a := 256) (by decide) (by omega)).mp z) (by omega)), mo_code hM1, Option.bind_some]
      have hM2 := mo_uI hM1 (a + 9) 0 248
      rw [w0 hM1, Option.bind_some, mo_code hM2, Option.bind_some, mo_bodyLength hM2, ix_I]
      rw [b1, Option.bind_some, w1 hM2, Option.bind_some]
      refine last [(192 + 55) + 1, nI B.length] _ (by show 2 ≤ 3; omega) ((z0.tr (mz_I hM1 (by omega) 0 248)).tr (mz_I hM2 (by omega) 1 (nI B.length))) (fun j x hx => ?_)
      have hj : j < 2 := gl_lt hx
      have : j = 0 ∨ j = 1 := by omega
      rcases this with rfl | rfl
      · rw [rx_I (mo_code_s hM2), bs_vI, if_neg (by decide), rx_I (mo_code_s hM1), bs_vI, if_pos rfl]
        exact Option.some.inj hx
      · rw [rx_I (mo_code_s hM2), bs_vI, if_pos rfl]
        exact Option.some.inj hx
    · rw [if_neg c2, if_pos (show 256 ≤ nI B.length from (bs_le (a := 256) (by decide) (by omega)).mpr (by omega)), mo_code hM1, Option.bind_some]
      have hM2 := mo_uI hM1 (a + 9) 0 249
      have hM3 := mo_uI hM2 (a + 9) 1 (nI (B.length / 256))
      rw [w0 hM1, Option.bind_some, mo_code hM2, Option.bind_some, mo_bodyLength hM2, ix_I]
      rw [b1, Option.bind_some, show nI B.length / 256 = nI (B.length / 256) from pk_div (d := 256) (by omega) (by decide) (by decide), w1 hM2, Option.bind_some, mo_code hM3, Option.bind_some, mo_bodyLength hM3, ix_I, ix_I]
      rw [b1, Option.bind_some, show nI B.length - nI B.length / 256 * 256 = nI (B.length % 256) from pk_rem (d := 256) (by omega) (by decide) (by decide), w2 hM3, Option.bind_some]
      refine last [(192 + 55) + 2, nI (B.length / 256), nI (B.length % 256)] _ (by show 3 ≤ 3; omega) (((z0.tr (mz_I hM1 (by omega) 0 249)).tr (mz_I hM2 (by omega) 1 _)).tr (mz_I hM3 (by omega) 2 _)) (fun j x hx => ?_)
      have hj : j < 3 := gl_lt hx
      have : j = 0 ∨ j = 1 ∨ j = 2 := by omega
      rcases this with rfl | rfl | rfl
      · rw [rx_I (mo_code_s hM3), bs_vI, if_neg (by decide), rx_I (mo_code_s hM2), bs_vI, if_neg (by decide), rx_I (mo_code_s hM1), bs_vI, if_pos rfl]
        exact Option.some.inj hx
      · rw [rx_I (mo_code_s hM3), bs_vI, if_neg (by decide), rx_I (mo_code_s hM2), bs_vI, if_pos rfl]
        exact Option.some.inj hx
      · rw [rx_I (mo_code_s hM3), bs_vI, if_pos rfl]
        exact Option.some.inj hx
