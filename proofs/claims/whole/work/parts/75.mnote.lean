/-! The reference: note, top, work. -/
def mo_NS (a : Nat) : Nat → Prop := fun q => (a + 4 ≤ q ∧ q ≤ a + 6) ∨ mo_H a q
/-- one entry written, the others left -/
def mn_E (f f' : pl_H) (a at' : Nat) : Prop := (∀ q, q ≠ at' → ax_I f' (a + 5) q = ax_I f (a + 5) q ∧ ax_I f' (a + 6) q = ax_I f (a + 6) q) ∧ ∀ q, q < 33 * at' ∨ 33 * at' + 33 ≤ q → ax_I f' (a + 4) q = ax_I f (a + 4) q
theorem nt_103e (k : Nat) (f : pl_H) (a0 : Nat) (x3 x4 : Int32) : fn_M_note_103 (k + 1) f a0 x3 x4 = (pl_gI f a0 8 12).bind fun v1 => if v1 ≤ x4 then (pl_gR f a0 8 7).bind fun v2 => (pl_gI f a0 8 12).bind fun v3 => (pl_sI f v2 x3 v3).bind fun f4 => some f4 else (pl_gR f a0 8 6).bind fun v5 => (pl_gR f a0 8 13).bind fun v6 => (pl_aI f v6 x4).bind fun v7 => (pl_sI f v5 ((33 * x3) + x4) v7).bind fun f8 => fn_M_note_103 k f8 a0 x3 (x4 + 1) := rfl
theorem nt_103 {a at' : Nat} {C : List Int32} (ha : at' < 60) (hC : C.length < 32) : ∀ (r k i : Nat) (f : pl_H), C.length - i = r → i ≤ C.length → r < k → mo_L f a → mc_R f a C → (∀ (j : Nat) (x : Int32), (C.take i)[j]? = some x → ax_I f (a + 4) (33 * at' + j) = x) → ∃ f', fn_M_note_103 k f a (nI at') (nI i) = some f' ∧ me_R f' a at' C ∧ mn_E f f' a at' ∧ ax_I f' (a + 6) = ax_I f (a + 6) ∧ mz a (fun q => q = a + 4 ∨ q = a + 5) (fun _ => False) f f' := by
  intro r
  induction r with
  | zero =>
    intro k i f hr hi hk hM hc h
    obtain ⟨k, rfl⟩ : ∃ k', k = k' + 1 := ⟨k - 1, by omega⟩
    have e : i = C.length := by omega
    subst e
    rw [List.take_length] at h
    refine ⟨_, ?_, ⟨by omega, ?_, fun j x hx => ?_⟩, ⟨fun q hq => ⟨?_, ?_⟩, fun q hq => ?_⟩, ?_, (mz_I hM (show a + 5 ≠ a by omega) at' (nI C.length)).mo (fun q hq => Or.inr hq) (fun _ h => h)⟩
    · rw [nt_103e, mo_codeLength hM, hc.1, Option.bind_some, if_pos ((bs_le (by omega) (by omega)).mpr (Nat.le_refl _)), mo_referLength hM, Option.bind_some, Option.bind_some, mo_referLength_w hM ha, Option.bind_some]
    · rw [rx_I (mo_referLength_s hM), bs_vI, if_pos rfl]
    · rw [rx_I_ne (by omega)]
      exact h j x hx
    · rw [rx_I (mo_referLength_s hM), bs_vI, if_neg hq]
    · rw [rx_I_ne (by omega)]
    · rw [rx_I_ne (by omega)]
    · rw [rx_I_ne (by omega)]
  | succ r ih =>
    intro k i f hr hi hk hM hc h
    obtain ⟨k, rfl⟩ : ∃ k', k = k' + 1 := ⟨k - 1, by omega⟩
    have hlt : i < C.length := by omega
    have hb : ax_I f (a + 9) i = C[i] := hc.2 i C[i] (by simp [hlt])
    have z1 := mz_I (K := fun _ => False) hM (show a + 4 ≠ a by omega) (33 * at' + i) C[i]
    obtain ⟨f', p, q1, q2, q3, q4⟩ := ih k (i + 1) (ux_I f (a + 4) (33 * at' + i) C[i]) (by omega) (by omega) (by omega) z1.1 ⟨by rw [ix_I]; exact hc.1, fun j x hx => by rw [rx_I_ne (by omega)]; exact hc.2 j x hx⟩ (fun j x hx => by
      rw [cd_take hlt] at hx
      have hl : (C.take i).length = i := by simp; omega
      rw [rx_I (mo_refer_s hM), bs_vI]
      rcases gl_app hx with ⟨z, zL⟩ | ⟨rfl, rfl⟩
      · rw [if_neg (by omega)]
        exact h j x zL
      · rw [hl, if_pos rfl])
    refine ⟨f', ?_, q1, ⟨fun q hq => ⟨?_, ?_⟩, fun q hq => ?_⟩, ?_, (z1.mo (fun q hq => Or.inl hq) (fun _ h => h)).tr q4⟩
    · rw [nt_103e, mo_codeLength hM, hc.1, Option.bind_some, if_neg (fun z => absurd ((bs_le (by omega) (by omega)).mp z) (by omega)), mo_refer hM, Option.bind_some, mo_code hM, Option.bind_some, mo_code_g hM (by omega), hb, Option.bind_some, show (33 : Int32) * nI at' + nI i = nI (33 * at' + i) by rw [← nI_add, ← pk_mul]; rfl, mo_refer_w hM (by omega), Option.bind_some, nI_1]
      exact p
    · rw [(q2.1 q hq).1, rx_I_ne (by omega)]
    · rw [(q2.1 q hq).2, rx_I_ne (by omega)]
    · rw [q2.2 q hq, rx_I (mo_refer_s hM), bs_vI, if_neg (by omega)]
    · rw [q3, rx_I_ne (by omega)]
theorem nt_55e (k : Nat) (f : pl_H) (a0 : Nat) (x3 x4 : Int32) : fn_M_note_55 (k + 1) f a0 x3 x4 = if 32 ≤ x4 then (pl_gR f a0 8 7).bind fun v1 => (pl_sI f v1 x3 33).bind fun f2 => some f2 else (pl_gR f a0 8 6).bind fun v3 => (pl_gR f a0 8 27).bind fun v4 => (pl_aI f v4 x4).bind fun v5 => (pl_sI f v3 (((33 * x3) + 1) + x4) v5).bind fun f6 => fn_M_note_55 k f6 a0 x3 (x4 + 1) := rfl
theorem nt_55 {a at' : Nat} {R : List Int32} (ha : at' < 60) (hR : R.length = 33) : ∀ (r k i : Nat) (f : pl_H), 32 - i = r → i ≤ 32 → r < k → mo_L f a → (∀ (j : Nat) (x : Int32), j < 32 → R[1 + j]? = some x → ax_I f (a + 20) j = x) → (∀ (j : Nat) (x : Int32), (R.take (1 + i))[j]? = some x → ax_I f (a + 4) (33 * at' + j) = x) → ∃ f', fn_M_note_55 k f a (nI at') (nI i) = some f' ∧ me_R f' a at' R ∧ mn_E f f' a at' ∧ ax_I f' (a + 6) = ax_I f (a + 6) ∧ mz a (fun q => q = a + 4 ∨ q = a + 5) (fun _ => False) f f' := by
  intro r
  induction r with
  | zero =>
    intro k i f hr hi hk hM hc h
    obtain ⟨k, rfl⟩ : ∃ k', k = k' + 1 := ⟨k - 1, by omega⟩
    have e : i = 32 := by omega
    subst e
    rw [show 1 + 32 = R.length by omega, List.take_length] at h
    refine ⟨_, ?_, ⟨by omega, ?_, fun j x hx => ?_⟩, ⟨fun q hq => ⟨?_, ?_⟩, fun q hq => ?_⟩, ?_, (mz_I hM (show a + 5 ≠ a by omega) at' 33).mo (fun q hq => Or.inr hq) (fun _ h => h)⟩
    · rw [nt_55e, if_pos (by decide), mo_referLength hM, Option.bind_some, mo_referLength_w hM ha, Option.bind_some]
    · rw [rx_I (mo_referLength_s hM), bs_vI, if_pos rfl, hR]
      rfl
    · rw [rx_I_ne (by omega)]
      exact h j x hx
    · rw [rx_I (mo_referLength_s hM), bs_vI, if_neg hq]
    · rw [rx_I_ne (by omega)]
    · rw [rx_I_ne (by omega)]
    · rw [rx_I_ne (by omega)]
  | succ r ih =>
    intro k i f hr hi hk hM hc h
    obtain ⟨k, rfl⟩ : ∃ k', k = k' + 1 := ⟨k - 1, by omega⟩
    have hlt : 1 + i < R.length := by omega
    have hb : ax_I f (a + 20) i = R[1 + i] := hc i R[1 + i] (by omega) (by simp [hlt])
    have z1 := mz_I (K := fun _ => False) hM (show a + 4 ≠ a by omega) (33 * at' + 1 + i) R[1 + i]
    obtain ⟨f', p, q1, q2, q3, q4⟩ := ih k (i + 1) (ux_I f (a + 4) (33 * at' + 1 + i) R[1 + i]) (by omega) (by omega) (by omega) z1.1 (fun j x hj hx => by rw [rx_I_ne (by omega)]; exact hc j x hj hx) (fun j x hx => by
      rw [show 1 + (i + 1) = (1 + i) + 1 by omega, cd_take hlt] at hx
      have hl : (R.take (1 + i)).length = 1 + i := by simp; omega
      rw [rx_I (mo_refer_s hM), bs_vI]
      rcases gl_app hx with ⟨z, zL⟩ | ⟨rfl, rfl⟩
      · rw [if_neg (by omega)]
        exact h j x zL
      · rw [hl, if_pos (by omega)])
    refine ⟨f', ?_, q1, ⟨fun q hq => ⟨?_, ?_⟩, fun q hq => ?_⟩, ?_, (z1.mo (fun q hq => Or.inl hq) (fun _ h => h)).tr q4⟩
    · rw [nt_55e, if_neg (show ¬ 32 ≤ nI i from fun z => absurd ((bs_le (a := 32) (by decide) (by omega)).mp z) (by omega)), mo_refer hM, Option.bind_some, mo_hash hM, Option.bind_some, mo_hash_g hM (by omega), hb, Option.bind_some, show ((33 : Int32) * nI at' + 1) + nI i = nI (33 * at' + 1 + i) by rw [← nI_add, ← nI_add, ← pk_mul]; rfl, mo_refer_w hM (by omega), Option.bind_some, nI_1]
      exact p
    · rw [(q2.1 q hq).1, rx_I_ne (by omega)]
    · rw [(q2.1 q hq).2, rx_I_ne (by omega)]
    · rw [q2.2 q hq, rx_I (mo_refer_s hM), bs_vI, if_neg (by omega)]
    · rw [q3, rx_I_ne (by omega)]
theorem mo_byHash_w {f : pl_H} {a j : Nat} (h : mo_L f a) (hj : j < 60) {x : Int32} (hx : pl_zb x = true) : pl_sZ f (a + 6) (nI j) x = some (ux_I f (a + 6) j x) := by
  rw [ax_sZ (mo_byHash_s h), if_pos ⟨bs_ok hj (by decide), hx⟩, bs_cl (by omega)]
theorem mz_H {f f' : pl_H} {a : Nat} (h : mo_L f' a) (hk : bs_kp (mo_H a) f f') : mz a (mo_H a) (fun _ => False) f f' := ⟨h, hk.mono (fun q hq => Or.inr hq), fun k _ => by
  unfold ax_v
  rw [hk a (fun z => by unfold mo_H at z; omega)]⟩
theorem mz_T {f f' : pl_H} {a : Nat} {S K : Nat → Prop} (h : mo_T f a) (z : mz a S K f f') (h1 : ¬ S (a + 17)) (h2 : ¬ S (a + 18)) : mo_T f' a := mo_T_kp h z.2.1 (fun q => q.elim (fun e => by omega) h1) (fun q => q.elim (fun e => by omega) h2)
theorem mn_note {f : pl_H} {a i d : Nat} {C : List Int32} (hM : mo_L f a) (hT : mo_T f a) (hi : i < 12) (hd : d ≤ 4) (hC : C.length < 544) (hc : mc_R f a C) : ∃ f', fn_M_note f a (nI i) (nI d) = some f' ∧ me_R f' a (12 * d + i) (rf C) ∧ ax_I f' (a + 6) (12 * d + i) = (if C.length < 32 then 0 else 1) ∧ mn_E f f' a (12 * d + i) ∧ mz a (mo_NS a) (fun _ => False) f f' ∧ mo_T f' a := by
  have ha : 12 * d + i < 60 := by omega
  unfold fn_M_note fn_M_note_26
  rw [mo_byHash hM, Option.bind_some, mo_codeLength hM, hc.1, Option.bind_some, me_at]
  generalize 12 * d + i = at' at ha ⊢
  unfold rf
  by_cases c : C.length < 32
  · rw [if_pos (show nI C.length < 32 from (bs_lt (b := 32) (by omega) (by decide)).mpr c), if_pos c, if_pos c, mo_byHash_w hM ha rfl, Option.bind_some]
    have z1 := mz_I (K := fun _ => False) hM (show a + 6 ≠ a by omega) at' 0
    have e6 : ax_I (ux_I f (a + 6) at' 0) (a + 6) at' = 0 := by rw [rx_I (mo_byHash_s hM), bs_vI, if_pos rfl]
    rw [mo_byHash z1.1, Option.bind_some, mo_byHash_g z1.1 ha, e6, Option.bind_some, if_pos rfl]
    obtain ⟨f', p, q1, q2, q3, q4⟩ := nt_103 (at' := at') ha c C.length pl_N 0 (ux_I f (a + 6) at' 0) rfl (Nat.zero_le _) (by unfold pl_N; omega) z1.1 ⟨by rw [ix_I]; exact hc.1, fun j x hx => by rw [rx_I_ne (by omega)]; exact hc.2 j x hx⟩ (fun j x hx => by simp at hx)
    have Y : mz a (mo_NS a) (fun _ => False) f f' := (z1.mo (fun q hq => Or.inl (by omega)) (fun _ h => h)).tr (q4.mo (fun q hq => Or.inl (by omega)) (fun _ h => h))
    refine ⟨f', p, q1, by rw [q3]; exact e6, ⟨fun q hq => ⟨?_, ?_⟩, fun q hq => ?_⟩, Y, mz_T hT Y (fun z => by unfold mo_NS mo_H at z; omega) (fun z => by unfold mo_NS mo_H at z; omega)⟩
    · rw [(q2.1 q hq).1, rx_I_ne (by omega)]
    · rw [(q2.1 q hq).2, rx_I (mo_byHash_s hM), bs_vI, if_neg hq]
    · rw [q2.2 q hq, rx_I_ne (by omega)]
  · rw [if_neg (show ¬ nI C.length < 32 from fun z => c ((bs_lt (b := 32) (by omega) (by decide)).mp z)), if_neg c, if_neg c, mo_byHash_w hM ha rfl, Option.bind_some]
    have z1 := mz_I (K := fun _ => False) hM (show a + 6 ≠ a by omega) at' 1
    have e6 : ax_I (ux_I f (a + 6) at' 1) (a + 6) at' = 1 := by rw [rx_I (mo_byHash_s hM), bs_vI, if_pos rfl]
    rw [mo_byHash z1.1, Option.bind_some, mo_byHash_g z1.1 ha, e6, Option.bind_some, if_neg (by decide), ax_is z1.1.1, Option.bind_some]
    have T1 := mz_T hT z1 (by omega) (by omega)
    obtain ⟨f2, p2, M2, T2, k2, h2⟩ := mm_hash' (g := fun j => C.getD j 0) hC z1.1 T1 (show ax_i (ux_I f (a + 6) at' 1) a 12 = nI C.length by rw [ix_I]; exact hc.1) (fun j hj => by
      rw [rx_I_ne (by omega), hc.2 j C[j] (by simp [hj])]
      simp [hj])
    have z2 := mz_H M2 k2
    have z3 := mz_I (K := fun _ => False) M2 (show a + 4 ≠ a by omega) (33 * at') 160
    rw [p2, Option.bind_some, mo_refer M2, Option.bind_some, show (33 : Int32) * nI at' = nI (33 * at') from pk_mul 33 at', mo_refer_w M2 (by omega), Option.bind_some]
    obtain ⟨f', p, q1, q2, q3, q4⟩ := nt_55 (at' := at') (R := rf_h C) ha (rf_h_l C) 32 pl_N 0 (ux_I f2 (a + 4) (33 * at') 160) rfl (Nat.zero_le _) (by decide) z3.1 (fun j x hj hx => by
      rw [rx_I_ne (by omega), h2 j hj]
      unfold rf_h at hx
      rw [Nat.add_comm, List.getElem?_cons_succ] at hx
      simp [hj] at hx
      exact hx) (fun j x hx => by
      have hj := gl_lt hx
      rw [List.length_take, rf_h_l] at hj
      have : j = 0 := by omega
      subst this
      rw [rx_I (mo_refer_s M2), bs_vI, if_pos (by omega)]
      exact Option.some.inj hx)
    have Y : mz a (mo_NS a) (fun _ => False) f f' := (((z1.mo (fun q hq => Or.inl (by omega)) (fun _ h => h)).tr (z2.mo (fun q hq => Or.inr hq) (fun _ h => h))).tr (z3.mo (fun q hq => Or.inl (by omega)) (fun _ h => h))).tr (q4.mo (fun q hq => Or.inl (by omega)) (fun _ h => h))
    have e26 : ax_I f2 (a + 6) = ax_I (ux_I f (a + 6) at' 1) (a + 6) := z2.I (by omega) (fun z => by unfold mo_H at z; omega)
    have e25 : ax_I f2 (a + 5) = ax_I (ux_I f (a + 6) at' 1) (a + 5) := z2.I (by omega) (fun z => by unfold mo_H at z; omega)
    have e24 : ax_I f2 (a + 4) = ax_I (ux_I f (a + 6) at' 1) (a + 4) := z2.I (by omega) (fun z => by unfold mo_H at z; omega)
    refine ⟨f', p, q1, by rw [q3, rx_I_ne (by omega), e26]; exact e6, ⟨fun q hq => ⟨?_, ?_⟩, fun q hq => ?_⟩, Y, mz_T hT Y (fun z => by unfold mo_NS mo_H at z; omega) (fun z => by unfold mo_NS mo_H at z; omega)⟩
    · rw [(q2.1 q hq).1, rx_I_ne (by omega), e25, rx_I_ne (by omega)]
    · rw [(q2.1 q hq).2, rx_I_ne (by omega), e26, rx_I (mo_byHash_s hM), bs_vI, if_neg hq]
    · rw [q2.2 q hq, rx_I (mo_refer_s M2), bs_vI, if_neg (by omega), e24, rx_I_ne (by omega)]
/-- what is noted: all below depth d, and at depth d the first i -/
def mt_B (f : pl_H) (a c : Nat) (m : am_M) (d i : Nat) : Prop := ∀ e j, (d < e ∧ j < c) ∨ (e = d ∧ j < i) → e ≤ 4 → me_R f a (12 * e + j) (rf (cs m (mu f a j) e)) ∧ ax_I f (a + 6) (12 * e + j) = if (cs m (mu f a j) e).length < 32 then 0 else 1
theorem mt_BR {f : pl_H} {a c d i : Nat} {m : am_M} (h : mt_B f a c m d i) : mt_R f a c m d := fun e j h1 h2 h3 => (h e j (Or.inl ⟨h1, h3⟩) h2).1
theorem mt_Bz {f f' : pl_H} {a c d i : Nat} {m : am_M} {S K : Nat → Prop} (h : mt_B f a c m d i) (z : mz a S K f f') (h1 : ¬ S (a + 1)) (h4 : ¬ S (a + 4)) (h5 : ¬ S (a + 5)) (h6 : ¬ S (a + 6)) : mt_B f' a c m d i := by
  intro e j h2 h3
  obtain ⟨⟨b1, b2, b3⟩, b4⟩ := h e j h2 h3
  rw [z.mu h1]
  exact ⟨⟨b1, by rw [z.I (by omega) h5]; exact b2, fun i x hx => by rw [z.I (by omega) h4]; exact b3 i x hx⟩, by rw [z.I (by omega) h6]; exact b4⟩
def mw_S (a : Nat) : Nat → Prop := fun q => mo_NS a q ∨ mx_S a q ∨ q = a + 21
def mw_K : Nat → Prop := fun k => k = 5 ∨ k = 10 ∨ k = 12
theorem mw_nS {a q : Nat} (h : a < q) (h2 : q ≤ a + 3 ∨ q = a + 7 ∨ q = a + 12 ∨ q = a + 13 ∨ q = a + 17 ∨ q = a + 18 ∨ a + 22 ≤ q) : ¬ mw_S a q := fun z => by
  unfold mw_S mo_NS mx_S mo_H at z
  omega
theorem mk_21e (rc : pl_H → Nat → Int32 → Option pl_H) (k : Nat) (f : pl_H) (a0 : Nat) (x1 x2 : Int32) : fn_M_work_21 rc (k + 1) f a0 x1 x2 = (pl_gI f a0 8 0).bind fun v1 => if v1 ≤ x2 then rc f a0 (x1 + (-1)) else (pl_is f a0 8).bind fun u3 => (fn_M_build f a0 x2 x1).bind fun q2 => (pl_is q2 a0 8).bind fun u5 => (fn_M_note q2 a0 x2 x1).bind fun q4 => fn_M_work_21 rc k q4 a0 x1 (x2 + 1) := rfl
theorem mk_21 {a c d K : Nat} {m : am_M} {rc : pl_H → Nat → Int32 → Option pl_H} (hok : am_ok K m) (hK : K ≤ 512) (hd : d ≤ 4) : ∀ (r k i : Nat) (f : pl_H), c - i = r → i ≤ c → r < k → mo_R f a c m → mo_T f a → mt_B f a c m d i → ∃ f', fn_M_work_21 rc k f a (nI d) (nI i) = rc f' a (nI d - 1) ∧ mo_R f' a c m ∧ mo_T f' a ∧ mt_B f' a c m d c ∧ mz a (mw_S a) mx_K f f' := by
  intro r
  induction r with
  | zero =>
    intro k i f hr hi hk hR hT hB
    have hc := hR.2.2.1
    obtain ⟨k, rfl⟩ : ∃ k', k = k' + 1 := ⟨k - 1, by omega⟩
    have e : i = c := by omega
    subst e
    refine ⟨f, ?_, hR, hT, hB, mz.rf hR.1⟩
    rw [mk_21e, mo_many hR.1, hR.2.1, Option.bind_some, if_pos ((bs_le (by omega) (by omega)).mpr (Nat.le_refl _)), show nI d + (-1) = nI d - 1 from (Int32.sub_eq_add_neg (nI d) 1).symm]
  | succ r ih =>
    intro k i f hr hi hk hR hT hB
    have hc := hR.2.2.1
    obtain ⟨k, rfl⟩ : ∃ k', k = k' + 1 := ⟨k - 1, by omega⟩
    have hi' : i < c := by omega
    have hx : ga m (mu f a i) := (mu_ga hR _).mpr ⟨i, hi', rfl⟩
    obtain ⟨f1, p1, c1, z1⟩ := mx_build hR hok hK hi' hd (mt_BR hB)
    have y1 : mz a (mw_S a) mx_K f f1 := z1.mo (fun q hq => Or.inr (Or.inl hq)) (fun _ h => h)
    have R1 := y1.R hR (fun q h1 h2 => mw_nS h1 (Or.inl h2)) (by unfold mx_K; omega)
    have T1 := mz_T hT y1 (mw_nS (by omega) (by omega)) (mw_nS (by omega) (by omega))
    have B1 := mt_Bz hB z1 (by unfold mx_S; omega) (by unfold mx_S; omega) (by unfold mx_S; omega) (by unfold mx_S; omega)
    have hl := cs_len hx hd
    obtain ⟨f2, p2, e2, h2, E2, z2, T2⟩ := mn_note R1.1 T1 (show i < 12 by omega) hd (by omega) c1
    have y2 : mz a (mw_S a) mx_K f1 f2 := z2.mo (fun q hq => Or.inl hq) (fun k hk => hk.elim)
    have R2 := y2.R R1 (fun q h1 h2 => mw_nS h1 (Or.inl h2)) (by unfold mx_K; omega)
    have nS1 : ¬ mw_S a (a + 1) := mw_nS (by omega) (by omega)
    have u1 : ∀ j, mu f1 a j = mu f a j := y1.mu nS1
    have u2 : ∀ j, mu f2 a j = mu f1 a j := y2.mu nS1
    have B2 : mt_B f2 a c m d (i + 1) := by
      intro e j h3 h4
      by_cases hj : e = d ∧ j = i
      · obtain ⟨rfl, rfl⟩ := hj
        rw [u2, u1]
        exact ⟨e2, h2⟩
      · have h3' : (d < e ∧ j < c) ∨ (e = d ∧ j < i) := by omega
        have hne : 12 * e + j ≠ 12 * d + i := by omega
        obtain ⟨⟨b1, b2, b3⟩, b4⟩ := B1 e j h3' h4
        rw [u2]
        refine ⟨⟨b1, by rw [(E2.1 _ hne).1]; exact b2, fun q x hx => ?_⟩, by rw [(E2.1 _ hne).2]; exact b4⟩
        have := gl_lt hx
        rw [E2.2 _ (by omega)]
        exact b3 q x hx
    obtain ⟨f', p, R', T', B', z'⟩ := ih k (i + 1) f2 (by omega) (by omega) (by omega) R2 T2 B2
    refine ⟨f', ?_, R', T', B', (y1.tr y2).tr z'⟩
    rw [mk_21e, mo_many hR.1, hR.2.1, Option.bind_some, if_neg (fun z => absurd ((bs_le (by omega) (by omega)).mp z) (by omega)), ax_is hR.1.1, Option.bind_some, p1, Option.bind_some, ax_is R1.1.1, Option.bind_some, p2, Option.bind_some, nI_1]
    exact p
theorem ad_0 {m : am_M} {x : Nat} (hx : x < 65536) : ad m x 0 = ga m := by
  funext y
  exact propext ⟨fun h => h.1, fun h => ⟨h, ag_0 hx h.1⟩⟩
theorem mo_ex {f : pl_H} {a c : Nat} {m : am_M} (h : mo_R f a c m) : (∃ y, ga m y) ↔ 0 < c := by
  constructor
  · rintro ⟨y, hy⟩
    obtain ⟨j, j1, -⟩ := (mu_ga h y).mp hy
    omega
  · intro hc
    exact ⟨mu f a 0, (mu_ga h _).mpr ⟨0, hc, rfl⟩⟩
theorem mk_top {f : pl_H} {a c K : Nat} {m : am_M} (hR : mo_R f a c m) (hok : am_ok K m) (hK : K ≤ 512) (hT : mt_R f a c m 0) : ∃ f', fn_M_top f a = some f' ∧ mc_R f' a (tp m) ∧ (tp m).length < 544 ∧ mz a (mx_S a) mx_K f f' := by
  have hc := hR.2.2.1
  unfold fn_M_top fn_M_top_30 tp
  rw [mo_many hR.1, hR.2.1, Option.bind_some]
  by_cases c0 : c = 0
  · rw [if_pos (by rw [c0]; rfl), cif_neg (fun z => absurd ((mo_ex hR).mp z) (by omega)), mo_code hR.1, Option.bind_some, show pl_sI f (a + 9) 0 128 = some _ from mo_code_w hR.1 (j := 0) (by decide) 128, Option.bind_some]
    have z1 := mz_I (K := mx_K) hR.1 (show a + 9 ≠ a by omega) 0 128
    have z2 := mz_f (S := mx_S a) z1.1 (k := 12) rfl 1
    rw [mo_codeLength_p z1.1, Option.bind_some]
    refine ⟨_, rfl, ⟨ix_f z1.1.1 (by decide), fun i x hx => ?_⟩, by decide, (z1.mo (fun q hq => by unfold mx_S; omega) (fun _ h => h)).tr (z2.mo (fun _ h => h) (fun k hk => Or.inr hk))⟩
    have hi : i < 1 := gl_lt hx
    have : i = 0 := by omega
    subst this
    rw [rx_I_f, rx_I (mo_code_s hR.1), bs_vI, if_pos rfl]
    exact Option.some.inj hx
  · rw [if_neg (nI_ne0 (by omega) (by omega)), cif_pos ((mo_ex hR).mpr (by omega)), ax_is hR.1.1, Option.bind_some]
    have hx : ga m (mu f a 0) := (mu_ga hR _).mpr ⟨0, by omega, rfl⟩
    obtain ⟨f1, p1, c1, z1⟩ := mx_build (i := 0) hR hok hK (by omega) (by decide) hT
    have hl := cs_len hx (show 0 ≤ 4 by decide)
    have e : cs m (mu f a 0) 0 = sc m (ga m) 0 := by
      unfold cs
      rw [ad_0 hx.1]
    rw [e] at c1 hl
    refine ⟨f1, ?_, c1, by omega, z1⟩
    rw [show fn_M_build f a 0 0 = some f1 from p1, Option.bind_some]
theorem mk_63e (k : Nat) (f : pl_H) (a0 : Nat) (x1 : Int32) : fn_M_work_63 (k + 1) f a0 x1 = if 32 ≤ x1 then some f else (pl_gR f a0 8 28).bind fun v1 => (pl_gR f a0 8 27).bind fun v2 => (pl_aI f v2 x1).bind fun v3 => (pl_sI f v1 x1 v3).bind fun f4 => fn_M_work_63 k f4 a0 (x1 + 1) := rfl
theorem mk_63 {a : Nat} {g : Nat → Int32} : ∀ (r k i : Nat) (f : pl_H), 32 - i = r → i ≤ 32 → r < k → mo_L f a → (∀ q, q < 32 → ax_I f (a + 20) q = g q) → (∀ q, q < i → ax_I f (a + 21) q = g q) → ∃ f', fn_M_work_63 k f a (nI i) = some f' ∧ (∀ q, q < 32 → ax_I f' (a + 21) q = g q) ∧ mz a (fun q => q = a + 21) (fun _ => False) f f' := by
  intro r
  induction r with
  | zero =>
    intro k i f hr hi hk hM hh hr'
    obtain ⟨k, rfl⟩ : ∃ k', k = k' + 1 := ⟨k - 1, by omega⟩
    have e : i = 32 := by omega
    subst e
    exact ⟨f, by rw [mk_63e, if_pos (by decide)], hr', mz.rf hM⟩
  | succ r ih =>
    intro k i f hr hi hk hM hh hr'
    obtain ⟨k, rfl⟩ : ∃ k', k = k' + 1 := ⟨k - 1, by omega⟩
    have z1 := mz_I (K := fun _ => False) hM (show a + 21 ≠ a by omega) i (g i)
    obtain ⟨f', p, q, z⟩ := ih k (i + 1) (ux_I f (a + 21) i (g i)) (by omega) (by omega) (by omega) z1.1 (fun q hq => by rw [rx_I_ne (by omega)]; exact hh q hq) (fun q hq => by
      rw [rx_I (mo_root_s hM), bs_vI]
      by_cases e : q = i
      · rw [if_pos e, e]
      · rw [if_neg e]
        exact hr' q (by omega))
    refine ⟨f', ?_, q, z1.tr z⟩
    rw [mk_63e, if_neg (show ¬ 32 ≤ nI i from fun z => absurd ((bs_le (a := 32) (by decide) (by omega)).mp z) (by omega)), mo_root hM, Option.bind_some, mo_hash hM, Option.bind_some, mo_hash_g hM (by omega), hh i (by omega), Option.bind_some, mo_root_w hM (by omega), Option.bind_some, nI_1]
    exact p
/-- the reference has worked -/
def ws (f : pl_H) (a c : Nat) (m : am_M) : Prop := mo_R f a c m ∧ mo_T f a ∧ mt_B f a c m 0 c ∧ ∀ q, q < 32 → ax_I f (a + 21) q = sp_hash m q
theorem mk_15e (k : Nat) (f : pl_H) (a0 : Nat) (x1 : Int32) : fn_M_work_15 (k + 1) f a0 x1 = if x1 < 0 then (pl_is f a0 8).bind fun u2 => (fn_M_top f a0).bind fun q1 => (pl_is q1 a0 8).bind fun u4 => (fn_M_hashCodeNow q1 a0).bind fun q3 => fn_M_work_63 pl_N q3 a0 0 else fn_M_work_21 (fn_M_work_15 k) pl_N f a0 x1 0 := rfl
theorem mk_15 {a c K : Nat} {m : am_M} (hok : am_ok K m) (hK : K ≤ 512) : ∀ (t k : Nat) (f : pl_H), t ≤ 5 → t < k → mo_R f a c m → mo_T f a → (∀ e j, t ≤ e → e ≤ 4 → j < c → me_R f a (12 * e + j) (rf (cs m (mu f a j) e)) ∧ ax_I f (a + 6) (12 * e + j) = if (cs m (mu f a j) e).length < 32 then 0 else 1) → ∃ f', fn_M_work_15 k f a (nI t - 1) = some f' ∧ ws f' a c m ∧ mz a (mw_S a) mx_K f f' := by
  intro t
  induction t with
  | zero =>
    intro k f ht hk hR hT hB
    obtain ⟨k, rfl⟩ : ∃ k', k = k' + 1 := ⟨k - 1, by omega⟩
    have B0 : mt_B f a c m 0 c := fun e j h1 h2 => hB e j (Nat.zero_le _) h2 (by omega)
    obtain ⟨f1, p1, c1, l1, z1⟩ := mk_top hR hok hK (mt_BR B0)
    have y1 : mz a (mw_S a) mx_K f f1 := z1.mo (fun q hq => Or.inr (Or.inl hq)) (fun _ h => h)
    have R1 := y1.R hR (fun q h1 h2 => mw_nS h1 (Or.inl h2)) (by unfold mx_K; omega)
    have T1 := mz_T hT y1 (mw_nS (by omega) (by omega)) (mw_nS (by omega) (by omega))
    have B1 := mt_Bz B0 z1 (by unfold mx_S; omega) (by unfold mx_S; omega) (by unfold mx_S; omega) (by unfold mx_S; omega)
    obtain ⟨f2, p2, M2, T2, k2, h2⟩ := mm_hash' (g := fun j => (tp m).getD j 0) l1 R1.1 T1 c1.1 (fun j hj => by
      rw [c1.2 j (tp m)[j] (by simp [hj])]
      simp [hj])
    have z2 := mz_H M2 k2
    have y2 : mz a (mw_S a) mx_K f1 f2 := z2.mo (fun q hq => Or.inl (Or.inr hq)) (fun k hk => hk.elim)
    have R2 := y2.R R1 (fun q h1 h2 => mw_nS h1 (Or.inl h2)) (by unfold mx_K; omega)
    have B2 := mt_Bz B1 z2 (by unfold mo_H; omega) (by unfold mo_H; omega) (by unfold mo_H; omega) (by unfold mo_H; omega)
    obtain ⟨f3, p3, q3, z3⟩ := mk_63 (g := sp_hash m) 32 pl_N 0 f2 rfl (by decide) (by decide) M2 (fun q hq => h2 q hq) (fun q hq => absurd hq (by omega))
    have y3 : mz a (mw_S a) mx_K f2 f3 := z3.mo (fun q hq => Or.inr (Or.inr hq)) (fun k hk => hk.elim)
    have R3 := y3.R R2 (fun q h1 h2 => mw_nS h1 (Or.inl h2)) (by unfold mx_K; omega)
    have T3 := mz_T T2 y3 (mw_nS (by omega) (by omega)) (mw_nS (by omega) (by omega))
    have B3 := mt_Bz B2 z3 (by omega) (by omega) (by omega) (by omega)
    refine ⟨f3, ?_, ⟨R3, T3, B3, q3⟩, (y1.tr y2).tr y3⟩
    rw [mk_15e, if_pos (by decide), ax_is hR.1.1, Option.bind_some, p1, Option.bind_some, ax_is R1.1.1, Option.bind_some, p2, Option.bind_some]
    exact p3
  | succ t ih =>
    intro k f ht hk hR hT hB
    obtain ⟨k, rfl⟩ : ∃ k', k = k' + 1 := ⟨k - 1, by omega⟩
    have hc := hR.2.2.1
    obtain ⟨f1, p1, R1, T1, B1, z1⟩ := mk_21 (rc := fn_M_work_15 k) (d := t) hok hK (by omega) c pl_N 0 f rfl (Nat.zero_le _) (by unfold pl_N; omega) hR hT (fun e j h1 h2 => hB e j (by omega) h2 (by omega))
    obtain ⟨f', p, w, z⟩ := ih k f1 (by omega) (by omega) R1 T1 (fun e j h1 h2 h3 => B1 e j (by omega) h2)
    refine ⟨f', ?_, w, z1.tr z⟩
    rw [mk_15e, nI_pred, if_neg (nI_pos (by omega))]
    exact p1.trans p
theorem mk_work {f : pl_H} {a c K : Nat} {m : am_M} (hR : mo_R f a c m) (hT : mo_T f a) (hok : am_ok K m) (hK : K ≤ 512) (hw : ax_i f a 5 ≠ 0 → ws f a c m) : ∃ f', fn_M_work f a = some f' ∧ ws f' a c m ∧ ax_i f' a 5 ≠ 0 ∧ mz a (mw_S a) mw_K f f' := by
  unfold fn_M_work
  rw [mo_worked hR.1, Option.bind_some]
  by_cases h0 : ax_i f a 5 = 0
  · rw [if_pos h0, mo_worked_p hR.1, Option.bind_some]
    have z1 := mz_f (S := mw_S a) hR.1 (k := 5) rfl 1
    have y1 : mz a (mw_S a) mw_K f (ux_f f a 5 (.int 1)) := z1.mo (fun _ h => h) (fun k hk => Or.inl hk)
    have R1 := z1.R hR (fun q h1 h2 => mw_nS h1 (Or.inl h2)) (by decide)
    have T1 := mz_T hT z1 (mw_nS (by omega) (by omega)) (mw_nS (by omega) (by omega))
    obtain ⟨f', p, w, z⟩ := mk_15 hok hK 5 pl_N (ux_f f a 5 (.int 1)) (by decide) (by decide) R1 T1 (fun e j h1 h2 h3 => absurd h1 (by omega))
    refine ⟨f', p, w, ?_, y1.tr (z.mo (fun _ h => h) (fun k hk => Or.inr hk))⟩
    rw [z.i (by unfold mx_K; omega), ix_f hR.1.1 (by decide)]
    decide
  · rw [if_neg h0]
    exact ⟨f, rfl, hw h0, h0, mz.rf hR.1⟩
