/-! The reference: root, size, prove. -/
theorem ms_20e (k : Nat) (f : pl_H) (a0 : Nat) (x1 : Int32) (y2 : Int64) (x4 : Int32) : fn_M_root_20 (k + 1) f a0 x1 y2 x4 = if 8 ≤ x4 then some (y2, f) else (pl_gR f a0 8 28).bind fun v1 => (pl_aI f v1 ((8 * x1) + x4)).bind fun v2 => fn_M_root_20 k f a0 x1 ((y2 <<< ((8 : Int32).toInt64 &&& 63)) ||| ((v2 : Int32).toInt64)) (x4 + 1) := rfl
theorem ms_20 {f : pl_H} {a q : Nat} (hM : mo_L f a) (hq : q < 4) : ∀ (j k i : Nat) (w : Int64), i + j = 8 → j < k → fn_M_root_20 k f a (nI q) w (nI i) = some (rw_ (ax_I f (a + 21)) j (8 * q + i) w, f) := by
  intro j
  induction j with
  | zero =>
    intro k i w hi hk
    obtain ⟨k, rfl⟩ : ∃ k', k = k' + 1 := ⟨k - 1, by omega⟩
    rw [ms_20e, if_pos (show 8 ≤ nI i from (bs_le (a := 8) (by decide) (by omega)).mpr (by omega))]
    rfl
  | succ j ih =>
    intro k i w hi hk
    obtain ⟨k, rfl⟩ : ∃ k', k = k' + 1 := ⟨k - 1, by omega⟩
    rw [ms_20e, if_neg (show ¬ 8 ≤ nI i from fun z => absurd ((bs_le (a := 8) (by decide) (by omega)).mp z) (by omega)), mo_root hM, Option.bind_some, show (8 : Int32) * nI q + nI i = nI (8 * q + i) by rw [← nI_add, ← pk_mul]; rfl, mo_root_g hM (by omega), Option.bind_some, nI_1, ih k (i + 1) _ (by omega) (by omega)]
    rfl
theorem ws_z {f f' : pl_H} {a c : Nat} {m : am_M} {S K : Nat → Prop} (h : ws f a c m) (z : mz a S K f f') (hK : ¬ K 0) (h1 : ∀ q, a < q → q ≤ a + 6 → ¬ S q) (h2 : ¬ S (a + 17)) (h3 : ¬ S (a + 18)) (h4 : ¬ S (a + 21)) : ws f' a c m := ⟨z.R h.1 (fun q a b => h1 q a (by omega)) hK, mz_T h.2.1 z h2 h3, mt_Bz h.2.2.1 z (h1 _ (by omega) (by omega)) (h1 _ (by omega) (by omega)) (h1 _ (by omega) (by omega)) (h1 _ (by omega) (by omega)), fun q hq => by rw [z.I (by omega) h4]; exact h.2.2.2 q hq⟩
theorem ma_root {f : pl_H} {a c K : Nat} {m : am_M} (hR : mo_R f a c m) (hT : mo_T f a) (hok : am_ok K m) (hK : K ≤ 512) (hw : ax_i f a 5 ≠ 0 → ws f a c m) (x : Int32) : ∃ f', fn_M_root f a x = some (sp_root m x, f') ∧ mo_R f' a c m ∧ mo_T f' a ∧ (ax_i f' a 5 ≠ 0 → ws f' a c m) ∧ mz a (mw_S a) mw_K f f' := by
  unfold fn_M_root fn_M_root_9 sp_root
  by_cases h0 : x < 0
  · rw [if_pos h0, if_pos h0]
    exact ⟨f, rfl, hR, hT, hw, mz.rf hR.1⟩
  · rw [if_neg h0, if_neg h0]
    obtain ⟨q, hq, rfl⟩ := nI_of h0
    by_cases h4 : q < 4
    · rw [if_pos (show nI q ≤ 3 from (bs_le (b := 3) (by omega) (by decide)).mpr (by omega)), if_pos (show nI q < 4 from (bs_lt (b := 4) (by omega) (by decide)).mpr h4)]
      obtain ⟨f', p, w, -, z⟩ := mk_work hR hT hok hK hw
      refine ⟨f', ?_, w.1, w.2.1, fun _ => w, z⟩
      rw [ax_is hR.1.1, Option.bind_some, p, Option.bind_some, show (0 : Int32) = nI 0 from rfl, ms_20 w.1.1 h4 8 pl_N 0 0 rfl (by decide), bs_cl hq]
      exact congrArg (fun v => some (v, f')) (rw_c 8 (8 * q) 0 (fun i a b => w.2.2.2 i (by omega)))
    · rw [if_neg (show ¬ nI q ≤ 3 from fun z => absurd ((bs_le (b := 3) (by omega) (by decide)).mp z) (by omega)), if_neg (show ¬ nI q < 4 from fun z => h4 ((bs_lt (b := 4) (by omega) (by decide)).mp z))]
      exact ⟨f, rfl, hR, hT, hw, mz.rf hR.1⟩
theorem ma_size {f : pl_H} {a c K : Nat} {m : am_M} (hR : mo_R f a c m) (hT : mo_T f a) (hok : am_ok K m) (hK : K ≤ 512) (hw : ax_i f a 5 ≠ 0 → ws f a c m) : ∃ f', fn_M_size f a = some (nI (tp m).length, f') ∧ mo_R f' a c m ∧ mo_T f' a ∧ (ax_i f' a 5 ≠ 0 → ws f' a c m) ∧ mz a (mw_S a) mw_K f f' := by
  obtain ⟨f1, p1, w1, -, z1⟩ := mk_work hR hT hok hK hw
  obtain ⟨f2, p2, c2, -, z2⟩ := mk_top w1.1 hok hK (mt_BR w1.2.2.1)
  have w2 := ws_z w1 z2 (by unfold mx_K; omega) (fun q _ _ => by unfold mx_S; omega) (by unfold mx_S; omega) (by unfold mx_S; omega) (by unfold mx_S; omega)
  refine ⟨f2, ?_, w2.1, w2.2.1, fun _ => w2, z1.tr (z2.mo (fun q hq => Or.inr (Or.inl hq)) (fun k hk => Or.inr hk))⟩
  unfold fn_M_size
  rw [ax_is hR.1.1, Option.bind_some, p1, Option.bind_some, ax_is w1.1.1.1, Option.bind_some, p2, Option.bind_some, mo_codeLength w2.1.1, c2.1, Option.bind_some]
theorem kp_2e (k : Nat) (f : pl_H) (a0 : Nat) (x1 : Int32) : fn_M_keepPart_2 (k + 1) f a0 x1 = (pl_gI f a0 8 12).bind fun v1 => if v1 ≤ x1 then (pl_gR f a0 8 17).bind fun v2 => (pl_gI f a0 8 16).bind fun v3 => (pl_gI f a0 8 12).bind fun v4 => (pl_sI f v2 v3 v4).bind fun f5 => (pl_gI f5 a0 8 16).bind fun v6 => (pl_pV f5 a0 8 16 (.int (v6 + 1))).bind fun f7 => some f7 else (pl_gR f a0 8 18).bind fun v8 => (pl_gI f a0 8 16).bind fun v9 => (pl_gR f a0 8 13).bind fun v10 => (pl_aI f v10 x1).bind fun v11 => (pl_sI f v8 ((600 * v9) + x1) v11).bind fun f12 => fn_M_keepPart_2 k f12 a0 (x1 + 1) := rfl
theorem kp_2 {a : Nat} {C : List Int32} {P : List (List Int32)} (hP : P.length < 5) (hC : C.length ≤ 404) : ∀ (r k i : Nat) (f : pl_H), C.length - i = r → i ≤ C.length → r < k → mo_L f a → mc_R f a C → mp_R f a P → (∀ (j : Nat) (x : Int32), (C.take i)[j]? = some x → ax_I f (a + 13) (600 * P.length + j) = x) → ∃ f', fn_M_keepPart_2 k f a (nI i) = some f' ∧ mp_R f' a (P ++ [C]) ∧ mz a (fun q => q = a + 12 ∨ q = a + 13) (fun k => k = 16) f f' := by
  intro r
  induction r with
  | zero =>
    intro k i f hr hi hk hM hc hp h
    obtain ⟨k, rfl⟩ : ∃ k', k = k' + 1 := ⟨k - 1, by omega⟩
    have e : i = C.length := by omega
    subst e
    rw [List.take_length] at h
    have z1 := mz_I (K := fun k => k = 16) hM (show a + 12 ≠ a by omega) P.length (nI C.length)
    have z2 := mz_f (S := fun q => q = a + 12) z1.1 (k := 16) rfl (nI (P.length + 1))
    refine ⟨_, ?_, ⟨?_, by rw [List.length_append]; show P.length + 1 ≤ 5; omega, fun p L hL => ?_⟩, (z1.tr z2).mo (fun q hq => Or.inl hq) (fun _ h => h)⟩
    · rw [kp_2e, mo_codeLength hM, hc.1, Option.bind_some, if_pos ((bs_le (by omega) (by omega)).mpr (Nat.le_refl _)), mo_partLength hM, Option.bind_some, mo_parts hM, hp.1, Option.bind_some, Option.bind_some, mo_partLength_w hM hP, Option.bind_some, mo_parts z1.1, ix_I, hp.1, Option.bind_some, nI_1, mo_parts_p z1.1, Option.bind_some]
    · rw [ix_f z1.1.1 (by decide), List.length_append]
      rfl
    · rw [rx_I_f, rx_I_f, rx_I_ne (show a + 13 ≠ a + 12 by omega), rx_I (mo_partLength_s hM), bs_vI]
      rcases gl_app hL with ⟨z, zL⟩ | ⟨rfl, rfl⟩
      · rw [if_neg (by omega)]
        exact hp.2.2 p L zL
      · rw [if_pos rfl]
        exact ⟨hC, rfl, h⟩
  | succ r ih =>
    intro k i f hr hi hk hM hc hp h
    obtain ⟨k, rfl⟩ : ∃ k', k = k' + 1 := ⟨k - 1, by omega⟩
    have hlt : i < C.length := by omega
    have hb : ax_I f (a + 9) i = C[i] := hc.2 i C[i] (by simp [hlt])
    have z1 := mz_I (K := fun k => k = 16) hM (show a + 13 ≠ a by omega) (600 * P.length + i) C[i]
    obtain ⟨f', p, q, z⟩ := ih k (i + 1) (ux_I f (a + 13) (600 * P.length + i) C[i]) (by omega) (by omega) (by omega) z1.1 ⟨by rw [ix_I]; exact hc.1, fun j x hx => by rw [rx_I_ne (by omega)]; exact hc.2 j x hx⟩ ⟨by rw [ix_I]; exact hp.1, hp.2.1, fun p L hL => by
      obtain ⟨b1, b2, b3⟩ := hp.2.2 p L hL
      have hpl := gl_lt hL
      refine ⟨b1, by rw [rx_I_ne (by omega)]; exact b2, fun j x hx => ?_⟩
      have := gl_lt hx
      rw [rx_I (mo_part_s hM), bs_vI, if_neg (by omega)]
      exact b3 j x hx⟩ (fun j x hx => by
      rw [cd_take hlt] at hx
      have hl : (C.take i).length = i := by simp; omega
      rw [rx_I (mo_part_s hM), bs_vI]
      rcases gl_app hx with ⟨z, zL⟩ | ⟨rfl, rfl⟩
      · rw [if_neg (by omega)]
        exact h j x zL
      · rw [hl, if_pos rfl])
    refine ⟨f', ?_, q, (z1.mo (fun q hq => Or.inr hq) (fun _ h => h)).tr z⟩
    rw [kp_2e, mo_codeLength hM, hc.1, Option.bind_some, if_neg (fun z => absurd ((bs_le (by omega) (by omega)).mp z) (by omega)), mo_part hM, Option.bind_some, mo_parts hM, hp.1, Option.bind_some, mo_code hM, Option.bind_some, mo_code_g hM (by omega), hb, Option.bind_some, mp_ix, mo_part_w hM (by omega), Option.bind_some, nI_1]
    exact p
theorem kp_keep {f : pl_H} {a : Nat} {C : List Int32} {P : List (List Int32)} (hM : mo_L f a) (hc : mc_R f a C) (hp : mp_R f a P) (hP : P.length < 5) (hC : C.length ≤ 404) : ∃ f', fn_M_keepPart f a = some f' ∧ mp_R f' a (P ++ [C]) ∧ mz a (fun q => q = a + 12 ∨ q = a + 13) (fun k => k = 16) f f' := kp_2 hP hC C.length pl_N 0 f rfl (Nat.zero_le _) (by unfold pl_N; omega) hM hc hp (fun j x hx => by simp at hx)
theorem mp_z {f f' : pl_H} {a : Nat} {P : List (List Int32)} {S K : Nat → Prop} (h : mp_R f a P) (z : mz a S K f f') (hK : ¬ K 16) (h1 : ¬ S (a + 12)) (h2 : ¬ S (a + 13)) : mp_R f' a P := mp_R_kp h z.2.1 (z.2.2 16 hK) (fun q => q.elim (fun e => by omega) h1) (fun q => q.elim (fun e => by omega) h2)
def mq_S (a : Nat) : Nat → Prop := fun q => mx_S a q ∨ q = a + 12 ∨ q = a + 13
def mq_K : Nat → Prop := fun k => k = 10 ∨ k = 12 ∨ k = 16
theorem pq_41e (k : Nat) (f : pl_H) (a0 : Nat) (x1 x2 x3 : Int32) : fn_M_prove_41 (k + 1) f a0 x1 x2 x3 = if x2 < 0 then (pl_gI f a0 8 16).bind fun v1 => some (v1, f) else (pl_is f a0 8).bind fun u3 => (fn_M_common f a0 x2 x3).bind fun v2 => (pl_is f a0 8).bind fun u5 => (fn_M_group f a0 x2 x3).bind fun v4 => if v4 = 1 then fn_M_prove_41 k f a0 x1 (-1) x3 else if v2 ≤ x3 then fn_M_prove_82 (fn_M_prove_41 k) f a0 x1 (x3 + 1) else fn_M_prove_82 (fn_M_prove_41 k) f a0 x1 v2 := rfl
theorem pq_end {f : pl_H} {a : Nat} {P : List (List Int32)} (hM : mo_L f a) (h : mp_R f a P) (k : Nat) (x1 x3 : Int32) : fn_M_prove_41 (k + 1) f a x1 (-1) x3 = some (nI P.length, f) := by
  rw [pq_41e, if_pos (by decide), mo_parts hM, h.1, Option.bind_some]
theorem pq_41 {a c x K : Nat} {m : am_M} (hok : am_ok K m) (hK : K ≤ 512) (hx : x < 65536) : ∀ (j k i d : Nat) (P : List (List Int32)) (f : pl_H), d ≤ 4 → 5 ≤ d + j → j + 1 < k → i < c → ws f a c m → mp_R f a P → ag x (mu f a i) d → (P ++ pv_n m x j (ad m (mu f a i) d) d).length ≤ 5 → (∀ L, L ∈ P ++ pv_n m x j (ad m (mu f a i) d) d → L.length ≤ 404) → ∃ f', fn_M_prove_41 k f a (nI x) (nI i) (nI d) = some (nI (P ++ pv_n m x j (ad m (mu f a i) d) d).length, f') ∧ ws f' a c m ∧ mp_R f' a (P ++ pv_n m x j (ad m (mu f a i) d) d) ∧ mz a (mq_S a) mq_K f f' := by
  intro j
  induction j with
  | zero => intro k i d P f h1 h2; omega
  | succ j ih =>
    intro k i d P f hd hj hk hi w hp hag h5 h404
    obtain ⟨k, rfl⟩ : ∃ k', k = k' + 1 := ⟨k - 1, by omega⟩
    have hR := w.1
    have hc := hR.2.2.1
    have hG : ga m (mu f a i) := (mu_ga hR _).mpr ⟨i, hi, rfl⟩
    have lg := gn_le (fun j => ag (mu f a i) (mu f a j) d) c
    have hone := mg_one (d := d) hR hi
    have eg : (nI (gn (fun j => ag (mu f a i) (mu f a j) d) c) = 1) ↔ gs_one (ad m (mu f a i) d) := by
      rw [← hone]
      exact nI_eq (b := 1) (by omega) (by decide)
    have h4 := gs_to_le (ad m (mu f a i) d)
    have epv : pv_n m x (j + 1) (ad m (mu f a i) d) d = cif (gs_one (ad m (mu f a i) d) ∨ 4 ≤ d) [] (cif (d < gs_to (ad m (mu f a i) d)) (cif (∃ y, ad m (mu f a i) d y ∧ ag x y (gs_to (ad m (mu f a i) d))) (pv_p m (ad m (mu f a i) d) (gs_to (ad m (mu f a i) d)) ++ pv_n m x j (ad m (mu f a i) d) (gs_to (ad m (mu f a i) d))) []) (cif (∃ y, gs_d (ad m (mu f a i) d) d (dg x d) y) (pv_p m (gs_d (ad m (mu f a i) d) d (dg x d)) (d + 1) ++ pv_n m x j (gs_d (ad m (mu f a i) d) d (dg x d)) (d + 1)) [])) := rfl
    rw [pq_41e, if_neg (nI_pos (by omega)), ax_is hR.1.1, Option.bind_some, mc_common hR hi hd, Option.bind_some, Option.bind_some, mg_group hR hi hd, Option.bind_some]
    by_cases c1 : gs_one (ad m (mu f a i) d)
    · rw [if_pos (eg.mpr c1), epv, cif_pos (Or.inl c1), List.append_nil]
      obtain ⟨k, rfl⟩ : ∃ k', k = k' + 1 := ⟨k - 1, by omega⟩
      rw [pq_end hR.1 hp]
      exact ⟨f, rfl, w, hp, mz.rf hR.1⟩
    · have hd4 := ad_d4 hG hd c1
      rw [if_neg (fun z => c1 (eg.mp z))]
      rw [cif_neg (fun z => z.elim c1 (by omega))] at epv
      -- one step down to depth e with the group of r
      have step : ∀ e, d < e → e ≤ 4 → ((∃ y, ga m y ∧ ag x y e) → ∀ r, r < c → ag x (mu f a r) e → pv_n m x (j + 1) (ad m (mu f a i) d) d = pv_p m (ad m (mu f a r) e) e ++ pv_n m x j (ad m (mu f a r) e) e) → ((¬ ∃ y, ga m y ∧ ag x y e) → pv_n m x (j + 1) (ad m (mu f a i) d) d = []) → ∃ f', fn_M_prove_82 (fn_M_prove_41 k) f a (nI x) (nI e) = some (nI (P ++ pv_n m x (j + 1) (ad m (mu f a i) d) d).length, f') ∧ ws f' a c m ∧ mp_R f' a (P ++ pv_n m x (j + 1) (ad m (mu f a i) d) d) ∧ mz a (mq_S a) mq_K f f' := by
        intro e he he4 hyes hno
        unfold fn_M_prove_82 fn_M_prove_118
        obtain ⟨r0, p0, q0⟩ := mf_first hR hx he4
        rw [ax_is hR.1.1, Option.bind_some, p0, Option.bind_some]
        rcases q0 with ⟨r, r1, r2, rfl, -⟩ | ⟨rfl, q0⟩
        · have hGr : ga m (mu f a r) := (mu_ga hR _).mpr ⟨r, r1, rfl⟩
          have ev := hyes ⟨_, hGr, r2⟩ r r1 r2
          have hby := (w.2.2.1 e r (Or.inl ⟨by omega, r1⟩) he4).2
          rw [if_neg (nI_pos (by omega)), mo_byHash hR.1, Option.bind_some, me_at, mo_byHash_g hR.1 (by omega), hby, Option.bind_some]
          rw [ev] at h5 h404 ⊢
          unfold pv_p at h5 h404 ⊢
          have ecs : sc m (ad m (mu f a r) e) e = cs m (mu f a r) e := rfl
          rw [ecs] at h5 h404 ⊢
          by_cases c2 : (cs m (mu f a r) e).length < 32
          · rw [if_pos c2] at h5 h404 ⊢
            rw [if_pos c2, if_pos rfl]
            exact ih k r e P f he4 (by omega) (by omega) r1 w hp r2 h5 h404
          · rw [if_neg c2] at h5 h404 ⊢
            rw [if_neg c2, if_neg (by decide), Option.bind_some]
            rw [← List.append_assoc] at h5 h404 ⊢
            have hP5 : P.length < 5 := by
              rw [List.length_append, List.length_append] at h5
              have : ([cs m (mu f a r) e] : List (List Int32)).length = 1 := rfl
              omega
            have hC4 := h404 (cs m (mu f a r) e) (by simp)
            obtain ⟨f1, p1, c1, z1⟩ := mx_build hR hok hK r1 he4 (fun e' j' h1 h2 h3 => (w.2.2.1 e' j' (Or.inl ⟨by omega, h3⟩) h2).1)
            have w1 := ws_z w z1 (by unfold mx_K; omega) (fun q _ _ => by unfold mx_S; omega) (by unfold mx_S; omega) (by unfold mx_S; omega) (by unfold mx_S; omega)
            have hp1 := mp_z hp z1 (by unfold mx_K; omega) (by unfold mx_S; omega) (by unfold mx_S; omega)
            obtain ⟨f2, p2, hp2, z2⟩ := kp_keep z1.1 c1 hp1 hP5 hC4
            have w2 := ws_z w1 z2 (by decide) (fun q _ _ => by omega) (by omega) (by omega) (by omega)
            have u1 : mu f1 a r = mu f a r := z1.mu (by unfold mx_S; omega) r
            have u2 : mu f2 a r = mu f1 a r := z2.mu (by omega) r
            have := ih k r e (P ++ [cs m (mu f a r) e]) f2 he4 (by omega) (by omega) r1 w2 hp2 (by rw [u2, u1]; exact r2)
            rw [u2, u1] at this
            obtain ⟨f', p, w', hp', z'⟩ := this h5 h404
            refine ⟨f', ?_, w', hp', ((z1.mo (fun q hq => Or.inl hq) (fun k hk => hk.elim Or.inl (fun h => Or.inr (Or.inl h)))).tr (z2.mo (fun q hq => Or.inr hq) (fun k hk => Or.inr (Or.inr hk)))).tr z'⟩
            rw [p1, Option.bind_some, ax_is z1.1.1, Option.bind_some, p2, Option.bind_some]
            exact p
        · rw [if_pos (by decide), hno (fun ⟨y, y1, y2⟩ => by
            obtain ⟨r, r1, rfl⟩ := (mu_ga hR y).mp y1
            exact q0 r r1 y2), List.append_nil]
          obtain ⟨k, rfl⟩ : ∃ k', k = k' + 1 := ⟨k - 1, by omega⟩
          rw [pq_end hR.1 hp]
          exact ⟨f, rfl, w, hp, mz.rf hR.1⟩
      by_cases c2 : d < gs_to (ad m (mu f a i) d)
      · rw [if_neg (fun z => absurd ((bs_le (by omega) (by omega)).mp z) (by omega))]
        rw [cif_pos c2] at epv
        have hst := ad_to hG hd
        have hS := ad_S hG hd
        refine step _ c2 h4 (fun hex r r1 r2 => ?_) (fun hex => ?_)
        · have hGr : ga m (mu f a r) := (mu_ga hR _).mpr ⟨r, r1, rfl⟩
          have hin : ad m (mu f a i) d (mu f a r) := ⟨hGr, ag_tr (ag_sy hag) (ag_le (by omega) h4 r2)⟩
          have hir : ag (mu f a i) (mu f a r) (gs_to (ad m (mu f a i) d)) := hst _ _ (ad_x hG d) hin
          have hset : ad m (mu f a r) (gs_to (ad m (mu f a i) d)) = ad m (mu f a i) d := by
            conv => rhs; rw [hS]
            funext y
            exact propext ⟨fun h => ⟨h.1, ag_tr hir h.2⟩, fun h => ⟨h.1, ag_tr (ag_sy hir) h.2⟩⟩
          rw [epv, cif_pos ⟨mu f a r, hin, r2⟩, hset]
        · rw [epv, cif_neg (fun ⟨y, y1, y2⟩ => hex ⟨y, y1.1, y2⟩)]
      · rw [if_pos ((bs_le (by omega) (by omega)).mpr (by omega)), nI_1]
        rw [cif_neg c2] at epv
        refine step _ (by omega) (by omega) (fun hex r r1 r2 => ?_) (fun hex => ?_)
        · have hGr : ga m (mu f a r) := (mu_ga hR _).mpr ⟨r, r1, rfl⟩
          have ra := (ag_s hd4).mp r2
          have hset : gs_d (ad m (mu f a i) d) d (dg x d) = ad m (mu f a r) (d + 1) := by
            rw [ra.2]
            exact ad_d hd4 (ag_tr (ag_sy hag) ra.1)
          rw [epv, cif_pos ⟨mu f a r, by rw [hset]; exact ad_x hGr _⟩, hset]
        · rw [epv, cif_neg]
          rintro ⟨y, ⟨y1, y2⟩, y3⟩
          exact hex ⟨y, y1, (ag_s hd4).mpr ⟨ag_tr hag y2, y3.symm⟩⟩
def mv_S (a : Nat) : Nat → Prop := fun q => mw_S a q ∨ q = a + 12 ∨ q = a + 13
def mv_K : Nat → Prop := fun k => mw_K k ∨ k = 16
theorem ma_prove {f : pl_H} {a c K : Nat} {m : am_M} {P : List (List Int32)} (hR : mo_R f a c m) (hT : mo_T f a) (hok : am_ok K m) (hK : K ≤ 512) (hw : ax_i f a 5 ≠ 0 → ws f a c m) (hp : mp_R f a P) (x : Int32) (h5 : sp_acc x = true → (sp_prove m x.toNatClampNeg).length ≤ 5) (h404 : sp_acc x = true → ∀ L, L ∈ sp_prove m x.toNatClampNeg → L.length ≤ 404) : ∃ f', fn_M_prove f a x = some (if sp_acc x = true then nI (sp_prove m x.toNatClampNeg).length else -1, f') ∧ mo_R f' a c m ∧ mo_T f' a ∧ (ax_i f' a 5 ≠ 0 → ws f' a c m) ∧ mp_R f' a (if sp_acc x = true then sp_prove m x.toNatClampNeg else P) ∧ mz a (mv_S a) mv_K f f' := by
  unfold fn_M_prove fn_M_prove_38
  rw [mo_isA, Option.bind_some]
  by_cases ha : sp_acc x = true
  · have h5 := h5 ha
    have h404 := h404 ha
    simp only [if_pos ha]
    rw [if_neg (show ¬ (1 : Int32) = 0 by decide)]
    obtain ⟨y, hy, rfl⟩ := sp_acc_n ha
    rw [bs_cl (by omega)] at h5 h404 ⊢
    obtain ⟨f1, p1, w1, -, z1⟩ := mk_work hR hT hok hK hw
    have z2 := mz_f (S := mv_S a) w1.1.1 (k := 16) rfl 0
    have w2 := ws_z (S := fun _ => False) w1 (mz_f (S := fun _ => False) w1.1.1 (k := 16) rfl 0) (by decide) (fun q _ _ z => z) (fun z => z) (fun z => z) (fun z => z)
    have hp2 : mp_R (ux_f f1 a 16 (.int 0)) a [] := ⟨ix_f w1.1.1.1 (by decide), by decide, fun p L hL => by simp at hL⟩
    obtain ⟨f3, p3, c3, -, z3⟩ := mk_top w2.1 hok hK (mt_BR w2.2.2.1)
    have w3 := ws_z w2 z3 (by unfold mx_K; omega) (fun q _ _ => by unfold mx_S; omega) (by unfold mx_S; omega) (by unfold mx_S; omega) (by unfold mx_S; omega)
    have hp3 := mp_z hp2 z3 (by unfold mx_K; omega) (by unfold mx_S; omega) (by unfold mx_S; omega)
    have l3 := h404 (tp m) (by unfold sp_prove; simp)
    obtain ⟨f4, p4, hp4, z4⟩ := kp_keep z3.1 c3 hp3 (by decide) l3
    have w4 := ws_z w3 z4 (by decide) (fun q _ _ => by omega) (by omega) (by omega) (by omega)
    have Z : mz a (mv_S a) mv_K f f4 := (((z1.mo (fun q hq => Or.inl hq) (fun k hk => Or.inl hk)).tr (z2.mo (fun _ h => h) (fun k hk => Or.inr hk))).tr (z3.mo (fun q hq => Or.inl (Or.inr (Or.inl hq))) (fun k hk => Or.inl (Or.inr hk)))).tr (z4.mo (fun q hq => Or.inr hq) (fun k hk => Or.inr hk))
    have front : ∀ r, (if nI c ≤ 0 then fn_M_prove_41 pl_N f4 a (nI y) (-1) 0 else fn_M_prove_41 pl_N f4 a (nI y) 0 0) = r → ((pl_is f a 8).bind fun u3 => (fn_M_work f a).bind fun q2 => (pl_pV q2 a 8 16 (.int 0)).bind fun f4 => (pl_is f4 a 8).bind fun u6 => (fn_M_top f4 a).bind fun q5 => (pl_is q5 a 8).bind fun u8 => (fn_M_keepPart q5 a).bind fun q7 => (pl_gI q7 a 8 0).bind fun v9 => if v9 ≤ 0 then fn_M_prove_41 pl_N q7 a (nI y) (-1) 0 else fn_M_prove_41 pl_N q7 a (nI y) 0 0) = r := by
      intro r hr
      rw [ax_is hR.1.1, Option.bind_some, p1, Option.bind_some, mo_parts_p w1.1.1, Option.bind_some, ax_is w2.1.1.1, Option.bind_some, p3, Option.bind_some, ax_is w3.1.1.1, Option.bind_some, p4, Option.bind_some, mo_many w4.1.1, w4.1.2.1, Option.bind_some]
      exact hr
    have hc := hR.2.2.1
    unfold sp_prove at h5 h404 ⊢
    by_cases c0 : c = 0
    · have hex : ¬ ∃ y, ga m y := fun z => absurd ((mo_ex hR).mp z) (by omega)
      rw [cif_neg hex]
      refine ⟨f4, front _ ?_, w4.1, w4.2.1, fun _ => w4, hp4, Z⟩
      rw [if_pos (by rw [c0]; decide), show pl_N = 99999 + 1 from rfl, pq_end w4.1.1 hp4]
      rfl
    · have hex : ∃ y, ga m y := (mo_ex hR).mpr (by omega)
      have hG : ga m (mu f4 a 0) := (mu_ga w4.1 _).mpr ⟨0, by omega, rfl⟩
      have := pq_41 (x := y) hok hK hy 6 pl_N 0 0 ([] ++ [tp m]) f4 (by decide) (by decide) (by decide) (by omega) w4 hp4 (ag_0 hy hG.1)
      rw [ad_0 hG.1] at this
      rw [cif_pos hex] at h5 h404 ⊢
      obtain ⟨f', p, w', hp', z'⟩ := this h5 h404
      refine ⟨f', front _ ?_, w'.1, w'.2.1, fun _ => w', hp', Z.tr (z'.mo (fun q hq => hq.elim (fun h => Or.inl (Or.inr (Or.inl h))) Or.inr) (fun k hk => by unfold mq_K at hk; unfold mv_K mw_K; omega))⟩
      rw [if_neg (nI_nle (by omega) (by omega))]
      exact p
  · simp only [if_neg ha]
    rw [if_pos trivial]
    exact ⟨f, rfl, hR, hT, hw, hp, mz.rf hR.1⟩
