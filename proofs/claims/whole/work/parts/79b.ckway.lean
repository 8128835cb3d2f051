/-! check: the class's way, node by node. -/
def wy_L (f : pl_H) (n : Nat) : Prop := ax_sh (f (n + 91)) = (1, 6, [2, 2, 0, 0, 2, 0, 0, 0, 0, 1, 1]) ∧ ax_r f (n + 91) 0 = some (n + 83) ∧ ax_r f (n + 91) 1 = some (n + 5)
def wq (f : pl_H) (n : Nat) (P : List (List Int32)) (p x : Nat) : Prop := wy_L f n ∧ pf_R f n P ∧ p < P.length ∧ ax_i f (n + 91) 2 = nI x ∧ ax_i f (n + 91) 3 = nI p ∧ ax_r f (n + 91) 4 = some (n + 85 + p) ∧ ax_i f (n + 91) 5 = nI (P.getD p []).length
theorem wy_i {f : pl_H} {n k : Nat} (h : wy_L f n) (hk : ([2, 2, 0, 0, 2, 0, 0, 0, 0, 1, 1] : List Nat)[k]? = some 0) : pl_gI f (n + 91) 6 k = some (ax_i f (n + 91) k) := ax_gI h.1 hk
theorem wy_0 {f : pl_H} {n : Nat} (h : wy_L f n) : pl_gR f (n + 91) 6 0 = some (n + 83) := (ax_gR h.1 rfl).trans h.2.1
theorem wy_1 {f : pl_H} {n : Nat} (h : wy_L f n) : pl_gR f (n + 91) 6 1 = some (n + 5) := (ax_gR h.1 rfl).trans h.2.2
theorem wy_is {f : pl_H} {n : Nat} (h : wy_L f n) : pl_is f (n + 91) 6 = some () := ax_is h.1
theorem wy_p {f : pl_H} {n : Nat} (h : wy_L f n) {k : Nat} (hk : k < 11) (v : Value) : pl_pV f (n + 91) 6 k v = some (ux_f f (n + 91) k v) := ax_pV h.1 hk
def wz (n : Nat) (K : Nat → Prop) (f f' : pl_H) : Prop := wy_L f' n ∧ bs_kp (fun q => q = n + 91) f f' ∧ ∀ k, ¬ K k → ax_v f' (n + 91) k = ax_v f (n + 91) k
theorem wz.rf {n : Nat} {K : Nat → Prop} {f : pl_H} (h : wy_L f n) : wz n K f f := ⟨h, bs_kp.rf, fun _ _ => rfl⟩
theorem wz.tr {n : Nat} {K : Nat → Prop} {f g h : pl_H} (h1 : wz n K f g) (h2 : wz n K g h) : wz n K f h := ⟨h2.1, h1.2.1.tr h2.2.1, fun k hk => (h2.2.2 k hk).trans (h1.2.2 k hk)⟩
theorem wz.mo {n : Nat} {K K' : Nat → Prop} {f g : pl_H} (h : wz n K f g) (hK : ∀ k, K k → K' k) : wz n K' f g := ⟨h.1, h.2.1, fun k hk => h.2.2 k (fun z => hk (hK k z))⟩
theorem wz_u {f : pl_H} {n k : Nat} {v : Value} (h : wy_L f n) (hk : ([2, 2, 0, 0, 2, 0, 0, 0, 0, 1, 1] : List Nat)[k]? = some (ax_vt v)) (h0 : k ≠ 0) (h1 : k ≠ 1) : wz n (fun j => j = k) f (ux_f f (n + 91) k v) := by
  refine ⟨⟨(sx_f h.1 hk _).trans h.1, ?_, ?_⟩, bs_kp.f rfl, fun j hj => rx_v_fne (Or.inr hj)⟩
  · rw [ar_v (rx_v_fne (Or.inr (fun z => h0 z.symm)))]
    exact h.2.1
  · rw [ar_v (rx_v_fne (Or.inr (fun z => h1 z.symm)))]
    exact h.2.2
theorem wq_z {f f' : pl_H} {n p x : Nat} {P : List (List Int32)} {K : Nat → Prop} (h : wq f n P p x) (z : wz n K f f') (hK : ∀ k, K k → 6 ≤ k) : wq f' n P p x := by
  obtain ⟨h0, h1, h2, h3, h4, h5, h6⟩ := h
  have hk : ∀ k, k < 6 → ¬ K k := fun k hk z => by have := hK k z; omega
  exact ⟨z.1, pf_R_kp h1 z.2.1 (fun q _ _ e => by omega), h2, (ix_v (z.2.2 2 (hk 2 (by decide)))).trans h3, (ix_v (z.2.2 3 (hk 3 (by decide)))).trans h4, (ar_v (z.2.2 4 (hk 4 (by decide)))).trans h5, (ix_v (z.2.2 5 (hk 5 (by decide)))).trans h6⟩
theorem wq_len {f : pl_H} {n p x : Nat} {P : List (List Int32)} (h : wq f n P p x) : (P.getD p []).length ≤ 404 ∧ p < 5 := ⟨(h.2.1.2.2.2 p _ (gd_lt h.2.2.1)).1, by have := h.2.1.2.2.1; have := h.2.2.1; omega⟩
theorem wb_at {f : pl_H} {n p x i : Nat} {P : List (List Int32)} (h : wq f n P p x) (hok : pk_ok P) (hi : i < 2 ^ 31) : fn_W_byteAt f (n + 91) (nI i) = some (nI (pb P p i)) := by
  obtain ⟨hl, hp5⟩ := wq_len h
  obtain ⟨h0, h1, h2, h3, h4, h5, h6⟩ := h
  have hsh := h1.1.2.2.2.2.2.1 p hp5
  unfold fn_W_byteAt fn_W_byteAt_30 fn_W_byteAt_31
  rw [if_neg (nI_pos hi), wy_i h0 rfl, h6, Option.bind_some]
  rcases Nat.lt_or_ge i (P.getD p []).length with z | z
  · rw [if_neg (fun q => absurd ((bs_le (by omega) hi).mp q) (by omega)), ax_gR h0.1 rfl, h5, Option.bind_some, bs_ln hsh (Or.inl rfl) (by decide), Option.bind_some, if_neg (fun q => absurd ((bs_le (by omega) hi).mp q) (by omega)), Option.bind_some, bs_aI hsh (by omega) (by decide), Option.bind_some]
    have e1 := gd_lt (z := (0 : Int32)) z
    rw [(h1.2.2.2 p _ (gd_lt h2)).2.2 i _ e1, (pb_is hok p i).1]
  · rw [if_pos ((bs_le (by omega) hi).mpr z), pb_out z]
    rfl
theorem wi_end {f : pl_H} {n p x i : Nat} {P : List (List Int32)} (h : wq f n P p x) (hok : pk_ok P) (hi : i < 2 ^ 20) : fn_W_itemEnd f (n + 91) (nI i) = some (oI (ie (pb P p) i)) := by
  have hb := (pb_is hok p i).2
  unfold fn_W_itemEnd fn_W_itemEnd_60 fn_W_itemEnd_61 ie
  rw [wy_is h.1, Option.bind_some, wb_at h hok (by omega), Option.bind_some]
  generalize pb P p i = b at hb
  by_cases c1 : b < 128
  · rw [if_neg (show ¬ 128 ≤ nI b from fun z => absurd ((bs_le (a := 128) (by decide) (by omega)).mp z) (by omega)), if_pos c1, nI_1]
    rfl
  · rw [if_pos (show 128 ≤ nI b from (bs_le (a := 128) (by decide) (by omega)).mpr (by omega)), if_neg c1]
    by_cases c2 : b < 184
    · rw [if_neg (show ¬ 183 < nI b from fun z => absurd ((bs_lt (a := 183) (by decide) (by omega)).mp z) (by omega)), if_pos c2, nI_1, nI_add, show nI (i + 1 + b) - 128 = nI (i + 1 + b - 128) from pk_sub (b := 128) (by omega), show i + 1 + b - 128 = i + 1 + (b - 128) by omega]
      rfl
    · rw [if_pos (show 183 < nI b from (bs_lt (a := 183) (by decide) (by omega)).mpr (by omega)), if_neg c2]
      by_cases c3 : b < 192
      · rw [if_pos (show nI b < 192 from (bs_lt (b := 192) (by omega) (by decide)).mpr c3), if_pos c3]
        rfl
      · rw [if_neg (show ¬ nI b < 192 from fun z => c3 ((bs_lt (b := 192) (by omega) (by decide)).mp z)), if_neg c3]
        by_cases c4 : b < 248
        · rw [if_neg (show ¬ 247 < nI b from fun z => absurd ((bs_lt (a := 247) (by decide) (by omega)).mp z) (by omega)), if_pos c4, nI_1, nI_add, show nI (i + 1 + b) - 192 = nI (i + 1 + b - 192) from pk_sub (b := 192) (by omega), show i + 1 + b - 192 = i + 1 + (b - 192) by omega]
          rfl
        · rw [if_pos (show 247 < nI b from (bs_lt (a := 247) (by decide) (by omega)).mpr (by omega)), if_neg c4]
          rfl
theorem wb_beg {f : pl_H} {n p x i : Nat} {P : List (List Int32)} (h : wq f n P p x) (hok : pk_ok P) (hi : i < 2 ^ 20) : fn_W_bytesBegin f (n + 91) (nI i) = some (nI (ib (pb P p) i)) := by
  have hb := (pb_is hok p i).2
  unfold fn_W_bytesBegin fn_W_bytesBegin_18 ib
  rw [wy_is h.1, Option.bind_some, wb_at h hok (by omega), Option.bind_some]
  by_cases c1 : pb P p i < 128
  · rw [if_neg (show ¬ 128 ≤ nI (pb P p i) from fun z => absurd ((bs_le (a := 128) (by decide) (by omega)).mp z) (by omega)), if_pos c1]
  · rw [if_pos (show 128 ≤ nI (pb P p i) from (bs_le (a := 128) (by decide) (by omega)).mpr (by omega)), if_neg c1, nI_1]
theorem wf_mx : ∀ b, b < 250 → 192 ≤ b → (if 0 < ((nI b - 192) - 55) then ((nI b - 192) - 55) else 0) = nI (b - 247) := by decide +kernel
theorem wf_first {f : pl_H} {n p x i : Nat} {P : List (List Int32)} (h : wq f n P p x) (hok : pk_ok P) (hi : i < 2 ^ 20) (h6 : ax_i f (n + 91) 6 = nI i) : fn_W_firstItem f (n + 91) = some (oI (ni (pb P p) i)) := by
  have hb := (pb_is hok p i).2
  unfold fn_W_firstItem fn_W_firstItem_23 ni
  rw [wy_i h.1 rfl, h6, Option.bind_some, wy_is h.1, Option.bind_some, wb_at h hok (by omega), Option.bind_some]
  generalize pb P p i = b at hb
  by_cases c1 : b < 192
  · rw [if_pos (show nI b < 192 from (bs_lt (b := 192) (by omega) (by decide)).mpr c1), if_pos c1]
    rfl
  · rw [if_neg (show ¬ nI b < 192 from fun z => c1 ((bs_lt (b := 192) (by omega) (by decide)).mp z)), if_neg c1]
    by_cases c2 : 249 < b
    · rw [if_neg (show ¬ nI b ≤ 249 from fun z => absurd ((bs_le (b := 249) (by omega) (by decide)).mp z) (by omega)), if_pos c2]
      rfl
    · rw [if_pos (show nI b ≤ 249 from (bs_le (b := 249) (by omega) (by decide)).mpr (by omega)), if_neg c2, Option.bind_some, wf_mx b (by omega) (by omega), nI_1, nI_add]
      by_cases c3 : b = 249
      · rw [if_pos c3, c3]
        rfl
      · rw [if_neg c3]
        by_cases c4 : b = 248
        · rw [if_pos c4, c4]
          rfl
        · rw [if_neg c4, show b - 247 = 0 by omega]
          rfl
theorem wn_end {f : pl_H} {n p x i one : Nat} {P : List (List Int32)} (h : wq f n P p x) (hok : pk_ok P) (hi : i < 2 ^ 20) (h6 : ax_i f (n + 91) 6 = nI i) (h1 : ni (pb P p) i = some one) : fn_W_nodeEnd f (n + 91) (nI one) = some (nI (one + nby (pb P p) i)) := by
  have hb := (pb_is hok p i).2
  obtain ⟨o1, o2, o3, o4⟩ := ni_b h1
  unfold ni at h1
  rw [if_neg (by omega), if_neg (by omega)] at h1
  unfold fn_W_nodeEnd fn_W_nodeEnd_60 nby
  rw [wy_i h.1 rfl, h6, Option.bind_some, wy_is h.1, Option.bind_some, wb_at h hok (by omega), Option.bind_some]
  by_cases c3 : pb P p i = 249
  · rw [if_pos c3] at h1 ⊢
    have : one = i + 3 := (Option.some.inj h1).symm
    subst this
    rw [c3, if_pos (by decide), show nI (i + 3) - 1 = nI (i + 2) from nI_pred (i + 2), wb_at h hok (by omega)]
    simp only [Option.bind_some]
    rw [if_neg (by decide), show nI (i + 3) - 2 = nI (i + 1) from nI_sub (i + 1) 2, wb_at h hok (by omega), Option.bind_some, show (256 : Int32) * nI (pb P p (i + 1)) = nI (256 * pb P p (i + 1)) from pk_mul 256 _, nI_add, nI_add, Nat.add_assoc]
  · rw [if_neg c3] at h1 ⊢
    by_cases c4 : pb P p i = 248
    · rw [if_pos c4] at h1 ⊢
      have : one = i + 2 := (Option.some.inj h1).symm
      subst this
      rw [c4, if_pos (by decide), show nI (i + 2) - 1 = nI (i + 1) from nI_pred (i + 1), wb_at h hok (by omega)]
      simp only [Option.bind_some]
      rw [if_pos (by decide), nI_add]
    · rw [if_neg c4]
      rw [if_neg (show ¬ 247 < nI (pb P p i) from fun z => absurd ((bs_lt (a := 247) (by decide) (by omega)).mp z) (by omega)), nI_add, show nI (one + pb P p i) - 192 = nI (one + pb P p i - 192) from pk_sub (b := 192) (by omega), show one + pb P p i - 192 = one + (pb P p i - 192) by omega]
theorem wh_3e (k : Nat) (f : pl_H) (a0 : Nat) (x1 x2 x3 x4 : Int32) : fn_W_haveDigits_3 (k + 1) f a0 x1 x2 x3 x4 = if x3 ≤ x4 then pl_z 1 else (pl_is f a0 6).bind fun u2 => (fn_W_byteAt f a0 (x1 + ((x2 + x4) / 2))).bind fun v1 => if ((x2 + x4) - (x2 + x4) / 2 * 2) = 0 then fn_W_haveDigits_47 (fn_W_haveDigits_3 k) f a0 x1 x2 x3 x4 (v1 / 16) else fn_W_haveDigits_47 (fn_W_haveDigits_3 k) f a0 x1 x2 x3 x4 (v1 - v1 / 16 * 16) := rfl
theorem wh_dig {f : pl_H} {n p x b h0 num d : Nat} {P : List (List Int32)} (h : wq f n P p x) (hok : pk_ok P) (hx : x < 65536) (hb : b < 2 ^ 20) (hh : h0 ≤ 2) (h7 : ax_i f (n + 91) 7 = nI d) (hd : d + num ≤ 4) : ∀ (r k t : Nat), num - t = r → t ≤ num → r < k → ∃ v, fn_W_haveDigits_3 k f (n + 91) (nI b) (nI h0) (nI num) (nI t) = some v ∧ (v = 0 ↔ ¬ ∀ s, t ≤ s → s < num → hfd (pb P p) b (h0 + s) = dg x (d + s)) := by
  intro r
  induction r with
  | zero =>
    intro k t hr ht hk
    obtain ⟨k, rfl⟩ : ∃ k', k = k' + 1 := ⟨k - 1, by omega⟩
    refine ⟨1, ?_, ⟨fun z => absurd z (by decide), fun z => absurd (fun s h1 h2 => by omega) z⟩⟩
    rw [wh_3e, if_pos ((bs_le (by omega) (by omega)).mpr (by omega))]
    rfl
  | succ r ih =>
    intro k t hr ht hk
    obtain ⟨k, rfl⟩ : ∃ k', k = k' + 1 := ⟨k - 1, by omega⟩
    have hbb := (pb_is hok p (b + (h0 + t) / 2)).2
    have hdl := dg_lt x (d + t)
    rw [wh_3e, if_neg (fun z => absurd ((bs_le (by omega) (by omega)).mp z) (by omega)), wy_is h.1, Option.bind_some, nI_add, show nI (h0 + t) / 2 = nI ((h0 + t) / 2) from pk_div (d := 2) (by omega) (by decide) (by decide), nI_add, wb_at h hok (by omega), Option.bind_some]
    rw [show nI (h0 + t) - nI ((h0 + t) / 2) * 2 = nI ((h0 + t) % 2) by
      have := pk_rem (a := h0 + t) (d := 2) (by omega) (by decide) (by decide)
      rw [pk_div (by omega) (by decide) (by decide)] at this
      exact this]
    have key : ∀ v, v = hfd (pb P p) b (h0 + t) → v < 256 → ∃ r, fn_W_haveDigits_47 (fn_W_haveDigits_3 k) f (n + 91) (nI b) (nI h0) (nI num) (nI t) (nI v) = some r ∧ (r = 0 ↔ ¬ ∀ s, t ≤ s → s < num → hfd (pb P p) b (h0 + s) = dg x (d + s)) := by
      intro v hv hv2
      unfold fn_W_haveDigits_47
      rw [wy_i h.1 rfl, h.2.2.2.1, Option.bind_some, wy_i h.1 rfl, h7, Option.bind_some, nI_add, dg_at f hx (by omega), Option.bind_some]
      by_cases e : v = dg x (d + t)
      · rw [if_pos (by rw [e]), nI_1]
        obtain ⟨w, p1, q1⟩ := ih k (t + 1) (by omega) (by omega) (by omega)
        refine ⟨w, p1, q1.trans ⟨fun z y => z (fun s h1 h2 => y s (by omega) h2), fun z y => z (fun s h1 h2 => ?_)⟩⟩
        rcases Nat.lt_or_ge t s with q | q
        · exact y s q h2
        · have : s = t := by omega
          subst this
          rw [← hv]
          exact e
      · rw [if_neg (fun z => e ((nI_eq (by omega) (by omega)).mp z))]
        exact ⟨0, rfl, ⟨fun _ y => e (hv.trans (y t (Nat.le_refl _) (by omega))), fun _ => rfl⟩⟩
    unfold hfd at key
    by_cases c : (h0 + t) % 2 = 0
    · rw [if_pos (by rw [c]; rfl), show nI (pb P p (b + (h0 + t) / 2)) / 16 = nI (pb P p (b + (h0 + t) / 2) / 16) from pk_div (d := 16) (by omega) (by decide) (by decide)]
      exact key _ (by rw [if_pos c]) (by omega)
    · rw [if_neg (nI_ne0 (by omega) (by omega)), show nI (pb P p (b + (h0 + t) / 2)) - nI (pb P p (b + (h0 + t) / 2)) / 16 * 16 = nI (pb P p (b + (h0 + t) / 2) % 16) from pk_rem (d := 16) (by omega) (by decide) (by decide)]
      exact key _ (by rw [if_neg c]) (by omega)
theorem wn_9e (k : Nat) (f : pl_H) (a0 : Nat) (x2 : Int32) (y3 : Int64) (x5 : Int32) : fn_W_numberAt_9 (k + 1) f a0 x2 y3 x5 = if x2 ≤ x5 then some y3 else (pl_is f a0 6).bind fun u2 => (fn_W_byteAt f a0 x5).bind fun v1 => fn_W_numberAt_9 k f a0 x2 ((y3 <<< ((8 : Int32).toInt64 &&& 63)) ||| ((v1 : Int32).toInt64)) (x5 + 1) := rfl
theorem wn_9 {f : pl_H} {n p x e : Nat} {P : List (List Int32)} (h : wq f n P p x) (hok : pk_ok P) (he : e < 2 ^ 21) : ∀ (r k i : Nat) (y : Int64), e - i = r → i < 2 ^ 21 → r < k → fn_W_numberAt_9 k f (n + 91) (nI e) y (nI i) = some (nmb (pb P p) r i y) := by
  intro r
  induction r with
  | zero =>
    intro k i y hr hi hk
    obtain ⟨k, rfl⟩ : ∃ k', k = k' + 1 := ⟨k - 1, by omega⟩
    rw [wn_9e, if_pos ((bs_le (by omega) (by omega)).mpr (by omega))]
    rfl
  | succ r ih =>
    intro k i y hr hi hk
    obtain ⟨k, rfl⟩ : ∃ k', k = k' + 1 := ⟨k - 1, by omega⟩
    rw [wn_9e, if_neg (fun z => absurd ((bs_le (by omega) (by omega)).mp z) (by omega)), wy_is h.1, Option.bind_some, wb_at h hok (by omega), Option.bind_some, nI_1, nm_or y (pb_is hok p i).2]
    exact ih k (i + 1) _ (by omega) (by omega) (by omega)
theorem wn_num {f : pl_H} {n p x i : Nat} {P : List (List Int32)} (h : wq f n P p x) (hok : pk_ok P) (hi : i < 2 ^ 20) : fn_W_numberAt f (n + 91) (nI i) (oI (ie (pb P p) i)) = some (nm_ (pb P p) i) := by
  unfold fn_W_numberAt nm_
  rw [wy_is h.1, Option.bind_some, wb_beg h hok hi, Option.bind_some]
  have hib : ib (pb P p) i ≤ i + 1 := by
    unfold ib
    split <;> omega
  cases e : ie (pb P p) i with
  | none =>
    show fn_W_numberAt_9 (99999 + 1) f (n + 91) (-1) 0 _ = _
    rw [wn_9e, if_pos]
    have := nI_pos' (n := ib (pb P p) i) (by omega)
    refine Int32.le_iff_toInt_le.mpr ?_
    have h1 := Int32.le_iff_toInt_le.mp this
    have e0 : (0 : Int32).toInt = 0 := rfl
    have e1 : (-1 : Int32).toInt = -1 := rfl
    omega
  | some j =>
    obtain ⟨j1, j2, j3, j4⟩ := ie_b (fun q => (pb_is hok p q).2) e
    exact wn_9 h hok (by omega) (j - ib (pb P p) i) pl_N (ib (pb P p) i) 0 rfl (by omega) (by unfold pl_N; omega)
theorem oI_ne {o : Option Nat} (h : ∀ j, o = some j → j < 2 ^ 31) : oI o = -1 ↔ o = none := by
  cases o with
  | none => exact ⟨fun _ => rfl, fun _ => rfl⟩
  | some j =>
    refine ⟨fun z => ?_, fun z => by cases z⟩
    have z : nI j = -1 := z
    have := nI_pos (n := j) (h j rfl)
    rw [z] at this
    exact absurd (by decide) this
theorem wv_l {f : pl_H} {n k : Nat} (h : wy_L f n) (hk : k < 11) (x : Int64) : ax_l (ux_f f (n + 91) k (.long x)) (n + 91) k = x := by
  unfold ax_l
  rw [rx_v_f h.1 hk]
theorem al_v {f f' : pl_H} {a k : Nat} (h : ax_v f' a k = ax_v f a k) : ax_l f' a k = ax_l f a k := by unfold ax_l; rw [h]
theorem wv_find {f : pl_H} {n p x two : Nat} {P : List (List Int32)} (h : wq f n P p x) (hok : pk_ok P) (hi : two < 2 ^ 18) : ∃ f', fn_W_findValue f (n + 91) (nI two) = some f' ∧ wz n (fun k => k = 8 ∨ k = 9 ∨ k = 10) f f' ∧ ax_i f' (n + 91) 8 = 1 ∧ ax_l f' (n + 91) 9 = nm_ (pb P p) (ib (pb P p) two + 1) ∧ ax_l f' (n + 91) 10 = nm_b (pb P p) (ib (pb P p) two + 1) := by
  have hb := (pb_is hok p two).2
  have hib : ib (pb P p) two ≤ two + 1 := by
    unfold ib
    split <;> omega
  have front : fn_W_findValue f (n + 91) (nI two) = fn_W_findValue_20 f (n + 91) (nI (ib (pb P p) two + 1)) := by
    unfold fn_W_findValue ib
    rw [wy_is h.1, Option.bind_some, wb_at h hok (by omega), Option.bind_some]
    by_cases c1 : pb P p two < 128
    · rw [if_neg (show ¬ 128 ≤ nI (pb P p two) from fun z => absurd ((bs_le (a := 128) (by decide) (by omega)).mp z) (by omega)), if_pos c1, nI_1]
    · rw [if_pos (show 128 ≤ nI (pb P p two) from (bs_le (a := 128) (by decide) (by omega)).mpr (by omega)), if_neg c1, show nI two + 2 = nI (two + 1 + 1) from nI_add two 2]
  rw [front]
  have hfi : ib (pb P p) two + 1 ≤ two + 2 := by omega
  generalize ib (pb P p) two + 1 = first at hfi
  unfold fn_W_findValue_20 fn_W_findValue_62
  have z1 := wz_u (v := .int 1) h.1 (k := 8) rfl (by decide) (by decide)
  have q1 := wq_z h z1 (fun k hk => by omega)
  rw [wy_is h.1, Option.bind_some, wi_end h hok (by omega), Option.bind_some, wy_p h.1 (by decide), Option.bind_some, wy_is q1.1, Option.bind_some, wn_num q1 hok (by omega), Option.bind_some, wy_p q1.1 (by decide), Option.bind_some]
  have z2 := wz_u (v := .long (nm_ (pb P p) first)) q1.1 (k := 9) rfl (by decide) (by decide)
  have q2 := wq_z q1 z2 (fun k hk => by omega)
  have fin : ∀ y, ∃ f', ((pl_pV (ux_f (ux_f f (n + 91) 8 (.int 1)) (n + 91) 9 (.long (nm_ (pb P p) first))) (n + 91) 6 10 (.long y)).bind fun f1 => some f1) = some f' ∧ wz n (fun k => k = 8 ∨ k = 9 ∨ k = 10) f f' ∧ ax_i f' (n + 91) 8 = 1 ∧ ax_l f' (n + 91) 9 = nm_ (pb P p) first ∧ ax_l f' (n + 91) 10 = y := by
    intro y
    have z3 := wz_u (v := .long y) q2.1 (k := 10) rfl (by decide) (by decide)
    refine ⟨_, by rw [wy_p q2.1 (by decide), Option.bind_some], ((z1.mo (fun k hk => Or.inl hk)).tr (z2.mo (fun k hk => Or.inr (Or.inl hk)))).tr (z3.mo (fun k hk => Or.inr (Or.inr hk))), ?_, ?_, wv_l q2.1 (by decide) y⟩
    · rw [ix_v (z3.2.2 8 (by decide)), ix_v (z2.2.2 8 (by decide)), ix_f h.1.1 (by decide)]
    · rw [al_v (z3.2.2 9 (by decide)), wv_l q1.1 (by decide)]
  unfold nm_b
  cases e : ie (pb P p) first with
  | none =>
    show ∃ f', (if oI none = -1 then _ else _) = _ ∧ _
    rw [if_pos (show oI none = -1 from rfl)]
    exact fin 0
  | some s =>
    obtain ⟨j1, j2, j3, j4⟩ := ie_b (fun q => (pb_is hok p q).2) e
    rw [if_neg (fun z => by
      have := (oI_ne (o := some s) (fun j hj => by have := Option.some.inj hj; omega)).mp z
      cases this), wy_is q2.1, Option.bind_some]
    rw [show oI (some s) = nI s from rfl, wi_end q2 hok (by omega)]
    simp only [Option.bind_some]
    rw [wn_num q2 hok (by omega), Option.bind_some]
    exact fin _
