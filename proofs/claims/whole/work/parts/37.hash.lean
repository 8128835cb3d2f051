/-! Both hashes are one function of the bytes. -/
theorem kk_R_u {rc : Int64} {w w' v v' : Nat → Int64} (h1 : kk_R rc w w') (h2 : kk_R rc v v') (h : ∀ j, j < 25 → w j = v j) : ∀ j, j < 25 → w' j = v' j := by
  obtain ⟨b, b1, b2⟩ := h1
  obtain ⟨c, c1, c2⟩ := h2
  have hc : ∀ x, x < 5 → kk_c w x = kk_c v x := fun x hx => by
    unfold kk_c
    rw [h x (by omega), h (x + 5) (by omega), h (x + 10) (by omega), h (x + 15) (by omega), h (x + 20) (by omega)]
  have ht : ∀ i, i < 25 → kk_t w i = kk_t v i := fun i hi => by
    unfold kk_t kk_m
    rw [h i hi, hc _ (by omega), hc _ (by omega)]
  have hb : ∀ j, j < 25 → b j = c j := fun j hj => by
    obtain ⟨i, hi, rfl⟩ := kk_T_on j hj
    rw [b1 i hi, c1 i hi, ht i hi]
  have hx : ∀ y i, y + 5 ≤ 25 → i < 5 → kk_x b y i = kk_x c y i := fun y i hy hi => by
    unfold kk_x
    rw [hb (y + i) (by omega), hb (y + (i + 1) % 5) (by omega), hb (y + (i + 2) % 5) (by omega)]
  intro j hj
  rw [b2 j hj, c2 j hj, hx 0 0 (by omega) (by omega), hx (j / 5 * 5) (j % 5) (by omega) (by omega)]
theorem kk_G_u : ∀ (m r : Nat) {w w' v v' : Nat → Int64}, kk_G m r w w' → kk_G m r v v' → (∀ j, j < 25 → w j = v j) → ∀ j, j < 25 → w' j = v' j
  | 0, _, w, w', v, v', h1, h2, h => fun j hj => by rw [h1 j hj, h2 j hj, h j hj]
  | m + 1, r, w, w', v, v', ⟨x, x1, x2⟩, ⟨y, y1, y2⟩, h => kk_G_u m (r + 1) x2 y2 (kk_R_u x1 y1 h)
theorem kk_B_u (p : Nat → Int32) (b : Nat) {w v : Nat → Int64} (h : ∀ j, j < 25 → w j = v j) : ∀ r, r ≤ 136 → ∀ j, j < 25 → kk_B p b r w j = kk_B p b r v j
  | 0, _ => h
  | r + 1, hr => fun j hj => by
    have ih := kk_B_u p b h r (by omega)
    show kk_ab (kk_B p b r w) r _ j = kk_ab (kk_B p b r v) r _ j
    unfold kk_ab
    rw [bs_vL, bs_vL, ih (r / 8) (by omega), ih j hj]
theorem kk_M_u (p : Nat → Int32) : ∀ (m b : Nat) {w w' v v' : Nat → Int64}, kk_M p m b w w' → kk_M p m b v v' → (∀ j, j < 25 → w j = v j) → ∀ j, j < 25 → w' j = v' j
  | 0, _, w, w', v, v', h1, h2, h => fun j hj => by rw [h1 j hj, h2 j hj, h j hj]
  | m + 1, b, w, w', v, v', ⟨x, x1, x2⟩, ⟨y, y1, y2⟩, h => kk_M_u p m (b + 1) x2 y2 (kk_G_u 24 0 x1 y1 (kk_B_u p b h 136 (by omega)))
/-- w are the words of the hash of the first len bytes of g -/
def kk_is (g : Nat → Int32) (len : Nat) (w : Nat → Int64) : Prop := ∃ w0 : Nat → Int64, (∀ j, j < 25 → w0 j = 0) ∧ kk_M (kk_pb g len (len / 136 + 1)) (len / 136 + 1) 0 w0 w
theorem kk_is_u {g : Nat → Int32} {len : Nat} {w v : Nat → Int64} (h1 : kk_is g len w) (h2 : kk_is g len v) : ∀ j, j < 25 → w j = v j := by
  obtain ⟨a, a1, a2⟩ := h1
  obtain ⟨b, b1, b2⟩ := h2
  exact kk_M_u _ _ _ a2 b2 (fun j hj => by rw [a1 j hj, b1 j hj])
theorem kk_pb_c {g g' : Nat → Int32} {len nb : Nat} (h : ∀ i, i < len → g i = g' i) : kk_pb g len nb = kk_pb g' len nb := by
  funext i
  unfold kk_pb
  by_cases hi : i < len
  · rw [h i hi]
  · rw [if_neg hi, if_neg hi]
/-- the byte i of the hash -/
noncomputable def kk_h (g : Nat → Int32) (len i : Nat) : Int32 := kk_hb (@Classical.epsilon (Nat → Int64) ⟨fun _ => 0⟩ (kk_is g len)) i
theorem kk_h_c {g g' : Nat → Int32} {len : Nat} (h : ∀ i, i < len → g i = g' i) (i : Nat) : kk_h g len i = kk_h g' len i := by
  have e : kk_is g len = kk_is g' len := by
    funext w
    unfold kk_is
    rw [kk_pb_c h]
  unfold kk_h
  rw [e]
theorem kk_h_is {g : Nat → Int32} {len : Nat} {w : Nat → Int64} (h : kk_is g len w) {i : Nat} (hi : i < 32) : kk_hb w i = kk_h g len i := by
  have hx : ∃ w, kk_is g len w := ⟨w, h⟩
  unfold kk_h
  have := kk_is_u h (@Classical.epsilon_spec_aux (Nat → Int64) ⟨fun _ => 0⟩ (kk_is g len) hx) (i / 8) (by omega)
  unfold kk_hb
  rw [this]
theorem kk_shA : ∀ k, k < 8 → ((BitVec.signExtend 64 (nI (8 * k)).toBitVec).toNat &&& 63) % 64 = 8 * k := by decide +kernel
theorem kk_shB : ∀ k, k < 8 → ((BitVec.signExtend 64 (nI (8 * k)).toBitVec &&& 63#64).smod 64#64).toNat = 8 * k := by decide +kernel
theorem kk_255 : ∀ i, i < 32 → ¬ i < 8 → (255#32).getLsbD i = false := by decide +kernel
/-- the byte as the class tells it -/
theorem kk_by (v : Int64) {k : Nat} (hk : k < 8) : (((v.toUInt64 >>> ((nI (8 * k)).toInt64.toUInt64 &&& Int64.toUInt64 63)).toInt64 : Int64).toInt32) &&& 255 = ((v >>> ((nI (8 * k)).toInt64 &&& 63)) &&& 255 : Int64).toInt32 := by
  apply Int32.toBitVec_inj.mp
  apply BitVec.eq_of_getLsbD_eq
  intro i hi
  simp
  rw [kk_shA k hk, kk_shB k hk]
  by_cases h8 : i < 8
  · congr 1
    rw [BitVec.getLsbD_signExtend, BitVec.getLsbD_signExtend, BitVec.getLsbD_ushiftRight, BitVec.getLsbD_sshiftRight]
    have h64 : i < 64 := by omega
    have h65 : 8 * k + i < 64 := by omega
    simp [hi, h64, h65]
  · rw [kk_255 i hi h8]
    simp
theorem kh_byte {a w t c i : Nat} {f : pl_H} {g : Nat → Int32} {len : Nat} (h : kh_L f a w t c) (hw : kk_is g len (ax_L f w)) (hi : i < 32) : fn_H_hashByte f a (nI i) = some (kk_h g len i) := by
  have e2 : nI i / 8 = nI (i / 8) := pk_div (d := 8) (by omega) (by decide) (by decide)
  have e3 : nI i - nI (i / 8) * 8 = nI (i % 8) := by rw [← e2]; exact pk_rem (d := 8) (by omega) (by decide) (by decide)
  have e4 : 8 * nI (i % 8) = nI (8 * (i % 8)) := pk_mul 8 (i % 8)
  unfold fn_H_hashByte fn_H_hashByte_36
  rw [if_neg (nI_pos (by omega)), if_neg (show ¬ (32 : Int32) ≤ nI i from fun q => absurd ((bs_le (a := 32) (by decide) (by omega)).mp q) (by omega))]
  simp only [e2, e3, e4, kh_0 h, kh_w h (show i / 8 < 25 by omega), Option.bind_some]
  rw [kk_by _ (show i % 8 < 8 by omega), ← kk_h_is hw hi]
  rfl
/-- the class's hash, by the one function -/
theorem kh_hash' {a w t c a1 rl begin len : Nat} {g : Nat → Int32} {f : pl_H} (hlen : len < 90000) (hbeg : begin < 2 ^ 29) (hrl : rl < 2 ^ 30) (h : kh_L f a w t c) (hsh : ax_sh (f a1) = (2, 0, [rl])) (hg : ∀ i, i < len → kk_row f a1 rl begin i = g i) :
    ∃ f', fn_H_hash f a a1 (nI begin) (nI len) = some f' ∧ kh_L f' a w t c ∧ bs_kp (kh_S w t c) f f' ∧ kk_is g len (ax_L f' w) := by
  obtain ⟨f', h1, h2, h3, w0, h4, h5⟩ := kh_hash hlen hbeg hrl h hsh hg
  exact ⟨f', h1, h2, h3, w0, h4, h5⟩
/-- the reference's hash, by the one function -/
theorem mm_hash' {a len : Nat} {g : Nat → Int32} {f : pl_H} (hlen : len < 544) (h : mo_L f a) (hT : mo_T f a) (hc : ax_i f a 12 = nI len) (hg : ∀ i, i < len → ax_I f (a + 9) i = g i) :
    ∃ f', fn_M_hashCodeNow f a = some f' ∧ mo_L f' a ∧ mo_T f' a ∧ bs_kp (mo_H a) f f' ∧ ∀ i, i < 32 → ax_I f' (a + 20) i = kk_h g len i := by
  obtain ⟨f', h1, h2, h3, w0, wf, h4, h5, h6⟩ := mm_hash hlen h hT hc hg
  exact ⟨f', h1, h2, mo_T_kp hT h3 mo_HT.1 mo_HT.2, h3, fun i hi => (h6 i hi).trans (kk_h_is ⟨w0, h4, h5⟩ hi)⟩
