/-! The class's hash: blocks of 136 bytes. -/
def kk_pb (g : Nat → Int32) (len nb i : Nat) : Int32 := if i = 136 * nb - 1 then (if i = len then 1 else if i < len then g i else 0) + 128 else (if i = len then 1 else if i < len then g i else 0)
def kk_ab (w : Nat → Int64) (r : Nat) (b : Int32) : Nat → Int64 := vp_updL w (r / 8) (w (r / 8) ^^^ ((b : Int32).toInt64 <<< (((nI (8 * (r % 8))) : Int32).toInt64 &&& 63)))
def kk_B (p : Nat → Int32) (b : Nat) : Nat → (Nat → Int64) → Nat → Int64
  | 0, w => w
  | r + 1, w => kk_ab (kk_B p b r w) r (p (136 * b + r))
def kk_M (p : Nat → Int32) : Nat → Nat → (Nat → Int64) → (Nat → Int64) → Prop
  | 0, _, w, w' => ∀ j, j < 25 → w' j = w j
  | m + 1, b, w, w' => ∃ v, kk_G 24 0 (kk_B p b 136 w) v ∧ kk_M p m (b + 1) v w'
theorem bs_ln {f : pl_H} {a w t len : Nat} (h : ax_sh (f a) = (w, t, [len])) (hw : w = 2 ∨ w = 3 ∨ w = 4) (ht : t < 5) : pl_ln f a = some (nI len) := ax_ln h hw ht
def kk_row (f : pl_H) (a1 rl begin : Nat) (i : Nat) : Int32 := if begin + i < rl then ax_I f a1 (begin + i) else 0
set_option maxHeartbeats 2000000 in
theorem kh_h101 {a w t c a1 : Nat} {rc : pl_H → Nat → Nat → Int32 → Int32 → Int32 → Int32 → Option pl_H} {x2 x3 x4 b : Int32} {i : Nat} (hi : i < 2 ^ 30) {f : pl_H} (h : kh_L f a w t c) : ∃ f', fn_H_hash_101 rc f a a1 x2 x3 x4 (nI i) b = rc f' a a1 x2 x3 x4 (nI (i + 1)) ∧ kh_L f' a w t c ∧ bs_kp (kh_S w t c) f f' ∧ ((i % 136 ≠ 135 → ax_L f' w = kk_ab (ax_L f w) (i % 136) b) ∧ (i % 136 = 135 → kk_G 24 0 (kk_ab (ax_L f w) (i % 136) b) (ax_L f' w))) := by
  generalize hr : i % 136 = r
  have hr1 : r < 136 := by omega
  have e1 : nI i - nI i / 136 * 136 = nI r := by rw [← hr]; exact pk_rem (d := 136) (by omega) (by decide) (by decide)
  have e2 : nI r / 8 = nI (r / 8) := pk_div (d := 8) (by omega) (by decide) (by decide)
  have e3 : nI r - nI (r / 8) * 8 = nI (r % 8) := by rw [← e2]; exact pk_rem (d := 8) (by omega) (by decide) (by decide)
  have e4 : 8 * nI (r % 8) = nI (8 * (r % 8)) := pk_mul 8 (r % 8)
  have e5 : nI i + 1 = nI (i + 1) := nI_add i 1
  have h8 : r / 8 < 25 := by omega
  generalize hx : ax_L f w (r / 8) ^^^ ((b : Int32).toInt64 <<< (((nI (8 * (r % 8))) : Int32).toInt64 &&& 63)) = x
  have h' := kh_up h w (r / 8) x
  have hab : ax_L (ux_L f w (r / 8) x) w = kk_ab (ax_L f w) r b := by
    rw [rx_L h.2.2.2.2.1, ← hx]
    rfl
  by_cases h135 : r = 135
  · obtain ⟨f', g1, g2, g3, g4⟩ := kh_dr h'
    rw [hab] at g4
    refine ⟨f', ?_, g2, (bs_kp.L (Or.inl rfl)).tr g3, fun q => absurd h135 q, fun _ => g4⟩
    unfold fn_H_hash_101
    simp only [e1, e2, e3, e4, kh_0 h, kh_w h h8, Option.bind_some, hx]
    rw [kh_sw h h8]
    simp only [Option.bind_some]
    rw [if_pos (show nI r = 135 by rw [h135]; rfl)]
    simp only [ax_is h'.1, g1, Option.bind_some]
    unfold fn_H_hash_146
    rw [e5]
  · refine ⟨_, ?_, h', bs_kp.L (Or.inl rfl), fun _ => hab, fun q => absurd q h135⟩
    unfold fn_H_hash_101
    simp only [e1, e2, e3, e4, kh_0 h, kh_w h h8, Option.bind_some, hx]
    rw [kh_sw h h8]
    simp only [Option.bind_some]
    rw [if_neg (show ¬ nI r = 135 from fun q => h135 ((nI_eq (by omega) (by decide)).mp (show nI r = nI 135 from q)))]
    unfold fn_H_hash_146
    rw [e5]
set_option maxHeartbeats 2000000 in
theorem kh_h43 {a w t c a1 rl begin len nb : Nat} {g : Nat → Int32} (hlen : len < 136 * nb) (hnb : 136 * nb + begin < 2 ^ 30) (hrl : rl < 2 ^ 30) : ∀ (m k b r : Nat) (w0 : Nat → Int64) (f : pl_H), 136 * nb - (136 * b + r) = m → 136 * b + r ≤ 136 * nb → r < 136 → m < k → kh_L f a w t c → ax_sh (f a1) = (2, 0, [rl]) → (∀ i, i < len → kk_row f a1 rl begin i = g i) → ax_L f w = kk_B (kk_pb g len nb) b r w0 →
    ∃ f', fn_H_hash_43 k f a a1 (nI begin) (nI len) (nI (136 * nb)) (nI (136 * b + r)) = some f' ∧ kh_L f' a w t c ∧ bs_kp (kh_S w t c) f f' ∧ kk_M (kk_pb g len nb) (nb - b) b w0 (ax_L f' w) := by
  intro m
  induction m with
  | zero =>
    intro k b r w0 f hm hi hr hk h hsh hg hw
    obtain ⟨k, rfl⟩ : ∃ k', k = k' + 1 := ⟨k - 1, by omega⟩
    have hb : b = nb := by omega
    have hr0 : r = 0 := by omega
    subst hb
    subst hr0
    refine ⟨f, ?_, h, bs_kp.rf, ?_⟩
    · conv => lhs; unfold fn_H_hash_43
      simp only [if_pos ((bs_le (a := 136 * b) (b := 136 * b + 0) (by omega) (by omega)).mpr (by omega))]
    · rw [Nat.sub_self]
      intro j _
      rw [hw]
      rfl
  | succ m ih =>
    intro k b r w0 f hm hi hr hk h hsh hg hw
    obtain ⟨k, rfl⟩ : ∃ k', k = k' + 1 := ⟨k - 1, by omega⟩
    generalize hz : 136 * b + r = i at *
    have hiP : i < 136 * nb := by omega
    have hmod : i % 136 = r := by omega
    have hn1 : ¬ nI (136 * nb) ≤ nI i := fun q => absurd ((bs_le (by omega) (by omega)).mp q) (by omega)
    -- the byte
    have key : ∃ bb, bb = kk_pb g len nb i ∧ fn_H_hash_43 (k + 1) f a a1 (nI begin) (nI len) (nI (136 * nb)) (nI i) = fn_H_hash_101 (fn_H_hash_43 k) f a a1 (nI begin) (nI len) (nI (136 * nb)) (nI i) bb := by
      have hlast : nI (136 * nb) - 1 = nI (136 * nb - 1) := pk_sub (b := 1) (by omega)
      have h86 : ∀ bb : Int32, fn_H_hash_86 (fn_H_hash_43 k) f a a1 (nI begin) (nI len) (nI (136 * nb)) (nI i) bb = fn_H_hash_101 (fn_H_hash_43 k) f a a1 (nI begin) (nI len) (nI (136 * nb)) (nI i) (if i = 136 * nb - 1 then bb + 128 else bb) := by
        intro bb
        unfold fn_H_hash_86
        rw [hlast]
        by_cases hl : i = 136 * nb - 1
        · rw [if_pos (by rw [hl]), if_pos hl]
        · rw [if_neg (fun q => hl ((nI_eq (by omega) (by omega)).mp q)), if_neg hl]
      have h75 : ∀ bb : Int32, fn_H_hash_75 (fn_H_hash_43 k) f a a1 (nI begin) (nI len) (nI (136 * nb)) (nI i) bb = fn_H_hash_86 (fn_H_hash_43 k) f a a1 (nI begin) (nI len) (nI (136 * nb)) (nI i) (if i = len then 1 else bb) := by
        intro bb
        unfold fn_H_hash_75
        by_cases hl : i = len
        · rw [if_pos (by rw [hl]), if_pos hl]
        · rw [if_neg (fun q => hl ((nI_eq (by omega) (by omega)).mp q)), if_neg hl]
      have hsum : nI begin + nI i = nI (begin + i) := nI_add begin i
      refine ⟨_, rfl, ?_⟩
      conv => lhs; unfold fn_H_hash_43
      simp only [if_neg hn1]
      by_cases hli : len ≤ i
      · rw [if_pos ((bs_le (by omega) (by omega)).mpr hli)]
        unfold fn_H_hash_74
        rw [h75, h86]
        congr 1
        unfold kk_pb
        rw [if_neg (show ¬ i < len by omega)]
      · rw [if_neg (fun q => hli ((bs_le (by omega) (by omega)).mp q)), bs_ln hsh (Or.inl rfl) (by decide)]
        simp only [Option.bind_some, hsum]
        have hg' := hg i (by omega)
        unfold kk_row at hg'
        by_cases hbi : begin + i < rl
        · rw [if_neg (fun q => absurd ((bs_le (a := rl) (by omega) (by omega)).mp q) (by omega)), bs_aI hsh hbi (by omega)]
          simp only [Option.bind_some]
          rw [h75, h86]
          congr 1
          rw [if_pos hbi] at hg'
          unfold kk_pb
          rw [if_pos (show i < len by omega), hg']
        · rw [if_pos ((bs_le (a := rl) (by omega) (by omega)).mpr (by omega))]
          unfold fn_H_hash_74
          rw [h75, h86]
          congr 1
          rw [if_neg hbi] at hg'
          unfold kk_pb
          rw [if_pos (show i < len by omega), ← hg']
    obtain ⟨bb, hbb, hkey⟩ := key
    obtain ⟨f1, g1, g2, g3, g4, g5⟩ := kh_h101 (rc := fn_H_hash_43 k) (a1 := a1) (x2 := nI begin) (x3 := nI len) (x4 := nI (136 * nb)) (b := bb) (i := i) (by omega) h
    have hsh1 : ax_sh (f1 a1) = (2, 0, [rl]) := by
      rw [g3 a1 ?_]
      · exact hsh
      · rintro (q | q | q)
        · rw [q, h.2.2.2.2.1] at hsh; cases hsh
        · rw [q, h.2.2.2.2.2.1] at hsh; cases hsh
        · rw [q, h.2.2.2.2.2.2.1] at hsh; cases hsh
    have hrow1 : ∀ j, j < len → kk_row f1 a1 rl begin j = g j := by
      intro j hj
      rw [← hg j hj]
      unfold kk_row ax_I
      rw [g3 a1 ?_]
      rintro (q | q | q)
      · rw [q, h.2.2.2.2.1] at hsh; cases hsh
      · rw [q, h.2.2.2.2.2.1] at hsh; cases hsh
      · rw [q, h.2.2.2.2.2.2.1] at hsh; cases hsh
    rw [hmod, hw] at g4 g5
    by_cases h135 : r = 135
    · have g5' := g5 h135
      obtain ⟨f', i1, i2, i3, i4⟩ := ih k (b + 1) 0 (ax_L f1 w) f1 (by omega) (by omega) (by omega) (by omega) g2 hsh1 hrow1 rfl
      refine ⟨f', ?_, i2, g3.tr i3, ?_⟩
      · rw [hkey, g1, ← i1, show 136 * (b + 1) + 0 = i + 1 by omega]
      · rw [show nb - b = (nb - (b + 1)) + 1 by omega]
        refine ⟨ax_L f1 w, ?_, i4⟩
        have : kk_B (kk_pb g len nb) b 136 w0 = kk_ab (kk_B (kk_pb g len nb) b r w0) r bb := by
          rw [hbb, ← hz, h135]
          rfl
        rw [this]
        exact g5'
    · have g4' := g4 h135
      obtain ⟨f', i1, i2, i3, i4⟩ := ih k b (r + 1) w0 f1 (by omega) (by omega) (by omega) (by omega) g2 hsh1 hrow1 (by rw [g4', hbb, ← hz]; rfl)
      refine ⟨f', ?_, i2, g3.tr i3, i4⟩
      rw [hkey, g1, ← i1, show 136 * b + (r + 1) = i + 1 by omega]
set_option maxHeartbeats 1000000 in
theorem kh_h3 {a w t c a1 : Nat} {x2 x3 : Int32} : ∀ (m k x : Nat) (f : pl_H), 25 - x = m → x ≤ 25 → m < k → kh_L f a w t c → ∃ f', fn_H_hash_3 k f a a1 x2 x3 (nI x) = fn_H_hash_43 pl_N f' a a1 x2 x3 (((x3 / 136) + 1) * 136) 0 ∧ kh_L f' a w t c ∧ bs_kp (kh_S w t c) f f' ∧ (∀ j, j < x → ax_L f' w j = ax_L f w j) ∧ ∀ j, x ≤ j → j < 25 → ax_L f' w j = 0 := by
  intro m
  induction m with
  | zero =>
    intro k x f hm hx hk h
    have hx5 : x = 25 := by omega
    subst hx5
    obtain ⟨k, rfl⟩ : ∃ k', k = k' + 1 := ⟨k - 1, by omega⟩
    refine ⟨f, ?_, h, bs_kp.rf, fun _ _ => rfl, fun j h1 h2 => absurd h2 (by omega)⟩
    conv => lhs; unfold fn_H_hash_3
    simp only [kh_0 h, Option.bind_some]
    rw [bs_ln h.2.2.2.2.1 (Or.inr (Or.inl rfl)) (by decide)]
    simp only [Option.bind_some]
    rw [if_pos (show nI 25 ≤ nI 25 from (bs_le (a := 25) (b := 25) (by decide) (by decide)).mpr (by omega))]
  | succ m ih =>
    intro k x f hm hx hk h
    obtain ⟨k, rfl⟩ : ∃ k', k = k' + 1 := ⟨k - 1, by omega⟩
    have h' := kh_up h w x 0
    obtain ⟨f', g1, g2, g3, g4, g5⟩ := ih k (x + 1) _ (by omega) (by omega) (by omega) h'
    refine ⟨f', ?_, g2, (bs_kp.L (Or.inl rfl)).tr g3, fun j hj => ?_, fun j h1 h2 => ?_⟩
    · rw [← g1]
      conv => lhs; unfold fn_H_hash_3
      simp only [kh_0 h, Option.bind_some]
      rw [bs_ln h.2.2.2.2.1 (Or.inr (Or.inl rfl)) (by decide)]
      simp only [Option.bind_some]
      rw [if_neg (fun q => absurd ((bs_le (a := 25) (b := x) (by decide) (by omega)).mp q) (by omega)), kh_sw h (show x < 25 by omega)]
      simp only [Option.bind_some]
      rw [show nI x + 1 = nI (x + 1) from nI_add x 1]
    · rw [g4 j (by omega), rx_L h.2.2.2.2.1, bs_vL, if_neg (by omega)]
    · by_cases hjx : j = x
      · subst hjx
        rw [g4 j (by omega), rx_L h.2.2.2.2.1, bs_vL, if_pos rfl]
      · exact g5 j (by omega) h2
/-- hash(row, begin, length): the words are those of the bytes g -/
theorem kh_hash {a w t c a1 rl begin len : Nat} {g : Nat → Int32} {f : pl_H} (hlen : len < 90000) (hbeg : begin < 2 ^ 29) (hrl : rl < 2 ^ 30) (h : kh_L f a w t c) (hsh : ax_sh (f a1) = (2, 0, [rl])) (hg : ∀ i, i < len → kk_row f a1 rl begin i = g i) :
    ∃ f', fn_H_hash f a a1 (nI begin) (nI len) = some f' ∧ kh_L f' a w t c ∧ bs_kp (kh_S w t c) f f' ∧ ∃ w0 : Nat → Int64, (∀ j, j < 25 → w0 j = 0) ∧ kk_M (kk_pb g len (len / 136 + 1)) (len / 136 + 1) 0 w0 (ax_L f' w) := by
  obtain ⟨f1, g1, g2, g3, -, g5⟩ := kh_h3 (a1 := a1) (x2 := nI begin) (x3 := nI len) 25 pl_N 0 f rfl (by omega) (by decide) h
  have hne : ¬ kh_S w t c a1 := by
    rintro (q | q | q)
    · rw [q, h.2.2.2.2.1] at hsh; cases hsh
    · rw [q, h.2.2.2.2.2.1] at hsh; cases hsh
    · rw [q, h.2.2.2.2.2.2.1] at hsh; cases hsh
  have hsh1 : ax_sh (f1 a1) = (2, 0, [rl]) := by rw [g3 a1 hne]; exact hsh
  have hrow1 : ∀ j, j < len → kk_row f1 a1 rl begin j = g j := by
    intro j hj
    rw [← hg j hj]
    unfold kk_row ax_I
    rw [g3 a1 hne]
  have e : ((nI len / 136) + 1) * 136 = nI (136 * (len / 136 + 1)) := by
    rw [show nI len / 136 = nI (len / 136) from pk_div (d := 136) (by omega) (by decide) (by decide), show nI (len / 136) + 1 = nI (len / 136 + 1) from nI_add _ 1, show nI (len / 136 + 1) * 136 = nI ((len / 136 + 1) * 136) from pk_mul _ 136, Nat.mul_comm]
  have hbig : 136 * (len / 136 + 1) < pl_N := by unfold pl_N; omega
  obtain ⟨f', i1, i2, i3, i4⟩ := kh_h43 (nb := len / 136 + 1) (begin := begin) (rl := rl) (len := len) (g := g) (a1 := a1) (by omega) (by omega) hrl (136 * (len / 136 + 1)) pl_N 0 0 (ax_L f1 w) f1 (by omega) (by omega) (by omega) hbig g2 hsh1 hrow1 rfl
  refine ⟨f', ?_, i2, g3.tr i3, ax_L f1 w, fun j hj => g5 j (Nat.zero_le _) hj, i4⟩
  unfold fn_H_hash
  rw [show fn_H_hash_3 pl_N f a a1 (nI begin) (nI len) 0 = _ from g1, e]
  exact i1
