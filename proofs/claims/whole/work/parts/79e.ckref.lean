/-! check: the reference, node by node. -/
def rq (f : pl_H) (a : Nat) (P : List (List Int32)) (p : Nat) : Prop := mo_L f a ∧ mp_R f a P ∧ p < P.length
theorem rq_len {f : pl_H} {a p : Nat} {P : List (List Int32)} (h : rq f a P p) : (P.getD p []).length ≤ 404 ∧ p < 5 := ⟨(h.2.1.2.2 p _ (gd_lt h.2.2)).1, by have := h.2.1.2.1; have := h.2.2; omega⟩
theorem rb_at {f : pl_H} {a p i : Nat} {P : List (List Int32)} (h : rq f a P p) (hok : pk_ok P) (hi : i < 2 ^ 31) : fn_M_byteOf f a (nI p) (nI i) = some (nI (pb P p i)) := by
  obtain ⟨hl, hp5⟩ := rq_len h
  obtain ⟨h0, h1, h2⟩ := h
  have hL := h1.2.2 p _ (gd_lt (z := ([] : List Int32)) h2)
  unfold fn_M_byteOf fn_M_byteOf_26
  rw [mo_partLength h0, Option.bind_some, mo_partLength_g h0 hp5, hL.2.1, Option.bind_some]
  rcases Nat.lt_or_ge i (P.getD p []).length with z | z
  · rw [if_neg (fun q => absurd ((bs_le (by omega) hi).mp q) (by omega)), mo_part h0, Option.bind_some, mp_ix, mo_part_g h0 (by omega), Option.bind_some, hL.2.2 i _ (gd_lt (z := (0 : Int32)) z), (pb_is hok p i).1]
  · rw [if_pos ((bs_le (by omega) hi).mpr z), pb_out z]
    rfl
theorem ri_56 (f : pl_H) {i n : Nat} (hn : n < 2 ^ 31) : fn_M_itemEnd_56 f (nI i) (nI n) = some (nI (i + 1 + n)) := by
  unfold fn_M_itemEnd_56 fn_M_itemEnd_73
  rw [if_pos (nI_pos' hn), nI_1, nI_add]
theorem ri_end {f : pl_H} {a p i : Nat} {P : List (List Int32)} (h : rq f a P p) (hok : pk_ok P) (hi : i < 2 ^ 20) : fn_M_itemEnd f a (nI p) (nI i) = some (oI (ie (pb P p) i)) := by
  have hb := (pb_is hok p i).2
  unfold fn_M_itemEnd fn_M_itemEnd_55 ie
  rw [ax_is h.1.1, Option.bind_some, rb_at h hok (by omega), Option.bind_some]
  generalize pb P p i = b at hb
  by_cases c1 : b < 128
  · rw [if_neg (show ¬ 128 ≤ nI b from fun z => absurd ((bs_le (a := 128) (by decide) (by omega)).mp z) (by omega)), if_pos c1]
    exact ri_56 f (n := 0) (by decide)
  · rw [if_pos (show 128 ≤ nI b from (bs_le (a := 128) (by decide) (by omega)).mpr (by omega)), if_neg c1]
    by_cases c2 : b < 184
    · rw [if_neg (show ¬ 184 ≤ nI b from fun z => absurd ((bs_le (a := 184) (by decide) (by omega)).mp z) (by omega)), if_pos c2, show nI b - 128 = nI (b - 128) from pk_sub (b := 128) (by omega)]
      exact ri_56 f (by omega)
    · rw [if_pos (show 184 ≤ nI b from (bs_le (a := 184) (by decide) (by omega)).mpr (by omega)), if_neg c2]
      by_cases c3 : b < 192
      · rw [if_pos (show nI b ≤ 191 from (bs_le (b := 191) (by omega) (by decide)).mpr (by omega)), if_pos c3]
        rfl
      · rw [if_neg (show ¬ nI b ≤ 191 from fun z => c3 (by have := (bs_le (b := 191) (by omega) (by decide)).mp z; omega)), if_neg c3]
        by_cases c4 : b < 248
        · rw [if_neg (show ¬ 248 ≤ nI b from fun z => absurd ((bs_le (a := 248) (by decide) (by omega)).mp z) (by omega)), if_pos c4, show nI b - 192 = nI (b - 192) from pk_sub (b := 192) (by omega)]
          exact ri_56 f (by omega)
        · rw [if_pos (show 248 ≤ nI b from (bs_le (a := 248) (by decide) (by omega)).mpr (by omega)), if_neg c4]
          rfl
theorem rb_beg {f : pl_H} {a p i : Nat} {P : List (List Int32)} (h : rq f a P p) (hok : pk_ok P) (hi : i < 2 ^ 20) : fn_M_itemBytes f a (nI p) (nI i) = some (nI (ib (pb P p) i)) := by
  have hb := (pb_is hok p i).2
  unfold fn_M_itemBytes fn_M_itemBytes_19 ib
  rw [ax_is h.1.1, Option.bind_some, rb_at h hok (by omega), Option.bind_some]
  by_cases c1 : pb P p i < 128
  · rw [if_neg (show ¬ 128 ≤ nI (pb P p i) from fun z => absurd ((bs_le (a := 128) (by decide) (by omega)).mp z) (by omega)), if_pos c1]
  · rw [if_pos (show 128 ≤ nI (pb P p i) from (bs_le (a := 128) (by decide) (by omega)).mpr (by omega)), if_neg c1, nI_1]
theorem rn_items {f : pl_H} {a p i : Nat} {P : List (List Int32)} (h : rq f a P p) (hok : pk_ok P) (hi : i < 2 ^ 20) : fn_M_nodeItems f a (nI p) (nI i) = some (oI (ni (pb P p) i)) := by
  have hb := (pb_is hok p i).2
  unfold fn_M_nodeItems fn_M_nodeItems_21 fn_M_nodeItems_54 ni
  rw [ax_is h.1.1, Option.bind_some, rb_at h hok (by omega), Option.bind_some]
  generalize pb P p i = b at hb
  by_cases c1 : b < 192
  · rw [if_pos (show nI b < 192 from (bs_lt (b := 192) (by omega) (by decide)).mpr c1), if_pos c1]
    rfl
  · rw [if_neg (show ¬ nI b < 192 from fun z => c1 ((bs_lt (b := 192) (by omega) (by decide)).mp z)), if_neg c1]
    by_cases c2 : 249 < b
    · rw [if_neg (show ¬ nI b ≤ 249 from fun z => absurd ((bs_le (b := 249) (by omega) (by decide)).mp z) (by omega)), if_pos c2]
      rfl
    · rw [if_pos (show nI b ≤ 249 from (bs_le (b := 249) (by omega) (by decide)).mpr (by omega)), if_neg c2]
      by_cases c3 : b = 249
      · rw [if_pos (show nI b = 249 by rw [c3]; rfl), if_pos c3, show nI i + 3 = nI (i + 3) from nI_add i 3]
        rfl
      · rw [if_neg (show ¬ nI b = 249 from fun z => c3 ((nI_eq (b := 249) (by omega) (by decide)).mp z)), if_neg c3]
        by_cases c4 : b = 248
        · rw [if_pos (show nI b = 248 by rw [c4]; rfl), if_pos c4, show nI i + 2 = nI (i + 2) from nI_add i 2]
          rfl
        · rw [if_neg (show ¬ nI b = 248 from fun z => c4 ((nI_eq (b := 248) (by omega) (by decide)).mp z)), if_neg c4, nI_1]
          rfl
theorem rn_by {f : pl_H} {a p i : Nat} {P : List (List Int32)} (h : rq f a P p) (hok : pk_ok P) (hi : i < 2 ^ 20) (h9 : 192 ≤ pb P p i) : fn_M_nodeBytes f a (nI p) (nI i) = some (nI (nby (pb P p) i)) := by
  have hb := (pb_is hok p i).2
  unfold fn_M_nodeBytes fn_M_nodeBytes_61 nby
  rw [ax_is h.1.1, Option.bind_some, rb_at h hok (by omega), Option.bind_some]
  by_cases c3 : pb P p i = 249
  · rw [if_pos (show nI (pb P p i) = 249 by rw [c3]; rfl), if_pos c3, Option.bind_some, nI_1, rb_at h hok (by omega), Option.bind_some, Option.bind_some, show nI i + 2 = nI (i + 2) from nI_add i 2, rb_at h hok (by omega), Option.bind_some, show (256 : Int32) * nI (pb P p (i + 1)) = nI (256 * pb P p (i + 1)) from pk_mul 256 _, nI_add]
  · rw [if_neg (show ¬ nI (pb P p i) = 249 from fun z => c3 ((nI_eq (b := 249) (by omega) (by decide)).mp z)), if_neg c3]
    by_cases c4 : pb P p i = 248
    · rw [if_pos (show nI (pb P p i) = 248 by rw [c4]; rfl), if_pos c4, Option.bind_some, nI_1, rb_at h hok (by omega), Option.bind_some]
    · rw [if_neg (show ¬ nI (pb P p i) = 248 from fun z => c4 ((nI_eq (b := 248) (by omega) (by decide)).mp z)), if_neg c4, show nI (pb P p i) - 192 = nI (pb P p i - 192) from pk_sub (b := 192) (by omega)]
theorem rh_half {f : pl_H} {a p b t : Nat} {P : List (List Int32)} (h : rq f a P p) (hok : pk_ok P) (hb : b < 2 ^ 20) (ht : t < 2 ^ 20) : fn_M_half f a (nI p) (nI b) (nI t) = some (nI (hfd (pb P p) b t)) ∧ hfd (pb P p) b t < 16 := by
  have hbb := (pb_is hok p (b + t / 2)).2
  have e1 : nI t / 2 = nI (t / 2) := pk_div (d := 2) (by omega) (by decide) (by decide)
  have e2 : nI t - nI (t / 2) * 2 = nI (t % 2) := by
    have := pk_rem (a := t) (d := 2) (by omega) (by decide) (by decide)
    rw [pk_div (by omega) (by decide) (by decide)] at this
    exact this
  unfold fn_M_half fn_M_half_31 hfd
  rw [ax_is h.1.1, Option.bind_some, e1, nI_add, rb_at h hok (by omega), Option.bind_some, e2]
  by_cases c : t % 2 = 0
  · rw [if_pos (by rw [c]; rfl), if_pos c, show nI (pb P p (b + t / 2)) / 16 = nI (pb P p (b + t / 2) / 16) from pk_div (d := 16) (by omega) (by decide) (by decide)]
    exact ⟨rfl, by omega⟩
  · rw [if_neg (nI_ne0 (by omega) (by omega)), if_neg c, show nI (pb P p (b + t / 2)) - nI (pb P p (b + t / 2)) / 16 * 16 = nI (pb P p (b + t / 2) % 16) from pk_rem (d := 16) (by omega) (by decide) (by decide)]
    exact ⟨rfl, by omega⟩
theorem rd_83e (k : Nat) (f : pl_H) (a0 : Nat) (x1 x3 x4 x5 x7 x8 x9 : Int32) : fn_M_digitsOf_83 (k + 1) f a0 x1 x3 x4 x5 x7 x8 x9 = if x8 ≤ x9 then some x8 else if x7 = 0 then fn_M_digitsOf_110 (fn_M_digitsOf_83 k) f a0 x1 x3 x4 x5 x7 x8 x9 (x9 + 2) x5 x1 a0 else fn_M_digitsOf_110 (fn_M_digitsOf_83 k) f a0 x1 x3 x4 x5 x7 x8 x9 (x9 + 1) x5 x1 a0 := rfl
theorem rd_83 {f : pl_H} {a p x b o num d : Nat} {P : List (List Int32)} (h : rq f a P p) (hok : pk_ok P) (hx : x < 65536) (hb : b < 2 ^ 19) (ho : o < 2) (hd : d + num ≤ 4) : ∀ (r k t : Nat), num - t = r → t ≤ num → r < k → ∃ v, fn_M_digitsOf_83 k f a (nI p) (nI x) (nI d) (nI b) (nI o) (nI num) (nI t) = some v ∧ ((v = nI num ∧ ∀ s, t ≤ s → s < num → hfd (pb P p) b (2 - o + s) = dg x (d + s)) ∨ (v = -1 ∧ ¬ ∀ s, t ≤ s → s < num → hfd (pb P p) b (2 - o + s) = dg x (d + s))) := by
  intro r
  induction r with
  | zero =>
    intro k t hr ht hk
    obtain ⟨k, rfl⟩ : ∃ k', k = k' + 1 := ⟨k - 1, by omega⟩
    exact ⟨nI num, by rw [rd_83e, if_pos ((bs_le (by omega) (by omega)).mpr (by omega))], Or.inl ⟨rfl, fun s h1 h2 => by omega⟩⟩
  | succ r ih =>
    intro k t hr ht hk
    obtain ⟨k, rfl⟩ : ∃ k', k = k' + 1 := ⟨k - 1, by omega⟩
    have hdl := dg_lt x (d + t)
    have key : ∃ v, fn_M_digitsOf_110 (fn_M_digitsOf_83 k) f a (nI p) (nI x) (nI d) (nI b) (nI o) (nI num) (nI t) (nI (2 - o + t)) (nI b) (nI p) a = some v ∧ ((v = nI num ∧ ∀ s, t ≤ s → s < num → hfd (pb P p) b (2 - o + s) = dg x (d + s)) ∨ (v = -1 ∧ ¬ ∀ s, t ≤ s → s < num → hfd (pb P p) b (2 - o + s) = dg x (d + s))) := by
      obtain ⟨e1, e2⟩ := rh_half (b := b) (t := 2 - o + t) h hok (by omega) (by omega)
      unfold fn_M_digitsOf_110
      rw [ax_is h.1.1, Option.bind_some, e1, Option.bind_some, nI_add, md_at f hx (by omega), Option.bind_some]
      by_cases e : hfd (pb P p) b (2 - o + t) = dg x (d + t)
      · rw [if_pos (by rw [e]), nI_1]
        obtain ⟨w, p1, q1⟩ := ih k (t + 1) (by omega) (by omega) (by omega)
        refine ⟨w, p1, ?_⟩
        have eq : (∀ s, t ≤ s → s < num → hfd (pb P p) b (2 - o + s) = dg x (d + s)) ↔ ∀ s, t + 1 ≤ s → s < num → hfd (pb P p) b (2 - o + s) = dg x (d + s) := by
          refine ⟨fun y s h1 h2 => y s (by omega) h2, fun y s h1 h2 => ?_⟩
          rcases Nat.lt_or_ge t s with q | q
          · exact y s q h2
          · have : s = t := by omega
            subst this
            exact e
        rw [eq]
        exact q1
      · rw [if_neg (fun z => e ((nI_eq (by omega) (by omega)).mp z))]
        exact ⟨-1, rfl, Or.inr ⟨rfl, fun y => e (y t (Nat.le_refl _) (by omega))⟩⟩
    rw [rd_83e, if_neg (fun z => absurd ((bs_le (by omega) (by omega)).mp z) (by omega))]
    have : o = 0 ∨ o = 1 := by omega
    rcases this with rfl | rfl
    · rw [if_pos (show nI 0 = 0 from rfl), show nI t + 2 = nI (2 - 0 + t) by rw [Nat.add_comm (2 - 0) t]; exact nI_add t 2]
      exact key
    · rw [if_neg (show ¬ nI 1 = 0 by decide), show nI t + 1 = nI (2 - 1 + t) by rw [Nat.add_comm (2 - 1) t]; exact nI_add t 1]
      exact key
/-- how many digits, or -1 -/
theorem rd_dig {f : pl_H} {a p x one two d : Nat} {P : List (List Int32)} (h : rq f a P p) (hok : pk_ok P) (hx : x < 65536) (hi : one < 2 ^ 18) (h2 : ie (pb P p) one = some two) (hd : d ≤ 4) : ∃ v, fn_M_digitsOf f a (nI p) (nI one) (nI x) (nI d) = some v ∧ ((v = -1 ∧ pnd (pb P p) x one two d = none) ∨ (v = nI (2 * (two - ib (pb P p) one) - 2 + pb P p (ib (pb P p) one) / 16 % 2) ∧ d + (2 * (two - ib (pb P p) one) - 2 + pb P p (ib (pb P p) one) / 16 % 2) ≤ 4 ∧ pnd (pb P p) x one two d = if pb P p (ib (pb P p) one) / 16 / 2 % 2 = 0 then some (false, two, d + (2 * (two - ib (pb P p) one) - 2 + pb P p (ib (pb P p) one) / 16 % 2)) else if d + (2 * (two - ib (pb P p) one) - 2 + pb P p (ib (pb P p) one) / 16 % 2) = 4 then some (true, two, 4) else none)) := by
  obtain ⟨j1, j2, j3, j4⟩ := ie_b (fun q => (pb_is hok p q).2) h2
  have hb := (pb_is hok p (ib (pb P p) one)).2
  unfold fn_M_digitsOf fn_M_digitsOf_45 fn_M_digitsOf_67 pnd
  rw [ax_is h.1.1, Option.bind_some, rb_beg h hok (by omega), Option.bind_some, Option.bind_some, ri_end h hok (by omega), h2, Option.bind_some, show oI (some two) = nI two from rfl, pk_sub j3]
  by_cases c1 : two - ib (pb P p) one = 0
  · rw [if_pos (by rw [c1]; rfl), if_pos c1]
    exact ⟨-1, rfl, Or.inl ⟨rfl, rfl⟩⟩
  · obtain ⟨e1, e2⟩ := rh_half (b := ib (pb P p) one) (t := 0) h hok (by omega) (by decide)
    have e0 : hfd (pb P p) (ib (pb P p) one) 0 = pb P p (ib (pb P p) one) / 16 := by
      unfold hfd
      rw [if_pos rfl]
      rfl
    rw [e0] at e1
    rw [if_neg (nI_ne0 (by omega) (by omega)), if_neg c1, Option.bind_some]
    rw [show fn_M_half f a (nI p) (nI (ib (pb P p) one)) 0 = _ from e1, Option.bind_some]
    generalize hlen : two - ib (pb P p) one = len at c1
    have hlen' : len ≤ 56 := by omega
    generalize hbb : pb P p (ib (pb P p) one) = b at hb
    have eodd : nI (b / 16) - nI (b / 16) / 2 * 2 = nI (b / 16 % 2) := pk_rem (d := 2) (by omega) (by decide) (by decide)
    rw [eodd]
    have e2l : (2 : Int32) * nI len = nI (2 * len) := pk_mul 2 len
    have fin : ∀ num, num = 2 * len - 2 + b / 16 % 2 → ∃ v, (if (nI d + nI num) ≤ 4 then fn_M_digitsOf_83 pl_N f a (nI p) (nI x) (nI d) (nI (ib (pb P p) one)) (nI (b / 16 % 2)) (nI num) 0 else some (-1)) = some v ∧ ((v = -1 ∧ (if 4 < d + num then none else cif (∀ t, t < num → hfd (pb P p) (ib (pb P p) one) (2 - b / 16 % 2 + t) = dg x (d + t)) (if b / 16 / 2 % 2 = 0 then some (false, two, d + num) else if d + num = 4 then some (true, two, 4) else none) none) = none) ∨ (v = nI num ∧ d + num ≤ 4 ∧ (if 4 < d + num then none else cif (∀ t, t < num → hfd (pb P p) (ib (pb P p) one) (2 - b / 16 % 2 + t) = dg x (d + t)) (if b / 16 / 2 % 2 = 0 then some (false, two, d + num) else if d + num = 4 then some (true, two, 4) else none) none) = if b / 16 / 2 % 2 = 0 then some (false, two, d + num) else if d + num = 4 then some (true, two, 4) else none)) := by
      intro num hnum
      rw [nI_add]
      by_cases c2 : 4 < d + num
      · rw [if_neg (show ¬ nI (d + num) ≤ 4 from fun z => absurd ((bs_le (b := 4) (by omega) (by decide)).mp z) (by omega)), if_pos c2]
        exact ⟨-1, rfl, Or.inl ⟨rfl, rfl⟩⟩
      · rw [if_pos (show nI (d + num) ≤ 4 from (bs_le (b := 4) (by omega) (by decide)).mpr (by omega)), if_neg c2]
        obtain ⟨v, pv, qv⟩ := rd_83 (b := ib (pb P p) one) (o := b / 16 % 2) (num := num) h hok hx (by omega) (by omega) (show d + num ≤ 4 by omega) num pl_N 0 rfl (Nat.zero_le _) (by unfold pl_N; omega)
        refine ⟨v, pv, ?_⟩
        rcases qv with ⟨q1, q2⟩ | ⟨q1, q2⟩
        · rw [cif_pos (fun t ht => q2 t (Nat.zero_le _) ht)]
          exact Or.inr ⟨q1, by omega, rfl⟩
        · rw [cif_neg (fun z => q2 (fun s _ hs => z s hs))]
          exact Or.inl ⟨q1, rfl⟩
    have : b / 16 % 2 = 0 ∨ b / 16 % 2 = 1 := by omega
    rcases this with ho | ho
    · have hf := fin (2 * len - 2) (by omega)
      rw [ho] at hf ⊢
      rw [if_neg (by decide), if_pos rfl, e2l, show nI (2 * len) - 2 = nI (2 * len - 2) from pk_sub (b := 2) (by omega)]
      exact hf
    · have hf := fin (2 * len - 2 + 1) (by omega)
      rw [ho] at hf ⊢
      rw [if_pos (show nI 1 = 1 from rfl), if_neg (show ¬ (1 : Int32) = 0 by decide), e2l, show nI (2 * len) - 1 = nI (2 * len - 2 + 1) by rw [show 2 * len - 2 + 1 = 2 * len - 1 by omega]; exact pk_sub (b := 1) (by omega)]
      exact hf
theorem rn_31e (k : Nat) (f : pl_H) (a0 : Nat) (x1 : Int32) (y3 : Int64) (x5 x6 : Int32) : fn_M_itemNumber_31 (k + 1) f a0 x1 y3 x5 x6 = if x5 ≤ x6 then some y3 else (pl_is f a0 8).bind fun u2 => (fn_M_byteOf f a0 x1 x6).bind fun v1 => fn_M_itemNumber_31 k f a0 x1 ((256 * y3) + ((v1 : Int32).toInt64)) x5 (x6 + 1) := rfl
theorem rn_31 {f : pl_H} {a p e : Nat} {P : List (List Int32)} (h : rq f a P p) (hok : pk_ok P) (he : e < 2 ^ 21) : ∀ (r k i : Nat) (y : Int64), e - i = r → i < 2 ^ 21 → r < k → fn_M_itemNumber_31 k f a (nI p) y (nI e) (nI i) = some (nmb (pb P p) r i y) := by
  intro r
  induction r with
  | zero =>
    intro k i y hr hi hk
    obtain ⟨k, rfl⟩ : ∃ k', k = k' + 1 := ⟨k - 1, by omega⟩
    rw [rn_31e, if_pos ((bs_le (by omega) (by omega)).mpr (by omega))]
    rfl
  | succ r ih =>
    intro k i y hr hi hk
    obtain ⟨k, rfl⟩ : ∃ k', k = k' + 1 := ⟨k - 1, by omega⟩
    rw [rn_31e, if_neg (fun z => absurd ((bs_le (by omega) (by omega)).mp z) (by omega)), ax_is h.1.1, Option.bind_some, rb_at h hok (by omega), Option.bind_some, nI_1]
    exact ih k (i + 1) _ (by omega) (by omega) (by omega)
theorem rn_num {f : pl_H} {a p i : Nat} {P : List (List Int32)} (h : rq f a P p) (hok : pk_ok P) (hi : i < 2 ^ 20) : fn_M_itemNumber f a (nI p) (nI i) = some (nm_ (pb P p) i) := by
  have hib : ib (pb P p) i ≤ i + 1 := by
    unfold ib
    split <;> omega
  unfold fn_M_itemNumber fn_M_itemNumber_16 fn_M_itemNumber_59 nm_
  rw [if_pos (nI_pos' (by omega)), ax_is h.1.1, Option.bind_some, ri_end h hok hi, Option.bind_some]
  cases e : ie (pb P p) i with
  | none =>
    show (if oI none < 0 then _ else _) = _
    rw [if_pos (show oI none < 0 by decide)]
  | some j =>
    obtain ⟨j1, j2, j3, j4⟩ := ie_b (fun q => (pb_is hok p q).2) e
    rw [show oI (some j) = nI j from rfl, if_neg (nI_pos (by omega)), Option.bind_some, rb_beg h hok hi, Option.bind_some]
    exact rn_31 h hok (by omega) (j - ib (pb P p) i) pl_N (ib (pb P p) i) 0 rfl (by omega) (by unfold pl_N; omega)
theorem rn_numb {f : pl_H} {a p i : Nat} {P : List (List Int32)} (h : rq f a P p) (hok : pk_ok P) (hi : i < 2 ^ 19) : fn_M_itemNumber f a (nI p) (oI (ie (pb P p) i)) = some (nm_b (pb P p) i) := by
  unfold nm_b
  cases e : ie (pb P p) i with
  | none => rfl
  | some j =>
    obtain ⟨j1, j2, j3, j4⟩ := ie_b (fun q => (pb_is hok p q).2) e
    exact rn_num h hok (by omega)
