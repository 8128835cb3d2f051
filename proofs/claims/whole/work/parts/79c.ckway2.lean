/-! check: the class's way through the parts. -/
def wK : Nat → Prop := fun k => k = 7 ∨ k = 8 ∨ k = 9 ∨ k = 10
/-- what passing a node leaves -/
def wo (f' : pl_H) (n : Nat) (g : Nat → Nat) (i : Nat) (r : Int32) (o : Option (Bool × Nat × Nat)) : Prop := (o = none ∧ r = -1 ∧ ax_i f' (n + 91) 8 = 0) ∨ (∃ two d', o = some (true, two, d') ∧ r = -1 ∧ ax_i f' (n + 91) 8 = 1 ∧ ax_l f' (n + 91) 9 = nm_ g (ib g two + 1) ∧ ax_l f' (n + 91) 10 = nm_b g (ib g two + 1)) ∨ ∃ it d', o = some (false, it, d') ∧ r = nI it ∧ ax_i f' (n + 91) 8 = 0 ∧ ax_i f' (n + 91) 7 = nI d' ∧ d' ≤ 4 ∧ i < it ∧ it ≤ i + 1000
theorem wd_fl : ∀ b, b < 16 → ((nI b &&& 2 = 0) ↔ b / 2 % 2 = 0) := by decide +kernel
theorem wp_dig {f : pl_H} {n p x i one two d : Nat} {P : List (List Int32)} (h : wq f n P p x) (hok : pk_ok P) (hx : x < 65536) (hi : i < 1000) (h1 : i < one ∧ one ≤ i + 3) (h2 : ie (pb P p) one = some two) (h7 : ax_i f (n + 91) 7 = nI d) (hd : d ≤ 4) (h8 : ax_i f (n + 91) 8 = 0) : ∃ r f', fn_W_passDigits f (n + 91) (nI one) (nI two) = some (r, f') ∧ wz n wK f f' ∧ wo f' n (pb P p) i r (pnd (pb P p) x one two d) := by
  obtain ⟨j1, j2, j3, j4⟩ := ie_b (fun q => (pb_is hok p q).2) h2
  have hb := (pb_is hok p (ib (pb P p) one)).2
  have stop : (fun (_ : Unit) => (none : Option (Bool × Nat × Nat))) () = none → ∃ r f', some ((-1 : Int32), f) = some (r, f') ∧ wz n wK f f' ∧ wo f' n (pb P p) i r none := fun _ => ⟨-1, f, rfl, wz.rf h.1, Or.inl ⟨rfl, rfl, h8⟩⟩
  unfold fn_W_passDigits fn_W_passDigits_70 fn_W_passDigits_105 pnd
  rw [wy_is h.1, Option.bind_some, wb_beg h hok (by omega), Option.bind_some, pk_sub j3]
  by_cases c1 : two - ib (pb P p) one = 0
  · rw [if_pos (by rw [c1]; rfl), if_pos c1]
    exact stop rfl
  · rw [if_neg (nI_ne0 (by omega) (by omega)), if_neg c1, Option.bind_some, wb_at h hok (by omega), Option.bind_some, wy_i h.1 rfl, h7, Option.bind_some]
    generalize hlen : two - ib (pb P p) one = len at c1
    have hlen' : len ≤ 56 := by omega
    generalize hbb : pb P p (ib (pb P p) one) = b at hb
    have efl : nI b / 16 = nI (b / 16) := pk_div (d := 16) (by omega) (by decide) (by decide)
    have eodd : nI (b / 16) - nI (b / 16) / 2 * 2 = nI (b / 16 % 2) := pk_rem (d := 2) (by omega) (by decide) (by decide)
    have enum : (2 * nI len - 2) + nI (b / 16 % 2) = nI (2 * len - 2 + b / 16 % 2) := by
      rw [show (2 : Int32) * nI len = nI (2 * len) from pk_mul 2 len, show nI (2 * len) - 2 = nI (2 * len - 2) from pk_sub (b := 2) (by omega), nI_add]
    have eh : 2 - nI (b / 16 % 2) = nI (2 - b / 16 % 2) := pk_sub (a := 2) (by omega)
    rw [efl, eodd, enum, eh, nI_add]
    generalize hnum : 2 * len - 2 + b / 16 % 2 = num
    by_cases c2 : 4 < d + num
    · rw [if_pos (show 4 < nI (d + num) from (bs_lt (a := 4) (by decide) (by omega)).mpr c2), if_pos c2]
      exact stop rfl
    · rw [if_neg (show ¬ 4 < nI (d + num) from fun z => c2 ((bs_lt (a := 4) (by decide) (by omega)).mp z)), if_neg c2, Option.bind_some]
      obtain ⟨v, pv, qv⟩ := wh_dig (b := ib (pb P p) one) (h0 := 2 - b / 16 % 2) (num := num) h hok hx (by omega) (by omega) h7 (by omega) num pl_N 0 rfl (Nat.zero_le _) (by unfold pl_N; omega)
      have qv' : v = 0 ↔ ¬ ∀ t, t < num → hfd (pb P p) (ib (pb P p) one) (2 - b / 16 % 2 + t) = dg x (d + t) := qv.trans ⟨fun z y => z (fun s _ h2 => y s h2), fun z y => z (fun s h2 => y s (Nat.zero_le _) h2)⟩
      unfold fn_W_haveDigits
      rw [show fn_W_haveDigits_3 pl_N f (n + 91) (nI (ib (pb P p) one)) (nI (2 - b / 16 % 2)) (nI num) 0 = some v from pv, Option.bind_some]
      by_cases c3 : v = 0
      · rw [if_pos c3, cif_neg (qv'.mp c3)]
        exact stop rfl
      · have hall : ∀ t, t < num → hfd (pb P p) (ib (pb P p) one) (2 - b / 16 % 2 + t) = dg x (d + t) := Classical.byContradiction fun z => c3 (qv'.mpr z)
        rw [if_neg c3, cif_pos hall, Option.bind_some, nI_add, wy_p h.1 (by decide), Option.bind_some]
        have z1 := wz_u (v := .int (nI (d + num))) h.1 (k := 7) rfl (by decide) (by decide)
        have q1 := wq_z h z1 (fun k hk => by omega)
        have e7 : ax_i (ux_f f (n + 91) 7 (.int (nI (d + num)))) (n + 91) 7 = nI (d + num) := ix_f h.1.1 (by decide)
        have e8 : ax_i (ux_f f (n + 91) 7 (.int (nI (d + num)))) (n + 91) 8 = 0 := (ix_v (z1.2.2 8 (by decide))).trans h8
        have y1 : wz n wK f (ux_f f (n + 91) 7 (.int (nI (d + num)))) := z1.mo (fun k hk => Or.inl hk)
        by_cases c4 : b / 16 / 2 % 2 = 0
        · rw [if_pos ((wd_fl (b / 16) (by omega)).mpr c4), if_pos c4]
          exact ⟨_, _, rfl, y1, Or.inr (Or.inr ⟨two, d + num, rfl, rfl, e8, e7, by omega, by omega, by omega⟩)⟩
        · rw [if_neg (fun z => c4 ((wd_fl (b / 16) (by omega)).mp z)), if_neg c4, wy_i q1.1 rfl, e7, Option.bind_some]
          by_cases c5 : d + num = 4
          · rw [if_pos (by rw [c5]; rfl), if_pos c5, wy_is q1.1, Option.bind_some]
            obtain ⟨f2, p2, z2, a1, a2, a3⟩ := wv_find (two := two) q1 hok (by omega)
            rw [p2, Option.bind_some]
            exact ⟨_, _, rfl, y1.tr (z2.mo (fun k hk => Or.inr hk)), Or.inr (Or.inl ⟨two, 4, rfl, rfl, a1, a2, a3⟩)⟩
          · rw [if_neg (show ¬ nI (d + num) = 4 from fun z => c5 ((nI_eq (b := 4) (by omega) (by decide)).mp z)), if_neg c5]
            exact ⟨_, _, rfl, y1, Or.inl ⟨rfl, rfl, e8⟩⟩
theorem wk_27e (k : Nat) (f : pl_H) (a0 : Nat) (x2 x3 x4 : Int32) : fn_W_passFork_27 (k + 1) f a0 x2 x3 x4 = if x3 ≤ x4 then fn_W_passFork_50 f a0 x2 else if x2 = -1 then fn_W_passFork_50 f a0 x2 else (pl_is f a0 6).bind fun u2 => (fn_W_itemEnd f a0 x2).bind fun v1 => fn_W_passFork_27 k f a0 v1 x3 (x4 + 1) := rfl
theorem wk_27 {f : pl_H} {n p x w : Nat} {P : List (List Int32)} (h : wq f n P p x) (hok : pk_ok P) (hw : w < 16) : ∀ (r k t i : Nat), w - t = r → t ≤ w → r + 1 < k → i + 56 * r < 2 ^ 19 → fn_W_passFork_27 k f (n + 91) (nI i) (nI w) (nI t) = fn_W_passFork_50 f (n + 91) (oI (itn (pb P p) r i)) ∧ ∀ j, itn (pb P p) r i = some j → i ≤ j ∧ j ≤ i + 56 * r := by
  intro r
  induction r with
  | zero =>
    intro k t i hr ht hk hi
    obtain ⟨k, rfl⟩ : ∃ k', k = k' + 1 := ⟨k - 1, by omega⟩
    refine ⟨?_, fun j hj => by have := Option.some.inj hj; omega⟩
    rw [wk_27e, if_pos ((bs_le (by omega) (by omega)).mpr (by omega))]
    rfl
  | succ r ih =>
    intro k t i hr ht hk hi
    obtain ⟨k, rfl⟩ : ∃ k', k = k' + 1 := ⟨k - 1, by omega⟩
    have hne : nI i ≠ -1 := fun z => by
      have := nI_pos (n := i) (by omega)
      rw [z] at this
      exact absurd (by decide) this
    rw [wk_27e, if_neg (fun z => absurd ((bs_le (by omega) (by omega)).mp z) (by omega)), if_neg hne, wy_is h.1, Option.bind_some, wi_end h hok (by omega), Option.bind_some, nI_1]
    have eit : itn (pb P p) (r + 1) i = match ie (pb P p) i with
      | none => none
      | some j => itn (pb P p) r j := rfl
    rw [eit]
    cases e : ie (pb P p) i with
    | none =>
      obtain ⟨k, rfl⟩ : ∃ k', k = k' + 1 := ⟨k - 1, by omega⟩
      refine ⟨?_, fun j hj => by cases hj⟩
      rw [wk_27e, if_pos (show oI none = -1 from rfl)]
      show (if _ then _ else _) = _
      split <;> rfl
    | some j =>
      obtain ⟨j1, j2, -, -⟩ := ie_b (fun q => (pb_is hok p q).2) e
      obtain ⟨p1, q1⟩ := ih k (t + 1) j (by omega) (by omega) (by omega) (by omega)
      exact ⟨p1, fun j' hj' => by have := q1 j' hj'; omega⟩
theorem wp_fork {f : pl_H} {n p x i one d : Nat} {P : List (List Int32)} (h : wq f n P p x) (hok : pk_ok P) (hx : x < 65536) (hi : i < 1000) (h1 : i < one ∧ one ≤ i + 3) (h7 : ax_i f (n + 91) 7 = nI d) (hd : d ≤ 4) (h8 : ax_i f (n + 91) 8 = 0) : ∃ r f', fn_W_passFork f (n + 91) (nI one) = some (r, f') ∧ wz n wK f f' ∧ wo f' n (pb P p) i r (pnf (pb P p) x one d) := by
  unfold fn_W_passFork pnf
  rw [wy_i h.1 rfl, h7, Option.bind_some]
  by_cases c : d < 4
  · have hdl := dg_lt x d
    rw [if_pos (show nI d < 4 from (bs_lt (b := 4) (by omega) (by decide)).mpr c), if_pos c, wy_i h.1 rfl, h.2.2.2.1, Option.bind_some, Option.bind_some, dg_at f hx c, Option.bind_some]
    obtain ⟨p1, q1⟩ := wk_27 h hok hdl (dg x d) pl_N 0 one rfl (Nat.zero_le _) (by unfold pl_N; omega) (by omega)
    rw [show fn_W_passFork_27 pl_N f (n + 91) (nI one) (nI (dg x d)) 0 = _ from p1]
    unfold fn_W_passFork_50
    rw [wy_i h.1 rfl, h7, Option.bind_some, nI_1, wy_p h.1 (by decide), Option.bind_some]
    have z1 := wz_u (v := .int (nI (d + 1))) h.1 (k := 7) rfl (by decide) (by decide)
    have e7 : ax_i (ux_f f (n + 91) 7 (.int (nI (d + 1)))) (n + 91) 7 = nI (d + 1) := ix_f h.1.1 (by decide)
    have e8 : ax_i (ux_f f (n + 91) 7 (.int (nI (d + 1)))) (n + 91) 8 = 0 := (ix_v (z1.2.2 8 (by decide))).trans h8
    refine ⟨_, _, rfl, z1.mo (fun k hk => Or.inl hk), ?_⟩
    cases e : itn (pb P p) (dg x d) one with
    | none => exact Or.inl ⟨rfl, rfl, e8⟩
    | some it =>
      have := q1 it e
      exact Or.inr (Or.inr ⟨it, d + 1, rfl, rfl, e8, e7, by omega, by omega, by omega⟩)
  · rw [if_neg (show ¬ nI d < 4 from fun z => c ((bs_lt (b := 4) (by omega) (by decide)).mp z)), if_neg c]
    exact ⟨_, f, rfl, wz.rf h.1, Or.inl ⟨rfl, rfl, h8⟩⟩
theorem wp_node {f : pl_H} {n p x i d : Nat} {P : List (List Int32)} (h : wq f n P p x) (hok : pk_ok P) (hx : x < 65536) (hi : i < 1000) (h6 : ax_i f (n + 91) 6 = nI i) (h7 : ax_i f (n + 91) 7 = nI d) (hd : d ≤ 4) (h8 : ax_i f (n + 91) 8 = 0) : ∃ r f', fn_W_passNode f (n + 91) = some (r, f') ∧ wz n wK f f' ∧ wo f' n (pb P p) i r (pn (pb P p) x i d) := by
  unfold fn_W_passNode fn_W_passNode_19 fn_W_passNode_34 fn_W_passNode_65 pn
  rw [wy_is h.1, Option.bind_some, wf_first h hok (by omega) h6, Option.bind_some]
  have hno : oI none = -1 := rfl
  have hm : ∀ j, j < 2 ^ 31 → ¬ oI (some j) = -1 := fun j hj z => by
    have := (oI_ne (o := some j) (fun k hk => by have := Option.some.inj hk; omega)).mp z
    cases this
  have stop : ∃ r f', some ((-1 : Int32), f) = some (r, f') ∧ wz n wK f f' ∧ wo f' n (pb P p) i r none := ⟨-1, f, rfl, wz.rf h.1, Or.inl ⟨rfl, rfl, h8⟩⟩
  cases e1 : ni (pb P p) i with
  | none =>
    simp only [hno, if_true]
    exact stop
  | some one =>
    obtain ⟨o1, o2, -, -⟩ := ni_b e1
    rw [if_neg (hm one (by omega)), Option.bind_some, show oI (some one) = nI one from rfl, wi_end h hok (by omega), Option.bind_some]
    cases e2 : ie (pb P p) one with
    | none =>
      simp only [hno, if_true, e2]
      exact stop
    | some two =>
      obtain ⟨j1, j2, -, -⟩ := ie_b (fun q => (pb_is hok p q).2) e2
      rw [if_neg (hm two (by omega)), Option.bind_some, show oI (some two) = nI two from rfl, wi_end h hok (by omega), Option.bind_some]
      cases e3 : ie (pb P p) two with
      | none =>
        simp only [hno, if_true, e2, e3]
        exact stop
      | some e =>
        obtain ⟨k1, k2, -, -⟩ := ie_b (fun q => (pb_is hok p q).2) e3
        have hnb : nby (pb P p) i < 2 ^ 20 := by
          have b0 := (pb_is hok p i).2
          have b1 := (pb_is hok p (i + 1)).2
          have b2 := (pb_is hok p (i + 2)).2
          unfold nby
          split
          · omega
          · split <;> omega
        rw [if_neg (hm e (by omega)), Option.bind_some, wn_end h hok (by omega) h6 e1, Option.bind_some, show oI (some e) = nI e from rfl]
        simp only [e2, e3]
        by_cases c : e = one + nby (pb P p) i
        · rw [if_pos (by rw [c]), if_pos c, Option.bind_some]
          obtain ⟨r, f', p1, z1, w1⟩ := wp_dig h hok hx hi ⟨o1, o2⟩ e2 h7 hd h8
          rw [p1, Option.bind_some]
          exact ⟨r, f', rfl, z1, w1⟩
        · rw [if_neg (fun z => c ((nI_eq (by omega) (by omega)).mp z)), if_neg c, Option.bind_some]
          obtain ⟨r, f', p1, z1, w1⟩ := wp_fork h hok hx hi ⟨o1, o2⟩ h7 hd h8
          rw [p1, Option.bind_some]
          exact ⟨r, f', rfl, z1, w1⟩
theorem hs_3e (k : Nat) (f : pl_H) (a0 a1 : Nat) (x2 x3 x4 : Int32) : fn_H_standsIn_3 (k + 1) f a0 a1 x2 x3 x4 = if 32 ≤ x4 then pl_z 1 else if (x3 + x4) < 0 then fn_H_standsIn_42 (fn_H_standsIn_3 k) f a0 a1 x2 x3 x4 0 else if x2 ≤ (x3 + x4) then fn_H_standsIn_42 (fn_H_standsIn_3 k) f a0 a1 x2 x3 x4 0 else (pl_ln f a1).bind fun v1 => if v1 ≤ (x3 + x4) then fn_H_standsIn_42 (fn_H_standsIn_3 k) f a0 a1 x2 x3 x4 0 else (pl_aI f a1 (x3 + x4)).bind fun v2 => fn_H_standsIn_42 (fn_H_standsIn_3 k) f a0 a1 x2 x3 x4 v2 := rfl
theorem hs_in {f : pl_H} {a w t c a1 rl N hp len : Nat} {g R : Nat → Int32} (h : kh_L f a w t c) (hw : kk_is g len (ax_L f w)) (hs : ax_sh (f a1) = (2, 0, [N])) (hN : rl ≤ N) (hN' : N < 2 ^ 20) (hp' : hp < 2 ^ 20) (hR : ∀ k, k < 32 → R k = if hp + k < rl then ax_I f a1 (hp + k) else 0) : ∀ (r k i : Nat), 32 - i = r → i ≤ 32 → r < k → ∃ v, fn_H_standsIn_3 k f a a1 (nI rl) (nI hp) (nI i) = some v ∧ (v = 0 ↔ ¬ ∀ s, i ≤ s → s < 32 → kk_h g len s = R s) := by
  intro r
  induction r with
  | zero =>
    intro k i hr hi hk
    obtain ⟨k, rfl⟩ : ∃ k', k = k' + 1 := ⟨k - 1, by omega⟩
    refine ⟨1, ?_, ⟨fun z => absurd z (by decide), fun z => absurd (fun s h1 h2 => by omega) z⟩⟩
    rw [hs_3e, if_pos (show 32 ≤ nI i from (bs_le (a := 32) (by decide) (by omega)).mpr (by omega))]
    rfl
  | succ r ih =>
    intro k i hr hi hk
    obtain ⟨k, rfl⟩ : ∃ k', k = k' + 1 := ⟨k - 1, by omega⟩
    have key : ∃ v, fn_H_standsIn_42 (fn_H_standsIn_3 k) f a a1 (nI rl) (nI hp) (nI i) (R i) = some v ∧ (v = 0 ↔ ¬ ∀ s, i ≤ s → s < 32 → kk_h g len s = R s) := by
      unfold fn_H_standsIn_42
      rw [ax_is h.1, Option.bind_some, kh_byte h hw (by omega), Option.bind_some]
      by_cases e : kk_h g len i = R i
      · rw [if_pos e, nI_1]
        obtain ⟨v, p1, q1⟩ := ih k (i + 1) (by omega) (by omega) (by omega)
        refine ⟨v, p1, q1.trans ⟨fun z y => z (fun s h1 h2 => y s (by omega) h2), fun z y => z (fun s h1 h2 => ?_)⟩⟩
        rcases Nat.lt_or_ge i s with q | q
        · exact y s q h2
        · have : s = i := by omega
          subst this
          exact e
      · rw [if_neg e]
        exact ⟨0, rfl, ⟨fun _ y => e (y i (Nat.le_refl _) (by omega)), fun _ => rfl⟩⟩
    rw [hs_3e, if_neg (show ¬ 32 ≤ nI i from fun z => absurd ((bs_le (a := 32) (by decide) (by omega)).mp z) (by omega)), nI_add, if_neg (nI_pos (by omega))]
    have hRi := hR i (by omega)
    by_cases c : hp + i < rl
    · rw [if_neg (fun z => absurd ((bs_le (by omega) (by omega)).mp z) (by omega)), bs_ln hs (Or.inl rfl) (by decide), Option.bind_some, if_neg (fun z => absurd ((bs_le (by omega) (by omega)).mp z) (by omega)), bs_aI hs (by omega) (by omega), Option.bind_some]
      rw [if_pos c] at hRi
      rw [← hRi]
      exact key
    · rw [if_pos ((bs_le (by omega) (by omega)).mpr (by omega))]
      rw [if_neg c] at hRi
      rw [hRi] at key
      exact key
/-- the cells that a check of the class changes -/
def wS (n : Nat) : Nat → Prop := fun q => q = n + 6 ∨ q = n + 7 ∨ q = n + 8 ∨ q = n + 91
theorem pf_row {f : pl_H} {n p : Nat} (h : pf_L f n) (hp : p < 5) : fn_P_rowOf f (n + 83) (nI p) = some (n + 85 + p) := by
  unfold fn_P_rowOf fn_P_rowOf_21 fn_P_rowOf_22
  rw [pf_0 h, Option.bind_some, if_neg (nI_pos (by omega)), Option.bind_some, bs_ln h.2.2.2.1 (Or.inr (Or.inr rfl)) (by decide), Option.bind_some, if_neg (fun z => absurd ((bs_le (by omega) (by omega)).mp z) (by omega)), bs_aQ h.2.2.2.1 hp (by decide), Option.bind_some, h.2.2.2.2.1 p hp, Option.bind_some]
theorem wr_r {f : pl_H} {n k : Nat} (h : wy_L f n) (hk : k < 11) (x : Nat) : ax_r (ux_f f (n + 91) k (.ref x)) (n + 91) k = some x := by
  unfold ax_r
  rw [rx_v_f h.1 hk]
theorem we_enter {f : pl_H} {n p a2 rl N hp : Nat} {P : List (List Int32)} {R : Nat → Int32} (hy : wy_L f n) (hP : pf_R f n P) (hk : kh_L f (n + 5) (n + 6) (n + 7) (n + 8)) (hs : ax_sh (f a2) = (2, 0, [N])) (hrl : rl ≤ N) (hN : N < 2 ^ 20) (hhp : hp < 2 ^ 20) (ha2 : ¬ wS n a2) (hR : ∀ k, k < 32 → R k = if hp + k < rl then ax_I f a2 (hp + k) else 0) (hp6 : p < 6) : ∃ r f', fn_W_enterPart f (n + 91) (nI p) a2 (nI rl) (nI hp) = some (r, f') ∧ wy_L f' n ∧ kh_L f' (n + 5) (n + 6) (n + 7) (n + 8) ∧ bs_kp (wS n) f f' ∧ (∀ k, k ≠ 3 → k ≠ 4 → k ≠ 5 → k ≠ 6 → ax_v f' (n + 91) k = ax_v f (n + 91) k) ∧ ((r = 0 ∧ ¬ (p < P.length ∧ ∀ k, k < 32 → phx P p k = R k)) ∨ (r = 1 ∧ (p < P.length ∧ ∀ k, k < 32 → phx P p k = R k) ∧ ax_i f' (n + 91) 3 = nI p ∧ ax_r f' (n + 91) 4 = some (n + 85 + p) ∧ ax_i f' (n + 91) 5 = nI (P.getD p []).length ∧ ax_i f' (n + 91) 6 = nI 0)) := by
  have h5 := hP.2.2.1
  unfold fn_W_enterPart
  rw [wy_0 hy, Option.bind_some, ax_is hP.1.1, Option.bind_some]
  rcases Nat.lt_or_ge p P.length with z | z
  · have eL := gd_lt (z := ([] : List Int32)) z
    have hl := (hP.2.2.2 p _ eL)
    have hsh := hP.1.2.2.2.2.2.1 p (by omega)
    obtain ⟨f1, p1, k1, b1, w1⟩ := kh_hash' (a1 := n + 85 + p) (rl := 404) (begin := 0) (len := (P.getD p []).length) (g := fun j => (P.getD p []).getD j 0) (by omega) (by decide) (by decide) hk hsh (fun i hi => by
      unfold kk_row
      rw [if_pos (by omega), Nat.zero_add]
      exact hl.2.2 i _ (gd_lt hi))
    have c1 : bs_kp (wS n) f f1 := b1.mono (fun q hq => by unfold kh_S at hq; unfold wS; omega)
    have e91 : f1 (n + 91) = f (n + 91) := b1 _ (by unfold kh_S; omega)
    have y1 : wy_L f1 n := by
      unfold wy_L ax_r ax_v
      rw [e91]
      exact hy
    have P1 : pf_R f1 n P := pf_R_kp hP b1 (fun q _ _ => by unfold kh_S; omega)
    have ea2 : f1 a2 = f a2 := c1 a2 ha2
    obtain ⟨v, pv, qv⟩ := hs_in (rl := rl) (hp := hp) (R := R) k1 w1 (by rw [ea2]; exact hs) hrl hN hhp (fun k hk => by unfold ax_I; rw [ea2]; exact hR k hk) 32 pl_N 0 rfl (by decide) (by decide)
    have qv' : v = 0 ↔ ¬ ∀ k, k < 32 → phx P p k = R k := qv.trans ⟨fun z y => z (fun s _ h2 => y s h2), fun z y => z (fun s h2 => y s (Nat.zero_le _) h2)⟩
    rw [pf_hp_y hP z, Option.bind_some, if_neg (by decide), wy_1 hy, Option.bind_some, Option.bind_some, ax_is hP.1.1, Option.bind_some, pf_row hP.1 (by omega), Option.bind_some, Option.bind_some, ax_is hP.1.1, Option.bind_some, pf_lo hP eL, Option.bind_some, ax_is hk.1, Option.bind_some]
    rw [show fn_H_hash f (n + 5) (n + 85 + p) 0 (nI (P.getD p []).length) = some f1 from p1, Option.bind_some, wy_1 y1, Option.bind_some, ax_is k1.1, Option.bind_some]
    unfold fn_H_standsIn
    rw [show fn_H_standsIn_3 pl_N f1 (n + 5) a2 (nI rl) (nI hp) 0 = some v from pv, Option.bind_some]
    by_cases c : v = 0
    · rw [if_pos c]
      exact ⟨0, f1, rfl, y1, k1, c1, fun k _ _ _ _ => by unfold ax_v; rw [e91], Or.inl ⟨rfl, fun q => qv'.mp c q.2⟩⟩
    · have hall : ∀ k, k < 32 → phx P p k = R k := Classical.byContradiction fun q => c (qv'.mpr q)
      rw [if_neg c, wy_p y1 (by decide), Option.bind_some]
      have z2 := wz_u (v := .int (nI p)) y1 (k := 3) rfl (by decide) (by decide)
      have P2 : pf_R (ux_f f1 (n + 91) 3 (.int (nI p))) n P := pf_R_kp P1 z2.2.1 (fun q _ _ e => by omega)
      rw [wy_0 z2.1, Option.bind_some, ax_is P2.1.1, Option.bind_some, pf_row P2.1 (by omega), Option.bind_some, wy_p z2.1 (by decide), Option.bind_some]
      have z3 := wz_u (v := .ref (n + 85 + p)) z2.1 (k := 4) rfl (by decide) (by decide)
      have P3 := pf_R_kp P2 z3.2.1 (fun q _ _ e => by omega)
      rw [wy_0 z3.1, Option.bind_some, ax_is P3.1.1, Option.bind_some, pf_lo P3 eL, Option.bind_some, wy_p z3.1 (by decide), Option.bind_some]
      have z4 := wz_u (v := .int (nI (P.getD p []).length)) z3.1 (k := 5) rfl (by decide) (by decide)
      rw [wy_p z4.1 (by decide), Option.bind_some]
      have z5 := wz_u (v := .int 0) z4.1 (k := 6) rfl (by decide) (by decide)
      have Z := ((z2.2.1.tr z3.2.1).tr z4.2.1).tr z5.2.1
      refine ⟨1, _, rfl, z5.1, ?_, c1.tr (Z.mono (fun q hq => by unfold wS; omega)), fun k h3 h4 h5 h6 => ?_, Or.inr ⟨rfl, ⟨z, hall⟩, ?_, ?_, ?_, ?_⟩⟩
      · have e5 := Z (n + 5) (by omega)
        have e6 := Z (n + 6) (by omega)
        have e7 := Z (n + 7) (by omega)
        have e8 := Z (n + 8) (by omega)
        unfold kh_L ax_r ax_v at k1 ⊢
        rw [e5, e6, e7, e8]
        exact k1
      · rw [z5.2.2 k h6, z4.2.2 k h5, z3.2.2 k h4, z2.2.2 k h3]
        unfold ax_v
        rw [e91]
      · rw [ix_v (z5.2.2 3 (by decide)), ix_v (z4.2.2 3 (by decide)), ix_v (z3.2.2 3 (by decide)), ix_f y1.1 (by decide)]
      · rw [ar_v (z5.2.2 4 (by decide)), ar_v (z4.2.2 4 (by decide)), wr_r z2.1 (by decide)]
      · rw [ix_v (z5.2.2 5 (by decide)), ix_f z3.1.1 (by decide)]
      · exact ix_f z4.1.1 (by decide)
  · rw [pf_hp_n hP (Or.inr ⟨nI_pos (by omega), (bs_le (by omega) (by omega)).mpr z⟩), Option.bind_some, if_pos rfl]
    exact ⟨0, f, rfl, hy, hk, bs_kp.rf, fun _ _ _ _ _ => rfl, Or.inl ⟨rfl, fun q => by omega⟩⟩
