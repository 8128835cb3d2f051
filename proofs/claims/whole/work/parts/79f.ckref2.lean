/-! check: the reference's answer. -/
def rS (a : Nat) : Nat → Prop := fun q => q = a + 9 ∨ mo_H a q
theorem rS_n {a q : Nat} (h : a < q) (h2 : q ≤ a + 8 ∨ q = a + 10 ∨ q = a + 11 ∨ q = a + 12 ∨ q = a + 13 ∨ q = a + 17 ∨ q = a + 18 ∨ a + 21 ≤ q) : ¬ rS a q := fun z => by
  unfold rS mo_H at z
  omega
theorem hp_12e (k : Nat) (f : pl_H) (a0 : Nat) (x1 x2 : Int32) : fn_M_hashPart_12 (k + 1) f a0 x1 x2 = (pl_gI f a0 8 12).bind fun v1 => if v1 ≤ x2 then (pl_is f a0 8).bind fun u3 => (fn_M_hashCodeNow f a0).bind fun q2 => some q2 else (pl_gR f a0 8 13).bind fun v4 => (pl_gR f a0 8 18).bind fun v5 => (pl_aI f v5 ((600 * x1) + x2)).bind fun v6 => (pl_sI f v4 x2 v6).bind fun f7 => fn_M_hashPart_12 k f7 a0 x1 (x2 + 1) := rfl
theorem hp_12 {a q : Nat} {P : List (List Int32)} (hq : q < P.length) : ∀ (r k i : Nat) (f : pl_H), (P.getD q []).length - i = r → i ≤ (P.getD q []).length → r < k → rq f a P q → mo_T f a → ax_i f a 12 = nI (P.getD q []).length → (∀ j, j < i → ax_I f (a + 9) j = (P.getD q []).getD j 0) → ∃ f', fn_M_hashPart_12 k f a (nI q) (nI i) = some f' ∧ (∀ k, k < 32 → ax_I f' (a + 20) k = phx P q k) ∧ mz a (rS a) (fun _ => False) f f' ∧ mo_T f' a := by
  intro r
  induction r with
  | zero =>
    intro k i f hr hi hk h hT hc hb
    obtain ⟨hl, hp5⟩ := rq_len h
    obtain ⟨k, rfl⟩ : ∃ k', k = k' + 1 := ⟨k - 1, by omega⟩
    obtain ⟨f', p1, M1, T1, k1, q1⟩ := mm_hash' (g := fun j => (P.getD q []).getD j 0) (show (P.getD q []).length < 544 by omega) h.1 hT hc (fun j hj => hb j (by omega))
    refine ⟨f', ?_, q1, (mz_H M1 k1).mo (fun q hq => Or.inr hq) (fun _ h => h), T1⟩
    rw [hp_12e, mo_codeLength h.1, hc, Option.bind_some, if_pos ((bs_le (by omega) (by omega)).mpr (by omega)), ax_is h.1.1, Option.bind_some, p1, Option.bind_some]
  | succ r ih =>
    intro k i f hr hi hk h hT hc hb
    obtain ⟨hl, hp5⟩ := rq_len h
    obtain ⟨k, rfl⟩ : ∃ k', k = k' + 1 := ⟨k - 1, by omega⟩
    have hlt : i < (P.getD q []).length := by omega
    have hv := (h.2.1.2.2 q _ (gd_lt (z := ([] : List Int32)) hq)).2.2 i _ (gd_lt (z := (0 : Int32)) hlt)
    have z1 := mz_I (K := fun _ => False) h.1 (show a + 9 ≠ a by omega) i ((P.getD q []).getD i 0)
    have T1 := mz_T hT z1 (by omega) (by omega)
    obtain ⟨f', p', q', z', T'⟩ := ih k (i + 1) (ux_I f (a + 9) i ((P.getD q []).getD i 0)) (by omega) (by omega) (by omega) ⟨z1.1, mp_z h.2.1 z1 (fun z => z) (by omega) (by omega), hq⟩ T1 (by rw [ix_I]; exact hc) (fun j hj => by
      rw [rx_I (mo_code_s h.1), bs_vI]
      by_cases e : j = i
      · rw [if_pos e, e]
      · rw [if_neg e]
        exact hb j (by omega))
    refine ⟨f', ?_, q', (z1.mo (fun q hq => Or.inl hq) (fun _ h => h)).tr z', T'⟩
    rw [hp_12e, mo_codeLength h.1, hc, Option.bind_some, if_neg (fun z => absurd ((bs_le (by omega) (by omega)).mp z) (by omega)), mo_code h.1, Option.bind_some, mo_part h.1, Option.bind_some, mp_ix, mo_part_g h.1 (by omega), hv, Option.bind_some, mo_code_w h.1 (by omega), Option.bind_some, nI_1]
    exact p'
theorem hp_part {f : pl_H} {a q : Nat} {P : List (List Int32)} (h : rq f a P q) (hT : mo_T f a) : ∃ f', fn_M_hashPart f a (nI q) = some f' ∧ (∀ k, k < 32 → ax_I f' (a + 20) k = phx P q k) ∧ mz a (rS a) (fun k => k = 12) f f' ∧ mo_T f' a := by
  obtain ⟨hl, hp5⟩ := rq_len h
  have hL := (h.2.1.2.2 q _ (gd_lt (z := ([] : List Int32)) h.2.2)).2.1
  have z1 := mz_f (S := rS a) h.1 (k := 12) rfl (nI (P.getD q []).length)
  have T1 := mz_T hT z1 (rS_n (by omega) (by omega)) (rS_n (by omega) (by omega))
  obtain ⟨f', p', q', z', T'⟩ := hp_12 h.2.2 (P.getD q []).length pl_N 0 (ux_f f a 12 (.int (nI (P.getD q []).length))) rfl (Nat.zero_le _) (by unfold pl_N; omega) ⟨z1.1, mp_z h.2.1 z1 (by decide) (rS_n (by omega) (by omega)) (rS_n (by omega) (by omega)), h.2.2⟩ T1 (ix_f h.1.1 (by decide)) (fun j hj => absurd hj (by omega))
  refine ⟨f', ?_, q', z1.tr (z'.mo (fun _ h => h) (fun k hk => hk.elim)), T'⟩
  unfold fn_M_hashPart
  rw [mo_partLength h.1, Option.bind_some, mo_partLength_g h.1 hp5, hL, Option.bind_some, mo_codeLength_p h.1, Option.bind_some]
  exact p'
theorem mo_wrong_z {f : pl_H} {a : Nat} (h : mo_L f a) (x : Int32) (hx : x = 0 ∨ x = 1) : pl_pZ f a 8 32 x = some (ux_f f a 32 (.int x)) := by
  rcases hx with rfl | rfl
  · exact mo_wrong_p h 0
  · exact mo_wrong_p h 1
theorem rg_77e (k : Nat) (f : pl_H) (a0 : Nat) (x1 x2 x4 : Int32) : fn_M_goOn_77 (k + 1) f a0 x1 x2 x4 = if 32 ≤ x4 then (pl_pV f a0 8 29 (.int (x2 + 1))).bind fun f1 => (pl_pV f1 a0 8 30 (.int 0)).bind fun f2 => some f2 else (pl_gI f a0 8 32).bind fun v3 => if v3 = 0 then (pl_gR f a0 8 27).bind fun v4 => (pl_aI f v4 x4).bind fun v5 => (pl_is f a0 8).bind fun u7 => (fn_M_byteOf f a0 x2 ((x1 + 1) + x4)).bind fun v6 => if v5 = v6 then fn_M_goOn_118 (fn_M_goOn_77 k) f a0 x1 x2 x4 0 a0 else fn_M_goOn_118 (fn_M_goOn_77 k) f a0 x1 x2 x4 1 a0 else fn_M_goOn_118 (fn_M_goOn_77 k) f a0 x1 x2 x4 1 a0 := rfl
theorem rg_77 {a p it : Nat} {P : List (List Int32)} {g : Nat → Int32} (hok : pk_ok P) (hit : it < 2 ^ 20) : ∀ (r k j : Nat) (f : pl_H), 32 - j = r → j ≤ 32 → r < k → rq f a P p → (∀ s, s < 32 → ax_I f (a + 20) s = g s) → (ax_i f a 32 = 0 ↔ ∀ s, s < j → g s = nI (pb P p (it + 1 + s))) → ∃ f', fn_M_goOn_77 k f a (nI it) (nI p) (nI j) = some f' ∧ ax_i f' a 29 = nI (p + 1) ∧ ax_i f' a 30 = nI 0 ∧ (ax_i f' a 32 = 0 ↔ ∀ s, s < 32 → g s = nI (pb P p (it + 1 + s))) ∧ mz a (rS a) (fun k => k = 29 ∨ k = 30 ∨ k = 32) f f' := by
  intro r
  induction r with
  | zero =>
    intro k j f hr hj hk h hh hw
    obtain ⟨k, rfl⟩ : ∃ k', k = k' + 1 := ⟨k - 1, by omega⟩
    have e : j = 32 := by omega
    subst e
    have z1 := mz_f (S := rS a) h.1 (k := 29) rfl (nI (p + 1))
    have z2 := mz_f (S := rS a) z1.1 (k := 30) rfl 0
    refine ⟨ux_f (ux_f f a 29 (.int (nI (p + 1)))) a 30 (.int 0), ?_, ?_, ix_f z1.1.1 (by decide), ?_, (z1.mo (fun _ h => h) (fun k hk => Or.inl hk)).tr (z2.mo (fun _ h => h) (fun k hk => Or.inr (Or.inl hk)))⟩
    · rw [rg_77e, if_pos (by decide), nI_1, mo_wayPart_p h.1, Option.bind_some, mo_wayPlace_p z1.1, Option.bind_some]
    · rw [z2.i (by decide), ix_f h.1.1 (by decide)]
    · rw [z2.i (by decide), z1.i (by decide)]
      exact hw
  | succ r ih =>
    intro k j f hr hj hk h hh hw
    obtain ⟨k, rfl⟩ : ∃ k', k = k' + 1 := ⟨k - 1, by omega⟩
    have hbb := (pb_is hok p (it + 1 + j)).2
    have key : ∀ b : Int32, (b = 0 ∨ b = 1) → (b = 0 ↔ ∀ s, s < j + 1 → g s = nI (pb P p (it + 1 + s))) → ∃ f', fn_M_goOn_118 (fn_M_goOn_77 k) f a (nI it) (nI p) (nI j) b a = some f' ∧ ax_i f' a 29 = nI (p + 1) ∧ ax_i f' a 30 = nI 0 ∧ (ax_i f' a 32 = 0 ↔ ∀ s, s < 32 → g s = nI (pb P p (it + 1 + s))) ∧ mz a (rS a) (fun k => k = 29 ∨ k = 30 ∨ k = 32) f f' := by
      intro b hb hb2
      have z1 := mz_f (S := rS a) h.1 (k := 32) rfl b
      obtain ⟨f', p', a1, a2, a3, a4⟩ := ih k (j + 1) (ux_f f a 32 (.int b)) (by omega) (by omega) (by omega) ⟨z1.1, mp_z h.2.1 z1 (by decide) (rS_n (by omega) (by omega)) (rS_n (by omega) (by omega)), h.2.2⟩ (fun s hs => by rw [rx_I_f]; exact hh s hs) (by rw [ix_f h.1.1 (by decide)]; exact hb2)
      refine ⟨f', ?_, a1, a2, a3, (z1.mo (fun _ h => h) (fun k hk => Or.inr (Or.inr hk))).tr a4⟩
      unfold fn_M_goOn_118
      rw [mo_wrong_z h.1 b hb, Option.bind_some, nI_1]
      exact p'
    rw [rg_77e, if_neg (show ¬ 32 ≤ nI j from fun z => absurd ((bs_le (a := 32) (by decide) (by omega)).mp z) (by omega)), mo_wrong h.1, Option.bind_some]
    by_cases c : ax_i f a 32 = 0
    · have hall := hw.mp c
      rw [if_pos c, mo_hash h.1, Option.bind_some, mo_hash_g h.1 (by omega), hh j (by omega), Option.bind_some, ax_is h.1.1, Option.bind_some, nI_1, nI_add, rb_at h hok (by omega), Option.bind_some]
      by_cases e : g j = nI (pb P p (it + 1 + j))
      · rw [if_pos e]
        refine key 0 (Or.inl rfl) ⟨fun _ s hs => ?_, fun _ => rfl⟩
        rcases Nat.lt_or_ge s j with y | y
        · exact hall s y
        · have : s = j := by omega
          subst this
          exact e
      · rw [if_neg e]
        exact key 1 (Or.inr rfl) ⟨fun z => absurd z (by decide), fun z => absurd (z j (by omega)) e⟩
    · rw [if_neg c]
      exact key 1 (Or.inr rfl) ⟨fun z => absurd z (by decide), fun z => absurd (hw.mpr (fun s hs => z s (by omega))) c⟩
def rgK : Nat → Prop := fun k => k = 12 ∨ k = 29 ∨ k = 30 ∨ k = 32
/-- what goOn leaves -/
def rgo (f' : pl_H) (a : Nat) (P : List (List Int32)) (p it : Nat) : Prop := if pb P p it = 160 then ((p + 1 < P.length ∧ ∀ k, k < 32 → phx P (p + 1) k = nI (pb P p (it + 1 + k))) ∧ ax_i f' a 29 = nI (p + 1) ∧ ax_i f' a 30 = nI 0 ∧ ax_i f' a 32 = 0) ∨ (¬ (p + 1 < P.length ∧ ∀ k, k < 32 → phx P (p + 1) k = nI (pb P p (it + 1 + k))) ∧ ax_i f' a 32 ≠ 0) else ax_i f' a 29 = nI p ∧ ax_i f' a 32 = 0 ∧ ax_i f' a 30 = if 192 ≤ pb P p it then nI it else -1
theorem rg_on {f : pl_H} {a p it : Nat} {P : List (List Int32)} (h : rq f a P p) (hT : mo_T f a) (hok : pk_ok P) (hit : it < 2 ^ 19) (h29 : ax_i f a 29 = nI p) (h32 : ax_i f a 32 = 0) : ∃ f', fn_M_goOn f a (nI it) = some f' ∧ rgo f' a P p it ∧ mz a (rS a) rgK f f' ∧ mo_T f' a := by
  have hb := (pb_is hok p it).2
  have h5 := h.2.1.2.1
  have hp5 := (rq_len h).2
  have z1 := mz_f (S := rS a) h.1 (k := 30) rfl (-1)
  have y1 : mz a (rS a) rgK f (ux_f f a 30 (.int (-1))) := z1.mo (fun _ h => h) (fun k hk => Or.inr (Or.inr (Or.inl hk)))
  have q1 : rq (ux_f f a 30 (.int (-1))) a P p := ⟨z1.1, mp_z h.2.1 z1 (by decide) (rS_n (by omega) (by omega)) (rS_n (by omega) (by omega)), h.2.2⟩
  have T1 := mz_T hT z1 (rS_n (by omega) (by omega)) (rS_n (by omega) (by omega))
  have e30 : ax_i (ux_f f a 30 (.int (-1))) a 30 = -1 := ix_f h.1.1 (by decide)
  have e29 : ax_i (ux_f f a 30 (.int (-1))) a 29 = nI p := (z1.i (by decide)).trans h29
  have e32 : ax_i (ux_f f a 30 (.int (-1))) a 32 = 0 := (z1.i (by decide)).trans h32
  unfold fn_M_goOn fn_M_goOn_34 fn_M_goOn_139 rgo
  rw [mo_wayPart h.1, h29, Option.bind_some, mo_wayPlace_p h.1, Option.bind_some, if_pos (nI_pos' (by omega)), ax_is q1.1.1, Option.bind_some, rb_at q1 hok (by omega), Option.bind_some]
  by_cases c1 : pb P p it = 160
  · simp only [if_pos c1]
    rw [if_pos (show nI (pb P p it) < 192 by rw [c1]; decide), if_pos (show nI (pb P p it) = 160 by rw [c1]; rfl), mo_parts q1.1, q1.2.1.1, Option.bind_some, nI_1]
    by_cases c2 : p + 1 < P.length
    · rw [if_pos ((bs_lt (by omega) (by omega)).mpr c2)]
      unfold fn_M_goOn_57
      have z2 := mz_f (S := rS a) q1.1 (k := 32) rfl 0
      have q2 : rq (ux_f (ux_f f a 30 (.int (-1))) a 32 (.int 0)) a P (p + 1) := ⟨z2.1, mp_z q1.2.1 z2 (by decide) (rS_n (by omega) (by omega)) (rS_n (by omega) (by omega)), c2⟩
      have T2 := mz_T T1 z2 (rS_n (by omega) (by omega)) (rS_n (by omega) (by omega))
      have i2 : ax_i (ux_f (ux_f f a 30 (.int (-1))) a 32 (.int 0)) a 32 = 0 := ix_f q1.1.1 (by decide)
      rw [mo_wrong_z q1.1 0 (Or.inl rfl), Option.bind_some, mo_wrong z2.1, i2, Option.bind_some, if_pos rfl, ax_is z2.1.1, Option.bind_some]
      obtain ⟨f3, p3, g3, z3, T3⟩ := hp_part q2 T2
      have q3 : rq f3 a P p := ⟨z3.1, mp_z q2.2.1 z3 (by decide) (rS_n (by omega) (by omega)) (rS_n (by omega) (by omega)), h.2.2⟩
      obtain ⟨f4, p4, a1, a2, a3, z4⟩ := rg_77 (g := phx P (p + 1)) hok (show it < 2 ^ 20 by omega) 32 pl_N 0 f3 rfl (by decide) (by decide) q3 g3 (by rw [z3.i (by decide)]; exact ⟨fun _ s hs => absurd hs (by omega), fun _ => i2⟩)
      rw [nI_1, p3, Option.bind_some]
      refine ⟨f4, p4, ?_, ((y1.tr (z2.mo (fun _ h => h) (fun k hk => Or.inr (Or.inr (Or.inr hk))))).tr (z3.mo (fun _ h => h) (fun k hk => Or.inl hk))).tr (z4.mo (fun _ h => h) (fun k hk => Or.inr hk)), mz_T T3 z4 (rS_n (by omega) (by omega)) (rS_n (by omega) (by omega))⟩
      by_cases c3 : ∀ k, k < 32 → phx P (p + 1) k = nI (pb P p (it + 1 + k))
      · exact Or.inl ⟨⟨c2, c3⟩, a1, a2, a3.mpr c3⟩
      · exact Or.inr ⟨fun z => c3 z.2, fun z => c3 (a3.mp z)⟩
    · rw [if_neg (fun z => c2 ((bs_lt (by omega) (by omega)).mp z))]
      unfold fn_M_goOn_57
      have z2 := mz_f (S := rS a) q1.1 (k := 32) rfl 1
      have i2 : ax_i (ux_f (ux_f f a 30 (.int (-1))) a 32 (.int 1)) a 32 = 1 := ix_f q1.1.1 (by decide)
      rw [mo_wrong_z q1.1 1 (Or.inr rfl), Option.bind_some, mo_wrong z2.1, i2, Option.bind_some, if_neg (by decide)]
      exact ⟨_, rfl, Or.inr ⟨fun z => c2 z.1, by rw [i2]; decide⟩, y1.tr (z2.mo (fun _ h => h) (fun k hk => Or.inr (Or.inr (Or.inr hk)))), mz_T T1 z2 (rS_n (by omega) (by omega)) (rS_n (by omega) (by omega))⟩
  · simp only [if_neg c1]
    have hne : ¬ nI (pb P p it) = 160 := fun z => c1 ((nI_eq (b := 160) (by omega) (by decide)).mp z)
    by_cases c2 : pb P p it < 192
    · rw [if_pos (show nI (pb P p it) < 192 from (bs_lt (b := 192) (by omega) (by decide)).mpr c2), if_neg hne]
      exact ⟨_, rfl, ⟨e29, e32, by rw [if_neg (by omega)]; exact e30⟩, y1, T1⟩
    · rw [if_neg (show ¬ nI (pb P p it) < 192 from fun z => c2 ((bs_lt (b := 192) (by omega) (by decide)).mp z)), mo_wayPlace_p q1.1, Option.bind_some, if_neg hne]
      have z2 := mz_f (S := rS a) q1.1 (k := 30) rfl (nI it)
      exact ⟨_, rfl, ⟨(z2.i (by decide)).trans e29, (z2.i (by decide)).trans e32, by rw [if_pos (by omega)]; exact ix_f q1.1.1 (by decide)⟩, y1.tr (z2.mo (fun _ h => h) (fun k hk => Or.inr (Or.inr (Or.inl hk)))), mz_T T1 z2 (rS_n (by omega) (by omega)) (rS_n (by omega) (by omega))⟩
def rpK : Nat → Prop := fun k => k = 12 ∨ (29 ≤ k ∧ k ≤ 33)
/-- what passing a node leaves -/
def ro (f' : pl_H) (a : Nat) (P : List (List Int32)) (p i : Nat) (o : Option (Bool × Nat × Nat)) : Prop := (o = none ∧ ax_i f' a 29 = nI p ∧ ax_i f' a 30 = -1 ∧ ax_i f' a 32 = 0 ∧ ax_i f' a 33 = -1) ∨ (∃ two d', o = some (true, two, d') ∧ two ≤ i + 1000 ∧ ax_i f' a 29 = nI p ∧ ax_i f' a 30 = -1 ∧ ax_i f' a 32 = 0 ∧ ax_i f' a 33 = nI two) ∨ ∃ it d', o = some (false, it, d') ∧ ax_i f' a 31 = nI d' ∧ d' ≤ 4 ∧ ax_i f' a 33 = -1 ∧ i < it ∧ it ≤ i + 1000 ∧ rgo f' a P p it
theorem rp_182e (k : Nat) (f : pl_H) (a0 : Nat) (x2 x7 x8 : Int32) : fn_M_passNode_182 (k + 1) f a0 x2 x7 x8 = if x8 ≤ 0 then fn_M_passNode_207 f a0 x7 else if x7 < 0 then fn_M_passNode_207 f a0 x7 else (pl_is f a0 8).bind fun u2 => (fn_M_itemEnd f a0 x2 x7).bind fun v1 => fn_M_passNode_182 k f a0 x2 v1 (x8 + (-1)) := rfl
theorem rp_182 {f : pl_H} {a p : Nat} {P : List (List Int32)} (h : rq f a P p) (hok : pk_ok P) : ∀ (r k i : Nat), r < 16 → r + 1 < k → i + 56 * r < 2 ^ 19 → fn_M_passNode_182 k f a (nI p) (nI i) (nI r) = fn_M_passNode_207 f a (oI (itn (pb P p) r i)) ∧ ∀ j, itn (pb P p) r i = some j → i ≤ j ∧ j ≤ i + 56 * r := by
  intro r
  induction r with
  | zero =>
    intro k i hr hk hi
    obtain ⟨k, rfl⟩ : ∃ k', k = k' + 1 := ⟨k - 1, by omega⟩
    refine ⟨?_, fun j hj => by have := Option.some.inj hj; omega⟩
    rw [rp_182e, if_pos (by decide)]
    rfl
  | succ r ih =>
    intro k i hr hk hi
    obtain ⟨k, rfl⟩ : ∃ k', k = k' + 1 := ⟨k - 1, by omega⟩
    rw [rp_182e, if_neg (nI_nle (by omega) (by omega)), if_neg (nI_pos (by omega)), ax_is h.1.1, Option.bind_some, ri_end h hok (by omega), Option.bind_some, show nI (r + 1) + (-1) = nI r by rw [← Int32.sub_eq_add_neg, nI_pred]]
    have eit : itn (pb P p) (r + 1) i = match ie (pb P p) i with
      | none => none
      | some j => itn (pb P p) r j := rfl
    rw [eit]
    cases e : ie (pb P p) i with
    | none =>
      obtain ⟨k, rfl⟩ : ∃ k', k = k' + 1 := ⟨k - 1, by omega⟩
      refine ⟨?_, fun j hj => by cases hj⟩
      rw [rp_182e, if_pos (show oI none < 0 by decide)]
      show (if _ then _ else _) = _
      split <;> rfl
    | some j =>
      obtain ⟨j1, j2, -, -⟩ := ie_b (fun q => (pb_is hok p q).2) e
      obtain ⟨p1, q1⟩ := ih k j (by omega) (by omega) (by omega)
      exact ⟨p1, fun j' hj' => by have := q1 j' hj'; omega⟩
theorem rd_fl : ∀ b, b < 16 → (((nI b / 2) - (nI b / 2) / 2 * 2 = 0) ↔ b / 2 % 2 = 0) := by decide +kernel
theorem rp_dig {f1 : pl_H} {a p x i one two d : Nat} {P : List (List Int32)} (q1 : rq f1 a P p) (T1 : mo_T f1 a) (hok : pk_ok P) (hx : x < 65536) (hi : i < 1000) (h1 : i < one ∧ one ≤ i + 3) (e2 : ie (pb P p) one = some two) (hd : d ≤ 4) (e29 : ax_i f1 a 29 = nI p) (e30 : ax_i f1 a 30 = -1) (e31 : ax_i f1 a 31 = nI d) (e32 : ax_i f1 a 32 = 0) (e33 : ax_i f1 a 33 = -1) : ∃ f', ((pl_gI f1 a 8 31).bind fun v7 => (pl_is f1 a 8).bind fun u9 => (fn_M_digitsOf f1 a (nI p) (nI one) (nI x) v7).bind fun v8 => if 0 ≤ v8 then (pl_gI f1 a 8 31).bind fun v10 => (pl_pV f1 a 8 31 (.int (v10 + v8))).bind fun f11 => (pl_is f11 a 8).bind fun u13 => (fn_M_itemBytes f11 a (nI p) (nI one)).bind fun v12 => (pl_is f11 a 8).bind fun u15 => (fn_M_half f11 a (nI p) v12 0).bind fun v14 => if ((v14 / 2) - (v14 / 2) / 2 * 2) = 0 then (pl_is f11 a 8).bind fun u18 => (fn_M_goOn f11 a (nI two)).bind fun q17 => fn_M_passNode_157 q17 else (pl_gI f11 a 8 31).bind fun v16 => if v16 = 4 then fn_M_passNode_154 f11 (nI two) a else fn_M_passNode_154 f11 (-1) a else some f1) = some f' ∧ ro f' a P p i (pnd (pb P p) x one two d) ∧ mz a (rS a) rpK f1 f' ∧ mo_T f' a := by
  obtain ⟨j1, j2, j3, j4⟩ := ie_b (fun q => (pb_is hok p q).2) e2
  rw [mo_wayDepth q1.1, e31, Option.bind_some, ax_is q1.1.1, Option.bind_some]
  obtain ⟨v, pv, qv⟩ := rd_dig q1 hok hx (by omega) e2 hd
  rw [pv, Option.bind_some]
  rcases qv with ⟨rfl, qv⟩ | ⟨rfl, qd, qv⟩
  · rw [if_neg (by decide), qv]
    exact ⟨f1, rfl, Or.inl ⟨rfl, e29, e30, e32, e33⟩, mz.rf q1.1, T1⟩
  · have hb := (pb_is hok p (ib (pb P p) one)).2
    rw [qv]
    generalize hnum : 2 * (two - ib (pb P p) one) - 2 + pb P p (ib (pb P p) one) / 16 % 2 = num at qd
    rw [if_pos (nI_pos' (by omega)), Option.bind_some, nI_add, mo_wayDepth_p q1.1, Option.bind_some]
    have z2 := mz_f (S := rS a) q1.1 (k := 31) rfl (nI (d + num))
    have y2 : mz a (rS a) rpK f1 (ux_f f1 a 31 (.int (nI (d + num)))) := z2.mo (fun _ h => h) (fun k hk => by unfold rpK; omega)
    have q2 : rq (ux_f f1 a 31 (.int (nI (d + num)))) a P p := ⟨z2.1, mp_z q1.2.1 z2 (by decide) (rS_n (by omega) (by omega)) (rS_n (by omega) (by omega)), q1.2.2⟩
    have T2 := mz_T T1 z2 (rS_n (by omega) (by omega)) (rS_n (by omega) (by omega))
    have g31 : ax_i (ux_f f1 a 31 (.int (nI (d + num)))) a 31 = nI (d + num) := ix_f q1.1.1 (by decide)
    have g29 := (z2.i (k := 29) (by decide)).trans e29
    have g30 := (z2.i (k := 30) (by decide)).trans e30
    have g32 := (z2.i (k := 32) (by decide)).trans e32
    have g33 := (z2.i (k := 33) (by decide)).trans e33
    generalize ux_f f1 a 31 (.int (nI (d + num))) = f2 at z2 y2 q2 T2 g31 g29 g30 g32 g33
    obtain ⟨e5, e6⟩ := rh_half (b := ib (pb P p) one) (t := 0) q2 hok (by omega) (by decide)
    have e0 : hfd (pb P p) (ib (pb P p) one) 0 = pb P p (ib (pb P p) one) / 16 := by
      unfold hfd
      rw [if_pos rfl]
      rfl
    rw [e0] at e5
    rw [ax_is q2.1.1, Option.bind_some, rb_beg q2 hok (by omega), Option.bind_some, Option.bind_some]
    rw [show fn_M_half f2 a (nI p) (nI (ib (pb P p) one)) 0 = _ from e5, Option.bind_some]
    by_cases c4 : pb P p (ib (pb P p) one) / 16 / 2 % 2 = 0
    · rw [if_pos ((rd_fl _ (by omega)).mpr c4), if_pos c4, Option.bind_some]
      obtain ⟨f3, p3, g3, z3, T3⟩ := rg_on (it := two) q2 T2 hok (by omega) g29 g32
      rw [p3, Option.bind_some]
      exact ⟨f3, rfl, Or.inr (Or.inr ⟨two, d + num, rfl, (z3.i (by unfold rgK; omega)).trans g31, qd, (z3.i (by unfold rgK; omega)).trans g33, by omega, by omega, g3⟩), y2.tr (z3.mo (fun _ h => h) (fun k hk => by unfold rgK at hk; unfold rpK; omega)), T3⟩
    · rw [if_neg (fun z => c4 ((rd_fl _ (by omega)).mp z)), if_neg c4, mo_wayDepth q2.1, g31, Option.bind_some]
      unfold fn_M_passNode_154
      by_cases c5 : d + num = 4
      · rw [if_pos (by rw [c5]; rfl), if_pos c5, mo_told_p q2.1, Option.bind_some]
        have z3 := mz_f (S := rS a) q2.1 (k := 33) rfl (nI two)
        exact ⟨_, rfl, Or.inr (Or.inl ⟨two, 4, rfl, by omega, (z3.i (by decide)).trans g29, (z3.i (by decide)).trans g30, (z3.i (by decide)).trans g32, ix_f q2.1.1 (by decide)⟩), y2.tr (z3.mo (fun _ h => h) (fun k hk => by unfold rpK; omega)), mz_T T2 z3 (rS_n (by omega) (by omega)) (rS_n (by omega) (by omega))⟩
      · rw [if_neg (show ¬ nI (d + num) = 4 from fun z => c5 ((nI_eq (b := 4) (by omega) (by decide)).mp z)), if_neg c5, mo_told_p q2.1, Option.bind_some]
        have z3 := mz_f (S := rS a) q2.1 (k := 33) rfl (-1)
        exact ⟨_, rfl, Or.inl ⟨rfl, (z3.i (by decide)).trans g29, (z3.i (by decide)).trans g30, (z3.i (by decide)).trans g32, ix_f q2.1.1 (by decide)⟩, y2.tr (z3.mo (fun _ h => h) (fun k hk => by unfold rpK; omega)), mz_T T2 z3 (rS_n (by omega) (by omega)) (rS_n (by omega) (by omega))⟩
theorem rp_fork {f1 : pl_H} {a p x i one d : Nat} {P : List (List Int32)} (q1 : rq f1 a P p) (T1 : mo_T f1 a) (hok : pk_ok P) (hx : x < 65536) (hi : i < 1000) (h1 : i < one ∧ one ≤ i + 3) (hd : d ≤ 4) (e29 : ax_i f1 a 29 = nI p) (e30 : ax_i f1 a 30 = -1) (e31 : ax_i f1 a 31 = nI d) (e32 : ax_i f1 a 32 = 0) (e33 : ax_i f1 a 33 = -1) : ∃ f', ((pl_gI f1 a 8 31).bind fun v4 => if 4 ≤ v4 then fn_M_passNode_223 f1 else (pl_gI f1 a 8 31).bind fun v5 => (fn_M_digit f1 (nI x) v5).bind fun v6 => fn_M_passNode_182 pl_N f1 a (nI p) (nI one) v6) = some f' ∧ ro f' a P p i (pnf (pb P p) x one d) ∧ mz a (rS a) rpK f1 f' ∧ mo_T f' a := by
  rw [mo_wayDepth q1.1, e31, Option.bind_some]
  unfold pnf
  by_cases c4 : d < 4
  · have hdl := dg_lt x d
    rw [if_neg (show ¬ 4 ≤ nI d from fun z => absurd ((bs_le (a := 4) (by decide) (by omega)).mp z) (by omega)), if_pos c4, Option.bind_some, md_at f1 hx c4, Option.bind_some]
    obtain ⟨p2, w2⟩ := rp_182 q1 hok (dg x d) pl_N one hdl (by unfold pl_N; omega) (by omega)
    rw [p2]
    unfold fn_M_passNode_207
    rw [mo_wayDepth q1.1, e31, Option.bind_some, nI_1, mo_wayDepth_p q1.1, Option.bind_some]
    have z2 := mz_f (S := rS a) q1.1 (k := 31) rfl (nI (d + 1))
    have y2 : mz a (rS a) rpK f1 (ux_f f1 a 31 (.int (nI (d + 1)))) := z2.mo (fun _ h => h) (fun k hk => by unfold rpK; omega)
    have q2 : rq (ux_f f1 a 31 (.int (nI (d + 1)))) a P p := ⟨z2.1, mp_z q1.2.1 z2 (by decide) (rS_n (by omega) (by omega)) (rS_n (by omega) (by omega)), q1.2.2⟩
    have T2 := mz_T T1 z2 (rS_n (by omega) (by omega)) (rS_n (by omega) (by omega))
    have g31 : ax_i (ux_f f1 a 31 (.int (nI (d + 1)))) a 31 = nI (d + 1) := ix_f q1.1.1 (by decide)
    have g29 := (z2.i (k := 29) (by decide)).trans e29
    have g32 := (z2.i (k := 32) (by decide)).trans e32
    have g33 := (z2.i (k := 33) (by decide)).trans e33
    generalize ux_f f1 a 31 (.int (nI (d + 1))) = f2 at z2 y2 q2 T2 g31 g29 g32 g33
    rw [ax_is q2.1.1, Option.bind_some]
    cases eit : itn (pb P p) (dg x d) one with
    | none =>
      unfold fn_M_goOn
      have z3 := mz_f (S := rS a) q2.1 (k := 30) rfl (-1)
      rw [mo_wayPart q2.1, Option.bind_some, mo_wayPlace_p q2.1, Option.bind_some, show oI none = -1 from rfl, if_neg (by decide), Option.bind_some]
      exact ⟨_, rfl, Or.inl ⟨rfl, (z3.i (by decide)).trans g29, ix_f q2.1.1 (by decide), (z3.i (by decide)).trans g32, (z3.i (by decide)).trans g33⟩, y2.tr (z3.mo (fun _ h => h) (fun k hk => by unfold rpK; omega)), mz_T T2 z3 (rS_n (by omega) (by omega)) (rS_n (by omega) (by omega))⟩
    | some it =>
      have hit := w2 it eit
      obtain ⟨f3, p3, g3, z3, T3⟩ := rg_on (it := it) q2 T2 hok (by omega) g29 g32
      rw [show oI (some it) = nI it from rfl, p3, Option.bind_some]
      exact ⟨f3, rfl, Or.inr (Or.inr ⟨it, d + 1, rfl, (z3.i (by unfold rgK; omega)).trans g31, by omega, (z3.i (by unfold rgK; omega)).trans g33, by omega, by omega, g3⟩), y2.tr (z3.mo (fun _ h => h) (fun k hk => by unfold rgK at hk; unfold rpK; omega)), T3⟩
  · rw [if_pos (show 4 ≤ nI d from (bs_le (a := 4) (by decide) (by omega)).mpr (by omega)), if_neg c4]
    exact ⟨f1, rfl, Or.inl ⟨rfl, e29, e30, e32, e33⟩, mz.rf q1.1, T1⟩
theorem rp_node {f : pl_H} {a p x i d : Nat} {P : List (List Int32)} (h : rq f a P p) (hT : mo_T f a) (hok : pk_ok P) (hx : x < 65536) (hi : i < 1000) (hd : d ≤ 4) (h29 : ax_i f a 29 = nI p) (h30 : ax_i f a 30 = nI i) (h31 : ax_i f a 31 = nI d) (h32 : ax_i f a 32 = 0) (h33 : ax_i f a 33 = -1) : ∃ f', fn_M_passNode f a (nI x) = some f' ∧ ro f' a P p i (pn (pb P p) x i d) ∧ mz a (rS a) rpK f f' ∧ mo_T f' a := by
  have hp5 := (rq_len h).2
  have z1 := mz_f (S := rS a) h.1 (k := 30) rfl (-1)
  have y1 : mz a (rS a) rpK f (ux_f f a 30 (.int (-1))) := z1.mo (fun _ h => h) (fun k hk => by unfold rpK; omega)
  have q1 : rq (ux_f f a 30 (.int (-1))) a P p := ⟨z1.1, mp_z h.2.1 z1 (by decide) (rS_n (by omega) (by omega)) (rS_n (by omega) (by omega)), h.2.2⟩
  have T1 := mz_T hT z1 (rS_n (by omega) (by omega)) (rS_n (by omega) (by omega))
  have e30 : ax_i (ux_f f a 30 (.int (-1))) a 30 = -1 := ix_f h.1.1 (by decide)
  have e29 := (z1.i (k := 29) (by decide)).trans h29
  have e31 := (z1.i (k := 31) (by decide)).trans h31
  have e32 := (z1.i (k := 32) (by decide)).trans h32
  have e33 := (z1.i (k := 33) (by decide)).trans h33
  have pw := mo_wayPlace_p h.1 (-1)
  generalize ux_f f a 30 (.int (-1)) = f1 at z1 y1 q1 T1 e30 e29 e31 e32 e33 pw
  have stop : ∃ f', some f1 = some f' ∧ ro f' a P p i none ∧ mz a (rS a) rpK f f' ∧ mo_T f' a := ⟨_, rfl, Or.inl ⟨rfl, e29, e30, e32, e33⟩, y1, T1⟩
  have hneg : ¬ (0 : Int32) ≤ -1 := by decide
  have s52 : ∀ x4 x5 : Int32, fn_M_passNode_52 f a (nI x) (nI p) (nI i) x4 x5 (-1) = some f1 := by
    intro x4 x5
    unfold fn_M_passNode_52
    rw [pw, Option.bind_some, if_neg hneg]
  unfold fn_M_passNode fn_M_passNode_34
  rw [mo_wayPart h.1, h29, Option.bind_some, mo_wayPlace h.1, h30, Option.bind_some, ax_is h.1.1, Option.bind_some, rn_items h hok (by omega), Option.bind_some]
  cases e1 : ni (pb P p) i with
  | none =>
    have epn : pn (pb P p) x i d = none := by
      unfold pn
      simp only [e1]
    rw [epn, show oI none = -1 from rfl, if_neg hneg, if_neg hneg, s52]
    exact stop
  | some one =>
    obtain ⟨o1, o2, o3, o4⟩ := ni_b e1
    rw [show oI (some one) = nI one from rfl, if_pos (nI_pos' (by omega)), Option.bind_some, ri_end h hok (by omega), Option.bind_some]
    cases e2 : ie (pb P p) one with
    | none =>
      have epn : pn (pb P p) x i d = none := by
        unfold pn
        simp only [e1, e2]
      rw [epn, show oI none = -1 from rfl, if_neg hneg, s52]
      exact stop
    | some two =>
      obtain ⟨j1, j2, j3, j4⟩ := ie_b (fun q => (pb_is hok p q).2) e2
      rw [show oI (some two) = nI two from rfl, if_pos (nI_pos' (by omega)), Option.bind_some, ri_end h hok (by omega), Option.bind_some]
      cases e3 : ie (pb P p) two with
      | none =>
        have epn : pn (pb P p) x i d = none := by
          unfold pn
          simp only [e1, e2, e3]
        rw [epn, show oI none = -1 from rfl, s52]
        exact stop
      | some e =>
        obtain ⟨k1, k2, -, -⟩ := ie_b (fun q => (pb_is hok p q).2) e3
        have hnb : nby (pb P p) i < 2 ^ 20 := by
          have b0 := (pb_is hok p i).2
          have b1 := (pb_is hok p (i + 1)).2
          have b2 := (pb_is hok p (i + 2)).2
          unfold nby
          split
          · omega
          · split <;> omega
        have epn : pn (pb P p) x i d = if e = one + nby (pb P p) i then pnd (pb P p) x one two d else pnf (pb P p) x one d := by
          unfold pn
          simp only [e1, e2, e3]
        rw [epn, show oI (some e) = nI e from rfl]
        unfold fn_M_passNode_52
        rw [pw, Option.bind_some, if_pos (nI_pos' (by omega)), ax_is q1.1.1, Option.bind_some, rn_by q1 hok (by omega) o3, Option.bind_some, nI_add]
        by_cases c : e = one + nby (pb P p) i
        · rw [if_pos (by rw [c]), if_pos c]
          obtain ⟨f', p', r', z', T'⟩ := rp_dig q1 T1 hok hx hi ⟨o1, o2⟩ e2 hd e29 e30 e31 e32 e33
          rw [ax_is q1.1.1] at p'
          exact ⟨f', p', r', y1.tr z', T'⟩
        · rw [if_neg (fun z => c ((nI_eq (by omega) (by omega)).mp z)), if_neg c]
          obtain ⟨f', p', r', z', T'⟩ := rp_fork q1 T1 hok hx hi ⟨o1, o2⟩ hd e29 e30 e31 e32 e33
          exact ⟨f', p', r', y1.tr z', T'⟩
