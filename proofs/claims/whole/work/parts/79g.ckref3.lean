/-! check and proven of the reference. -/
def rcK : Nat → Prop := fun k => rpK k ∨ k = 19 ∨ k = 20
theorem mz_l {f : pl_H} {a k : Nat} {S : Nat → Prop} (h : mo_L f a) (hk : mo_tg[k]? = some 1) (x : Int64) : mz a S (fun j => j = k) f (ux_f f a k (.long x)) := ⟨mo_uF h hk (fun z => by cases z), bs_kp.f (Or.inl rfl), fun j hj => rx_v_fne (Or.inr hj)⟩
theorem il_f {f : pl_H} {a k : Nat} (h : mo_L f a) (hk : k < 34) (x : Int64) : ax_l (ux_f f a k (.long x)) a k = x := by
  unfold ax_l
  rw [rx_v_f h.1 hk]
theorem mz.l {a : Nat} {S K : Nat → Prop} {f f' : pl_H} (h : mz a S K f f') {k : Nat} (hk : ¬ K k) : ax_l f' a k = ax_l f a k := al_v (h.2.2 k hk)
theorem rc_w {f : pl_H} {a : Nat} (h : mo_L f a) (h32 : ax_i f a 32 ≠ 0) : fn_M_check_127 f a = some (-1, f) := by
  unfold fn_M_check_127 fn_M_check_147
  rw [mo_wrong h, Option.bind_some, if_neg h32]
theorem rc_n {f : pl_H} {a p : Nat} {P : List (List Int32)} (h : rq f a P p) (h29 : ax_i f a 29 = nI p) (h32 : ax_i f a 32 = 0) (h33 : ax_i f a 33 = -1) : fn_M_check_127 f a = some (if p + 1 = P.length then 0 else -1, f) := by
  have h5 := h.2.1.2.1
  have hp := h.2.2
  unfold fn_M_check_127 fn_M_check_147
  rw [mo_wrong h.1, h32, Option.bind_some, if_pos rfl, mo_wayPart h.1, h29, Option.bind_some, mo_parts h.1, h.2.1.1, Option.bind_some, nI_1]
  by_cases c : p + 1 = P.length
  · rw [if_pos (by rw [c]), if_pos c, mo_told h.1, h33, Option.bind_some, if_neg (by decide)]
  · rw [if_neg (fun z => c ((nI_eq (by omega) (by omega)).mp z)), if_neg c]
theorem rc_t {f : pl_H} {a p two : Nat} {P : List (List Int32)} (h : rq f a P p) (hok : pk_ok P) (ht : two < 2 ^ 17) (h29 : ax_i f a 29 = nI p) (h32 : ax_i f a 32 = 0) (h33 : ax_i f a 33 = nI two) (h19 : ax_l f a 19 = 0) (h20 : ax_l f a 20 = 0) : ∃ r f', fn_M_check_127 f a = some (r.1, f') ∧ r = (if p + 1 = P.length then (1, nm_ (pb P p) (ib (pb P p) two + 1), nm_b (pb P p) (ib (pb P p) two + 1)) else (-1, 0, 0)) ∧ ax_l f' a 19 = r.2.1 ∧ ax_l f' a 20 = r.2.2 ∧ mz a (rS a) rcK f f' := by
  have h5 := h.2.1.2.1
  have hp := h.2.2
  have hib : ib (pb P p) two ≤ two + 1 := by
    unfold ib
    split <;> omega
  unfold fn_M_check_127 fn_M_check_147
  rw [mo_wrong h.1, h32, Option.bind_some, if_pos rfl, mo_wayPart h.1, h29, Option.bind_some, mo_parts h.1, h.2.1.1, Option.bind_some, nI_1]
  by_cases c : p + 1 = P.length
  · rw [if_pos (by rw [c]), if_pos c, mo_told h.1, h33, Option.bind_some, if_pos (nI_pos' (by omega)), Option.bind_some, Option.bind_some, ax_is h.1.1, Option.bind_some, rb_beg h hok (by omega), Option.bind_some, Option.bind_some, Option.bind_some, nI_1, rn_num h hok (by omega), Option.bind_some]
    have z1 := mz_l (S := rS a) h.1 (k := 19) rfl (nm_ (pb P p) (ib (pb P p) two + 1))
    have q1 : rq (ux_f f a 19 (.long (nm_ (pb P p) (ib (pb P p) two + 1)))) a P p := ⟨z1.1, mp_z h.2.1 z1 (by decide) (rS_n (by omega) (by omega)) (rS_n (by omega) (by omega)), hp⟩
    have z2 := mz_l (S := rS a) q1.1 (k := 20) rfl (nm_b (pb P p) (ib (pb P p) two + 1))
    rw [mo_provenNonce_p h.1, Option.bind_some, mo_wayPart q1.1, (z1.i (k := 29) (by decide)).trans h29, Option.bind_some, Option.bind_some, ax_is q1.1.1, Option.bind_some, ri_end q1 hok (by omega), Option.bind_some, Option.bind_some, rn_numb q1 hok (by omega), Option.bind_some, mo_provenBalance_p q1.1, Option.bind_some]
    exact ⟨_, _, rfl, rfl, (z2.l (by decide)).trans (il_f h.1 (by decide) _), il_f q1.1 (by decide) _, (z1.mo (fun _ h => h) (fun k hk => Or.inr (Or.inl hk))).tr (z2.mo (fun _ h => h) (fun k hk => Or.inr (Or.inr hk)))⟩
  · rw [if_neg (fun z => c ((nI_eq (by omega) (by omega)).mp z)), if_neg c]
    exact ⟨_, f, rfl, rfl, h19, h20, mz.rf h.1⟩
theorem rc_105e (k : Nat) (f : pl_H) (a0 : Nat) (x1 : Int32) : fn_M_check_105 (k + 1) f a0 x1 = (pl_gI f a0 8 32).bind fun v1 => if v1 = 0 then (pl_gI f a0 8 30).bind fun v2 => if v2 < 0 then fn_M_check_127 f a0 else (pl_is f a0 8).bind fun u4 => (fn_M_passNode f a0 x1).bind fun q3 => fn_M_check_105 k q3 a0 x1 else fn_M_check_127 f a0 := rfl
theorem rc_105x {f : pl_H} {a : Nat} (h : mo_L f a) (h2 : ax_i f a 32 ≠ 0 ∨ ax_i f a 30 = -1) (k : Nat) (x : Int32) : fn_M_check_105 (k + 1) f a x = fn_M_check_127 f a := by
  rw [rc_105e, mo_wrong h, Option.bind_some]
  by_cases c : ax_i f a 32 = 0
  · rw [if_pos c, mo_wayPlace h, h2.resolve_left (fun z => z c), Option.bind_some, if_pos (by decide)]
  · rw [if_neg c]
theorem rc_105 {a x : Nat} {P : List (List Int32)} (hok : pk_ok P) (hx : x < 65536) : ∀ (t K p i d : Nat) (f : pl_H), 2020 ≤ t + i + 404 * p → t + 1 < K → i < 404 → d ≤ 4 → rq f a P p → mo_T f a → ax_i f a 29 = nI p → ax_i f a 30 = nI i → ax_i f a 31 = nI d → ax_i f a 32 = 0 → ax_i f a 33 = -1 → ax_l f a 19 = 0 → ax_l f a 20 = 0 → ∃ f', fn_M_check_105 K f a (nI x) = some ((ckr P x t p i d).1, f') ∧ ax_l f' a 19 = (ckr P x t p i d).2.1 ∧ ax_l f' a 20 = (ckr P x t p i d).2.2 ∧ mz a (rS a) rcK f f' ∧ mo_T f' a := by
  intro t
  induction t with
  | zero =>
    intro K p i d f hM hK hi hd h
    have := (rq_len h).2
    omega
  | succ t ih =>
    intro K p i d f hM hK hi hd h hT h29 h30 h31 h32 h33 h19 h20
    obtain ⟨hl, hp5⟩ := rq_len h
    obtain ⟨K, rfl⟩ : ∃ k', K = k' + 1 := ⟨K - 1, by omega⟩
    obtain ⟨K, rfl⟩ : ∃ k', K = k' + 1 := ⟨K - 1, by omega⟩
    obtain ⟨f1, p1, o1, z1, T1⟩ := rp_node h hT hok hx (by omega) hd h29 h30 h31 h32 h33
    have q1 : rq f1 a P p := ⟨z1.1, mp_z h.2.1 z1 (by unfold rpK; omega) (rS_n (by omega) (by omega)) (rS_n (by omega) (by omega)), h.2.2⟩
    have y1 : mz a (rS a) rcK f f1 := z1.mo (fun _ h => h) (fun k hk => Or.inl hk)
    have g19 : ax_l f1 a 19 = 0 := (z1.l (by unfold rpK; omega)).trans h19
    have g20 : ax_l f1 a 20 = 0 := (z1.l (by unfold rpK; omega)).trans h20
    rw [rc_105e, mo_wrong h.1, h32, Option.bind_some, if_pos rfl, mo_wayPlace h.1, h30, Option.bind_some, if_neg (nI_pos (by omega)), ax_is h.1.1, Option.bind_some, p1, Option.bind_some]
    rcases o1 with ⟨ho, w29, w30, w32, w33⟩ | ⟨two, d', ho, w2, w29, w30, w32, w33⟩ | ⟨it, d', ho, w31, wd, w33, wi1, wi2, wg⟩
    · rw [rc_105x q1.1 (Or.inr w30), rc_n q1 w29 w32 w33, ck_n ho]
      by_cases c : p + 1 = P.length
      · rw [if_pos c, if_pos c]
        exact ⟨f1, rfl, g19, g20, y1, T1⟩
      · rw [if_neg c, if_neg c]
        exact ⟨f1, rfl, g19, g20, y1, T1⟩
    · obtain ⟨r, f2, p2, er, a1, a2, z2⟩ := rc_t q1 hok (by omega) w29 w32 w33 g19 g20
      rw [rc_105x q1.1 (Or.inr w30), p2, ck_t ho, ← er]
      exact ⟨f2, rfl, a1, a2, y1.tr z2, mz_T T1 z2 (rS_n (by omega) (by omega)) (rS_n (by omega) (by omega))⟩
    · rw [ck_f ho]
      unfold rgo at wg
      by_cases cb : pb P p it = 160
      · rw [if_pos cb] at wg ⊢
        rcases wg with ⟨wa, w29, w30, w32⟩ | ⟨wa, w32⟩
        · rw [cif_pos wa]
          have q2 : rq f1 a P (p + 1) := ⟨q1.1, q1.2.1, wa.1⟩
          obtain ⟨f', p', a1, a2, z', T'⟩ := ih (K + 1) (p + 1) 0 d' f1 (by omega) (by omega) (by decide) wd q2 T1 w29 w30 w31 w32 w33 g19 g20
          exact ⟨f', p', a1, a2, y1.tr z', T'⟩
        · rw [cif_neg wa, rc_105x q1.1 (Or.inl w32), rc_w q1.1 w32]
          exact ⟨f1, rfl, g19, g20, y1, T1⟩
      · rw [if_neg cb] at wg ⊢
        obtain ⟨w29, w32, w30⟩ := wg
        by_cases c9 : 192 ≤ pb P p it
        · have hit : it < 404 := by
            rcases Nat.lt_or_ge it (P.getD p []).length with y | y
            · omega
            · rw [pb_out y] at c9
              omega
          rw [if_pos c9] at w30 ⊢
          obtain ⟨f', p', a1, a2, z', T'⟩ := ih (K + 1) p it d' f1 (by omega) (by omega) hit wd q1 T1 w29 w30 w31 w32 w33 g19 g20
          exact ⟨f', p', a1, a2, y1.tr z', T'⟩
        · rw [if_neg c9] at w30 ⊢
          rw [rc_105x q1.1 (Or.inr w30), rc_n q1 w29 w32 w33]
          by_cases c : p + 1 = P.length
          · rw [if_pos c, if_pos c]
            exact ⟨f1, rfl, g19, g20, y1, T1⟩
          · rw [if_neg c, if_neg c]
            exact ⟨f1, rfl, g19, g20, y1, T1⟩
theorem rc_42e (k : Nat) (f : pl_H) (a0 : Nat) (x1 x2 : Int32) : fn_M_check_42 (k + 1) f a0 x1 x2 = if 32 ≤ x2 then (pl_pV f a0 8 29 (.int 0)).bind fun f1 => (pl_pV f1 a0 8 30 (.int 0)).bind fun f2 => (pl_pV f2 a0 8 31 (.int 0)).bind fun f3 => (pl_pV f3 a0 8 33 (.int (-1))).bind fun f4 => fn_M_check_105 pl_N f4 a0 x1 else (pl_gI f a0 8 32).bind fun v5 => if v5 = 0 then (pl_gR f a0 8 27).bind fun v6 => (pl_aI f v6 x2).bind fun v7 => (pl_gR f a0 8 28).bind fun v8 => (pl_aI f v8 x2).bind fun v9 => if v7 = v9 then fn_M_check_76 (fn_M_check_42 k) f a0 x1 x2 0 a0 else fn_M_check_76 (fn_M_check_42 k) f a0 x1 x2 1 a0 else fn_M_check_76 (fn_M_check_42 k) f a0 x1 x2 1 a0 := rfl
theorem rc_42 {a : Nat} {g R : Nat → Int32} (x : Int32) : ∀ (r k j : Nat) (f : pl_H), 32 - j = r → j ≤ 32 → r < k → mo_L f a → (∀ s, s < 32 → ax_I f (a + 20) s = g s) → (∀ s, s < 32 → ax_I f (a + 21) s = R s) → (ax_i f a 32 = 0 ↔ ∀ s, s < j → g s = R s) → ∃ f', fn_M_check_42 k f a x (nI j) = fn_M_check_105 pl_N f' a x ∧ ax_i f' a 29 = nI 0 ∧ ax_i f' a 30 = nI 0 ∧ ax_i f' a 31 = nI 0 ∧ ax_i f' a 33 = -1 ∧ (ax_i f' a 32 = 0 ↔ ∀ s, s < 32 → g s = R s) ∧ mz a (rS a) rpK f f' := by
  intro r
  induction r with
  | zero =>
    intro k j f hr hj hk hM hh hR hw
    obtain ⟨k, rfl⟩ : ∃ k', k = k' + 1 := ⟨k - 1, by omega⟩
    have e : j = 32 := by omega
    subst e
    have z1 := mz_f (S := rS a) hM (k := 29) rfl 0
    have z2 := mz_f (S := rS a) z1.1 (k := 30) rfl 0
    have z3 := mz_f (S := rS a) z2.1 (k := 31) rfl 0
    have z4 := mz_f (S := rS a) z3.1 (k := 33) rfl (-1)
    refine ⟨_, by rw [rc_42e, if_pos (by decide), mo_wayPart_p hM, Option.bind_some, mo_wayPlace_p z1.1, Option.bind_some, mo_wayDepth_p z2.1, Option.bind_some, mo_told_p z3.1, Option.bind_some], ?_, ?_, ?_, ix_f z3.1.1 (by decide), ?_, (((z1.mo (fun _ h => h) (fun k hk => by unfold rpK; omega)).tr (z2.mo (fun _ h => h) (fun k hk => by unfold rpK; omega))).tr (z3.mo (fun _ h => h) (fun k hk => by unfold rpK; omega))).tr (z4.mo (fun _ h => h) (fun k hk => by unfold rpK; omega))⟩
    · rw [z4.i (by decide), z3.i (by decide), z2.i (by decide), ix_f hM.1 (by decide)]
      rfl
    · rw [z4.i (by decide), z3.i (by decide), ix_f z1.1.1 (by decide)]
      rfl
    · rw [z4.i (by decide), ix_f z2.1.1 (by decide)]
      rfl
    · rw [z4.i (by decide), z3.i (by decide), z2.i (by decide), z1.i (by decide)]
      exact hw
  | succ r ih =>
    intro k j f hr hj hk hM hh hR hw
    obtain ⟨k, rfl⟩ : ∃ k', k = k' + 1 := ⟨k - 1, by omega⟩
    have key : ∀ b : Int32, (b = 0 ∨ b = 1) → (b = 0 ↔ ∀ s, s < j + 1 → g s = R s) → ∃ f', fn_M_check_76 (fn_M_check_42 k) f a x (nI j) b a = fn_M_check_105 pl_N f' a x ∧ ax_i f' a 29 = nI 0 ∧ ax_i f' a 30 = nI 0 ∧ ax_i f' a 31 = nI 0 ∧ ax_i f' a 33 = -1 ∧ (ax_i f' a 32 = 0 ↔ ∀ s, s < 32 → g s = R s) ∧ mz a (rS a) rpK f f' := by
      intro b hb hb2
      have z1 := mz_f (S := rS a) hM (k := 32) rfl b
      obtain ⟨f', p', a1, a2, a3, a4, a5, a6⟩ := ih k (j + 1) (ux_f f a 32 (.int b)) (by omega) (by omega) (by omega) z1.1 (fun s hs => by rw [rx_I_f]; exact hh s hs) (fun s hs => by rw [rx_I_f]; exact hR s hs) (by rw [ix_f hM.1 (by decide)]; exact hb2)
      refine ⟨f', ?_, a1, a2, a3, a4, a5, (z1.mo (fun _ h => h) (fun k hk => by unfold rpK; omega)).tr a6⟩
      unfold fn_M_check_76
      rw [mo_wrong_z hM b hb, Option.bind_some, nI_1]
      exact p'
    rw [rc_42e, if_neg (show ¬ 32 ≤ nI j from fun z => absurd ((bs_le (a := 32) (by decide) (by omega)).mp z) (by omega)), mo_wrong hM, Option.bind_some]
    by_cases c : ax_i f a 32 = 0
    · have hall := hw.mp c
      rw [if_pos c, mo_hash hM, Option.bind_some, mo_hash_g hM (by omega), hh j (by omega), Option.bind_some, mo_root hM, Option.bind_some, mo_root_g hM (by omega), hR j (by omega), Option.bind_some]
      by_cases e : g j = R j
      · rw [if_pos e]
        refine key 0 (Or.inl rfl) ⟨fun _ s hs => ?_, fun _ => rfl⟩
        rcases Nat.lt_or_ge s j with y | y
        · exact hall s y
        · have : s = j := by omega
          subst this
          exact e
      · rw [if_neg e]
        exact key 1 (Or.inr rfl) ⟨fun z => absurd z (by decide), fun z => absurd (z j (by omega)) e⟩
    · rw [if_neg c]
      exact key 1 (Or.inr rfl) ⟨fun z => absurd z (by decide), fun z => absurd (hw.mpr (fun s hs => z s (by omega))) c⟩
def rwS (a : Nat) : Nat → Prop := fun q => mw_S a q ∨ rS a q
def rwK : Nat → Prop := fun k => mw_K k ∨ rcK k
theorem ma_check {f : pl_H} {a c K : Nat} {m : am_M} {P : List (List Int32)} (hR : mo_R f a c m) (hT : mo_T f a) (hok : am_ok K m) (hK : K ≤ 512) (hw : ax_i f a 5 ≠ 0 → ws f a c m) (hp : mp_R f a P) (hpk : pk_ok P) (x : Int32) : ∃ f', fn_M_check f a x = some ((sp_check P m x).1, f') ∧ mo_R f' a c m ∧ mo_T f' a ∧ (ax_i f' a 5 ≠ 0 → ws f' a c m) ∧ mp_R f' a P ∧ ax_l f' a 19 = (sp_check P m x).2.1 ∧ ax_l f' a 20 = (sp_check P m x).2.2 ∧ mz a (rwS a) rwK f f' := by
  have h5 := hp.2.1
  have z1 := mz_l (S := fun _ => False) hR.1 (k := 19) rfl 0
  have z2 := mz_l (S := fun _ => False) z1.1 (k := 20) rfl 0
  have Z2 : mz a (fun _ => False) (fun k => k = 19 ∨ k = 20) f (ux_f (ux_f f a 19 (.long 0)) a 20 (.long 0)) := (z1.mo (fun _ h => h) (fun k hk => Or.inl hk)).tr (z2.mo (fun _ h => h) (fun k hk => Or.inr hk))
  have R2 := Z2.R hR (fun _ _ _ z => z) (by decide)
  have T2 := mz_T hT Z2 (fun z => z) (fun z => z)
  have P2 := mp_z hp Z2 (by decide) (fun z => z) (fun z => z)
  have l19 : ax_l (ux_f (ux_f f a 19 (.long 0)) a 20 (.long 0)) a 19 = 0 := (z2.l (by decide)).trans (il_f hR.1 (by decide) 0)
  have l20 : ax_l (ux_f (ux_f f a 19 (.long 0)) a 20 (.long 0)) a 20 = 0 := il_f z1.1 (by decide) 0
  have w2 : ax_i (ux_f (ux_f f a 19 (.long 0)) a 20 (.long 0)) a 5 ≠ 0 → ws (ux_f (ux_f f a 19 (.long 0)) a 20 (.long 0)) a c m := fun z => ws_z (hw (by rw [← Z2.i (k := 5) (by decide)]; exact z)) Z2 (by decide) (fun _ _ _ z => z) (fun z => z) (fun z => z) (fun z => z)
  have Y2 : mz a (rwS a) rwK f (ux_f (ux_f f a 19 (.long 0)) a 20 (.long 0)) := Z2.mo (fun _ h => h.elim) (fun k hk => Or.inr (Or.inr hk))
  unfold fn_M_check fn_M_check_24 sp_check
  rw [mo_provenNonce_p hR.1, Option.bind_some, mo_provenBalance_p z1.1, Option.bind_some]
  generalize ux_f (ux_f f a 19 (.long 0)) a 20 (.long 0) = f2 at Z2 R2 T2 P2 l19 l20 w2 Y2
  rw [mo_isA, Option.bind_some]
  by_cases ha : sp_acc x = true
  · simp only [if_pos ha]
    rw [if_neg (show ¬ (1 : Int32) = 0 by decide), mo_parts R2.1, P2.1, Option.bind_some]
    by_cases c0 : P.length = 0
    · rw [if_pos (by rw [c0]; rfl), cif_neg (fun z => by omega)]
      exact ⟨f2, rfl, R2, T2, w2, P2, l19, l20, Y2⟩
    · obtain ⟨y, hyx, rfl⟩ := sp_acc_n ha
      rw [if_neg (nI_ne0 (by omega) (by omega)), bs_cl (by omega), ax_is R2.1.1, Option.bind_some]
      obtain ⟨f3, p3, w3, -, z3⟩ := mk_work R2 T2 hok hK w2
      have P3 := mp_z P2 z3 (by unfold mw_K; omega) (mw_nS (by omega) (by omega)) (mw_nS (by omega) (by omega))
      have m19 : ax_l f3 a 19 = 0 := (z3.l (by unfold mw_K; omega)).trans l19
      have m20 : ax_l f3 a 20 = 0 := (z3.l (by unfold mw_K; omega)).trans l20
      obtain ⟨f4, p4, g4, z4, T4⟩ := hp_part (q := 0) ⟨w3.1.1, P3, by omega⟩ w3.2.1
      have z5 := mz_f (S := rS a) z4.1 (k := 32) rfl 0
      have z45 : mz a (rS a) rpK f3 (ux_f f4 a 32 (.int 0)) := (z4.mo (fun _ h => h) (fun k hk => by unfold rpK; omega)).tr (z5.mo (fun _ h => h) (fun k hk => by unfold rpK; omega))
      have i32 : ax_i (ux_f f4 a 32 (.int 0)) a 32 = 0 := ix_f z4.1.1 (by decide)
      obtain ⟨f6, p6, a29, a30, a31, a33, a32, z6⟩ := rc_42 (g := phx P 0) (R := sp_hash m) (nI y) 32 pl_N 0 (ux_f f4 a 32 (.int 0)) rfl (by decide) (by decide) z5.1 (fun s hs => by rw [rx_I_f]; exact g4 s hs) (fun s hs => by rw [rx_I_f, z4.I (by omega) (rS_n (by omega) (by omega))]; exact w3.2.2.2 s hs) ⟨fun _ s hs => absurd hs (by omega), fun _ => i32⟩
      have z36 : mz a (rS a) rpK f3 f6 := z45.tr z6
      have T6 := mz_T w3.2.1 z36 (rS_n (by omega) (by omega)) (rS_n (by omega) (by omega))
      have P6 := mp_z P3 z36 (by unfold rpK; omega) (rS_n (by omega) (by omega)) (rS_n (by omega) (by omega))
      have n19 : ax_l f6 a 19 = 0 := (z36.l (by unfold rpK; omega)).trans m19
      have n20 : ax_l f6 a 20 = 0 := (z36.l (by unfold rpK; omega)).trans m20
      have front : ∀ r, fn_M_check_105 pl_N f6 a (nI y) = r → ((fn_M_work f2 a).bind fun q5 => (pl_is q5 a 8).bind fun u8 => (fn_M_hashPart q5 a 0).bind fun q7 => (pl_pV q7 a 8 32 (.int 0)).bind fun f9 => fn_M_check_42 pl_N f9 a (nI y) 0) = r := by
        intro r hr
        rw [p3, Option.bind_some, ax_is w3.1.1.1, Option.bind_some]
        rw [show fn_M_hashPart f3 a 0 = some f4 from p4, Option.bind_some, mo_wrong_p z4.1, Option.bind_some]
        exact p6.trans hr
      have fin : ∀ (g : pl_H) (r : Int32 × Int64 × Int64), fn_M_check_105 pl_N f6 a (nI y) = some (r.1, g) → ax_l g a 19 = r.2.1 → ax_l g a 20 = r.2.2 → mz a (rS a) rcK f6 g → mo_T g a → ∃ f', ((fn_M_work f2 a).bind fun q5 => (pl_is q5 a 8).bind fun u8 => (fn_M_hashPart q5 a 0).bind fun q7 => (pl_pV q7 a 8 32 (.int 0)).bind fun f9 => fn_M_check_42 pl_N f9 a (nI y) 0) = some (r.1, f') ∧ mo_R f' a c m ∧ mo_T f' a ∧ (ax_i f' a 5 ≠ 0 → ws f' a c m) ∧ mp_R f' a P ∧ ax_l f' a 19 = r.2.1 ∧ ax_l f' a 20 = r.2.2 ∧ mz a (rwS a) rwK f f' := by
        intro g r hr h1 h2 zg Tg
        have z3g : mz a (rS a) rcK f3 g := (z36.mo (fun _ h => h) (fun k hk => Or.inl hk)).tr zg
        have w' := ws_z w3 z3g (by unfold rcK rpK; omega) (fun q a b => rS_n a (by omega)) (rS_n (by omega) (by omega)) (rS_n (by omega) (by omega)) (rS_n (by omega) (by omega))
        exact ⟨g, front _ hr, w'.1, w'.2.1, fun _ => w', mp_z P3 z3g (by unfold rcK rpK; omega) (rS_n (by omega) (by omega)) (rS_n (by omega) (by omega)), h1, h2, (Y2.tr (z3.mo (fun _ h => Or.inl h) (fun k hk => Or.inl hk))).tr (z3g.mo (fun _ h => Or.inr h) (fun k hk => Or.inr hk))⟩
      by_cases c1 : ∀ k, k < 32 → phx P 0 k = sp_hash m k
      · rw [cif_pos ⟨by omega, c1⟩]
        obtain ⟨f7, p7, b1, b2, z7, T7⟩ := rc_105 hpk hyx 2020 pl_N 0 0 0 f6 (by decide) (by decide) (by decide) (by decide) ⟨z36.1, P6, by omega⟩ T6 a29 a30 a31 (a32.mpr c1) a33 n19 n20
        exact fin f7 _ p7 b1 b2 z7 T7
      · rw [cif_neg (fun z => c1 z.2)]
        have hw32 : ax_i f6 a 32 ≠ 0 := fun z => c1 (a32.mp z)
        exact fin f6 (-1, 0, 0) (by
          show fn_M_check_105 (99999 + 1) f6 a (nI y) = _
          rw [rc_105x z36.1 (Or.inl hw32), rc_w z36.1 hw32]) n19 n20 (mz.rf z36.1) T6
  · simp only [if_neg ha]
    rw [if_pos trivial]
    exact ⟨f2, rfl, R2, T2, w2, P2, l19, l20, Y2⟩
theorem ma_proven {f : pl_H} {a : Nat} (h : mo_L f a) (x : Int32) : fn_M_proven f a x = some (if x = 0 then ax_l f a 19 else if x = 1 then ax_l f a 20 else 0) := by
  unfold fn_M_proven fn_M_proven_24
  by_cases c0 : x = 0
  · rw [if_pos c0, if_pos c0, mo_provenNonce h, Option.bind_some]
  · rw [if_neg c0, if_neg c0]
    by_cases c1 : x = 1
    · rw [if_pos c1, if_pos c1, mo_provenBalance h, Option.bind_some]
    · rw [if_neg c1, if_neg c1]
