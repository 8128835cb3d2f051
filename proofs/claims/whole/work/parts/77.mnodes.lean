/-! The reference: nodes. -/
noncomputable def su (p : Nat → Prop) (w : Nat → Nat) : Nat → Nat
  | 0 => 0
  | q + 1 => su p w q + cif (p q) (w q) 0
theorem su_c {p p' : Nat → Prop} {w w' : Nat → Nat} : ∀ N, (∀ q, q < N → (p q ↔ p' q)) → (∀ q, q < N → p q → w q = w' q) → su p w N = su p' w' N
  | 0, _, _ => rfl
  | N + 1, h1, h2 => by
    show su p w N + cif (p N) (w N) 0 = su p' w' N + cif (p' N) (w' N) 0
    rw [su_c N (fun q hq => h1 q (by omega)) (fun q hq => h2 q (by omega))]
    by_cases h : p N
    · rw [cif_pos h, cif_pos ((h1 N (by omega)).mp h), h2 N (by omega) h]
    · rw [cif_neg h, cif_neg (fun z => h ((h1 N (by omega)).mpr z))]
theorem su_0 {p : Nat → Prop} {w : Nat → Nat} : ∀ N, (∀ q, q < N → ¬ p q) → su p w N = 0
  | 0, _ => rfl
  | N + 1, h => by
    show su p w N + cif (p N) (w N) 0 = 0
    rw [su_0 N (fun q hq => h q (by omega)), cif_neg (h N (by omega))]
theorem su_add {p p' : Nat → Prop} {w : Nat → Nat} {r : Nat} : ∀ N, r < N → ¬ p r → (∀ q, q < N → (p' q ↔ p q ∨ q = r)) → su p' w N = su p w N + w r
  | 0, h, _, _ => absurd h (by omega)
  | N + 1, h, hr, hp => by
    show su p' w N + cif (p' N) (w N) 0 = su p w N + cif (p N) (w N) 0 + w r
    by_cases e : r = N
    · subst e
      rw [cif_pos ((hp r (by omega)).mpr (Or.inr rfl)), cif_neg hr, su_c (p' := p) (w' := w) r (fun q hq => ⟨fun z => ((hp q (by omega)).mp z).resolve_right (by omega), fun z => (hp q (by omega)).mpr (Or.inl z)⟩) (fun _ _ _ => rfl)]
      omega
    · rw [su_add N (by omega) hr (fun q hq => hp q (by omega))]
      by_cases h2 : p N
      · rw [cif_pos h2, cif_pos ((hp N (by omega)).mpr (Or.inl h2))]
        omega
      · rw [cif_neg h2, cif_neg (fun z => by
          rcases (hp N (by omega)).mp z with q | q
          · exact h2 q
          · exact e q.symm)]
        omega
theorem nc_su (G : Nat → Prop) (d : Nat) (s : (Nat → Prop) → Nat) : ∀ N, nc_s G d s N = su (fun e => ∃ y, gs_d G d e y) (fun e => s (gs_d G d e)) N
  | 0 => rfl
  | N + 1 => by
    show nc_s G d s N + _ = su _ _ N + _
    rw [nc_su G d s N]
/-- a sum over those that come first is a sum over digits -/
theorem su_first {v : Nat → Nat} {b d : Nat} {F : Nat → Nat} : ∀ c, su (fun j => ag b (v j) d ∧ ∀ k, k < j → ¬ (ag b (v k) d ∧ dg (v k) d = dg (v j) d)) (fun j => F (dg (v j) d)) c = su (fun e => ∃ j, j < c ∧ ag b (v j) d ∧ dg (v j) d = e) F 16
  | 0 => (su_0 16 (fun q _ ⟨j, h, _⟩ => absurd h (by omega))).symm
  | c + 1 => by
    show su _ _ c + cif _ _ 0 = _
    rw [su_first c]
    by_cases h1 : ag b (v c) d
    · by_cases h2 : ∀ k, k < c → ¬ (ag b (v k) d ∧ dg (v k) d = dg (v c) d)
      · rw [cif_pos ⟨h1, h2⟩]
        refine (su_add (r := dg (v c) d) 16 (dg_lt _ _) ?_ ?_).symm
        · rintro ⟨j, j1, j2, j3⟩
          exact h2 j j1 ⟨j2, j3⟩
        · intro q _
          constructor
          · rintro ⟨j, j1, j2, j3⟩
            rcases Nat.lt_or_ge j c with z | z
            · exact Or.inl ⟨j, z, j2, j3⟩
            · have : j = c := by omega
              subst this
              exact Or.inr j3.symm
          · rintro (⟨j, j1, j2, j3⟩ | rfl)
            · exact ⟨j, by omega, j2, j3⟩
            · exact ⟨c, by omega, h1, rfl⟩
      · rw [cif_neg (fun z => h2 z.2), Nat.add_zero]
        refine su_c 16 (fun q _ => ⟨fun ⟨j, j1, j2, j3⟩ => ⟨j, by omega, j2, j3⟩, ?_⟩) (fun _ _ _ => rfl)
        rintro ⟨j, j1, j2, j3⟩
        rcases Nat.lt_or_ge j c with z | z
        · exact ⟨j, z, j2, j3⟩
        · have : j = c := by omega
          subst this
          refine Classical.byContradiction fun hn => h2 fun k k1 k2 => hn ⟨k, k1, k2.1, k2.2.trans j3⟩
    · rw [cif_neg (fun z => h1 z.1), Nat.add_zero]
      refine su_c 16 (fun q _ => ⟨fun ⟨j, j1, j2, j3⟩ => ⟨j, by omega, j2, j3⟩, ?_⟩) (fun _ _ _ => rfl)
      rintro ⟨j, j1, j2, j3⟩
      rcases Nat.lt_or_ge j c with z | z
      · exact ⟨j, z, j2, j3⟩
      · have : j = c := by omega
        subst this
        exact absurd j2 h1
/-- a block of new ones -/
theorem su_blk {U : Nat → Prop} {w : Nat → Nat} {ch : Nat → Prop} {B N : Nat} : ∀ c, B + c ≤ N → (∀ j, j < c → ch j → ¬ U (B + j)) → su (fun q => U q ∨ ∃ j, j < c ∧ q = B + j ∧ ch j) w N = su U w N + su ch (fun j => w (B + j)) c
  | 0, _, _ => by
    show _ = _ + 0
    exact su_c N (fun q _ => ⟨fun z => z.elim id (fun ⟨j, h, _⟩ => absurd h (by omega)), Or.inl⟩) (fun _ _ _ => rfl)
  | c + 1, hB, hU => by
    have ih := su_blk (U := U) (w := w) (ch := ch) (B := B) (N := N) c (by omega) (fun j hj => hU j (by omega))
    show _ = su U w N + (su ch (fun j => w (B + j)) c + cif (ch c) (w (B + c)) 0)
    by_cases h : ch c
    · rw [cif_pos h, ← Nat.add_assoc, ← ih]
      refine su_add N (by omega) ?_ ?_
      · rintro (z | ⟨j, j1, j2, -⟩)
        · exact hU c (by omega) h z
        · omega
      · intro q _
        constructor
        · rintro (z | ⟨j, j1, j2, j3⟩)
          · exact Or.inl (Or.inl z)
          · rcases Nat.lt_or_ge j c with y | y
            · exact Or.inl (Or.inr ⟨j, y, j2, j3⟩)
            · exact Or.inr (by omega)
        · rintro ((z | ⟨j, j1, j2, j3⟩) | z)
          · exact Or.inl z
          · exact Or.inr ⟨j, by omega, j2, j3⟩
          · exact Or.inr ⟨c, by omega, z, h⟩
    · rw [cif_neg h, Nat.add_zero (su ch (fun j => w (B + j)) c), ← ih]
      refine su_c N (fun q _ => ⟨?_, ?_⟩) (fun _ _ _ => rfl)
      · rintro (z | ⟨j, j1, j2, j3⟩)
        · exact Or.inl z
        · rcases Nat.lt_or_ge j c with y | y
          · exact Or.inr ⟨j, y, j2, j3⟩
          · have : j = c := by omega
            subst this
            exact absurd j3 h
      · rintro (z | ⟨j, j1, j2, j3⟩)
        · exact Or.inl z
        · exact Or.inr ⟨j, by omega, j2, j3⟩
/-- what is marked below a node -/
def mb_K (m : am_M) (v : Nat → Nat) (c i d : Nat) : Nat → Prop := fun q => ¬ gs_one (ad m (v i) d) ∧ ((d < gs_to (ad m (v i) d) ∧ q = 12 * gs_to (ad m (v i) d) + i) ∨ (¬ d < gs_to (ad m (v i) d) ∧ ∃ j, j < c ∧ q = 12 * (d + 1) + j ∧ ag (v i) (v j) d ∧ ∀ k, k < j → ¬ ag (v j) (v k) (d + 1)))
theorem mo_used_w {f : pl_H} {a j : Nat} (h : mo_L f a) (hj : j < 60) {x : Int32} (hx : pl_zb x = true) : pl_sZ f (a + 7) (nI j) x = some (ux_I f (a + 7) j x) := by
  rw [ax_sZ (mo_used_s h), if_pos ⟨bs_ok hj (by decide), hx⟩, bs_cl (by omega)]
theorem mb_50e (k : Nat) (f : pl_H) (a0 : Nat) (x1 x2 x4 : Int32) : fn_M_markBelow_50 (k + 1) f a0 x1 x2 x4 = (pl_gI f a0 8 0).bind fun v1 => if v1 ≤ x4 then some f else (pl_gR f a0 8 1).bind fun v2 => (pl_aI f v2 x1).bind fun v3 => (pl_gR f a0 8 1).bind fun v4 => (pl_aI f v4 x4).bind fun v5 => (fn_M_agree f v3 v5 x2).bind fun v6 => if v6 = 0 then fn_M_markBelow_103 (fn_M_markBelow_50 k) f a0 x1 x2 x4 0 else (pl_gR f a0 8 1).bind fun v7 => (pl_aI f v7 x4).bind fun v8 => (pl_is f a0 8).bind fun u10 => (fn_M_first f a0 v8 (x2 + 1)).bind fun v9 => if v9 = x4 then fn_M_markBelow_103 (fn_M_markBelow_50 k) f a0 x1 x2 x4 1 else fn_M_markBelow_103 (fn_M_markBelow_50 k) f a0 x1 x2 x4 0 := rfl
theorem mb_103 {rc : pl_H → Nat → Int32 → Int32 → Int32 → Option pl_H} {f : pl_H} {a d j : Nat} (hM : mo_L f a) (hd : d ≤ 3) (hj : j < 12) (x1 : Int32) (b : Int32) (hb : b = 0 ∨ b = 1) : ∃ f', fn_M_markBelow_103 rc f a x1 (nI d) (nI j) b = rc f' a x1 (nI d) (nI (j + 1)) ∧ mz a (fun q => q = a + 7) (fun _ => False) f f' ∧ ∀ q, ax_I f' (a + 7) q ≠ 0 ↔ (ax_I f (a + 7) q ≠ 0 ∨ (q = 12 * (d + 1) + j ∧ b ≠ 0)) := by
  have eix : ((12 : Int32) * nI d + 12) + nI j = nI (12 * (d + 1) + j) := by
    rw [show (12 : Int32) * nI d = nI (12 * d) from pk_mul 12 d, show (12 : Int32) = nI 12 from rfl, nI_add, nI_add]
    rfl
  unfold fn_M_markBelow_103 fn_M_markBelow_142 fn_M_markBelow_147
  rw [mo_used hM, eix]
  simp only [Option.bind_some]
  rw [mo_used_g hM (by omega), Option.bind_some, nI_1]
  have fin : ∀ x : Int32, pl_zb x = true → (x ≠ 0 ↔ (ax_I f (a + 7) (12 * (d + 1) + j) ≠ 0 ∨ b ≠ 0)) → ∃ f', ((pl_sZ f (a + 7) (nI (12 * (d + 1) + j)) x).bind fun f1 => rc f1 a x1 (nI d) (nI (j + 1))) = rc f' a x1 (nI d) (nI (j + 1)) ∧ mz a (fun q => q = a + 7) (fun _ => False) f f' ∧ ∀ q, ax_I f' (a + 7) q ≠ 0 ↔ (ax_I f (a + 7) q ≠ 0 ∨ (q = 12 * (d + 1) + j ∧ b ≠ 0)) := by
    intro x hx hx2
    refine ⟨_, by rw [mo_used_w hM (by omega) hx, Option.bind_some], mz_I hM (by omega) _ _, fun q => ?_⟩
    rw [rx_I (mo_used_s hM), bs_vI]
    by_cases e : q = 12 * (d + 1) + j
    · rw [if_pos e, hx2, e]
      exact ⟨fun z => z.imp id (fun y => ⟨rfl, y⟩), fun z => z.imp id (fun y => y.2)⟩
    · rw [if_neg e]
      exact ⟨Or.inl, fun z => z.elim id (fun y => absurd y.1 e)⟩
  by_cases h0 : ax_I f (a + 7) (12 * (d + 1) + j) = 0
  · rw [if_pos h0]
    rcases hb with rfl | rfl
    · rw [if_pos rfl]
      exact fin 0 rfl ⟨fun z => absurd rfl z, fun z => z.elim (fun y => absurd h0 y) (fun y => absurd rfl y)⟩
    · rw [if_neg (by decide)]
      exact fin 1 rfl ⟨fun _ => Or.inr (by decide), fun _ => by decide⟩
  · rw [if_neg h0]
    exact fin 1 rfl ⟨fun _ => Or.inl h0, fun _ => by decide⟩
theorem mb_50 {a c i d : Nat} {m : am_M} (hi : i < c) (hd : d ≤ 3) : ∀ (r k j : Nat) (f : pl_H), c - j = r → j ≤ c → r < k → mo_R f a c m → ∃ f', fn_M_markBelow_50 k f a (nI i) (nI d) (nI j) = some f' ∧ mz a (fun q => q = a + 7) (fun _ => False) f f' ∧ ∀ q, ax_I f' (a + 7) q ≠ 0 ↔ (ax_I f (a + 7) q ≠ 0 ∨ ∃ t, j ≤ t ∧ t < c ∧ q = 12 * (d + 1) + t ∧ ag (mu f a i) (mu f a t) d ∧ ∀ s, s < t → ¬ ag (mu f a t) (mu f a s) (d + 1)) := by
  intro r
  induction r with
  | zero =>
    intro k j f hr hj hk hR
    have hc := hR.2.2.1
    obtain ⟨k, rfl⟩ : ∃ k', k = k' + 1 := ⟨k - 1, by omega⟩
    refine ⟨f, ?_, mz.rf hR.1, fun q => ⟨Or.inl, fun z => z.elim id (fun ⟨t, t1, t2, _⟩ => absurd t2 (by omega))⟩⟩
    rw [mb_50e, mo_many hR.1, hR.2.1, Option.bind_some, if_pos ((bs_le (by omega) (by omega)).mpr (by omega))]
  | succ r ih =>
    intro k j f hr hj hk hR
    have hc := hR.2.2.1
    obtain ⟨k, rfl⟩ : ∃ k', k = k' + 1 := ⟨k - 1, by omega⟩
    have hj' : j < c := by omega
    have m1 := mu_is hR hi
    have m2 := mu_is hR hj'
    rw [mb_50e, mo_many hR.1, hR.2.1, Option.bind_some, if_neg (fun z => absurd ((bs_le (by omega) (by omega)).mp z) (by omega)), mo_number hR.1]
    simp only [Option.bind_some]
    rw [mo_number_g hR.1 (show i < 13 by omega), m1.1, Option.bind_some, mo_number_g hR.1 (show j < 13 by omega), m2.1]
    simp only [Option.bind_some]
    have key : ∀ b : Int32, (b = 0 ∨ b = 1) → (b ≠ 0 ↔ ag (mu f a i) (mu f a j) d ∧ ∀ s, s < j → ¬ ag (mu f a j) (mu f a s) (d + 1)) → ∃ f', fn_M_markBelow_103 (fn_M_markBelow_50 k) f a (nI i) (nI d) (nI j) b = some f' ∧ mz a (fun q => q = a + 7) (fun _ => False) f f' ∧ ∀ q, ax_I f' (a + 7) q ≠ 0 ↔ (ax_I f (a + 7) q ≠ 0 ∨ ∃ t, j ≤ t ∧ t < c ∧ q = 12 * (d + 1) + t ∧ ag (mu f a i) (mu f a t) d ∧ ∀ s, s < t → ¬ ag (mu f a t) (mu f a s) (d + 1)) := by
      intro b hb hb2
      obtain ⟨f1, p1, z1, q1⟩ := mb_103 (rc := fn_M_markBelow_50 k) (j := j) hR.1 hd (by omega) (nI i) b hb
      have R1 := z1.R hR (fun q _ _ z => by omega) (fun z => z)
      have u1 : ∀ s, mu f1 a s = mu f a s := z1.mu (by omega)
      obtain ⟨f', p, z, q⟩ := ih k (j + 1) f1 (by omega) (by omega) (by omega) R1
      simp only [u1] at q
      refine ⟨f', p1.trans p, z1.tr z, fun r => ?_⟩
      rw [q, q1]
      constructor
      · rintro ((h | ⟨h, h'⟩) | ⟨t, t1, t2, t3⟩)
        · exact Or.inl h
        · exact Or.inr ⟨j, Nat.le_refl _, hj', h, hb2.mp h'⟩
        · exact Or.inr ⟨t, by omega, t2, t3⟩
      · rintro (h | ⟨t, t1, t2, t3, t4⟩)
        · exact Or.inl (Or.inl h)
        · rcases Nat.lt_or_ge j t with y | y
          · exact Or.inr ⟨t, y, t2, t3, t4⟩
          · have : t = j := by omega
            subst this
            exact Or.inl (Or.inr ⟨t3, hb2.mpr t4⟩)
    by_cases g : ag (mu f a i) (mu f a j) d
    · rw [ma_agy f m1.2 m2.2 (by omega) g, Option.bind_some, if_neg (by decide), ax_is hR.1.1, Option.bind_some, nI_1]
      obtain ⟨r0, p0, q0⟩ := mf_first hR m2.2 (show d + 1 ≤ 4 by omega)
      rw [p0, Option.bind_some]
      rcases q0 with ⟨t, t1, t2, rfl, t4⟩ | ⟨rfl, q0⟩
      · by_cases e : t = j
        · rw [if_pos (by rw [e])]
          subst e
          exact key 1 (Or.inr rfl) ⟨fun _ => ⟨g, t4⟩, fun _ => by decide⟩
        · rw [if_neg (fun z => e ((nI_eq (by omega) (by omega)).mp z))]
          refine key 0 (Or.inl rfl) ⟨fun z => absurd rfl z, fun z => ?_⟩
          exfalso
          rcases Nat.lt_or_ge t j with y | y
          · exact z.2 t y t2
          · exact t4 j (by omega) (ag_rf _ _)
      · exact absurd (ag_rf _ _) (q0 j hj')
    · rw [ma_agn f m1.2 m2.2 (by omega) g, Option.bind_some, if_pos rfl]
      exact key 0 (Or.inl rfl) ⟨fun z => absurd rfl z, fun z => absurd z.1 g⟩
theorem mb_mark {f : pl_H} {a c i d : Nat} {m : am_M} (hR : mo_R f a c m) (hi : i < c) (hd : d ≤ 4) : ∃ f', fn_M_markBelow f a (nI i) (nI d) = some f' ∧ mz a (fun q => q = a + 7) (fun _ => False) f f' ∧ ∀ q, ax_I f' (a + 7) q ≠ 0 ↔ (ax_I f (a + 7) q ≠ 0 ∨ mb_K m (mu f a) c i d q) := by
  have hc := hR.2.2.1
  have hG : ga m (mu f a i) := (mu_ga hR _).mpr ⟨i, hi, rfl⟩
  have lg := gn_le (fun j => ag (mu f a i) (mu f a j) d) c
  have hone := mg_one (d := d) hR hi
  have l1 : 1 ≤ gn (fun j => ag (mu f a i) (mu f a j) d) c := by
    have := gn_sub (p := fun j => ag (mu f a i) (mu f a j) d) (q := fun j => j = i) c (fun j _ e => by have e : j = i := e; subst e; exact ag_rf _ _)
    rw [gn_is, if_pos hi] at this
    exact this
  have eg : (nI (gn (fun j => ag (mu f a i) (mu f a j) d) c) ≤ 1) ↔ gs_one (ad m (mu f a i) d) := by
    rw [← hone]
    have := bs_le (a := gn (fun j => ag (mu f a i) (mu f a j) d) c) (b := 1) (by omega) (by decide)
    exact ⟨fun z => by have := this.mp z; omega, fun z => this.mpr (by omega)⟩
  have h4 := gs_to_le (ad m (mu f a i) d)
  unfold fn_M_markBelow fn_M_markBelow_37 fn_M_markBelow_154
  rw [ax_is hR.1.1, Option.bind_some, mc_common hR hi hd, Option.bind_some]
  simp only [Option.bind_some]
  rw [mg_group hR hi hd]
  simp only [Option.bind_some]
  by_cases c1 : gs_one (ad m (mu f a i) d)
  · rw [if_pos (eg.mpr c1), if_pos (eg.mpr c1)]
    exact ⟨f, rfl, mz.rf hR.1, fun q => ⟨Or.inl, fun z => z.elim id (fun y => absurd c1 y.1)⟩⟩
  · rw [if_neg (fun z => c1 (eg.mp z)), if_neg (fun z => c1 (eg.mp z))]
    have hd4 := ad_d4 hG hd c1
    by_cases c2 : d < gs_to (ad m (mu f a i) d)
    · rw [if_neg (fun z => absurd ((bs_le (by omega) (by omega)).mp z) (by omega)), mo_used hR.1, Option.bind_some, me_at, mo_used_w hR.1 (by omega) rfl, Option.bind_some]
      refine ⟨_, rfl, mz_I hR.1 (by omega) _ _, fun q => ?_⟩
      rw [rx_I (mo_used_s hR.1), bs_vI]
      unfold mb_K
      by_cases e : q = 12 * gs_to (ad m (mu f a i) d) + i
      · rw [if_pos e]
        exact ⟨fun _ => Or.inr ⟨c1, Or.inl ⟨c2, e⟩⟩, fun _ => by decide⟩
      · rw [if_neg e]
        refine ⟨Or.inl, fun z => z.elim id (fun y => ?_)⟩
        rcases y.2 with y | y
        · exact absurd y.2 e
        · exact absurd c2 y.1
    · rw [if_pos ((bs_le (by omega) (by omega)).mpr (by omega))]
      obtain ⟨f', p, z, q⟩ := mb_50 hi (show d ≤ 3 by omega) c pl_N 0 f rfl (Nat.zero_le _) (by unfold pl_N; omega) hR
      refine ⟨f', p, z, fun r => ?_⟩
      rw [q]
      unfold mb_K
      constructor
      · rintro (h | ⟨t, -, t2, t3⟩)
        · exact Or.inl h
        · exact Or.inr ⟨c1, Or.inr ⟨c2, t, t2, t3⟩⟩
      · rintro (h | ⟨-, ⟨h, -⟩ | ⟨-, t, t2, t3⟩⟩)
        · exact Or.inl h
        · exact absurd h c2
        · exact Or.inr ⟨t, Nat.zero_le _, t2, t3⟩
