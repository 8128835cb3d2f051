/-! The reference: build gives a node's code. -/
noncomputable def cs (m : am_M) (x d : Nat) : List Int32 := sc m (ad m x d) d
theorem ad_x {m : am_M} {x : Nat} (hx : ga m x) (d : Nat) : ad m x d x := ⟨hx, ag_rf _ _⟩
theorem ad_4 {m : am_M} {x : Nat} (hx : ga m x) : gs_one (ad m x 4) := ⟨x, ad_x hx 4, fun _ hz => (ag_4.mp hz.2).symm⟩
theorem ad_d4 {m : am_M} {x d : Nat} (hx : ga m x) (hd : d ≤ 4) (h : ¬ gs_one (ad m x d)) : d < 4 := by
  rcases Nat.lt_or_ge d 4 with z | z
  · exact z
  · have : d = 4 := by omega
    subst this
    exact absurd (ad_4 hx) h
theorem ad_le {m : am_M} {x d : Nat} (hx : ga m x) (hd : d ≤ 4) : d ≤ gs_to (ad m x d) := by
  rcases Nat.lt_or_ge (gs_to (ad m x d)) d with z | z
  · exfalso
    have hst : gs_st (ad m x d) d := (ad_st hx).mpr (fun _ _ h => h)
    have key : ∀ t, t ≤ 4 → d ≤ t → gs_st (ad m x d) t → (t < 4 → ¬ gs_st (ad m x d) (t + 1)) → False := by
      intro t h1 h2 h3 h4
      have := gs_to_is h1 h3 h4
      omega
    have c4 : ¬ gs_st (ad m x d) 4 := fun h => key 4 (by omega) (by omega) h (fun z => absurd z (by omega))
    have c3 : 3 < d ∨ ¬ gs_st (ad m x d) 3 := by
      rcases Nat.lt_or_ge 3 d with q | q
      · exact Or.inl q
      · exact Or.inr (fun h => key 3 (by omega) q h (fun _ => c4))
    have hd3 : d ≤ 3 := by
      rcases Nat.lt_or_ge 3 d with q | q
      · have : d = 4 := by omega
        subst this
        exact absurd hst c4
      · exact q
    have c3 : ¬ gs_st (ad m x d) 3 := fun h => key 3 (by omega) hd3 h (fun _ => c4)
    have hd2 : d ≤ 2 := by
      rcases Nat.lt_or_ge 2 d with q | q
      · have : d = 3 := by omega
        subst this
        exact absurd hst c3
      · exact q
    have c2 : ¬ gs_st (ad m x d) 2 := fun h => key 2 (by omega) hd2 h (fun _ => c3)
    have hd1 : d ≤ 1 := by
      rcases Nat.lt_or_ge 1 d with q | q
      · have : d = 2 := by omega
        subst this
        exact absurd hst c2
      · exact q
    have c1 : ¬ gs_st (ad m x d) 1 := fun h => key 1 (by omega) hd1 h (fun _ => c2)
    have hd0 : d = 0 := by
      rcases Nat.lt_or_ge 0 d with q | q
      · have : d = 1 := by omega
        subst this
        exact absurd hst c1
      · omega
    omega
  · exact z
theorem ad_to {m : am_M} {x d : Nat} (hx : ga m x) (hd : d ≤ 4) : gs_st (ad m x d) (gs_to (ad m x d)) := gs_to_st (fun _ _ hy hz => ag_0 hy.1.1 hz.1.1)
theorem ad_S {m : am_M} {x d : Nat} (hx : ga m x) (hd : d ≤ 4) : ad m x d = ad m x (gs_to (ad m x d)) := by
  have h1 := ad_le hx hd
  have h2 := gs_to_le (ad m x d)
  have h3 := ad_to hx hd
  generalize gs_to (ad m x d) = t at h1 h2 h3
  funext y
  refine propext ⟨fun h => ⟨h.1, (ad_st hx).mp h3 y h.1 h.2⟩, fun h => ⟨h.1, ag_le h1 h2 h.2⟩⟩
theorem cs_L {m : am_M} {x d : Nat} (hx : ga m x) (h : gs_one (ad m x d)) : cs m x d = sc_leaf m x d := by
  unfold cs
  rw [sc_L (Or.inl h)]
  obtain ⟨y, h1, h2⟩ := h
  rw [h2 _ (gs_y_in ⟨y, h1⟩), h2 x (ad_x hx d)]
theorem cs_S {m : am_M} {x d : Nat} (hx : ga m x) (hd : d ≤ 4) (h : ¬ gs_one (ad m x d)) (h2 : d < gs_to (ad m x d)) : cs m x d = sc_stem x d (gs_to (ad m x d)) (cs m x (gs_to (ad m x d))) := by
  have h4 := ad_d4 hx hd h
  unfold cs
  rw [← ad_S hx hd, sc_S (fun z => z.elim h (by omega)) h2]
  unfold sc_stem
  rw [dg_p_c (ad_to hx hd (gs_y (ad m x d)) x (gs_y_in ⟨x, ad_x hx d⟩) (ad_x hx d)) (by omega) (gs_to_le _)]
theorem cs_F {m : am_M} {x d : Nat} (hx : ga m x) (hd : d ≤ 4) (h : ¬ gs_one (ad m x d)) (h2 : ¬ d < gs_to (ad m x d)) : cs m x d = cd_enc 192 (sc_row (ad m x d) d (fun G' => sc m G' (d + 1)) 16 ++ [128]) := by
  have h4 := ad_d4 hx hd h
  unfold cs
  rw [sc_F (fun z => z.elim h (by omega)) h2]
  rfl
theorem ad_d {m : am_M} {x y d : Nat} (hd : d < 4) (h : ag x y d) : gs_d (ad m x d) d (dg y d) = ad m y (d + 1) := by
  funext z
  refine propext ⟨fun hz => ⟨hz.1.1, (ag_s hd).mpr ⟨ag_tr (ag_sy h) hz.1.2, hz.2.symm⟩⟩, fun hz => ?_⟩
  have := (ag_s hd).mp hz.2
  exact ⟨⟨hz.1, ag_tr h this.1⟩, this.2.symm⟩
theorem sc_row_3 (G : Nat → Prop) (d : Nat) (s : (Nat → Prop) → List Int32) : ∀ e, (sc_row G d s e).length ≤ 33 * e
  | 0 => Nat.le_refl _
  | e + 1 => by
    have ih := sc_row_3 G d s e
    show (sc_row G d s e ++ cif (∃ y, gs_d G d e y) (rf (s (gs_d G d e))) [128]).length ≤ _
    rw [List.length_append]
    by_cases c : ∃ y, gs_d G d e y
    · rw [cif_pos c]
      have := rf_l (s (gs_d G d e))
      omega
    · rw [cif_neg c]
      show _ + 1 ≤ _
      omega
theorem cs_len {m : am_M} {x d : Nat} (hx : ga m x) (hd : d ≤ 4) : (cs m x d).length ≤ 532 := by
  by_cases h : gs_one (ad m x d)
  · rw [cs_L hx h]
    have := sc_leaf_l m x d
    omega
  · by_cases h2 : d < gs_to (ad m x d)
    · rw [cs_S hx hd h h2]
      have h4 := gs_to_le (ad m x d)
      unfold sc_stem
      have l1 := dg_p_l x d (gs_to (ad m x d)) 0
      have l2 := cd_enc_1 (k := 128) (B := dg_p x d (gs_to (ad m x d)) 0) (by omega)
      have l3 := rf_l (cs m x (gs_to (ad m x d)))
      have l4 := (cd_enc_l 192 (cd_enc 128 (dg_p x d (gs_to (ad m x d)) 0) ++ rf (cs m x (gs_to (ad m x d))))).1
      rw [List.length_append] at l4
      omega
    · rw [cs_F hx hd h h2]
      have l3 := sc_row_3 (ad m x d) d (fun G' => sc m G' (d + 1)) 16
      have l4 := (cd_enc_l 192 (sc_row (ad m x d) d (fun G' => sc m G' (d + 1)) 16 ++ [128])).1
      rw [List.length_append] at l4
      have e1 : ([128] : List Int32).length = 1 := rfl
      omega
theorem fz_ {x e d : Nat} (hx : x < 65536) (he : e < 16) (hd : d < 4) : x / 2 ^ (16 - 4 * d) * 2 ^ (16 - 4 * d) + e * 2 ^ (4 * (3 - d)) < 65536 ∧ ag (x / 2 ^ (16 - 4 * d) * 2 ^ (16 - 4 * d) + e * 2 ^ (4 * (3 - d))) x d ∧ dg (x / 2 ^ (16 - 4 * d) * 2 ^ (16 - 4 * d) + e * 2 ^ (4 * (3 - d))) d = e := by
  unfold ag dg
  have : d = 0 ∨ d = 1 ∨ d = 2 ∨ d = 3 := by omega
  rcases this with rfl | rfl | rfl | rfl
  · simp only [Nat.reduceMul, Nat.reduceSub, Nat.reducePow]
    omega
  · simp only [Nat.reduceMul, Nat.reduceSub, Nat.reducePow]
    omega
  · simp only [Nat.reduceMul, Nat.reduceSub, Nat.reducePow]
    omega
  · simp only [Nat.reduceMul, Nat.reduceSub, Nat.reducePow]
    omega
/-- all references of the depths below are noted -/
def mt_R (f : pl_H) (a c : Nat) (m : am_M) (d : Nat) : Prop := ∀ e j, d < e → e ≤ 4 → j < c → me_R f a (12 * e + j) (rf (cs m (mu f a j) e))
theorem mt_z {f f' : pl_H} {a c d : Nat} {m : am_M} {S K : Nat → Prop} (h : mt_R f a c m d) (z : mz a S K f f') (h1 : ¬ S (a + 1)) (h4 : ¬ S (a + 4)) (h5 : ¬ S (a + 5)) : mt_R f' a c m d := by
  intro e j h2 h3 hj
  obtain ⟨b1, b2, b3⟩ := h e j h2 h3 hj
  rw [z.mu h1]
  exact ⟨b1, by rw [z.I (by omega) h5]; exact b2, fun i x hx => by rw [z.I (by omega) h4]; exact b3 i x hx⟩
theorem mx_142e (k : Nat) (f : pl_H) (a0 : Nat) (x2 x4 x5 : Int32) : fn_M_build_142 (k + 1) f a0 x2 x4 x5 = if 16 ≤ x5 then (pl_is f a0 8).bind fun u2 => (fn_M_put f a0 128).bind fun q1 => fn_M_build_207 q1 a0 else (pl_is f a0 8).bind fun u4 => (fn_M_first f a0 (x4 + (x5 <<< ((12 - (4 * x2)) &&& 31))) (x2 + 1)).bind fun v3 => if 0 ≤ v3 then (pl_is f a0 8).bind fun u6 => (fn_M_putReference f a0 v3 (x2 + 1)).bind fun q5 => fn_M_build_142 k q5 a0 x2 x4 (x5 + 1) else (pl_is f a0 8).bind fun u8 => (fn_M_put f a0 128).bind fun q7 => fn_M_build_142 k q7 a0 x2 x4 (x5 + 1) := rfl
theorem mx_142 {a c x d : Nat} {m : am_M} (hx : x < 65536) (hd : d < 4) : ∀ (r k e : Nat) (f : pl_H), 16 - e = r → e ≤ 16 → r < k → mo_R f a c m → mt_R f a c m d → mb_R f a (sc_row (ad m x d) d (fun G' => sc m G' (d + 1)) e) → ∃ f', fn_M_build_142 k f a (nI d) (nI (x / 2 ^ (16 - 4 * d) * 2 ^ (16 - 4 * d))) (nI e) = fn_M_build_207 f' a ∧ mb_R f' a (sc_row (ad m x d) d (fun G' => sc m G' (d + 1)) 16 ++ [128]) ∧ mz a (fun q => q = a + 8) (fun k => k = 10) f f' := by
  intro r
  induction r with
  | zero =>
    intro k e f hr he hk hR hT hb
    obtain ⟨k, rfl⟩ : ∃ k', k = k' + 1 := ⟨k - 1, by omega⟩
    have e16 : e = 16 := by omega
    subst e16
    have hl := sc_row_3 (ad m x d) d (fun G' => sc m G' (d + 1)) 16
    obtain ⟨f', p, b, z⟩ := mb_put hR.1 hb (by omega) 128
    refine ⟨f', ?_, b, z⟩
    rw [mx_142e, if_pos (by decide), ax_is hR.1.1, Option.bind_some, p, Option.bind_some]
  | succ r ih =>
    intro k e f hr he hk hR hT hb
    obtain ⟨k, rfl⟩ : ∃ k', k = k' + 1 := ⟨k - 1, by omega⟩
    have hl := sc_row_3 (ad m x d) d (fun G' => sc m G' (d + 1)) e
    have hc := hR.2.2.1
    obtain ⟨z1, z2, z3⟩ := fz_ hx (show e < 16 by omega) hd
    have hs : ((((12 - 4 * nI d) &&& 31 : Int32)).toBitVec.smod 32).toNat = 4 * (3 - d) := by
      have : d = 0 ∨ d = 1 ∨ d = 2 ∨ d = 3 := by omega
      rcases this with rfl | rfl | rfl | rfl <;> decide
    have he16 : e * 2 ^ (4 * (3 - d)) < 65536 := by omega
    have hrow : sc_row (ad m x d) d (fun G' => sc m G' (d + 1)) (e + 1) = sc_row (ad m x d) d (fun G' => sc m G' (d + 1)) e ++ cif (∃ y, gs_d (ad m x d) d e y) (rf (sc m (gs_d (ad m x d) d e) (d + 1))) [128] := rfl
    obtain ⟨r0, p0, q0⟩ := mf_first hR z1 (show d + 1 ≤ 4 by omega)
    rw [mx_142e, if_neg (show ¬ 16 ≤ nI e from fun z => absurd ((bs_le (a := 16) (by decide) (by omega)).mp z) (by omega)), ax_is hR.1.1, Option.bind_some, pk_shlN _ _ hs (by omega), nI_add, nI_1, p0, Option.bind_some, nI_1]
    rcases q0 with ⟨j, j1, j2, rfl, -⟩ | ⟨rfl, q0⟩
    · have ja := (ag_s hd).mp j2
      have jx : ag x (mu f a j) d := ag_tr (ag_sy z2) ja.1
      have je : dg (mu f a j) d = e := ja.2.symm.trans z3
      have hG : gs_d (ad m x d) d e = ad m (mu f a j) (d + 1) := by rw [← je]; exact ad_d hd jx
      have hex : ∃ y, gs_d (ad m x d) d e y := ⟨mu f a j, by rw [hG]; exact ad_x ((mu_ga hR _).mpr ⟨j, j1, rfl⟩) _⟩
      obtain ⟨f1, p1, b1, y1⟩ := me_ref (i := j) (d := d + 1) hR.1 hb (by omega) (by omega) (hT (d + 1) j (by omega) (by omega) j1) (by omega)
      have hR1 := y1.R hR (fun q _ _ => by omega) (by decide)
      have hT1 := mt_z hT y1 (by omega) (by omega) (by omega)
      obtain ⟨f', p, b, y⟩ := ih k (e + 1) f1 (by omega) (by omega) (by omega) hR1 hT1 (by
        rw [hrow, cif_pos hex, hG]
        exact b1)
      refine ⟨f', ?_, b, y1.tr y⟩
      rw [if_pos (nI_pos' (by omega)), Option.bind_some, p1, Option.bind_some]
      exact p
    · have hex : ¬ ∃ y, gs_d (ad m x d) d e y := by
        rintro ⟨y, ⟨y1, y2⟩, y3⟩
        obtain ⟨j, j1, rfl⟩ := (mu_ga hR y).mp y1
        exact q0 j j1 ((ag_s hd).mpr ⟨ag_tr z2 y2, z3.trans y3.symm⟩)
      obtain ⟨f1, p1, b1, y1⟩ := mb_put hR.1 hb (by omega) 128
      have hR1 := y1.R hR (fun q _ _ => by omega) (by decide)
      have hT1 := mt_z hT y1 (by omega) (by omega) (by omega)
      obtain ⟨f', p, b, y⟩ := ih k (e + 1) f1 (by omega) (by omega) (by omega) hR1 hT1 (by
        rw [hrow, cif_neg hex]
        exact b1)
      refine ⟨f', ?_, b, y1.tr y⟩
      rw [if_neg (by decide), Option.bind_some, p1, Option.bind_some]
      exact p
theorem ok_lN {x : Int64} {B : Nat} (h0 : 0 ≤ x.toInt) (h1 : x.toInt ≤ B) (hB : B < 2 ^ 63) : ∃ V, x = lN V ∧ V ≤ B := by
  obtain ⟨V, h2, rfl⟩ := pk_lOf (x := x) (fun z => by
    have := Int64.lt_iff_toInt_lt.mp z
    have e : (0 : Int64).toInt = 0 := rfl
    omega)
  rw [pk_lT h2] at h1
  exact ⟨V, rfl, by omega⟩
theorem nb_len2 {V : Nat} (h : V < 2 ^ 16) : (nb (lN V)).length ≤ 3 := by
  obtain ⟨N, -, hN⟩ := mb_of (fun _ => pl_dum) (show V < 2 ^ 56 by omega)
  have h2 : N ≤ 2 := by
    rcases hN.2 with g | ⟨k, k1, k2⟩
    · omega
    · rcases Nat.lt_or_ge 1 k with z | z
      · have := Nat.pow_le_pow_right (show 0 < 2 by decide) (show 16 ≤ 8 * k by omega)
        omega
      · omega
  rw [nb_N (by omega) hN]
  have l1 := nb_a_l (lN V) N
  have l2 := cd_enc_1 (k := 128) (B := nb_a (lN V) N) (by omega)
  omega
theorem nb_len7 {V : Nat} (h : V < 2 ^ 56) : (nb (lN V)).length ≤ 8 := by
  obtain ⟨N, -, hN⟩ := mb_of (fun _ => pl_dum) h
  have h7 := nb_is_8 h hN
  rw [nb_N h hN]
  have l1 := nb_a_l (lN V) N
  have l2 := cd_enc_1 (k := 128) (B := nb_a (lN V) N) (by omega)
  omega
def mx_S (a : Nat) : Nat → Prop := fun q => a + 8 ≤ q ∧ q ≤ a + 11
def mx_K : Nat → Prop := fun k => k = 10 ∨ k = 12
theorem mx_207 {f f1 : pl_H} {a : Nat} {B : List Int32} (h : mb_R f1 a B) (hB : B.length ≤ 540) (z : mz a (mx_S a) mx_K f f1) : ∃ f', fn_M_build_207 f1 a = some f' ∧ mc_R f' a (cd_enc 192 B) ∧ mz a (mx_S a) mx_K f f' := by
  obtain ⟨f', p, r, y⟩ := mn_fin z.1 h hB
  refine ⟨f', ?_, r, z.tr (y.mo (fun q hq => by unfold mx_S; omega) (fun k hk => Or.inr hk))⟩
  unfold fn_M_build_207
  rw [ax_is z.1.1, Option.bind_some, p, Option.bind_some]
set_option maxHeartbeats 2000000 in
theorem mx_build {f : pl_H} {a c i d K : Nat} {m : am_M} (hR : mo_R f a c m) (hok : am_ok K m) (hK : K ≤ 512) (hi : i < c) (hd : d ≤ 4) (hT : mt_R f a c m d) : ∃ f', fn_M_build f a (nI i) (nI d) = some f' ∧ mc_R f' a (cs m (mu f a i) d) ∧ mz a (mx_S a) mx_K f f' := by
  have hc := hR.2.2.1
  have hmu := mu_is hR hi
  have hx : ga m (mu f a i) := (mu_ga hR _).mpr ⟨i, hi, rfl⟩
  have y1 : mz a (mx_S a) mx_K f (ux_f f a 10 (.int 0)) := (mz_f (S := mx_S a) hR.1 rfl 0).mo (fun _ h => h) (fun k hk => Or.inl hk)
  have nS : ∀ q, a < q → q ≤ a + 3 → ¬ mx_S a q := fun q _ _ z => by unfold mx_S at z; omega
  have R1 := y1.R hR nS (by unfold mx_K; omega)
  have u1 : ∀ j, mu (ux_f f a 10 (.int 0)) a j = mu f a j := fun j => y1.mu (nS _ (by omega) (by omega)) j
  have T1 := mt_z hT y1 (nS _ (by omega) (by omega)) (fun z => by unfold mx_S at z; omega) (fun z => by unfold mx_S at z; omega)
  have b1 : mb_R (ux_f f a 10 (.int 0)) a [] := ⟨ix_f hR.1.1 (by decide), fun j x hj => by simp at hj⟩
  unfold fn_M_build
  rw [mo_bodyLength_p hR.1, Option.bind_some]
  generalize ux_f f a 10 (.int 0) = f1 at y1 R1 u1 T1 b1
  have lg := gn_le (fun j => ag (mu f1 a i) (mu f1 a j) d) c
  have hone := mg_one (d := d) R1 hi
  rw [ax_is R1.1.1, Option.bind_some, mc_common R1 hi hd, Option.bind_some, Option.bind_some, mg_group R1 hi hd, Option.bind_some]
  have m1 := mu_is R1 hi
  rw [u1] at m1
  simp only [u1] at hone lg ⊢
  have eg : (nI (gn (fun j => ag (mu f a i) (mu f a j) d) c) = 1) ↔ gs_one (ad m (mu f a i) d) := by
    rw [← hone]
    exact nI_eq (b := 1) (by omega) (by decide)
  by_cases c1 : gs_one (ad m (mu f a i) d)
  · rw [if_pos (eg.mpr c1), mo_number R1.1, Option.bind_some, mo_number_g R1.1 (by omega), m1.1, Option.bind_some, cs_L hx c1]
    obtain ⟨f2, p2, b2, y2⟩ := md_dig (fl := 2) (e := 4) R1.1 b1 hmu.2 hd (Nat.le_refl _) (by show 0 + 4 ≤ 600; omega) 1 rfl
    have p2 : fn_M_putDigits f1 a (nI (mu f a i)) (nI d) 4 1 = some f2 := p2
    have R2 := y2.R R1 (fun q _ _ z => by omega) (by decide)
    have u2 : mu f2 a i = mu f a i := (y2.mu (by omega) i).trans (u1 i)
    have hat := am_at R2.2.2.2 hi
    rw [(mu_is R2 hi).1, u2] at hat
    have hn : am_n m (nI (mu f a i)) = ax_I f2 (a + 2) i := by unfold am_n; rw [hat]
    have hb : am_b m (nI (mu f a i)) = ax_L f2 (a + 3) i := by unfold am_b; rw [hat]
    have okn := am_n_ok hok (nI (mu f a i))
    have okb := am_b_ok hok (nI (mu f a i))
    obtain ⟨Vn, en, ln⟩ := ok_lN (x := (am_n m (nI (mu f a i))).toInt64) (B := 512) (by rw [Int32.toInt_toInt64]; exact okn.1) (by rw [Int32.toInt_toInt64]; omega) (by decide)
    obtain ⟨Vb, eb, lb⟩ := ok_lN (x := am_b m (nI (mu f a i))) (B := 1024000000000000) okb.1 (by omega) (by decide)
    obtain ⟨f3, p3, v3, y3⟩ := mv_num (N := Vn) (V := []) R2.1 (fun j x hj => by simp at hj) (by omega) (by decide)
    have l3 := nb_len2 (V := Vn) (by omega)
    have l3' : ([] ++ nb (lN Vn)).length ≤ 3 := l3
    have R3 := y3.R R2 (fun q _ _ z => by omega) (by decide)
    have e3 : ax_L f3 (a + 3) i = ax_L f2 (a + 3) i := by rw [y3.L (by omega) (by omega)]
    obtain ⟨f4, p4, v4, y4⟩ := mv_num (N := Vb) (V := [] ++ nb (lN Vn)) R3.1 v3 (by omega) (by omega)
    have p4 : fn_M_putNumber f3 a (nI (1 + (([] : List Int32) ++ nb (lN Vn)).length)) (lN Vb) = some (nI (1 + (nb (lN Vn) ++ nb (lN Vb)).length), f4) := p4
    have e192 : (192 + nI (1 + (nb (lN Vn) ++ nb (lN Vb)).length)) - 1 = 192 + nI (nb (lN Vn) ++ nb (lN Vb)).length := by
      rw [show (192 : Int32) = nI 192 from rfl, nI_add, nI_add, show 192 + (1 + (nb (lN Vn) ++ nb (lN Vb)).length) = (192 + (nb (lN Vn) ++ nb (lN Vb)).length) + 1 by omega, nI_pred]
    have l4 := nb_len7 (V := Vb) (by omega)
    have R4 := y4.R R3 (fun q _ _ z => by omega) (by decide)
    have lL : ([] ++ nb (lN Vn) ++ nb (lN Vb)).length = (nb (lN Vn) ++ nb (lN Vb)).length := rfl
    have lL2 : (nb (lN Vn) ++ nb (lN Vb)).length = (nb (lN Vn)).length + (nb (lN Vb)).length := List.length_append
    have y5 := mz_I (K := fun _ => False) R4.1 (show a + 11 ≠ a by omega) 0 (192 + nI (nb (lN Vn) ++ nb (lN Vb)).length)
    have eenc : cd_enc 192 (nb (lN Vn) ++ nb (lN Vb)) = (192 + nI (nb (lN Vn) ++ nb (lN Vb)).length) :: (nb (lN Vn) ++ nb (lN Vb)) := by
      unfold cd_enc cd_hd
      rw [if_pos (Or.inl rfl), if_pos (by omega)]
      rfl
    have lenc : (cd_enc 192 (nb (lN Vn) ++ nb (lN Vb))).length = 1 + (nb (lN Vn) ++ nb (lN Vb)).length := by
      rw [eenc, List.length_cons]
      omega
    have b5 : mb_R (ux_I f4 (a + 11) 0 (192 + nI (nb (lN Vn) ++ nb (lN Vb)).length)) a ([] ++ cd_enc 128 (dg_p (mu f a i) d 4 2)) := by
      refine ⟨?_, fun j x hj => ?_⟩
      · rw [ix_I, y4.i (by decide), y3.i (by decide)]
        exact b2.1
      · rw [rx_I_ne (by omega), y4.I (by omega) (by omega), y3.I (by omega) (by omega)]
        exact b2.2 j x hj
    have l5 := dg_p_l (mu f a i) d 4 2
    have l6 := cd_enc_1 (k := 128) (B := dg_p (mu f a i) d 4 2) (by omega)
    have l7 : ([] ++ cd_enc 128 (dg_p (mu f a i) d 4 2)).length ≤ 4 := by
      show (cd_enc 128 (dg_p (mu f a i) d 4 2)).length ≤ 4
      omega
    obtain ⟨f6, p6, b6, y6⟩ := mr_row (a1 := a + 11) (N := 16) (B := cd_enc 192 (nb (lN Vn) ++ nb (lN Vb))) y5.1 b5 (by omega) (by omega) (mo_value_s y5.1) (by omega) (by decide) (fun j x hj => by
      rw [eenc] at hj
      rw [rx_I (mo_value_s R4.1), bs_vI]
      cases j with
      | zero =>
        rw [if_pos rfl]
        exact Option.some.inj hj
      | succ j =>
        rw [if_neg (by omega), show j + 1 = 1 + j by omega]
        exact v4 j x hj) (by omega) (by omega)
    have Y : mz a (mx_S a) mx_K f f6 := ((((y1.tr (y2.mo (fun q hq => by unfold mx_S; omega) (fun k hk => Or.inl hk))).tr (y3.mo (fun q hq => by unfold mx_S; omega) (fun k hk => hk.elim))).tr (y4.mo (fun q hq => by unfold mx_S; omega) (fun k hk => hk.elim))).tr (y5.mo (fun q hq => by unfold mx_S; omega) (fun k hk => hk.elim))).tr (y6.mo (fun q hq => by unfold mx_S; omega) (fun k hk => Or.inl hk))
    have l8 := cd_enc_1 (k := 128) (B := cd_enc 192 (nb (lN Vn) ++ nb (lN Vb))) (by omega)
    obtain ⟨f7, p7, c7, y7⟩ := mx_207 b6 (by rw [List.length_append]; omega) Y
    refine ⟨f7, ?_, ?_, y7⟩
    · rw [Option.bind_some, p2, Option.bind_some, mo_nonces R2.1, Option.bind_some, mo_nonces_g R2.1 (by omega), ← hn, Option.bind_some, ax_is R2.1.1, Option.bind_some, en]
      rw [show fn_M_putNumber f2 a 1 (lN Vn) = some (nI (1 + (([] : List Int32) ++ nb (lN Vn)).length), f3) from p3, Option.bind_some, mo_balances R3.1, Option.bind_some, mo_balances_g R3.1 (by omega), e3, ← hb, Option.bind_some, ax_is R3.1.1, Option.bind_some, eb, p4, Option.bind_some, mo_value R4.1, Option.bind_some]
      dsimp only
      rw [e192]
      rw [show pl_sI f4 (a + 11) 0 (192 + nI (nb (lN Vn) ++ nb (lN Vb)).length) = some _ from mo_value_w R4.1 (j := 0) (by decide) _, Option.bind_some, mo_value y5.1, Option.bind_some, ax_is y5.1.1, Option.bind_some, ← lenc, p6, Option.bind_some]
      exact p7
    · unfold sc_leaf
      rw [en, eb]
      exact c7
  · rw [if_neg (fun z => c1 (eg.mp z))]
    have hd4 := ad_d4 hx hd c1
    have h4 := gs_to_le (ad m (mu f a i) d)
    by_cases c2 : d < gs_to (ad m (mu f a i) d)
    · rw [if_neg (fun z => absurd ((bs_le (by omega) (by omega)).mp z) (by omega)), mo_number R1.1, Option.bind_some, mo_number_g R1.1 (by omega), m1.1, Option.bind_some, cs_S hx hd c1 c2]
      obtain ⟨f2, p2, b2, y2⟩ := md_dig (fl := 0) (e := gs_to (ad m (mu f a i) d)) R1.1 b1 hmu.2 (Nat.le_of_lt c2) h4 (by show 0 + 4 ≤ 600; omega) 0 rfl
      have R2 := y2.R R1 (fun q _ _ z => by omega) (by decide)
      have T2 := mt_z T1 y2 (by omega) (by omega) (by omega)
      have u2 : mu f2 a i = mu f a i := (y2.mu (by omega) i).trans (u1 i)
      have l5 := dg_p_l (mu f a i) d (gs_to (ad m (mu f a i) d)) 0
      have l6 := cd_enc_1 (k := 128) (B := dg_p (mu f a i) d (gs_to (ad m (mu f a i) d)) 0) (by omega)
      have l7 : ([] ++ cd_enc 128 (dg_p (mu f a i) d (gs_to (ad m (mu f a i) d)) 0)).length ≤ 4 := by
        show (cd_enc 128 _).length ≤ 4
        omega
      have E := T2 (gs_to (ad m (mu f a i) d)) i c2 h4 hi
      rw [u2] at E
      obtain ⟨f3, p3, b3, y3⟩ := me_ref R2.1 b2 h4 (by omega) E (by omega)
      have Y : mz a (mx_S a) mx_K f f3 := (y1.tr (y2.mo (fun q hq => by unfold mx_S; omega) (fun k hk => Or.inl hk))).tr (y3.mo (fun q hq => by unfold mx_S; omega) (fun k hk => Or.inl hk))
      have l8 := rf_l (cs m (mu f a i) (gs_to (ad m (mu f a i) d)))
      obtain ⟨f4, p4, c4, y4⟩ := mx_207 b3 (by rw [List.length_append]; omega) Y
      refine ⟨f4, ?_, c4, y4⟩
      rw [Option.bind_some, p2, Option.bind_some, ax_is R2.1.1, Option.bind_some, p3, Option.bind_some]
      exact p4
    · rw [if_pos ((bs_le (by omega) (by omega)).mpr (by omega)), mo_number R1.1, Option.bind_some, mo_number_g R1.1 (by omega), m1.1, Option.bind_some, cs_F hx hd c1 c2]
      have h1 := Nat.div_mul_le_self (mu f a i) (2 ^ (16 - 4 * d))
      rw [pk_shrN (by omega) _ _ (ma_sh hd), pk_shlN _ _ (ma_sh hd) (by omega)]
      obtain ⟨f2, p2, b2, y2⟩ := mx_142 hmu.2 hd4 16 pl_N 0 f1 rfl (by decide) (by decide) R1 T1 b1
      have Y : mz a (mx_S a) mx_K f f2 := y1.tr (y2.mo (fun q hq => by unfold mx_S; omega) (fun k hk => Or.inl hk))
      have l8 := sc_row_3 (ad m (mu f a i) d) d (fun G' => sc m G' (d + 1)) 16
      obtain ⟨f4, p4, c4, y4⟩ := mx_207 b2 (by rw [List.length_append]; show _ + 1 ≤ 540; omega) Y
      refine ⟨f4, ?_, c4, y4⟩
      rw [show (0 : Int32) = nI 0 from rfl, p2]
      exact p4
