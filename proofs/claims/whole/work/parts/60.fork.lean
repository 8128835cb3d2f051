/-! growFork: digits in order, the inner loop. -/
theorem dg_mono {x y d : Nat} (hd : d < 4) (h : ag x y d) (hxy : x ≤ y) : dg x d ≤ dg y d := by
  unfold ag at h
  unfold dg
  have e1 : 4 * (3 - d) = 16 - 4 * (d + 1) := by omega
  have e2 : 2 ^ (16 - 4 * d) = 2 ^ (16 - 4 * (d + 1)) * 16 := by
    rw [show 16 - 4 * d = (16 - 4 * (d + 1)) + 4 by omega, Nat.pow_add]
  rw [e2, ← Nat.div_div_eq_div_mul, ← Nat.div_div_eq_div_mul] at h
  rw [e1]
  have := Nat.div_le_div_right (c := 2 ^ (16 - 4 * (d + 1))) hxy
  generalize x / 2 ^ (16 - 4 * (d + 1)) = p at *
  generalize y / 2 ^ (16 - 4 * (d + 1)) = q at *
  omega
/-- how many digits have accounts -/
noncomputable def rn (G : Nat → Prop) (d e : Nat) : Nat := nc_s G d (fun _ => 1) e
theorem rn_s (G : Nat → Prop) (d e : Nat) : rn G d (e + 1) = rn G d e + cif (∃ y, gs_d G d e y) 1 0 := rfl
theorem rn_le (G : Nat → Prop) (d e : Nat) : rn G d e ≤ rn G d (e + 1) := by rw [rn_s]; omega
theorem rn_mono (G : Nat → Prop) (d : Nat) : ∀ k e, rn G d e ≤ rn G d (e + k)
  | 0, _ => Nat.le_refl _
  | k + 1, e => Nat.le_trans (rn_mono G d k e) (rn_le G d (e + k))
theorem rn_1 {G : Nat → Prop} {d e N : Nat} (h : ∃ y, gs_d G d e y) (he : e < N) : rn G d e + 1 ≤ rn G d N := by
  have h1 := rn_s G d e
  rw [cif_pos h] at h1
  have h2 := rn_mono G d (N - (e + 1)) (e + 1)
  rw [show e + 1 + (N - (e + 1)) = N by omega] at h2
  omega
theorem rn_2 {G : Nat → Prop} {d e e' N : Nat} (h : ∃ y, gs_d G d e y) (h' : ∃ y, gs_d G d e' y) (hee : e < e') (he : e' < N) : 2 ≤ rn G d N := by
  have a := rn_1 h hee
  have b := rn_1 h' he
  omega
theorem sc_row_l (G : Nat → Prop) (d : Nat) (s : (Nat → Prop) → List Int32) : ∀ e, (sc_row G d s e).length ≤ e + 32 * rn G d e
  | 0 => Nat.zero_le _
  | e + 1 => by
    have h := sc_row_l G d s e
    have h1 := rn_s G d e
    show (sc_row G d s e ++ cif (∃ y, gs_d G d e y) (rf (s (gs_d G d e))) [128]).length ≤ _
    rw [List.length_append]
    by_cases z : ∃ y, gs_d G d e y
    · rw [cif_pos z] at h1 ⊢
      have := rf_l (s (gs_d G d e))
      omega
    · rw [cif_neg z] at h1 ⊢
      show _ + 1 ≤ _
      omega
theorem fk_two {G : Nat → Prop} {d : Nat} (hd : d < 4) (hst : gs_st G d) (hn : ¬ gs_st G (d + 1)) : 2 ≤ rn G d 16 := by
  have : ∃ y z, G y ∧ G z ∧ dg y d ≠ dg z d := by
    refine Classical.byContradiction fun w => hn fun y z hy hz => ?_
    refine (ag_s hd).mpr ⟨hst y z hy hz, Classical.byContradiction fun q => w ⟨y, z, hy, hz, q⟩⟩
  obtain ⟨y, z, hy, hz, hne⟩ := this
  have a : ∃ u, gs_d G d (dg y d) u := ⟨y, hy, rfl⟩
  have b : ∃ u, gs_d G d (dg z d) u := ⟨z, hz, rfl⟩
  have ly := dg_lt y d
  have lz := dg_lt z d
  rcases Nat.lt_or_ge (dg y d) (dg z d) with w | w
  · exact rn_2 a b w lz
  · exact rn_2 b a (by omega) ly
theorem fk_27e (gr : pl_H → Nat → Int32 → Int32 → Int32 → Option (Nat × pl_H)) (rc : pl_H → Nat → Int32 → Int32 → Nat → Int32 → Int32 → Option (Nat × pl_H)) (k : Nat) (f : pl_H) (a0 : Nat) (x2 x3 : Int32) (a4 : Nat) (x5 x6 x7 : Int32) : fn_T_growFork_27 gr rc (k + 1) f a0 x2 x3 a4 x5 x6 x7 = if x2 ≤ x7 then fn_T_growFork_57 gr rc f a0 x2 x3 a4 x5 x6 x7 else (pl_gR f a0 5 0).bind fun v1 => (pl_is f v1 0).bind fun u3 => (fn_B_numberAt f v1 x7).bind fun v2 => (fn_L_digit f v2 x3).bind fun v4 => if v4 = x6 then fn_T_growFork_27 gr rc k f a0 x2 x3 a4 x5 x6 (x7 + 1) else fn_T_growFork_57 gr rc f a0 x2 x3 a4 x5 x6 x7 := rfl
theorem fk_27 {gr : pl_H → Nat → Int32 → Int32 → Int32 → Option (Nat × pl_H)} {rc : pl_H → Nat → Int32 → Int32 → Nat → Int32 → Int32 → Option (Nat × pl_H)} {f : pl_H} {n c b d e s a4 : Nat} {m : am_M} (hb : bk_R f (n + 1) c m) (hL : tr_L f n) (hbc : b ≤ c) (hd : d < 4) (he : e < 16) : ∀ (j k t : Nat), b - t = j → t ≤ b → j < k → ∃ to, fn_T_growFork_27 gr rc k f (n + 9) (nI b) (nI d) a4 (nI s) (nI e) (nI t) = fn_T_growFork_57 gr rc f (n + 9) (nI b) (nI d) a4 (nI s) (nI e) (nI to) ∧ t ≤ to ∧ to ≤ b ∧ (∀ i, t ≤ i → i < to → dg (nu f n i) d = e) ∧ (to < b → dg (nu f n to) d ≠ e) := by
  have hc := hb.2.2.1
  intro j
  induction j with
  | zero =>
    intro k t hj ht hk
    obtain ⟨k, rfl⟩ : ∃ k', k = k' + 1 := ⟨k - 1, by omega⟩
    refine ⟨t, ?_, Nat.le_refl _, ht, fun i h1 h2 => absurd h1 (by omega), fun z => absurd z (by omega)⟩
    rw [fk_27e, if_pos ((bs_le (by omega) (by omega)).mpr (by omega))]
  | succ j ih =>
    intro k t hj ht hk
    obtain ⟨k, rfl⟩ : ∃ k', k = k' + 1 := ⟨k - 1, by omega⟩
    have hx := nu_is hb (show t < c by omega)
    have hdl := dg_lt (nu f n t) d
    rw [fk_27e, if_neg (fun z => absurd ((bs_le (by omega) (by omega)).mp z) (by omega)), tg_0 hL, Option.bind_some, ax_is hb.1.1, Option.bind_some, nu_at hb (by omega), Option.bind_some, dg_at f hx.2 hd, Option.bind_some]
    by_cases hde : dg (nu f n t) d = e
    · rw [if_pos (by rw [hde]), show nI t + 1 = nI (t + 1) from nI_add t 1]
      obtain ⟨to, g1, g2, g3, g4, g5⟩ := ih k (t + 1) (by omega) (by omega) (by omega)
      refine ⟨to, g1, by omega, g3, fun i h1 h2 => ?_, g5⟩
      by_cases hi : i = t
      · rw [hi]; exact hde
      · exact g4 i (by omega) h2
    · rw [if_neg (fun z => hde ((nI_eq (by omega) (by omega)).mp z))]
      exact ⟨t, rfl, Nat.le_refl _, ht, fun i h1 h2 => absurd h1 (by omega), fun _ => hde⟩
/-- what holds before digit e -/
def fk_I (m : am_M) (f1 : pl_H) (n c : Nat) (W : List Int32) (T a b d D : Nat) (G : Nat → Prop) (f : pl_H) (e s : Nat) (X : List Int32) (T1 : Nat) : Prop := gw f n c m (W ++ X) T1 ∧ fr n T f1 f ∧ f (n + 15 + 2 * T) = f1 (n + 15 + 2 * T) ∧ (a ≤ s ∧ s ≤ b) ∧ (∀ j, a ≤ j → j < s → dg (nu f n j) d < e) ∧ (∀ j, s ≤ j → j < b → e ≤ dg (nu f n j) d) ∧ (T + 1 ≤ T1 ∧ T1 + 2 * rn G d e ≤ T + 1 + 3 * (s - a) ∧ X.length + 122 * rn G d e ≤ 147 * (s - a) ∧ rn G d e ≤ s - a ∧ (a < s → 1 ≤ rn G d e)) ∧ (∀ e', e' < 16 → (e' < e → ((∃ y, gs_d G d e' y) → ∃ i', ax_Q f (n + 16 + 2 * T) e' = some (n + 15 + 2 * i') ∧ nd_R m f n (W ++ X) T1 D (T + 1) i' (gs_d G d e') (d + 1)) ∧ ((¬ ∃ y, gs_d G d e' y) → ax_Q f (n + 16 + 2 * T) e' = none)) ∧ (e ≤ e' → ax_Q f (n + 16 + 2 * T) e' = none)) ∧ ∀ kd, kd < 4 → ax_I f (n + 13) kd = ax_I f1 (n + 13) kd + nI (nc_s G d (fun G' => nc kd G' (d + 1)) e)
