/-! The specification of a node's code: over the set of accounts that agree up to a depth. -/
noncomputable def cif {α : Type} (P : Prop) (a b : α) : α := @ite α P (Classical.propDecidable P) a b
theorem cif_pos {α : Type} {P : Prop} {a b : α} (h : P) : cif P a b = a := by
  unfold cif
  exact if_pos h
theorem cif_neg {α : Type} {P : Prop} {a b : α} (h : ¬ P) : cif P a b = b := by
  unfold cif
  exact if_neg h
def ag (x y d : Nat) : Prop := x / 2 ^ (16 - 4 * d) = y / 2 ^ (16 - 4 * d)
theorem ag_0 {x y : Nat} (hx : x < 65536) (hy : y < 65536) : ag x y 0 := by
  unfold ag
  rw [Nat.div_eq_of_lt (by omega), Nat.div_eq_of_lt (by omega)]
theorem ag_4 {x y : Nat} : ag x y 4 ↔ x = y := by
  unfold ag
  simp
theorem ag_s {x y d : Nat} (hd : d < 4) : ag x y (d + 1) ↔ ag x y d ∧ dg x d = dg y d := by
  unfold ag dg
  have e1 : 4 * (3 - d) = 16 - 4 * (d + 1) := by omega
  have e2 : 2 ^ (16 - 4 * d) = 2 ^ (16 - 4 * (d + 1)) * 16 := by
    rw [show 16 - 4 * d = (16 - 4 * (d + 1)) + 4 by omega, Nat.pow_add]
  rw [e1, e2, ← Nat.div_div_eq_div_mul, ← Nat.div_div_eq_div_mul]
  generalize x / 2 ^ (16 - 4 * (d + 1)) = p
  generalize y / 2 ^ (16 - 4 * (d + 1)) = q
  omega
theorem ag_rf (x d : Nat) : ag x x d := rfl
theorem ag_sy {x y d : Nat} (h : ag x y d) : ag y x d := Eq.symm h
theorem ag_tr {x y z d : Nat} (h : ag x y d) (h2 : ag y z d) : ag x z d := Eq.trans h h2
theorem ag_mono {x y : Nat} : ∀ {k d : Nat}, d + k ≤ 4 → ag x y (d + k) → ag x y d
  | 0, _, _, h => h
  | k + 1, d, hd, h => by
    have h1 := ((ag_s (d := d + k) (by omega)).mp h).1
    exact ag_mono (k := k) (by omega) h1
theorem ag_le {x y d e : Nat} (hde : d ≤ e) (he : e ≤ 4) (h : ag x y e) : ag x y d := by
  obtain ⟨k, rfl⟩ : ∃ k, e = d + k := ⟨e - d, by omega⟩
  exact ag_mono he h
theorem ag_dg {x y d e : Nat} (hde : d < e) (he : e ≤ 4) (h : ag x y e) : dg x d = dg y d := ((ag_s (by omega)).mp (ag_le (d := d + 1) hde he h)).2
/-- digits of two accounts that agree are packed alike -/
theorem dg_r_c {x y e : Nat} (h : ag x y e) (he : e ≤ 4) : ∀ k d, d + 2 * k ≤ e → dg_r x k d = dg_r y k d
  | 0, _, _ => rfl
  | k + 1, d, hd => by
    show nI (16 * dg x d + dg x (d + 1)) :: dg_r x k (d + 2) = nI (16 * dg y d + dg y (d + 1)) :: dg_r y k (d + 2)
    rw [ag_dg (d := d) (by omega) he h, ag_dg (d := d + 1) (by omega) he h, dg_r_c h he k (d + 2) (by omega)]
theorem dg_p_c {x y d e : Nat} (h : ag x y e) (hde : d ≤ e) (he : e ≤ 4) (fl : Nat) : dg_p x d e fl = dg_p y d e fl := by
  unfold dg_p
  by_cases hp : (e - d) % 2 = 0
  · rw [if_pos hp, if_pos hp, dg_r_c h he _ _ (by omega)]
  · rw [if_neg hp, if_neg hp, dg_r_c h he _ _ (by omega), ag_dg (d := d) (by omega) he h]
def gs_one (G : Nat → Prop) : Prop := ∃ y, G y ∧ ∀ z, G z → z = y
noncomputable def gs_y (G : Nat → Prop) : Nat := @dite Nat (∃ y, G y) (Classical.propDecidable _) (fun h => Classical.choose h) (fun _ => 0)
theorem gs_y_in {G : Nat → Prop} (h : ∃ y, G y) : G (gs_y G) := by
  unfold gs_y
  rw [dif_pos h]
  exact Classical.choose_spec h
def gs_st (G : Nat → Prop) (t : Nat) : Prop := ∀ y z, G y → G z → ag y z t
noncomputable def gs_to (G : Nat → Prop) : Nat := cif (gs_st G 4) 4 (cif (gs_st G 3) 3 (cif (gs_st G 2) 2 (cif (gs_st G 1) 1 0)))
theorem gs_to_le (G : Nat → Prop) : gs_to G ≤ 4 := by
  unfold gs_to
  by_cases h4 : gs_st G 4
  · rw [cif_pos h4]; omega
  · rw [cif_neg h4]
    by_cases h3 : gs_st G 3
    · rw [cif_pos h3]; omega
    · rw [cif_neg h3]
      by_cases h2 : gs_st G 2
      · rw [cif_pos h2]; omega
      · rw [cif_neg h2]
        by_cases h1 : gs_st G 1
        · rw [cif_pos h1]; omega
        · rw [cif_neg h1]; omega
theorem gs_st_le {G : Nat → Prop} {d e : Nat} (hde : d ≤ e) (he : e ≤ 4) (h : gs_st G e) : gs_st G d := fun y z hy hz => ag_le hde he (h y z hy hz)
/-- the greatest depth up to which all agree -/
theorem gs_to_is {G : Nat → Prop} {t : Nat} (ht : t ≤ 4) (h : gs_st G t) (hn : t < 4 → ¬ gs_st G (t + 1)) : gs_to G = t := by
  unfold gs_to
  have no : ∀ e, t < e → e ≤ 4 → ¬ gs_st G e := fun e h1 h2 z => hn (by omega) (gs_st_le (by omega) h2 z)
  have c : t = 4 ∨ t = 3 ∨ t = 2 ∨ t = 1 ∨ t = 0 := by omega
  rcases c with rfl | rfl | rfl | rfl | rfl
  · rw [cif_pos h]
  · rw [cif_neg (no 4 (by omega) (by omega)), cif_pos h]
  · rw [cif_neg (no 4 (by omega) (by omega)), cif_neg (no 3 (by omega) (by omega)), cif_pos h]
  · rw [cif_neg (no 4 (by omega) (by omega)), cif_neg (no 3 (by omega) (by omega)), cif_neg (no 2 (by omega) (by omega)), cif_pos h]
  · rw [cif_neg (no 4 (by omega) (by omega)), cif_neg (no 3 (by omega) (by omega)), cif_neg (no 2 (by omega) (by omega)), cif_neg (no 1 (by omega) (by omega))]
/-- how a node is referred to -/
noncomputable def rf_h (c : List Int32) : List Int32 := 160 :: (List.range 32).map (fun i => kk_h (fun j => c.getD j 0) c.length i)
noncomputable def rf (c : List Int32) : List Int32 := if c.length < 32 then c else rf_h c
theorem rf_h_l (c : List Int32) : (rf_h c).length = 33 := by
  unfold rf_h
  simp
theorem rf_l (c : List Int32) : (rf c).length ≤ 33 := by
  unfold rf
  split
  · omega
  · rw [rf_h_l]; omega
def sc_leaf (m : am_M) (x d : Nat) : List Int32 := cd_enc 192 (cd_enc 128 (dg_p x d 4 2) ++ cd_enc 128 (cd_enc 192 (nb (am_n m (nI x)).toInt64 ++ nb (am_b m (nI x)))))
noncomputable def sc_stem (x d t : Nat) (sub : List Int32) : List Int32 := cd_enc 192 (cd_enc 128 (dg_p x d t 0) ++ rf sub)
def gs_d (G : Nat → Prop) (d e : Nat) : Nat → Prop := fun y => G y ∧ dg y d = e
/-- a fork's bytes: so many digits -/
noncomputable def sc_row (G : Nat → Prop) (d : Nat) (s : (Nat → Prop) → List Int32) : Nat → List Int32
  | 0 => []
  | e + 1 => sc_row G d s e ++ cif (∃ y, gs_d G d e y) (rf (s (gs_d G d e))) [128]
noncomputable def sc_fork (G : Nat → Prop) (d : Nat) (s : (Nat → Prop) → List Int32) : List Int32 := cd_enc 192 (sc_row G d s 16 ++ [128])
noncomputable def sc_n (m : am_M) : Nat → (Nat → Prop) → Nat → List Int32
  | 0, _, _ => []
  | j + 1, G, d => cif (gs_one G ∨ 4 ≤ d) (sc_leaf m (gs_y G) d) (cif (d < gs_to G) (sc_stem (gs_y G) d (gs_to G) (sc_n m j G (gs_to G))) (sc_fork G d (fun G' => sc_n m j G' (d + 1))))
theorem sc_fuel (m : am_M) : ∀ (j j' : Nat) (G : Nat → Prop) (d : Nat), d ≤ 4 → 5 ≤ d + j → 5 ≤ d + j' → sc_n m j G d = sc_n m j' G d := by
  intro j
  induction j with
  | zero => intro j' G d h1 h2 h3; omega
  | succ j ih =>
    intro j' G d h1 h2 h3
    obtain ⟨j', rfl⟩ : ∃ k, j' = k + 1 := ⟨j' - 1, by omega⟩
    show cif _ _ _ = cif _ _ _
    by_cases c1 : gs_one G ∨ 4 ≤ d
    · rw [cif_pos c1, cif_pos c1]
    · rw [cif_neg c1, cif_neg c1]
      have hd : ¬ 4 ≤ d := fun z => c1 (Or.inr z)
      by_cases c2 : d < gs_to G
      · rw [cif_pos c2, cif_pos c2, ih j' G (gs_to G) (gs_to_le G) (by omega) (by omega)]
      · rw [cif_neg c2, cif_neg c2]
        have e : (fun G' => sc_n m j G' (d + 1)) = (fun G' => sc_n m j' G' (d + 1)) := funext fun G' => ih j' G' (d + 1) (by omega) (by omega) (by omega)
        rw [e]
noncomputable def sc (m : am_M) (G : Nat → Prop) (d : Nat) : List Int32 := sc_n m 5 G d
theorem sc_L {m : am_M} {G : Nat → Prop} {d : Nat} (h : gs_one G ∨ 4 ≤ d) : sc m G d = sc_leaf m (gs_y G) d := by
  show cif _ _ _ = _
  rw [cif_pos h]
theorem sc_S {m : am_M} {G : Nat → Prop} {d : Nat} (h : ¬ (gs_one G ∨ 4 ≤ d)) (h2 : d < gs_to G) : sc m G d = sc_stem (gs_y G) d (gs_to G) (sc m G (gs_to G)) := by
  show cif _ _ _ = _
  rw [cif_neg h, cif_pos h2]
  have := sc_fuel m 4 5 G (gs_to G) (gs_to_le G) (by omega) (by omega)
  unfold sc
  rw [this]
theorem sc_F {m : am_M} {G : Nat → Prop} {d : Nat} (h : ¬ (gs_one G ∨ 4 ≤ d)) (h2 : ¬ d < gs_to G) : sc m G d = sc_fork G d (fun G' => sc m G' (d + 1)) := by
  show cif _ _ _ = _
  rw [cif_neg h, cif_neg h2]
  have hd : ¬ 4 ≤ d := fun z => h (Or.inr z)
  have e : (fun G' => sc_n m 4 G' (d + 1)) = (fun G' => sc m G' (d + 1)) := funext fun G' => sc_fuel m 4 5 G' (d + 1) (by omega) (by omega) (by omega)
  rw [e]
