/-! Every byte of a code is one. -/
def bok (L : List Int32) : Prop := ∀ b, b ∈ L → ∃ v, v < 256 ∧ b = nI v
theorem bok_nil : bok [] := fun b hb => by cases hb
theorem bok_cons {x : Int32} {L : List Int32} (hx : ∃ v, v < 256 ∧ x = nI v) (h : bok L) : bok (x :: L) := fun b hb => by
  rcases List.mem_cons.mp hb with rfl | hb
  · exact hx
  · exact h b hb
theorem bok_app {A B : List Int32} (h1 : bok A) (h2 : bok B) : bok (A ++ B) := fun b hb => (List.mem_append.mp hb).elim (h1 b) (h2 b)
theorem bok_hd {k : Int32} (hk : k = 128 ∨ k = 192) {len : Nat} (hl : len < 65536) : bok (cd_hd k len) := by
  unfold cd_hd
  have key : ∀ K, k = nI K → K ≤ 192 → bok (if len ≤ 55 then [k + nI len] else if len < 256 then [(k + 55) + 1, nI len] else [(k + 55) + 2, nI (len / 256), nI (len % 256)]) := by
    intro K hK hK2
    by_cases c1 : len ≤ 55
    · rw [if_pos c1]
      exact bok_cons ⟨K + len, by omega, by rw [hK, nI_add]⟩ bok_nil
    · rw [if_neg c1]
      by_cases c2 : len < 256
      · rw [if_pos c2]
        exact bok_cons ⟨K + 55 + 1, by omega, by rw [hK, show (55 : Int32) = nI 55 from rfl, nI_add, nI_1]⟩ (bok_cons ⟨len, c2, rfl⟩ bok_nil)
      · rw [if_neg c2]
        exact bok_cons ⟨K + 55 + 2, by omega, by rw [hK, show (55 : Int32) = nI 55 from rfl, nI_add, show (2 : Int32) = nI 2 from rfl, nI_add]⟩ (bok_cons ⟨len / 256, by omega, rfl⟩ (bok_cons ⟨len % 256, by omega, rfl⟩ bok_nil))
  rcases hk with h | h
  · exact key 128 h (by decide)
  · exact key 192 h (by decide)
theorem bok_enc {k : Int32} (hk : k = 128 ∨ k = 192) {B : List Int32} (hB : bok B) (hl : B.length < 65536) : bok (cd_enc k B) := by
  unfold cd_enc
  split
  · exact bok_app (bok_hd hk hl) hB
  · exact hB
theorem bok_dgr (x : Nat) : ∀ k d, bok (dg_r x k d)
  | 0, _ => bok_nil
  | k + 1, d => bok_cons ⟨16 * dg x d + dg x (d + 1), by have := dg_lt x d; have := dg_lt x (d + 1); omega, rfl⟩ (bok_dgr x k (d + 2))
theorem bok_dgp (x d e : Nat) {fl : Nat} (hf : fl ≤ 2) : bok (dg_p x d e fl) := by
  unfold dg_p
  split
  · exact bok_cons ⟨16 * fl, by omega, rfl⟩ (bok_dgr _ _ _)
  · exact bok_cons ⟨16 * (fl + 1) + dg x d, by have := dg_lt x d; omega, rfl⟩ (bok_dgr _ _ _)
theorem bok_y (v : Int64) (i : Nat) : ∃ w, w < 256 ∧ nb_y v i = nI w := by
  unfold nb_y
  exact pk_andE _ 8 (by decide)
theorem bok_nbl (v : Int64) : ∀ i g, bok (nb_l v i g)
  | 0, _ => bok_nil
  | i + 1, g => by
    unfold nb_l
    split
    · exact bok_cons (bok_y v i) (bok_nbl v i true)
    · exact bok_nbl v i false
theorem bok_nb (v : Int64) : bok (nb v) := bok_enc (Or.inl rfl) (bok_nbl v 8 false) (by have := nb_l_l v 8 false; omega)
theorem bok_hb (w : Nat → Int64) (i : Nat) : ∃ v, v < 256 ∧ kk_hb w i = nI v := by
  unfold kk_hb
  rw [← kk_by (w (i / 8)) (show i % 8 < 8 by omega)]
  exact pk_andE _ 8 (by decide)
theorem bok_rfh (c : List Int32) : bok (rf_h c) := by
  unfold rf_h
  refine bok_cons ⟨160, by decide, rfl⟩ (fun b hb => ?_)
  obtain ⟨i, -, rfl⟩ := List.mem_map.mp hb
  exact bok_hb _ _
theorem bok_rf {c : List Int32} (h : bok c) : bok (rf c) := by
  unfold rf
  split
  · exact h
  · exact bok_rfh c
theorem bok_leaf (m : am_M) (x d : Nat) : bok (sc_leaf m x d) := by
  have h1 := dg_p_l x d 4 2
  have h2 := cd_enc_1 (k := 128) (B := dg_p x d 4 2) (by omega)
  have h3 := nb_len (am_n m (nI x)).toInt64
  have h4 := nb_len (am_b m (nI x))
  have h5 : (nb (am_n m (nI x)).toInt64 ++ nb (am_b m (nI x))).length ≤ 18 := by rw [List.length_append]; omega
  have h6 := cd_enc_1 (k := 192) (B := nb (am_n m (nI x)).toInt64 ++ nb (am_b m (nI x))) (by omega)
  have h7 := cd_enc_1 (k := 128) (B := cd_enc 192 (nb (am_n m (nI x)).toInt64 ++ nb (am_b m (nI x)))) (by omega)
  have h8 : (cd_enc 128 (dg_p x d 4 2) ++ cd_enc 128 (cd_enc 192 (nb (am_n m (nI x)).toInt64 ++ nb (am_b m (nI x))))).length ≤ 24 := by rw [List.length_append]; omega
  exact bok_enc (Or.inr rfl) (bok_app (bok_enc (Or.inl rfl) (bok_dgp x d 4 (Nat.le_refl _)) (by omega)) (bok_enc (Or.inl rfl) (bok_enc (Or.inr rfl) (bok_app (bok_nb _) (bok_nb _)) (by omega)) (by omega))) (by omega)
theorem bok_row {G : Nat → Prop} {d : Nat} {s : (Nat → Prop) → List Int32} (h : ∀ G', bok (s G')) : ∀ e, bok (sc_row G d s e)
  | 0 => bok_nil
  | e + 1 => by
    show bok (sc_row G d s e ++ cif _ _ _)
    refine bok_app (bok_row h e) ?_
    by_cases c : ∃ y, gs_d G d e y
    · rw [cif_pos c]
      exact bok_rf (h _)
    · rw [cif_neg c]
      exact bok_cons ⟨128, by decide, rfl⟩ bok_nil
theorem bok_sc (m : am_M) : ∀ (j : Nat) (G : Nat → Prop) (d : Nat), bok (sc_n m j G d)
  | 0, _, _ => bok_nil
  | j + 1, G, d => by
    show bok (cif _ _ _)
    by_cases c1 : gs_one G ∨ 4 ≤ d
    · rw [cif_pos c1]
      exact bok_leaf m _ d
    · rw [cif_neg c1]
      by_cases c2 : d < gs_to G
      · rw [cif_pos c2]
        have h4 := gs_to_le G
        have l1 := dg_p_l (gs_y G) d (gs_to G) 0
        have l2 := cd_enc_1 (k := 128) (B := dg_p (gs_y G) d (gs_to G) 0) (by omega)
        have l3 := rf_l (sc_n m j G (gs_to G))
        exact bok_enc (Or.inr rfl) (bok_app (bok_enc (Or.inl rfl) (bok_dgp _ _ _ (by decide)) (by omega)) (bok_rf (bok_sc m j G _))) (by rw [List.length_append]; omega)
      · rw [cif_neg c2]
        have l3 := sc_row_3 G d (fun G' => sc_n m j G' (d + 1)) 16
        exact bok_enc (Or.inr rfl) (bok_app (bok_row (fun G' => bok_sc m j G' (d + 1)) 16) (bok_cons ⟨128, by decide, rfl⟩ bok_nil)) (by rw [List.length_append]; show _ + 1 < 65536; omega)
theorem bok_tp (m : am_M) : bok (tp m) := by
  unfold tp
  by_cases c : ∃ y, ga m y
  · rw [cif_pos c]
    exact bok_sc m 5 _ _
  · rw [cif_neg c]
    exact bok_cons ⟨128, by decide, rfl⟩ bok_nil
theorem bok_pp (m : am_M) (G : Nat → Prop) (d : Nat) : ∀ L, L ∈ pv_p m G d → bok L := by
  intro L hL
  unfold pv_p at hL
  split at hL
  · cases hL
  · rw [List.mem_singleton] at hL
    rw [hL]
    exact bok_sc m 5 _ _
theorem bok_pn (m : am_M) (x : Nat) : ∀ (j : Nat) (G : Nat → Prop) (d : Nat) (L : List Int32), L ∈ pv_n m x j G d → bok L
  | 0, _, _, L, h => by cases h
  | j + 1, G, d, L, h => by
    have h : L ∈ cif (gs_one G ∨ 4 ≤ d) [] (cif (d < gs_to G) (cif (∃ y, G y ∧ ag x y (gs_to G)) (pv_p m G (gs_to G) ++ pv_n m x j G (gs_to G)) []) (cif (∃ y, gs_d G d (dg x d) y) (pv_p m (gs_d G d (dg x d)) (d + 1) ++ pv_n m x j (gs_d G d (dg x d)) (d + 1)) [])) := h
    have two : ∀ (G' : Nat → Prop) (d' : Nat), L ∈ pv_p m G' d' ++ pv_n m x j G' d' → bok L := fun G' d' h => (List.mem_append.mp h).elim (bok_pp m G' d' L) (bok_pn m x j G' d' L)
    by_cases c1 : gs_one G ∨ 4 ≤ d
    · rw [cif_pos c1] at h
      cases h
    · rw [cif_neg c1] at h
      by_cases c2 : d < gs_to G
      · rw [cif_pos c2] at h
        by_cases c3 : ∃ y, G y ∧ ag x y (gs_to G)
        · rw [cif_pos c3] at h
          exact two _ _ h
        · rw [cif_neg c3] at h
          cases h
      · rw [cif_neg c2] at h
        by_cases c3 : ∃ y, gs_d G d (dg x d) y
        · rw [cif_pos c3] at h
          exact two _ _ h
        · rw [cif_neg c3] at h
          cases h
theorem pk_mem {P : List (List Int32)} (h : ∀ L, L ∈ P → bok L) : pk_ok P := fun p L i b h1 h2 => h L (List.mem_of_getElem? h1) b (List.mem_of_getElem? h2)
theorem pk_prove (m : am_M) (x : Nat) : pk_ok (sp_prove m x) := pk_mem (fun L hL => by
  unfold sp_prove at hL
  rcases List.mem_cons.mp hL with rfl | hL
  · exact bok_tp m
  · by_cases c : ∃ y, ga m y
    · rw [cif_pos c] at hL
      exact bok_pn m x 6 _ _ L hL
    · rw [cif_neg c] at hL
      cases hL)
theorem pk_alter {P : List (List Int32)} (h : pk_ok P) (x i b : Int32) : pk_ok (sp_alter P x i b).2 := by
  cases e : sp_at P x with
  | none =>
    rw [sp_alter_n e]
    exact h
  | some L =>
    cases e2 : sp_at L i with
    | none =>
      rw [sp_alter_m e e2]
      exact h
    | some b0 =>
      rw [sp_alter_y e e2]
      by_cases c1 : b < 0
      · rw [if_pos c1]
        exact h
      · rw [if_neg c1]
        by_cases c2 : b ≤ 255
        · rw [if_pos c2]
          obtain ⟨v, hv, rfl⟩ := nI_of2 (x := b) (M := 255) (n := 255) (by decide) c1 c2
          intro p M j y hM hy
          unfold sp_at at e
          split at e
          · cases e
          · obtain ⟨-, ⟨-, rfl⟩ | ⟨-, hM⟩⟩ := gl_set hM
            · obtain ⟨-, ⟨-, rfl⟩ | ⟨-, hy⟩⟩ := gl_set hy
              · exact ⟨v, by omega, rfl⟩
              · exact h _ L j y e hy
            · exact h p M j y hM hy
        · rw [if_neg c2]
          exact h
theorem pk_short {P : List (List Int32)} (h : pk_ok P) : pk_ok (sp_short P).2 := by
  unfold sp_short
  split
  · exact h
  · exact fun p L i b h1 h2 => h p L i b (gl_dl h1) h2
