/-! The reference: digits, groups of accounts, first. -/
def mu (f : pl_H) (a j : Nat) : Nat := (ax_I f (a + 1) j).toNatClampNeg
theorem mu_is {f : pl_H} {a c : Nat} {m : am_M} (h : mo_R f a c m) {j : Nat} (hj : j < c) : ax_I f (a + 1) j = nI (mu f a j) ∧ mu f a j < 65536 := by
  obtain ⟨y, hy, e⟩ := h.2.2.2.1 j hj
  unfold mu
  rw [e, bs_cl (by omega)]
  exact ⟨rfl, hy⟩
theorem mu_in {f : pl_H} {a c : Nat} {m : am_M} (h : mo_R f a c m) {i j : Nat} (hi : i < c) (hj : j < c) (e : mu f a i = mu f a j) : i = j := by
  refine h.2.2.2.2.1 i j hi hj ?_
  rw [(mu_is h hi).1, (mu_is h hj).1, e]
theorem mu_ga {f : pl_H} {a c : Nat} {m : am_M} (h : mo_R f a c m) (y : Nat) : ga m y ↔ ∃ j, j < c ∧ mu f a j = y := by
  constructor
  · rintro ⟨hy, hm⟩
    cases hv : m (nI y) with
    | none => exact absurd hv hm
    | some v =>
      obtain ⟨j, j1, j2, -⟩ := (h.2.2.2.2.2 (nI y) v).mp hv
      have := mu_is h j1
      rw [j2] at this
      exact ⟨j, j1, ((nI_eq (by omega) (by omega)).mp this.1).symm⟩
  · rintro ⟨j, j2, rfl⟩
    have := mu_is h j2
    refine ⟨this.2, fun z => ?_⟩
    have hat := am_at h.2.2.2 j2
    rw [this.1, z] at hat
    cases hat
/-- the accounts that agree with x up to a depth -/
def ad (m : am_M) (x d : Nat) : Nat → Prop := fun y => ga m y ∧ ag x y d
theorem ad_mu {f : pl_H} {a c : Nat} {m : am_M} (h : mo_R f a c m) (x d y : Nat) : ad m x d y ↔ ∃ j, j < c ∧ mu f a j = y ∧ ag x (mu f a j) d := by
  constructor
  · rintro ⟨h1, h2⟩
    obtain ⟨j, j1, rfl⟩ := (mu_ga h y).mp h1
    exact ⟨j, j1, rfl, h2⟩
  · rintro ⟨j, j1, rfl, j2⟩
    exact ⟨(mu_ga h _).mpr ⟨j, j1, rfl⟩, j2⟩
theorem md_at (f : pl_H) {x d : Nat} (hx : x < 65536) (hd : d < 4) : fn_M_digit f (nI x) (nI d) = some (nI (dg x d)) := by
  unfold fn_M_digit dg
  have hs : ((((12 - 4 * nI d) &&& 31 : Int32)).toBitVec.smod 32).toNat = 4 * (3 - d) := by
    have : d = 0 ∨ d = 1 ∨ d = 2 ∨ d = 3 := by omega
    rcases this with rfl | rfl | rfl | rfl <;> decide
  rw [pk_shrN (by omega) _ _ hs, pk_andN (by
    have := Nat.div_le_self x (2 ^ (4 * (3 - d)))
    omega) 4 (by decide)]
theorem ma_sh {d : Nat} (hd : d ≤ 4) : ((((16 - 4 * nI d) &&& 31 : Int32)).toBitVec.smod 32).toNat = 16 - 4 * d := by
  have : d = 0 ∨ d = 1 ∨ d = 2 ∨ d = 3 ∨ d = 4 := by omega
  rcases this with rfl | rfl | rfl | rfl | rfl <;> decide
theorem ma_agy (f : pl_H) {x y d : Nat} (hx : x < 65536) (hy : y < 65536) (hd : d ≤ 4) (h : ag x y d) : fn_M_agree f (nI x) (nI y) (nI d) = some 1 := by
  unfold fn_M_agree fn_M_agree_24
  rw [pk_shrN (by omega) _ _ (ma_sh hd), pk_shrN (by omega) _ _ (ma_sh hd), if_pos (by unfold ag at h; rw [h])]
  rfl
theorem ma_agn (f : pl_H) {x y d : Nat} (hx : x < 65536) (hy : y < 65536) (hd : d ≤ 4) (h : ¬ ag x y d) : fn_M_agree f (nI x) (nI y) (nI d) = some 0 := by
  unfold fn_M_agree fn_M_agree_24
  have h1 := Nat.div_le_self x (2 ^ (16 - 4 * d))
  have h2 := Nat.div_le_self y (2 ^ (16 - 4 * d))
  rw [pk_shrN (by omega) _ _ (ma_sh hd), pk_shrN (by omega) _ _ (ma_sh hd), if_neg (fun z => h ((nI_eq (by omega) (by omega)).mp z))]
  rfl
/-- how many below c -/
noncomputable def gn (p : Nat → Prop) : Nat → Nat
  | 0 => 0
  | j + 1 => gn p j + cif (p j) 1 0
theorem gn_le (p : Nat → Prop) : ∀ c, gn p c ≤ c
  | 0 => Nat.le_refl _
  | c + 1 => by
    have := gn_le p c
    show gn p c + cif (p c) 1 0 ≤ c + 1
    by_cases h : p c
    · rw [cif_pos h]; omega
    · rw [cif_neg h]; omega
theorem gn_sub {p q : Nat → Prop} : ∀ c, (∀ j, j < c → q j → p j) → gn q c ≤ gn p c
  | 0, _ => Nat.le_refl _
  | c + 1, h => by
    have := gn_sub c (fun j hj => h j (by omega))
    show gn q c + cif (q c) 1 0 ≤ gn p c + cif (p c) 1 0
    by_cases h2 : q c
    · rw [cif_pos h2, cif_pos (h c (by omega) h2)]; omega
    · rw [cif_neg h2]; omega
theorem gn_eq {p q : Nat → Prop} : ∀ c, (∀ j, j < c → q j → p j) → (gn q c = gn p c ↔ ∀ j, j < c → p j → q j)
  | 0, _ => ⟨fun _ j hj => absurd hj (by omega), fun _ => rfl⟩
  | c + 1, h => by
    have ih := gn_eq c (fun j hj => h j (by omega))
    have hs := gn_sub c (fun j hj => h j (Nat.lt_succ_of_lt hj))
    constructor
    · intro e
      have e : gn q c + cif (q c) 1 0 = gn p c + cif (p c) 1 0 := e
      intro j hj hp
      by_cases h2 : q c
      · rw [cif_pos h2, cif_pos (h c (by omega) h2)] at e
        rcases Nat.lt_or_ge j c with z | z
        · exact ih.mp (by omega) j z hp
        · have : j = c := by omega
          subst this
          exact h2
      · rw [cif_neg h2] at e
        by_cases h3 : p c
        · rw [cif_pos h3] at e
          omega
        · rw [cif_neg h3] at e
          rcases Nat.lt_or_ge j c with z | z
          · exact ih.mp (by omega) j z hp
          · have : j = c := by omega
            subst this
            exact absurd hp h3
    · intro hq
      show gn q c + cif (q c) 1 0 = gn p c + cif (p c) 1 0
      rw [ih.mpr (fun j hj => hq j (by omega))]
      by_cases h2 : p c
      · rw [cif_pos h2, cif_pos (hq c (by omega) h2)]
      · rw [cif_neg h2, cif_neg (fun z => h2 (h c (by omega) z))]
theorem gn_is (i : Nat) : ∀ c, gn (fun j => j = i) c = if i < c then 1 else 0
  | 0 => rfl
  | c + 1 => by
    show gn (fun j => j = i) c + cif (c = i) 1 0 = _
    rw [gn_is i c]
    by_cases h : c = i
    · subst h
      rw [cif_pos rfl, if_neg (by omega), if_pos (by omega)]
    · rw [cif_neg h]
      by_cases h2 : i < c
      · rw [if_pos h2, if_pos (by omega)]
      · rw [if_neg h2, if_neg (by omega)]
theorem gn_one {p : Nat → Prop} {c i : Nat} (hi : i < c) (hp : p i) : gn p c = 1 ↔ ∀ j, j < c → p j → j = i := by
  have := gn_eq (p := p) (q := fun j => j = i) c (fun j _ e => by have e : j = i := e; rw [e]; exact hp)
  rw [gn_is, if_pos hi] at this
  exact ⟨fun z => this.mp z.symm, fun z => (this.mpr z).symm⟩
theorem mg_5e (k : Nat) (f : pl_H) (a0 : Nat) (x1 x2 x3 x4 : Int32) : fn_M_group_5 (k + 1) f a0 x1 x2 x3 x4 = (pl_gI f a0 8 0).bind fun v1 => if v1 ≤ x4 then some x3 else (pl_gR f a0 8 1).bind fun v2 => (pl_aI f v2 x1).bind fun v3 => (pl_gR f a0 8 1).bind fun v4 => (pl_aI f v4 x4).bind fun v5 => (fn_M_agree f v3 v5 x2).bind fun v6 => if v6 = 0 then fn_M_group_5 k f a0 x1 x2 x3 (x4 + 1) else fn_M_group_5 k f a0 x1 x2 (x3 + 1) (x4 + 1) := rfl
theorem mg_5 {f : pl_H} {a c i d : Nat} {m : am_M} (h : mo_R f a c m) (hi : i < c) (hd : d ≤ 4) : ∀ (r k j : Nat), c - j = r → j ≤ c → r < k → fn_M_group_5 k f a (nI i) (nI d) (nI (gn (fun j => ag (mu f a i) (mu f a j) d) j)) (nI j) = some (nI (gn (fun j => ag (mu f a i) (mu f a j) d) c)) := by
  intro r
  have hc := h.2.2.1
  induction r with
  | zero =>
    intro k j hr hj hk
    obtain ⟨k, rfl⟩ : ∃ k', k = k' + 1 := ⟨k - 1, by omega⟩
    have e : j = c := by omega
    subst e
    rw [mg_5e, mo_many h.1, h.2.1, Option.bind_some, if_pos ((bs_le (by omega) (by omega)).mpr (Nat.le_refl _))]
  | succ r ih =>
    intro k j hr hj hk
    obtain ⟨k, rfl⟩ : ∃ k', k = k' + 1 := ⟨k - 1, by omega⟩
    have hj' : j < c := by omega
    have m1 := mu_is h hi
    have m2 := mu_is h hj'
    have ih' := ih k (j + 1) (by omega) (by omega) (by omega)
    rw [mg_5e, mo_many h.1, h.2.1, Option.bind_some, if_neg (fun z => absurd ((bs_le (by omega) (by omega)).mp z) (by omega)), mo_number h.1, Option.bind_some, mo_number_g h.1 (by omega), m1.1, Option.bind_some, Option.bind_some, mo_number_g h.1 (by omega), m2.1, Option.bind_some, nI_1]
    by_cases g : ag (mu f a i) (mu f a j) d
    · rw [ma_agy f m1.2 m2.2 hd g, Option.bind_some, if_neg (by decide), nI_1]
      rw [show gn (fun j => ag (mu f a i) (mu f a j) d) (j + 1) = gn (fun j => ag (mu f a i) (mu f a j) d) j + 1 from congrArg (gn (fun j => ag (mu f a i) (mu f a j) d) j + ·) (cif_pos g)] at ih'
      exact ih'
    · rw [ma_agn f m1.2 m2.2 hd g, Option.bind_some, if_pos rfl]
      rw [show gn (fun j => ag (mu f a i) (mu f a j) d) (j + 1) = gn (fun j => ag (mu f a i) (mu f a j) d) j from congrArg (gn (fun j => ag (mu f a i) (mu f a j) d) j + ·) (cif_neg g)] at ih'
      exact ih'
theorem mg_group {f : pl_H} {a c i d : Nat} {m : am_M} (h : mo_R f a c m) (hi : i < c) (hd : d ≤ 4) : fn_M_group f a (nI i) (nI d) = some (nI (gn (fun j => ag (mu f a i) (mu f a j) d) c)) := by
  have hc := h.2.2.1
  exact mg_5 h hi hd c pl_N 0 rfl (Nat.zero_le _) (by unfold pl_N; omega)
theorem mg_one {f : pl_H} {a c i d : Nat} {m : am_M} (h : mo_R f a c m) (hi : i < c) : gn (fun j => ag (mu f a i) (mu f a j) d) c = 1 ↔ gs_one (ad m (mu f a i) d) := by
  rw [gn_one (p := fun j => ag (mu f a i) (mu f a j) d) hi (ag_rf _ _)]
  constructor
  · intro z
    refine ⟨mu f a i, (ad_mu h _ _ _).mpr ⟨i, hi, rfl, ag_rf _ _⟩, fun y hy => ?_⟩
    obtain ⟨j, j1, rfl, j2⟩ := (ad_mu h _ _ _).mp hy
    rw [z j j1 j2]
  · rintro ⟨y, -, hy⟩ j hj hg
    have e1 := hy (mu f a j) ((ad_mu h _ _ _).mpr ⟨j, hj, rfl, hg⟩)
    have e2 := hy (mu f a i) ((ad_mu h _ _ _).mpr ⟨i, hi, rfl, ag_rf _ _⟩)
    exact mu_in h hj hi (e1.trans e2.symm)
theorem ad_st {m : am_M} {x d t : Nat} (hx : ga m x) : gs_st (ad m x d) t ↔ ∀ y, ga m y → ag x y d → ag x y t := by
  constructor
  · intro h y h1 h2
    exact h x y ⟨hx, ag_rf _ _⟩ ⟨h1, h2⟩
  · intro h y z hy hz
    exact ag_tr (ag_sy (h y hy.1 hy.2)) (h z hz.1 hz.2)
theorem mc_10e (k : Nat) (f : pl_H) (a0 : Nat) (x1 x3 x4 : Int32) : fn_M_common_10 (k + 1) f a0 x1 x3 x4 = if 4 ≤ x3 then some x3 else (pl_is f a0 8).bind fun u2 => (fn_M_group f a0 x1 (x3 + 1)).bind fun v1 => if v1 = x4 then fn_M_common_10 k f a0 x1 (x3 + 1) x4 else some x3 := rfl
theorem mc_10 {f : pl_H} {a c i d : Nat} {m : am_M} (h : mo_R f a c m) (hi : i < c) : ∀ (r k t : Nat), 4 - t = r → d ≤ t → t ≤ 4 → r < k → gs_st (ad m (mu f a i) d) t → fn_M_common_10 k f a (nI i) (nI t) (nI (gn (fun j => ag (mu f a i) (mu f a j) d) c)) = some (nI (gs_to (ad m (mu f a i) d))) := by
  intro r
  have hc := h.2.2.1
  have hx : ga m (mu f a i) := (mu_ga h _).mpr ⟨i, hi, rfl⟩
  induction r with
  | zero =>
    intro k t hr hd ht hk hst
    obtain ⟨k, rfl⟩ : ∃ k', k = k' + 1 := ⟨k - 1, by omega⟩
    have e : t = 4 := by omega
    subst e
    rw [mc_10e, if_pos (by decide), gs_to_is (Nat.le_refl _) hst (fun z => absurd z (by omega))]
  | succ r ih =>
    intro k t hr hd ht hk hst
    obtain ⟨k, rfl⟩ : ∃ k', k = k' + 1 := ⟨k - 1, by omega⟩
    have l1 := gn_le (fun j => ag (mu f a i) (mu f a j) d) c
    have l2 := gn_le (fun j => ag (mu f a i) (mu f a j) (t + 1)) c
    rw [mc_10e, if_neg (show ¬ 4 ≤ nI t from fun z => absurd ((bs_le (a := 4) (by decide) (by omega)).mp z) (by omega)), ax_is h.1.1, Option.bind_some, nI_1, mg_group h hi (by omega), Option.bind_some]
    have key : gn (fun j => ag (mu f a i) (mu f a j) (t + 1)) c = gn (fun j => ag (mu f a i) (mu f a j) d) c ↔ gs_st (ad m (mu f a i) d) (t + 1) := by
      rw [gn_eq c (fun j _ z => ag_le (by omega) (by omega) z), ad_st hx]
      constructor
      · intro z y hy hg
        obtain ⟨j, j1, rfl⟩ := (mu_ga h y).mp hy
        exact z j j1 hg
      · intro z j hj hg
        exact z _ ((mu_ga h _).mpr ⟨j, hj, rfl⟩) hg
    by_cases g : gs_st (ad m (mu f a i) d) (t + 1)
    · rw [if_pos (by rw [key.mpr g])]
      exact ih k (t + 1) (by omega) (by omega) (by omega) (by omega) g
    · rw [if_neg (fun z => g (key.mp ((nI_eq (by omega) (by omega)).mp z))), gs_to_is ht hst (fun _ => g)]
theorem mc_common {f : pl_H} {a c i d : Nat} {m : am_M} (h : mo_R f a c m) (hi : i < c) (hd : d ≤ 4) : fn_M_common f a (nI i) (nI d) = some (nI (gs_to (ad m (mu f a i) d))) := by
  unfold fn_M_common
  rw [ax_is h.1.1, Option.bind_some, mg_group h hi hd, Option.bind_some]
  exact mc_10 h hi (4 - d) pl_N d rfl (Nat.le_refl _) hd (by unfold pl_N; omega) ((ad_st ((mu_ga h _).mpr ⟨i, hi, rfl⟩)).mpr (fun _ _ z => z))
theorem mf_10e (k : Nat) (f : pl_H) (a0 : Nat) (x1 x2 x3 x4 : Int32) : fn_M_first_10 (k + 1) f a0 x1 x2 x3 x4 = if x4 < 0 then some x3 else (pl_gR f a0 8 1).bind fun v1 => (pl_aI f v1 x4).bind fun v2 => (fn_M_agree f x1 v2 x2).bind fun v3 => if v3 = 0 then fn_M_first_10 k f a0 x1 x2 x3 (x4 + (-1)) else fn_M_first_10 k f a0 x1 x2 x4 (x4 + (-1)) := rfl
/-- the least from t on, or -1 -/
def fi (p : Nat → Prop) (c : Nat) (r : Int32) (t : Nat) : Prop := (∃ j, t ≤ j ∧ j < c ∧ p j ∧ r = nI j ∧ ∀ k, t ≤ k → k < j → ¬ p k) ∨ (r = -1 ∧ ∀ j, t ≤ j → j < c → ¬ p j)
theorem mf_10 {f : pl_H} {a c x d : Nat} {m : am_M} (h : mo_R f a c m) (hx : x < 65536) (hd : d ≤ 4) : ∀ (t k : Nat) (b : Int32), t ≤ c → t < k → fi (fun j => ag x (mu f a j) d) c b t → ∃ r, fn_M_first_10 k f a (nI x) (nI d) b (nI t - 1) = some r ∧ fi (fun j => ag x (mu f a j) d) c r 0 := by
  intro t
  have hc := h.2.2.1
  induction t with
  | zero =>
    intro k b ht hk hb
    obtain ⟨k, rfl⟩ : ∃ k', k = k' + 1 := ⟨k - 1, by omega⟩
    exact ⟨b, by rw [mf_10e, if_pos (by decide)], hb⟩
  | succ t ih =>
    intro k b ht hk hb
    obtain ⟨k, rfl⟩ : ∃ k', k = k' + 1 := ⟨k - 1, by omega⟩
    have m2 := mu_is h (show t < c by omega)
    rw [mf_10e, nI_pred, if_neg (nI_pos (by omega)), mo_number h.1, Option.bind_some, mo_number_g h.1 (by omega), m2.1, Option.bind_some, show nI t + (-1) = nI t - 1 from (Int32.sub_eq_add_neg (nI t) 1).symm]
    by_cases g : ag x (mu f a t) d
    · rw [ma_agy f hx m2.2 hd g, Option.bind_some, if_neg (by decide)]
      exact ih k (nI t) (by omega) (by omega) (Or.inl ⟨t, Nat.le_refl _, by omega, g, rfl, fun k h1 h2 => absurd h2 (by omega)⟩)
    · rw [ma_agn f hx m2.2 hd g, Option.bind_some, if_pos rfl]
      refine ih k b (by omega) (by omega) ?_
      rcases hb with ⟨j, j1, j2, j3, j4, j5⟩ | ⟨b1, b2⟩
      · refine Or.inl ⟨j, by omega, j2, j3, j4, fun k h1 h2 => ?_⟩
        rcases Nat.lt_or_ge t k with z | z
        · exact j5 k z h2
        · have : k = t := by omega
          subst this
          exact g
      · refine Or.inr ⟨b1, fun j h1 h2 => ?_⟩
        rcases Nat.lt_or_ge t j with z | z
        · exact b2 j z h2
        · have : j = t := by omega
          subst this
          exact g
theorem mf_first {f : pl_H} {a c x d : Nat} {m : am_M} (h : mo_R f a c m) (hx : x < 65536) (hd : d ≤ 4) : ∃ r, fn_M_first f a (nI x) (nI d) = some r ∧ ((∃ j, j < c ∧ ag x (mu f a j) d ∧ r = nI j ∧ ∀ k, k < j → ¬ ag x (mu f a k) d) ∨ (r = -1 ∧ ∀ j, j < c → ¬ ag x (mu f a j) d)) := by
  have hc := h.2.2.1
  obtain ⟨r, p, q⟩ := mf_10 h hx hd c pl_N (-1) (Nat.le_refl _) (by unfold pl_N; omega) (Or.inr ⟨rfl, fun j h1 h2 => absurd h2 (by omega)⟩)
  refine ⟨r, ?_, ?_⟩
  · unfold fn_M_first
    rw [mo_many h.1, h.2.1, Option.bind_some]
    exact p
  · rcases q with ⟨j, -, j2, j3, j4, j5⟩ | ⟨b1, b2⟩
    · exact Or.inl ⟨j, j2, j3, j4, fun k hk => j5 k (Nat.zero_le _) hk⟩
    · exact Or.inr ⟨b1, fun j hj => b2 j (Nat.zero_le _) hj⟩
