/-! A range of the book, and the set of its numbers. -/
def nu (f : pl_H) (n j : Nat) : Nat := (ax_I f (n + 2) j).toNatClampNeg
theorem nu_is {f : pl_H} {n c : Nat} {m : am_M} (h : bk_R f (n + 1) c m) {j : Nat} (hj : j < c) : ax_I f (n + 2) j = nI (nu f n j) ∧ nu f n j < 65536 := by
  obtain ⟨y, hy, e⟩ := h.2.2.2.1.1 j hj
  have e : ax_I f (n + 2) j = nI y := e
  have : nu f n j = y := by
    unfold nu
    rw [e, bs_cl (by omega)]
  rw [this]
  exact ⟨e, hy⟩
theorem nu_lt {f : pl_H} {n c : Nat} {m : am_M} (h : bk_R f (n + 1) c m) {i j : Nat} (hij : i < j) (hj : j < c) : nu f n i < nu f n j := by
  have a := nu_is h (show i < c by omega)
  have b := nu_is h hj
  have := h.2.2.2.2 i j hij hj
  have this : ax_I f (n + 2) i < ax_I f (n + 2) j := this
  rw [a.1, b.1] at this
  exact (bs_lt (by omega) (by omega)).mp this
theorem nu_le {f : pl_H} {n c : Nat} {m : am_M} (h : bk_R f (n + 1) c m) {i j : Nat} (hij : i ≤ j) (hj : j < c) : nu f n i ≤ nu f n j := by
  rcases Nat.lt_or_ge i j with z | z
  · exact Nat.le_of_lt (nu_lt h z hj)
  · rw [show i = j by omega]
    exact Nat.le_refl _
theorem nu_at {f : pl_H} {n c : Nat} {m : am_M} (h : bk_R f (n + 1) c m) {j : Nat} (hj : j < c) : fn_B_numberAt f (n + 1) (nI j) = some (nI (nu f n j)) := by
  have hc := h.2.2.1
  unfold fn_B_numberAt fn_B_numberAt_22
  rw [if_neg (nI_pos (by omega)), bk_c h.1, h.2.1, Option.bind_some, if_neg (fun z => absurd ((bs_le (by omega) (by omega)).mp z) (by omega)), bk_0 h.1, Option.bind_some, bk_g0 h.1 (by omega), Option.bind_some]
  exact congrArg some (nu_is h hj).1
def gr_G (f : pl_H) (n a b : Nat) (G : Nat → Prop) : Prop := ∀ y, G y ↔ ∃ j, a ≤ j ∧ j < b ∧ nu f n j = y
theorem nu_kp {f f' : pl_H} {n : Nat} (h : f' (n + 2) = f (n + 2)) (j : Nat) : nu f' n j = nu f n j := by
  unfold nu ax_I
  rw [h]
theorem gr_G_kp {f f' : pl_H} {n a b : Nat} {G : Nat → Prop} (h : gr_G f n a b G) (hk : f' (n + 2) = f (n + 2)) : gr_G f' n a b G := fun y => by
  rw [h y]
  constructor
  · rintro ⟨j, h1, h2, h3⟩
    exact ⟨j, h1, h2, (nu_kp hk j).trans h3⟩
  · rintro ⟨j, h1, h2, h3⟩
    exact ⟨j, h1, h2, (nu_kp hk j).symm.trans h3⟩
theorem fr_2 {n T : Nat} {f f' : pl_H} (h : fr n T f f') : f' (n + 2) = f (n + 2) := h.1 _ (by unfold gw_S; omega)
/-- numbers between two that agree agree too -/
theorem ag_bt {x y z d : Nat} (h1 : x ≤ y) (h2 : y ≤ z) (h : ag x z d) : ag x y d := by
  unfold ag at h ⊢
  have a := Nat.div_le_div_right (c := 2 ^ (16 - 4 * d)) h1
  have b := Nat.div_le_div_right (c := 2 ^ (16 - 4 * d)) h2
  omega
theorem gr_st {f : pl_H} {n c a b t : Nat} {m : am_M} {G : Nat → Prop} (h : bk_R f (n + 1) c m) (hab : a < b) (hb : b ≤ c) (hG : gr_G f n a b G) : gs_st G t ↔ ag (nu f n a) (nu f n (b - 1)) t := by
  constructor
  · intro z
    exact z _ _ ((hG _).mpr ⟨a, Nat.le_refl _, hab, rfl⟩) ((hG _).mpr ⟨b - 1, by omega, by omega, rfl⟩)
  · intro z x y hx hy
    obtain ⟨i, i1, i2, rfl⟩ := (hG x).mp hx
    obtain ⟨j, j1, j2, rfl⟩ := (hG y).mp hy
    have p := ag_bt (nu_le h i1 (by omega)) (nu_le h (show i ≤ b - 1 by omega) (by omega)) z
    have q := ag_bt (nu_le h j1 (by omega)) (nu_le h (show j ≤ b - 1 by omega) (by omega)) z
    exact ag_tr (ag_sy p) q
theorem gr_one {f : pl_H} {n c a b : Nat} {m : am_M} {G : Nat → Prop} (h : bk_R f (n + 1) c m) (hab : a < b) (hb : b ≤ c) (hG : gr_G f n a b G) : gs_one G ↔ b - a = 1 := by
  constructor
  · rintro ⟨y, y1, y2⟩
    rcases Nat.lt_or_ge 1 (b - a) with z | z
    · have e1 := y2 _ ((hG _).mpr ⟨a, Nat.le_refl _, hab, rfl⟩)
      have e2 := y2 _ ((hG _).mpr ⟨a + 1, by omega, by omega, rfl⟩)
      have := nu_lt h (show a < a + 1 by omega) (by omega)
      omega
    · omega
  · intro z
    refine ⟨nu f n a, (hG _).mpr ⟨a, Nat.le_refl _, hab, rfl⟩, fun x hx => ?_⟩
    obtain ⟨j, j1, j2, rfl⟩ := (hG x).mp hx
    rw [show j = a by omega]
theorem gr_st4 {f : pl_H} {n c a b : Nat} {m : am_M} {G : Nat → Prop} (h : bk_R f (n + 1) c m) (hab : a < b) (hb : b ≤ c) (hG : gr_G f n a b G) (h4 : gs_st G 4) : b - a = 1 := by
  rcases Nat.lt_or_ge 1 (b - a) with z | z
  · have e1 := ag_4.mp (h4 _ _ ((hG _).mpr ⟨a, Nat.le_refl _, hab, rfl⟩) ((hG _).mpr ⟨a + 1, by omega, by omega, rfl⟩))
    have := nu_lt h (show a < a + 1 by omega) (by omega)
    omega
  · omega
theorem gr_y1 {f : pl_H} {n a b : Nat} {G : Nat → Prop} (hG : gr_G f n a b G) (h1 : b - a = 1) : gs_y G = nu f n a := by
  obtain ⟨j, j1, j2, j3⟩ := (hG _).mp (gs_y_in ⟨nu f n a, (hG _).mpr ⟨a, Nat.le_refl _, by omega, rfl⟩⟩)
  rw [← j3, show j = a by omega]
theorem ad_2e (k : Nat) (f : pl_H) (x0 x1 x3 : Int32) : fn_T_agreedDepth_2 (k + 1) f x0 x1 x3 = if 4 ≤ x3 then some x3 else (fn_L_digit f x0 x3).bind fun v1 => (fn_L_digit f x1 x3).bind fun v2 => if v1 = v2 then fn_T_agreedDepth_2 k f x0 x1 (x3 + 1) else some x3 := rfl
theorem ad_2 {f : pl_H} {x y : Nat} (hx : x < 65536) (hy : y < 65536) : ∀ (j k t : Nat), 4 - t = j → t ≤ 4 → j < k → ag x y t → ∃ u, fn_T_agreedDepth_2 k f (nI x) (nI y) (nI t) = some (nI u) ∧ t ≤ u ∧ u ≤ 4 ∧ ag x y u ∧ (u < 4 → ¬ ag x y (u + 1)) := by
  intro j
  induction j with
  | zero =>
    intro k t hj ht hk h
    obtain ⟨k, rfl⟩ : ∃ k', k = k' + 1 := ⟨k - 1, by omega⟩
    have e : t = 4 := by omega
    subst e
    exact ⟨4, by rw [ad_2e, if_pos (by decide)], by omega, by omega, h, fun z => absurd z (by omega)⟩
  | succ j ih =>
    intro k t hj ht hk h
    obtain ⟨k, rfl⟩ : ∃ k', k = k' + 1 := ⟨k - 1, by omega⟩
    rw [ad_2e, if_neg (show ¬ 4 ≤ nI t from fun z => absurd ((bs_le (a := 4) (by decide) (by omega)).mp z) (by omega)), dg_at f hx (by omega), Option.bind_some, dg_at f hy (by omega), Option.bind_some]
    have d1 := dg_lt x t
    have d2 := dg_lt y t
    by_cases hd : dg x t = dg y t
    · rw [if_pos (by rw [hd]), show nI t + 1 = nI (t + 1) from nI_add t 1]
      obtain ⟨u, u1, u2, u3⟩ := ih k (t + 1) (by omega) (by omega) (by omega) ((ag_s (by omega)).mpr ⟨h, hd⟩)
      exact ⟨u, u1, by omega, u3⟩
    · rw [if_neg (fun z => hd ((nI_eq (by omega) (by omega)).mp z))]
      exact ⟨t, rfl, by omega, by omega, h, fun z w => hd ((ag_s z).mp w).2⟩
theorem gr_to {f : pl_H} {n c a b d : Nat} {m : am_M} {G : Nat → Prop} (h : bk_R f (n + 1) c m) (hab : a < b) (hb : b ≤ c) (hG : gr_G f n a b G) (hd : d ≤ 4) (hst : gs_st G d) : fn_T_agreedDepth f (nI (nu f n a)) (nI (nu f n (b - 1))) (nI d) = some (nI (gs_to G)) ∧ d ≤ gs_to G ∧ gs_st G (gs_to G) := by
  have ha := nu_is h (show a < c by omega)
  have hb1 := nu_is h (show b - 1 < c by omega)
  obtain ⟨u, u1, u2, u3, u4, u5⟩ := ad_2 (f := f) ha.2 hb1.2 (4 - d) pl_N d rfl hd (by unfold pl_N; omega) ((gr_st h hab hb hG).mp hst)
  have e : gs_to G = u := gs_to_is u3 ((gr_st h hab hb hG).mpr u4) (fun z w => u5 z ((gr_st h hab hb hG).mp w))
  rw [e]
  exact ⟨u1, u2, (gr_st h hab hb hG).mpr u4⟩
