/-! send: the specification, and the class. -/
def sp_amt (q : Int64) : Bool := decide (0 ≤ q) && decide (q ≤ 1000000000000)
theorem sp_amt_e {q : Int64} (h : sp_amt q = true) : 0 ≤ q.toInt ∧ q.toInt ≤ 1000000000000 := by
  unfold sp_amt at h
  simp at h
  exact ⟨by have := Int64.le_iff_toInt_le.mp h.1; simpa using this, by have := Int64.le_iff_toInt_le.mp h.2; simpa using this⟩
theorem lg_isS (f : pl_H) (q : Int64) : fn_L_isSendable f q = some (if sp_amt q = true then 1 else 0) := by
  unfold fn_L_isSendable fn_L_isSendable_18 fn_L_isSendable_19 sp_amt
  by_cases h1 : q < 0
  · rw [if_pos ((lg_cmp_lt q 0).mpr h1)]
    have : ¬ (0 : Int64) ≤ q := Int64.not_le.mpr h1
    simp [this]
    rfl
  · rw [if_neg (fun z => h1 ((lg_cmp_lt q 0).mp z))]
    have h2 : (0 : Int64) ≤ q := Int64.not_lt.mp h1
    by_cases h3 : 1000000000000 < q
    · rw [if_pos ((lg_cmp_gt q _).mpr h3)]
      have : ¬ q ≤ (1000000000000 : Int64) := Int64.not_le.mpr h3
      simp [this]
      rfl
    · rw [if_neg (fun z => h3 ((lg_cmp_gt q _).mp z))]
      have : q ≤ (1000000000000 : Int64) := Int64.not_lt.mp h3
      simp [this, h2]
      rfl
theorem mo_isS (f : pl_H) (q : Int64) : fn_M_isAmount f q = some (if sp_amt q = true then 1 else 0) := lg_isS f q
def sp_m1 (m : am_M) (x k : Int32) (q e : Int64) : am_M := am_up m x (some (k + 1, am_b m x - q - e))
def sp_m2 (m : am_M) (y : Int32) (q : Int64) : am_M := if 0 < q then am_up m y (some (am_n m y, am_b m y + q)) else m
def sp_new (m : am_M) (y : Int32) (q : Int64) : Nat := if 0 < q ∧ m y = none then 1 else 0
def sp_t (m : am_M) (fe x y : Int32) (q e : Int64) (k : Int32) : Nat := (1 - am_1 (m x)) + sp_new (sp_m1 m x k q e) y q + sp_new (sp_m2 (sp_m1 m x k q e) y q) fe e
def sp_m3 (m : am_M) (fe x y : Int32) (q e : Int64) (k : Int32) : am_M := sp_m2 (sp_m2 (sp_m1 m x k q e) y q) fe e
def sp_send (c : Nat) (m : am_M) (fe x y : Int32) (q e : Int64) (k : Int32) : Int32 × Nat × am_M × Bool :=
  if sp_acc x = true ∧ sp_acc y = true ∧ sp_amt q = true ∧ sp_amt e = true then
    (if k = am_n m x then
      (if q + e ≤ am_b m x then
        (if c + sp_t m fe x y q e k ≤ 12 then (nI (c + sp_t m fe x y q e k), c + sp_t m fe x y q e k, sp_m3 m fe x y q e k, true) else (-4, c, m, false))
      else (-3, c, m, false))
    else (-2, c, m, false))
  else (-1, c, m, false)
theorem sp_pos {q : Int64} : 0 < q ↔ 0 < q.toInt := by
  have := Int64.lt_iff_toInt_lt (x := 0) (y := q)
  simpa using this
theorem sp_m1_ok {K : Nat} {m : am_M} (h : am_ok K m) (hK : K ≤ 512) {x k : Int32} {q e : Int64} (hk : k = am_n m x) (hq : 0 ≤ q.toInt ∧ q.toInt ≤ 1000000000000) (he : 0 ≤ e.toInt ∧ e.toInt ≤ 1000000000000) (hs : q + e ≤ am_b m x) : am_ok (K + 1) (sp_m1 m x k q e) ∧ (∀ y v, sp_m1 m x k q e y = some v → v.2.toInt ≤ K * 2000000000000) ∧ k + 1 ≠ 0 := by
  have hb := am_b_ok h x
  have hn := am_n_ok h x
  have hs1 := l_add (x := q) (y := e) hq.1 he.1 (by omega)
  have hs2 : q.toInt + e.toInt ≤ (am_b m x).toInt := by rw [← hs1]; exact Int64.le_iff_toInt_le.mp hs
  have e1 : (am_b m x - q).toInt = (am_b m x).toInt - q.toInt := by
    rw [Int64.toInt_sub]
    exact Int.bmod_eq_of_le (by omega) (by omega)
  have e2 : (am_b m x - q - e).toInt = (am_b m x).toInt - q.toInt - e.toInt := by
    rw [Int64.toInt_sub, e1]
    exact Int.bmod_eq_of_le (by omega) (by omega)
  have e3 : (k + 1).toInt = k.toInt + 1 := by
    rw [Int32.toInt_add, show (1 : Int32).toInt = 1 from rfl]
    rw [← hk] at hn
    exact Int.bmod_eq_of_le (by omega) (by omega)
  rw [← hk] at hn
  have hne : k + 1 ≠ 0 := fun z => by
    have := congrArg Int32.toInt z
    rw [e3] at this
    simp at this
    omega
  refine ⟨fun y v hv => ?_, fun y v hv => ?_, hne⟩
  · unfold sp_m1 am_up at hv
    by_cases hy : y = x
    · rw [if_pos hy] at hv
      cases hv
      refine ⟨⟨?_, ?_⟩, ⟨?_, ?_⟩, Or.inl hne⟩
      · show 0 ≤ (k + 1).toInt
        omega
      · show (k + 1).toInt ≤ _
        omega
      · show 0 ≤ (am_b m x - q - e).toInt
        omega
      · show (am_b m x - q - e).toInt ≤ _
        omega
    · rw [if_neg hy] at hv
      have := h y v hv
      refine ⟨⟨by omega, by omega⟩, ⟨by omega, by omega⟩, this.2.2⟩
  · unfold sp_m1 am_up at hv
    by_cases hy : y = x
    · rw [if_pos hy] at hv
      cases hv
      show (am_b m x - q - e).toInt ≤ _
      omega
    · rw [if_neg hy] at hv
      have := h y v hv
      omega
/-- crediting an amount, 0 too -/
theorem sp_cred {B K : Nat} {m : am_M} (h : am_ok K m) (hB : ∀ y v, m y = some v → v.2.toInt ≤ B) (hB2 : B ≤ 2000000000000000) (y : Int32) {q : Int64} (hq : 0 ≤ q.toInt ∧ q.toInt ≤ 1000000000000) {v : Option (Int32 × Int64)} (hv : v = if am_n m y = 0 ∧ am_b m y + q = 0 then none else some (am_n m y, am_b m y + q)) :
    am_up m y v = sp_m2 m y q ∧ (m y = none → v ≠ none → 0 < q) ∧ am_1 v = am_1 (m y) + sp_new m y q ∧ (∀ z w, sp_m2 m y q z = some w → w.2.toInt ≤ B + 1000000000000) := by
  have hby : 0 ≤ (am_b m y).toInt ∧ (am_b m y).toInt ≤ B := by
    unfold am_b
    cases hm : m y with
    | none => simp
    | some w => exact ⟨(h y w hm).2.1.1, hB y w hm⟩
  have hs := l_add (x := am_b m y) (y := q) hby.1 hq.1 (by omega)
  by_cases hp : 0 < q
  · have hp' := sp_pos.mp hp
    have hnz : ¬ (am_n m y = 0 ∧ am_b m y + q = 0) := fun z => by
      have := congrArg Int64.toInt z.2
      rw [hs] at this
      simp at this
      omega
    rw [if_neg hnz] at hv
    subst hv
    refine ⟨by unfold sp_m2; rw [if_pos hp], fun _ _ => hp, ?_, fun z w hw => ?_⟩
    · unfold sp_new
      cases hm : m y with
      | none => rw [if_pos ⟨hp, rfl⟩]; rfl
      | some w => rw [if_neg (fun z => by cases z.2)]; rfl
    · unfold sp_m2 at hw
      rw [if_pos hp] at hw
      unfold am_up at hw
      by_cases hz : z = y
      · rw [if_pos hz] at hw
        cases hw
        show (am_b m y + q).toInt ≤ _
        omega
      · rw [if_neg hz] at hw
        have := hB z w hw
        omega
  · have hq0 : q.toInt = 0 := by
      have : ¬ 0 < q.toInt := fun z => hp (sp_pos.mpr z)
      omega
    have hq0' : q = 0 := Int64.toInt_inj.mp (by rw [hq0]; rfl)
    subst hq0'
    have e0 : am_b m y + 0 = am_b m y := by simp
    rw [e0] at hv
    have hm2 : sp_m2 m y 0 = m := by unfold sp_m2; rw [if_neg hp]
    rw [hm2]
    cases hm : m y with
    | none =>
      have : v = none := by
        rw [hv, if_pos]
        unfold am_n am_b
        rw [hm]
        exact ⟨rfl, rfl⟩
      subst this
      refine ⟨am_up_id hm, fun _ z => absurd rfl z, ?_, fun z w hw => (by have := hB z w hw; omega)⟩
      unfold sp_new
      rw [if_neg (fun z => hp z.1)]
      rfl
    | some w =>
      have hw := (h y w hm).2.2
      have : v = some w := by
        rw [hv, if_neg]
        · unfold am_n am_b
          rw [hm]
        · unfold am_n am_b
          rw [hm]
          exact fun z => hw.elim (fun z1 => z1 z.1) (fun z1 => z1 z.2)
      subst this
      refine ⟨am_up_same hm, fun z => (by cases z), ?_, fun z w hw => (by have := hB z w hw; omega)⟩
      unfold sp_new
      rw [if_neg (fun z => hp z.1)]
      rfl
theorem sp_m2_ok {K B : Nat} {m : am_M} (h : am_ok K m) (hB : ∀ y v, m y = some v → v.2.toInt ≤ B) (hB1 : B + 1000000000000 ≤ K * 2000000000000) (hK : K ≤ 513) (y : Int32) {q : Int64} (hq : 0 ≤ q.toInt ∧ q.toInt ≤ 1000000000000) : am_ok K (sp_m2 m y q) := by
  have hby : 0 ≤ (am_b m y).toInt ∧ (am_b m y).toInt ≤ B := by
    unfold am_b
    cases hm : m y with
    | none => simp
    | some w => exact ⟨(h y w hm).2.1.1, hB y w hm⟩
  have hs := l_add (x := am_b m y) (y := q) hby.1 hq.1 (by omega)
  intro z w hw
  unfold sp_m2 at hw
  by_cases hp : 0 < q
  · rw [if_pos hp] at hw
    unfold am_up at hw
    by_cases hz : z = y
    · rw [if_pos hz] at hw
      cases hw
      have hp' := sp_pos.mp hp
      refine ⟨am_n_ok h y, ⟨?_, ?_⟩, Or.inr (fun z => ?_)⟩
      · show 0 ≤ (am_b m y + q).toInt
        omega
      · show (am_b m y + q).toInt ≤ _
        omega
      · have := congrArg Int64.toInt z
        rw [show (am_b m y + q, (0 : Int64)).1.toInt = _ from hs] at this
        simp at this
        omega
    · rw [if_neg hz] at hw
      exact h z w hw
  · rw [if_neg hp] at hw
    exact h z w hw
