/-! Accounts in rows: c of them, numbers n, nonces o, balances b, stand for the map m. -/
abbrev am_M : Type := Int32 → Option (Int32 × Int64)
def am_R (c : Nat) (n o : Nat → Int32) (b : Nat → Int64) (m : am_M) : Prop := (∀ j, j < c → ∃ y, y < 65536 ∧ n j = nI y) ∧ (∀ i j, i < c → j < c → n i = n j → i = j) ∧ ∀ y v, m y = some v ↔ ∃ j, j < c ∧ n j = y ∧ o j = v.1 ∧ b j = v.2
def am_up (m : am_M) (x : Int32) (v : Option (Int32 × Int64)) : am_M := fun y => if y = x then v else m y
theorem am_at {c : Nat} {n o : Nat → Int32} {b : Nat → Int64} {m : am_M} (h : am_R c n o b m) {j : Nat} (hj : j < c) : m (n j) = some (o j, b j) := (h.2.2 (n j) (o j, b j)).mpr ⟨j, hj, rfl, rfl, rfl⟩
theorem am_no {c : Nat} {n o : Nat → Int32} {b : Nat → Int64} {m : am_M} (h : am_R c n o b m) {x : Int32} (hx : ∀ j, j < c → n j ≠ x) : m x = none := by
  cases hm : m x with
  | none => rfl
  | some v =>
    obtain ⟨j, h1, h2, -⟩ := (h.2.2 x v).mp hm
    exact absurd h2 (hx j h1)
theorem am_ne {c : Nat} {n o : Nat → Int32} {b : Nat → Int64} {m : am_M} (h : am_R c n o b m) {x : Int32} (hx : m x = none) : ∀ j, j < c → n j ≠ x := fun j hj e => by
  have := am_at h hj
  rw [e, hx] at this
  cases this
/-- rows that agree with other rows by a change of places -/
theorem am_by {c c' : Nat} {n o n' o' : Nat → Int32} {b b' : Nat → Int64} {m m' : am_M} (h1 : ∀ j, j < c' → ∃ y, y < 65536 ∧ n' j = nI y) (h2 : ∀ i j, i < c' → j < c' → n' i = n' j → i = j) (h3 : ∀ j, j < c' → m' (n' j) = some (o' j, b' j)) (h4 : ∀ y v, m' y = some v → ∃ j, j < c' ∧ n' j = y) : am_R c' n' o' b' m' := by
  refine ⟨h1, h2, fun y v => ⟨fun h => ?_, fun ⟨j, hj, e1, e2, e3⟩ => ?_⟩⟩
  · obtain ⟨j, hj, e⟩ := h4 y v h
    have h5 := h3 j hj
    rw [e, h] at h5
    have h6 := Option.some.inj h5
    exact ⟨j, hj, e, by rw [h6], by rw [h6]⟩
  · have h5 := h3 j hj
    rw [e1] at h5
    rw [h5, e2, e3]
theorem am_c {c : Nat} {n o n' o' : Nat → Int32} {b b' : Nat → Int64} {m : am_M} (h : am_R c n o b m) (hn : ∀ j, j < c → n' j = n j) (ho : ∀ j, j < c → o' j = o j) (hb : ∀ j, j < c → b' j = b j) : am_R c n' o' b' m := by
  refine am_by (fun j hj => by rw [hn j hj]; exact h.1 j hj) (fun i j hi hj e => h.2.1 i j hi hj (by rw [← hn i hi, ← hn j hj]; exact e)) (fun j hj => by rw [hn j hj, ho j hj, hb j hj]; exact am_at h hj) (fun y v hy => ?_) (c := c) (n := n) (o := o) (b := b) (m := m)
  obtain ⟨j, hj, e, -⟩ := (h.2.2 y v).mp hy
  exact ⟨j, hj, by rw [hn j hj]; exact e⟩
/-- another value for an account that is there -/
theorem am_set {c : Nat} {n o o' : Nat → Int32} {b b' : Nat → Int64} {m : am_M} (h : am_R c n o b m) {p : Nat} (hp : p < c) (ho : ∀ j, j < c → j ≠ p → o' j = o j) (hb : ∀ j, j < c → j ≠ p → b' j = b j) : am_R c n o' b' (am_up m (n p) (some (o' p, b' p))) := by
  refine am_by h.1 h.2.1 (fun j hj => ?_) (fun y v hy => ?_) (c := c) (n := n) (o := o) (b := b) (m := m)
  · unfold am_up
    by_cases e : j = p
    · subst e; rw [if_pos rfl]
    · rw [if_neg (fun q => e (h.2.1 j p hj hp q)), ho j hj e, hb j hj e]
      exact am_at h hj
  · unfold am_up at hy
    by_cases e : y = n p
    · exact ⟨p, hp, e.symm⟩
    · rw [if_neg e] at hy
      obtain ⟨j, hj, e1, -⟩ := (h.2.2 y v).mp hy
      exact ⟨j, hj, e1⟩
/-- a new account at the place p, those behind it one place on -/
theorem am_ins {c : Nat} {n o n' o' : Nat → Int32} {b b' : Nat → Int64} {m : am_M} (h : am_R c n o b m) {p : Nat} {y0 : Nat} (hp : p ≤ c) (hy : y0 < 65536) (hm : m (nI y0) = none) (hx : n' p = nI y0) (h1 : ∀ j, j < p → n' j = n j ∧ o' j = o j ∧ b' j = b j) (h2 : ∀ j, p ≤ j → j < c → n' (j + 1) = n j ∧ o' (j + 1) = o j ∧ b' (j + 1) = b j) : am_R (c + 1) n' o' b' (am_up m (nI y0) (some (o' p, b' p))) := by
  have hne := am_ne h hm
  have cases3 : ∀ j, j < c + 1 → (j < p ∧ n' j = n j ∧ o' j = o j ∧ b' j = b j) ∨ j = p ∨ (p < j ∧ j - 1 < c ∧ n' j = n (j - 1) ∧ o' j = o (j - 1) ∧ b' j = b (j - 1)) := fun j hj => by
    by_cases e1 : j < p
    · exact Or.inl ⟨e1, h1 j e1⟩
    · by_cases e2 : j = p
      · exact Or.inr (Or.inl e2)
      · have := h2 (j - 1) (by omega) (by omega)
        rw [show j - 1 + 1 = j by omega] at this
        exact Or.inr (Or.inr ⟨by omega, by omega, this⟩)
  refine am_by (fun j hj => ?_) (fun i j hi hj e => ?_) (fun j hj => ?_) (fun y v hyv => ?_) (c := c) (n := n) (o := o) (b := b) (m := m)
  · rcases cases3 j hj with ⟨a1, a2, -⟩ | a1 | ⟨a1, a2, a3, -⟩
    · rw [a2]; exact h.1 j (by omega)
    · rw [a1]; exact ⟨y0, hy, hx⟩
    · rw [a3]; exact h.1 _ a2
  · rcases cases3 i hi with ⟨a1, a2, -⟩ | a1 | ⟨a1, a2, a3, -⟩ <;> rcases cases3 j hj with ⟨b1, b2, -⟩ | b1 | ⟨b1, b2, b3, -⟩
    · rw [a2, b2] at e
      exact h.2.1 i j (by omega) (by omega) e
    · rw [a2, b1, hx] at e
      exact absurd e (hne i (by omega))
    · rw [a2, b3] at e
      have := h.2.1 i (j - 1) (by omega) (by omega) e
      omega
    · rw [a1, hx, b2] at e
      exact absurd e.symm (hne j (by omega))
    · omega
    · rw [a1, hx, b3] at e
      exact absurd e.symm (hne _ b2)
    · rw [a3, b2] at e
      have := h.2.1 (i - 1) j (by omega) (by omega) e
      omega
    · rw [a3, b1, hx] at e
      exact absurd e (hne _ a2)
    · rw [a3, b3] at e
      have := h.2.1 (i - 1) (j - 1) (by omega) (by omega) e
      omega
  · unfold am_up
    rcases cases3 j hj with ⟨a1, a2, a3, a4⟩ | a1 | ⟨a1, a2, a3, a4, a5⟩
    · rw [a2, a3, a4, if_neg (hne j (by omega))]; exact am_at h (by omega)
    · rw [a1, hx, if_pos rfl]
    · rw [a3, a4, a5, if_neg (hne _ a2)]; exact am_at h a2
  · unfold am_up at hyv
    by_cases e : y = nI y0
    · exact ⟨p, by omega, by rw [hx, e]⟩
    · rw [if_neg e] at hyv
      obtain ⟨j, hj, e1, -⟩ := (h.2.2 y v).mp hyv
      by_cases e2 : j < p
      · exact ⟨j, by omega, by rw [(h1 j e2).1]; exact e1⟩
      · exact ⟨j + 1, by omega, by rw [(h2 j (by omega) hj).1]; exact e1⟩
/-- an account gone from the place p, those behind it one place back -/
theorem am_del {c : Nat} {n o n' o' : Nat → Int32} {b b' : Nat → Int64} {m : am_M} (h : am_R (c + 1) n o b m) {p : Nat} (hp : p ≤ c) (h1 : ∀ j, j < p → n' j = n j ∧ o' j = o j ∧ b' j = b j) (h2 : ∀ j, p ≤ j → j < c → n' j = n (j + 1) ∧ o' j = o (j + 1) ∧ b' j = b (j + 1)) : am_R c n' o' b' (am_up m (n p) none) := by
  have cs : ∀ j, j < c → ∃ i, i < c + 1 ∧ i ≠ p ∧ i = (if j < p then j else j + 1) ∧ n' j = n i ∧ o' j = o i ∧ b' j = b i := fun j hj => by
    by_cases e1 : j < p
    · exact ⟨j, by omega, by omega, by rw [if_pos e1], h1 j e1⟩
    · exact ⟨j + 1, by omega, by omega, by rw [if_neg e1], h2 j (by omega) hj⟩
  refine am_by (fun j hj => ?_) (fun i j hi hj e => ?_) (fun j hj => ?_) (fun y v hyv => ?_) (c := c + 1) (n := n) (o := o) (b := b) (m := m)
  · obtain ⟨i, i1, -, -, i3, -⟩ := cs j hj
    rw [i3]; exact h.1 i i1
  · obtain ⟨i', a1, -, a2, a3, -⟩ := cs i hi
    obtain ⟨j', b1, -, b2, b3, -⟩ := cs j hj
    rw [a3, b3] at e
    have := h.2.1 i' j' a1 b1 e
    rw [a2, b2] at this
    split at this <;> split at this <;> omega
  · obtain ⟨i, i1, i2, -, i3, i4, i5⟩ := cs j hj
    unfold am_up
    rw [i3, i4, i5, if_neg (fun q => i2 (h.2.1 i p i1 (by omega) q))]
    exact am_at h i1
  · unfold am_up at hyv
    by_cases e : y = n p
    · rw [if_pos e] at hyv; cases hyv
    · rw [if_neg e] at hyv
      obtain ⟨j, hj, e1, -⟩ := (h.2.2 y v).mp hyv
      have hjp : j ≠ p := fun q => e (by rw [← e1, q])
      by_cases e2 : j < p
      · exact ⟨j, by omega, by rw [(h1 j e2).1]; exact e1⟩
      · refine ⟨j - 1, by omega, ?_⟩
        have := (h2 (j - 1) (by omega) (by omega)).1
        rw [show j - 1 + 1 = j by omega] at this
        rw [this]; exact e1
