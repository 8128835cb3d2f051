/-! Worlds by a function of addresses: every cell that the law, the ledger and the reference have made lies in one world; its numbers of array kinds are turned into the tables' numbers by dA. -/
abbrev pl_H : Type := Nat → va_E
def pl_dum : va_E := .inr (1000, [])
def pl_E (dA : Nat → ClassId) (e : va_E) : va_E := match e with
  | .inl (t, x) => .inl (dA t, x)
  | .inr o => .inr o
def pl_wd (D : va_G) (cl : List vw_C) (dA : Nat → ClassId) (b n : Nat) (f : pl_H) (H : Heap) : Prop :=
  H.size = n ∧ b ≤ n ∧ (∀ a : Nat, b ≤ a → a < n → va_at D cl (a, pl_E dA (f a)) H) ∧ ∀ a : Nat, (a < b ∨ n ≤ a) → f a = pl_dum
def pl_A (b : Nat) : Nat → Prop := fun q => b ≤ q
theorem pl_in {D : va_G} {cl : List vw_C} {dA : Nat → ClassId} {b n : Nat} {f : pl_H} {H : Heap} (w : pl_wd D cl dA b n f H) {a : Nat} (h : f a ≠ pl_dum) : b ≤ a ∧ a < n := by
  by_cases h1 : b ≤ a
  · by_cases h2 : a < n
    · exact ⟨h1, h2⟩
    · exact absurd (w.2.2.2 a (Or.inr (by omega))) h
  · exact absurd (w.2.2.2 a (Or.inl (by omega))) h
theorem pl_ne_l {t : ClassId} {x : vp_A} : (Sum.inl (t, x) : va_E) ≠ pl_dum := fun h => by cases h
theorem pl_ne_r {ci : Nat} {fs : List Value} (h : ci ≠ 1000) : (Sum.inr (ci, fs) : va_E) ≠ pl_dum := fun q => by
  have q2 := Sum.inr.inj q
  exact h (congrArg Prod.fst q2)
theorem pl_arr {D : va_G} {cl : List vw_C} {dA : Nat → ClassId} {b n : Nat} {f : pl_H} {H : Heap} (w : pl_wd D cl dA b n f H) {a t : Nat} {x : vp_A} (h : f a = .inl (t, x)) : (b ≤ a ∧ a < n) ∧ H[a]? = some (vp_cell (dA t) x) := by
  have hi := pl_in w (a := a) (by rw [h]; exact pl_ne_l)
  have h1 := w.2.2.1 a hi.1 hi.2
  rw [h] at h1
  exact ⟨hi, h1⟩
theorem pl_obj {D : va_G} {cl : List vw_C} {dA : Nat → ClassId} {b n : Nat} {f : pl_H} {H : Heap} (w : pl_wd D cl dA b n f H) {a ci : Nat} {fs : List Value} (hci : ci ≠ 1000) (h : f a = .inr (ci, fs)) : (b ≤ a ∧ a < n) ∧ va_at D cl (a, .inr (ci, fs)) H := by
  have hi := pl_in w (a := a) (by rw [h]; exact pl_ne_r hci)
  have h1 := w.2.2.1 a hi.1 hi.2
  rw [h] at h1
  exact ⟨hi, h1⟩
theorem pl_set {D : va_G} {cl : List vw_C} {dA : Nat → ClassId} {b n : Nat} {f : pl_H} {H H1 : Heap} (w : pl_wd D cl dA b n f H) {a : Nat} (ha : b ≤ a ∧ a < n) {e : va_E} (he : va_at D cl (a, pl_E dA e) H1) (z : H1.size = H.size) (oq : ∀ q : Nat, q ≠ a → H1[q]? = H[q]?) : pl_wd D cl dA b n (va_up f a e) H1 := by
  refine ⟨z.trans w.1, w.2.1, fun q h1 h2 => ?_, fun q hq => ?_⟩
  · by_cases hqa : q = a
    · subst hqa
      rw [va_up_self]
      exact he
    · rw [va_up_ne _ _ hqa]
      exact (w.2.2.1 q h1 h2).kept (oq q hqa)
  · have hqa : q ≠ a := by omega
    rw [va_up_ne _ _ hqa]
    exact w.2.2.2 q hq
theorem pl_push {D : va_G} {cl : List vw_C} {dA : Nat → ClassId} {b n : Nat} {f : pl_H} {H H1 : Heap} (w : pl_wd D cl dA b n f H) {e : va_E} (he : va_at D cl (n, pl_E dA e) H1) (z : H1.size = n + 1) (oq : ∀ q : Nat, q < n → H1[q]? = H[q]?) : pl_wd D cl dA b (n + 1) (va_up f n e) H1 := by
  have hb := w.2.1
  refine ⟨z, by omega, fun q h1 h2 => ?_, fun q hq => ?_⟩
  · by_cases hqa : q = n
    · subst hqa
      rw [va_up_self]
      exact he
    · rw [va_up_ne _ _ hqa]
      exact (w.2.2.1 q h1 (by omega)).kept (oq q (by omega))
  · have hqa : q ≠ n := by omega
    rw [va_up_ne _ _ hqa]
    exact w.2.2.2 q (by omega)
-- reads and writes, as functions
def pl_vI (v : Value) : Option Int32 := match v with
  | .int x => some x
  | _ => none
def pl_vL (v : Value) : Option Int64 := match v with
  | .long x => some x
  | _ => none
def pl_vR (v : Value) : Option Nat := match v with
  | .ref x => some x
  | _ => none
def pl_vQ (v : Value) : Option (Option Nat) := match v with
  | .ref x => some (some x)
  | .null => some none
  | _ => none
theorem pl_vI_e {v : Value} {x : Int32} (h : pl_vI v = some x) : v = .int x := by
  cases v <;> simp [pl_vI] at h
  rw [h]
theorem pl_vL_e {v : Value} {x : Int64} (h : pl_vL v = some x) : v = .long x := by
  cases v <;> simp [pl_vL] at h
  rw [h]
theorem pl_vR_e {v : Value} {x : Nat} (h : pl_vR v = some x) : v = .ref x := by
  cases v <;> simp [pl_vR] at h
  rw [h]
theorem pl_vQ_e {v : Value} {x : Option Nat} (h : pl_vQ v = some x) : v = va_rf x := by
  cases v <;> simp [pl_vQ] at h <;> subst h <;> rfl
def pl_gV (f : pl_H) (a ci k : Nat) : Option Value := match f a with
  | .inr (c, fs) => if c = ci then fs[k]? else none
  | .inl _ => none
def pl_gI (f : pl_H) (a ci k : Nat) : Option Int32 := (pl_gV f a ci k).bind pl_vI
def pl_gL (f : pl_H) (a ci k : Nat) : Option Int64 := (pl_gV f a ci k).bind pl_vL
def pl_gR (f : pl_H) (a ci k : Nat) : Option Nat := (pl_gV f a ci k).bind pl_vR
def pl_gQ (f : pl_H) (a ci k : Nat) : Option (Option Nat) := (pl_gV f a ci k).bind pl_vQ
def pl_pV (f : pl_H) (a ci k : Nat) (v : Value) : Option pl_H := match f a with
  | .inr (c, fs) => if c = ci ∧ k < fs.length then some (va_up f a (.inr (c, fs.set k v))) else none
  | .inl _ => none
def pl_is (f : pl_H) (a ci : Nat) : Option Unit := match f a with
  | .inr (c, _) => if c = ci then some () else none
  | .inl _ => none
def pl_ok (i : Int32) (n : Nat) : Bool := !(decide (i < 0) || decide (n ≤ i.toNatClampNeg))
theorem pl_ok_in {i : Int32} {n : Nat} (h : pl_ok i n = true) : vp_in i n := by
  unfold pl_ok at h
  unfold vp_in
  simpa using h
def pl_aI (f : pl_H) (a : Nat) (i : Int32) : Option Int32 := match f a with
  | .inl (0, n, .inl g) => if pl_ok i n = true then some (g i.toNatClampNeg) else none
  | _ => none
def pl_aL (f : pl_H) (a : Nat) (i : Int32) : Option Int64 := match f a with
  | .inl (1, n, .inr (.inl g)) => if pl_ok i n = true then some (g i.toNatClampNeg) else none
  | _ => none
def pl_aQ (f : pl_H) (t a : Nat) (i : Int32) : Option (Option Nat) := match f a with
  | .inl (t', n, .inr (.inr (.inr (.inr g)))) => if t' = t ∧ pl_ok i n = true then some (g i.toNatClampNeg) else none
  | _ => none
def pl_sI (f : pl_H) (a : Nat) (i x : Int32) : Option pl_H := match f a with
  | .inl (0, n, .inl g) => if pl_ok i n = true then some (va_up f a (.inl (0, n, .inl (upd g i.toNatClampNeg x)))) else none
  | _ => none
def pl_sL (f : pl_H) (a : Nat) (i : Int32) (x : Int64) : Option pl_H := match f a with
  | .inl (1, n, .inr (.inl g)) => if pl_ok i n = true then some (va_up f a (.inl (1, n, .inr (.inl (vp_updL g i.toNatClampNeg x))))) else none
  | _ => none
def pl_ln (f : pl_H) (a : Nat) : Option Int32 := match f a with
  | .inl (t, n, _) => if t < 5 then some (Int32.ofNat n) else none
  | _ => none
def pl_sQ (f : pl_H) (t ci a : Nat) (i : Int32) (r : Option Nat) : Option pl_H := match f a with
  | .inl (t', n, .inr (.inr (.inr (.inr g)))) => if t' = t ∧ pl_ok i n = true then (match r with
      | none => some (va_up f a (.inl (t', n, .inr (.inr (.inr (.inr (va_up g i.toNatClampNeg none)))))))
      | some v => (pl_is f v ci).bind fun _ => some (va_up f a (.inl (t', n, .inr (.inr (.inr (.inr (va_up g i.toNatClampNeg (some v)))))))) ) else none
  | _ => none
theorem pl_bd {α β : Type} {o : Option α} {g : α → Option β} {y : β} (h : o.bind g = some y) : ∃ x, o = some x ∧ g x = some y := by
  cases o with
  | none => cases h
  | some x => exact ⟨x, rfl, h⟩
theorem pl_gV_e {f : pl_H} {a ci k : Nat} {v : Value} (h : pl_gV f a ci k = some v) : ∃ fs, f a = .inr (ci, fs) ∧ fs[k]? = some v := by
  unfold pl_gV at h
  split at h
  · rename_i c fs hf
    split at h
    · rename_i hc
      subst hc
      exact ⟨fs, hf, h⟩
    · cases h
  · cases h
theorem pl_pV_e {f f' : pl_H} {a ci k : Nat} {v : Value} (h : pl_pV f a ci k v = some f') : ∃ fs, f a = .inr (ci, fs) ∧ k < fs.length ∧ f' = va_up f a (.inr (ci, fs.set k v)) := by
  unfold pl_pV at h
  split at h
  · rename_i c fs hf
    split at h
    · rename_i hc
      obtain ⟨hc, hk⟩ := hc
      subst hc
      cases h
      exact ⟨fs, hf, hk, rfl⟩
    · cases h
  · cases h
theorem pl_is_e {f : pl_H} {a ci : Nat} {u : Unit} (h : pl_is f a ci = some u) : ∃ fs, f a = .inr (ci, fs) := by
  unfold pl_is at h
  split at h
  · rename_i c fs hf
    split at h
    · rename_i hc
      subst hc
      exact ⟨fs, hf⟩
    · cases h
  · cases h
theorem pl_aI_e {f : pl_H} {a : Nat} {i x : Int32} (h : pl_aI f a i = some x) : ∃ (n : Nat) (g : Nat → Int32), f a = .inl (0, n, .inl g) ∧ vp_in i n ∧ x = g i.toNatClampNeg := by
  unfold pl_aI at h
  split at h
  · rename_i n g hf
    split at h
    · rename_i hc
      cases h
      exact ⟨n, g, hf, pl_ok_in hc, rfl⟩
    · cases h
  · cases h
theorem pl_aL_e {f : pl_H} {a : Nat} {i : Int32} {x : Int64} (h : pl_aL f a i = some x) : ∃ (n : Nat) (g : Nat → Int64), f a = .inl (1, n, .inr (.inl g)) ∧ vp_in i n ∧ x = g i.toNatClampNeg := by
  unfold pl_aL at h
  split at h
  · rename_i n g hf
    split at h
    · rename_i hc
      cases h
      exact ⟨n, g, hf, pl_ok_in hc, rfl⟩
    · cases h
  · cases h
theorem pl_aQ_e {f : pl_H} {t a : Nat} {i : Int32} {x : Option Nat} (h : pl_aQ f t a i = some x) : ∃ (n : Nat) (g : Nat → Option Nat), f a = .inl (t, n, .inr (.inr (.inr (.inr g)))) ∧ vp_in i n ∧ x = g i.toNatClampNeg := by
  unfold pl_aQ at h
  split at h
  · rename_i t' n g hf
    split at h
    · rename_i hc
      obtain ⟨hc, h2⟩ := hc
      subst hc
      cases h
      exact ⟨n, g, hf, pl_ok_in h2, rfl⟩
    · cases h
  · cases h
theorem pl_sI_e {f f' : pl_H} {a : Nat} {i x : Int32} (h : pl_sI f a i x = some f') : ∃ (n : Nat) (g : Nat → Int32), f a = .inl (0, n, .inl g) ∧ vp_in i n ∧ f' = va_up f a (.inl (0, n, .inl (upd g i.toNatClampNeg x))) := by
  unfold pl_sI at h
  split at h
  · rename_i n g hf
    split at h
    · rename_i hc
      cases h
      exact ⟨n, g, hf, pl_ok_in hc, rfl⟩
    · cases h
  · cases h
theorem pl_sL_e {f f' : pl_H} {a : Nat} {i : Int32} {x : Int64} (h : pl_sL f a i x = some f') : ∃ (n : Nat) (g : Nat → Int64), f a = .inl (1, n, .inr (.inl g)) ∧ vp_in i n ∧ f' = va_up f a (.inl (1, n, .inr (.inl (vp_updL g i.toNatClampNeg x)))) := by
  unfold pl_sL at h
  split at h
  · rename_i n g hf
    split at h
    · rename_i hc
      cases h
      exact ⟨n, g, hf, pl_ok_in hc, rfl⟩
    · cases h
  · cases h
theorem pl_sQ_e {f f' : pl_H} {t ci a : Nat} {i : Int32} {r : Option Nat} (h : pl_sQ f t ci a i r = some f') : ∃ (n : Nat) (g : Nat → Option Nat), f a = .inl (t, n, .inr (.inr (.inr (.inr g)))) ∧ vp_in i n ∧ f' = va_up f a (.inl (t, n, .inr (.inr (.inr (.inr (va_up g i.toNatClampNeg r)))))) ∧ ∀ v, r = some v → ∃ fs, f v = .inr (ci, fs) := by
  unfold pl_sQ at h
  split at h
  · rename_i t' n g hf
    split at h
    · rename_i hc
      obtain ⟨hc, h2⟩ := hc
      subst hc
      cases r with
      | none =>
        cases h
        exact ⟨n, g, hf, pl_ok_in h2, rfl, fun v hv => by cases hv⟩
      | some v =>
        obtain ⟨u, h3, h4⟩ := pl_bd h
        cases h4
        exact ⟨n, g, hf, pl_ok_in h2, rfl, fun v' hv => by cases hv; exact pl_is_e h3⟩
    · cases h
  · cases h
theorem pl_ln_e {f : pl_H} {a : Nat} {x : Int32} (h : pl_ln f a = some x) : ∃ (t : Nat) (y : vp_A), f a = .inl (t, y) ∧ t < 5 ∧ Int32.ofNat y.1 = x := by
  unfold pl_ln at h
  split at h
  · rename_i t n y hf
    split at h
    · rename_i ht
      cases h
      exact ⟨t, (n, y), hf, ht, rfl⟩
    · cases h
  · cases h
theorem pl_P1 {D : va_G} {cl : List vw_C} {q : Nat × va_E} {H : Heap} (h : va_at D cl q H) : va_P D cl [q] H := fun k x hx => by
  cases k with
  | zero => cases hx; exact h
  | succ k => cases hx
