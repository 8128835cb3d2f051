/-! check: what it asks of the parts' bytes. -/
def pb (P : List (List Int32)) (p i : Nat) : Nat := ((P.getD p []).getD i 0).toNatClampNeg
def pk_ok (P : List (List Int32)) : Prop := ∀ (p : Nat) (L : List Int32) (i : Nat) (b : Int32), P[p]? = some L → L[i]? = some b → ∃ v, v < 256 ∧ b = nI v
theorem gd_some {α : Type} {P : List α} {p : Nat} {L z : α} (h : P[p]? = some L) : P.getD p z = L := by
  rw [List.getD_eq_getElem?_getD, h]
  rfl
theorem gd_out {α : Type} {P : List α} {p : Nat} {z : α} (h : P.length ≤ p) : P.getD p z = z := by
  rw [List.getD_eq_getElem?_getD, List.getElem?_eq_none h]
  rfl
theorem gd_lt {α : Type} {P : List α} {p : Nat} {z : α} (h : p < P.length) : P[p]? = some (P.getD p z) := by
  rw [List.getD_eq_getElem?_getD, List.getElem?_eq_getElem h]
  rfl
theorem pb_is {P : List (List Int32)} (h : pk_ok P) (p i : Nat) : (P.getD p []).getD i 0 = nI (pb P p i) ∧ pb P p i < 256 := by
  unfold pb
  rcases Nat.lt_or_ge p P.length with hp | hp
  · have e1 := gd_lt (z := []) hp
    rcases Nat.lt_or_ge i (P.getD p []).length with hi | hi
    · have e2 := gd_lt (z := (0 : Int32)) hi
      obtain ⟨v, hv, e⟩ := h p _ i _ e1 e2
      rw [e, bs_cl (by omega)]
      exact ⟨rfl, hv⟩
    · rw [gd_out hi]
      exact ⟨rfl, by decide⟩
  · rw [gd_out hp]
    rw [gd_out (show ([] : List Int32).length ≤ i from Nat.zero_le _)]
    exact ⟨rfl, by decide⟩
theorem pb_out {P : List (List Int32)} {p i : Nat} (h : (P.getD p []).length ≤ i) : pb P p i = 0 := by
  unfold pb
  rw [gd_out h]
  rfl
/-- the place behind an item -/
def ie (g : Nat → Nat) (i : Nat) : Option Nat := if g i < 128 then some (i + 1) else if g i < 184 then some (i + 1 + (g i - 128)) else if g i < 192 then none else if g i < 248 then some (i + 1 + (g i - 192)) else none
def ib (g : Nat → Nat) (i : Nat) : Nat := if g i < 128 then i else i + 1
def ni (g : Nat → Nat) (i : Nat) : Option Nat := if g i < 192 then none else if 249 < g i then none else if g i = 249 then some (i + 3) else if g i = 248 then some (i + 2) else some (i + 1)
def nby (g : Nat → Nat) (i : Nat) : Nat := if g i = 249 then 256 * g (i + 1) + g (i + 2) else if g i = 248 then g (i + 1) else g i - 192
def hfd (g : Nat → Nat) (b h : Nat) : Nat := if h % 2 = 0 then g (b + h / 2) / 16 else g (b + h / 2) % 16
def itn (g : Nat → Nat) : Nat → Nat → Option Nat
  | 0, i => some i
  | k + 1, i => match ie g i with
    | none => none
    | some j => itn g k j
def oI (o : Option Nat) : Int32 := match o with
  | none => -1
  | some j => nI j
theorem ie_b {g : Nat → Nat} {i j : Nat} (hg : ∀ q, g q < 256) (h : ie g i = some j) : i < j ∧ j ≤ i + 56 ∧ ib g i ≤ j ∧ i ≤ ib g i := by
  unfold ie at h
  unfold ib
  have := hg i
  split at h
  · rw [if_pos (by assumption)]
    have := Option.some.inj h
    omega
  · rw [if_neg (by assumption)]
    split at h
    · have := Option.some.inj h
      omega
    · split at h
      · cases h
      · split at h
        · have := Option.some.inj h
          omega
        · cases h
theorem ni_b {g : Nat → Nat} {i j : Nat} (h : ni g i = some j) : i < j ∧ j ≤ i + 3 ∧ 192 ≤ g i ∧ g i ≤ 249 := by
  unfold ni at h
  split at h
  · cases h
  · split at h
    · cases h
    · split at h
      · have := Option.some.inj h
        omega
      · split at h
        · have := Option.some.inj h
          omega
        · have := Option.some.inj h
          omega
/-- what a node's digits say -/
noncomputable def pnd (g : Nat → Nat) (x one two d : Nat) : Option (Bool × Nat × Nat) :=
  if two - ib g one = 0 then none else if 4 < d + (2 * (two - ib g one) - 2 + g (ib g one) / 16 % 2) then none else
  cif (∀ t, t < 2 * (two - ib g one) - 2 + g (ib g one) / 16 % 2 → hfd g (ib g one) (2 - g (ib g one) / 16 % 2 + t) = dg x (d + t))
    (if g (ib g one) / 16 / 2 % 2 = 0 then some (false, two, d + (2 * (two - ib g one) - 2 + g (ib g one) / 16 % 2)) else if d + (2 * (two - ib g one) - 2 + g (ib g one) / 16 % 2) = 4 then some (true, two, 4) else none) none
def pnf (g : Nat → Nat) (x one d : Nat) : Option (Bool × Nat × Nat) := if d < 4 then (match itn g (dg x d) one with
    | none => none
    | some it => some (false, it, d + 1)) else none
/-- one node: none: the way ends; (true, ..): a value there; (false, item, depth): on to an item -/
noncomputable def pn (g : Nat → Nat) (x i d : Nat) : Option (Bool × Nat × Nat) := match ni g i with
  | none => none
  | some one => match ie g one with
    | none => none
    | some two => match ie g two with
      | none => none
      | some e => if e = one + nby g i then pnd g x one two d else pnf g x one d
def nmb (g : Nat → Nat) : Nat → Nat → Int64 → Int64
  | 0, _, v => v
  | j + 1, i, v => nmb g j (i + 1) (256 * v + (nI (g i)).toInt64)
def nm_ (g : Nat → Nat) (i : Nat) : Int64 := match ie g i with
  | none => 0
  | some e => nmb g (e - ib g i) (ib g i) 0
def nm_b (g : Nat → Nat) (i : Nat) : Int64 := match ie g i with
  | none => 0
  | some s => nm_ g s
/-- the hash of a part, byte k -/
noncomputable def phx (P : List (List Int32)) (p k : Nat) : Int32 := kk_h (fun j => (P.getD p []).getD j 0) (P.getD p []).length k
noncomputable def ckr (P : List (List Int32)) (x : Nat) : Nat → Nat → Nat → Nat → Int32 × Int64 × Int64
  | 0, _, _, _ => (-1, 0, 0)
  | s + 1, p, i, d => match pn (pb P p) x i d with
    | none => if p + 1 = P.length then (0, 0, 0) else (-1, 0, 0)
    | some (true, two, _) => if p + 1 = P.length then (1, nm_ (pb P p) (ib (pb P p) two + 1), nm_b (pb P p) (ib (pb P p) two + 1)) else (-1, 0, 0)
    | some (false, it, d') => if pb P p it = 160 then cif (p + 1 < P.length ∧ ∀ k, k < 32 → phx P (p + 1) k = nI (pb P p (it + 1 + k))) (ckr P x s (p + 1) 0 d') (-1, 0, 0) else if 192 ≤ pb P p it then ckr P x s p it d' else if p + 1 = P.length then (0, 0, 0) else (-1, 0, 0)
noncomputable def sp_check (P : List (List Int32)) (m : am_M) (x : Int32) : Int32 × Int64 × Int64 := if sp_acc x = true then cif (0 < P.length ∧ ∀ k, k < 32 → phx P 0 k = sp_hash m k) (ckr P x.toNatClampNeg 2020 0 0 0) (-1, 0, 0) else (-1, 0, 0)
/-- eight bits more -/
theorem nm_or (v : Int64) {b : Nat} (hb : b < 256) : (v <<< ((8 : Int32).toInt64 &&& 63)) ||| (nI b).toInt64 = 256 * v + (nI b).toInt64 := by
  have e8 : (v <<< ((8 : Int32).toInt64 &&& 63)) = 256 * v := by
    rw [show ((8 : Int32).toInt64 &&& 63) = 8 from rfl]
    apply Int64.toBitVec_inj.mp
    show (v.toBitVec <<< ((8 : Int64).toBitVec.smod 64)) = (256 : Int64).toBitVec * v.toBitVec
    rw [show (8 : Int64).toBitVec.smod 64 = 8#64 from rfl, show (256 : Int64).toBitVec = BitVec.twoPow 64 8 from rfl]
    rw [BitVec.mul_comm, BitVec.mul_twoPow_eq_shiftLeft]
    rfl
  rw [e8, nI_l (by omega)]
  apply Int64.toBitVec_inj.mp
  show (256 * v).toBitVec ||| (lN b).toBitVec = (256 * v).toBitVec + (lN b).toBitVec
  refine (BitVec.add_eq_or_of_and_eq_zero _ _ ?_).symm
  rw [← e8]
  show (v.toBitVec <<< (((8 : Int32).toInt64 &&& 63).toBitVec.smod 64)) &&& (BitVec.ofNat 64 b) = 0#64
  rw [show ((8 : Int32).toInt64 &&& 63).toBitVec.smod 64 = 8#64 from rfl]
  apply BitVec.eq_of_getLsbD_eq
  intro i hi
  rw [BitVec.getLsbD_and]
  rcases Nat.lt_or_ge i 8 with z | z
  · have : (v.toBitVec <<< 8#64).getLsbD i = false := by
      show (v.toBitVec <<< (8#64).toNat).getLsbD i = false
      rw [BitVec.getLsbD_shiftLeft]
      simp [z]
    rw [this]
    simp
  · have : (BitVec.ofNat 64 b).getLsbD i = false := by
      rw [BitVec.getLsbD_ofNat]
      have : b.testBit i = false := Nat.testBit_lt_two_pow (Nat.lt_of_lt_of_le hb (by
        have := Nat.pow_le_pow_right (show 0 < 2 by decide) z
        exact this))
      rw [this]
      simp
    rw [this]
    simp
