/-! What the tables and the class files' own static rows say, wherever a method begins. -/
def pl_t0 : List Int32 := [0, 10, 20, 5, 15, 16, 1, 11, 21, 6, 7, 17, 2, 12, 22, 23, 8, 18, 3, 13, 14, 24, 9, 19, 4]
def pl_t1 : List Int32 := [0, 1, 62, 28, 27, 36, 44, 6, 55, 20, 3, 10, 43, 25, 39, 41, 45, 15, 21, 8, 18, 2, 61, 56, 14]
def pl_t2 : List Int64 := [1, 32898, -9223372036854742902, -9223372034707259392, 32907, 2147483649, -9223372034707259263, -9223372036854743031, 138, 136, 2147516425, 2147483658, 2147516555, -9223372036854775669, -9223372036854742903, -9223372036854743037, -9223372036854743038, -9223372036854775680, 32778, -9223372034707292150, -9223372034707259263, -9223372036854742912, 2147483649, -9223372034707259384]
def pl_tys (dA : Nat → ClassId) : List (ClassId × FieldType) := [(dA 0, .int), (dA 1, .long), (dA 2, .object "ProvenLedger$Node"), (dA 3, .array .int), (dA 4, .boolean)]
def pl_st (tt : Nat → Nat) (b : Nat) (U : State) : Prop :=
  (va_Z "ProvenLedger$Hasher" "TARGETS" "[I" (.ref (tt 0)) (pl_A b) U U.heap ∧ va_T .int (tt 0) 25 (fun j => .int (pl_t0.getD j 0)) (pl_A b) U U.heap) ∧
  (va_Z "ProvenLedger$Hasher" "DISTANCES" "[I" (.ref (tt 1)) (pl_A b) U U.heap ∧ va_T .int (tt 1) 25 (fun j => .int (pl_t1.getD j 0)) (pl_A b) U U.heap) ∧
  (va_Z "ProvenLedger$Hasher" "ROUND_WORDS" "[J" (.ref (tt 2)) (pl_A b) U U.heap ∧ va_T .long (tt 2) 24 (fun j => .long (pl_t2.getD j 0)) (pl_A b) U U.heap)
def pl_nw (U : State) : Prop :=
  va_Nw (.fieldLinkNest "ProvenLedger$Tree" 154 "ProvenLedger$Node" "below" "[LProvenLedger$Node;" "ProvenLedger") U ∧
  va_Nw (.fieldLinkNest "ProvenLedger$Tree" 73 "ProvenLedger$Node" "begin" "I" "ProvenLedger") U ∧
  va_Nw (.fieldLinkNest "ProvenLedger$Tree" 76 "ProvenLedger$Node" "length" "I" "ProvenLedger") U ∧
  va_Nw (.methodLinkNest "ProvenLedger$Code" 34 ⟨"ProvenLedger", "digit", "(II)I"⟩ "ProvenLedger") U ∧
  va_Nw (.methodLinkNest "ProvenLedger$Tree" 121 ⟨"ProvenLedger", "digit", "(II)I"⟩ "ProvenLedger") U ∧
  va_Nw (.methodLinkNest "ProvenLedger$Node" 28 ⟨"ProvenLedger", "digit", "(II)I"⟩ "ProvenLedger") U ∧
  va_Nw (.methodLinkNest "ProvenLedger$Way" 118 ⟨"ProvenLedger", "digit", "(II)I"⟩ "ProvenLedger") U ∧
  va_AO "ProvenLedger$Node" U ∧ (Cond.arrayOver (.array .int)).before #[] U = true
def pl_K (D : va_G) (dA : Nat → ClassId) (tt : Nat → Nat) (b : Nat) (U : State) : Prop := va_K D vwCl (pl_tys dA) U ∧ pl_st tt b U ∧ pl_nw U
theorem pl_K.moved {D : va_G} {dA : Nat → ClassId} {tt : Nat → Nat} {b : Nat} {s U : State} (hW : s.WarmedH U.vm) (hh : ∀ q : Nat, q < s.heap.size → ¬ pl_A b q → U.heap[q]? = s.heap[q]?) (h : pl_K D dA tt b s) : pl_K D dA tt b U := by
  obtain ⟨h1, ⟨⟨z0, t0⟩, ⟨z1, t1⟩, z2, t2⟩, n0, n1, n2, n3, n4, n5, n6, n7, n8⟩ := h
  have ha := hW.alike
  exact ⟨va_K.moved ha h1, ⟨⟨(z0.kept hh).moved ha, (t0.kept hh).moved ha⟩, ⟨(z1.kept hh).moved ha, (t1.kept hh).moved ha⟩, (z2.kept hh).moved ha, (t2.kept hh).moved ha⟩, n0.warmF hW, n1.warmF hW, n2.warmF hW, n3.warmM hW, n4.warmM hW, n5.warmM hW, n6.warmM hW, n7.moved ha, over_moved ha n8⟩
