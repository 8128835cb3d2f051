/-! The script, the switch. -/
def pl_sc (L : Nat) (xs : Nat → Int32) (i : Int32) : Option Int32 := if pl_ok i L = true then some (xs i.toNatClampNeg) else none
theorem pl_sw {x : Int32} (h0 : ¬ x = 0) (h1 : ¬ x = 1) (h2 : ¬ x = 2) (h3 : ¬ x = 3) (h4 : ¬ x = 4) (h5 : ¬ x = 5) (h6 : ¬ x = 6) (h7 : ¬ x = 7) (h8 : ¬ x = 8) (h9 : ¬ x = 9) (h10 : ¬ x = 10) (h11 : ¬ x = 11) (h12 : ¬ x = 12) (h13 : ¬ x = 13) (h14 : ¬ x = 14) (h15 : ¬ x = 15) (h16 : ¬ x = 16) (h17 : ¬ x = 17) : x.toInt < 0 ∨ 17 < x.toInt := by
  by_cases hn : x < 0
  · exact Or.inl (by simpa using Int32.lt_iff_toInt_lt.mp hn)
  · by_cases hm : x ≤ 17
    · obtain ⟨j, hj, rfl⟩ := nI_of2 (M := 17) (n := 17) (by decide) hn hm
      match j, hj with
      | 0, _ => exact absurd rfl h0
      | 1, _ => exact absurd rfl h1
      | 2, _ => exact absurd rfl h2
      | 3, _ => exact absurd rfl h3
      | 4, _ => exact absurd rfl h4
      | 5, _ => exact absurd rfl h5
      | 6, _ => exact absurd rfl h6
      | 7, _ => exact absurd rfl h7
      | 8, _ => exact absurd rfl h8
      | 9, _ => exact absurd rfl h9
      | 10, _ => exact absurd rfl h10
      | 11, _ => exact absurd rfl h11
      | 12, _ => exact absurd rfl h12
      | 13, _ => exact absurd rfl h13
      | 14, _ => exact absurd rfl h14
      | 15, _ => exact absurd rfl h15
      | 16, _ => exact absurd rfl h16
      | 17, _ => exact absurd rfl h17
      | j + 18, h => exact absurd h (by omega)
    · refine Or.inr ?_
      have := Int32.not_le.mp hm
      simpa using Int32.lt_iff_toInt_lt.mp this
section PLX
variable {p : Program} {l : Launch} {e : Env} {R : Room} {s : State} {m : MethodId} {args : Array Value} {below : List Frame} {meth : Method} {c : Code} {H : Heap} {locs : List Loc} {cells slots : Nat} {Q : State → Prop}
theorem pl_sld {cc : ByteArray} {pc : Nat} {ls : Array Slot} {rest : List Value} {A : Nat → Prop} {H0 : Heap} (hexec : p.tables.exec = Jvm.exec) (hb : c.code = cc) {sb L : Nat} {xs : Nat → Int32} (hX : va_X sb L xs s H0) (hbl : sb < H0.size) (hbA : ¬ A sb) (hS : va_S A H0 H locs) {i v : Int32} (hv : pl_sc L xs i = some v) (hdg : decode cc pc = .ok (.iaload, 1))
    (kk : W p l e R s m args below meth c H locs cells slots Q (F0 m (pc + 1) ls (.int v :: rest))) : W p l e R s m args below meth c H locs cells slots Q (F0 m pc ls (.int i :: .ref sb :: rest)) := by
  obtain ⟨h1, rfl⟩ := pl_if hv
  exact va_sld hexec hb hX hbl hbA hS (pl_ok_in h1) hdg kk
end PLX
