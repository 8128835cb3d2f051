/-! From the law's function to the law's walk. -/
theorem pl_arrT {s : State} {cA : ClassId} {kA : Class} {comp : ClassId} {ty : FieldType} (h2 : s.vm.classes[cA]? = some kA) (h3 : kA.kind = .array comp ty) : ArrOfT s cA ty := fun n z => ⟨fun k h => (by cases h), kA, h2, comp, h3⟩
def pl_f9 {α : Type} (a0 a1 a2 a3 a4 a5 a6 a7 a8 : α) (k : Nat) : α := match k with
  | 0 => a0
  | 1 => a1
  | 2 => a2
  | 3 => a3
  | 4 => a4
  | 5 => a5
  | 6 => a6
  | 7 => a7
  | _ => a8

set_option maxRecDepth 100000 in
theorem pl_tab0 {args : Array Value} {s : State} (hg : (Jvm.Cond.and given_1 narrow_1).before args s = true) (hl : (Cond.laysStatic "ProvenLedger$Hasher" "TARGETS" "[I").before args s = true) (hi : (Cond.initialized "ProvenLedger$Hasher").before args s = true) : ∃ t : Nat, va_Z "ProvenLedger$Hasher" "TARGETS" "[I" (.ref t) (pl_A s.heap.size) s s.heap ∧ va_T .int t 25 (fun j => .int (pl_t0.getD j 0)) (pl_A s.heap.size) s s.heap := by
  have hfl := flat_of_before _ hg
  have hA : ∀ a : Nat, a < s.heap.size → ¬ pl_A s.heap.size a := fun a h1 h2 => Nat.not_le.mpr h1 h2
  obtain ⟨t, h1, h2⟩ := va_Tof (tm := (Term.static "ProvenLedger$Hasher" "TARGETS" "[I")) (ty := .int) (N := 25) (f := fun j => .int (pl_t0.getD j 0)) (by decide) (hfl (Cond.arrayOf (Term.static "ProvenLedger$Hasher" "TARGETS" "[I") .int) (by decide +kernel)) (va_eqt (hfl (Cond.eq (Term.length (Term.static "ProvenLedger$Hasher" "TARGETS" "[I")) (Term.int 25)) (by decide +kernel))) (fun j hj => by
    match j, hj with
    | 0, _ => exact va_eqt (z := 0) (hfl (Cond.eq (Term.elem (Term.static "ProvenLedger$Hasher" "TARGETS" "[I") (Term.int 0)) (Term.int 0)) (by decide +kernel))
    | 1, _ => exact va_eqt (z := 10) (hfl (Cond.eq (Term.elem (Term.static "ProvenLedger$Hasher" "TARGETS" "[I") (Term.int 1)) (Term.int 10)) (by decide +kernel))
    | 2, _ => exact va_eqt (z := 20) (hfl (Cond.eq (Term.elem (Term.static "ProvenLedger$Hasher" "TARGETS" "[I") (Term.int 2)) (Term.int 20)) (by decide +kernel))
    | 3, _ => exact va_eqt (z := 5) (hfl (Cond.eq (Term.elem (Term.static "ProvenLedger$Hasher" "TARGETS" "[I") (Term.int 3)) (Term.int 5)) (by decide +kernel))
    | 4, _ => exact va_eqt (z := 15) (hfl (Cond.eq (Term.elem (Term.static "ProvenLedger$Hasher" "TARGETS" "[I") (Term.int 4)) (Term.int 15)) (by decide +kernel))
    | 5, _ => exact va_eqt (z := 16) (hfl (Cond.eq (Term.elem (Term.static "ProvenLedger$Hasher" "TARGETS" "[I") (Term.int 5)) (Term.int 16)) (by decide +kernel))
    | 6, _ => exact va_eqt (z := 1) (hfl (Cond.eq (Term.elem (Term.static "ProvenLedger$Hasher" "TARGETS" "[I") (Term.int 6)) (Term.int 1)) (by decide +kernel))
    | 7, _ => exact va_eqt (z := 11) (hfl (Cond.eq (Term.elem (Term.static "ProvenLedger$Hasher" "TARGETS" "[I") (Term.int 7)) (Term.int 11)) (by decide +kernel))
    | 8, _ => exact va_eqt (z := 21) (hfl (Cond.eq (Term.elem (Term.static "ProvenLedger$Hasher" "TARGETS" "[I") (Term.int 8)) (Term.int 21)) (by decide +kernel))
    | 9, _ => exact va_eqt (z := 6) (hfl (Cond.eq (Term.elem (Term.static "ProvenLedger$Hasher" "TARGETS" "[I") (Term.int 9)) (Term.int 6)) (by decide +kernel))
    | 10, _ => exact va_eqt (z := 7) (hfl (Cond.eq (Term.elem (Term.static "ProvenLedger$Hasher" "TARGETS" "[I") (Term.int 10)) (Term.int 7)) (by decide +kernel))
    | 11, _ => exact va_eqt (z := 17) (hfl (Cond.eq (Term.elem (Term.static "ProvenLedger$Hasher" "TARGETS" "[I") (Term.int 11)) (Term.int 17)) (by decide +kernel))
    | 12, _ => exact va_eqt (z := 2) (hfl (Cond.eq (Term.elem (Term.static "ProvenLedger$Hasher" "TARGETS" "[I") (Term.int 12)) (Term.int 2)) (by decide +kernel))
    | 13, _ => exact va_eqt (z := 12) (hfl (Cond.eq (Term.elem (Term.static "ProvenLedger$Hasher" "TARGETS" "[I") (Term.int 13)) (Term.int 12)) (by decide +kernel))
    | 14, _ => exact va_eqt (z := 22) (hfl (Cond.eq (Term.elem (Term.static "ProvenLedger$Hasher" "TARGETS" "[I") (Term.int 14)) (Term.int 22)) (by decide +kernel))
    | 15, _ => exact va_eqt (z := 23) (hfl (Cond.eq (Term.elem (Term.static "ProvenLedger$Hasher" "TARGETS" "[I") (Term.int 15)) (Term.int 23)) (by decide +kernel))
    | 16, _ => exact va_eqt (z := 8) (hfl (Cond.eq (Term.elem (Term.static "ProvenLedger$Hasher" "TARGETS" "[I") (Term.int 16)) (Term.int 8)) (by decide +kernel))
    | 17, _ => exact va_eqt (z := 18) (hfl (Cond.eq (Term.elem (Term.static "ProvenLedger$Hasher" "TARGETS" "[I") (Term.int 17)) (Term.int 18)) (by decide +kernel))
    | 18, _ => exact va_eqt (z := 3) (hfl (Cond.eq (Term.elem (Term.static "ProvenLedger$Hasher" "TARGETS" "[I") (Term.int 18)) (Term.int 3)) (by decide +kernel))
    | 19, _ => exact va_eqt (z := 13) (hfl (Cond.eq (Term.elem (Term.static "ProvenLedger$Hasher" "TARGETS" "[I") (Term.int 19)) (Term.int 13)) (by decide +kernel))
    | 20, _ => exact va_eqt (z := 14) (hfl (Cond.eq (Term.elem (Term.static "ProvenLedger$Hasher" "TARGETS" "[I") (Term.int 20)) (Term.int 14)) (by decide +kernel))
    | 21, _ => exact va_eqt (z := 24) (hfl (Cond.eq (Term.elem (Term.static "ProvenLedger$Hasher" "TARGETS" "[I") (Term.int 21)) (Term.int 24)) (by decide +kernel))
    | 22, _ => exact va_eqt (z := 9) (hfl (Cond.eq (Term.elem (Term.static "ProvenLedger$Hasher" "TARGETS" "[I") (Term.int 22)) (Term.int 9)) (by decide +kernel))
    | 23, _ => exact va_eqt (z := 19) (hfl (Cond.eq (Term.elem (Term.static "ProvenLedger$Hasher" "TARGETS" "[I") (Term.int 23)) (Term.int 19)) (by decide +kernel))
    | 24, _ => exact va_eqt (z := 4) (hfl (Cond.eq (Term.elem (Term.static "ProvenLedger$Hasher" "TARGETS" "[I") (Term.int 24)) (Term.int 4)) (by decide +kernel))
    | j + 25, h => exact absurd h (by omega)) hA
  exact ⟨t, va_Zref hl hi h1 hA, h2⟩
set_option maxRecDepth 100000 in
theorem pl_tab1 {args : Array Value} {s : State} (hg : (Jvm.Cond.and given_1 narrow_1).before args s = true) (hl : (Cond.laysStatic "ProvenLedger$Hasher" "DISTANCES" "[I").before args s = true) (hi : (Cond.initialized "ProvenLedger$Hasher").before args s = true) : ∃ t : Nat, va_Z "ProvenLedger$Hasher" "DISTANCES" "[I" (.ref t) (pl_A s.heap.size) s s.heap ∧ va_T .int t 25 (fun j => .int (pl_t1.getD j 0)) (pl_A s.heap.size) s s.heap := by
  have hfl := flat_of_before _ hg
  have hA : ∀ a : Nat, a < s.heap.size → ¬ pl_A s.heap.size a := fun a h1 h2 => Nat.not_le.mpr h1 h2
  obtain ⟨t, h1, h2⟩ := va_Tof (tm := (Term.static "ProvenLedger$Hasher" "DISTANCES" "[I")) (ty := .int) (N := 25) (f := fun j => .int (pl_t1.getD j 0)) (by decide) (hfl (Cond.arrayOf (Term.static "ProvenLedger$Hasher" "DISTANCES" "[I") .int) (by decide +kernel)) (va_eqt (hfl (Cond.eq (Term.length (Term.static "ProvenLedger$Hasher" "DISTANCES" "[I")) (Term.int 25)) (by decide +kernel))) (fun j hj => by
    match j, hj with
    | 0, _ => exact va_eqt (z := 0) (hfl (Cond.eq (Term.elem (Term.static "ProvenLedger$Hasher" "DISTANCES" "[I") (Term.int 0)) (Term.int 0)) (by decide +kernel))
    | 1, _ => exact va_eqt (z := 1) (hfl (Cond.eq (Term.elem (Term.static "ProvenLedger$Hasher" "DISTANCES" "[I") (Term.int 1)) (Term.int 1)) (by decide +kernel))
    | 2, _ => exact va_eqt (z := 62) (hfl (Cond.eq (Term.elem (Term.static "ProvenLedger$Hasher" "DISTANCES" "[I") (Term.int 2)) (Term.int 62)) (by decide +kernel))
    | 3, _ => exact va_eqt (z := 28) (hfl (Cond.eq (Term.elem (Term.static "ProvenLedger$Hasher" "DISTANCES" "[I") (Term.int 3)) (Term.int 28)) (by decide +kernel))
    | 4, _ => exact va_eqt (z := 27) (hfl (Cond.eq (Term.elem (Term.static "ProvenLedger$Hasher" "DISTANCES" "[I") (Term.int 4)) (Term.int 27)) (by decide +kernel))
    | 5, _ => exact va_eqt (z := 36) (hfl (Cond.eq (Term.elem (Term.static "ProvenLedger$Hasher" "DISTANCES" "[I") (Term.int 5)) (Term.int 36)) (by decide +kernel))
    | 6, _ => exact va_eqt (z := 44) (hfl (Cond.eq (Term.elem (Term.static "ProvenLedger$Hasher" "DISTANCES" "[I") (Term.int 6)) (Term.int 44)) (by decide +kernel))
    | 7, _ => exact va_eqt (z := 6) (hfl (Cond.eq (Term.elem (Term.static "ProvenLedger$Hasher" "DISTANCES" "[I") (Term.int 7)) (Term.int 6)) (by decide +kernel))
    | 8, _ => exact va_eqt (z := 55) (hfl (Cond.eq (Term.elem (Term.static "ProvenLedger$Hasher" "DISTANCES" "[I") (Term.int 8)) (Term.int 55)) (by decide +kernel))
    | 9, _ => exact va_eqt (z := 20) (hfl (Cond.eq (Term.elem (Term.static "ProvenLedger$Hasher" "DISTANCES" "[I") (Term.int 9)) (Term.int 20)) (by decide +kernel))
    | 10, _ => exact va_eqt (z := 3) (hfl (Cond.eq (Term.elem (Term.static "ProvenLedger$Hasher" "DISTANCES" "[I") (Term.int 10)) (Term.int 3)) (by decide +kernel))
    | 11, _ => exact va_eqt (z := 10) (hfl (Cond.eq (Term.elem (Term.static "ProvenLedger$Hasher" "DISTANCES" "[I") (Term.int 11)) (Term.int 10)) (by decide +kernel))
    | 12, _ => exact va_eqt (z := 43) (hfl (Cond.eq (Term.elem (Term.static "ProvenLedger$Hasher" "DISTANCES" "[I") (Term.int 12)) (Term.int 43)) (by decide +kernel))
    | 13, _ => exact va_eqt (z := 25) (hfl (Cond.eq (Term.elem (Term.static "ProvenLedger$Hasher" "DISTANCES" "[I") (Term.int 13)) (Term.int 25)) (by decide +kernel))
    | 14, _ => exact va_eqt (z := 39) (hfl (Cond.eq (Term.elem (Term.static "ProvenLedger$Hasher" "DISTANCES" "[I") (Term.int 14)) (Term.int 39)) (by decide +kernel))
    | 15, _ => exact va_eqt (z := 41) (hfl (Cond.eq (Term.elem (Term.static "ProvenLedger$Hasher" "DISTANCES" "[I") (Term.int 15)) (Term.int 41)) (by decide +kernel))
    | 16, _ => exact va_eqt (z := 45) (hfl (Cond.eq (Term.elem (Term.static "ProvenLedger$Hasher" "DISTANCES" "[I") (Term.int 16)) (Term.int 45)) (by decide +kernel))
    | 17, _ => exact va_eqt (z := 15) (hfl (Cond.eq (Term.elem (Term.static "ProvenLedger$Hasher" "DISTANCES" "[I") (Term.int 17)) (Term.int 15)) (by decide +kernel))
    | 18, _ => exact va_eqt (z := 21) (hfl (Cond.eq (Term.elem (Term.static "ProvenLedger$Hasher" "DISTANCES" "[I") (Term.int 18)) (Term.int 21)) (by decide +kernel))
    | 19, _ => exact va_eqt (z := 8) (hfl (Cond.eq (Term.elem (Term.static "ProvenLedger$Hasher" "DISTANCES" "[I") (Term.int 19)) (Term.int 8)) (by decide +kernel))
    | 20, _ => exact va_eqt (z := 18) (hfl (Cond.eq (Term.elem (Term.static "ProvenLedger$Hasher" "DISTANCES" "[I") (Term.int 20)) (Term.int 18)) (by decide +kernel))
    | 21, _ => exact va_eqt (z := 2) (hfl (Cond.eq (Term.elem (Term.static "ProvenLedger$Hasher" "DISTANCES" "[I") (Term.int 21)) (Term.int 2)) (by decide +kernel))
    | 22, _ => exact va_eqt (z := 61) (hfl (Cond.eq (Term.elem (Term.static "ProvenLedger$Hasher" "DISTANCES" "[I") (Term.int 22)) (Term.int 61)) (by decide +kernel))
    | 23, _ => exact va_eqt (z := 56) (hfl (Cond.eq (Term.elem (Term.static "ProvenLedger$Hasher" "DISTANCES" "[I") (Term.int 23)) (Term.int 56)) (by decide +kernel))
    | 24, _ => exact va_eqt (z := 14) (hfl (Cond.eq (Term.elem (Term.static "ProvenLedger$Hasher" "DISTANCES" "[I") (Term.int 24)) (Term.int 14)) (by decide +kernel))
    | j + 25, h => exact absurd h (by omega)) hA
  exact ⟨t, va_Zref hl hi h1 hA, h2⟩
set_option maxRecDepth 100000 in
theorem pl_tab2 {args : Array Value} {s : State} (hg : (Jvm.Cond.and given_1 narrow_1).before args s = true) (hl : (Cond.laysStatic "ProvenLedger$Hasher" "ROUND_WORDS" "[J").before args s = true) (hi : (Cond.initialized "ProvenLedger$Hasher").before args s = true) : ∃ t : Nat, va_Z "ProvenLedger$Hasher" "ROUND_WORDS" "[J" (.ref t) (pl_A s.heap.size) s s.heap ∧ va_T .long t 24 (fun j => .long (pl_t2.getD j 0)) (pl_A s.heap.size) s s.heap := by
  have hfl := flat_of_before _ hg
  have hA : ∀ a : Nat, a < s.heap.size → ¬ pl_A s.heap.size a := fun a h1 h2 => Nat.not_le.mpr h1 h2
  obtain ⟨t, h1, h2⟩ := va_Tof (tm := (Term.static "ProvenLedger$Hasher" "ROUND_WORDS" "[J")) (ty := .long) (N := 24) (f := fun j => .long (pl_t2.getD j 0)) (by decide) (hfl (Cond.arrayOf (Term.static "ProvenLedger$Hasher" "ROUND_WORDS" "[J") .long) (by decide +kernel)) (va_eqt (hfl (Cond.eq (Term.length (Term.static "ProvenLedger$Hasher" "ROUND_WORDS" "[J")) (Term.int 24)) (by decide +kernel))) (fun j hj => by
    match j, hj with
    | 0, _ => exact va_eqtl (z := 1) (hfl (Cond.eq (Term.elem (Term.static "ProvenLedger$Hasher" "ROUND_WORDS" "[J") (Term.int 0)) (Term.long 1)) (by decide +kernel))
    | 1, _ => exact va_eqtl (z := 32898) (hfl (Cond.eq (Term.elem (Term.static "ProvenLedger$Hasher" "ROUND_WORDS" "[J") (Term.int 1)) (Term.long 32898)) (by decide +kernel))
    | 2, _ => exact va_eqtl (z := (-9223372036854742902)) (hfl (Cond.eq (Term.elem (Term.static "ProvenLedger$Hasher" "ROUND_WORDS" "[J") (Term.int 2)) (Term.long (-9223372036854742902))) (by decide +kernel))
    | 3, _ => exact va_eqtl (z := (-9223372034707259392)) (hfl (Cond.eq (Term.elem (Term.static "ProvenLedger$Hasher" "ROUND_WORDS" "[J") (Term.int 3)) (Term.long (-9223372034707259392))) (by decide +kernel))
    | 4, _ => exact va_eqtl (z := 32907) (hfl (Cond.eq (Term.elem (Term.static "ProvenLedger$Hasher" "ROUND_WORDS" "[J") (Term.int 4)) (Term.long 32907)) (by decide +kernel))
    | 5, _ => exact va_eqtl (z := 2147483649) (hfl (Cond.eq (Term.elem (Term.static "ProvenLedger$Hasher" "ROUND_WORDS" "[J") (Term.int 5)) (Term.long 2147483649)) (by decide +kernel))
    | 6, _ => exact va_eqtl (z := (-9223372034707259263)) (hfl (Cond.eq (Term.elem (Term.static "ProvenLedger$Hasher" "ROUND_WORDS" "[J") (Term.int 6)) (Term.long (-9223372034707259263))) (by decide +kernel))
    | 7, _ => exact va_eqtl (z := (-9223372036854743031)) (hfl (Cond.eq (Term.elem (Term.static "ProvenLedger$Hasher" "ROUND_WORDS" "[J") (Term.int 7)) (Term.long (-9223372036854743031))) (by decide +kernel))
    | 8, _ => exact va_eqtl (z := 138) (hfl (Cond.eq (Term.elem (Term.static "ProvenLedger$Hasher" "ROUND_WORDS" "[J") (Term.int 8)) (Term.long 138)) (by decide +kernel))
    | 9, _ => exact va_eqtl (z := 136) (hfl (Cond.eq (Term.elem (Term.static "ProvenLedger$Hasher" "ROUND_WORDS" "[J") (Term.int 9)) (Term.long 136)) (by decide +kernel))
    | 10, _ => exact va_eqtl (z := 2147516425) (hfl (Cond.eq (Term.elem (Term.static "ProvenLedger$Hasher" "ROUND_WORDS" "[J") (Term.int 10)) (Term.long 2147516425)) (by decide +kernel))
    | 11, _ => exact va_eqtl (z := 2147483658) (hfl (Cond.eq (Term.elem (Term.static "ProvenLedger$Hasher" "ROUND_WORDS" "[J") (Term.int 11)) (Term.long 2147483658)) (by decide +kernel))
    | 12, _ => exact va_eqtl (z := 2147516555) (hfl (Cond.eq (Term.elem (Term.static "ProvenLedger$Hasher" "ROUND_WORDS" "[J") (Term.int 12)) (Term.long 2147516555)) (by decide +kernel))
    | 13, _ => exact va_eqtl (z := (-9223372036854775669)) (hfl (Cond.eq (Term.elem (Term.static "ProvenLedger$Hasher" "ROUND_WORDS" "[J") (Term.int 13)) (Term.long (-9223372036854775669))) (by decide +kernel))
    | 14, _ => exact va_eqtl (z := (-9223372036854742903)) (hfl (Cond.eq (Term.elem (Term.static "ProvenLedger$Hasher" "ROUND_WORDS" "[J") (Term.int 14)) (Term.long (-9223372036854742903))) (by decide +kernel))
    | 15, _ => exact va_eqtl (z := (-9223372036854743037)) (hfl (Cond.eq (Term.elem (Term.static "ProvenLedger$Hasher" "ROUND_WORDS" "[J") (Term.int 15)) (Term.long (-9223372036854743037))) (by decide +kernel))
    | 16, _ => exact va_eqtl (z := (-9223372036854743038)) (hfl (Cond.eq (Term.elem (Term.static "ProvenLedger$Hasher" "ROUND_WORDS" "[J") (Term.int 16)) (Term.long (-9223372036854743038))) (by decide +kernel))
    | 17, _ => exact va_eqtl (z := (-9223372036854775680)) (hfl (Cond.eq (Term.elem (Term.static "ProvenLedger$Hasher" "ROUND_WORDS" "[J") (Term.int 17)) (Term.long (-9223372036854775680))) (by decide +kernel))
    | 18, _ => exact va_eqtl (z := 32778) (hfl (Cond.eq (Term.elem (Term.static "ProvenLedger$Hasher" "ROUND_WORDS" "[J") (Term.int 18)) (Term.long 32778)) (by decide +kernel))
    | 19, _ => exact va_eqtl (z := (-9223372034707292150)) (hfl (Cond.eq (Term.elem (Term.static "ProvenLedger$Hasher" "ROUND_WORDS" "[J") (Term.int 19)) (Term.long (-9223372034707292150))) (by decide +kernel))
    | 20, _ => exact va_eqtl (z := (-9223372034707259263)) (hfl (Cond.eq (Term.elem (Term.static "ProvenLedger$Hasher" "ROUND_WORDS" "[J") (Term.int 20)) (Term.long (-9223372034707259263))) (by decide +kernel))
    | 21, _ => exact va_eqtl (z := (-9223372036854742912)) (hfl (Cond.eq (Term.elem (Term.static "ProvenLedger$Hasher" "ROUND_WORDS" "[J") (Term.int 21)) (Term.long (-9223372036854742912))) (by decide +kernel))
    | 22, _ => exact va_eqtl (z := 2147483649) (hfl (Cond.eq (Term.elem (Term.static "ProvenLedger$Hasher" "ROUND_WORDS" "[J") (Term.int 22)) (Term.long 2147483649)) (by decide +kernel))
    | 23, _ => exact va_eqtl (z := (-9223372034707259384)) (hfl (Cond.eq (Term.elem (Term.static "ProvenLedger$Hasher" "ROUND_WORDS" "[J") (Term.int 23)) (Term.long (-9223372034707259384))) (by decide +kernel))
    | j + 24, h => exact absurd h (by omega)) hA
  exact ⟨t, va_Zref hl hi h1 hA, h2⟩
set_option maxHeartbeats 4000000 in
set_option maxRecDepth 100000 in
theorem pl_known {s : State} {args : Array Value} (hts : ∀ w ∈ lw_tbl, w.before args s = true) (hg : (Jvm.Cond.and given_1 narrow_1).before args s = true) : ∃ (D : va_G) (dA : Nat → ClassId) (tt : Nat → Nat), pl_K D dA tt s.heap.size s := by
  have htb : ∀ w ∈ pl_tb, w.before args s = true := fun w h => hts w (List.mem_filter.mp h).1
  obtain ⟨c0, i0, k0⟩ := u_known (C := rn_B) (T := rt_B) (N := 4) htb in_B (htb _ mw_84)
  obtain ⟨c1, i1, k1⟩ := u_known (C := rn_C) (T := rt_C) (N := 2) htb in_C (htb _ mw_127)
  obtain ⟨c2, i2, k2⟩ := u_known (C := rn_H) (T := rt_H) (N := 3) htb in_H (htb _ mw_105)
  obtain ⟨c3, i3, k3⟩ := u_known (C := rn_N) (T := rt_N) (N := 7) htb in_N (htb _ mw_141)
  obtain ⟨c4, i4, k4⟩ := u_known (C := rn_P) (T := rt_P) (N := 3) htb in_P (htb _ mw_199)
  obtain ⟨c5, i5, k5⟩ := u_known (C := rn_T) (T := rt_T) (N := 9) htb in_T (htb _ mw_121)
  obtain ⟨c6, i6, k6⟩ := u_known (C := rn_W) (T := rt_W) (N := 11) htb in_W (htb _ mw_217)
  obtain ⟨c7, i7, k7⟩ := u_known (C := rn_L) (T := rt_L) (N := 7) htb in_L (htb _ mw_76)
  obtain ⟨c8, i8, k8⟩ := u_known (C := rn_M) (T := rt_M) (N := 34) htb in_M (htb _ mw_692)
  obtain ⟨aI, qI, pI, eI1, eI2, eI3⟩ := Cond.arrayClass_spec (htb _ mw_102)
  obtain ⟨aL, qL, pL, eL1, eL2, eL3⟩ := Cond.arrayClass_spec (htb _ mw_103)
  obtain ⟨aZ, qZ, pZ, eZ1, eZ2, eZ3⟩ := Cond.arrayClass_spec (htb _ mw_800)
  have hN := hts (Cond.arrayOver (FieldType.object "ProvenLedger$Node")) (List.mem_of_getElem? (i := 140) (by decide +kernel))
  have hR := hts (Cond.arrayOver (FieldType.array FieldType.int)) (List.mem_of_getElem? (i := 205) (by decide +kernel))
  obtain ⟨pN, aN, qN, eN1, eN2, eN3, eN4, eN5⟩ := Cond.arrayOver_spec hN
  obtain ⟨pR, aR, qR, eR1, eR2, eR3, eR4⟩ := Cond.arrayOver_specA hR
  obtain ⟨t0, z0, y0⟩ := pl_tab0 hg (hts _ (List.mem_of_getElem? (i := 486) (by decide +kernel))) (htb _ mw_66)
  obtain ⟨t1, z1, y1⟩ := pl_tab1 hg (hts _ (List.mem_of_getElem? (i := 484) (by decide +kernel))) (htb _ mw_66)
  obtain ⟨t2, z2, y2⟩ := pl_tab2 hg (hts _ (List.mem_of_getElem? (i := 474) (by decide +kernel))) (htb _ mw_66)
  refine ⟨(pl_f9 c0 c1 c2 c3 c4 c5 c6 c7 c8, pl_f9 i0 i1 i2 i3 i4 i5 i6 i7 i8), pl_f9 aI aL aN aR aZ aZ aZ aZ aZ, pl_f9 t0 t1 t2 t2 t2 t2 t2 t2 t2, ⟨fun c q hq => ?_, fun k q hq => ?_⟩, ⟨⟨z0, y0⟩, ⟨z1, y1⟩, z2, y2⟩, va_Nw.of rfl (hts _ (List.mem_of_getElem? (i := 148) (by decide +kernel))), va_Nw.of rfl (hts _ (List.mem_of_getElem? (i := 153) (by decide +kernel))), va_Nw.of rfl (hts _ (List.mem_of_getElem? (i := 154) (by decide +kernel))), va_Nw.of rfl (hts _ (List.mem_of_getElem? (i := 435) (by decide +kernel))), va_Nw.of rfl (hts _ (List.mem_of_getElem? (i := 448) (by decide +kernel))), va_Nw.of rfl (hts _ (List.mem_of_getElem? (i := 547) (by decide +kernel))), va_Nw.of rfl (hts _ (List.mem_of_getElem? (i := 661) (by decide +kernel))), va_AO.of hN, hR⟩
  · match c, hq with
    | 0, hq => cases hq; exact k0
    | 1, hq => cases hq; exact k1
    | 2, hq => cases hq; exact k2
    | 3, hq => cases hq; exact k3
    | 4, hq => cases hq; exact k4
    | 5, hq => cases hq; exact k5
    | 6, hq => cases hq; exact k6
    | 7, hq => cases hq; exact k7
    | 8, hq => cases hq; exact k8
    | c + 9, hq => cases hq
  · match k, hq with
    | 0, hq => cases hq; exact ⟨pl_arrT eI2 eI3, eI1⟩
    | 1, hq => cases hq; exact ⟨pl_arrT eL2 eL3, eL1⟩
    | 2, hq => cases hq; exact ⟨pl_arrT eN3 eN4, qN, pN, eN3, eN4, eN1, eN5⟩
    | 3, hq => cases hq; exact ⟨pl_arrT eR2 eR3, eR4⟩
    | 4, hq => cases hq; exact ⟨pl_arrT eZ2 eZ3, eZ1⟩
    | k + 5, hq => cases hq
set_option maxHeartbeats 4000000 in
set_option maxRecDepth 100000 in
/-- the walk of the law, where the law's function answers 1 -/
theorem pl_start {p : Program} {e : Env} {s : State} {m : MethodId} {below : List Frame} {meth : Method} {c : Code} (l : Launch) {b L : Nat} {xs : Nat → Int32} (hF : fn_Law_law L xs s.heap.size (fun _ => pl_dum) = some 1) (C0 : lw_At p s m meth c b L xs) : W p l e room_1 s m #[Value.ref b] below meth c s.heap [] 0 0 (lw_Z below #[Value.ref b] s) (entryFrame m ([Value.ref b] : List Value).toArray 4) := by
  obtain ⟨hx, hb, hr, hml, hown, hts, hX, hbl, hlk, hgv⟩ := C0
  obtain ⟨D, dA, tt, hK⟩ := pl_known hts hgv
  have C : pl_C p s m #[Value.ref b] meth c code 4 rn_Law ret meth.name D dA tt s.heap.size := ⟨hx, hb, hml, hr, hown, hlk, fun w h => hts w (List.mem_filter.mp h).1, rfl, hK⟩
  have hl := lv_entry ([.ref b]) (n := 4) (Nat.le_of_ble_eq_true rfl)
  rw [lg_entry_eq]
  generalize (lg_sl ([.ref b]) ++ List.replicate (4 - (lg_sl ([.ref b])).length) Slot.unset).toArray = ls at hl ⊢
  have hl : lv_has ls 4 [(0, .ref b)] := hl
  have w : pl_wd D vwCl dA s.heap.size s.heap.size (fun _ => pl_dum) s.heap := ⟨rfl, Nat.le_refl _, fun a h1 h2 => absurd h2 (Nat.not_lt.mpr h1), fun _ _ => rfl⟩
  exact tl_Law_law C ⟨hX, hbl, Nat.not_le.mpr hbl⟩ hF w va_S.rf hl
