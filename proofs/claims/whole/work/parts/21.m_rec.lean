def pl_D : Nat := 6
def rm_T_grow (d : Nat) : Room := { frames := 2 * d + 10, cells := 0, slots := 0, locals := 100 * d + 600 }
def rm_T_growStem (d : Nat) : Room := { frames := 2 * d + 11, cells := 0, slots := 0, locals := 100 * d + 650 }
def rm_T_growFork (d : Nat) : Room := { frames := 2 * d + 11, cells := 0, slots := 0, locals := 100 * d + 650 }
def fn_T_growFork_105 (gr : pl_H → Nat → Int32 → Int32 → Int32 → Option (Nat × pl_H)) : Nat → pl_H → Nat → Nat → Int32 → Int32 → Option (Nat × pl_H)
  | 0 => fun _ _ _ _ _ => none
  | k + 1 => fun f a0 a4 x6 x7 => if 16 ≤ x7 then (pl_gR f a0 5 2).bind fun v1 => (pl_is f v1 1).bind fun u3 => (fn_C_put f v1 128).bind fun q2 => (pl_gR q2 a0 5 2).bind fun v4 => (pl_is q2 v4 1).bind fun u6 => (fn_C_shut q2 v4 x6 192).bind fun q5 => (pl_is q5 a0 5).bind fun u8 => (fn_T_finish q5 a0 a4 x6).bind fun q7 => some (q7.1, q7.2) else (pl_gR f a4 3 0).bind fun v9 => (pl_aQ f 2 v9 x7).bind fun r10 => (pl_is f a0 5).bind fun u12 => (fn_T_putReference f a0 r10).bind fun q11 => fn_T_growFork_105 gr k q11 a0 a4 x6 (x7 + 1)
def fn_T_growFork_83 (gr : pl_H → Nat → Int32 → Int32 → Int32 → Option (Nat × pl_H)) (rc16 : pl_H → Nat → Int32 → Int32 → Nat → Int32 → Int32 → Option (Nat × pl_H)) (f : pl_H) (a0 : Nat) (x2 : Int32) (x3 : Int32) (a4 : Nat) (x6 : Int32) (x7 : Int32) : Option (Nat × pl_H) := rc16 f a0 x2 x3 a4 x7 (x6 + 1)
def fn_T_growFork_57 (gr : pl_H → Nat → Int32 → Int32 → Int32 → Option (Nat × pl_H)) (rc16 : pl_H → Nat → Int32 → Int32 → Nat → Int32 → Int32 → Option (Nat × pl_H)) (f : pl_H) (a0 : Nat) (x2 : Int32) (x3 : Int32) (a4 : Nat) (x5 : Int32) (x6 : Int32) (x7 : Int32) : Option (Nat × pl_H) := if x7 ≤ x5 then fn_T_growFork_83 gr rc16 f a0 x2 x3 a4 x6 x7 else (pl_gR f a4 3 0).bind fun v1 => (pl_is f a0 5).bind fun u3 => (gr f a0 x5 x7 (x3 + 1)).bind fun q2 => (pl_sQ q2.2 2 3 v1 x6 (some q2.1)).bind fun f4 => fn_T_growFork_83 gr rc16 f4 a0 x2 x3 a4 x6 x7
def fn_T_growFork_27 (gr : pl_H → Nat → Int32 → Int32 → Int32 → Option (Nat × pl_H)) (rc16 : pl_H → Nat → Int32 → Int32 → Nat → Int32 → Int32 → Option (Nat × pl_H)) : Nat → pl_H → Nat → Int32 → Int32 → Nat → Int32 → Int32 → Int32 → Option (Nat × pl_H)
  | 0 => fun _ _ _ _ _ _ _ _ => none
  | k + 1 => fun f a0 x2 x3 a4 x5 x6 x7 => if x2 ≤ x7 then fn_T_growFork_57 gr rc16 f a0 x2 x3 a4 x5 x6 x7 else (pl_gR f a0 5 0).bind fun v1 => (pl_is f v1 0).bind fun u3 => (fn_B_numberAt f v1 x7).bind fun v2 => (fn_L_digit f v2 x3).bind fun v4 => if v4 = x6 then fn_T_growFork_27 gr rc16 k f a0 x2 x3 a4 x5 x6 (x7 + 1) else fn_T_growFork_57 gr rc16 f a0 x2 x3 a4 x5 x6 x7
def fn_T_growFork_16 (gr : pl_H → Nat → Int32 → Int32 → Int32 → Option (Nat × pl_H)) : Nat → pl_H → Nat → Int32 → Int32 → Nat → Int32 → Int32 → Option (Nat × pl_H)
  | 0 => fun _ _ _ _ _ _ _ => none
  | k + 1 => fun f a0 x2 x3 a4 x5 x6 => if 16 ≤ x6 then (pl_gR f a0 5 2).bind fun v1 => (pl_is f v1 1).bind fun u3 => (fn_C_open f v1).bind fun q2 => fn_T_growFork_105 gr pl_N q2.2 a0 a4 q2.1 0 else fn_T_growFork_27 gr (fn_T_growFork_16 gr k) pl_N f a0 x2 x3 a4 x5 x6 x5
def fn_T_growFork (gr : pl_H → Nat → Int32 → Int32 → Int32 → Option (Nat × pl_H)) (f : pl_H) (a0 : Nat) (x1 : Int32) (x2 : Int32) (x3 : Int32) : Option (Nat × pl_H) := (pl_is f a0 5).bind fun u2 => (fn_T_take f a0 2 0 x3 x3).bind fun q1 => fn_T_growFork_16 gr pl_N q1.2 a0 x2 x3 q1.1 x1 0
set_option maxHeartbeats 4000000 in
set_option maxRecDepth 100000 in
theorem tl_T_growFork_105 {p : Program} {l : Launch} {e : Env} {s : State} {m : MethodId} {args : Array Value} {below : List Frame} {meth : Method} {c : Code} {D : va_G} {dA : Nat → ClassId} {tt : Nat → Nat} {b n : Nat} (C : pl_C p s m args meth c co_T_growFork 8 rn_T (some (.object "ProvenLedger$Node")) "growFork" D dA tt b) {d : Nat} {gr : pl_H → Nat → Int32 → Int32 → Int32 → Option (Nat × pl_H)} (hg : ∀ {n : Nat} {f : pl_H} {a0 : Nat} {x1 x2 x3 : Int32} {r : Nat} {f' : pl_H}, gr f a0 x1 x2 x3 = some (r, f') → Met l my_T_grow (Cond.code my_T_grow co_T_grow 5 (some (.object "ProvenLedger$Node")) :: pl_tb) (rm_T_grow d) (va_Pc [.ref a0, .int x1, .int x2, .int x3] (pl_pre D dA tt b n f)) (pl_qQ D dA tt b n f' (some r)) 0 0 (pl_A b)) {r : Nat} {f' : pl_H} : ∀ k : Nat, ∀ (f : pl_H) (a0 : Nat) (a4 : Nat) (x6 : Int32) (x7 : Int32) (H : Heap) (locs : List Loc) (ls : Array Slot), fn_T_growFork_105 gr k f a0 a4 x6 x7 = some (r, f') → pl_wd D vwCl dA b n f H → va_S (pl_A b) s.heap H locs → lv_has ls 8 [(0, .ref a0), (4, .ref a4), (6, .int x6), (7, .int x7)] → W p l e (rm_T_growFork d) s m args below meth c H locs 0 0 (MQ below (pl_qQ D dA tt b n f' (some r)) args s 0 0 (pl_A b)) (F0 m 105 ls []) := by
  have hx := C.1
  have hb := C.2.1
  have hown := C.2.2.2.2.1
  have hts := C.2.2.2.2.2.2.1
  intro k
  induction k with
  | zero =>
    intro f a0 a4 x6 x7 H locs ls hF
    cases hF
  | succ k ih =>
    intro f a0 a4 x6 x7 H locs ls hF w hS hl
    unfold fn_T_growFork_105 at hF
    refine lv_iload hx hb dc_T_growFork_105 (lv_at hl 3 rfl) ?_
    refine lv_bipush (v := 16) hx hb dc_T_growFork_107 (by decide) ?_
    refine lv_icmp_ge hx hb dc_T_growFork_109 (tgt := 130) (by decide) (fun hc => ?_) (fun hc => ?_)
    · have hF := (if_pos hc).symm.trans hF
      refine lv_aload_n hx hb dc_T_growFork_130 rfl (lv_at hl 0 rfl) ?_
      obtain ⟨v1, ev1, hF⟩ := pl_bd hF
      refine pl_getR C w (ci := 5) in_T rfl (by decide) 2 (by decide) mw_172 ev1 dc_T_growFork_131 ?_
      refine lv_sipush (v := 128) hx hb dc_T_growFork_134 (by decide) ?_
      obtain ⟨u3, eu3, hF⟩ := pl_bd hF
      obtain ⟨q2, eq2, hF⟩ := pl_bd hF
      refine pl_gv (pl_runV (Cn := rn_C) (k := 1) C (tm_C_put l D dA tt b n eq2) w hS rfl rfl mw_457 mw_399 mw_400 mw_68 mw_401 (by decide +kernel) ⟨by (try simp only [pl_D, rm_C_put, rm_T_grow, rm_T_growFork, rm_T_growStem]) <;> omega, by (try simp only [pl_D, rm_C_put, rm_T_grow, rm_T_growFork, rm_T_growStem]) <;> omega⟩ eu3 rfl (by decide) rfl hl.1 (Nat.le_of_ble_eq_true rfl) ⟨Nat.zero_le _, Nat.zero_le _⟩ rfl dc_T_growFork_137) hS (fun H locs w hS => ?_)
      refine lv_aload_n hx hb dc_T_growFork_140 rfl (lv_at hl 0 rfl) ?_
      obtain ⟨v4, ev4, hF⟩ := pl_bd hF
      refine pl_getR C w (ci := 5) in_T rfl (by decide) 2 (by decide) mw_172 ev4 dc_T_growFork_141 ?_
      refine lv_iload hx hb dc_T_growFork_144 (lv_at hl 2 rfl) ?_
      refine lv_sipush (v := 192) hx hb dc_T_growFork_146 (by decide) ?_
      obtain ⟨u6, eu6, hF⟩ := pl_bd hF
      obtain ⟨q5, eq5, hF⟩ := pl_bd hF
      refine pl_gv (pl_runV (Cn := rn_C) (k := 2) C (tm_C_shut l D dA tt b n eq5) w hS rfl rfl mw_402 mw_403 mw_404 mw_68 mw_405 (by decide +kernel) ⟨by (try simp only [pl_D, rm_C_shut, rm_T_grow, rm_T_growFork, rm_T_growStem]) <;> omega, by (try simp only [pl_D, rm_C_shut, rm_T_grow, rm_T_growFork, rm_T_growStem]) <;> omega⟩ eu6 rfl (by decide) rfl hl.1 (Nat.le_of_ble_eq_true rfl) ⟨Nat.zero_le _, Nat.zero_le _⟩ rfl dc_T_growFork_149) hS (fun H locs w hS => ?_)
      refine lv_aload_n hx hb dc_T_growFork_152 rfl (lv_at hl 0 rfl) ?_
      refine lv_aload hx hb dc_T_growFork_153 (lv_at hl 1 rfl) ?_
      refine lv_iload hx hb dc_T_growFork_155 (lv_at hl 2 rfl) ?_
      obtain ⟨u8, eu8, hF⟩ := pl_bd hF
      obtain ⟨q7, eq7, hF⟩ := pl_bd hF
      refine pl_gr (pl_runV (Cn := rn_T) (k := 2) C (tm_T_finish l D dA tt b n eq7) w hS rfl rfl mw_410 mw_412 mw_8 mw_67 mw_413 (by decide +kernel) ⟨by (try simp only [pl_D, rm_T_finish, rm_T_grow, rm_T_growFork, rm_T_growStem]) <;> omega, by (try simp only [pl_D, rm_T_finish, rm_T_grow, rm_T_growFork, rm_T_growStem]) <;> omega⟩ eu8 rfl (by decide) rfl hl.1 (Nat.le_of_ble_eq_true rfl) ⟨Nat.zero_le _, Nat.zero_le _⟩ rfl dc_T_growFork_157) hS (fun H locs w hS => ?_)
      exact pl_retRw C w hS hF (by first | exact Or.inl ⟨_, rfl⟩ | exact Or.inr ⟨_, rfl⟩) dc_T_growFork_160
    · have hF := (if_neg hc).symm.trans hF
      refine lv_aload_n hx hb dc_T_growFork_112 rfl (lv_at hl 0 rfl) ?_
      refine lv_aload hx hb dc_T_growFork_113 (lv_at hl 1 rfl) ?_
      obtain ⟨v9, ev9, hF⟩ := pl_bd hF
      refine pl_getNR C w (ci := 3) in_N rfl (by decide) 0 (by decide) C.2.2.2.2.2.2.2.2.2.2.1 ev9 dc_T_growFork_115 ?_
      refine lv_iload hx hb dc_T_growFork_118 (lv_at hl 3 rfl) ?_
      obtain ⟨r10, er10, hF⟩ := pl_bd hF
      refine pl_aldQ2 C w er10 dc_T_growFork_120 ?_
      obtain ⟨u12, eu12, hF⟩ := pl_bd hF
      obtain ⟨q11, eq11, hF⟩ := pl_bd hF
      refine pl_gv (pl_runV (Cn := rn_T) (k := 1) C (tm_T_putReference l D dA tt b n eq11) w hS rfl rfl mw_453 mw_455 mw_12 mw_67 mw_456 (by decide +kernel) ⟨by (try simp only [pl_D, rm_T_grow, rm_T_growFork, rm_T_growStem, rm_T_putReference]) <;> omega, by (try simp only [pl_D, rm_T_grow, rm_T_growFork, rm_T_growStem, rm_T_putReference]) <;> omega⟩ eu12 rfl (by decide) rfl hl.1 (Nat.le_of_ble_eq_true rfl) ⟨Nat.zero_le _, Nat.zero_le _⟩ rfl dc_T_growFork_121) hS (fun H locs w hS => ?_)
      refine lv_iinc (k := 3) (v := x7 + 1) (lv' := [(7, .int (x7 + 1)), (0, .ref a0), (4, .ref a4), (6, .int x6)]) hx hb dc_T_growFork_124 hl rfl rfl (by decide) rfl (fun ls hl => ?_)
      refine lv_goto hx hb dc_T_growFork_127 (tgt := 105) (by decide) ?_
      exact ih q11 a0 a4 x6 (x7 + 1) _ _ _ hF w hS (lv_sub hl [1, 2, 3, 0] rfl)
set_option maxHeartbeats 4000000 in
set_option maxRecDepth 100000 in
theorem tl_T_growFork_83 {p : Program} {l : Launch} {e : Env} {s : State} {m : MethodId} {args : Array Value} {below : List Frame} {meth : Method} {c : Code} {D : va_G} {dA : Nat → ClassId} {tt : Nat → Nat} {b n : Nat} (C : pl_C p s m args meth c co_T_growFork 8 rn_T (some (.object "ProvenLedger$Node")) "growFork" D dA tt b) {d : Nat} {gr : pl_H → Nat → Int32 → Int32 → Int32 → Option (Nat × pl_H)} (hg : ∀ {n : Nat} {f : pl_H} {a0 : Nat} {x1 x2 x3 : Int32} {r : Nat} {f' : pl_H}, gr f a0 x1 x2 x3 = some (r, f') → Met l my_T_grow (Cond.code my_T_grow co_T_grow 5 (some (.object "ProvenLedger$Node")) :: pl_tb) (rm_T_grow d) (va_Pc [.ref a0, .int x1, .int x2, .int x3] (pl_pre D dA tt b n f)) (pl_qQ D dA tt b n f' (some r)) 0 0 (pl_A b)) {r : Nat} {f' : pl_H} {rc16 : pl_H → Nat → Int32 → Int32 → Nat → Int32 → Int32 → Option (Nat × pl_H)} (hr16 : ∀ (f : pl_H) (a0 : Nat) (x2 : Int32) (x3 : Int32) (a4 : Nat) (x5 : Int32) (x6 : Int32) (H : Heap) (locs : List Loc) (ls : Array Slot), rc16 f a0 x2 x3 a4 x5 x6 = some (r, f') → pl_wd D vwCl dA b n f H → va_S (pl_A b) s.heap H locs → lv_has ls 8 [(0, .ref a0), (2, .int x2), (3, .int x3), (4, .ref a4), (5, .int x5), (6, .int x6)] → W p l e (rm_T_growFork d) s m args below meth c H locs 0 0 (MQ below (pl_qQ D dA tt b n f' (some r)) args s 0 0 (pl_A b)) (F0 m 16 ls [])) {f : pl_H} {a0 : Nat} {x2 : Int32} {x3 : Int32} {a4 : Nat} {x6 : Int32} {x7 : Int32} {H : Heap} {locs : List Loc} {ls : Array Slot} (hF : fn_T_growFork_83 gr rc16 f a0 x2 x3 a4 x6 x7 = some (r, f')) (w : pl_wd D vwCl dA b n f H) (hS : va_S (pl_A b) s.heap H locs) (hl : lv_has ls 8 [(0, .ref a0), (2, .int x2), (3, .int x3), (4, .ref a4), (6, .int x6), (7, .int x7)]) : W p l e (rm_T_growFork d) s m args below meth c H locs 0 0 (MQ below (pl_qQ D dA tt b n f' (some r)) args s 0 0 (pl_A b)) (F0 m 83 ls []) := by
  have hx := C.1
  have hb := C.2.1
  have hown := C.2.2.2.2.1
  have hts := C.2.2.2.2.2.2.1
  unfold fn_T_growFork_83 at hF
  refine lv_iload hx hb dc_T_growFork_83 (lv_at hl 5 rfl) ?_
  refine lv_istore (lv' := [(5, .int x7), (0, .ref a0), (2, .int x2), (3, .int x3), (4, .ref a4), (6, .int x6), (7, .int x7)]) hx hb dc_T_growFork_85 hl (by decide) rfl (fun ls hl => ?_)
  refine lv_iinc (k := 5) (v := x6 + 1) (lv' := [(6, .int (x6 + 1)), (5, .int x7), (0, .ref a0), (2, .int x2), (3, .int x3), (4, .ref a4), (7, .int x7)]) hx hb dc_T_growFork_87 hl rfl rfl (by decide) rfl (fun ls hl => ?_)
  refine lv_goto hx hb dc_T_growFork_90 (tgt := 16) (by decide) ?_
  exact hr16 f a0 x2 x3 a4 x7 (x6 + 1) _ _ _ hF w hS (lv_sub hl [2, 3, 4, 5, 1, 0] rfl)
set_option maxHeartbeats 4000000 in
set_option maxRecDepth 100000 in
theorem tl_T_growFork_57 {p : Program} {l : Launch} {e : Env} {s : State} {m : MethodId} {args : Array Value} {below : List Frame} {meth : Method} {c : Code} {D : va_G} {dA : Nat → ClassId} {tt : Nat → Nat} {b n : Nat} (C : pl_C p s m args meth c co_T_growFork 8 rn_T (some (.object "ProvenLedger$Node")) "growFork" D dA tt b) {d : Nat} {gr : pl_H → Nat → Int32 → Int32 → Int32 → Option (Nat × pl_H)} (hg : ∀ {n : Nat} {f : pl_H} {a0 : Nat} {x1 x2 x3 : Int32} {r : Nat} {f' : pl_H}, gr f a0 x1 x2 x3 = some (r, f') → Met l my_T_grow (Cond.code my_T_grow co_T_grow 5 (some (.object "ProvenLedger$Node")) :: pl_tb) (rm_T_grow d) (va_Pc [.ref a0, .int x1, .int x2, .int x3] (pl_pre D dA tt b n f)) (pl_qQ D dA tt b n f' (some r)) 0 0 (pl_A b)) {r : Nat} {f' : pl_H} {rc16 : pl_H → Nat → Int32 → Int32 → Nat → Int32 → Int32 → Option (Nat × pl_H)} (hr16 : ∀ (f : pl_H) (a0 : Nat) (x2 : Int32) (x3 : Int32) (a4 : Nat) (x5 : Int32) (x6 : Int32) (H : Heap) (locs : List Loc) (ls : Array Slot), rc16 f a0 x2 x3 a4 x5 x6 = some (r, f') → pl_wd D vwCl dA b n f H → va_S (pl_A b) s.heap H locs → lv_has ls 8 [(0, .ref a0), (2, .int x2), (3, .int x3), (4, .ref a4), (5, .int x5), (6, .int x6)] → W p l e (rm_T_growFork d) s m args below meth c H locs 0 0 (MQ below (pl_qQ D dA tt b n f' (some r)) args s 0 0 (pl_A b)) (F0 m 16 ls [])) {f : pl_H} {a0 : Nat} {x2 : Int32} {x3 : Int32} {a4 : Nat} {x5 : Int32} {x6 : Int32} {x7 : Int32} {H : Heap} {locs : List Loc} {ls : Array Slot} (hF : fn_T_growFork_57 gr rc16 f a0 x2 x3 a4 x5 x6 x7 = some (r, f')) (w : pl_wd D vwCl dA b n f H) (hS : va_S (pl_A b) s.heap H locs) (hl : lv_has ls 8 [(0, .ref a0), (2, .int x2), (3, .int x3), (4, .ref a4), (5, .int x5), (6, .int x6), (7, .int x7)]) : W p l e (rm_T_growFork d) s m args below meth c H locs 0 0 (MQ below (pl_qQ D dA tt b n f' (some r)) args s 0 0 (pl_A b)) (F0 m 57 ls []) := by
  have hx := C.1
  have hb := C.2.1
  have hown := C.2.2.2.2.1
  have hts := C.2.2.2.2.2.2.1
  unfold fn_T_growFork_57 at hF
  refine lv_iload hx hb dc_T_growFork_57 (lv_at hl 6 rfl) ?_
  refine lv_iload hx hb dc_T_growFork_59 (lv_at hl 4 rfl) ?_
  refine lv_icmp_le hx hb dc_T_growFork_61 (tgt := 83) (by decide) (fun hc => ?_) (fun hc => ?_)
  · have hF := (if_pos hc).symm.trans hF
    exact tl_T_growFork_83 C (d := d) (@hg) hr16 hF w hS (lv_sub hl [0, 1, 2, 3, 5, 6] rfl)
  · have hF := (if_neg hc).symm.trans hF
    refine lv_aload hx hb dc_T_growFork_64 (lv_at hl 3 rfl) ?_
    obtain ⟨v1, ev1, hF⟩ := pl_bd hF
    refine pl_getNR C w (ci := 3) in_N rfl (by decide) 0 (by decide) C.2.2.2.2.2.2.2.2.2.2.1 ev1 dc_T_growFork_66 ?_
    refine lv_iload hx hb dc_T_growFork_69 (lv_at hl 5 rfl) ?_
    refine lv_aload_n hx hb dc_T_growFork_71 rfl (lv_at hl 0 rfl) ?_
    refine lv_iload hx hb dc_T_growFork_72 (lv_at hl 4 rfl) ?_
    refine lv_iload hx hb dc_T_growFork_74 (lv_at hl 6 rfl) ?_
    refine lv_iload_n hx hb dc_T_growFork_76 rfl (lv_at hl 2 rfl) ?_
    refine lv_iconst (v := 1) hx hb dc_T_growFork_77 (by decide) ?_
    refine lv_iadd hx hb dc_T_growFork_78 ?_
    obtain ⟨u3, eu3, hF⟩ := pl_bd hF
    obtain ⟨q2, eq2, hF⟩ := pl_bd hF
    refine pl_gr (pl_runV (Cn := rn_T) (k := 3) C (hg eq2) w hS rfl rfl mw_418 mw_420 mw_9 mw_67 mw_421 (by decide +kernel) ⟨by (try simp only [pl_D, rm_T_grow, rm_T_growFork, rm_T_growStem]) <;> omega, by (try simp only [pl_D, rm_T_grow, rm_T_growFork, rm_T_growStem]) <;> omega⟩ eu3 rfl (by decide) rfl hl.1 (Nat.le_of_ble_eq_true rfl) ⟨Nat.zero_le _, Nat.zero_le _⟩ rfl dc_T_growFork_79) hS (fun H locs w hS => ?_)
    obtain ⟨f4, ef4, hF⟩ := pl_bd hF
    refine pl_astQ2 (r := (some q2.1)) C w hS ef4 dc_T_growFork_82 (fun H locs w hS => ?_)
    exact tl_T_growFork_83 C (d := d) (@hg) hr16 hF w hS (lv_sub hl [0, 1, 2, 3, 5, 6] rfl)
set_option maxHeartbeats 4000000 in
set_option maxRecDepth 100000 in
theorem tl_T_growFork_27 {p : Program} {l : Launch} {e : Env} {s : State} {m : MethodId} {args : Array Value} {below : List Frame} {meth : Method} {c : Code} {D : va_G} {dA : Nat → ClassId} {tt : Nat → Nat} {b n : Nat} (C : pl_C p s m args meth c co_T_growFork 8 rn_T (some (.object "ProvenLedger$Node")) "growFork" D dA tt b) {d : Nat} {gr : pl_H → Nat → Int32 → Int32 → Int32 → Option (Nat × pl_H)} (hg : ∀ {n : Nat} {f : pl_H} {a0 : Nat} {x1 x2 x3 : Int32} {r : Nat} {f' : pl_H}, gr f a0 x1 x2 x3 = some (r, f') → Met l my_T_grow (Cond.code my_T_grow co_T_grow 5 (some (.object "ProvenLedger$Node")) :: pl_tb) (rm_T_grow d) (va_Pc [.ref a0, .int x1, .int x2, .int x3] (pl_pre D dA tt b n f)) (pl_qQ D dA tt b n f' (some r)) 0 0 (pl_A b)) {r : Nat} {f' : pl_H} {rc16 : pl_H → Nat → Int32 → Int32 → Nat → Int32 → Int32 → Option (Nat × pl_H)} (hr16 : ∀ (f : pl_H) (a0 : Nat) (x2 : Int32) (x3 : Int32) (a4 : Nat) (x5 : Int32) (x6 : Int32) (H : Heap) (locs : List Loc) (ls : Array Slot), rc16 f a0 x2 x3 a4 x5 x6 = some (r, f') → pl_wd D vwCl dA b n f H → va_S (pl_A b) s.heap H locs → lv_has ls 8 [(0, .ref a0), (2, .int x2), (3, .int x3), (4, .ref a4), (5, .int x5), (6, .int x6)] → W p l e (rm_T_growFork d) s m args below meth c H locs 0 0 (MQ below (pl_qQ D dA tt b n f' (some r)) args s 0 0 (pl_A b)) (F0 m 16 ls [])) : ∀ k : Nat, ∀ (f : pl_H) (a0 : Nat) (x2 : Int32) (x3 : Int32) (a4 : Nat) (x5 : Int32) (x6 : Int32) (x7 : Int32) (H : Heap) (locs : List Loc) (ls : Array Slot), fn_T_growFork_27 gr rc16 k f a0 x2 x3 a4 x5 x6 x7 = some (r, f') → pl_wd D vwCl dA b n f H → va_S (pl_A b) s.heap H locs → lv_has ls 8 [(0, .ref a0), (2, .int x2), (3, .int x3), (4, .ref a4), (5, .int x5), (6, .int x6), (7, .int x7)] → W p l e (rm_T_growFork d) s m args below meth c H locs 0 0 (MQ below (pl_qQ D dA tt b n f' (some r)) args s 0 0 (pl_A b)) (F0 m 27 ls []) := by
  have hx := C.1
  have hb := C.2.1
  have hown := C.2.2.2.2.1
  have hts := C.2.2.2.2.2.2.1
  intro k
  induction k with
  | zero =>
    intro f a0 x2 x3 a4 x5 x6 x7 H locs ls hF
    cases hF
  | succ k ih =>
    intro f a0 x2 x3 a4 x5 x6 x7 H locs ls hF w hS hl
    unfold fn_T_growFork_27 at hF
    refine lv_iload hx hb dc_T_growFork_27 (lv_at hl 6 rfl) ?_
    refine lv_iload_n hx hb dc_T_growFork_29 rfl (lv_at hl 1 rfl) ?_
    refine lv_icmp_ge hx hb dc_T_growFork_30 (tgt := 57) (by decide) (fun hc => ?_) (fun hc => ?_)
    · have hF := (if_pos hc).symm.trans hF
      exact tl_T_growFork_57 C (d := d) (@hg) hr16 hF w hS (lv_sub hl [0, 1, 2, 3, 4, 5, 6] rfl)
    · have hF := (if_neg hc).symm.trans hF
      refine lv_aload_n hx hb dc_T_growFork_33 rfl (lv_at hl 0 rfl) ?_
      obtain ⟨v1, ev1, hF⟩ := pl_bd hF
      refine pl_getR C w (ci := 5) in_T rfl (by decide) 0 (by decide) mw_170 ev1 dc_T_growFork_34 ?_
      refine lv_iload hx hb dc_T_growFork_37 (lv_at hl 6 rfl) ?_
      obtain ⟨u3, eu3, hF⟩ := pl_bd hF
      obtain ⟨v2, ev2, hF⟩ := pl_bd hF
      refine pl_gi (pl_runV (Cn := rn_B) (k := 1) C (tm_B_numberAt l D dA tt b n ev2) w hS rfl rfl mw_422 mw_423 mw_424 mw_65 mw_425 (by decide +kernel) ⟨by (try simp only [pl_D, rm_B_numberAt, rm_T_grow, rm_T_growFork, rm_T_growStem]) <;> omega, by (try simp only [pl_D, rm_B_numberAt, rm_T_grow, rm_T_growFork, rm_T_growStem]) <;> omega⟩ eu3 rfl (by decide) rfl hl.1 (Nat.le_of_ble_eq_true rfl) ⟨Nat.zero_le _, Nat.zero_le _⟩ rfl dc_T_growFork_39) hS (fun H locs w hS => ?_)
      refine lv_iload_n hx hb dc_T_growFork_42 rfl (lv_at hl 2 rfl) ?_
      obtain ⟨v4, ev4, hF⟩ := pl_bd hF
      refine pl_gi (pl_runSN (k := 2) C (tm_L_digit l D dA tt b n ev4) w hS rfl rfl C.2.2.2.2.2.2.2.2.2.2.2.2.2.2.1 mw_436 mw_64 mw_437 (by decide +kernel) ⟨by (try simp only [pl_D, rm_L_digit, rm_T_grow, rm_T_growFork, rm_T_growStem]) <;> omega, by (try simp only [pl_D, rm_L_digit, rm_T_grow, rm_T_growFork, rm_T_growStem]) <;> omega⟩ rfl hl.1 (Nat.le_of_ble_eq_true rfl) ⟨Nat.zero_le _, Nat.zero_le _⟩ rfl dc_T_growFork_43) hS (fun H locs w hS => ?_)
      refine lv_iload hx hb dc_T_growFork_46 (lv_at hl 5 rfl) ?_
      refine lv_icmp_ne hx hb dc_T_growFork_48 (tgt := 57) (by decide) (fun hc => ?_) (fun hc => ?_)
      · have hF := (if_neg hc).symm.trans hF
        exact tl_T_growFork_57 C (d := d) (@hg) hr16 hF w hS (lv_sub hl [0, 1, 2, 3, 4, 5, 6] rfl)
      · have hF := (if_pos hc).symm.trans hF
        refine lv_iinc (k := 6) (v := x7 + 1) (lv' := [(7, .int (x7 + 1)), (0, .ref a0), (2, .int x2), (3, .int x3), (4, .ref a4), (5, .int x5), (6, .int x6)]) hx hb dc_T_growFork_51 hl rfl rfl (by decide) rfl (fun ls hl => ?_)
        refine lv_goto hx hb dc_T_growFork_54 (tgt := 27) (by decide) ?_
        exact ih f a0 x2 x3 a4 x5 x6 (x7 + 1) _ _ _ hF w hS (lv_sub hl [1, 2, 3, 4, 5, 6, 0] rfl)
set_option maxHeartbeats 4000000 in
set_option maxRecDepth 100000 in
theorem tl_T_growFork_16 {p : Program} {l : Launch} {e : Env} {s : State} {m : MethodId} {args : Array Value} {below : List Frame} {meth : Method} {c : Code} {D : va_G} {dA : Nat → ClassId} {tt : Nat → Nat} {b n : Nat} (C : pl_C p s m args meth c co_T_growFork 8 rn_T (some (.object "ProvenLedger$Node")) "growFork" D dA tt b) {d : Nat} {gr : pl_H → Nat → Int32 → Int32 → Int32 → Option (Nat × pl_H)} (hg : ∀ {n : Nat} {f : pl_H} {a0 : Nat} {x1 x2 x3 : Int32} {r : Nat} {f' : pl_H}, gr f a0 x1 x2 x3 = some (r, f') → Met l my_T_grow (Cond.code my_T_grow co_T_grow 5 (some (.object "ProvenLedger$Node")) :: pl_tb) (rm_T_grow d) (va_Pc [.ref a0, .int x1, .int x2, .int x3] (pl_pre D dA tt b n f)) (pl_qQ D dA tt b n f' (some r)) 0 0 (pl_A b)) {r : Nat} {f' : pl_H} : ∀ k : Nat, ∀ (f : pl_H) (a0 : Nat) (x2 : Int32) (x3 : Int32) (a4 : Nat) (x5 : Int32) (x6 : Int32) (H : Heap) (locs : List Loc) (ls : Array Slot), fn_T_growFork_16 gr k f a0 x2 x3 a4 x5 x6 = some (r, f') → pl_wd D vwCl dA b n f H → va_S (pl_A b) s.heap H locs → lv_has ls 8 [(0, .ref a0), (2, .int x2), (3, .int x3), (4, .ref a4), (5, .int x5), (6, .int x6)] → W p l e (rm_T_growFork d) s m args below meth c H locs 0 0 (MQ below (pl_qQ D dA tt b n f' (some r)) args s 0 0 (pl_A b)) (F0 m 16 ls []) := by
  have hx := C.1
  have hb := C.2.1
  have hown := C.2.2.2.2.1
  have hts := C.2.2.2.2.2.2.1
  intro k
  induction k with
  | zero =>
    intro f a0 x2 x3 a4 x5 x6 H locs ls hF
    cases hF
  | succ k ih =>
    intro f a0 x2 x3 a4 x5 x6 H locs ls hF w hS hl
    unfold fn_T_growFork_16 at hF
    refine lv_iload hx hb dc_T_growFork_16 (lv_at hl 5 rfl) ?_
    refine lv_bipush (v := 16) hx hb dc_T_growFork_18 (by decide) ?_
    refine lv_icmp_ge hx hb dc_T_growFork_20 (tgt := 93) (by decide) (fun hc => ?_) (fun hc => ?_)
    · have hF := (if_pos hc).symm.trans hF
      refine lv_aload_n hx hb dc_T_growFork_93 rfl (lv_at hl 0 rfl) ?_
      obtain ⟨v1, ev1, hF⟩ := pl_bd hF
      refine pl_getR C w (ci := 5) in_T rfl (by decide) 2 (by decide) mw_172 ev1 dc_T_growFork_94 ?_
      obtain ⟨u3, eu3, hF⟩ := pl_bd hF
      obtain ⟨q2, eq2, hF⟩ := pl_bd hF
      refine pl_gi (pl_runV (Cn := rn_C) (k := 0) C (tm_C_open l D dA tt b n eq2) w hS rfl rfl mw_394 mw_395 mw_396 mw_68 mw_397 (by decide +kernel) ⟨by (try simp only [pl_D, rm_C_open, rm_T_grow, rm_T_growFork, rm_T_growStem]) <;> omega, by (try simp only [pl_D, rm_C_open, rm_T_grow, rm_T_growFork, rm_T_growStem]) <;> omega⟩ eu3 rfl (by decide) rfl hl.1 (Nat.le_of_ble_eq_true rfl) ⟨Nat.zero_le _, Nat.zero_le _⟩ rfl dc_T_growFork_97) hS (fun H locs w hS => ?_)
      refine lv_istore (lv' := [(6, .int q2.1), (0, .ref a0), (2, .int x2), (3, .int x3), (4, .ref a4), (5, .int x5)]) hx hb dc_T_growFork_100 hl (by decide) rfl (fun ls hl => ?_)
      refine lv_iconst (v := 0) hx hb dc_T_growFork_102 (by decide) ?_
      refine lv_istore (lv' := [(7, .int 0), (6, .int q2.1), (0, .ref a0), (2, .int x2), (3, .int x3), (4, .ref a4), (5, .int x5)]) hx hb dc_T_growFork_103 hl (by decide) rfl (fun ls hl => ?_)
      exact tl_T_growFork_105 C (d := d) (@hg) pl_N q2.2 a0 a4 q2.1 0 _ _ _ hF w hS (lv_sub hl [2, 5, 1, 0] rfl)
    · have hF := (if_neg hc).symm.trans hF
      refine lv_iload hx hb dc_T_growFork_23 (lv_at hl 4 rfl) ?_
      refine lv_istore (lv' := [(7, .int x5), (0, .ref a0), (2, .int x2), (3, .int x3), (4, .ref a4), (5, .int x5), (6, .int x6)]) hx hb dc_T_growFork_25 hl (by decide) rfl (fun ls hl => ?_)
      exact tl_T_growFork_27 C (d := d) (@hg) ih pl_N f a0 x2 x3 a4 x5 x6 x5 _ _ _ hF w hS (lv_sub hl [1, 2, 3, 4, 5, 6, 0] rfl)
set_option maxHeartbeats 4000000 in
set_option maxRecDepth 100000 in
theorem tl_T_growFork {p : Program} {l : Launch} {e : Env} {s : State} {m : MethodId} {args : Array Value} {below : List Frame} {meth : Method} {c : Code} {D : va_G} {dA : Nat → ClassId} {tt : Nat → Nat} {b n : Nat} (C : pl_C p s m args meth c co_T_growFork 8 rn_T (some (.object "ProvenLedger$Node")) "growFork" D dA tt b) {d : Nat} {gr : pl_H → Nat → Int32 → Int32 → Int32 → Option (Nat × pl_H)} (hg : ∀ {n : Nat} {f : pl_H} {a0 : Nat} {x1 x2 x3 : Int32} {r : Nat} {f' : pl_H}, gr f a0 x1 x2 x3 = some (r, f') → Met l my_T_grow (Cond.code my_T_grow co_T_grow 5 (some (.object "ProvenLedger$Node")) :: pl_tb) (rm_T_grow d) (va_Pc [.ref a0, .int x1, .int x2, .int x3] (pl_pre D dA tt b n f)) (pl_qQ D dA tt b n f' (some r)) 0 0 (pl_A b)) {r : Nat} {f' : pl_H} {f : pl_H} {a0 : Nat} {x1 : Int32} {x2 : Int32} {x3 : Int32} {H : Heap} {locs : List Loc} {ls : Array Slot} (hF : fn_T_growFork gr f a0 x1 x2 x3 = some (r, f')) (w : pl_wd D vwCl dA b n f H) (hS : va_S (pl_A b) s.heap H locs) (hl : lv_has ls 8 [(0, .ref a0), (1, .int x1), (2, .int x2), (3, .int x3)]) : W p l e (rm_T_growFork d) s m args below meth c H locs 0 0 (MQ below (pl_qQ D dA tt b n f' (some r)) args s 0 0 (pl_A b)) (F0 m 0 ls []) := by
  have hx := C.1
  have hb := C.2.1
  have hown := C.2.2.2.2.1
  have hts := C.2.2.2.2.2.2.1
  unfold fn_T_growFork at hF
  refine lv_aload_n hx hb dc_T_growFork_0 rfl (lv_at hl 0 rfl) ?_
  refine lv_iconst (v := 2) hx hb dc_T_growFork_1 (by decide) ?_
  refine lv_iconst (v := 0) hx hb dc_T_growFork_2 (by decide) ?_
  refine lv_iload_n hx hb dc_T_growFork_3 rfl (lv_at hl 3 rfl) ?_
  refine lv_iload_n hx hb dc_T_growFork_4 rfl (lv_at hl 3 rfl) ?_
  obtain ⟨u2, eu2, hF⟩ := pl_bd hF
  obtain ⟨q1, eq1, hF⟩ := pl_bd hF
  refine pl_gr (pl_runV (Cn := rn_T) (k := 4) C (tm_T_take l D dA tt b n eq1) w hS rfl rfl mw_386 mw_388 mw_6 mw_67 mw_389 (by decide +kernel) ⟨by (try simp only [pl_D, rm_T_grow, rm_T_growFork, rm_T_growStem, rm_T_take]) <;> omega, by (try simp only [pl_D, rm_T_grow, rm_T_growFork, rm_T_growStem, rm_T_take]) <;> omega⟩ eu2 rfl (by decide) rfl hl.1 (Nat.le_of_ble_eq_true rfl) ⟨Nat.zero_le _, Nat.zero_le _⟩ rfl dc_T_growFork_5) hS (fun H locs w hS => ?_)
  refine lv_astore (lv' := [(4, .ref q1.1), (0, .ref a0), (1, .int x1), (2, .int x2), (3, .int x3)]) hx hb dc_T_growFork_8 hl (by decide) rfl (fun ls hl => ?_)
  refine lv_iload_n hx hb dc_T_growFork_10 rfl (lv_at hl 2 rfl) ?_
  refine lv_istore (lv' := [(5, .int x1), (4, .ref q1.1), (0, .ref a0), (1, .int x1), (2, .int x2), (3, .int x3)]) hx hb dc_T_growFork_11 hl (by decide) rfl (fun ls hl => ?_)
  refine lv_iconst (v := 0) hx hb dc_T_growFork_13 (by decide) ?_
  refine lv_istore (lv' := [(6, .int 0), (5, .int x1), (4, .ref q1.1), (0, .ref a0), (1, .int x1), (2, .int x2), (3, .int x3)]) hx hb dc_T_growFork_14 hl (by decide) rfl (fun ls hl => ?_)
  exact tl_T_growFork_16 C (d := d) (@hg) pl_N q1.2 a0 x2 x3 q1.1 x1 0 _ _ _ hF w hS (lv_sub hl [3, 5, 6, 2, 1, 0] rfl)
set_option maxHeartbeats 4000000 in
set_option maxRecDepth 100000 in
theorem tm_T_growFork (l : Launch) (D : va_G) (dA : Nat → ClassId) (tt : Nat → Nat) (b n : Nat) {d : Nat} {gr : pl_H → Nat → Int32 → Int32 → Int32 → Option (Nat × pl_H)} (hg : ∀ {n : Nat} {f : pl_H} {a0 : Nat} {x1 x2 x3 : Int32} {r : Nat} {f' : pl_H}, gr f a0 x1 x2 x3 = some (r, f') → Met l my_T_grow (Cond.code my_T_grow co_T_grow 5 (some (.object "ProvenLedger$Node")) :: pl_tb) (rm_T_grow d) (va_Pc [.ref a0, .int x1, .int x2, .int x3] (pl_pre D dA tt b n f)) (pl_qQ D dA tt b n f' (some r)) 0 0 (pl_A b)) {f : pl_H} {a0 : Nat} {x1 : Int32} {x2 : Int32} {x3 : Int32} {r : Nat} {f' : pl_H} (hF : fn_T_growFork gr f a0 x1 x2 x3 = some (r, f')) : Met l my_T_growFork (Cond.code my_T_growFork co_T_growFork 8 (some (.object "ProvenLedger$Node")) :: pl_tb) (rm_T_growFork d) (va_Pc [.ref a0, .int x1, .int x2, .int x3] (pl_pre D dA tt b n f)) (pl_qQ D dA tt b n f' (some r)) 0 0 (pl_A b) := by
  refine Met.ofW (cc := co_T_growFork) (maxL := 8) (ret := (some (.object "ProvenLedger$Node"))) (by decide) rfl ?_
  intro p e s m args below meth c s₁ B hml hv
  obtain ⟨rfl, w, hK⟩ := hv
  have C : pl_C p s m _ meth c co_T_growFork 8 rn_T (some (.object "ProvenLedger$Node")) "growFork" D dA tt b := ⟨B.exec, B.bytes, hml, B.returns, findClass_of_methodNamed B.named, B.notSynchronized, fun w hw => atoms_spec (ws := Cond.code my_T_growFork co_T_growFork 8 (some (.object "ProvenLedger$Node")) :: pl_tb) B.pre w (List.mem_cons_of_mem _ hw), (name_of_methodNamed B.named B.method).1, hK⟩
  have hl := lv_entry ([.ref a0, .int x1, .int x2, .int x3]) (n := 8) (Nat.le_of_ble_eq_true rfl)
  rw [lg_entry_eq]
  generalize (lg_sl ([.ref a0, .int x1, .int x2, .int x3]) ++ List.replicate (8 - (lg_sl ([.ref a0, .int x1, .int x2, .int x3])).length) Slot.unset).toArray = ls at hl ⊢
  have hl : lv_has ls 8 [(0, .ref a0), (1, .int x1), (2, .int x2), (3, .int x3)] := hl
  exact tl_T_growFork C (d := d) (@hg) hF w va_S.rf hl
def fn_T_growStem (gr : pl_H → Nat → Int32 → Int32 → Int32 → Option (Nat × pl_H)) (f : pl_H) (a0 : Nat) (x1 : Int32) (x2 : Int32) (x3 : Int32) (x4 : Int32) : Option (Nat × pl_H) := (pl_gR f a0 5 0).bind fun v1 => (pl_is f v1 0).bind fun u3 => (fn_B_numberAt f v1 x1).bind fun v2 => (pl_is f a0 5).bind fun u5 => (fn_T_take f a0 1 v2 x3 x4).bind fun q4 => (pl_gR q4.2 q4.1 3 0).bind fun v6 => (pl_is q4.2 a0 5).bind fun u8 => (gr q4.2 a0 x1 x2 x4).bind fun q7 => (pl_sQ q7.2 2 3 v6 0 (some q7.1)).bind fun f9 => (pl_gR f9 a0 5 2).bind fun v10 => (pl_is f9 v10 1).bind fun u12 => (fn_C_open f9 v10).bind fun q11 => (pl_gR q11.2 a0 5 2).bind fun v13 => (pl_is q11.2 v13 1).bind fun u15 => (fn_C_putDigits q11.2 v13 v2 x3 x4 0).bind fun q14 => (pl_gR q14 q4.1 3 0).bind fun v16 => (pl_aQ q14 2 v16 0).bind fun r17 => (pl_is q14 a0 5).bind fun u19 => (fn_T_putReference q14 a0 r17).bind fun q18 => (pl_gR q18 a0 5 2).bind fun v20 => (pl_is q18 v20 1).bind fun u22 => (fn_C_shut q18 v20 q11.1 192).bind fun q21 => (pl_is q21 a0 5).bind fun u24 => (fn_T_finish q21 a0 q4.1 q11.1).bind fun q23 => some (q23.1, q23.2)
set_option maxHeartbeats 4000000 in
set_option maxRecDepth 100000 in
theorem tl_T_growStem {p : Program} {l : Launch} {e : Env} {s : State} {m : MethodId} {args : Array Value} {below : List Frame} {meth : Method} {c : Code} {D : va_G} {dA : Nat → ClassId} {tt : Nat → Nat} {b n : Nat} (C : pl_C p s m args meth c co_T_growStem 8 rn_T (some (.object "ProvenLedger$Node")) "growStem" D dA tt b) {d : Nat} {gr : pl_H → Nat → Int32 → Int32 → Int32 → Option (Nat × pl_H)} (hg : ∀ {n : Nat} {f : pl_H} {a0 : Nat} {x1 x2 x3 : Int32} {r : Nat} {f' : pl_H}, gr f a0 x1 x2 x3 = some (r, f') → Met l my_T_grow (Cond.code my_T_grow co_T_grow 5 (some (.object "ProvenLedger$Node")) :: pl_tb) (rm_T_grow d) (va_Pc [.ref a0, .int x1, .int x2, .int x3] (pl_pre D dA tt b n f)) (pl_qQ D dA tt b n f' (some r)) 0 0 (pl_A b)) {r : Nat} {f' : pl_H} {f : pl_H} {a0 : Nat} {x1 : Int32} {x2 : Int32} {x3 : Int32} {x4 : Int32} {H : Heap} {locs : List Loc} {ls : Array Slot} (hF : fn_T_growStem gr f a0 x1 x2 x3 x4 = some (r, f')) (w : pl_wd D vwCl dA b n f H) (hS : va_S (pl_A b) s.heap H locs) (hl : lv_has ls 8 [(0, .ref a0), (1, .int x1), (2, .int x2), (3, .int x3), (4, .int x4)]) : W p l e (rm_T_growStem d) s m args below meth c H locs 0 0 (MQ below (pl_qQ D dA tt b n f' (some r)) args s 0 0 (pl_A b)) (F0 m 0 ls []) := by
  have hx := C.1
  have hb := C.2.1
  have hown := C.2.2.2.2.1
  have hts := C.2.2.2.2.2.2.1
  unfold fn_T_growStem at hF
  refine lv_aload_n hx hb dc_T_growStem_0 rfl (lv_at hl 0 rfl) ?_
  obtain ⟨v1, ev1, hF⟩ := pl_bd hF
  refine pl_getR C w (ci := 5) in_T rfl (by decide) 0 (by decide) mw_170 ev1 dc_T_growStem_1 ?_
  refine lv_iload_n hx hb dc_T_growStem_4 rfl (lv_at hl 1 rfl) ?_
  obtain ⟨u3, eu3, hF⟩ := pl_bd hF
  obtain ⟨v2, ev2, hF⟩ := pl_bd hF
  refine pl_gi (pl_runV (Cn := rn_B) (k := 1) C (tm_B_numberAt l D dA tt b n ev2) w hS rfl rfl mw_422 mw_423 mw_424 mw_65 mw_425 (by decide +kernel) ⟨by (try simp only [pl_D, rm_B_numberAt, rm_T_grow, rm_T_growFork, rm_T_growStem]) <;> omega, by (try simp only [pl_D, rm_B_numberAt, rm_T_grow, rm_T_growFork, rm_T_growStem]) <;> omega⟩ eu3 rfl (by decide) rfl hl.1 (Nat.le_of_ble_eq_true rfl) ⟨Nat.zero_le _, Nat.zero_le _⟩ rfl dc_T_growStem_5) hS (fun H locs w hS => ?_)
  refine lv_istore (lv' := [(5, .int v2), (0, .ref a0), (1, .int x1), (2, .int x2), (3, .int x3), (4, .int x4)]) hx hb dc_T_growStem_8 hl (by decide) rfl (fun ls hl => ?_)
  refine lv_aload_n hx hb dc_T_growStem_10 rfl (lv_at hl 1 rfl) ?_
  refine lv_iconst (v := 1) hx hb dc_T_growStem_11 (by decide) ?_
  refine lv_iload hx hb dc_T_growStem_12 (lv_at hl 0 rfl) ?_
  refine lv_iload_n hx hb dc_T_growStem_14 rfl (lv_at hl 4 rfl) ?_
  refine lv_iload hx hb dc_T_growStem_15 (lv_at hl 5 rfl) ?_
  obtain ⟨u5, eu5, hF⟩ := pl_bd hF
  obtain ⟨q4, eq4, hF⟩ := pl_bd hF
  refine pl_gr (pl_runV (Cn := rn_T) (k := 4) C (tm_T_take l D dA tt b n eq4) w hS rfl rfl mw_386 mw_388 mw_6 mw_67 mw_389 (by decide +kernel) ⟨by (try simp only [pl_D, rm_T_grow, rm_T_growFork, rm_T_growStem, rm_T_take]) <;> omega, by (try simp only [pl_D, rm_T_grow, rm_T_growFork, rm_T_growStem, rm_T_take]) <;> omega⟩ eu5 rfl (by decide) rfl hl.1 (Nat.le_of_ble_eq_true rfl) ⟨Nat.zero_le _, Nat.zero_le _⟩ rfl dc_T_growStem_17) hS (fun H locs w hS => ?_)
  refine lv_astore (lv' := [(6, .ref q4.1), (5, .int v2), (0, .ref a0), (1, .int x1), (2, .int x2), (3, .int x3), (4, .int x4)]) hx hb dc_T_growStem_20 hl (by decide) rfl (fun ls hl => ?_)
  refine lv_aload hx hb dc_T_growStem_22 (lv_at hl 0 rfl) ?_
  obtain ⟨v6, ev6, hF⟩ := pl_bd hF
  refine pl_getNR C w (ci := 3) in_N rfl (by decide) 0 (by decide) C.2.2.2.2.2.2.2.2.2.2.1 ev6 dc_T_growStem_24 ?_
  refine lv_iconst (v := 0) hx hb dc_T_growStem_27 (by decide) ?_
  refine lv_aload_n hx hb dc_T_growStem_28 rfl (lv_at hl 2 rfl) ?_
  refine lv_iload_n hx hb dc_T_growStem_29 rfl (lv_at hl 3 rfl) ?_
  refine lv_iload_n hx hb dc_T_growStem_30 rfl (lv_at hl 4 rfl) ?_
  refine lv_iload hx hb dc_T_growStem_31 (lv_at hl 6 rfl) ?_
  obtain ⟨u8, eu8, hF⟩ := pl_bd hF
  obtain ⟨q7, eq7, hF⟩ := pl_bd hF
  refine pl_gr (pl_runV (Cn := rn_T) (k := 3) C (hg eq7) w hS rfl rfl mw_418 mw_420 mw_9 mw_67 mw_421 (by decide +kernel) ⟨by (try simp only [pl_D, rm_T_grow, rm_T_growFork, rm_T_growStem]) <;> omega, by (try simp only [pl_D, rm_T_grow, rm_T_growFork, rm_T_growStem]) <;> omega⟩ eu8 rfl (by decide) rfl hl.1 (Nat.le_of_ble_eq_true rfl) ⟨Nat.zero_le _, Nat.zero_le _⟩ rfl dc_T_growStem_33) hS (fun H locs w hS => ?_)
  obtain ⟨f9, ef9, hF⟩ := pl_bd hF
  refine pl_astQ2 (r := (some q7.1)) C w hS ef9 dc_T_growStem_36 (fun H locs w hS => ?_)
  refine lv_aload_n hx hb dc_T_growStem_37 rfl (lv_at hl 2 rfl) ?_
  obtain ⟨v10, ev10, hF⟩ := pl_bd hF
  refine pl_getR C w (ci := 5) in_T rfl (by decide) 2 (by decide) mw_172 ev10 dc_T_growStem_38 ?_
  obtain ⟨u12, eu12, hF⟩ := pl_bd hF
  obtain ⟨q11, eq11, hF⟩ := pl_bd hF
  refine pl_gi (pl_runV (Cn := rn_C) (k := 0) C (tm_C_open l D dA tt b n eq11) w hS rfl rfl mw_394 mw_395 mw_396 mw_68 mw_397 (by decide +kernel) ⟨by (try simp only [pl_D, rm_C_open, rm_T_grow, rm_T_growFork, rm_T_growStem]) <;> omega, by (try simp only [pl_D, rm_C_open, rm_T_grow, rm_T_growFork, rm_T_growStem]) <;> omega⟩ eu12 rfl (by decide) rfl hl.1 (Nat.le_of_ble_eq_true rfl) ⟨Nat.zero_le _, Nat.zero_le _⟩ rfl dc_T_growStem_41) hS (fun H locs w hS => ?_)
  refine lv_istore (lv' := [(7, .int q11.1), (6, .ref q4.1), (5, .int v2), (0, .ref a0), (1, .int x1), (2, .int x2), (3, .int x3), (4, .int x4)]) hx hb dc_T_growStem_44 hl (by decide) rfl (fun ls hl => ?_)
  refine lv_aload_n hx hb dc_T_growStem_46 rfl (lv_at hl 3 rfl) ?_
  obtain ⟨v13, ev13, hF⟩ := pl_bd hF
  refine pl_getR C w (ci := 5) in_T rfl (by decide) 2 (by decide) mw_172 ev13 dc_T_growStem_47 ?_
  refine lv_iload hx hb dc_T_growStem_50 (lv_at hl 2 rfl) ?_
  refine lv_iload_n hx hb dc_T_growStem_52 rfl (lv_at hl 6 rfl) ?_
  refine lv_iload hx hb dc_T_growStem_53 (lv_at hl 7 rfl) ?_
  refine lv_iconst (v := 0) hx hb dc_T_growStem_55 (by decide) ?_
  obtain ⟨u15, eu15, hF⟩ := pl_bd hF
  obtain ⟨q14, eq14, hF⟩ := pl_bd hF
  refine pl_gv (pl_runV (Cn := rn_C) (k := 4) C (tm_C_putDigits l D dA tt b n eq14) w hS rfl rfl mw_430 mw_431 mw_432 mw_68 mw_433 (by decide +kernel) ⟨by (try simp only [pl_D, rm_C_putDigits, rm_T_grow, rm_T_growFork, rm_T_growStem]) <;> omega, by (try simp only [pl_D, rm_C_putDigits, rm_T_grow, rm_T_growFork, rm_T_growStem]) <;> omega⟩ eu15 rfl (by decide) rfl hl.1 (Nat.le_of_ble_eq_true rfl) ⟨Nat.zero_le _, Nat.zero_le _⟩ rfl dc_T_growStem_56) hS (fun H locs w hS => ?_)
  refine lv_aload_n hx hb dc_T_growStem_59 rfl (lv_at hl 3 rfl) ?_
  refine lv_aload hx hb dc_T_growStem_60 (lv_at hl 1 rfl) ?_
  obtain ⟨v16, ev16, hF⟩ := pl_bd hF
  refine pl_getNR C w (ci := 3) in_N rfl (by decide) 0 (by decide) C.2.2.2.2.2.2.2.2.2.2.1 ev16 dc_T_growStem_62 ?_
  refine lv_iconst (v := 0) hx hb dc_T_growStem_65 (by decide) ?_
  obtain ⟨r17, er17, hF⟩ := pl_bd hF
  refine pl_aldQ2 C w er17 dc_T_growStem_66 ?_
  obtain ⟨u19, eu19, hF⟩ := pl_bd hF
  obtain ⟨q18, eq18, hF⟩ := pl_bd hF
  refine pl_gv (pl_runV (Cn := rn_T) (k := 1) C (tm_T_putReference l D dA tt b n eq18) w hS rfl rfl mw_453 mw_455 mw_12 mw_67 mw_456 (by decide +kernel) ⟨by (try simp only [pl_D, rm_T_grow, rm_T_growFork, rm_T_growStem, rm_T_putReference]) <;> omega, by (try simp only [pl_D, rm_T_grow, rm_T_growFork, rm_T_growStem, rm_T_putReference]) <;> omega⟩ eu19 rfl (by decide) rfl hl.1 (Nat.le_of_ble_eq_true rfl) ⟨Nat.zero_le _, Nat.zero_le _⟩ rfl dc_T_growStem_67) hS (fun H locs w hS => ?_)
  refine lv_aload_n hx hb dc_T_growStem_70 rfl (lv_at hl 3 rfl) ?_
  obtain ⟨v20, ev20, hF⟩ := pl_bd hF
  refine pl_getR C w (ci := 5) in_T rfl (by decide) 2 (by decide) mw_172 ev20 dc_T_growStem_71 ?_
  refine lv_iload hx hb dc_T_growStem_74 (lv_at hl 0 rfl) ?_
  refine lv_sipush (v := 192) hx hb dc_T_growStem_76 (by decide) ?_
  obtain ⟨u22, eu22, hF⟩ := pl_bd hF
  obtain ⟨q21, eq21, hF⟩ := pl_bd hF
  refine pl_gv (pl_runV (Cn := rn_C) (k := 2) C (tm_C_shut l D dA tt b n eq21) w hS rfl rfl mw_402 mw_403 mw_404 mw_68 mw_405 (by decide +kernel) ⟨by (try simp only [pl_D, rm_C_shut, rm_T_grow, rm_T_growFork, rm_T_growStem]) <;> omega, by (try simp only [pl_D, rm_C_shut, rm_T_grow, rm_T_growFork, rm_T_growStem]) <;> omega⟩ eu22 rfl (by decide) rfl hl.1 (Nat.le_of_ble_eq_true rfl) ⟨Nat.zero_le _, Nat.zero_le _⟩ rfl dc_T_growStem_79) hS (fun H locs w hS => ?_)
  refine lv_aload_n hx hb dc_T_growStem_82 rfl (lv_at hl 3 rfl) ?_
  refine lv_aload hx hb dc_T_growStem_83 (lv_at hl 1 rfl) ?_
  refine lv_iload hx hb dc_T_growStem_85 (lv_at hl 0 rfl) ?_
  obtain ⟨u24, eu24, hF⟩ := pl_bd hF
  obtain ⟨q23, eq23, hF⟩ := pl_bd hF
  refine pl_gr (pl_runV (Cn := rn_T) (k := 2) C (tm_T_finish l D dA tt b n eq23) w hS rfl rfl mw_410 mw_412 mw_8 mw_67 mw_413 (by decide +kernel) ⟨by (try simp only [pl_D, rm_T_finish, rm_T_grow, rm_T_growFork, rm_T_growStem]) <;> omega, by (try simp only [pl_D, rm_T_finish, rm_T_grow, rm_T_growFork, rm_T_growStem]) <;> omega⟩ eu24 rfl (by decide) rfl hl.1 (Nat.le_of_ble_eq_true rfl) ⟨Nat.zero_le _, Nat.zero_le _⟩ rfl dc_T_growStem_87) hS (fun H locs w hS => ?_)
  exact pl_retRw C w hS hF (by first | exact Or.inl ⟨_, rfl⟩ | exact Or.inr ⟨_, rfl⟩) dc_T_growStem_90
set_option maxHeartbeats 4000000 in
set_option maxRecDepth 100000 in
theorem tm_T_growStem (l : Launch) (D : va_G) (dA : Nat → ClassId) (tt : Nat → Nat) (b n : Nat) {d : Nat} {gr : pl_H → Nat → Int32 → Int32 → Int32 → Option (Nat × pl_H)} (hg : ∀ {n : Nat} {f : pl_H} {a0 : Nat} {x1 x2 x3 : Int32} {r : Nat} {f' : pl_H}, gr f a0 x1 x2 x3 = some (r, f') → Met l my_T_grow (Cond.code my_T_grow co_T_grow 5 (some (.object "ProvenLedger$Node")) :: pl_tb) (rm_T_grow d) (va_Pc [.ref a0, .int x1, .int x2, .int x3] (pl_pre D dA tt b n f)) (pl_qQ D dA tt b n f' (some r)) 0 0 (pl_A b)) {f : pl_H} {a0 : Nat} {x1 : Int32} {x2 : Int32} {x3 : Int32} {x4 : Int32} {r : Nat} {f' : pl_H} (hF : fn_T_growStem gr f a0 x1 x2 x3 x4 = some (r, f')) : Met l my_T_growStem (Cond.code my_T_growStem co_T_growStem 8 (some (.object "ProvenLedger$Node")) :: pl_tb) (rm_T_growStem d) (va_Pc [.ref a0, .int x1, .int x2, .int x3, .int x4] (pl_pre D dA tt b n f)) (pl_qQ D dA tt b n f' (some r)) 0 0 (pl_A b) := by
  refine Met.ofW (cc := co_T_growStem) (maxL := 8) (ret := (some (.object "ProvenLedger$Node"))) (by decide) rfl ?_
  intro p e s m args below meth c s₁ B hml hv
  obtain ⟨rfl, w, hK⟩ := hv
  have C : pl_C p s m _ meth c co_T_growStem 8 rn_T (some (.object "ProvenLedger$Node")) "growStem" D dA tt b := ⟨B.exec, B.bytes, hml, B.returns, findClass_of_methodNamed B.named, B.notSynchronized, fun w hw => atoms_spec (ws := Cond.code my_T_growStem co_T_growStem 8 (some (.object "ProvenLedger$Node")) :: pl_tb) B.pre w (List.mem_cons_of_mem _ hw), (name_of_methodNamed B.named B.method).1, hK⟩
  have hl := lv_entry ([.ref a0, .int x1, .int x2, .int x3, .int x4]) (n := 8) (Nat.le_of_ble_eq_true rfl)
  rw [lg_entry_eq]
  generalize (lg_sl ([.ref a0, .int x1, .int x2, .int x3, .int x4]) ++ List.replicate (8 - (lg_sl ([.ref a0, .int x1, .int x2, .int x3, .int x4])).length) Slot.unset).toArray = ls at hl ⊢
  have hl : lv_has ls 8 [(0, .ref a0), (1, .int x1), (2, .int x2), (3, .int x3), (4, .int x4)] := hl
  exact tl_T_growStem C (d := d) (@hg) hF w va_S.rf hl
def fn_T_growB_75 (gr : pl_H → Nat → Int32 → Int32 → Int32 → Option (Nat × pl_H)) (f : pl_H) (sa0 : Nat) : Option (Nat × pl_H) := some (sa0, f)
def fn_T_growB_12 (gr : pl_H → Nat → Int32 → Int32 → Int32 → Option (Nat × pl_H)) (f : pl_H) (a0 : Nat) (x1 : Int32) (x3 : Int32) : Option (Nat × pl_H) := (pl_gR f a0 5 0).bind fun v1 => (pl_is f v1 0).bind fun u3 => (fn_B_numberAt f v1 x1).bind fun v2 => (pl_is f a0 5).bind fun u5 => (fn_T_growLeaf f a0 v2 x3).bind fun q4 => some (q4.1, q4.2)
def fn_T_growB (gr : pl_H → Nat → Int32 → Int32 → Int32 → Option (Nat × pl_H)) (f : pl_H) (a0 : Nat) (x1 : Int32) (x2 : Int32) (x3 : Int32) : Option (Nat × pl_H) := if (x2 - x1) = 1 then fn_T_growB_12 gr f a0 x1 x3 else if x3 < 4 then (pl_gR f a0 5 0).bind fun v1 => (pl_is f v1 0).bind fun u3 => (fn_B_numberAt f v1 x1).bind fun v2 => (pl_gR f a0 5 0).bind fun v4 => (pl_is f v4 0).bind fun u6 => (fn_B_numberAt f v4 (x2 - 1)).bind fun v5 => (fn_T_agreedDepth f v2 v5 x3).bind fun v7 => if v7 ≤ x3 then (pl_is f a0 5).bind fun u9 => (fn_T_growFork gr f a0 x1 x2 x3).bind fun q8 => fn_T_growB_75 gr q8.2 q8.1 else (pl_is f a0 5).bind fun u11 => (fn_T_growStem gr f a0 x1 x2 x3 v7).bind fun q10 => fn_T_growB_75 gr q10.2 q10.1 else fn_T_growB_12 gr f a0 x1 x3
set_option maxHeartbeats 4000000 in
set_option maxRecDepth 100000 in
theorem tl_T_growB_75 {p : Program} {l : Launch} {e : Env} {s : State} {m : MethodId} {args : Array Value} {below : List Frame} {meth : Method} {c : Code} {D : va_G} {dA : Nat → ClassId} {tt : Nat → Nat} {b n : Nat} (C : pl_C p s m args meth c co_T_grow 5 rn_T (some (.object "ProvenLedger$Node")) "grow" D dA tt b) {d : Nat} {gr : pl_H → Nat → Int32 → Int32 → Int32 → Option (Nat × pl_H)} (hg : ∀ {n : Nat} {f : pl_H} {a0 : Nat} {x1 x2 x3 : Int32} {r : Nat} {f' : pl_H}, gr f a0 x1 x2 x3 = some (r, f') → Met l my_T_grow (Cond.code my_T_grow co_T_grow 5 (some (.object "ProvenLedger$Node")) :: pl_tb) (rm_T_grow d) (va_Pc [.ref a0, .int x1, .int x2, .int x3] (pl_pre D dA tt b n f)) (pl_qQ D dA tt b n f' (some r)) 0 0 (pl_A b)) {r : Nat} {f' : pl_H} {f : pl_H} {sa0 : Nat} {H : Heap} {locs : List Loc} {ls : Array Slot} (hF : fn_T_growB_75 gr f sa0 = some (r, f')) (w : pl_wd D vwCl dA b n f H) (hS : va_S (pl_A b) s.heap H locs) (hl : lv_has ls 5 []) : W p l e (rm_T_grow (d + 1)) s m args below meth c H locs 0 0 (MQ below (pl_qQ D dA tt b n f' (some r)) args s 0 0 (pl_A b)) (F0 m 75 ls [.ref sa0]) := by
  have hx := C.1
  have hb := C.2.1
  have hown := C.2.2.2.2.1
  have hts := C.2.2.2.2.2.2.1
  unfold fn_T_growB_75 at hF
  exact pl_retRw C w hS hF (by first | exact Or.inl ⟨_, rfl⟩ | exact Or.inr ⟨_, rfl⟩) dc_T_grow_75
set_option maxHeartbeats 4000000 in
set_option maxRecDepth 100000 in
theorem tl_T_growB_12 {p : Program} {l : Launch} {e : Env} {s : State} {m : MethodId} {args : Array Value} {below : List Frame} {meth : Method} {c : Code} {D : va_G} {dA : Nat → ClassId} {tt : Nat → Nat} {b n : Nat} (C : pl_C p s m args meth c co_T_grow 5 rn_T (some (.object "ProvenLedger$Node")) "grow" D dA tt b) {d : Nat} {gr : pl_H → Nat → Int32 → Int32 → Int32 → Option (Nat × pl_H)} (hg : ∀ {n : Nat} {f : pl_H} {a0 : Nat} {x1 x2 x3 : Int32} {r : Nat} {f' : pl_H}, gr f a0 x1 x2 x3 = some (r, f') → Met l my_T_grow (Cond.code my_T_grow co_T_grow 5 (some (.object "ProvenLedger$Node")) :: pl_tb) (rm_T_grow d) (va_Pc [.ref a0, .int x1, .int x2, .int x3] (pl_pre D dA tt b n f)) (pl_qQ D dA tt b n f' (some r)) 0 0 (pl_A b)) {r : Nat} {f' : pl_H} {f : pl_H} {a0 : Nat} {x1 : Int32} {x3 : Int32} {H : Heap} {locs : List Loc} {ls : Array Slot} (hF : fn_T_growB_12 gr f a0 x1 x3 = some (r, f')) (w : pl_wd D vwCl dA b n f H) (hS : va_S (pl_A b) s.heap H locs) (hl : lv_has ls 5 [(0, .ref a0), (1, .int x1), (3, .int x3)]) : W p l e (rm_T_grow (d + 1)) s m args below meth c H locs 0 0 (MQ below (pl_qQ D dA tt b n f' (some r)) args s 0 0 (pl_A b)) (F0 m 12 ls []) := by
  have hx := C.1
  have hb := C.2.1
  have hown := C.2.2.2.2.1
  have hts := C.2.2.2.2.2.2.1
  unfold fn_T_growB_12 at hF
  refine lv_aload_n hx hb dc_T_grow_12 rfl (lv_at hl 0 rfl) ?_
  refine lv_aload_n hx hb dc_T_grow_13 rfl (lv_at hl 0 rfl) ?_
  obtain ⟨v1, ev1, hF⟩ := pl_bd hF
  refine pl_getR C w (ci := 5) in_T rfl (by decide) 0 (by decide) mw_170 ev1 dc_T_grow_14 ?_
  refine lv_iload_n hx hb dc_T_grow_17 rfl (lv_at hl 1 rfl) ?_
  obtain ⟨u3, eu3, hF⟩ := pl_bd hF
  obtain ⟨v2, ev2, hF⟩ := pl_bd hF
  refine pl_gi (pl_runV (Cn := rn_B) (k := 1) C (tm_B_numberAt l D dA tt b n ev2) w hS rfl rfl mw_422 mw_423 mw_424 mw_65 mw_425 (by decide +kernel) ⟨by (try simp only [pl_D, rm_B_numberAt, rm_T_grow, rm_T_growFork, rm_T_growStem]) <;> omega, by (try simp only [pl_D, rm_B_numberAt, rm_T_grow, rm_T_growFork, rm_T_growStem]) <;> omega⟩ eu3 rfl (by decide) rfl hl.1 (Nat.le_of_ble_eq_true rfl) ⟨Nat.zero_le _, Nat.zero_le _⟩ rfl dc_T_grow_18) hS (fun H locs w hS => ?_)
  refine lv_iload_n hx hb dc_T_grow_21 rfl (lv_at hl 2 rfl) ?_
  obtain ⟨u5, eu5, hF⟩ := pl_bd hF
  obtain ⟨q4, eq4, hF⟩ := pl_bd hF
  refine pl_gr (pl_runV (Cn := rn_T) (k := 2) C (tm_T_growLeaf l D dA tt b n eq4) w hS rfl rfl mw_426 mw_428 mw_10 mw_67 mw_429 (by decide +kernel) ⟨by (try simp only [pl_D, rm_T_grow, rm_T_growFork, rm_T_growLeaf, rm_T_growStem]) <;> omega, by (try simp only [pl_D, rm_T_grow, rm_T_growFork, rm_T_growLeaf, rm_T_growStem]) <;> omega⟩ eu5 rfl (by decide) rfl hl.1 (Nat.le_of_ble_eq_true rfl) ⟨Nat.zero_le _, Nat.zero_le _⟩ rfl dc_T_grow_22) hS (fun H locs w hS => ?_)
  exact pl_retRw C w hS hF (by first | exact Or.inl ⟨_, rfl⟩ | exact Or.inr ⟨_, rfl⟩) dc_T_grow_25
set_option maxHeartbeats 4000000 in
set_option maxRecDepth 100000 in
theorem tl_T_growB {p : Program} {l : Launch} {e : Env} {s : State} {m : MethodId} {args : Array Value} {below : List Frame} {meth : Method} {c : Code} {D : va_G} {dA : Nat → ClassId} {tt : Nat → Nat} {b n : Nat} (C : pl_C p s m args meth c co_T_grow 5 rn_T (some (.object "ProvenLedger$Node")) "grow" D dA tt b) {d : Nat} {gr : pl_H → Nat → Int32 → Int32 → Int32 → Option (Nat × pl_H)} (hg : ∀ {n : Nat} {f : pl_H} {a0 : Nat} {x1 x2 x3 : Int32} {r : Nat} {f' : pl_H}, gr f a0 x1 x2 x3 = some (r, f') → Met l my_T_grow (Cond.code my_T_grow co_T_grow 5 (some (.object "ProvenLedger$Node")) :: pl_tb) (rm_T_grow d) (va_Pc [.ref a0, .int x1, .int x2, .int x3] (pl_pre D dA tt b n f)) (pl_qQ D dA tt b n f' (some r)) 0 0 (pl_A b)) {r : Nat} {f' : pl_H} {f : pl_H} {a0 : Nat} {x1 : Int32} {x2 : Int32} {x3 : Int32} {H : Heap} {locs : List Loc} {ls : Array Slot} (hF : fn_T_growB gr f a0 x1 x2 x3 = some (r, f')) (w : pl_wd D vwCl dA b n f H) (hS : va_S (pl_A b) s.heap H locs) (hl : lv_has ls 5 [(0, .ref a0), (1, .int x1), (2, .int x2), (3, .int x3)]) : W p l e (rm_T_grow (d + 1)) s m args below meth c H locs 0 0 (MQ below (pl_qQ D dA tt b n f' (some r)) args s 0 0 (pl_A b)) (F0 m 0 ls []) := by
  have hx := C.1
  have hb := C.2.1
  have hown := C.2.2.2.2.1
  have hts := C.2.2.2.2.2.2.1
  unfold fn_T_growB at hF
  refine lv_iload_n hx hb dc_T_grow_0 rfl (lv_at hl 2 rfl) ?_
  refine lv_iload_n hx hb dc_T_grow_1 rfl (lv_at hl 1 rfl) ?_
  refine lv_isub hx hb dc_T_grow_2 ?_
  refine lv_iconst (v := 1) hx hb dc_T_grow_3 (by decide) ?_
  refine lv_icmp_eq hx hb dc_T_grow_4 (tgt := 12) (by decide) (fun hc => ?_) (fun hc => ?_)
  · have hF := (if_pos hc).symm.trans hF
    exact tl_T_growB_12 C (d := d) (@hg) hF w hS (lv_sub hl [0, 1, 3] rfl)
  · have hF := (if_neg hc).symm.trans hF
    refine lv_iload_n hx hb dc_T_grow_7 rfl (lv_at hl 3 rfl) ?_
    refine lv_iconst (v := 4) hx hb dc_T_grow_8 (by decide) ?_
    refine lv_icmp_lt hx hb dc_T_grow_9 (tgt := 26) (by decide) (fun hc => ?_) (fun hc => ?_)
    · have hF := (if_pos hc).symm.trans hF
      refine lv_aload_n hx hb dc_T_grow_26 rfl (lv_at hl 0 rfl) ?_
      obtain ⟨v1, ev1, hF⟩ := pl_bd hF
      refine pl_getR C w (ci := 5) in_T rfl (by decide) 0 (by decide) mw_170 ev1 dc_T_grow_27 ?_
      refine lv_iload_n hx hb dc_T_grow_30 rfl (lv_at hl 1 rfl) ?_
      obtain ⟨u3, eu3, hF⟩ := pl_bd hF
      obtain ⟨v2, ev2, hF⟩ := pl_bd hF
      refine pl_gi (pl_runV (Cn := rn_B) (k := 1) C (tm_B_numberAt l D dA tt b n ev2) w hS rfl rfl mw_422 mw_423 mw_424 mw_65 mw_425 (by decide +kernel) ⟨by (try simp only [pl_D, rm_B_numberAt, rm_T_grow, rm_T_growFork, rm_T_growStem]) <;> omega, by (try simp only [pl_D, rm_B_numberAt, rm_T_grow, rm_T_growFork, rm_T_growStem]) <;> omega⟩ eu3 rfl (by decide) rfl hl.1 (Nat.le_of_ble_eq_true rfl) ⟨Nat.zero_le _, Nat.zero_le _⟩ rfl dc_T_grow_31) hS (fun H locs w hS => ?_)
      refine lv_aload_n hx hb dc_T_grow_34 rfl (lv_at hl 0 rfl) ?_
      obtain ⟨v4, ev4, hF⟩ := pl_bd hF
      refine pl_getR C w (ci := 5) in_T rfl (by decide) 0 (by decide) mw_170 ev4 dc_T_grow_35 ?_
      refine lv_iload_n hx hb dc_T_grow_38 rfl (lv_at hl 2 rfl) ?_
      refine lv_iconst (v := 1) hx hb dc_T_grow_39 (by decide) ?_
      refine lv_isub hx hb dc_T_grow_40 ?_
      obtain ⟨u6, eu6, hF⟩ := pl_bd hF
      obtain ⟨v5, ev5, hF⟩ := pl_bd hF
      refine pl_gi (pl_runV (Cn := rn_B) (k := 1) C (tm_B_numberAt l D dA tt b n ev5) w hS rfl rfl mw_422 mw_423 mw_424 mw_65 mw_425 (by decide +kernel) ⟨by (try simp only [pl_D, rm_B_numberAt, rm_T_grow, rm_T_growFork, rm_T_growStem]) <;> omega, by (try simp only [pl_D, rm_B_numberAt, rm_T_grow, rm_T_growFork, rm_T_growStem]) <;> omega⟩ eu6 rfl (by decide) rfl hl.1 (Nat.le_of_ble_eq_true rfl) ⟨Nat.zero_le _, Nat.zero_le _⟩ rfl dc_T_grow_41) hS (fun H locs w hS => ?_)
      refine lv_iload_n hx hb dc_T_grow_44 rfl (lv_at hl 3 rfl) ?_
      obtain ⟨v7, ev7, hF⟩ := pl_bd hF
      refine pl_gi (pl_runS (k := 3) C (tm_T_agreedDepth l D dA tt b n ev7) w hS rfl rfl mw_445 mw_446 mw_67 mw_447 (by decide +kernel) ⟨by (try simp only [pl_D, rm_T_agreedDepth, rm_T_grow, rm_T_growFork, rm_T_growStem]) <;> omega, by (try simp only [pl_D, rm_T_agreedDepth, rm_T_grow, rm_T_growFork, rm_T_growStem]) <;> omega⟩ rfl hl.1 (Nat.le_of_ble_eq_true rfl) ⟨Nat.zero_le _, Nat.zero_le _⟩ rfl dc_T_grow_45) hS (fun H locs w hS => ?_)
      refine lv_istore (lv' := [(4, .int v7), (0, .ref a0), (1, .int x1), (2, .int x2), (3, .int x3)]) hx hb dc_T_grow_48 hl (by decide) rfl (fun ls hl => ?_)
      refine lv_iload hx hb dc_T_grow_50 (lv_at hl 0 rfl) ?_
      refine lv_iload_n hx hb dc_T_grow_52 rfl (lv_at hl 4 rfl) ?_
      refine lv_icmp_le hx hb dc_T_grow_53 (tgt := 68) (by decide) (fun hc => ?_) (fun hc => ?_)
      · have hF := (if_pos hc).symm.trans hF
        refine lv_aload_n hx hb dc_T_grow_68 rfl (lv_at hl 1 rfl) ?_
        refine lv_iload_n hx hb dc_T_grow_69 rfl (lv_at hl 2 rfl) ?_
        refine lv_iload_n hx hb dc_T_grow_70 rfl (lv_at hl 3 rfl) ?_
        refine lv_iload_n hx hb dc_T_grow_71 rfl (lv_at hl 4 rfl) ?_
        obtain ⟨u9, eu9, hF⟩ := pl_bd hF
        obtain ⟨q8, eq8, hF⟩ := pl_bd hF
        refine pl_gr (pl_runV (Cn := rn_T) (k := 3) C (tm_T_growFork l D dA tt b n (d := d) (@hg) eq8) w hS rfl rfl mw_500 mw_502 mw_17 mw_67 mw_503 (by decide +kernel) ⟨by (try simp only [pl_D, rm_T_grow, rm_T_growFork, rm_T_growStem]) <;> omega, by (try simp only [pl_D, rm_T_grow, rm_T_growFork, rm_T_growStem]) <;> omega⟩ eu9 rfl (by decide) rfl hl.1 (Nat.le_of_ble_eq_true rfl) ⟨Nat.zero_le _, Nat.zero_le _⟩ rfl dc_T_grow_72) hS (fun H locs w hS => ?_)
        exact tl_T_growB_75 C (d := d) (@hg) hF w hS (lv_sub hl [] rfl)
      · have hF := (if_neg hc).symm.trans hF
        refine lv_aload_n hx hb dc_T_grow_56 rfl (lv_at hl 1 rfl) ?_
        refine lv_iload_n hx hb dc_T_grow_57 rfl (lv_at hl 2 rfl) ?_
        refine lv_iload_n hx hb dc_T_grow_58 rfl (lv_at hl 3 rfl) ?_
        refine lv_iload_n hx hb dc_T_grow_59 rfl (lv_at hl 4 rfl) ?_
        refine lv_iload hx hb dc_T_grow_60 (lv_at hl 0 rfl) ?_
        obtain ⟨u11, eu11, hF⟩ := pl_bd hF
        obtain ⟨q10, eq10, hF⟩ := pl_bd hF
        refine pl_gr (pl_runV (Cn := rn_T) (k := 4) C (tm_T_growStem l D dA tt b n (d := d) (@hg) eq10) w hS rfl rfl mw_449 mw_451 mw_11 mw_67 mw_452 (by decide +kernel) ⟨by (try simp only [pl_D, rm_T_grow, rm_T_growFork, rm_T_growStem]) <;> omega, by (try simp only [pl_D, rm_T_grow, rm_T_growFork, rm_T_growStem]) <;> omega⟩ eu11 rfl (by decide) rfl hl.1 (Nat.le_of_ble_eq_true rfl) ⟨Nat.zero_le _, Nat.zero_le _⟩ rfl dc_T_grow_62) hS (fun H locs w hS => ?_)
        refine lv_goto hx hb dc_T_grow_65 (tgt := 75) (by decide) ?_
        exact tl_T_growB_75 C (d := d) (@hg) hF w hS (lv_sub hl [] rfl)
    · have hF := (if_neg hc).symm.trans hF
      exact tl_T_growB_12 C (d := d) (@hg) hF w hS (lv_sub hl [0, 1, 3] rfl)
set_option maxHeartbeats 4000000 in
set_option maxRecDepth 100000 in
theorem tm_T_growB (l : Launch) (D : va_G) (dA : Nat → ClassId) (tt : Nat → Nat) (b n : Nat) {d : Nat} {gr : pl_H → Nat → Int32 → Int32 → Int32 → Option (Nat × pl_H)} (hg : ∀ {n : Nat} {f : pl_H} {a0 : Nat} {x1 x2 x3 : Int32} {r : Nat} {f' : pl_H}, gr f a0 x1 x2 x3 = some (r, f') → Met l my_T_grow (Cond.code my_T_grow co_T_grow 5 (some (.object "ProvenLedger$Node")) :: pl_tb) (rm_T_grow d) (va_Pc [.ref a0, .int x1, .int x2, .int x3] (pl_pre D dA tt b n f)) (pl_qQ D dA tt b n f' (some r)) 0 0 (pl_A b)) {f : pl_H} {a0 : Nat} {x1 : Int32} {x2 : Int32} {x3 : Int32} {r : Nat} {f' : pl_H} (hF : fn_T_growB gr f a0 x1 x2 x3 = some (r, f')) : Met l my_T_grow (Cond.code my_T_grow co_T_grow 5 (some (.object "ProvenLedger$Node")) :: pl_tb) (rm_T_grow (d + 1)) (va_Pc [.ref a0, .int x1, .int x2, .int x3] (pl_pre D dA tt b n f)) (pl_qQ D dA tt b n f' (some r)) 0 0 (pl_A b) := by
  refine Met.ofW (cc := co_T_grow) (maxL := 5) (ret := (some (.object "ProvenLedger$Node"))) (by decide) rfl ?_
  intro p e s m args below meth c s₁ B hml hv
  obtain ⟨rfl, w, hK⟩ := hv
  have C : pl_C p s m _ meth c co_T_grow 5 rn_T (some (.object "ProvenLedger$Node")) "grow" D dA tt b := ⟨B.exec, B.bytes, hml, B.returns, findClass_of_methodNamed B.named, B.notSynchronized, fun w hw => atoms_spec (ws := Cond.code my_T_grow co_T_grow 5 (some (.object "ProvenLedger$Node")) :: pl_tb) B.pre w (List.mem_cons_of_mem _ hw), (name_of_methodNamed B.named B.method).1, hK⟩
  have hl := lv_entry ([.ref a0, .int x1, .int x2, .int x3]) (n := 5) (Nat.le_of_ble_eq_true rfl)
  rw [lg_entry_eq]
  generalize (lg_sl ([.ref a0, .int x1, .int x2, .int x3]) ++ List.replicate (5 - (lg_sl ([.ref a0, .int x1, .int x2, .int x3])).length) Slot.unset).toArray = ls at hl ⊢
  have hl : lv_has ls 5 [(0, .ref a0), (1, .int x1), (2, .int x2), (3, .int x3)] := hl
  exact tl_T_growB C (d := d) (@hg) hF w va_S.rf hl
def fn_T_grow : Nat → pl_H → Nat → Int32 → Int32 → Int32 → Option (Nat × pl_H)
  | 0 => fun _ _ _ _ _ => none
  | d + 1 => fn_T_growB (fn_T_grow d)
theorem tm_T_grow (l : Launch) (D : va_G) (dA : Nat → ClassId) (tt : Nat → Nat) (b : Nat) : ∀ (d n : Nat) {f : pl_H} {a0 : Nat} {x1 x2 x3 : Int32} {r : Nat} {f' : pl_H}, fn_T_grow d f a0 x1 x2 x3 = some (r, f') → Met l my_T_grow (Cond.code my_T_grow co_T_grow 5 (some (.object "ProvenLedger$Node")) :: pl_tb) (rm_T_grow d) (va_Pc [.ref a0, .int x1, .int x2, .int x3] (pl_pre D dA tt b n f)) (pl_qQ D dA tt b n f' (some r)) 0 0 (pl_A b) := by
  intro d
  induction d with
  | zero =>
    intro n f a0 x1 x2 x3 r f' hF
    cases hF
  | succ d ih =>
    intro n f a0 x1 x2 x3 r f' hF
    exact tm_T_growB l D dA tt b n (d := d) (gr := fn_T_grow d) (fun {n f a0 x1 x2 x3 r f'} h => ih n h) hF
def rm_T_refresh : Room := { frames := 23, cells := 0, slots := 0, locals := 1224 }
def fn_T_refresh_113 : Nat → pl_H → Nat → Int32 → Option (pl_H)
  | 0 => fun _ _ _ => none
  | k + 1 => fun f a0 x1 => if 32 ≤ x1 then some f else (pl_gR f a0 5 5).bind fun v1 => (pl_gR f a0 5 1).bind fun v2 => (pl_is f v2 2).bind fun u4 => (fn_H_hashByte f v2 x1).bind fun v3 => (pl_sI f v1 x1 v3).bind fun f5 => fn_T_refresh_113 k f5 a0 (x1 + 1)
def fn_T_refresh_80 (f : pl_H) (a0 : Nat) (sa0 : Nat) (sa1 : Nat) : Option (pl_H) := (pl_pV f sa1 5 7 (.ref sa0)).bind fun f1 => (pl_gR f1 a0 5 1).bind fun v2 => (pl_gR f1 a0 5 2).bind fun v3 => (pl_is f1 v3 1).bind fun u5 => (fn_C_bytes f1 v3).bind fun v4 => (pl_gR f1 a0 5 7).bind fun v6 => (pl_gI f1 v6 3 5).bind fun v7 => (pl_gR f1 a0 5 7).bind fun v8 => (pl_gI f1 v8 3 6).bind fun v9 => (pl_is f1 v2 2).bind fun u11 => (fn_H_hash f1 v2 v4 v7 v9).bind fun q10 => fn_T_refresh_113 pl_N q10 a0 0
def fn_T_refresh_27 : Nat → pl_H → Nat → Int32 → Option (pl_H)
  | 0 => fun _ _ _ => none
  | k + 1 => fun f a0 x1 => (pl_gR f a0 5 4).bind fun v1 => (pl_ln f v1).bind fun v2 => if v2 ≤ x1 then (pl_gR f a0 5 0).bind fun v3 => (pl_is f v3 0).bind fun u5 => (fn_B_count f v3).bind fun v4 => if v4 = 0 then (pl_is f a0 5).bind fun u12 => (fn_T_growNothing f a0).bind fun q11 => fn_T_refresh_80 q11.2 a0 q11.1 a0 else (pl_gR f a0 5 0).bind fun v6 => (pl_is f v6 0).bind fun u8 => (fn_B_count f v6).bind fun v7 => (pl_is f a0 5).bind fun u10 => (fn_T_grow pl_D f a0 0 v7 0).bind fun q9 => fn_T_refresh_80 q9.2 a0 q9.1 a0 else (pl_gR f a0 5 4).bind fun v13 => (pl_sI f v13 x1 0).bind fun f14 => fn_T_refresh_27 k f14 a0 (x1 + 1)
def fn_T_refresh (f : pl_H) (a0 : Nat) : Option (pl_H) := (pl_gI f a0 5 8).bind fun v1 => if v1 = 0 then some f else (pl_pV f a0 5 8 (.int 0)).bind fun f2 => (pl_gR f2 a0 5 2).bind fun v3 => (pl_is f2 v3 1).bind fun u5 => (fn_C_clear f2 v3).bind fun q4 => (pl_pV q4 a0 5 6 (.int 0)).bind fun f6 => fn_T_refresh_27 pl_N f6 a0 0
set_option maxHeartbeats 4000000 in
set_option maxRecDepth 100000 in
theorem tl_T_refresh_113 {p : Program} {l : Launch} {e : Env} {s : State} {m : MethodId} {args : Array Value} {below : List Frame} {meth : Method} {c : Code} {D : va_G} {dA : Nat → ClassId} {tt : Nat → Nat} {b n : Nat} (C : pl_C p s m args meth c co_T_refresh 2 rn_T none "refresh" D dA tt b) {f' : pl_H} : ∀ k : Nat, ∀ (f : pl_H) (a0 : Nat) (x1 : Int32) (H : Heap) (locs : List Loc) (ls : Array Slot), fn_T_refresh_113 k f a0 x1 = some f' → pl_wd D vwCl dA b n f H → va_S (pl_A b) s.heap H locs → lv_has ls 2 [(0, .ref a0), (1, .int x1)] → W p l e rm_T_refresh s m args below meth c H locs 0 0 (MQ below (pl_qV D dA tt b n f') args s 0 0 (pl_A b)) (F0 m 113 ls []) := by
  have hx := C.1
  have hb := C.2.1
  have hown := C.2.2.2.2.1
  have hts := C.2.2.2.2.2.2.1
  intro k
  induction k with
  | zero =>
    intro f a0 x1 H locs ls hF
    cases hF
  | succ k ih =>
    intro f a0 x1 H locs ls hF w hS hl
    unfold fn_T_refresh_113 at hF
    refine lv_iload_n hx hb dc_T_refresh_113 rfl (lv_at hl 1 rfl) ?_
    refine lv_bipush (v := 32) hx hb dc_T_refresh_114 (by decide) ?_
    refine lv_icmp_ge hx hb dc_T_refresh_116 (tgt := 139) (by decide) (fun hc => ?_) (fun hc => ?_)
    · have hF := (if_pos hc).symm.trans hF
      exact pl_retVw C w hS hF dc_T_refresh_139
    · have hF := (if_neg hc).symm.trans hF
      refine lv_aload_n hx hb dc_T_refresh_119 rfl (lv_at hl 0 rfl) ?_
      obtain ⟨v1, ev1, hF⟩ := pl_bd hF
      refine pl_getR C w (ci := 5) in_T rfl (by decide) 5 (by decide) mw_175 ev1 dc_T_refresh_120 ?_
      refine lv_iload_n hx hb dc_T_refresh_123 rfl (lv_at hl 1 rfl) ?_
      refine lv_aload_n hx hb dc_T_refresh_124 rfl (lv_at hl 0 rfl) ?_
      obtain ⟨v2, ev2, hF⟩ := pl_bd hF
      refine pl_getR C w (ci := 5) in_T rfl (by decide) 1 (by decide) mw_171 ev2 dc_T_refresh_125 ?_
      refine lv_iload_n hx hb dc_T_refresh_128 rfl (lv_at hl 1 rfl) ?_
      obtain ⟨u4, eu4, hF⟩ := pl_bd hF
      obtain ⟨v3, ev3, hF⟩ := pl_bd hF
      refine pl_gi (pl_runV (Cn := rn_H) (k := 1) C (tm_H_hashByte l D dA tt b n ev3) w hS rfl rfl mw_492 mw_493 mw_494 mw_66 mw_495 (by decide +kernel) ⟨by decide, by decide⟩ eu4 rfl (by decide) rfl hl.1 (Nat.le_of_ble_eq_true rfl) ⟨Nat.zero_le _, Nat.zero_le _⟩ rfl dc_T_refresh_129) hS (fun H locs w hS => ?_)
      obtain ⟨f5, ef5, hF⟩ := pl_bd hF
      refine pl_astI C w hS ef5 dc_T_refresh_132 (fun H locs w hS => ?_)
      refine lv_iinc (k := 1) (v := x1 + 1) (lv' := [(1, .int (x1 + 1)), (0, .ref a0)]) hx hb dc_T_refresh_133 hl rfl rfl (by decide) rfl (fun ls hl => ?_)
      refine lv_goto hx hb dc_T_refresh_136 (tgt := 113) (by decide) ?_
      exact ih f5 a0 (x1 + 1) _ _ _ hF w hS (lv_sub hl [1, 0] rfl)
set_option maxHeartbeats 4000000 in
set_option maxRecDepth 100000 in
theorem tl_T_refresh_80 {p : Program} {l : Launch} {e : Env} {s : State} {m : MethodId} {args : Array Value} {below : List Frame} {meth : Method} {c : Code} {D : va_G} {dA : Nat → ClassId} {tt : Nat → Nat} {b n : Nat} (C : pl_C p s m args meth c co_T_refresh 2 rn_T none "refresh" D dA tt b) {f' : pl_H} {f : pl_H} {a0 : Nat} {sa0 : Nat} {sa1 : Nat} {H : Heap} {locs : List Loc} {ls : Array Slot} (hF : fn_T_refresh_80 f a0 sa0 sa1 = some f') (w : pl_wd D vwCl dA b n f H) (hS : va_S (pl_A b) s.heap H locs) (hl : lv_has ls 2 [(0, .ref a0)]) : W p l e rm_T_refresh s m args below meth c H locs 0 0 (MQ below (pl_qV D dA tt b n f') args s 0 0 (pl_A b)) (F0 m 80 ls [.ref sa0, .ref sa1]) := by
  have hx := C.1
  have hb := C.2.1
  have hown := C.2.2.2.2.1
  have hts := C.2.2.2.2.2.2.1
  unfold fn_T_refresh_80 at hF
  obtain ⟨f1, ef1, hF⟩ := pl_bd hF
  refine pl_put C w hS (ci := 5) in_T rfl (by decide) rty_T_ok rnm_T 7 (by decide) mw_177 rfl rfl rfl ef1 dc_T_refresh_80 (fun H locs w hS => ?_)
  refine lv_aload_n hx hb dc_T_refresh_83 rfl (lv_at hl 0 rfl) ?_
  obtain ⟨v2, ev2, hF⟩ := pl_bd hF
  refine pl_getR C w (ci := 5) in_T rfl (by decide) 1 (by decide) mw_171 ev2 dc_T_refresh_84 ?_
  refine lv_aload_n hx hb dc_T_refresh_87 rfl (lv_at hl 0 rfl) ?_
  obtain ⟨v3, ev3, hF⟩ := pl_bd hF
  refine pl_getR C w (ci := 5) in_T rfl (by decide) 2 (by decide) mw_172 ev3 dc_T_refresh_88 ?_
  obtain ⟨u5, eu5, hF⟩ := pl_bd hF
  obtain ⟨v4, ev4, hF⟩ := pl_bd hF
  refine pl_gr (pl_runV (Cn := rn_C) (k := 0) C (tm_C_bytes l D dA tt b n ev4) w hS rfl rfl mw_461 mw_462 mw_463 mw_68 mw_464 (by decide +kernel) ⟨by decide, by decide⟩ eu5 rfl (by decide) rfl hl.1 (Nat.le_of_ble_eq_true rfl) ⟨Nat.zero_le _, Nat.zero_le _⟩ rfl dc_T_refresh_91) hS (fun H locs w hS => ?_)
  refine lv_aload_n hx hb dc_T_refresh_94 rfl (lv_at hl 0 rfl) ?_
  obtain ⟨v6, ev6, hF⟩ := pl_bd hF
  refine pl_getR C w (ci := 5) in_T rfl (by decide) 7 (by decide) mw_177 ev6 dc_T_refresh_95 ?_
  obtain ⟨v7, ev7, hF⟩ := pl_bd hF
  refine pl_getNI C w (ci := 3) in_N rfl (by decide) 5 (by decide) C.2.2.2.2.2.2.2.2.2.2.2.1 ev7 dc_T_refresh_98 ?_
  refine lv_aload_n hx hb dc_T_refresh_101 rfl (lv_at hl 0 rfl) ?_
  obtain ⟨v8, ev8, hF⟩ := pl_bd hF
  refine pl_getR C w (ci := 5) in_T rfl (by decide) 7 (by decide) mw_177 ev8 dc_T_refresh_102 ?_
  obtain ⟨v9, ev9, hF⟩ := pl_bd hF
  refine pl_getNI C w (ci := 3) in_N rfl (by decide) 6 (by decide) C.2.2.2.2.2.2.2.2.2.2.2.2.1 ev9 dc_T_refresh_105 ?_
  obtain ⟨u11, eu11, hF⟩ := pl_bd hF
  obtain ⟨q10, eq10, hF⟩ := pl_bd hF
  refine pl_gv (pl_runV (Cn := rn_H) (k := 3) C (tm_H_hash l D dA tt b n eq10) w hS rfl rfl mw_465 mw_466 mw_467 mw_66 mw_468 (by decide +kernel) ⟨by decide, by decide⟩ eu11 rfl (by decide) rfl hl.1 (Nat.le_of_ble_eq_true rfl) ⟨Nat.zero_le _, Nat.zero_le _⟩ rfl dc_T_refresh_108) hS (fun H locs w hS => ?_)
  refine lv_iconst (v := 0) hx hb dc_T_refresh_111 (by decide) ?_
  refine lv_istore_n (lv' := [(1, .int 0), (0, .ref a0)]) hx hb dc_T_refresh_112 rfl hl (by decide) rfl (fun ls hl => ?_)
  exact tl_T_refresh_113 C pl_N q10 a0 0 _ _ _ hF w hS (lv_sub hl [1, 0] rfl)
set_option maxHeartbeats 4000000 in
set_option maxRecDepth 100000 in
theorem tl_T_refresh_27 {p : Program} {l : Launch} {e : Env} {s : State} {m : MethodId} {args : Array Value} {below : List Frame} {meth : Method} {c : Code} {D : va_G} {dA : Nat → ClassId} {tt : Nat → Nat} {b n : Nat} (C : pl_C p s m args meth c co_T_refresh 2 rn_T none "refresh" D dA tt b) {f' : pl_H} : ∀ k : Nat, ∀ (f : pl_H) (a0 : Nat) (x1 : Int32) (H : Heap) (locs : List Loc) (ls : Array Slot), fn_T_refresh_27 k f a0 x1 = some f' → pl_wd D vwCl dA b n f H → va_S (pl_A b) s.heap H locs → lv_has ls 2 [(0, .ref a0), (1, .int x1)] → W p l e rm_T_refresh s m args below meth c H locs 0 0 (MQ below (pl_qV D dA tt b n f') args s 0 0 (pl_A b)) (F0 m 27 ls []) := by
  have hx := C.1
  have hb := C.2.1
  have hown := C.2.2.2.2.1
  have hts := C.2.2.2.2.2.2.1
  intro k
  induction k with
  | zero =>
    intro f a0 x1 H locs ls hF
    cases hF
  | succ k ih =>
    intro f a0 x1 H locs ls hF w hS hl
    unfold fn_T_refresh_27 at hF
    refine lv_iload_n hx hb dc_T_refresh_27 rfl (lv_at hl 1 rfl) ?_
    refine lv_aload_n hx hb dc_T_refresh_28 rfl (lv_at hl 0 rfl) ?_
    obtain ⟨v1, ev1, hF⟩ := pl_bd hF
    refine pl_getR C w (ci := 5) in_T rfl (by decide) 4 (by decide) mw_174 ev1 dc_T_refresh_29 ?_
    obtain ⟨v2, ev2, hF⟩ := pl_bd hF
    refine pl_len C w ev2 dc_T_refresh_32 ?_
    refine lv_icmp_ge hx hb dc_T_refresh_33 (tgt := 49) (by decide) (fun hc => ?_) (fun hc => ?_)
    · have hF := (if_pos hc).symm.trans hF
      refine lv_aload_n hx hb dc_T_refresh_49 rfl (lv_at hl 0 rfl) ?_
      refine lv_aload_n hx hb dc_T_refresh_50 rfl (lv_at hl 0 rfl) ?_
      obtain ⟨v3, ev3, hF⟩ := pl_bd hF
      refine pl_getR C w (ci := 5) in_T rfl (by decide) 0 (by decide) mw_170 ev3 dc_T_refresh_51 ?_
      obtain ⟨u5, eu5, hF⟩ := pl_bd hF
      obtain ⟨v4, ev4, hF⟩ := pl_bd hF
      refine pl_gi (pl_runV (Cn := rn_B) (k := 0) C (tm_B_count l D dA tt b n ev4) w hS rfl rfl mw_381 mw_304 mw_305 mw_65 mw_306 (by decide +kernel) ⟨by decide, by decide⟩ eu5 rfl (by decide) rfl hl.1 (Nat.le_of_ble_eq_true rfl) ⟨Nat.zero_le _, Nat.zero_le _⟩ rfl dc_T_refresh_54) hS (fun H locs w hS => ?_)
      refine lv_if_ne hx hb dc_T_refresh_57 (tgt := 67) (by decide) (fun hc => ?_) (fun hc => ?_)
      · have hF := (if_neg hc).symm.trans hF
        refine lv_aload_n hx hb dc_T_refresh_67 rfl (lv_at hl 0 rfl) ?_
        refine lv_iconst (v := 0) hx hb dc_T_refresh_68 (by decide) ?_
        refine lv_aload_n hx hb dc_T_refresh_69 rfl (lv_at hl 0 rfl) ?_
        obtain ⟨v6, ev6, hF⟩ := pl_bd hF
        refine pl_getR C w (ci := 5) in_T rfl (by decide) 0 (by decide) mw_170 ev6 dc_T_refresh_70 ?_
        obtain ⟨u8, eu8, hF⟩ := pl_bd hF
        obtain ⟨v7, ev7, hF⟩ := pl_bd hF
        refine pl_gi (pl_runV (Cn := rn_B) (k := 0) C (tm_B_count l D dA tt b n ev7) w hS rfl rfl mw_381 mw_304 mw_305 mw_65 mw_306 (by decide +kernel) ⟨by decide, by decide⟩ eu8 rfl (by decide) rfl hl.1 (Nat.le_of_ble_eq_true rfl) ⟨Nat.zero_le _, Nat.zero_le _⟩ rfl dc_T_refresh_73) hS (fun H locs w hS => ?_)
        refine lv_iconst (v := 0) hx hb dc_T_refresh_76 (by decide) ?_
        obtain ⟨u10, eu10, hF⟩ := pl_bd hF
        obtain ⟨q9, eq9, hF⟩ := pl_bd hF
        refine pl_gr (pl_runV (Cn := rn_T) (k := 3) C (tm_T_grow l D dA tt b pl_D n eq9) w hS rfl rfl mw_418 mw_420 mw_9 mw_67 mw_421 (by decide +kernel) ⟨by (try simp only [pl_D, rm_T_grow, rm_T_growFork, rm_T_growStem, rm_T_refresh]) <;> omega, by (try simp only [pl_D, rm_T_grow, rm_T_growFork, rm_T_growStem, rm_T_refresh]) <;> omega⟩ eu10 rfl (by decide) rfl hl.1 (Nat.le_of_ble_eq_true rfl) ⟨Nat.zero_le _, Nat.zero_le _⟩ rfl dc_T_refresh_77) hS (fun H locs w hS => ?_)
        exact tl_T_refresh_80 C hF w hS (lv_sub hl [0] rfl)
      · have hF := (if_pos hc).symm.trans hF
        refine lv_aload_n hx hb dc_T_refresh_60 rfl (lv_at hl 0 rfl) ?_
        obtain ⟨u12, eu12, hF⟩ := pl_bd hF
        obtain ⟨q11, eq11, hF⟩ := pl_bd hF
        refine pl_gr (pl_runV (Cn := rn_T) (k := 0) C (tm_T_growNothing l D dA tt b n eq11) w hS rfl rfl mw_382 mw_384 mw_5 mw_67 mw_385 (by decide +kernel) ⟨by decide, by decide⟩ eu12 rfl (by decide) rfl hl.1 (Nat.le_of_ble_eq_true rfl) ⟨Nat.zero_le _, Nat.zero_le _⟩ rfl dc_T_refresh_61) hS (fun H locs w hS => ?_)
        refine lv_goto hx hb dc_T_refresh_64 (tgt := 80) (by decide) ?_
        exact tl_T_refresh_80 C hF w hS (lv_sub hl [0] rfl)
    · have hF := (if_neg hc).symm.trans hF
      refine lv_aload_n hx hb dc_T_refresh_36 rfl (lv_at hl 0 rfl) ?_
      obtain ⟨v13, ev13, hF⟩ := pl_bd hF
      refine pl_getR C w (ci := 5) in_T rfl (by decide) 4 (by decide) mw_174 ev13 dc_T_refresh_37 ?_
      refine lv_iload_n hx hb dc_T_refresh_40 rfl (lv_at hl 1 rfl) ?_
      refine lv_iconst (v := 0) hx hb dc_T_refresh_41 (by decide) ?_
      obtain ⟨f14, ef14, hF⟩ := pl_bd hF
      refine pl_astI C w hS ef14 dc_T_refresh_42 (fun H locs w hS => ?_)
      refine lv_iinc (k := 1) (v := x1 + 1) (lv' := [(1, .int (x1 + 1)), (0, .ref a0)]) hx hb dc_T_refresh_43 hl rfl rfl (by decide) rfl (fun ls hl => ?_)
      refine lv_goto hx hb dc_T_refresh_46 (tgt := 27) (by decide) ?_
      exact ih f14 a0 (x1 + 1) _ _ _ hF w hS (lv_sub hl [1, 0] rfl)
set_option maxHeartbeats 4000000 in
set_option maxRecDepth 100000 in
theorem tl_T_refresh {p : Program} {l : Launch} {e : Env} {s : State} {m : MethodId} {args : Array Value} {below : List Frame} {meth : Method} {c : Code} {D : va_G} {dA : Nat → ClassId} {tt : Nat → Nat} {b n : Nat} (C : pl_C p s m args meth c co_T_refresh 2 rn_T none "refresh" D dA tt b) {f' : pl_H} {f : pl_H} {a0 : Nat} {H : Heap} {locs : List Loc} {ls : Array Slot} (hF : fn_T_refresh f a0 = some f') (w : pl_wd D vwCl dA b n f H) (hS : va_S (pl_A b) s.heap H locs) (hl : lv_has ls 2 [(0, .ref a0)]) : W p l e rm_T_refresh s m args below meth c H locs 0 0 (MQ below (pl_qV D dA tt b n f') args s 0 0 (pl_A b)) (F0 m 0 ls []) := by
  have hx := C.1
  have hb := C.2.1
  have hown := C.2.2.2.2.1
  have hts := C.2.2.2.2.2.2.1
  unfold fn_T_refresh at hF
  refine lv_aload_n hx hb dc_T_refresh_0 rfl (lv_at hl 0 rfl) ?_
  obtain ⟨v1, ev1, hF⟩ := pl_bd hF
  refine pl_getI C w (ci := 5) in_T rfl (by decide) 8 (by decide) mw_178 ev1 dc_T_refresh_1 ?_
  refine lv_if_ne hx hb dc_T_refresh_4 (tgt := 8) (by decide) (fun hc => ?_) (fun hc => ?_)
  · have hF := (if_neg hc).symm.trans hF
    refine lv_aload_n hx hb dc_T_refresh_8 rfl (lv_at hl 0 rfl) ?_
    refine lv_iconst (v := 0) hx hb dc_T_refresh_9 (by decide) ?_
    obtain ⟨f2, ef2, hF⟩ := pl_bd hF
    refine pl_put C w hS (ci := 5) in_T rfl (by decide) rty_T_ok rnm_T 8 (by decide) mw_178 rfl rfl rfl ef2 dc_T_refresh_10 (fun H locs w hS => ?_)
    refine lv_aload_n hx hb dc_T_refresh_13 rfl (lv_at hl 0 rfl) ?_
    obtain ⟨v3, ev3, hF⟩ := pl_bd hF
    refine pl_getR C w (ci := 5) in_T rfl (by decide) 2 (by decide) mw_172 ev3 dc_T_refresh_14 ?_
    obtain ⟨u5, eu5, hF⟩ := pl_bd hF
    obtain ⟨q4, eq4, hF⟩ := pl_bd hF
    refine pl_gv (pl_runV (Cn := rn_C) (k := 0) C (tm_C_clear l D dA tt b n eq4) w hS rfl rfl mw_377 mw_378 mw_379 mw_68 mw_380 (by decide +kernel) ⟨by decide, by decide⟩ eu5 rfl (by decide) rfl hl.1 (Nat.le_of_ble_eq_true rfl) ⟨Nat.zero_le _, Nat.zero_le _⟩ rfl dc_T_refresh_17) hS (fun H locs w hS => ?_)
    refine lv_aload_n hx hb dc_T_refresh_20 rfl (lv_at hl 0 rfl) ?_
    refine lv_iconst (v := 0) hx hb dc_T_refresh_21 (by decide) ?_
    obtain ⟨f6, ef6, hF⟩ := pl_bd hF
    refine pl_put C w hS (ci := 5) in_T rfl (by decide) rty_T_ok rnm_T 6 (by decide) mw_176 rfl rfl rfl ef6 dc_T_refresh_22 (fun H locs w hS => ?_)
    refine lv_iconst (v := 0) hx hb dc_T_refresh_25 (by decide) ?_
    refine lv_istore_n (lv' := [(1, .int 0), (0, .ref a0)]) hx hb dc_T_refresh_26 rfl hl (by decide) rfl (fun ls hl => ?_)
    exact tl_T_refresh_27 C pl_N f6 a0 0 _ _ _ hF w hS (lv_sub hl [1, 0] rfl)
  · have hF := (if_pos hc).symm.trans hF
    exact pl_retVw C w hS hF dc_T_refresh_7
set_option maxHeartbeats 4000000 in
set_option maxRecDepth 100000 in
theorem tm_T_refresh (l : Launch) (D : va_G) (dA : Nat → ClassId) (tt : Nat → Nat) (b n : Nat) {f : pl_H} {a0 : Nat} {f' : pl_H} (hF : fn_T_refresh f a0 = some f') : Met l my_T_refresh (Cond.code my_T_refresh co_T_refresh 2 none :: pl_tb) rm_T_refresh (va_Pc [.ref a0] (pl_pre D dA tt b n f)) (pl_qV D dA tt b n f') 0 0 (pl_A b) := by
  refine Met.ofW (cc := co_T_refresh) (maxL := 2) (ret := none) (by decide) rfl ?_
  intro p e s m args below meth c s₁ B hml hv
  obtain ⟨rfl, w, hK⟩ := hv
  have C : pl_C p s m _ meth c co_T_refresh 2 rn_T none "refresh" D dA tt b := ⟨B.exec, B.bytes, hml, B.returns, findClass_of_methodNamed B.named, B.notSynchronized, fun w hw => atoms_spec (ws := Cond.code my_T_refresh co_T_refresh 2 none :: pl_tb) B.pre w (List.mem_cons_of_mem _ hw), (name_of_methodNamed B.named B.method).1, hK⟩
  have hl := lv_entry ([.ref a0]) (n := 2) (Nat.le_of_ble_eq_true rfl)
  rw [lg_entry_eq]
  generalize (lg_sl ([.ref a0]) ++ List.replicate (2 - (lg_sl ([.ref a0])).length) Slot.unset).toArray = ls at hl ⊢
  have hl : lv_has ls 2 [(0, .ref a0)] := hl
  exact tl_T_refresh C hF w va_S.rf hl
def rm_L_root : Room := { frames := 24, cells := 0, slots := 0, locals := 1245 }
def fn_L_root_26 : Nat → pl_H → Nat → Int32 → Int64 → Int32 → Option (Int64 × pl_H)
  | 0 => fun _ _ _ _ _ => none
  | k + 1 => fun f a0 x1 y2 x4 => if ((8 * x1) + 8) ≤ x4 then some (y2, f) else (pl_gR f a0 7 2).bind fun v1 => (pl_is f v1 5).bind fun u3 => (fn_T_rootByte f v1 x4).bind fun v2 => fn_L_root_26 k f a0 x1 ((y2 <<< ((8 : Int32).toInt64 &&& 63)) ||| ((v2 : Int32).toInt64)) (x4 + 1)
def fn_L_root_9 (f : pl_H) : Option (Int64 × pl_H) := some (0, f)
def fn_L_root (f : pl_H) (a0 : Nat) (x1 : Int32) : Option (Int64 × pl_H) := if x1 < 0 then fn_L_root_9 f else if x1 < 4 then (pl_gR f a0 7 2).bind fun v1 => (pl_is f v1 5).bind fun u3 => (fn_T_refresh f v1).bind fun q2 => fn_L_root_26 pl_N q2 a0 x1 0 (8 * x1) else fn_L_root_9 f
set_option maxHeartbeats 4000000 in
set_option maxRecDepth 100000 in
theorem tl_L_root_26 {p : Program} {l : Launch} {e : Env} {s : State} {m : MethodId} {args : Array Value} {below : List Frame} {meth : Method} {c : Code} {D : va_G} {dA : Nat → ClassId} {tt : Nat → Nat} {b n : Nat} (C : pl_C p s m args meth c co_L_root 5 rn_L (some .long) "root" D dA tt b) {r : Int64} {f' : pl_H} : ∀ k : Nat, ∀ (f : pl_H) (a0 : Nat) (x1 : Int32) (y2 : Int64) (x4 : Int32) (H : Heap) (locs : List Loc) (ls : Array Slot), fn_L_root_26 k f a0 x1 y2 x4 = some (r, f') → pl_wd D vwCl dA b n f H → va_S (pl_A b) s.heap H locs → lv_has ls 5 [(0, .ref a0), (1, .int x1), (2, .long y2), (4, .int x4)] → W p l e rm_L_root s m args below meth c H locs 0 0 (MQ below (pl_qL D dA tt b n f' r) args s 0 0 (pl_A b)) (F0 m 26 ls []) := by
  have hx := C.1
  have hb := C.2.1
  have hown := C.2.2.2.2.1
  have hts := C.2.2.2.2.2.2.1
  intro k
  induction k with
  | zero =>
    intro f a0 x1 y2 x4 H locs ls hF
    cases hF
  | succ k ih =>
    intro f a0 x1 y2 x4 H locs ls hF w hS hl
    unfold fn_L_root_26 at hF
    refine lv_iload hx hb dc_L_root_26 (lv_at hl 3 rfl) ?_
    refine lv_bipush (v := 8) hx hb dc_L_root_28 (by decide) ?_
    refine lv_iload_n hx hb dc_L_root_30 rfl (lv_at hl 1 rfl) ?_
    refine lv_imul hx hb dc_L_root_31 ?_
    refine lv_bipush (v := 8) hx hb dc_L_root_32 (by decide) ?_
    refine lv_iadd hx hb dc_L_root_34 ?_
    refine lv_icmp_ge hx hb dc_L_root_35 (tgt := 60) (by decide) (fun hc => ?_) (fun hc => ?_)
    · have hF := (if_pos hc).symm.trans hF
      refine lv_lload_n hx hb dc_L_root_60 rfl (lv_at hl 2 rfl) ?_
      exact pl_retLw C w hS hF dc_L_root_61
    · have hF := (if_neg hc).symm.trans hF
      refine lv_lload_n hx hb dc_L_root_38 rfl (lv_at hl 2 rfl) ?_
      refine lv_bipush (v := 8) hx hb dc_L_root_39 (by decide) ?_
      refine lv_lshl hx hb dc_L_root_41 rfl ?_
      refine lv_aload_n hx hb dc_L_root_42 rfl (lv_at hl 0 rfl) ?_
      obtain ⟨v1, ev1, hF⟩ := pl_bd hF
      refine pl_getR C w (ci := 7) in_L rfl (by decide) 2 (by decide) mw_262 ev1 dc_L_root_43 ?_
      refine lv_iload hx hb dc_L_root_46 (lv_at hl 3 rfl) ?_
      obtain ⟨u3, eu3, hF⟩ := pl_bd hF
      obtain ⟨v2, ev2, hF⟩ := pl_bd hF
      refine pl_gi (pl_runV (Cn := rn_T) (k := 1) C (tm_T_rootByte l D dA tt b n ev2) w hS rfl rfl mw_504 mw_505 mw_506 mw_67 mw_507 (by decide +kernel) ⟨by decide, by decide⟩ eu3 rfl (by decide) rfl hl.1 (Nat.le_of_ble_eq_true rfl) ⟨Nat.zero_le _, Nat.zero_le _⟩ rfl dc_L_root_48) hS (fun H locs w hS => ?_)
      refine lv_i2l hx hb dc_L_root_51 rfl ?_
      refine lv_lor hx hb dc_L_root_52 ?_
      refine lv_lstore_n (lv' := [(2, .long ((y2 <<< ((8 : Int32).toInt64 &&& 63)) ||| ((v2 : Int32).toInt64))), (0, .ref a0), (1, .int x1), (4, .int x4)]) hx hb dc_L_root_53 rfl hl (by decide) rfl (fun ls hl => ?_)
      refine lv_iinc (k := 3) (v := x4 + 1) (lv' := [(4, .int (x4 + 1)), (2, .long ((y2 <<< ((8 : Int32).toInt64 &&& 63)) ||| ((v2 : Int32).toInt64))), (0, .ref a0), (1, .int x1)]) hx hb dc_L_root_54 hl rfl rfl (by decide) rfl (fun ls hl => ?_)
      refine lv_goto hx hb dc_L_root_57 (tgt := 26) (by decide) ?_
      exact ih f a0 x1 ((y2 <<< ((8 : Int32).toInt64 &&& 63)) ||| ((v2 : Int32).toInt64)) (x4 + 1) _ _ _ hF w hS (lv_sub hl [2, 3, 1, 0] rfl)
set_option maxHeartbeats 4000000 in
set_option maxRecDepth 100000 in
theorem tl_L_root_9 {p : Program} {l : Launch} {e : Env} {s : State} {m : MethodId} {args : Array Value} {below : List Frame} {meth : Method} {c : Code} {D : va_G} {dA : Nat → ClassId} {tt : Nat → Nat} {b n : Nat} (C : pl_C p s m args meth c co_L_root 5 rn_L (some .long) "root" D dA tt b) {r : Int64} {f' : pl_H} {f : pl_H} {H : Heap} {locs : List Loc} {ls : Array Slot} (hF : fn_L_root_9 f = some (r, f')) (w : pl_wd D vwCl dA b n f H) (hS : va_S (pl_A b) s.heap H locs) (hl : lv_has ls 5 []) : W p l e rm_L_root s m args below meth c H locs 0 0 (MQ below (pl_qL D dA tt b n f' r) args s 0 0 (pl_A b)) (F0 m 9 ls []) := by
  have hx := C.1
  have hb := C.2.1
  have hown := C.2.2.2.2.1
  have hts := C.2.2.2.2.2.2.1
  unfold fn_L_root_9 at hF
  refine lv_lconst (v := 0) hx hb dc_L_root_9 (by decide) ?_
  exact pl_retLw C w hS hF dc_L_root_10
set_option maxHeartbeats 4000000 in
set_option maxRecDepth 100000 in
theorem tl_L_root {p : Program} {l : Launch} {e : Env} {s : State} {m : MethodId} {args : Array Value} {below : List Frame} {meth : Method} {c : Code} {D : va_G} {dA : Nat → ClassId} {tt : Nat → Nat} {b n : Nat} (C : pl_C p s m args meth c co_L_root 5 rn_L (some .long) "root" D dA tt b) {r : Int64} {f' : pl_H} {f : pl_H} {a0 : Nat} {x1 : Int32} {H : Heap} {locs : List Loc} {ls : Array Slot} (hF : fn_L_root f a0 x1 = some (r, f')) (w : pl_wd D vwCl dA b n f H) (hS : va_S (pl_A b) s.heap H locs) (hl : lv_has ls 5 [(0, .ref a0), (1, .int x1)]) : W p l e rm_L_root s m args below meth c H locs 0 0 (MQ below (pl_qL D dA tt b n f' r) args s 0 0 (pl_A b)) (F0 m 0 ls []) := by
  have hx := C.1
  have hb := C.2.1
  have hown := C.2.2.2.2.1
  have hts := C.2.2.2.2.2.2.1
  unfold fn_L_root at hF
  refine lv_iload_n hx hb dc_L_root_0 rfl (lv_at hl 1 rfl) ?_
  refine lv_if_lt hx hb dc_L_root_1 (tgt := 9) (by decide) (fun hc => ?_) (fun hc => ?_)
  · have hF := (if_pos hc).symm.trans hF
    exact tl_L_root_9 C hF w hS (lv_sub hl [] rfl)
  · have hF := (if_neg hc).symm.trans hF
    refine lv_iload_n hx hb dc_L_root_4 rfl (lv_at hl 1 rfl) ?_
    refine lv_iconst (v := 4) hx hb dc_L_root_5 (by decide) ?_
    refine lv_icmp_lt hx hb dc_L_root_6 (tgt := 11) (by decide) (fun hc => ?_) (fun hc => ?_)
    · have hF := (if_pos hc).symm.trans hF
      refine lv_aload_n hx hb dc_L_root_11 rfl (lv_at hl 0 rfl) ?_
      obtain ⟨v1, ev1, hF⟩ := pl_bd hF
      refine pl_getR C w (ci := 7) in_L rfl (by decide) 2 (by decide) mw_262 ev1 dc_L_root_12 ?_
      obtain ⟨u3, eu3, hF⟩ := pl_bd hF
      obtain ⟨q2, eq2, hF⟩ := pl_bd hF
      refine pl_gv (pl_runV (Cn := rn_T) (k := 0) C (tm_T_refresh l D dA tt b n eq2) w hS rfl rfl mw_373 mw_374 mw_375 mw_67 mw_376 (by decide +kernel) ⟨by decide, by decide⟩ eu3 rfl (by decide) rfl hl.1 (Nat.le_of_ble_eq_true rfl) ⟨Nat.zero_le _, Nat.zero_le _⟩ rfl dc_L_root_15) hS (fun H locs w hS => ?_)
      refine lv_lconst (v := 0) hx hb dc_L_root_18 (by decide) ?_
      refine lv_lstore_n (lv' := [(2, .long 0), (0, .ref a0), (1, .int x1)]) hx hb dc_L_root_19 rfl hl (by decide) rfl (fun ls hl => ?_)
      refine lv_bipush (v := 8) hx hb dc_L_root_20 (by decide) ?_
      refine lv_iload_n hx hb dc_L_root_22 rfl (lv_at hl 2 rfl) ?_
      refine lv_imul hx hb dc_L_root_23 ?_
      refine lv_istore (lv' := [(4, .int (8 * x1)), (2, .long 0), (0, .ref a0), (1, .int x1)]) hx hb dc_L_root_24 hl (by decide) rfl (fun ls hl => ?_)
      exact tl_L_root_26 C pl_N q2 a0 x1 0 (8 * x1) _ _ _ hF w hS (lv_sub hl [2, 3, 1, 0] rfl)
    · have hF := (if_neg hc).symm.trans hF
      exact tl_L_root_9 C hF w hS (lv_sub hl [] rfl)
set_option maxHeartbeats 4000000 in
set_option maxRecDepth 100000 in
theorem tm_L_root (l : Launch) (D : va_G) (dA : Nat → ClassId) (tt : Nat → Nat) (b n : Nat) {f : pl_H} {a0 : Nat} {x1 : Int32} {r : Int64} {f' : pl_H} (hF : fn_L_root f a0 x1 = some (r, f')) : Met l my_L_root (Cond.code my_L_root co_L_root 5 (some .long) :: pl_tb) rm_L_root (va_Pc [.ref a0, .int x1] (pl_pre D dA tt b n f)) (pl_qL D dA tt b n f' r) 0 0 (pl_A b) := by
  refine Met.ofW (cc := co_L_root) (maxL := 5) (ret := (some .long)) (by decide) rfl ?_
  intro p e s m args below meth c s₁ B hml hv
  obtain ⟨rfl, w, hK⟩ := hv
  have C : pl_C p s m _ meth c co_L_root 5 rn_L (some .long) "root" D dA tt b := ⟨B.exec, B.bytes, hml, B.returns, findClass_of_methodNamed B.named, B.notSynchronized, fun w hw => atoms_spec (ws := Cond.code my_L_root co_L_root 5 (some .long) :: pl_tb) B.pre w (List.mem_cons_of_mem _ hw), (name_of_methodNamed B.named B.method).1, hK⟩
  have hl := lv_entry ([.ref a0, .int x1]) (n := 5) (Nat.le_of_ble_eq_true rfl)
  rw [lg_entry_eq]
  generalize (lg_sl ([.ref a0, .int x1]) ++ List.replicate (5 - (lg_sl ([.ref a0, .int x1])).length) Slot.unset).toArray = ls at hl ⊢
  have hl : lv_has ls 5 [(0, .ref a0), (1, .int x1)] := hl
  exact tl_L_root C hF w va_S.rf hl
def rm_L_nodes : Room := { frames := 24, cells := 0, slots := 0, locals := 1245 }
def fn_L_nodes_16 (f : pl_H) (a0 : Nat) (x1 : Int32) : Option (Int32 × pl_H) := (pl_gR f a0 7 2).bind fun v1 => (pl_is f v1 5).bind fun u3 => (fn_T_refresh f v1).bind fun q2 => (pl_gR q2 a0 7 2).bind fun v4 => (pl_is q2 v4 5).bind fun u6 => (fn_T_countOf q2 v4 x1).bind fun v5 => some (v5, q2)
def fn_L_nodes (f : pl_H) (a0 : Nat) (x1 : Int32) : Option (Int32 × pl_H) := if x1 = 0 then fn_L_nodes_16 f a0 x1 else if x1 = 1 then fn_L_nodes_16 f a0 x1 else if x1 = 2 then fn_L_nodes_16 f a0 x1 else some ((-1), f)
set_option maxHeartbeats 4000000 in
set_option maxRecDepth 100000 in
theorem tl_L_nodes_16 {p : Program} {l : Launch} {e : Env} {s : State} {m : MethodId} {args : Array Value} {below : List Frame} {meth : Method} {c : Code} {D : va_G} {dA : Nat → ClassId} {tt : Nat → Nat} {b n : Nat} (C : pl_C p s m args meth c co_L_nodes 2 rn_L (some .int) "nodes" D dA tt b) {r : Int32} {f' : pl_H} {f : pl_H} {a0 : Nat} {x1 : Int32} {H : Heap} {locs : List Loc} {ls : Array Slot} (hF : fn_L_nodes_16 f a0 x1 = some (r, f')) (w : pl_wd D vwCl dA b n f H) (hS : va_S (pl_A b) s.heap H locs) (hl : lv_has ls 2 [(0, .ref a0), (1, .int x1)]) : W p l e rm_L_nodes s m args below meth c H locs 0 0 (MQ below (pl_qI D dA tt b n f' r) args s 0 0 (pl_A b)) (F0 m 16 ls []) := by
  have hx := C.1
  have hb := C.2.1
  have hown := C.2.2.2.2.1
  have hts := C.2.2.2.2.2.2.1
  unfold fn_L_nodes_16 at hF
  refine lv_aload_n hx hb dc_L_nodes_16 rfl (lv_at hl 0 rfl) ?_
  obtain ⟨v1, ev1, hF⟩ := pl_bd hF
  refine pl_getR C w (ci := 7) in_L rfl (by decide) 2 (by decide) mw_262 ev1 dc_L_nodes_17 ?_
  obtain ⟨u3, eu3, hF⟩ := pl_bd hF
  obtain ⟨q2, eq2, hF⟩ := pl_bd hF
  refine pl_gv (pl_runV (Cn := rn_T) (k := 0) C (tm_T_refresh l D dA tt b n eq2) w hS rfl rfl mw_373 mw_374 mw_375 mw_67 mw_376 (by decide +kernel) ⟨by decide, by decide⟩ eu3 rfl (by decide) rfl hl.1 (Nat.le_of_ble_eq_true rfl) ⟨Nat.zero_le _, Nat.zero_le _⟩ rfl dc_L_nodes_20) hS (fun H locs w hS => ?_)
  refine lv_aload_n hx hb dc_L_nodes_23 rfl (lv_at hl 0 rfl) ?_
  obtain ⟨v4, ev4, hF⟩ := pl_bd hF
  refine pl_getR C w (ci := 7) in_L rfl (by decide) 2 (by decide) mw_262 ev4 dc_L_nodes_24 ?_
  refine lv_iload_n hx hb dc_L_nodes_27 rfl (lv_at hl 1 rfl) ?_
  obtain ⟨u6, eu6, hF⟩ := pl_bd hF
  obtain ⟨v5, ev5, hF⟩ := pl_bd hF
  refine pl_gi (pl_runV (Cn := rn_T) (k := 1) C (tm_T_countOf l D dA tt b n ev5) w hS rfl rfl mw_512 mw_513 mw_514 mw_67 mw_515 (by decide +kernel) ⟨by decide, by decide⟩ eu6 rfl (by decide) rfl hl.1 (Nat.le_of_ble_eq_true rfl) ⟨Nat.zero_le _, Nat.zero_le _⟩ rfl dc_L_nodes_28) hS (fun H locs w hS => ?_)
  exact pl_retIw C w hS hF dc_L_nodes_31
set_option maxHeartbeats 4000000 in
set_option maxRecDepth 100000 in
theorem tl_L_nodes {p : Program} {l : Launch} {e : Env} {s : State} {m : MethodId} {args : Array Value} {below : List Frame} {meth : Method} {c : Code} {D : va_G} {dA : Nat → ClassId} {tt : Nat → Nat} {b n : Nat} (C : pl_C p s m args meth c co_L_nodes 2 rn_L (some .int) "nodes" D dA tt b) {r : Int32} {f' : pl_H} {f : pl_H} {a0 : Nat} {x1 : Int32} {H : Heap} {locs : List Loc} {ls : Array Slot} (hF : fn_L_nodes f a0 x1 = some (r, f')) (w : pl_wd D vwCl dA b n f H) (hS : va_S (pl_A b) s.heap H locs) (hl : lv_has ls 2 [(0, .ref a0), (1, .int x1)]) : W p l e rm_L_nodes s m args below meth c H locs 0 0 (MQ below (pl_qI D dA tt b n f' r) args s 0 0 (pl_A b)) (F0 m 0 ls []) := by
  have hx := C.1
  have hb := C.2.1
  have hown := C.2.2.2.2.1
  have hts := C.2.2.2.2.2.2.1
  unfold fn_L_nodes at hF
  refine lv_iload_n hx hb dc_L_nodes_0 rfl (lv_at hl 1 rfl) ?_
  refine lv_if_eq hx hb dc_L_nodes_1 (tgt := 16) (by decide) (fun hc => ?_) (fun hc => ?_)
  · have hF := (if_pos hc).symm.trans hF
    exact tl_L_nodes_16 C hF w hS (lv_sub hl [0, 1] rfl)
  · have hF := (if_neg hc).symm.trans hF
    refine lv_iload_n hx hb dc_L_nodes_4 rfl (lv_at hl 1 rfl) ?_
    refine lv_iconst (v := 1) hx hb dc_L_nodes_5 (by decide) ?_
    refine lv_icmp_eq hx hb dc_L_nodes_6 (tgt := 16) (by decide) (fun hc => ?_) (fun hc => ?_)
    · have hF := (if_pos hc).symm.trans hF
      exact tl_L_nodes_16 C hF w hS (lv_sub hl [0, 1] rfl)
    · have hF := (if_neg hc).symm.trans hF
      refine lv_iload_n hx hb dc_L_nodes_9 rfl (lv_at hl 1 rfl) ?_
      refine lv_iconst (v := 2) hx hb dc_L_nodes_10 (by decide) ?_
      refine lv_icmp_eq hx hb dc_L_nodes_11 (tgt := 16) (by decide) (fun hc => ?_) (fun hc => ?_)
      · have hF := (if_pos hc).symm.trans hF
        exact tl_L_nodes_16 C hF w hS (lv_sub hl [0, 1] rfl)
      · have hF := (if_neg hc).symm.trans hF
        refine lv_iconst (v := (-1)) hx hb dc_L_nodes_14 (by decide) ?_
        exact pl_retIw C w hS hF dc_L_nodes_15
set_option maxHeartbeats 4000000 in
set_option maxRecDepth 100000 in
theorem tm_L_nodes (l : Launch) (D : va_G) (dA : Nat → ClassId) (tt : Nat → Nat) (b n : Nat) {f : pl_H} {a0 : Nat} {x1 : Int32} {r : Int32} {f' : pl_H} (hF : fn_L_nodes f a0 x1 = some (r, f')) : Met l my_L_nodes (Cond.code my_L_nodes co_L_nodes 2 (some .int) :: pl_tb) rm_L_nodes (va_Pc [.ref a0, .int x1] (pl_pre D dA tt b n f)) (pl_qI D dA tt b n f' r) 0 0 (pl_A b) := by
  refine Met.ofW (cc := co_L_nodes) (maxL := 2) (ret := (some .int)) (by decide) rfl ?_
  intro p e s m args below meth c s₁ B hml hv
  obtain ⟨rfl, w, hK⟩ := hv
  have C : pl_C p s m _ meth c co_L_nodes 2 rn_L (some .int) "nodes" D dA tt b := ⟨B.exec, B.bytes, hml, B.returns, findClass_of_methodNamed B.named, B.notSynchronized, fun w hw => atoms_spec (ws := Cond.code my_L_nodes co_L_nodes 2 (some .int) :: pl_tb) B.pre w (List.mem_cons_of_mem _ hw), (name_of_methodNamed B.named B.method).1, hK⟩
  have hl := lv_entry ([.ref a0, .int x1]) (n := 2) (Nat.le_of_ble_eq_true rfl)
  rw [lg_entry_eq]
  generalize (lg_sl ([.ref a0, .int x1]) ++ List.replicate (2 - (lg_sl ([.ref a0, .int x1])).length) Slot.unset).toArray = ls at hl ⊢
  have hl : lv_has ls 2 [(0, .ref a0), (1, .int x1)] := hl
  exact tl_L_nodes C hF w va_S.rf hl
def rm_L_size : Room := { frames := 24, cells := 0, slots := 0, locals := 1245 }
def fn_L_size (f : pl_H) (a0 : Nat) : Option (Int32 × pl_H) := (pl_gR f a0 7 2).bind fun v1 => (pl_is f v1 5).bind fun u3 => (fn_T_refresh f v1).bind fun q2 => (pl_gR q2 a0 7 2).bind fun v4 => (pl_is q2 v4 5).bind fun u6 => (fn_T_topLength q2 v4).bind fun v5 => some (v5, q2)
set_option maxHeartbeats 4000000 in
set_option maxRecDepth 100000 in
theorem tl_L_size {p : Program} {l : Launch} {e : Env} {s : State} {m : MethodId} {args : Array Value} {below : List Frame} {meth : Method} {c : Code} {D : va_G} {dA : Nat → ClassId} {tt : Nat → Nat} {b n : Nat} (C : pl_C p s m args meth c co_L_size 1 rn_L (some .int) "size" D dA tt b) {r : Int32} {f' : pl_H} {f : pl_H} {a0 : Nat} {H : Heap} {locs : List Loc} {ls : Array Slot} (hF : fn_L_size f a0 = some (r, f')) (w : pl_wd D vwCl dA b n f H) (hS : va_S (pl_A b) s.heap H locs) (hl : lv_has ls 1 [(0, .ref a0)]) : W p l e rm_L_size s m args below meth c H locs 0 0 (MQ below (pl_qI D dA tt b n f' r) args s 0 0 (pl_A b)) (F0 m 0 ls []) := by
  have hx := C.1
  have hb := C.2.1
  have hown := C.2.2.2.2.1
  have hts := C.2.2.2.2.2.2.1
  unfold fn_L_size at hF
  refine lv_aload_n hx hb dc_L_size_0 rfl (lv_at hl 0 rfl) ?_
  obtain ⟨v1, ev1, hF⟩ := pl_bd hF
  refine pl_getR C w (ci := 7) in_L rfl (by decide) 2 (by decide) mw_262 ev1 dc_L_size_1 ?_
  obtain ⟨u3, eu3, hF⟩ := pl_bd hF
  obtain ⟨q2, eq2, hF⟩ := pl_bd hF
  refine pl_gv (pl_runV (Cn := rn_T) (k := 0) C (tm_T_refresh l D dA tt b n eq2) w hS rfl rfl mw_373 mw_374 mw_375 mw_67 mw_376 (by decide +kernel) ⟨by decide, by decide⟩ eu3 rfl (by decide) rfl hl.1 (Nat.le_of_ble_eq_true rfl) ⟨Nat.zero_le _, Nat.zero_le _⟩ rfl dc_L_size_4) hS (fun H locs w hS => ?_)
  refine lv_aload_n hx hb dc_L_size_7 rfl (lv_at hl 0 rfl) ?_
  obtain ⟨v4, ev4, hF⟩ := pl_bd hF
  refine pl_getR C w (ci := 7) in_L rfl (by decide) 2 (by decide) mw_262 ev4 dc_L_size_8 ?_
  obtain ⟨u6, eu6, hF⟩ := pl_bd hF
  obtain ⟨v5, ev5, hF⟩ := pl_bd hF
  refine pl_gi (pl_runV (Cn := rn_T) (k := 0) C (tm_T_topLength l D dA tt b n ev5) w hS rfl rfl mw_520 mw_521 mw_522 mw_67 mw_523 (by decide +kernel) ⟨by decide, by decide⟩ eu6 rfl (by decide) rfl hl.1 (Nat.le_of_ble_eq_true rfl) ⟨Nat.zero_le _, Nat.zero_le _⟩ rfl dc_L_size_11) hS (fun H locs w hS => ?_)
  exact pl_retIw C w hS hF dc_L_size_14
set_option maxHeartbeats 4000000 in
set_option maxRecDepth 100000 in
theorem tm_L_size (l : Launch) (D : va_G) (dA : Nat → ClassId) (tt : Nat → Nat) (b n : Nat) {f : pl_H} {a0 : Nat} {r : Int32} {f' : pl_H} (hF : fn_L_size f a0 = some (r, f')) : Met l my_L_size (Cond.code my_L_size co_L_size 1 (some .int) :: pl_tb) rm_L_size (va_Pc [.ref a0] (pl_pre D dA tt b n f)) (pl_qI D dA tt b n f' r) 0 0 (pl_A b) := by
  refine Met.ofW (cc := co_L_size) (maxL := 1) (ret := (some .int)) (by decide) rfl ?_
  intro p e s m args below meth c s₁ B hml hv
  obtain ⟨rfl, w, hK⟩ := hv
  have C : pl_C p s m _ meth c co_L_size 1 rn_L (some .int) "size" D dA tt b := ⟨B.exec, B.bytes, hml, B.returns, findClass_of_methodNamed B.named, B.notSynchronized, fun w hw => atoms_spec (ws := Cond.code my_L_size co_L_size 1 (some .int) :: pl_tb) B.pre w (List.mem_cons_of_mem _ hw), (name_of_methodNamed B.named B.method).1, hK⟩
  have hl := lv_entry ([.ref a0]) (n := 1) (Nat.le_of_ble_eq_true rfl)
  rw [lg_entry_eq]
  generalize (lg_sl ([.ref a0]) ++ List.replicate (1 - (lg_sl ([.ref a0])).length) Slot.unset).toArray = ls at hl ⊢
  have hl : lv_has ls 1 [(0, .ref a0)] := hl
  exact tl_L_size C hF w va_S.rf hl
def rm_L_prove : Room := { frames := 24, cells := 0, slots := 0, locals := 1245 }
def fn_L_prove (f : pl_H) (a0 : Nat) (x1 : Int32) : Option (Int32 × pl_H) := (fn_L_isAccount f x1).bind fun v1 => if v1 = 0 then some ((-1), f) else (pl_gR f a0 7 2).bind fun v2 => (pl_is f v2 5).bind fun u4 => (fn_T_refresh f v2).bind fun q3 => (pl_gR q3 a0 7 2).bind fun v5 => (pl_gR q3 a0 7 3).bind fun v6 => (pl_is q3 v5 5).bind fun u8 => (fn_T_writeProof q3 v5 x1 v6).bind fun q7 => (pl_gR q7 a0 7 3).bind fun v9 => (pl_is q7 v9 4).bind fun u11 => (fn_P_count q7 v9).bind fun v10 => some (v10, q7)
set_option maxHeartbeats 4000000 in
set_option maxRecDepth 100000 in
theorem tl_L_prove {p : Program} {l : Launch} {e : Env} {s : State} {m : MethodId} {args : Array Value} {below : List Frame} {meth : Method} {c : Code} {D : va_G} {dA : Nat → ClassId} {tt : Nat → Nat} {b n : Nat} (C : pl_C p s m args meth c co_L_prove 2 rn_L (some .int) "prove" D dA tt b) {r : Int32} {f' : pl_H} {f : pl_H} {a0 : Nat} {x1 : Int32} {H : Heap} {locs : List Loc} {ls : Array Slot} (hF : fn_L_prove f a0 x1 = some (r, f')) (w : pl_wd D vwCl dA b n f H) (hS : va_S (pl_A b) s.heap H locs) (hl : lv_has ls 2 [(0, .ref a0), (1, .int x1)]) : W p l e rm_L_prove s m args below meth c H locs 0 0 (MQ below (pl_qI D dA tt b n f' r) args s 0 0 (pl_A b)) (F0 m 0 ls []) := by
  have hx := C.1
  have hb := C.2.1
  have hown := C.2.2.2.2.1
  have hts := C.2.2.2.2.2.2.1
  unfold fn_L_prove at hF
  refine lv_iload_n hx hb dc_L_prove_0 rfl (lv_at hl 1 rfl) ?_
  obtain ⟨v1, ev1, hF⟩ := pl_bd hF
  refine pl_gi (pl_runS (k := 1) C (tm_L_isAccount l D dA tt b n ev1) w hS rfl rfl mw_286 mw_287 mw_64 mw_288 (by decide +kernel) ⟨by decide, by decide⟩ rfl hl.1 (Nat.le_of_ble_eq_true rfl) ⟨Nat.zero_le _, Nat.zero_le _⟩ rfl dc_L_prove_1) hS (fun H locs w hS => ?_)
  refine lv_if_ne hx hb dc_L_prove_4 (tgt := 9) (by decide) (fun hc => ?_) (fun hc => ?_)
  · have hF := (if_neg hc).symm.trans hF
    refine lv_aload_n hx hb dc_L_prove_9 rfl (lv_at hl 0 rfl) ?_
    obtain ⟨v2, ev2, hF⟩ := pl_bd hF
    refine pl_getR C w (ci := 7) in_L rfl (by decide) 2 (by decide) mw_262 ev2 dc_L_prove_10 ?_
    obtain ⟨u4, eu4, hF⟩ := pl_bd hF
    obtain ⟨q3, eq3, hF⟩ := pl_bd hF
    refine pl_gv (pl_runV (Cn := rn_T) (k := 0) C (tm_T_refresh l D dA tt b n eq3) w hS rfl rfl mw_373 mw_374 mw_375 mw_67 mw_376 (by decide +kernel) ⟨by decide, by decide⟩ eu4 rfl (by decide) rfl hl.1 (Nat.le_of_ble_eq_true rfl) ⟨Nat.zero_le _, Nat.zero_le _⟩ rfl dc_L_prove_13) hS (fun H locs w hS => ?_)
    refine lv_aload_n hx hb dc_L_prove_16 rfl (lv_at hl 0 rfl) ?_
    obtain ⟨v5, ev5, hF⟩ := pl_bd hF
    refine pl_getR C w (ci := 7) in_L rfl (by decide) 2 (by decide) mw_262 ev5 dc_L_prove_17 ?_
    refine lv_iload_n hx hb dc_L_prove_20 rfl (lv_at hl 1 rfl) ?_
    refine lv_aload_n hx hb dc_L_prove_21 rfl (lv_at hl 0 rfl) ?_
    obtain ⟨v6, ev6, hF⟩ := pl_bd hF
    refine pl_getR C w (ci := 7) in_L rfl (by decide) 3 (by decide) mw_263 ev6 dc_L_prove_22 ?_
    obtain ⟨u8, eu8, hF⟩ := pl_bd hF
    obtain ⟨q7, eq7, hF⟩ := pl_bd hF
    refine pl_gv (pl_runV (Cn := rn_T) (k := 2) C (tm_T_writeProof l D dA tt b n eq7) w hS rfl rfl mw_528 mw_529 mw_530 mw_67 mw_531 (by decide +kernel) ⟨by decide, by decide⟩ eu8 rfl (by decide) rfl hl.1 (Nat.le_of_ble_eq_true rfl) ⟨Nat.zero_le _, Nat.zero_le _⟩ rfl dc_L_prove_25) hS (fun H locs w hS => ?_)
    refine lv_aload_n hx hb dc_L_prove_28 rfl (lv_at hl 0 rfl) ?_
    obtain ⟨v9, ev9, hF⟩ := pl_bd hF
    refine pl_getR C w (ci := 7) in_L rfl (by decide) 3 (by decide) mw_263 ev9 dc_L_prove_29 ?_
    obtain ⟨u11, eu11, hF⟩ := pl_bd hF
    obtain ⟨v10, ev10, hF⟩ := pl_bd hF
    refine pl_gi (pl_runV (Cn := rn_P) (k := 0) C (tm_P_count l D dA tt b n ev10) w hS rfl rfl mw_552 mw_553 mw_554 mw_70 mw_555 (by decide +kernel) ⟨by decide, by decide⟩ eu11 rfl (by decide) rfl hl.1 (Nat.le_of_ble_eq_true rfl) ⟨Nat.zero_le _, Nat.zero_le _⟩ rfl dc_L_prove_32) hS (fun H locs w hS => ?_)
    exact pl_retIw C w hS hF dc_L_prove_35
  · have hF := (if_pos hc).symm.trans hF
    refine lv_iconst (v := (-1)) hx hb dc_L_prove_7 (by decide) ?_
    exact pl_retIw C w hS hF dc_L_prove_8
set_option maxHeartbeats 4000000 in
set_option maxRecDepth 100000 in
theorem tm_L_prove (l : Launch) (D : va_G) (dA : Nat → ClassId) (tt : Nat → Nat) (b n : Nat) {f : pl_H} {a0 : Nat} {x1 : Int32} {r : Int32} {f' : pl_H} (hF : fn_L_prove f a0 x1 = some (r, f')) : Met l my_L_prove (Cond.code my_L_prove co_L_prove 2 (some .int) :: pl_tb) rm_L_prove (va_Pc [.ref a0, .int x1] (pl_pre D dA tt b n f)) (pl_qI D dA tt b n f' r) 0 0 (pl_A b) := by
  refine Met.ofW (cc := co_L_prove) (maxL := 2) (ret := (some .int)) (by decide) rfl ?_
  intro p e s m args below meth c s₁ B hml hv
  obtain ⟨rfl, w, hK⟩ := hv
  have C : pl_C p s m _ meth c co_L_prove 2 rn_L (some .int) "prove" D dA tt b := ⟨B.exec, B.bytes, hml, B.returns, findClass_of_methodNamed B.named, B.notSynchronized, fun w hw => atoms_spec (ws := Cond.code my_L_prove co_L_prove 2 (some .int) :: pl_tb) B.pre w (List.mem_cons_of_mem _ hw), (name_of_methodNamed B.named B.method).1, hK⟩
  have hl := lv_entry ([.ref a0, .int x1]) (n := 2) (Nat.le_of_ble_eq_true rfl)
  rw [lg_entry_eq]
  generalize (lg_sl ([.ref a0, .int x1]) ++ List.replicate (2 - (lg_sl ([.ref a0, .int x1])).length) Slot.unset).toArray = ls at hl ⊢
  have hl : lv_has ls 2 [(0, .ref a0), (1, .int x1)] := hl
  exact tl_L_prove C hF w va_S.rf hl
def rm_L_check : Room := { frames := 24, cells := 0, slots := 0, locals := 1245 }
def fn_L_check_34 (f : pl_H) (a0 : Nat) (sx0 : Int32) (sa1 : Nat) : Option (Int32 × pl_H) := (pl_pV f sa1 7 6 (.int sx0)).bind fun f1 => (pl_gI f1 a0 7 6).bind fun v2 => some (v2, f1)
def fn_L_check (f : pl_H) (a0 : Nat) (x1 : Int32) : Option (Int32 × pl_H) := (pl_gR f a0 7 2).bind fun v1 => (pl_is f v1 5).bind fun u3 => (fn_T_refresh f v1).bind fun q2 => (fn_L_isAccount q2 x1).bind fun v4 => if v4 = 0 then fn_L_check_34 q2 a0 ((-1)) a0 else (pl_gR q2 a0 7 4).bind fun v5 => (pl_gR q2 a0 7 2).bind fun v6 => (pl_is q2 v6 5).bind fun u8 => (fn_T_rootRow q2 v6).bind fun v7 => (pl_is q2 v5 6).bind fun u10 => (fn_W_follow q2 v5 x1 v7).bind fun q9 => fn_L_check_34 q9.2 a0 q9.1 a0
set_option maxHeartbeats 4000000 in
set_option maxRecDepth 100000 in
theorem tl_L_check_34 {p : Program} {l : Launch} {e : Env} {s : State} {m : MethodId} {args : Array Value} {below : List Frame} {meth : Method} {c : Code} {D : va_G} {dA : Nat → ClassId} {tt : Nat → Nat} {b n : Nat} (C : pl_C p s m args meth c co_L_check 2 rn_L (some .int) "check" D dA tt b) {r : Int32} {f' : pl_H} {f : pl_H} {a0 : Nat} {sx0 : Int32} {sa1 : Nat} {H : Heap} {locs : List Loc} {ls : Array Slot} (hF : fn_L_check_34 f a0 sx0 sa1 = some (r, f')) (w : pl_wd D vwCl dA b n f H) (hS : va_S (pl_A b) s.heap H locs) (hl : lv_has ls 2 [(0, .ref a0)]) : W p l e rm_L_check s m args below meth c H locs 0 0 (MQ below (pl_qI D dA tt b n f' r) args s 0 0 (pl_A b)) (F0 m 34 ls [.int sx0, .ref sa1]) := by
  have hx := C.1
  have hb := C.2.1
  have hown := C.2.2.2.2.1
  have hts := C.2.2.2.2.2.2.1
  unfold fn_L_check_34 at hF
  obtain ⟨f1, ef1, hF⟩ := pl_bd hF
  refine pl_put C w hS (ci := 7) in_L rfl (by decide) rty_L_ok rnm_L 6 (by decide) mw_266 rfl rfl rfl ef1 dc_L_check_34 (fun H locs w hS => ?_)
  refine lv_aload_n hx hb dc_L_check_37 rfl (lv_at hl 0 rfl) ?_
  obtain ⟨v2, ev2, hF⟩ := pl_bd hF
  refine pl_getI C w (ci := 7) in_L rfl (by decide) 6 (by decide) mw_266 ev2 dc_L_check_38 ?_
  exact pl_retIw C w hS hF dc_L_check_41
set_option maxHeartbeats 4000000 in
set_option maxRecDepth 100000 in
theorem tl_L_check {p : Program} {l : Launch} {e : Env} {s : State} {m : MethodId} {args : Array Value} {below : List Frame} {meth : Method} {c : Code} {D : va_G} {dA : Nat → ClassId} {tt : Nat → Nat} {b n : Nat} (C : pl_C p s m args meth c co_L_check 2 rn_L (some .int) "check" D dA tt b) {r : Int32} {f' : pl_H} {f : pl_H} {a0 : Nat} {x1 : Int32} {H : Heap} {locs : List Loc} {ls : Array Slot} (hF : fn_L_check f a0 x1 = some (r, f')) (w : pl_wd D vwCl dA b n f H) (hS : va_S (pl_A b) s.heap H locs) (hl : lv_has ls 2 [(0, .ref a0), (1, .int x1)]) : W p l e rm_L_check s m args below meth c H locs 0 0 (MQ below (pl_qI D dA tt b n f' r) args s 0 0 (pl_A b)) (F0 m 0 ls []) := by
  have hx := C.1
  have hb := C.2.1
  have hown := C.2.2.2.2.1
  have hts := C.2.2.2.2.2.2.1
  unfold fn_L_check at hF
  refine lv_aload_n hx hb dc_L_check_0 rfl (lv_at hl 0 rfl) ?_
  obtain ⟨v1, ev1, hF⟩ := pl_bd hF
  refine pl_getR C w (ci := 7) in_L rfl (by decide) 2 (by decide) mw_262 ev1 dc_L_check_1 ?_
  obtain ⟨u3, eu3, hF⟩ := pl_bd hF
  obtain ⟨q2, eq2, hF⟩ := pl_bd hF
  refine pl_gv (pl_runV (Cn := rn_T) (k := 0) C (tm_T_refresh l D dA tt b n eq2) w hS rfl rfl mw_373 mw_374 mw_375 mw_67 mw_376 (by decide +kernel) ⟨by decide, by decide⟩ eu3 rfl (by decide) rfl hl.1 (Nat.le_of_ble_eq_true rfl) ⟨Nat.zero_le _, Nat.zero_le _⟩ rfl dc_L_check_4) hS (fun H locs w hS => ?_)
  refine lv_aload_n hx hb dc_L_check_7 rfl (lv_at hl 0 rfl) ?_
  refine lv_iload_n hx hb dc_L_check_8 rfl (lv_at hl 1 rfl) ?_
  obtain ⟨v4, ev4, hF⟩ := pl_bd hF
  refine pl_gi (pl_runS (k := 1) C (tm_L_isAccount l D dA tt b n ev4) w hS rfl rfl mw_286 mw_287 mw_64 mw_288 (by decide +kernel) ⟨by decide, by decide⟩ rfl hl.1 (Nat.le_of_ble_eq_true rfl) ⟨Nat.zero_le _, Nat.zero_le _⟩ rfl dc_L_check_9) hS (fun H locs w hS => ?_)
  refine lv_if_eq hx hb dc_L_check_12 (tgt := 33) (by decide) (fun hc => ?_) (fun hc => ?_)
  · have hF := (if_pos hc).symm.trans hF
    refine lv_iconst (v := (-1)) hx hb dc_L_check_33 (by decide) ?_
    exact tl_L_check_34 C hF w hS (lv_sub hl [0] rfl)
  · have hF := (if_neg hc).symm.trans hF
    refine lv_aload_n hx hb dc_L_check_15 rfl (lv_at hl 0 rfl) ?_
    obtain ⟨v5, ev5, hF⟩ := pl_bd hF
    refine pl_getR C w (ci := 7) in_L rfl (by decide) 4 (by decide) mw_264 ev5 dc_L_check_16 ?_
    refine lv_iload_n hx hb dc_L_check_19 rfl (lv_at hl 1 rfl) ?_
    refine lv_aload_n hx hb dc_L_check_20 rfl (lv_at hl 0 rfl) ?_
    obtain ⟨v6, ev6, hF⟩ := pl_bd hF
    refine pl_getR C w (ci := 7) in_L rfl (by decide) 2 (by decide) mw_262 ev6 dc_L_check_21 ?_
    obtain ⟨u8, eu8, hF⟩ := pl_bd hF
    obtain ⟨v7, ev7, hF⟩ := pl_bd hF
    refine pl_gr (pl_runV (Cn := rn_T) (k := 0) C (tm_T_rootRow l D dA tt b n ev7) w hS rfl rfl mw_606 mw_607 mw_608 mw_67 mw_609 (by decide +kernel) ⟨by decide, by decide⟩ eu8 rfl (by decide) rfl hl.1 (Nat.le_of_ble_eq_true rfl) ⟨Nat.zero_le _, Nat.zero_le _⟩ rfl dc_L_check_24) hS (fun H locs w hS => ?_)
    obtain ⟨u10, eu10, hF⟩ := pl_bd hF
    obtain ⟨q9, eq9, hF⟩ := pl_bd hF
    refine pl_gi (pl_runV (Cn := rn_W) (k := 2) C (tm_W_follow l D dA tt b n eq9) w hS rfl rfl mw_610 mw_611 mw_612 mw_71 mw_613 (by decide +kernel) ⟨by decide, by decide⟩ eu10 rfl (by decide) rfl hl.1 (Nat.le_of_ble_eq_true rfl) ⟨Nat.zero_le _, Nat.zero_le _⟩ rfl dc_L_check_27) hS (fun H locs w hS => ?_)
    refine lv_goto hx hb dc_L_check_30 (tgt := 34) (by decide) ?_
    exact tl_L_check_34 C hF w hS (lv_sub hl [0] rfl)
set_option maxHeartbeats 4000000 in
set_option maxRecDepth 100000 in
theorem tm_L_check (l : Launch) (D : va_G) (dA : Nat → ClassId) (tt : Nat → Nat) (b n : Nat) {f : pl_H} {a0 : Nat} {x1 : Int32} {r : Int32} {f' : pl_H} (hF : fn_L_check f a0 x1 = some (r, f')) : Met l my_L_check (Cond.code my_L_check co_L_check 2 (some .int) :: pl_tb) rm_L_check (va_Pc [.ref a0, .int x1] (pl_pre D dA tt b n f)) (pl_qI D dA tt b n f' r) 0 0 (pl_A b) := by
  refine Met.ofW (cc := co_L_check) (maxL := 2) (ret := (some .int)) (by decide) rfl ?_
  intro p e s m args below meth c s₁ B hml hv
  obtain ⟨rfl, w, hK⟩ := hv
  have C : pl_C p s m _ meth c co_L_check 2 rn_L (some .int) "check" D dA tt b := ⟨B.exec, B.bytes, hml, B.returns, findClass_of_methodNamed B.named, B.notSynchronized, fun w hw => atoms_spec (ws := Cond.code my_L_check co_L_check 2 (some .int) :: pl_tb) B.pre w (List.mem_cons_of_mem _ hw), (name_of_methodNamed B.named B.method).1, hK⟩
  have hl := lv_entry ([.ref a0, .int x1]) (n := 2) (Nat.le_of_ble_eq_true rfl)
  rw [lg_entry_eq]
  generalize (lg_sl ([.ref a0, .int x1]) ++ List.replicate (2 - (lg_sl ([.ref a0, .int x1])).length) Slot.unset).toArray = ls at hl ⊢
  have hl : lv_has ls 2 [(0, .ref a0), (1, .int x1)] := hl
  exact tl_L_check C hF w va_S.rf hl
