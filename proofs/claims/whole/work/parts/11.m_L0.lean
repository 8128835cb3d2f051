def rm_L_isAccount : Room := { frames := 0, cells := 0, slots := 0, locals := 0 }
def fn_L_isAccount_15 (f : pl_H) (sx0 : Int32) : Option (Int32) := pl_z sx0
def fn_L_isAccount_14 (f : pl_H) : Option (Int32) := fn_L_isAccount_15 f 0
def fn_L_isAccount (f : pl_H) (x0 : Int32) : Option (Int32) := if x0 < 0 then fn_L_isAccount_14 f else if 65535 < x0 then fn_L_isAccount_14 f else fn_L_isAccount_15 f 1
set_option maxHeartbeats 4000000 in
set_option maxRecDepth 100000 in
theorem tl_L_isAccount_15 {p : Program} {l : Launch} {e : Env} {s : State} {m : MethodId} {args : Array Value} {below : List Frame} {meth : Method} {c : Code} {D : va_G} {dA : Nat → ClassId} {tt : Nat → Nat} {b n : Nat} (C : pl_C p s m args meth c co_L_isAccount 1 rn_L (some .boolean) "isAccount" D dA tt b) {r : Int32} {f : pl_H} {sx0 : Int32} {H : Heap} {locs : List Loc} {ls : Array Slot} (hF : fn_L_isAccount_15 f sx0 = some r) (w : pl_wd D vwCl dA b n f H) (hS : va_S (pl_A b) s.heap H locs) (hl : lv_has ls 1 []) : W p l e rm_L_isAccount s m args below meth c H locs 0 0 (MQ below (pl_qI D dA tt b n f r) args s 0 0 (pl_A b)) (F0 m 15 ls [.int sx0]) := by
  have hx := C.1
  have hb := C.2.1
  have hown := C.2.2.2.2.1
  have hts := C.2.2.2.2.2.2.1
  unfold fn_L_isAccount_15 at hF
  exact pl_retZ C w hS hF dc_L_isAccount_15
set_option maxHeartbeats 4000000 in
set_option maxRecDepth 100000 in
theorem tl_L_isAccount_14 {p : Program} {l : Launch} {e : Env} {s : State} {m : MethodId} {args : Array Value} {below : List Frame} {meth : Method} {c : Code} {D : va_G} {dA : Nat → ClassId} {tt : Nat → Nat} {b n : Nat} (C : pl_C p s m args meth c co_L_isAccount 1 rn_L (some .boolean) "isAccount" D dA tt b) {r : Int32} {f : pl_H} {H : Heap} {locs : List Loc} {ls : Array Slot} (hF : fn_L_isAccount_14 f = some r) (w : pl_wd D vwCl dA b n f H) (hS : va_S (pl_A b) s.heap H locs) (hl : lv_has ls 1 []) : W p l e rm_L_isAccount s m args below meth c H locs 0 0 (MQ below (pl_qI D dA tt b n f r) args s 0 0 (pl_A b)) (F0 m 14 ls []) := by
  have hx := C.1
  have hb := C.2.1
  have hown := C.2.2.2.2.1
  have hts := C.2.2.2.2.2.2.1
  unfold fn_L_isAccount_14 at hF
  refine lv_iconst (v := 0) hx hb dc_L_isAccount_14 (by decide) ?_
  exact tl_L_isAccount_15 C hF w hS (lv_sub hl [] rfl)
set_option maxHeartbeats 4000000 in
set_option maxRecDepth 100000 in
theorem tl_L_isAccount {p : Program} {l : Launch} {e : Env} {s : State} {m : MethodId} {args : Array Value} {below : List Frame} {meth : Method} {c : Code} {D : va_G} {dA : Nat → ClassId} {tt : Nat → Nat} {b n : Nat} (C : pl_C p s m args meth c co_L_isAccount 1 rn_L (some .boolean) "isAccount" D dA tt b) {r : Int32} {f : pl_H} {x0 : Int32} {H : Heap} {locs : List Loc} {ls : Array Slot} (hF : fn_L_isAccount f x0 = some r) (w : pl_wd D vwCl dA b n f H) (hS : va_S (pl_A b) s.heap H locs) (hl : lv_has ls 1 [(0, .int x0)]) : W p l e rm_L_isAccount s m args below meth c H locs 0 0 (MQ below (pl_qI D dA tt b n f r) args s 0 0 (pl_A b)) (F0 m 0 ls []) := by
  have hx := C.1
  have hb := C.2.1
  have hown := C.2.2.2.2.1
  have hts := C.2.2.2.2.2.2.1
  unfold fn_L_isAccount at hF
  refine lv_iload_n hx hb dc_L_isAccount_0 rfl (lv_at hl 0 rfl) ?_
  refine lv_if_lt hx hb dc_L_isAccount_1 (tgt := 14) (by decide) (fun hc => ?_) (fun hc => ?_)
  · have hF := (if_pos hc).symm.trans hF
    exact tl_L_isAccount_14 C hF w hS (lv_sub hl [] rfl)
  · have hF := (if_neg hc).symm.trans hF
    refine lv_iload_n hx hb dc_L_isAccount_4 rfl (lv_at hl 0 rfl) ?_
    refine lv_ldc (v := 65535) hx hb hown (hts _ mw_289) dc_L_isAccount_5 ?_
    refine lv_icmp_gt hx hb dc_L_isAccount_7 (tgt := 14) (by decide) (fun hc => ?_) (fun hc => ?_)
    · have hF := (if_pos hc).symm.trans hF
      exact tl_L_isAccount_14 C hF w hS (lv_sub hl [] rfl)
    · have hF := (if_neg hc).symm.trans hF
      refine lv_iconst (v := 1) hx hb dc_L_isAccount_10 (by decide) ?_
      refine lv_goto hx hb dc_L_isAccount_11 (tgt := 15) (by decide) ?_
      exact tl_L_isAccount_15 C hF w hS (lv_sub hl [] rfl)
set_option maxHeartbeats 4000000 in
set_option maxRecDepth 100000 in
theorem tm_L_isAccount (l : Launch) (D : va_G) (dA : Nat → ClassId) (tt : Nat → Nat) (b n : Nat) {f : pl_H} {x0 : Int32} {r : Int32} (hF : fn_L_isAccount f x0 = some r) : Met l my_L_isAccount (Cond.code my_L_isAccount co_L_isAccount 1 (some .boolean) :: pl_tb) rm_L_isAccount (va_Pc [.int x0] (pl_pre D dA tt b n f)) (pl_qI D dA tt b n f r) 0 0 (pl_A b) := by
  refine Met.ofW (cc := co_L_isAccount) (maxL := 1) (ret := (some .boolean)) (by decide) rfl ?_
  intro p e s m args below meth c s₁ B hml hv
  obtain ⟨rfl, w, hK⟩ := hv
  have C : pl_C p s m _ meth c co_L_isAccount 1 rn_L (some .boolean) "isAccount" D dA tt b := ⟨B.exec, B.bytes, hml, B.returns, findClass_of_methodNamed B.named, B.notSynchronized, fun w hw => atoms_spec (ws := Cond.code my_L_isAccount co_L_isAccount 1 (some .boolean) :: pl_tb) B.pre w (List.mem_cons_of_mem _ hw), (name_of_methodNamed B.named B.method).1, hK⟩
  have hl := lv_entry ([.int x0]) (n := 1) (Nat.le_of_ble_eq_true rfl)
  rw [lg_entry_eq]
  generalize (lg_sl ([.int x0]) ++ List.replicate (1 - (lg_sl ([.int x0])).length) Slot.unset).toArray = ls at hl ⊢
  have hl : lv_has ls 1 [(0, .int x0)] := hl
  exact tl_L_isAccount C hF w va_S.rf hl
def rm_L_isSendable : Room := { frames := 0, cells := 0, slots := 0, locals := 0 }
def fn_L_isSendable_19 (f : pl_H) (sx0 : Int32) : Option (Int32) := pl_z sx0
def fn_L_isSendable_18 (f : pl_H) : Option (Int32) := fn_L_isSendable_19 f 0
def fn_L_isSendable (f : pl_H) (y0 : Int64) : Option (Int32) := if (lg_cmp y0 0) < 0 then fn_L_isSendable_18 f else if 0 < (lg_cmp y0 1000000000000) then fn_L_isSendable_18 f else fn_L_isSendable_19 f 1
set_option maxHeartbeats 4000000 in
set_option maxRecDepth 100000 in
theorem tl_L_isSendable_19 {p : Program} {l : Launch} {e : Env} {s : State} {m : MethodId} {args : Array Value} {below : List Frame} {meth : Method} {c : Code} {D : va_G} {dA : Nat → ClassId} {tt : Nat → Nat} {b n : Nat} (C : pl_C p s m args meth c co_L_isSendable 2 rn_L (some .boolean) "isSendable" D dA tt b) {r : Int32} {f : pl_H} {sx0 : Int32} {H : Heap} {locs : List Loc} {ls : Array Slot} (hF : fn_L_isSendable_19 f sx0 = some r) (w : pl_wd D vwCl dA b n f H) (hS : va_S (pl_A b) s.heap H locs) (hl : lv_has ls 2 []) : W p l e rm_L_isSendable s m args below meth c H locs 0 0 (MQ below (pl_qI D dA tt b n f r) args s 0 0 (pl_A b)) (F0 m 19 ls [.int sx0]) := by
  have hx := C.1
  have hb := C.2.1
  have hown := C.2.2.2.2.1
  have hts := C.2.2.2.2.2.2.1
  unfold fn_L_isSendable_19 at hF
  exact pl_retZ C w hS hF dc_L_isSendable_19
set_option maxHeartbeats 4000000 in
set_option maxRecDepth 100000 in
theorem tl_L_isSendable_18 {p : Program} {l : Launch} {e : Env} {s : State} {m : MethodId} {args : Array Value} {below : List Frame} {meth : Method} {c : Code} {D : va_G} {dA : Nat → ClassId} {tt : Nat → Nat} {b n : Nat} (C : pl_C p s m args meth c co_L_isSendable 2 rn_L (some .boolean) "isSendable" D dA tt b) {r : Int32} {f : pl_H} {H : Heap} {locs : List Loc} {ls : Array Slot} (hF : fn_L_isSendable_18 f = some r) (w : pl_wd D vwCl dA b n f H) (hS : va_S (pl_A b) s.heap H locs) (hl : lv_has ls 2 []) : W p l e rm_L_isSendable s m args below meth c H locs 0 0 (MQ below (pl_qI D dA tt b n f r) args s 0 0 (pl_A b)) (F0 m 18 ls []) := by
  have hx := C.1
  have hb := C.2.1
  have hown := C.2.2.2.2.1
  have hts := C.2.2.2.2.2.2.1
  unfold fn_L_isSendable_18 at hF
  refine lv_iconst (v := 0) hx hb dc_L_isSendable_18 (by decide) ?_
  exact tl_L_isSendable_19 C hF w hS (lv_sub hl [] rfl)
set_option maxHeartbeats 4000000 in
set_option maxRecDepth 100000 in
theorem tl_L_isSendable {p : Program} {l : Launch} {e : Env} {s : State} {m : MethodId} {args : Array Value} {below : List Frame} {meth : Method} {c : Code} {D : va_G} {dA : Nat → ClassId} {tt : Nat → Nat} {b n : Nat} (C : pl_C p s m args meth c co_L_isSendable 2 rn_L (some .boolean) "isSendable" D dA tt b) {r : Int32} {f : pl_H} {y0 : Int64} {H : Heap} {locs : List Loc} {ls : Array Slot} (hF : fn_L_isSendable f y0 = some r) (w : pl_wd D vwCl dA b n f H) (hS : va_S (pl_A b) s.heap H locs) (hl : lv_has ls 2 [(0, .long y0)]) : W p l e rm_L_isSendable s m args below meth c H locs 0 0 (MQ below (pl_qI D dA tt b n f r) args s 0 0 (pl_A b)) (F0 m 0 ls []) := by
  have hx := C.1
  have hb := C.2.1
  have hown := C.2.2.2.2.1
  have hts := C.2.2.2.2.2.2.1
  unfold fn_L_isSendable at hF
  refine lv_lload_n hx hb dc_L_isSendable_0 rfl (lv_at hl 0 rfl) ?_
  refine lv_lconst (v := 0) hx hb dc_L_isSendable_1 (by decide) ?_
  refine W.lcmp hx hb dc_L_isSendable_2 ?_
  refine lv_if_lt hx hb dc_L_isSendable_3 (tgt := 18) (by decide) (fun hc => ?_) (fun hc => ?_)
  · have hF := (if_pos hc).symm.trans hF
    exact tl_L_isSendable_18 C hF w hS (lv_sub hl [] rfl)
  · have hF := (if_neg hc).symm.trans hF
    refine lv_lload_n hx hb dc_L_isSendable_6 rfl (lv_at hl 0 rfl) ?_
    refine lv_ldc2 (v := 1000000000000) hx hb hown (hts _ mw_294) dc_L_isSendable_7 ?_
    refine W.lcmp hx hb dc_L_isSendable_10 ?_
    refine lv_if_gt hx hb dc_L_isSendable_11 (tgt := 18) (by decide) (fun hc => ?_) (fun hc => ?_)
    · have hF := (if_pos hc).symm.trans hF
      exact tl_L_isSendable_18 C hF w hS (lv_sub hl [] rfl)
    · have hF := (if_neg hc).symm.trans hF
      refine lv_iconst (v := 1) hx hb dc_L_isSendable_14 (by decide) ?_
      refine lv_goto hx hb dc_L_isSendable_15 (tgt := 19) (by decide) ?_
      exact tl_L_isSendable_19 C hF w hS (lv_sub hl [] rfl)
set_option maxHeartbeats 4000000 in
set_option maxRecDepth 100000 in
theorem tm_L_isSendable (l : Launch) (D : va_G) (dA : Nat → ClassId) (tt : Nat → Nat) (b n : Nat) {f : pl_H} {y0 : Int64} {r : Int32} (hF : fn_L_isSendable f y0 = some r) : Met l my_L_isSendable (Cond.code my_L_isSendable co_L_isSendable 2 (some .boolean) :: pl_tb) rm_L_isSendable (va_Pc [.long y0] (pl_pre D dA tt b n f)) (pl_qI D dA tt b n f r) 0 0 (pl_A b) := by
  refine Met.ofW (cc := co_L_isSendable) (maxL := 2) (ret := (some .boolean)) (by decide) rfl ?_
  intro p e s m args below meth c s₁ B hml hv
  obtain ⟨rfl, w, hK⟩ := hv
  have C : pl_C p s m _ meth c co_L_isSendable 2 rn_L (some .boolean) "isSendable" D dA tt b := ⟨B.exec, B.bytes, hml, B.returns, findClass_of_methodNamed B.named, B.notSynchronized, fun w hw => atoms_spec (ws := Cond.code my_L_isSendable co_L_isSendable 2 (some .boolean) :: pl_tb) B.pre w (List.mem_cons_of_mem _ hw), (name_of_methodNamed B.named B.method).1, hK⟩
  have hl := lv_entry ([.long y0]) (n := 2) (Nat.le_of_ble_eq_true rfl)
  rw [lg_entry_eq]
  generalize (lg_sl ([.long y0]) ++ List.replicate (2 - (lg_sl ([.long y0])).length) Slot.unset).toArray = ls at hl ⊢
  have hl : lv_has ls 2 [(0, .long y0)] := hl
  exact tl_L_isSendable C hF w va_S.rf hl
def rm_L_digit : Room := { frames := 0, cells := 0, slots := 0, locals := 0 }
def fn_L_digit (f : pl_H) (x0 : Int32) (x1 : Int32) : Option (Int32) := some ((x0 >>> ((4 * (3 - x1)) &&& 31)) &&& 15)
set_option maxHeartbeats 4000000 in
set_option maxRecDepth 100000 in
theorem tl_L_digit {p : Program} {l : Launch} {e : Env} {s : State} {m : MethodId} {args : Array Value} {below : List Frame} {meth : Method} {c : Code} {D : va_G} {dA : Nat → ClassId} {tt : Nat → Nat} {b n : Nat} (C : pl_C p s m args meth c co_L_digit 2 rn_L (some .int) "digit" D dA tt b) {r : Int32} {f : pl_H} {x0 : Int32} {x1 : Int32} {H : Heap} {locs : List Loc} {ls : Array Slot} (hF : fn_L_digit f x0 x1 = some r) (w : pl_wd D vwCl dA b n f H) (hS : va_S (pl_A b) s.heap H locs) (hl : lv_has ls 2 [(0, .int x0), (1, .int x1)]) : W p l e rm_L_digit s m args below meth c H locs 0 0 (MQ below (pl_qI D dA tt b n f r) args s 0 0 (pl_A b)) (F0 m 0 ls []) := by
  have hx := C.1
  have hb := C.2.1
  have hown := C.2.2.2.2.1
  have hts := C.2.2.2.2.2.2.1
  unfold fn_L_digit at hF
  refine lv_iload_n hx hb dc_L_digit_0 rfl (lv_at hl 0 rfl) ?_
  refine lv_iconst (v := 4) hx hb dc_L_digit_1 (by decide) ?_
  refine lv_iconst (v := 3) hx hb dc_L_digit_2 (by decide) ?_
  refine lv_iload_n hx hb dc_L_digit_3 rfl (lv_at hl 1 rfl) ?_
  refine lv_isub hx hb dc_L_digit_4 ?_
  refine lv_imul hx hb dc_L_digit_5 ?_
  refine lv_ishr hx hb dc_L_digit_6 ?_
  refine lv_bipush (v := 15) hx hb dc_L_digit_7 (by decide) ?_
  refine lv_iand hx hb dc_L_digit_9 ?_
  exact pl_retI C w hS hF dc_L_digit_10
set_option maxHeartbeats 4000000 in
set_option maxRecDepth 100000 in
theorem tm_L_digit (l : Launch) (D : va_G) (dA : Nat → ClassId) (tt : Nat → Nat) (b n : Nat) {f : pl_H} {x0 : Int32} {x1 : Int32} {r : Int32} (hF : fn_L_digit f x0 x1 = some r) : Met l my_L_digit (Cond.code my_L_digit co_L_digit 2 (some .int) :: pl_tb) rm_L_digit (va_Pc [.int x0, .int x1] (pl_pre D dA tt b n f)) (pl_qI D dA tt b n f r) 0 0 (pl_A b) := by
  refine Met.ofW (cc := co_L_digit) (maxL := 2) (ret := (some .int)) (by decide) rfl ?_
  intro p e s m args below meth c s₁ B hml hv
  obtain ⟨rfl, w, hK⟩ := hv
  have C : pl_C p s m _ meth c co_L_digit 2 rn_L (some .int) "digit" D dA tt b := ⟨B.exec, B.bytes, hml, B.returns, findClass_of_methodNamed B.named, B.notSynchronized, fun w hw => atoms_spec (ws := Cond.code my_L_digit co_L_digit 2 (some .int) :: pl_tb) B.pre w (List.mem_cons_of_mem _ hw), (name_of_methodNamed B.named B.method).1, hK⟩
  have hl := lv_entry ([.int x0, .int x1]) (n := 2) (Nat.le_of_ble_eq_true rfl)
  rw [lg_entry_eq]
  generalize (lg_sl ([.int x0, .int x1]) ++ List.replicate (2 - (lg_sl ([.int x0, .int x1])).length) Slot.unset).toArray = ls at hl ⊢
  have hl : lv_has ls 2 [(0, .int x0), (1, .int x1)] := hl
  exact tl_L_digit C hF w va_S.rf hl
