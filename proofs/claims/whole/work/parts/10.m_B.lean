def rm_B_find : Room := { frames := 0, cells := 0, slots := 0, locals := 0 }
def fn_B_find_2 : Nat → pl_H → Nat → Int32 → Int32 → Option (Int32)
  | 0 => fun _ _ _ _ => none
  | k + 1 => fun f a0 x1 x2 => (pl_gI f a0 0 3).bind fun v1 => if v1 ≤ x2 then some ((-1)) else (pl_gR f a0 0 0).bind fun v2 => (pl_aI f v2 x2).bind fun v3 => if v3 = x1 then some x2 else fn_B_find_2 k f a0 x1 (x2 + 1)
def fn_B_find (f : pl_H) (a0 : Nat) (x1 : Int32) : Option (Int32) := fn_B_find_2 pl_N f a0 x1 0
set_option maxHeartbeats 4000000 in
set_option maxRecDepth 100000 in
theorem tl_B_find_2 {p : Program} {l : Launch} {e : Env} {s : State} {m : MethodId} {args : Array Value} {below : List Frame} {meth : Method} {c : Code} {D : va_G} {dA : Nat → ClassId} {tt : Nat → Nat} {b n : Nat} (C : pl_C p s m args meth c co_B_find 3 rn_B (some .int) "find" D dA tt b) {r : Int32} {f : pl_H} : ∀ k : Nat, ∀ (a0 : Nat) (x1 : Int32) (x2 : Int32) (H : Heap) (locs : List Loc) (ls : Array Slot), fn_B_find_2 k f a0 x1 x2 = some r → pl_wd D vwCl dA b n f H → va_S (pl_A b) s.heap H locs → lv_has ls 3 [(0, .ref a0), (1, .int x1), (2, .int x2)] → W p l e rm_B_find s m args below meth c H locs 0 0 (MQ below (pl_qI D dA tt b n f r) args s 0 0 (pl_A b)) (F0 m 2 ls []) := by
  have hx := C.1
  have hb := C.2.1
  have hown := C.2.2.2.2.1
  have hts := C.2.2.2.2.2.2.1
  intro k
  induction k with
  | zero =>
    intro a0 x1 x2 H locs ls hF
    cases hF
  | succ k ih =>
    intro a0 x1 x2 H locs ls hF w hS hl
    unfold fn_B_find_2 at hF
    refine lv_iload_n hx hb dc_B_find_2 rfl (lv_at hl 2 rfl) ?_
    refine lv_aload_n hx hb dc_B_find_3 rfl (lv_at hl 0 rfl) ?_
    obtain ⟨v1, ev1, hF⟩ := pl_bd hF
    refine pl_getI C w (ci := 0) in_B rfl (by decide) 3 (by decide) mw_92 ev1 dc_B_find_4 ?_
    refine lv_icmp_ge hx hb dc_B_find_7 (tgt := 28) (by decide) (fun hc => ?_) (fun hc => ?_)
    · have hF := (if_pos hc).symm.trans hF
      refine lv_iconst (v := (-1)) hx hb dc_B_find_28 (by decide) ?_
      exact pl_retI C w hS hF dc_B_find_29
    · have hF := (if_neg hc).symm.trans hF
      refine lv_aload_n hx hb dc_B_find_10 rfl (lv_at hl 0 rfl) ?_
      obtain ⟨v2, ev2, hF⟩ := pl_bd hF
      refine pl_getR C w (ci := 0) in_B rfl (by decide) 0 (by decide) mw_89 ev2 dc_B_find_11 ?_
      refine lv_iload_n hx hb dc_B_find_14 rfl (lv_at hl 2 rfl) ?_
      obtain ⟨v3, ev3, hF⟩ := pl_bd hF
      refine pl_aldI C w ev3 dc_B_find_15 ?_
      refine lv_iload_n hx hb dc_B_find_16 rfl (lv_at hl 1 rfl) ?_
      refine lv_icmp_ne hx hb dc_B_find_17 (tgt := 22) (by decide) (fun hc => ?_) (fun hc => ?_)
      · have hF := (if_neg hc).symm.trans hF
        refine lv_iinc (k := 2) (v := x2 + 1) (lv' := [(2, .int (x2 + 1)), (0, .ref a0), (1, .int x1)]) hx hb dc_B_find_22 hl rfl rfl (by decide) rfl (fun ls hl => ?_)
        refine lv_goto hx hb dc_B_find_25 (tgt := 2) (by decide) ?_
        exact ih a0 x1 (x2 + 1) _ _ _ hF w hS (lv_sub hl [1, 2, 0] rfl)
      · have hF := (if_pos hc).symm.trans hF
        refine lv_iload_n hx hb dc_B_find_20 rfl (lv_at hl 2 rfl) ?_
        exact pl_retI C w hS hF dc_B_find_21
set_option maxHeartbeats 4000000 in
set_option maxRecDepth 100000 in
theorem tl_B_find {p : Program} {l : Launch} {e : Env} {s : State} {m : MethodId} {args : Array Value} {below : List Frame} {meth : Method} {c : Code} {D : va_G} {dA : Nat → ClassId} {tt : Nat → Nat} {b n : Nat} (C : pl_C p s m args meth c co_B_find 3 rn_B (some .int) "find" D dA tt b) {r : Int32} {f : pl_H} {a0 : Nat} {x1 : Int32} {H : Heap} {locs : List Loc} {ls : Array Slot} (hF : fn_B_find f a0 x1 = some r) (w : pl_wd D vwCl dA b n f H) (hS : va_S (pl_A b) s.heap H locs) (hl : lv_has ls 3 [(0, .ref a0), (1, .int x1)]) : W p l e rm_B_find s m args below meth c H locs 0 0 (MQ below (pl_qI D dA tt b n f r) args s 0 0 (pl_A b)) (F0 m 0 ls []) := by
  have hx := C.1
  have hb := C.2.1
  have hown := C.2.2.2.2.1
  have hts := C.2.2.2.2.2.2.1
  unfold fn_B_find at hF
  refine lv_iconst (v := 0) hx hb dc_B_find_0 (by decide) ?_
  refine lv_istore_n (lv' := [(2, .int 0), (0, .ref a0), (1, .int x1)]) hx hb dc_B_find_1 rfl hl (by decide) rfl (fun ls hl => ?_)
  exact tl_B_find_2 C pl_N a0 x1 0 _ _ _ hF w hS (lv_sub hl [1, 2, 0] rfl)
set_option maxHeartbeats 4000000 in
set_option maxRecDepth 100000 in
theorem tm_B_find (l : Launch) (D : va_G) (dA : Nat → ClassId) (tt : Nat → Nat) (b n : Nat) {f : pl_H} {a0 : Nat} {x1 : Int32} {r : Int32} (hF : fn_B_find f a0 x1 = some r) : Met l my_B_find (Cond.code my_B_find co_B_find 3 (some .int) :: pl_tb) rm_B_find (va_Pc [.ref a0, .int x1] (pl_pre D dA tt b n f)) (pl_qI D dA tt b n f r) 0 0 (pl_A b) := by
  refine Met.ofW (cc := co_B_find) (maxL := 3) (ret := (some .int)) (by decide) rfl ?_
  intro p e s m args below meth c s₁ B hml hv
  obtain ⟨rfl, w, hK⟩ := hv
  have C : pl_C p s m _ meth c co_B_find 3 rn_B (some .int) "find" D dA tt b := ⟨B.exec, B.bytes, hml, B.returns, findClass_of_methodNamed B.named, B.notSynchronized, fun w hw => atoms_spec (ws := Cond.code my_B_find co_B_find 3 (some .int) :: pl_tb) B.pre w (List.mem_cons_of_mem _ hw), (name_of_methodNamed B.named B.method).1, hK⟩
  have hl := lv_entry ([.ref a0, .int x1]) (n := 3) (Nat.le_of_ble_eq_true rfl)
  rw [lg_entry_eq]
  generalize (lg_sl ([.ref a0, .int x1]) ++ List.replicate (3 - (lg_sl ([.ref a0, .int x1])).length) Slot.unset).toArray = ls at hl ⊢
  have hl : lv_has ls 3 [(0, .ref a0), (1, .int x1)] := hl
  exact tl_B_find C hF w va_S.rf hl
def rm_B_has : Room := { frames := 1, cells := 0, slots := 0, locals := 22 }
def fn_B_has_13 (f : pl_H) (sx0 : Int32) : Option (Int32) := pl_z sx0
def fn_B_has (f : pl_H) (a0 : Nat) (x1 : Int32) : Option (Int32) := (pl_is f a0 0).bind fun u2 => (fn_B_find f a0 x1).bind fun v1 => if v1 < 0 then fn_B_has_13 f 0 else fn_B_has_13 f 1
set_option maxHeartbeats 4000000 in
set_option maxRecDepth 100000 in
theorem tl_B_has_13 {p : Program} {l : Launch} {e : Env} {s : State} {m : MethodId} {args : Array Value} {below : List Frame} {meth : Method} {c : Code} {D : va_G} {dA : Nat → ClassId} {tt : Nat → Nat} {b n : Nat} (C : pl_C p s m args meth c co_B_has 2 rn_B (some .boolean) "has" D dA tt b) {r : Int32} {f : pl_H} {sx0 : Int32} {H : Heap} {locs : List Loc} {ls : Array Slot} (hF : fn_B_has_13 f sx0 = some r) (w : pl_wd D vwCl dA b n f H) (hS : va_S (pl_A b) s.heap H locs) (hl : lv_has ls 2 []) : W p l e rm_B_has s m args below meth c H locs 0 0 (MQ below (pl_qI D dA tt b n f r) args s 0 0 (pl_A b)) (F0 m 13 ls [.int sx0]) := by
  have hx := C.1
  have hb := C.2.1
  have hown := C.2.2.2.2.1
  have hts := C.2.2.2.2.2.2.1
  unfold fn_B_has_13 at hF
  exact pl_retZ C w hS hF dc_B_has_13
set_option maxHeartbeats 4000000 in
set_option maxRecDepth 100000 in
theorem tl_B_has {p : Program} {l : Launch} {e : Env} {s : State} {m : MethodId} {args : Array Value} {below : List Frame} {meth : Method} {c : Code} {D : va_G} {dA : Nat → ClassId} {tt : Nat → Nat} {b n : Nat} (C : pl_C p s m args meth c co_B_has 2 rn_B (some .boolean) "has" D dA tt b) {r : Int32} {f : pl_H} {a0 : Nat} {x1 : Int32} {H : Heap} {locs : List Loc} {ls : Array Slot} (hF : fn_B_has f a0 x1 = some r) (w : pl_wd D vwCl dA b n f H) (hS : va_S (pl_A b) s.heap H locs) (hl : lv_has ls 2 [(0, .ref a0), (1, .int x1)]) : W p l e rm_B_has s m args below meth c H locs 0 0 (MQ below (pl_qI D dA tt b n f r) args s 0 0 (pl_A b)) (F0 m 0 ls []) := by
  have hx := C.1
  have hb := C.2.1
  have hown := C.2.2.2.2.1
  have hts := C.2.2.2.2.2.2.1
  unfold fn_B_has at hF
  refine lv_aload_n hx hb dc_B_has_0 rfl (lv_at hl 0 rfl) ?_
  refine lv_iload_n hx hb dc_B_has_1 rfl (lv_at hl 1 rfl) ?_
  obtain ⟨u2, eu2, hF⟩ := pl_bd hF
  obtain ⟨v1, ev1, hF⟩ := pl_bd hF
  refine pl_gi (pl_runV (Cn := rn_B) (k := 1) C (tm_B_find l D dA tt b n ev1) w hS rfl rfl mw_299 mw_301 mw_0 mw_65 mw_302 (by decide +kernel) ⟨by decide, by decide⟩ eu2 rfl (by decide) rfl hl.1 (Nat.le_of_ble_eq_true rfl) ⟨Nat.zero_le _, Nat.zero_le _⟩ rfl dc_B_has_2) hS (fun H locs w hS => ?_)
  refine lv_if_lt hx hb dc_B_has_5 (tgt := 12) (by decide) (fun hc => ?_) (fun hc => ?_)
  · have hF := (if_pos hc).symm.trans hF
    refine lv_iconst (v := 0) hx hb dc_B_has_12 (by decide) ?_
    exact tl_B_has_13 C hF w hS (lv_sub hl [] rfl)
  · have hF := (if_neg hc).symm.trans hF
    refine lv_iconst (v := 1) hx hb dc_B_has_8 (by decide) ?_
    refine lv_goto hx hb dc_B_has_9 (tgt := 13) (by decide) ?_
    exact tl_B_has_13 C hF w hS (lv_sub hl [] rfl)
set_option maxHeartbeats 4000000 in
set_option maxRecDepth 100000 in
theorem tm_B_has (l : Launch) (D : va_G) (dA : Nat → ClassId) (tt : Nat → Nat) (b n : Nat) {f : pl_H} {a0 : Nat} {x1 : Int32} {r : Int32} (hF : fn_B_has f a0 x1 = some r) : Met l my_B_has (Cond.code my_B_has co_B_has 2 (some .boolean) :: pl_tb) rm_B_has (va_Pc [.ref a0, .int x1] (pl_pre D dA tt b n f)) (pl_qI D dA tt b n f r) 0 0 (pl_A b) := by
  refine Met.ofW (cc := co_B_has) (maxL := 2) (ret := (some .boolean)) (by decide) rfl ?_
  intro p e s m args below meth c s₁ B hml hv
  obtain ⟨rfl, w, hK⟩ := hv
  have C : pl_C p s m _ meth c co_B_has 2 rn_B (some .boolean) "has" D dA tt b := ⟨B.exec, B.bytes, hml, B.returns, findClass_of_methodNamed B.named, B.notSynchronized, fun w hw => atoms_spec (ws := Cond.code my_B_has co_B_has 2 (some .boolean) :: pl_tb) B.pre w (List.mem_cons_of_mem _ hw), (name_of_methodNamed B.named B.method).1, hK⟩
  have hl := lv_entry ([.ref a0, .int x1]) (n := 2) (Nat.le_of_ble_eq_true rfl)
  rw [lg_entry_eq]
  generalize (lg_sl ([.ref a0, .int x1]) ++ List.replicate (2 - (lg_sl ([.ref a0, .int x1])).length) Slot.unset).toArray = ls at hl ⊢
  have hl : lv_has ls 2 [(0, .ref a0), (1, .int x1)] := hl
  exact tl_B_has C hF w va_S.rf hl
def rm_B_count : Room := { frames := 0, cells := 0, slots := 0, locals := 0 }
def fn_B_count (f : pl_H) (a0 : Nat) : Option (Int32) := (pl_gI f a0 0 3).bind fun v1 => some v1
set_option maxHeartbeats 4000000 in
set_option maxRecDepth 100000 in
theorem tl_B_count {p : Program} {l : Launch} {e : Env} {s : State} {m : MethodId} {args : Array Value} {below : List Frame} {meth : Method} {c : Code} {D : va_G} {dA : Nat → ClassId} {tt : Nat → Nat} {b n : Nat} (C : pl_C p s m args meth c co_B_count 1 rn_B (some .int) "count" D dA tt b) {r : Int32} {f : pl_H} {a0 : Nat} {H : Heap} {locs : List Loc} {ls : Array Slot} (hF : fn_B_count f a0 = some r) (w : pl_wd D vwCl dA b n f H) (hS : va_S (pl_A b) s.heap H locs) (hl : lv_has ls 1 [(0, .ref a0)]) : W p l e rm_B_count s m args below meth c H locs 0 0 (MQ below (pl_qI D dA tt b n f r) args s 0 0 (pl_A b)) (F0 m 0 ls []) := by
  have hx := C.1
  have hb := C.2.1
  have hown := C.2.2.2.2.1
  have hts := C.2.2.2.2.2.2.1
  unfold fn_B_count at hF
  refine lv_aload_n hx hb dc_B_count_0 rfl (lv_at hl 0 rfl) ?_
  obtain ⟨v1, ev1, hF⟩ := pl_bd hF
  refine pl_getI C w (ci := 0) in_B rfl (by decide) 3 (by decide) mw_92 ev1 dc_B_count_1 ?_
  exact pl_retI C w hS hF dc_B_count_4
set_option maxHeartbeats 4000000 in
set_option maxRecDepth 100000 in
theorem tm_B_count (l : Launch) (D : va_G) (dA : Nat → ClassId) (tt : Nat → Nat) (b n : Nat) {f : pl_H} {a0 : Nat} {r : Int32} (hF : fn_B_count f a0 = some r) : Met l my_B_count (Cond.code my_B_count co_B_count 1 (some .int) :: pl_tb) rm_B_count (va_Pc [.ref a0] (pl_pre D dA tt b n f)) (pl_qI D dA tt b n f r) 0 0 (pl_A b) := by
  refine Met.ofW (cc := co_B_count) (maxL := 1) (ret := (some .int)) (by decide) rfl ?_
  intro p e s m args below meth c s₁ B hml hv
  obtain ⟨rfl, w, hK⟩ := hv
  have C : pl_C p s m _ meth c co_B_count 1 rn_B (some .int) "count" D dA tt b := ⟨B.exec, B.bytes, hml, B.returns, findClass_of_methodNamed B.named, B.notSynchronized, fun w hw => atoms_spec (ws := Cond.code my_B_count co_B_count 1 (some .int) :: pl_tb) B.pre w (List.mem_cons_of_mem _ hw), (name_of_methodNamed B.named B.method).1, hK⟩
  have hl := lv_entry ([.ref a0]) (n := 1) (Nat.le_of_ble_eq_true rfl)
  rw [lg_entry_eq]
  generalize (lg_sl ([.ref a0]) ++ List.replicate (1 - (lg_sl ([.ref a0])).length) Slot.unset).toArray = ls at hl ⊢
  have hl : lv_has ls 1 [(0, .ref a0)] := hl
  exact tl_B_count C hF w va_S.rf hl
def rm_B_nonceOf : Room := { frames := 1, cells := 0, slots := 0, locals := 22 }
def fn_B_nonceOf_20 (f : pl_H) (sx0 : Int32) : Option (Int32) := some sx0
def fn_B_nonceOf (f : pl_H) (a0 : Nat) (x1 : Int32) : Option (Int32) := (pl_is f a0 0).bind fun u2 => (fn_B_find f a0 x1).bind fun v1 => if 0 ≤ v1 then (pl_gR f a0 0 1).bind fun v3 => (pl_aI f v3 v1).bind fun v4 => fn_B_nonceOf_20 f v4 else fn_B_nonceOf_20 f 0
set_option maxHeartbeats 4000000 in
set_option maxRecDepth 100000 in
theorem tl_B_nonceOf_20 {p : Program} {l : Launch} {e : Env} {s : State} {m : MethodId} {args : Array Value} {below : List Frame} {meth : Method} {c : Code} {D : va_G} {dA : Nat → ClassId} {tt : Nat → Nat} {b n : Nat} (C : pl_C p s m args meth c co_B_nonceOf 3 rn_B (some .int) "nonceOf" D dA tt b) {r : Int32} {f : pl_H} {sx0 : Int32} {H : Heap} {locs : List Loc} {ls : Array Slot} (hF : fn_B_nonceOf_20 f sx0 = some r) (w : pl_wd D vwCl dA b n f H) (hS : va_S (pl_A b) s.heap H locs) (hl : lv_has ls 3 []) : W p l e rm_B_nonceOf s m args below meth c H locs 0 0 (MQ below (pl_qI D dA tt b n f r) args s 0 0 (pl_A b)) (F0 m 20 ls [.int sx0]) := by
  have hx := C.1
  have hb := C.2.1
  have hown := C.2.2.2.2.1
  have hts := C.2.2.2.2.2.2.1
  unfold fn_B_nonceOf_20 at hF
  exact pl_retI C w hS hF dc_B_nonceOf_20
set_option maxHeartbeats 4000000 in
set_option maxRecDepth 100000 in
theorem tl_B_nonceOf {p : Program} {l : Launch} {e : Env} {s : State} {m : MethodId} {args : Array Value} {below : List Frame} {meth : Method} {c : Code} {D : va_G} {dA : Nat → ClassId} {tt : Nat → Nat} {b n : Nat} (C : pl_C p s m args meth c co_B_nonceOf 3 rn_B (some .int) "nonceOf" D dA tt b) {r : Int32} {f : pl_H} {a0 : Nat} {x1 : Int32} {H : Heap} {locs : List Loc} {ls : Array Slot} (hF : fn_B_nonceOf f a0 x1 = some r) (w : pl_wd D vwCl dA b n f H) (hS : va_S (pl_A b) s.heap H locs) (hl : lv_has ls 3 [(0, .ref a0), (1, .int x1)]) : W p l e rm_B_nonceOf s m args below meth c H locs 0 0 (MQ below (pl_qI D dA tt b n f r) args s 0 0 (pl_A b)) (F0 m 0 ls []) := by
  have hx := C.1
  have hb := C.2.1
  have hown := C.2.2.2.2.1
  have hts := C.2.2.2.2.2.2.1
  unfold fn_B_nonceOf at hF
  refine lv_aload_n hx hb dc_B_nonceOf_0 rfl (lv_at hl 0 rfl) ?_
  refine lv_iload_n hx hb dc_B_nonceOf_1 rfl (lv_at hl 1 rfl) ?_
  obtain ⟨u2, eu2, hF⟩ := pl_bd hF
  obtain ⟨v1, ev1, hF⟩ := pl_bd hF
  refine pl_gi (pl_runV (Cn := rn_B) (k := 1) C (tm_B_find l D dA tt b n ev1) w hS rfl rfl mw_299 mw_301 mw_0 mw_65 mw_302 (by decide +kernel) ⟨by decide, by decide⟩ eu2 rfl (by decide) rfl hl.1 (Nat.le_of_ble_eq_true rfl) ⟨Nat.zero_le _, Nat.zero_le _⟩ rfl dc_B_nonceOf_2) hS (fun H locs w hS => ?_)
  refine lv_istore_n (lv' := [(2, .int v1), (0, .ref a0), (1, .int x1)]) hx hb dc_B_nonceOf_5 rfl hl (by decide) rfl (fun ls hl => ?_)
  refine lv_iload_n hx hb dc_B_nonceOf_6 rfl (lv_at hl 0 rfl) ?_
  refine lv_if_ge hx hb dc_B_nonceOf_7 (tgt := 14) (by decide) (fun hc => ?_) (fun hc => ?_)
  · have hF := (if_pos hc).symm.trans hF
    refine lv_aload_n hx hb dc_B_nonceOf_14 rfl (lv_at hl 1 rfl) ?_
    obtain ⟨v3, ev3, hF⟩ := pl_bd hF
    refine pl_getR C w (ci := 0) in_B rfl (by decide) 1 (by decide) mw_90 ev3 dc_B_nonceOf_15 ?_
    refine lv_iload_n hx hb dc_B_nonceOf_18 rfl (lv_at hl 0 rfl) ?_
    obtain ⟨v4, ev4, hF⟩ := pl_bd hF
    refine pl_aldI C w ev4 dc_B_nonceOf_19 ?_
    exact tl_B_nonceOf_20 C hF w hS (lv_sub hl [] rfl)
  · have hF := (if_neg hc).symm.trans hF
    refine lv_iconst (v := 0) hx hb dc_B_nonceOf_10 (by decide) ?_
    refine lv_goto hx hb dc_B_nonceOf_11 (tgt := 20) (by decide) ?_
    exact tl_B_nonceOf_20 C hF w hS (lv_sub hl [] rfl)
set_option maxHeartbeats 4000000 in
set_option maxRecDepth 100000 in
theorem tm_B_nonceOf (l : Launch) (D : va_G) (dA : Nat → ClassId) (tt : Nat → Nat) (b n : Nat) {f : pl_H} {a0 : Nat} {x1 : Int32} {r : Int32} (hF : fn_B_nonceOf f a0 x1 = some r) : Met l my_B_nonceOf (Cond.code my_B_nonceOf co_B_nonceOf 3 (some .int) :: pl_tb) rm_B_nonceOf (va_Pc [.ref a0, .int x1] (pl_pre D dA tt b n f)) (pl_qI D dA tt b n f r) 0 0 (pl_A b) := by
  refine Met.ofW (cc := co_B_nonceOf) (maxL := 3) (ret := (some .int)) (by decide) rfl ?_
  intro p e s m args below meth c s₁ B hml hv
  obtain ⟨rfl, w, hK⟩ := hv
  have C : pl_C p s m _ meth c co_B_nonceOf 3 rn_B (some .int) "nonceOf" D dA tt b := ⟨B.exec, B.bytes, hml, B.returns, findClass_of_methodNamed B.named, B.notSynchronized, fun w hw => atoms_spec (ws := Cond.code my_B_nonceOf co_B_nonceOf 3 (some .int) :: pl_tb) B.pre w (List.mem_cons_of_mem _ hw), (name_of_methodNamed B.named B.method).1, hK⟩
  have hl := lv_entry ([.ref a0, .int x1]) (n := 3) (Nat.le_of_ble_eq_true rfl)
  rw [lg_entry_eq]
  generalize (lg_sl ([.ref a0, .int x1]) ++ List.replicate (3 - (lg_sl ([.ref a0, .int x1])).length) Slot.unset).toArray = ls at hl ⊢
  have hl : lv_has ls 3 [(0, .ref a0), (1, .int x1)] := hl
  exact tl_B_nonceOf C hF w va_S.rf hl
def rm_B_balanceOf : Room := { frames := 1, cells := 0, slots := 0, locals := 22 }
def fn_B_balanceOf_20 (f : pl_H) (sy0 : Int64) : Option (Int64) := some sy0
def fn_B_balanceOf (f : pl_H) (a0 : Nat) (x1 : Int32) : Option (Int64) := (pl_is f a0 0).bind fun u2 => (fn_B_find f a0 x1).bind fun v1 => if 0 ≤ v1 then (pl_gR f a0 0 2).bind fun v3 => (pl_aL f v3 v1).bind fun v4 => fn_B_balanceOf_20 f v4 else fn_B_balanceOf_20 f 0
set_option maxHeartbeats 4000000 in
set_option maxRecDepth 100000 in
theorem tl_B_balanceOf_20 {p : Program} {l : Launch} {e : Env} {s : State} {m : MethodId} {args : Array Value} {below : List Frame} {meth : Method} {c : Code} {D : va_G} {dA : Nat → ClassId} {tt : Nat → Nat} {b n : Nat} (C : pl_C p s m args meth c co_B_balanceOf 3 rn_B (some .long) "balanceOf" D dA tt b) {r : Int64} {f : pl_H} {sy0 : Int64} {H : Heap} {locs : List Loc} {ls : Array Slot} (hF : fn_B_balanceOf_20 f sy0 = some r) (w : pl_wd D vwCl dA b n f H) (hS : va_S (pl_A b) s.heap H locs) (hl : lv_has ls 3 []) : W p l e rm_B_balanceOf s m args below meth c H locs 0 0 (MQ below (pl_qL D dA tt b n f r) args s 0 0 (pl_A b)) (F0 m 20 ls [.long sy0]) := by
  have hx := C.1
  have hb := C.2.1
  have hown := C.2.2.2.2.1
  have hts := C.2.2.2.2.2.2.1
  unfold fn_B_balanceOf_20 at hF
  exact pl_retL C w hS hF dc_B_balanceOf_20
set_option maxHeartbeats 4000000 in
set_option maxRecDepth 100000 in
theorem tl_B_balanceOf {p : Program} {l : Launch} {e : Env} {s : State} {m : MethodId} {args : Array Value} {below : List Frame} {meth : Method} {c : Code} {D : va_G} {dA : Nat → ClassId} {tt : Nat → Nat} {b n : Nat} (C : pl_C p s m args meth c co_B_balanceOf 3 rn_B (some .long) "balanceOf" D dA tt b) {r : Int64} {f : pl_H} {a0 : Nat} {x1 : Int32} {H : Heap} {locs : List Loc} {ls : Array Slot} (hF : fn_B_balanceOf f a0 x1 = some r) (w : pl_wd D vwCl dA b n f H) (hS : va_S (pl_A b) s.heap H locs) (hl : lv_has ls 3 [(0, .ref a0), (1, .int x1)]) : W p l e rm_B_balanceOf s m args below meth c H locs 0 0 (MQ below (pl_qL D dA tt b n f r) args s 0 0 (pl_A b)) (F0 m 0 ls []) := by
  have hx := C.1
  have hb := C.2.1
  have hown := C.2.2.2.2.1
  have hts := C.2.2.2.2.2.2.1
  unfold fn_B_balanceOf at hF
  refine lv_aload_n hx hb dc_B_balanceOf_0 rfl (lv_at hl 0 rfl) ?_
  refine lv_iload_n hx hb dc_B_balanceOf_1 rfl (lv_at hl 1 rfl) ?_
  obtain ⟨u2, eu2, hF⟩ := pl_bd hF
  obtain ⟨v1, ev1, hF⟩ := pl_bd hF
  refine pl_gi (pl_runV (Cn := rn_B) (k := 1) C (tm_B_find l D dA tt b n ev1) w hS rfl rfl mw_299 mw_301 mw_0 mw_65 mw_302 (by decide +kernel) ⟨by decide, by decide⟩ eu2 rfl (by decide) rfl hl.1 (Nat.le_of_ble_eq_true rfl) ⟨Nat.zero_le _, Nat.zero_le _⟩ rfl dc_B_balanceOf_2) hS (fun H locs w hS => ?_)
  refine lv_istore_n (lv' := [(2, .int v1), (0, .ref a0), (1, .int x1)]) hx hb dc_B_balanceOf_5 rfl hl (by decide) rfl (fun ls hl => ?_)
  refine lv_iload_n hx hb dc_B_balanceOf_6 rfl (lv_at hl 0 rfl) ?_
  refine lv_if_ge hx hb dc_B_balanceOf_7 (tgt := 14) (by decide) (fun hc => ?_) (fun hc => ?_)
  · have hF := (if_pos hc).symm.trans hF
    refine lv_aload_n hx hb dc_B_balanceOf_14 rfl (lv_at hl 1 rfl) ?_
    obtain ⟨v3, ev3, hF⟩ := pl_bd hF
    refine pl_getR C w (ci := 0) in_B rfl (by decide) 2 (by decide) mw_91 ev3 dc_B_balanceOf_15 ?_
    refine lv_iload_n hx hb dc_B_balanceOf_18 rfl (lv_at hl 0 rfl) ?_
    obtain ⟨v4, ev4, hF⟩ := pl_bd hF
    refine pl_aldL C w ev4 dc_B_balanceOf_19 ?_
    exact tl_B_balanceOf_20 C hF w hS (lv_sub hl [] rfl)
  · have hF := (if_neg hc).symm.trans hF
    refine lv_lconst (v := 0) hx hb dc_B_balanceOf_10 (by decide) ?_
    refine lv_goto hx hb dc_B_balanceOf_11 (tgt := 20) (by decide) ?_
    exact tl_B_balanceOf_20 C hF w hS (lv_sub hl [] rfl)
set_option maxHeartbeats 4000000 in
set_option maxRecDepth 100000 in
theorem tm_B_balanceOf (l : Launch) (D : va_G) (dA : Nat → ClassId) (tt : Nat → Nat) (b n : Nat) {f : pl_H} {a0 : Nat} {x1 : Int32} {r : Int64} (hF : fn_B_balanceOf f a0 x1 = some r) : Met l my_B_balanceOf (Cond.code my_B_balanceOf co_B_balanceOf 3 (some .long) :: pl_tb) rm_B_balanceOf (va_Pc [.ref a0, .int x1] (pl_pre D dA tt b n f)) (pl_qL D dA tt b n f r) 0 0 (pl_A b) := by
  refine Met.ofW (cc := co_B_balanceOf) (maxL := 3) (ret := (some .long)) (by decide) rfl ?_
  intro p e s m args below meth c s₁ B hml hv
  obtain ⟨rfl, w, hK⟩ := hv
  have C : pl_C p s m _ meth c co_B_balanceOf 3 rn_B (some .long) "balanceOf" D dA tt b := ⟨B.exec, B.bytes, hml, B.returns, findClass_of_methodNamed B.named, B.notSynchronized, fun w hw => atoms_spec (ws := Cond.code my_B_balanceOf co_B_balanceOf 3 (some .long) :: pl_tb) B.pre w (List.mem_cons_of_mem _ hw), (name_of_methodNamed B.named B.method).1, hK⟩
  have hl := lv_entry ([.ref a0, .int x1]) (n := 3) (Nat.le_of_ble_eq_true rfl)
  rw [lg_entry_eq]
  generalize (lg_sl ([.ref a0, .int x1]) ++ List.replicate (3 - (lg_sl ([.ref a0, .int x1])).length) Slot.unset).toArray = ls at hl ⊢
  have hl : lv_has ls 3 [(0, .ref a0), (1, .int x1)] := hl
  exact tl_B_balanceOf C hF w va_S.rf hl
def rm_B_move : Room := { frames := 0, cells := 0, slots := 0, locals := 0 }
def fn_B_move (f : pl_H) (a0 : Nat) (x1 : Int32) (x2 : Int32) : Option (pl_H) := (pl_gR f a0 0 0).bind fun v1 => (pl_gR f a0 0 0).bind fun v2 => (pl_aI f v2 x1).bind fun v3 => (pl_sI f v1 x2 v3).bind fun f4 => (pl_gR f4 a0 0 1).bind fun v5 => (pl_gR f4 a0 0 1).bind fun v6 => (pl_aI f4 v6 x1).bind fun v7 => (pl_sI f4 v5 x2 v7).bind fun f8 => (pl_gR f8 a0 0 2).bind fun v9 => (pl_gR f8 a0 0 2).bind fun v10 => (pl_aL f8 v10 x1).bind fun v11 => (pl_sL f8 v9 x2 v11).bind fun f12 => some f12
set_option maxHeartbeats 4000000 in
set_option maxRecDepth 100000 in
theorem tl_B_move {p : Program} {l : Launch} {e : Env} {s : State} {m : MethodId} {args : Array Value} {below : List Frame} {meth : Method} {c : Code} {D : va_G} {dA : Nat → ClassId} {tt : Nat → Nat} {b n : Nat} (C : pl_C p s m args meth c co_B_move 3 rn_B none "move" D dA tt b) {f' : pl_H} {f : pl_H} {a0 : Nat} {x1 : Int32} {x2 : Int32} {H : Heap} {locs : List Loc} {ls : Array Slot} (hF : fn_B_move f a0 x1 x2 = some f') (w : pl_wd D vwCl dA b n f H) (hS : va_S (pl_A b) s.heap H locs) (hl : lv_has ls 3 [(0, .ref a0), (1, .int x1), (2, .int x2)]) : W p l e rm_B_move s m args below meth c H locs 0 0 (MQ below (pl_qV D dA tt b n f') args s 0 0 (pl_A b)) (F0 m 0 ls []) := by
  have hx := C.1
  have hb := C.2.1
  have hown := C.2.2.2.2.1
  have hts := C.2.2.2.2.2.2.1
  unfold fn_B_move at hF
  refine lv_aload_n hx hb dc_B_move_0 rfl (lv_at hl 0 rfl) ?_
  obtain ⟨v1, ev1, hF⟩ := pl_bd hF
  refine pl_getR C w (ci := 0) in_B rfl (by decide) 0 (by decide) mw_89 ev1 dc_B_move_1 ?_
  refine lv_iload_n hx hb dc_B_move_4 rfl (lv_at hl 2 rfl) ?_
  refine lv_aload_n hx hb dc_B_move_5 rfl (lv_at hl 0 rfl) ?_
  obtain ⟨v2, ev2, hF⟩ := pl_bd hF
  refine pl_getR C w (ci := 0) in_B rfl (by decide) 0 (by decide) mw_89 ev2 dc_B_move_6 ?_
  refine lv_iload_n hx hb dc_B_move_9 rfl (lv_at hl 1 rfl) ?_
  obtain ⟨v3, ev3, hF⟩ := pl_bd hF
  refine pl_aldI C w ev3 dc_B_move_10 ?_
  obtain ⟨f4, ef4, hF⟩ := pl_bd hF
  refine pl_astI C w hS ef4 dc_B_move_11 (fun H locs w hS => ?_)
  refine lv_aload_n hx hb dc_B_move_12 rfl (lv_at hl 0 rfl) ?_
  obtain ⟨v5, ev5, hF⟩ := pl_bd hF
  refine pl_getR C w (ci := 0) in_B rfl (by decide) 1 (by decide) mw_90 ev5 dc_B_move_13 ?_
  refine lv_iload_n hx hb dc_B_move_16 rfl (lv_at hl 2 rfl) ?_
  refine lv_aload_n hx hb dc_B_move_17 rfl (lv_at hl 0 rfl) ?_
  obtain ⟨v6, ev6, hF⟩ := pl_bd hF
  refine pl_getR C w (ci := 0) in_B rfl (by decide) 1 (by decide) mw_90 ev6 dc_B_move_18 ?_
  refine lv_iload_n hx hb dc_B_move_21 rfl (lv_at hl 1 rfl) ?_
  obtain ⟨v7, ev7, hF⟩ := pl_bd hF
  refine pl_aldI C w ev7 dc_B_move_22 ?_
  obtain ⟨f8, ef8, hF⟩ := pl_bd hF
  refine pl_astI C w hS ef8 dc_B_move_23 (fun H locs w hS => ?_)
  refine lv_aload_n hx hb dc_B_move_24 rfl (lv_at hl 0 rfl) ?_
  obtain ⟨v9, ev9, hF⟩ := pl_bd hF
  refine pl_getR C w (ci := 0) in_B rfl (by decide) 2 (by decide) mw_91 ev9 dc_B_move_25 ?_
  refine lv_iload_n hx hb dc_B_move_28 rfl (lv_at hl 2 rfl) ?_
  refine lv_aload_n hx hb dc_B_move_29 rfl (lv_at hl 0 rfl) ?_
  obtain ⟨v10, ev10, hF⟩ := pl_bd hF
  refine pl_getR C w (ci := 0) in_B rfl (by decide) 2 (by decide) mw_91 ev10 dc_B_move_30 ?_
  refine lv_iload_n hx hb dc_B_move_33 rfl (lv_at hl 1 rfl) ?_
  obtain ⟨v11, ev11, hF⟩ := pl_bd hF
  refine pl_aldL C w ev11 dc_B_move_34 ?_
  obtain ⟨f12, ef12, hF⟩ := pl_bd hF
  refine pl_astL C w hS ef12 dc_B_move_35 (fun H locs w hS => ?_)
  exact pl_retVw C w hS hF dc_B_move_36
set_option maxHeartbeats 4000000 in
set_option maxRecDepth 100000 in
theorem tm_B_move (l : Launch) (D : va_G) (dA : Nat → ClassId) (tt : Nat → Nat) (b n : Nat) {f : pl_H} {a0 : Nat} {x1 : Int32} {x2 : Int32} {f' : pl_H} (hF : fn_B_move f a0 x1 x2 = some f') : Met l my_B_move (Cond.code my_B_move co_B_move 3 none :: pl_tb) rm_B_move (va_Pc [.ref a0, .int x1, .int x2] (pl_pre D dA tt b n f)) (pl_qV D dA tt b n f') 0 0 (pl_A b) := by
  refine Met.ofW (cc := co_B_move) (maxL := 3) (ret := none) (by decide) rfl ?_
  intro p e s m args below meth c s₁ B hml hv
  obtain ⟨rfl, w, hK⟩ := hv
  have C : pl_C p s m _ meth c co_B_move 3 rn_B none "move" D dA tt b := ⟨B.exec, B.bytes, hml, B.returns, findClass_of_methodNamed B.named, B.notSynchronized, fun w hw => atoms_spec (ws := Cond.code my_B_move co_B_move 3 none :: pl_tb) B.pre w (List.mem_cons_of_mem _ hw), (name_of_methodNamed B.named B.method).1, hK⟩
  have hl := lv_entry ([.ref a0, .int x1, .int x2]) (n := 3) (Nat.le_of_ble_eq_true rfl)
  rw [lg_entry_eq]
  generalize (lg_sl ([.ref a0, .int x1, .int x2]) ++ List.replicate (3 - (lg_sl ([.ref a0, .int x1, .int x2])).length) Slot.unset).toArray = ls at hl ⊢
  have hl : lv_has ls 3 [(0, .ref a0), (1, .int x1), (2, .int x2)] := hl
  exact tl_B_move C hF w va_S.rf hl
def rm_B_remove : Room := { frames := 1, cells := 0, slots := 0, locals := 22 }
def fn_B_remove_2 : Nat → pl_H → Nat → Int32 → Option (pl_H)
  | 0 => fun _ _ _ => none
  | k + 1 => fun f a0 x2 => (pl_gI f a0 0 3).bind fun v1 => if (v1 - 1) ≤ x2 then (pl_gI f a0 0 3).bind fun v2 => (pl_pV f a0 0 3 (.int (v2 - 1))).bind fun f3 => some f3 else (pl_is f a0 0).bind fun u5 => (fn_B_move f a0 (x2 + 1) x2).bind fun q4 => fn_B_remove_2 k q4 a0 (x2 + 1)
def fn_B_remove (f : pl_H) (a0 : Nat) (x1 : Int32) : Option (pl_H) := fn_B_remove_2 pl_N f a0 x1
set_option maxHeartbeats 4000000 in
set_option maxRecDepth 100000 in
theorem tl_B_remove_2 {p : Program} {l : Launch} {e : Env} {s : State} {m : MethodId} {args : Array Value} {below : List Frame} {meth : Method} {c : Code} {D : va_G} {dA : Nat → ClassId} {tt : Nat → Nat} {b n : Nat} (C : pl_C p s m args meth c co_B_remove 3 rn_B none "remove" D dA tt b) {f' : pl_H} : ∀ k : Nat, ∀ (f : pl_H) (a0 : Nat) (x2 : Int32) (H : Heap) (locs : List Loc) (ls : Array Slot), fn_B_remove_2 k f a0 x2 = some f' → pl_wd D vwCl dA b n f H → va_S (pl_A b) s.heap H locs → lv_has ls 3 [(0, .ref a0), (2, .int x2)] → W p l e rm_B_remove s m args below meth c H locs 0 0 (MQ below (pl_qV D dA tt b n f') args s 0 0 (pl_A b)) (F0 m 2 ls []) := by
  have hx := C.1
  have hb := C.2.1
  have hown := C.2.2.2.2.1
  have hts := C.2.2.2.2.2.2.1
  intro k
  induction k with
  | zero =>
    intro f a0 x2 H locs ls hF
    cases hF
  | succ k ih =>
    intro f a0 x2 H locs ls hF w hS hl
    unfold fn_B_remove_2 at hF
    refine lv_iload_n hx hb dc_B_remove_2 rfl (lv_at hl 1 rfl) ?_
    refine lv_aload_n hx hb dc_B_remove_3 rfl (lv_at hl 0 rfl) ?_
    obtain ⟨v1, ev1, hF⟩ := pl_bd hF
    refine pl_getI C w (ci := 0) in_B rfl (by decide) 3 (by decide) mw_92 ev1 dc_B_remove_4 ?_
    refine lv_iconst (v := 1) hx hb dc_B_remove_7 (by decide) ?_
    refine lv_isub hx hb dc_B_remove_8 ?_
    refine lv_icmp_ge hx hb dc_B_remove_9 (tgt := 26) (by decide) (fun hc => ?_) (fun hc => ?_)
    · have hF := (if_pos hc).symm.trans hF
      refine lv_aload_n hx hb dc_B_remove_26 rfl (lv_at hl 0 rfl) ?_
      refine lv_dup hx hb dc_B_remove_27 rfl ?_
      obtain ⟨v2, ev2, hF⟩ := pl_bd hF
      refine pl_getI C w (ci := 0) in_B rfl (by decide) 3 (by decide) mw_92 ev2 dc_B_remove_28 ?_
      refine lv_iconst (v := 1) hx hb dc_B_remove_31 (by decide) ?_
      refine lv_isub hx hb dc_B_remove_32 ?_
      obtain ⟨f3, ef3, hF⟩ := pl_bd hF
      refine pl_put C w hS (ci := 0) in_B rfl (by decide) rty_B_ok rnm_B 3 (by decide) mw_92 rfl rfl rfl ef3 dc_B_remove_33 (fun H locs w hS => ?_)
      exact pl_retVw C w hS hF dc_B_remove_36
    · have hF := (if_neg hc).symm.trans hF
      refine lv_aload_n hx hb dc_B_remove_12 rfl (lv_at hl 0 rfl) ?_
      refine lv_iload_n hx hb dc_B_remove_13 rfl (lv_at hl 1 rfl) ?_
      refine lv_iconst (v := 1) hx hb dc_B_remove_14 (by decide) ?_
      refine lv_iadd hx hb dc_B_remove_15 ?_
      refine lv_iload_n hx hb dc_B_remove_16 rfl (lv_at hl 1 rfl) ?_
      obtain ⟨u5, eu5, hF⟩ := pl_bd hF
      obtain ⟨q4, eq4, hF⟩ := pl_bd hF
      refine pl_gv (pl_runV (Cn := rn_B) (k := 2) C (tm_B_move l D dA tt b n eq4) w hS rfl rfl mw_327 mw_329 mw_2 mw_65 mw_330 (by decide +kernel) ⟨by decide, by decide⟩ eu5 rfl (by decide) rfl hl.1 (Nat.le_of_ble_eq_true rfl) ⟨Nat.zero_le _, Nat.zero_le _⟩ rfl dc_B_remove_17) hS (fun H locs w hS => ?_)
      refine lv_iinc (k := 1) (v := x2 + 1) (lv' := [(2, .int (x2 + 1)), (0, .ref a0)]) hx hb dc_B_remove_20 hl rfl rfl (by decide) rfl (fun ls hl => ?_)
      refine lv_goto hx hb dc_B_remove_23 (tgt := 2) (by decide) ?_
      exact ih q4 a0 (x2 + 1) _ _ _ hF w hS (lv_sub hl [1, 0] rfl)
set_option maxHeartbeats 4000000 in
set_option maxRecDepth 100000 in
theorem tl_B_remove {p : Program} {l : Launch} {e : Env} {s : State} {m : MethodId} {args : Array Value} {below : List Frame} {meth : Method} {c : Code} {D : va_G} {dA : Nat → ClassId} {tt : Nat → Nat} {b n : Nat} (C : pl_C p s m args meth c co_B_remove 3 rn_B none "remove" D dA tt b) {f' : pl_H} {f : pl_H} {a0 : Nat} {x1 : Int32} {H : Heap} {locs : List Loc} {ls : Array Slot} (hF : fn_B_remove f a0 x1 = some f') (w : pl_wd D vwCl dA b n f H) (hS : va_S (pl_A b) s.heap H locs) (hl : lv_has ls 3 [(0, .ref a0), (1, .int x1)]) : W p l e rm_B_remove s m args below meth c H locs 0 0 (MQ below (pl_qV D dA tt b n f') args s 0 0 (pl_A b)) (F0 m 0 ls []) := by
  have hx := C.1
  have hb := C.2.1
  have hown := C.2.2.2.2.1
  have hts := C.2.2.2.2.2.2.1
  unfold fn_B_remove at hF
  refine lv_iload_n hx hb dc_B_remove_0 rfl (lv_at hl 1 rfl) ?_
  refine lv_istore_n (lv' := [(2, .int x1), (0, .ref a0), (1, .int x1)]) hx hb dc_B_remove_1 rfl hl (by decide) rfl (fun ls hl => ?_)
  exact tl_B_remove_2 C pl_N f a0 x1 _ _ _ hF w hS (lv_sub hl [1, 0] rfl)
set_option maxHeartbeats 4000000 in
set_option maxRecDepth 100000 in
theorem tm_B_remove (l : Launch) (D : va_G) (dA : Nat → ClassId) (tt : Nat → Nat) (b n : Nat) {f : pl_H} {a0 : Nat} {x1 : Int32} {f' : pl_H} (hF : fn_B_remove f a0 x1 = some f') : Met l my_B_remove (Cond.code my_B_remove co_B_remove 3 none :: pl_tb) rm_B_remove (va_Pc [.ref a0, .int x1] (pl_pre D dA tt b n f)) (pl_qV D dA tt b n f') 0 0 (pl_A b) := by
  refine Met.ofW (cc := co_B_remove) (maxL := 3) (ret := none) (by decide) rfl ?_
  intro p e s m args below meth c s₁ B hml hv
  obtain ⟨rfl, w, hK⟩ := hv
  have C : pl_C p s m _ meth c co_B_remove 3 rn_B none "remove" D dA tt b := ⟨B.exec, B.bytes, hml, B.returns, findClass_of_methodNamed B.named, B.notSynchronized, fun w hw => atoms_spec (ws := Cond.code my_B_remove co_B_remove 3 none :: pl_tb) B.pre w (List.mem_cons_of_mem _ hw), (name_of_methodNamed B.named B.method).1, hK⟩
  have hl := lv_entry ([.ref a0, .int x1]) (n := 3) (Nat.le_of_ble_eq_true rfl)
  rw [lg_entry_eq]
  generalize (lg_sl ([.ref a0, .int x1]) ++ List.replicate (3 - (lg_sl ([.ref a0, .int x1])).length) Slot.unset).toArray = ls at hl ⊢
  have hl : lv_has ls 3 [(0, .ref a0), (1, .int x1)] := hl
  exact tl_B_remove C hF w va_S.rf hl
def rm_B_insert : Room := { frames := 1, cells := 0, slots := 0, locals := 22 }
def fn_B_insert_46 (f : pl_H) (a0 : Nat) (x1 : Int32) (x2 : Int32) : Option (Int32 × pl_H) := (pl_gR f a0 0 0).bind fun v1 => (pl_sI f v1 x2 x1).bind fun f2 => (pl_gI f2 a0 0 3).bind fun v3 => (pl_pV f2 a0 0 3 (.int (v3 + 1))).bind fun f4 => some (x2, f4)
def fn_B_insert_16 : Nat → pl_H → Nat → Int32 → Int32 → Option (Int32 × pl_H)
  | 0 => fun _ _ _ _ => none
  | k + 1 => fun f a0 x1 x2 => if x2 ≤ 0 then fn_B_insert_46 f a0 x1 x2 else (pl_gR f a0 0 0).bind fun v1 => (pl_aI f v1 (x2 - 1)).bind fun v2 => if v2 ≤ x1 then fn_B_insert_46 f a0 x1 x2 else (pl_is f a0 0).bind fun u4 => (fn_B_move f a0 (x2 - 1) x2).bind fun q3 => fn_B_insert_16 k q3 a0 x1 (x2 + (-1))
def fn_B_insert (f : pl_H) (a0 : Nat) (x1 : Int32) : Option (Int32 × pl_H) := (pl_gI f a0 0 3).bind fun v1 => if v1 < 12 then (pl_gI f a0 0 3).bind fun v2 => fn_B_insert_16 pl_N f a0 x1 v2 else some ((-1), f)
set_option maxHeartbeats 4000000 in
set_option maxRecDepth 100000 in
theorem tl_B_insert_46 {p : Program} {l : Launch} {e : Env} {s : State} {m : MethodId} {args : Array Value} {below : List Frame} {meth : Method} {c : Code} {D : va_G} {dA : Nat → ClassId} {tt : Nat → Nat} {b n : Nat} (C : pl_C p s m args meth c co_B_insert 3 rn_B (some .int) "insert" D dA tt b) {r : Int32} {f' : pl_H} {f : pl_H} {a0 : Nat} {x1 : Int32} {x2 : Int32} {H : Heap} {locs : List Loc} {ls : Array Slot} (hF : fn_B_insert_46 f a0 x1 x2 = some (r, f')) (w : pl_wd D vwCl dA b n f H) (hS : va_S (pl_A b) s.heap H locs) (hl : lv_has ls 3 [(0, .ref a0), (1, .int x1), (2, .int x2)]) : W p l e rm_B_insert s m args below meth c H locs 0 0 (MQ below (pl_qI D dA tt b n f' r) args s 0 0 (pl_A b)) (F0 m 46 ls []) := by
  have hx := C.1
  have hb := C.2.1
  have hown := C.2.2.2.2.1
  have hts := C.2.2.2.2.2.2.1
  unfold fn_B_insert_46 at hF
  refine lv_aload_n hx hb dc_B_insert_46 rfl (lv_at hl 0 rfl) ?_
  obtain ⟨v1, ev1, hF⟩ := pl_bd hF
  refine pl_getR C w (ci := 0) in_B rfl (by decide) 0 (by decide) mw_89 ev1 dc_B_insert_47 ?_
  refine lv_iload_n hx hb dc_B_insert_50 rfl (lv_at hl 2 rfl) ?_
  refine lv_iload_n hx hb dc_B_insert_51 rfl (lv_at hl 1 rfl) ?_
  obtain ⟨f2, ef2, hF⟩ := pl_bd hF
  refine pl_astI C w hS ef2 dc_B_insert_52 (fun H locs w hS => ?_)
  refine lv_aload_n hx hb dc_B_insert_53 rfl (lv_at hl 0 rfl) ?_
  refine lv_dup hx hb dc_B_insert_54 rfl ?_
  obtain ⟨v3, ev3, hF⟩ := pl_bd hF
  refine pl_getI C w (ci := 0) in_B rfl (by decide) 3 (by decide) mw_92 ev3 dc_B_insert_55 ?_
  refine lv_iconst (v := 1) hx hb dc_B_insert_58 (by decide) ?_
  refine lv_iadd hx hb dc_B_insert_59 ?_
  obtain ⟨f4, ef4, hF⟩ := pl_bd hF
  refine pl_put C w hS (ci := 0) in_B rfl (by decide) rty_B_ok rnm_B 3 (by decide) mw_92 rfl rfl rfl ef4 dc_B_insert_60 (fun H locs w hS => ?_)
  refine lv_iload_n hx hb dc_B_insert_63 rfl (lv_at hl 2 rfl) ?_
  exact pl_retIw C w hS hF dc_B_insert_64
set_option maxHeartbeats 4000000 in
set_option maxRecDepth 100000 in
theorem tl_B_insert_16 {p : Program} {l : Launch} {e : Env} {s : State} {m : MethodId} {args : Array Value} {below : List Frame} {meth : Method} {c : Code} {D : va_G} {dA : Nat → ClassId} {tt : Nat → Nat} {b n : Nat} (C : pl_C p s m args meth c co_B_insert 3 rn_B (some .int) "insert" D dA tt b) {r : Int32} {f' : pl_H} : ∀ k : Nat, ∀ (f : pl_H) (a0 : Nat) (x1 : Int32) (x2 : Int32) (H : Heap) (locs : List Loc) (ls : Array Slot), fn_B_insert_16 k f a0 x1 x2 = some (r, f') → pl_wd D vwCl dA b n f H → va_S (pl_A b) s.heap H locs → lv_has ls 3 [(0, .ref a0), (1, .int x1), (2, .int x2)] → W p l e rm_B_insert s m args below meth c H locs 0 0 (MQ below (pl_qI D dA tt b n f' r) args s 0 0 (pl_A b)) (F0 m 16 ls []) := by
  have hx := C.1
  have hb := C.2.1
  have hown := C.2.2.2.2.1
  have hts := C.2.2.2.2.2.2.1
  intro k
  induction k with
  | zero =>
    intro f a0 x1 x2 H locs ls hF
    cases hF
  | succ k ih =>
    intro f a0 x1 x2 H locs ls hF w hS hl
    unfold fn_B_insert_16 at hF
    refine lv_iload_n hx hb dc_B_insert_16 rfl (lv_at hl 2 rfl) ?_
    refine lv_if_le hx hb dc_B_insert_17 (tgt := 46) (by decide) (fun hc => ?_) (fun hc => ?_)
    · have hF := (if_pos hc).symm.trans hF
      exact tl_B_insert_46 C hF w hS (lv_sub hl [0, 1, 2] rfl)
    · have hF := (if_neg hc).symm.trans hF
      refine lv_aload_n hx hb dc_B_insert_20 rfl (lv_at hl 0 rfl) ?_
      obtain ⟨v1, ev1, hF⟩ := pl_bd hF
      refine pl_getR C w (ci := 0) in_B rfl (by decide) 0 (by decide) mw_89 ev1 dc_B_insert_21 ?_
      refine lv_iload_n hx hb dc_B_insert_24 rfl (lv_at hl 2 rfl) ?_
      refine lv_iconst (v := 1) hx hb dc_B_insert_25 (by decide) ?_
      refine lv_isub hx hb dc_B_insert_26 ?_
      obtain ⟨v2, ev2, hF⟩ := pl_bd hF
      refine pl_aldI C w ev2 dc_B_insert_27 ?_
      refine lv_iload_n hx hb dc_B_insert_28 rfl (lv_at hl 1 rfl) ?_
      refine lv_icmp_le hx hb dc_B_insert_29 (tgt := 46) (by decide) (fun hc => ?_) (fun hc => ?_)
      · have hF := (if_pos hc).symm.trans hF
        exact tl_B_insert_46 C hF w hS (lv_sub hl [0, 1, 2] rfl)
      · have hF := (if_neg hc).symm.trans hF
        refine lv_aload_n hx hb dc_B_insert_32 rfl (lv_at hl 0 rfl) ?_
        refine lv_iload_n hx hb dc_B_insert_33 rfl (lv_at hl 2 rfl) ?_
        refine lv_iconst (v := 1) hx hb dc_B_insert_34 (by decide) ?_
        refine lv_isub hx hb dc_B_insert_35 ?_
        refine lv_iload_n hx hb dc_B_insert_36 rfl (lv_at hl 2 rfl) ?_
        obtain ⟨u4, eu4, hF⟩ := pl_bd hF
        obtain ⟨q3, eq3, hF⟩ := pl_bd hF
        refine pl_gv (pl_runV (Cn := rn_B) (k := 2) C (tm_B_move l D dA tt b n eq3) w hS rfl rfl mw_327 mw_329 mw_2 mw_65 mw_330 (by decide +kernel) ⟨by decide, by decide⟩ eu4 rfl (by decide) rfl hl.1 (Nat.le_of_ble_eq_true rfl) ⟨Nat.zero_le _, Nat.zero_le _⟩ rfl dc_B_insert_37) hS (fun H locs w hS => ?_)
        refine lv_iinc (k := 2) (v := x2 + (-1)) (lv' := [(2, .int (x2 + (-1))), (0, .ref a0), (1, .int x1)]) hx hb dc_B_insert_40 hl rfl rfl (by decide) rfl (fun ls hl => ?_)
        refine lv_goto hx hb dc_B_insert_43 (tgt := 16) (by decide) ?_
        exact ih q3 a0 x1 (x2 + (-1)) _ _ _ hF w hS (lv_sub hl [1, 2, 0] rfl)
set_option maxHeartbeats 4000000 in
set_option maxRecDepth 100000 in
theorem tl_B_insert {p : Program} {l : Launch} {e : Env} {s : State} {m : MethodId} {args : Array Value} {below : List Frame} {meth : Method} {c : Code} {D : va_G} {dA : Nat → ClassId} {tt : Nat → Nat} {b n : Nat} (C : pl_C p s m args meth c co_B_insert 3 rn_B (some .int) "insert" D dA tt b) {r : Int32} {f' : pl_H} {f : pl_H} {a0 : Nat} {x1 : Int32} {H : Heap} {locs : List Loc} {ls : Array Slot} (hF : fn_B_insert f a0 x1 = some (r, f')) (w : pl_wd D vwCl dA b n f H) (hS : va_S (pl_A b) s.heap H locs) (hl : lv_has ls 3 [(0, .ref a0), (1, .int x1)]) : W p l e rm_B_insert s m args below meth c H locs 0 0 (MQ below (pl_qI D dA tt b n f' r) args s 0 0 (pl_A b)) (F0 m 0 ls []) := by
  have hx := C.1
  have hb := C.2.1
  have hown := C.2.2.2.2.1
  have hts := C.2.2.2.2.2.2.1
  unfold fn_B_insert at hF
  refine lv_aload_n hx hb dc_B_insert_0 rfl (lv_at hl 0 rfl) ?_
  obtain ⟨v1, ev1, hF⟩ := pl_bd hF
  refine pl_getI C w (ci := 0) in_B rfl (by decide) 3 (by decide) mw_92 ev1 dc_B_insert_1 ?_
  refine lv_bipush (v := 12) hx hb dc_B_insert_4 (by decide) ?_
  refine lv_icmp_lt hx hb dc_B_insert_6 (tgt := 11) (by decide) (fun hc => ?_) (fun hc => ?_)
  · have hF := (if_pos hc).symm.trans hF
    refine lv_aload_n hx hb dc_B_insert_11 rfl (lv_at hl 0 rfl) ?_
    obtain ⟨v2, ev2, hF⟩ := pl_bd hF
    refine pl_getI C w (ci := 0) in_B rfl (by decide) 3 (by decide) mw_92 ev2 dc_B_insert_12 ?_
    refine lv_istore_n (lv' := [(2, .int v2), (0, .ref a0), (1, .int x1)]) hx hb dc_B_insert_15 rfl hl (by decide) rfl (fun ls hl => ?_)
    exact tl_B_insert_16 C pl_N f a0 x1 v2 _ _ _ hF w hS (lv_sub hl [1, 2, 0] rfl)
  · have hF := (if_neg hc).symm.trans hF
    refine lv_iconst (v := (-1)) hx hb dc_B_insert_9 (by decide) ?_
    exact pl_retIw C w hS hF dc_B_insert_10
set_option maxHeartbeats 4000000 in
set_option maxRecDepth 100000 in
theorem tm_B_insert (l : Launch) (D : va_G) (dA : Nat → ClassId) (tt : Nat → Nat) (b n : Nat) {f : pl_H} {a0 : Nat} {x1 : Int32} {r : Int32} {f' : pl_H} (hF : fn_B_insert f a0 x1 = some (r, f')) : Met l my_B_insert (Cond.code my_B_insert co_B_insert 3 (some .int) :: pl_tb) rm_B_insert (va_Pc [.ref a0, .int x1] (pl_pre D dA tt b n f)) (pl_qI D dA tt b n f' r) 0 0 (pl_A b) := by
  refine Met.ofW (cc := co_B_insert) (maxL := 3) (ret := (some .int)) (by decide) rfl ?_
  intro p e s m args below meth c s₁ B hml hv
  obtain ⟨rfl, w, hK⟩ := hv
  have C : pl_C p s m _ meth c co_B_insert 3 rn_B (some .int) "insert" D dA tt b := ⟨B.exec, B.bytes, hml, B.returns, findClass_of_methodNamed B.named, B.notSynchronized, fun w hw => atoms_spec (ws := Cond.code my_B_insert co_B_insert 3 (some .int) :: pl_tb) B.pre w (List.mem_cons_of_mem _ hw), (name_of_methodNamed B.named B.method).1, hK⟩
  have hl := lv_entry ([.ref a0, .int x1]) (n := 3) (Nat.le_of_ble_eq_true rfl)
  rw [lg_entry_eq]
  generalize (lg_sl ([.ref a0, .int x1]) ++ List.replicate (3 - (lg_sl ([.ref a0, .int x1])).length) Slot.unset).toArray = ls at hl ⊢
  have hl : lv_has ls 3 [(0, .ref a0), (1, .int x1)] := hl
  exact tl_B_insert C hF w va_S.rf hl
def rm_B_put : Room := { frames := 2, cells := 0, slots := 0, locals := 44 }
def fn_B_put_79 (f : pl_H) : Option (pl_H) := some f
def fn_B_put_58 (f : pl_H) (a0 : Nat) (x2 : Int32) (y3 : Int64) (x6 : Int32) : Option (pl_H) := if x6 < 0 then fn_B_put_79 f else (pl_gR f a0 0 1).bind fun v1 => (pl_sI f v1 x6 x2).bind fun f2 => (pl_gR f2 a0 0 2).bind fun v3 => (pl_sL f2 v3 x6 y3).bind fun f4 => fn_B_put_79 f4
def fn_B_put_41 (f : pl_H) (a0 : Nat) (x1 : Int32) (x2 : Int32) (y3 : Int64) (x5 : Int32) (x6 : Int32) : Option (pl_H) := if 0 ≤ x6 then fn_B_put_58 f a0 x2 y3 x6 else if x5 = 0 then fn_B_put_58 f a0 x2 y3 x6 else (pl_is f a0 0).bind fun u2 => (fn_B_insert f a0 x1).bind fun q1 => fn_B_put_58 q1.2 a0 x2 y3 q1.1
def fn_B_put_15 (f : pl_H) (a0 : Nat) (x1 : Int32) (x2 : Int32) (y3 : Int64) (sx0 : Int32) : Option (pl_H) := (pl_is f a0 0).bind fun u2 => (fn_B_find f a0 x1).bind fun v1 => if v1 < 0 then fn_B_put_41 f a0 x1 x2 y3 sx0 v1 else if sx0 = 0 then (pl_is f a0 0).bind fun u4 => (fn_B_remove f a0 v1).bind fun q3 => some q3 else fn_B_put_41 f a0 x1 x2 y3 sx0 v1
def fn_B_put_10 (f : pl_H) (a0 : Nat) (x1 : Int32) (x2 : Int32) (y3 : Int64) : Option (pl_H) := fn_B_put_15 f a0 x1 x2 y3 1
def fn_B_put (f : pl_H) (a0 : Nat) (x1 : Int32) (x2 : Int32) (y3 : Int64) : Option (pl_H) := if x2 = 0 then if (lg_cmp y3 0) = 0 then fn_B_put_15 f a0 x1 x2 y3 0 else fn_B_put_10 f a0 x1 x2 y3 else fn_B_put_10 f a0 x1 x2 y3
set_option maxHeartbeats 4000000 in
set_option maxRecDepth 100000 in
theorem tl_B_put_79 {p : Program} {l : Launch} {e : Env} {s : State} {m : MethodId} {args : Array Value} {below : List Frame} {meth : Method} {c : Code} {D : va_G} {dA : Nat → ClassId} {tt : Nat → Nat} {b n : Nat} (C : pl_C p s m args meth c co_B_put 7 rn_B none "put" D dA tt b) {f' : pl_H} {f : pl_H} {H : Heap} {locs : List Loc} {ls : Array Slot} (hF : fn_B_put_79 f = some f') (w : pl_wd D vwCl dA b n f H) (hS : va_S (pl_A b) s.heap H locs) (hl : lv_has ls 7 []) : W p l e rm_B_put s m args below meth c H locs 0 0 (MQ below (pl_qV D dA tt b n f') args s 0 0 (pl_A b)) (F0 m 79 ls []) := by
  have hx := C.1
  have hb := C.2.1
  have hown := C.2.2.2.2.1
  have hts := C.2.2.2.2.2.2.1
  unfold fn_B_put_79 at hF
  exact pl_retVw C w hS hF dc_B_put_79
set_option maxHeartbeats 4000000 in
set_option maxRecDepth 100000 in
theorem tl_B_put_58 {p : Program} {l : Launch} {e : Env} {s : State} {m : MethodId} {args : Array Value} {below : List Frame} {meth : Method} {c : Code} {D : va_G} {dA : Nat → ClassId} {tt : Nat → Nat} {b n : Nat} (C : pl_C p s m args meth c co_B_put 7 rn_B none "put" D dA tt b) {f' : pl_H} {f : pl_H} {a0 : Nat} {x2 : Int32} {y3 : Int64} {x6 : Int32} {H : Heap} {locs : List Loc} {ls : Array Slot} (hF : fn_B_put_58 f a0 x2 y3 x6 = some f') (w : pl_wd D vwCl dA b n f H) (hS : va_S (pl_A b) s.heap H locs) (hl : lv_has ls 7 [(0, .ref a0), (2, .int x2), (3, .long y3), (6, .int x6)]) : W p l e rm_B_put s m args below meth c H locs 0 0 (MQ below (pl_qV D dA tt b n f') args s 0 0 (pl_A b)) (F0 m 58 ls []) := by
  have hx := C.1
  have hb := C.2.1
  have hown := C.2.2.2.2.1
  have hts := C.2.2.2.2.2.2.1
  unfold fn_B_put_58 at hF
  refine lv_iload hx hb dc_B_put_58 (lv_at hl 3 rfl) ?_
  refine lv_if_lt hx hb dc_B_put_60 (tgt := 79) (by decide) (fun hc => ?_) (fun hc => ?_)
  · have hF := (if_pos hc).symm.trans hF
    exact tl_B_put_79 C hF w hS (lv_sub hl [] rfl)
  · have hF := (if_neg hc).symm.trans hF
    refine lv_aload_n hx hb dc_B_put_63 rfl (lv_at hl 0 rfl) ?_
    obtain ⟨v1, ev1, hF⟩ := pl_bd hF
    refine pl_getR C w (ci := 0) in_B rfl (by decide) 1 (by decide) mw_90 ev1 dc_B_put_64 ?_
    refine lv_iload hx hb dc_B_put_67 (lv_at hl 3 rfl) ?_
    refine lv_iload_n hx hb dc_B_put_69 rfl (lv_at hl 1 rfl) ?_
    obtain ⟨f2, ef2, hF⟩ := pl_bd hF
    refine pl_astI C w hS ef2 dc_B_put_70 (fun H locs w hS => ?_)
    refine lv_aload_n hx hb dc_B_put_71 rfl (lv_at hl 0 rfl) ?_
    obtain ⟨v3, ev3, hF⟩ := pl_bd hF
    refine pl_getR C w (ci := 0) in_B rfl (by decide) 2 (by decide) mw_91 ev3 dc_B_put_72 ?_
    refine lv_iload hx hb dc_B_put_75 (lv_at hl 3 rfl) ?_
    refine lv_lload_n hx hb dc_B_put_77 rfl (lv_at hl 2 rfl) ?_
    obtain ⟨f4, ef4, hF⟩ := pl_bd hF
    refine pl_astL C w hS ef4 dc_B_put_78 (fun H locs w hS => ?_)
    exact tl_B_put_79 C hF w hS (lv_sub hl [] rfl)
set_option maxHeartbeats 4000000 in
set_option maxRecDepth 100000 in
theorem tl_B_put_41 {p : Program} {l : Launch} {e : Env} {s : State} {m : MethodId} {args : Array Value} {below : List Frame} {meth : Method} {c : Code} {D : va_G} {dA : Nat → ClassId} {tt : Nat → Nat} {b n : Nat} (C : pl_C p s m args meth c co_B_put 7 rn_B none "put" D dA tt b) {f' : pl_H} {f : pl_H} {a0 : Nat} {x1 : Int32} {x2 : Int32} {y3 : Int64} {x5 : Int32} {x6 : Int32} {H : Heap} {locs : List Loc} {ls : Array Slot} (hF : fn_B_put_41 f a0 x1 x2 y3 x5 x6 = some f') (w : pl_wd D vwCl dA b n f H) (hS : va_S (pl_A b) s.heap H locs) (hl : lv_has ls 7 [(0, .ref a0), (1, .int x1), (2, .int x2), (3, .long y3), (5, .int x5), (6, .int x6)]) : W p l e rm_B_put s m args below meth c H locs 0 0 (MQ below (pl_qV D dA tt b n f') args s 0 0 (pl_A b)) (F0 m 41 ls []) := by
  have hx := C.1
  have hb := C.2.1
  have hown := C.2.2.2.2.1
  have hts := C.2.2.2.2.2.2.1
  unfold fn_B_put_41 at hF
  refine lv_iload hx hb dc_B_put_41 (lv_at hl 5 rfl) ?_
  refine lv_if_ge hx hb dc_B_put_43 (tgt := 58) (by decide) (fun hc => ?_) (fun hc => ?_)
  · have hF := (if_pos hc).symm.trans hF
    exact tl_B_put_58 C hF w hS (lv_sub hl [0, 2, 3, 5] rfl)
  · have hF := (if_neg hc).symm.trans hF
    refine lv_iload hx hb dc_B_put_46 (lv_at hl 4 rfl) ?_
    refine lv_if_eq hx hb dc_B_put_48 (tgt := 58) (by decide) (fun hc => ?_) (fun hc => ?_)
    · have hF := (if_pos hc).symm.trans hF
      exact tl_B_put_58 C hF w hS (lv_sub hl [0, 2, 3, 5] rfl)
    · have hF := (if_neg hc).symm.trans hF
      refine lv_aload_n hx hb dc_B_put_51 rfl (lv_at hl 0 rfl) ?_
      refine lv_iload_n hx hb dc_B_put_52 rfl (lv_at hl 1 rfl) ?_
      obtain ⟨u2, eu2, hF⟩ := pl_bd hF
      obtain ⟨q1, eq1, hF⟩ := pl_bd hF
      refine pl_gi (pl_runV (Cn := rn_B) (k := 1) C (tm_B_insert l D dA tt b n eq1) w hS rfl rfl mw_331 mw_333 mw_3 mw_65 mw_334 (by decide +kernel) ⟨by decide, by decide⟩ eu2 rfl (by decide) rfl hl.1 (Nat.le_of_ble_eq_true rfl) ⟨Nat.zero_le _, Nat.zero_le _⟩ rfl dc_B_put_53) hS (fun H locs w hS => ?_)
      refine lv_istore (lv' := [(6, .int q1.1), (0, .ref a0), (1, .int x1), (2, .int x2), (3, .long y3), (5, .int x5)]) hx hb dc_B_put_56 hl (by decide) rfl (fun ls hl => ?_)
      exact tl_B_put_58 C hF w hS (lv_sub hl [1, 3, 4, 0] rfl)
set_option maxHeartbeats 4000000 in
set_option maxRecDepth 100000 in
theorem tl_B_put_15 {p : Program} {l : Launch} {e : Env} {s : State} {m : MethodId} {args : Array Value} {below : List Frame} {meth : Method} {c : Code} {D : va_G} {dA : Nat → ClassId} {tt : Nat → Nat} {b n : Nat} (C : pl_C p s m args meth c co_B_put 7 rn_B none "put" D dA tt b) {f' : pl_H} {f : pl_H} {a0 : Nat} {x1 : Int32} {x2 : Int32} {y3 : Int64} {sx0 : Int32} {H : Heap} {locs : List Loc} {ls : Array Slot} (hF : fn_B_put_15 f a0 x1 x2 y3 sx0 = some f') (w : pl_wd D vwCl dA b n f H) (hS : va_S (pl_A b) s.heap H locs) (hl : lv_has ls 7 [(0, .ref a0), (1, .int x1), (2, .int x2), (3, .long y3)]) : W p l e rm_B_put s m args below meth c H locs 0 0 (MQ below (pl_qV D dA tt b n f') args s 0 0 (pl_A b)) (F0 m 15 ls [.int sx0]) := by
  have hx := C.1
  have hb := C.2.1
  have hown := C.2.2.2.2.1
  have hts := C.2.2.2.2.2.2.1
  unfold fn_B_put_15 at hF
  refine lv_istore (lv' := [(5, .int sx0), (0, .ref a0), (1, .int x1), (2, .int x2), (3, .long y3)]) hx hb dc_B_put_15 hl (by decide) rfl (fun ls hl => ?_)
  refine lv_aload_n hx hb dc_B_put_17 rfl (lv_at hl 1 rfl) ?_
  refine lv_iload_n hx hb dc_B_put_18 rfl (lv_at hl 2 rfl) ?_
  obtain ⟨u2, eu2, hF⟩ := pl_bd hF
  obtain ⟨v1, ev1, hF⟩ := pl_bd hF
  refine pl_gi (pl_runV (Cn := rn_B) (k := 1) C (tm_B_find l D dA tt b n ev1) w hS rfl rfl mw_299 mw_301 mw_0 mw_65 mw_302 (by decide +kernel) ⟨by decide, by decide⟩ eu2 rfl (by decide) rfl hl.1 (Nat.le_of_ble_eq_true rfl) ⟨Nat.zero_le _, Nat.zero_le _⟩ rfl dc_B_put_19) hS (fun H locs w hS => ?_)
  refine lv_istore (lv' := [(6, .int v1), (5, .int sx0), (0, .ref a0), (1, .int x1), (2, .int x2), (3, .long y3)]) hx hb dc_B_put_22 hl (by decide) rfl (fun ls hl => ?_)
  refine lv_iload hx hb dc_B_put_24 (lv_at hl 0 rfl) ?_
  refine lv_if_lt hx hb dc_B_put_26 (tgt := 41) (by decide) (fun hc => ?_) (fun hc => ?_)
  · have hF := (if_pos hc).symm.trans hF
    exact tl_B_put_41 C hF w hS (lv_sub hl [2, 3, 4, 5, 1, 0] rfl)
  · have hF := (if_neg hc).symm.trans hF
    refine lv_iload hx hb dc_B_put_29 (lv_at hl 1 rfl) ?_
    refine lv_if_ne hx hb dc_B_put_31 (tgt := 41) (by decide) (fun hc => ?_) (fun hc => ?_)
    · have hF := (if_neg hc).symm.trans hF
      exact tl_B_put_41 C hF w hS (lv_sub hl [2, 3, 4, 5, 1, 0] rfl)
    · have hF := (if_pos hc).symm.trans hF
      refine lv_aload_n hx hb dc_B_put_34 rfl (lv_at hl 2 rfl) ?_
      refine lv_iload hx hb dc_B_put_35 (lv_at hl 0 rfl) ?_
      obtain ⟨u4, eu4, hF⟩ := pl_bd hF
      obtain ⟨q3, eq3, hF⟩ := pl_bd hF
      refine pl_gv (pl_runV (Cn := rn_B) (k := 1) C (tm_B_remove l D dA tt b n eq3) w hS rfl rfl mw_323 mw_325 mw_1 mw_65 mw_326 (by decide +kernel) ⟨by decide, by decide⟩ eu4 rfl (by decide) rfl hl.1 (Nat.le_of_ble_eq_true rfl) ⟨Nat.zero_le _, Nat.zero_le _⟩ rfl dc_B_put_37) hS (fun H locs w hS => ?_)
      exact pl_retVw C w hS hF dc_B_put_40
set_option maxHeartbeats 4000000 in
set_option maxRecDepth 100000 in
theorem tl_B_put_10 {p : Program} {l : Launch} {e : Env} {s : State} {m : MethodId} {args : Array Value} {below : List Frame} {meth : Method} {c : Code} {D : va_G} {dA : Nat → ClassId} {tt : Nat → Nat} {b n : Nat} (C : pl_C p s m args meth c co_B_put 7 rn_B none "put" D dA tt b) {f' : pl_H} {f : pl_H} {a0 : Nat} {x1 : Int32} {x2 : Int32} {y3 : Int64} {H : Heap} {locs : List Loc} {ls : Array Slot} (hF : fn_B_put_10 f a0 x1 x2 y3 = some f') (w : pl_wd D vwCl dA b n f H) (hS : va_S (pl_A b) s.heap H locs) (hl : lv_has ls 7 [(0, .ref a0), (1, .int x1), (2, .int x2), (3, .long y3)]) : W p l e rm_B_put s m args below meth c H locs 0 0 (MQ below (pl_qV D dA tt b n f') args s 0 0 (pl_A b)) (F0 m 10 ls []) := by
  have hx := C.1
  have hb := C.2.1
  have hown := C.2.2.2.2.1
  have hts := C.2.2.2.2.2.2.1
  unfold fn_B_put_10 at hF
  refine lv_iconst (v := 1) hx hb dc_B_put_10 (by decide) ?_
  refine lv_goto hx hb dc_B_put_11 (tgt := 15) (by decide) ?_
  exact tl_B_put_15 C hF w hS (lv_sub hl [0, 1, 2, 3] rfl)
set_option maxHeartbeats 4000000 in
set_option maxRecDepth 100000 in
theorem tl_B_put {p : Program} {l : Launch} {e : Env} {s : State} {m : MethodId} {args : Array Value} {below : List Frame} {meth : Method} {c : Code} {D : va_G} {dA : Nat → ClassId} {tt : Nat → Nat} {b n : Nat} (C : pl_C p s m args meth c co_B_put 7 rn_B none "put" D dA tt b) {f' : pl_H} {f : pl_H} {a0 : Nat} {x1 : Int32} {x2 : Int32} {y3 : Int64} {H : Heap} {locs : List Loc} {ls : Array Slot} (hF : fn_B_put f a0 x1 x2 y3 = some f') (w : pl_wd D vwCl dA b n f H) (hS : va_S (pl_A b) s.heap H locs) (hl : lv_has ls 7 [(0, .ref a0), (1, .int x1), (2, .int x2), (3, .long y3)]) : W p l e rm_B_put s m args below meth c H locs 0 0 (MQ below (pl_qV D dA tt b n f') args s 0 0 (pl_A b)) (F0 m 0 ls []) := by
  have hx := C.1
  have hb := C.2.1
  have hown := C.2.2.2.2.1
  have hts := C.2.2.2.2.2.2.1
  unfold fn_B_put at hF
  refine lv_iload_n hx hb dc_B_put_0 rfl (lv_at hl 2 rfl) ?_
  refine lv_if_ne hx hb dc_B_put_1 (tgt := 10) (by decide) (fun hc => ?_) (fun hc => ?_)
  · have hF := (if_neg hc).symm.trans hF
    exact tl_B_put_10 C hF w hS (lv_sub hl [0, 1, 2, 3] rfl)
  · have hF := (if_pos hc).symm.trans hF
    refine lv_lload_n hx hb dc_B_put_4 rfl (lv_at hl 3 rfl) ?_
    refine lv_lconst (v := 0) hx hb dc_B_put_5 (by decide) ?_
    refine W.lcmp hx hb dc_B_put_6 ?_
    refine lv_if_eq hx hb dc_B_put_7 (tgt := 14) (by decide) (fun hc => ?_) (fun hc => ?_)
    · have hF := (if_pos hc).symm.trans hF
      refine lv_iconst (v := 0) hx hb dc_B_put_14 (by decide) ?_
      exact tl_B_put_15 C hF w hS (lv_sub hl [0, 1, 2, 3] rfl)
    · have hF := (if_neg hc).symm.trans hF
      exact tl_B_put_10 C hF w hS (lv_sub hl [0, 1, 2, 3] rfl)
set_option maxHeartbeats 4000000 in
set_option maxRecDepth 100000 in
theorem tm_B_put (l : Launch) (D : va_G) (dA : Nat → ClassId) (tt : Nat → Nat) (b n : Nat) {f : pl_H} {a0 : Nat} {x1 : Int32} {x2 : Int32} {y3 : Int64} {f' : pl_H} (hF : fn_B_put f a0 x1 x2 y3 = some f') : Met l my_B_put (Cond.code my_B_put co_B_put 7 none :: pl_tb) rm_B_put (va_Pc [.ref a0, .int x1, .int x2, .long y3] (pl_pre D dA tt b n f)) (pl_qV D dA tt b n f') 0 0 (pl_A b) := by
  refine Met.ofW (cc := co_B_put) (maxL := 7) (ret := none) (by decide) rfl ?_
  intro p e s m args below meth c s₁ B hml hv
  obtain ⟨rfl, w, hK⟩ := hv
  have C : pl_C p s m _ meth c co_B_put 7 rn_B none "put" D dA tt b := ⟨B.exec, B.bytes, hml, B.returns, findClass_of_methodNamed B.named, B.notSynchronized, fun w hw => atoms_spec (ws := Cond.code my_B_put co_B_put 7 none :: pl_tb) B.pre w (List.mem_cons_of_mem _ hw), (name_of_methodNamed B.named B.method).1, hK⟩
  have hl := lv_entry ([.ref a0, .int x1, .int x2, .long y3]) (n := 7) (Nat.le_of_ble_eq_true rfl)
  rw [lg_entry_eq]
  generalize (lg_sl ([.ref a0, .int x1, .int x2, .long y3]) ++ List.replicate (7 - (lg_sl ([.ref a0, .int x1, .int x2, .long y3])).length) Slot.unset).toArray = ls at hl ⊢
  have hl : lv_has ls 7 [(0, .ref a0), (1, .int x1), (2, .int x2), (3, .long y3)] := hl
  exact tl_B_put C hF w va_S.rf hl
def rm_B_credit : Room := { frames := 3, cells := 0, slots := 0, locals := 70 }
def fn_B_credit (f : pl_H) (a0 : Nat) (x1 : Int32) (y2 : Int64) : Option (pl_H) := (pl_is f a0 0).bind fun u2 => (fn_B_nonceOf f a0 x1).bind fun v1 => (pl_is f a0 0).bind fun u4 => (fn_B_balanceOf f a0 x1).bind fun v3 => (pl_is f a0 0).bind fun u6 => (fn_B_put f a0 x1 v1 (v3 + y2)).bind fun q5 => some q5
set_option maxHeartbeats 4000000 in
set_option maxRecDepth 100000 in
theorem tl_B_credit {p : Program} {l : Launch} {e : Env} {s : State} {m : MethodId} {args : Array Value} {below : List Frame} {meth : Method} {c : Code} {D : va_G} {dA : Nat → ClassId} {tt : Nat → Nat} {b n : Nat} (C : pl_C p s m args meth c co_B_credit 4 rn_B none "credit" D dA tt b) {f' : pl_H} {f : pl_H} {a0 : Nat} {x1 : Int32} {y2 : Int64} {H : Heap} {locs : List Loc} {ls : Array Slot} (hF : fn_B_credit f a0 x1 y2 = some f') (w : pl_wd D vwCl dA b n f H) (hS : va_S (pl_A b) s.heap H locs) (hl : lv_has ls 4 [(0, .ref a0), (1, .int x1), (2, .long y2)]) : W p l e rm_B_credit s m args below meth c H locs 0 0 (MQ below (pl_qV D dA tt b n f') args s 0 0 (pl_A b)) (F0 m 0 ls []) := by
  have hx := C.1
  have hb := C.2.1
  have hown := C.2.2.2.2.1
  have hts := C.2.2.2.2.2.2.1
  unfold fn_B_credit at hF
  refine lv_aload_n hx hb dc_B_credit_0 rfl (lv_at hl 0 rfl) ?_
  refine lv_iload_n hx hb dc_B_credit_1 rfl (lv_at hl 1 rfl) ?_
  refine lv_aload_n hx hb dc_B_credit_2 rfl (lv_at hl 0 rfl) ?_
  refine lv_iload_n hx hb dc_B_credit_3 rfl (lv_at hl 1 rfl) ?_
  obtain ⟨u2, eu2, hF⟩ := pl_bd hF
  obtain ⟨v1, ev1, hF⟩ := pl_bd hF
  refine pl_gi (pl_runV (Cn := rn_B) (k := 1) C (tm_B_nonceOf l D dA tt b n ev1) w hS rfl rfl mw_311 mw_312 mw_313 mw_65 mw_314 (by decide +kernel) ⟨by decide, by decide⟩ eu2 rfl (by decide) rfl hl.1 (Nat.le_of_ble_eq_true rfl) ⟨Nat.zero_le _, Nat.zero_le _⟩ rfl dc_B_credit_4) hS (fun H locs w hS => ?_)
  refine lv_aload_n hx hb dc_B_credit_7 rfl (lv_at hl 0 rfl) ?_
  refine lv_iload_n hx hb dc_B_credit_8 rfl (lv_at hl 1 rfl) ?_
  obtain ⟨u4, eu4, hF⟩ := pl_bd hF
  obtain ⟨v3, ev3, hF⟩ := pl_bd hF
  refine pl_gl (pl_runV (Cn := rn_B) (k := 1) C (tm_B_balanceOf l D dA tt b n ev3) w hS rfl rfl mw_315 mw_316 mw_317 mw_65 mw_318 (by decide +kernel) ⟨by decide, by decide⟩ eu4 rfl (by decide) rfl hl.1 (Nat.le_of_ble_eq_true rfl) ⟨Nat.zero_le _, Nat.zero_le _⟩ rfl dc_B_credit_9) hS (fun H locs w hS => ?_)
  refine lv_lload_n hx hb dc_B_credit_12 rfl (lv_at hl 2 rfl) ?_
  refine lv_ladd hx hb dc_B_credit_13 ?_
  obtain ⟨u6, eu6, hF⟩ := pl_bd hF
  obtain ⟨q5, eq5, hF⟩ := pl_bd hF
  refine pl_gv (pl_runV (Cn := rn_B) (k := 3) C (tm_B_put l D dA tt b n eq5) w hS rfl rfl mw_319 mw_320 mw_321 mw_65 mw_322 (by decide +kernel) ⟨by decide, by decide⟩ eu6 rfl (by decide) rfl hl.1 (Nat.le_of_ble_eq_true rfl) ⟨Nat.zero_le _, Nat.zero_le _⟩ rfl dc_B_credit_14) hS (fun H locs w hS => ?_)
  exact pl_retVw C w hS hF dc_B_credit_17
set_option maxHeartbeats 4000000 in
set_option maxRecDepth 100000 in
theorem tm_B_credit (l : Launch) (D : va_G) (dA : Nat → ClassId) (tt : Nat → Nat) (b n : Nat) {f : pl_H} {a0 : Nat} {x1 : Int32} {y2 : Int64} {f' : pl_H} (hF : fn_B_credit f a0 x1 y2 = some f') : Met l my_B_credit (Cond.code my_B_credit co_B_credit 4 none :: pl_tb) rm_B_credit (va_Pc [.ref a0, .int x1, .long y2] (pl_pre D dA tt b n f)) (pl_qV D dA tt b n f') 0 0 (pl_A b) := by
  refine Met.ofW (cc := co_B_credit) (maxL := 4) (ret := none) (by decide) rfl ?_
  intro p e s m args below meth c s₁ B hml hv
  obtain ⟨rfl, w, hK⟩ := hv
  have C : pl_C p s m _ meth c co_B_credit 4 rn_B none "credit" D dA tt b := ⟨B.exec, B.bytes, hml, B.returns, findClass_of_methodNamed B.named, B.notSynchronized, fun w hw => atoms_spec (ws := Cond.code my_B_credit co_B_credit 4 none :: pl_tb) B.pre w (List.mem_cons_of_mem _ hw), (name_of_methodNamed B.named B.method).1, hK⟩
  have hl := lv_entry ([.ref a0, .int x1, .long y2]) (n := 4) (Nat.le_of_ble_eq_true rfl)
  rw [lg_entry_eq]
  generalize (lg_sl ([.ref a0, .int x1, .long y2]) ++ List.replicate (4 - (lg_sl ([.ref a0, .int x1, .long y2])).length) Slot.unset).toArray = ls at hl ⊢
  have hl : lv_has ls 4 [(0, .ref a0), (1, .int x1), (2, .long y2)] := hl
  exact tl_B_credit C hF w va_S.rf hl
def rm_B_numberAt : Room := { frames := 0, cells := 0, slots := 0, locals := 0 }
def fn_B_numberAt_22 (f : pl_H) (sx0 : Int32) : Option (Int32) := some sx0
def fn_B_numberAt_21 (f : pl_H) : Option (Int32) := fn_B_numberAt_22 f 0
def fn_B_numberAt (f : pl_H) (a0 : Nat) (x1 : Int32) : Option (Int32) := if x1 < 0 then fn_B_numberAt_21 f else (pl_gI f a0 0 3).bind fun v1 => if v1 ≤ x1 then fn_B_numberAt_21 f else (pl_gR f a0 0 0).bind fun v2 => (pl_aI f v2 x1).bind fun v3 => fn_B_numberAt_22 f v3
set_option maxHeartbeats 4000000 in
set_option maxRecDepth 100000 in
theorem tl_B_numberAt_22 {p : Program} {l : Launch} {e : Env} {s : State} {m : MethodId} {args : Array Value} {below : List Frame} {meth : Method} {c : Code} {D : va_G} {dA : Nat → ClassId} {tt : Nat → Nat} {b n : Nat} (C : pl_C p s m args meth c co_B_numberAt 2 rn_B (some .int) "numberAt" D dA tt b) {r : Int32} {f : pl_H} {sx0 : Int32} {H : Heap} {locs : List Loc} {ls : Array Slot} (hF : fn_B_numberAt_22 f sx0 = some r) (w : pl_wd D vwCl dA b n f H) (hS : va_S (pl_A b) s.heap H locs) (hl : lv_has ls 2 []) : W p l e rm_B_numberAt s m args below meth c H locs 0 0 (MQ below (pl_qI D dA tt b n f r) args s 0 0 (pl_A b)) (F0 m 22 ls [.int sx0]) := by
  have hx := C.1
  have hb := C.2.1
  have hown := C.2.2.2.2.1
  have hts := C.2.2.2.2.2.2.1
  unfold fn_B_numberAt_22 at hF
  exact pl_retI C w hS hF dc_B_numberAt_22
set_option maxHeartbeats 4000000 in
set_option maxRecDepth 100000 in
theorem tl_B_numberAt_21 {p : Program} {l : Launch} {e : Env} {s : State} {m : MethodId} {args : Array Value} {below : List Frame} {meth : Method} {c : Code} {D : va_G} {dA : Nat → ClassId} {tt : Nat → Nat} {b n : Nat} (C : pl_C p s m args meth c co_B_numberAt 2 rn_B (some .int) "numberAt" D dA tt b) {r : Int32} {f : pl_H} {H : Heap} {locs : List Loc} {ls : Array Slot} (hF : fn_B_numberAt_21 f = some r) (w : pl_wd D vwCl dA b n f H) (hS : va_S (pl_A b) s.heap H locs) (hl : lv_has ls 2 []) : W p l e rm_B_numberAt s m args below meth c H locs 0 0 (MQ below (pl_qI D dA tt b n f r) args s 0 0 (pl_A b)) (F0 m 21 ls []) := by
  have hx := C.1
  have hb := C.2.1
  have hown := C.2.2.2.2.1
  have hts := C.2.2.2.2.2.2.1
  unfold fn_B_numberAt_21 at hF
  refine lv_iconst (v := 0) hx hb dc_B_numberAt_21 (by decide) ?_
  exact tl_B_numberAt_22 C hF w hS (lv_sub hl [] rfl)
set_option maxHeartbeats 4000000 in
set_option maxRecDepth 100000 in
theorem tl_B_numberAt {p : Program} {l : Launch} {e : Env} {s : State} {m : MethodId} {args : Array Value} {below : List Frame} {meth : Method} {c : Code} {D : va_G} {dA : Nat → ClassId} {tt : Nat → Nat} {b n : Nat} (C : pl_C p s m args meth c co_B_numberAt 2 rn_B (some .int) "numberAt" D dA tt b) {r : Int32} {f : pl_H} {a0 : Nat} {x1 : Int32} {H : Heap} {locs : List Loc} {ls : Array Slot} (hF : fn_B_numberAt f a0 x1 = some r) (w : pl_wd D vwCl dA b n f H) (hS : va_S (pl_A b) s.heap H locs) (hl : lv_has ls 2 [(0, .ref a0), (1, .int x1)]) : W p l e rm_B_numberAt s m args below meth c H locs 0 0 (MQ below (pl_qI D dA tt b n f r) args s 0 0 (pl_A b)) (F0 m 0 ls []) := by
  have hx := C.1
  have hb := C.2.1
  have hown := C.2.2.2.2.1
  have hts := C.2.2.2.2.2.2.1
  unfold fn_B_numberAt at hF
  refine lv_iload_n hx hb dc_B_numberAt_0 rfl (lv_at hl 1 rfl) ?_
  refine lv_if_lt hx hb dc_B_numberAt_1 (tgt := 21) (by decide) (fun hc => ?_) (fun hc => ?_)
  · have hF := (if_pos hc).symm.trans hF
    exact tl_B_numberAt_21 C hF w hS (lv_sub hl [] rfl)
  · have hF := (if_neg hc).symm.trans hF
    refine lv_iload_n hx hb dc_B_numberAt_4 rfl (lv_at hl 1 rfl) ?_
    refine lv_aload_n hx hb dc_B_numberAt_5 rfl (lv_at hl 0 rfl) ?_
    obtain ⟨v1, ev1, hF⟩ := pl_bd hF
    refine pl_getI C w (ci := 0) in_B rfl (by decide) 3 (by decide) mw_92 ev1 dc_B_numberAt_6 ?_
    refine lv_icmp_ge hx hb dc_B_numberAt_9 (tgt := 21) (by decide) (fun hc => ?_) (fun hc => ?_)
    · have hF := (if_pos hc).symm.trans hF
      exact tl_B_numberAt_21 C hF w hS (lv_sub hl [] rfl)
    · have hF := (if_neg hc).symm.trans hF
      refine lv_aload_n hx hb dc_B_numberAt_12 rfl (lv_at hl 0 rfl) ?_
      obtain ⟨v2, ev2, hF⟩ := pl_bd hF
      refine pl_getR C w (ci := 0) in_B rfl (by decide) 0 (by decide) mw_89 ev2 dc_B_numberAt_13 ?_
      refine lv_iload_n hx hb dc_B_numberAt_16 rfl (lv_at hl 1 rfl) ?_
      obtain ⟨v3, ev3, hF⟩ := pl_bd hF
      refine pl_aldI C w ev3 dc_B_numberAt_17 ?_
      refine lv_goto hx hb dc_B_numberAt_18 (tgt := 22) (by decide) ?_
      exact tl_B_numberAt_22 C hF w hS (lv_sub hl [] rfl)
set_option maxHeartbeats 4000000 in
set_option maxRecDepth 100000 in
theorem tm_B_numberAt (l : Launch) (D : va_G) (dA : Nat → ClassId) (tt : Nat → Nat) (b n : Nat) {f : pl_H} {a0 : Nat} {x1 : Int32} {r : Int32} (hF : fn_B_numberAt f a0 x1 = some r) : Met l my_B_numberAt (Cond.code my_B_numberAt co_B_numberAt 2 (some .int) :: pl_tb) rm_B_numberAt (va_Pc [.ref a0, .int x1] (pl_pre D dA tt b n f)) (pl_qI D dA tt b n f r) 0 0 (pl_A b) := by
  refine Met.ofW (cc := co_B_numberAt) (maxL := 2) (ret := (some .int)) (by decide) rfl ?_
  intro p e s m args below meth c s₁ B hml hv
  obtain ⟨rfl, w, hK⟩ := hv
  have C : pl_C p s m _ meth c co_B_numberAt 2 rn_B (some .int) "numberAt" D dA tt b := ⟨B.exec, B.bytes, hml, B.returns, findClass_of_methodNamed B.named, B.notSynchronized, fun w hw => atoms_spec (ws := Cond.code my_B_numberAt co_B_numberAt 2 (some .int) :: pl_tb) B.pre w (List.mem_cons_of_mem _ hw), (name_of_methodNamed B.named B.method).1, hK⟩
  have hl := lv_entry ([.ref a0, .int x1]) (n := 2) (Nat.le_of_ble_eq_true rfl)
  rw [lg_entry_eq]
  generalize (lg_sl ([.ref a0, .int x1]) ++ List.replicate (2 - (lg_sl ([.ref a0, .int x1])).length) Slot.unset).toArray = ls at hl ⊢
  have hl : lv_has ls 2 [(0, .ref a0), (1, .int x1)] := hl
  exact tl_B_numberAt C hF w va_S.rf hl
