def rm_C_clear : Room := { frames := 0, cells := 0, slots := 0, locals := 0 }
def fn_C_clear (f : pl_H) (a0 : Nat) : Option (pl_H) := (pl_pV f a0 1 1 (.int 0)).bind fun f1 => some f1
set_option maxHeartbeats 4000000 in
set_option maxRecDepth 100000 in
theorem tl_C_clear {p : Program} {l : Launch} {e : Env} {s : State} {m : MethodId} {args : Array Value} {below : List Frame} {meth : Method} {c : Code} {D : va_G} {dA : Nat → ClassId} {tt : Nat → Nat} {b n : Nat} (C : pl_C p s m args meth c co_C_clear 1 rn_C none "clear" D dA tt b) {f' : pl_H} {f : pl_H} {a0 : Nat} {H : Heap} {locs : List Loc} {ls : Array Slot} (hF : fn_C_clear f a0 = some f') (w : pl_wd D vwCl dA b n f H) (hS : va_S (pl_A b) s.heap H locs) (hl : lv_has ls 1 [(0, .ref a0)]) : W p l e rm_C_clear s m args below meth c H locs 0 0 (MQ below (pl_qV D dA tt b n f') args s 0 0 (pl_A b)) (F0 m 0 ls []) := by
  have hx := C.1
  have hb := C.2.1
  have hown := C.2.2.2.2.1
  have hts := C.2.2.2.2.2.2.1
  unfold fn_C_clear at hF
  refine lv_aload_n hx hb dc_C_clear_0 rfl (lv_at hl 0 rfl) ?_
  refine lv_iconst (v := 0) hx hb dc_C_clear_1 (by decide) ?_
  obtain ⟨f1, ef1, hF⟩ := pl_bd hF
  refine pl_put C w hS (ci := 1) in_C rfl (by decide) rty_C_ok rnm_C 1 (by decide) mw_133 rfl rfl rfl ef1 dc_C_clear_2 (fun H locs w hS => ?_)
  exact pl_retVw C w hS hF dc_C_clear_5
set_option maxHeartbeats 4000000 in
set_option maxRecDepth 100000 in
theorem tm_C_clear (l : Launch) (D : va_G) (dA : Nat → ClassId) (tt : Nat → Nat) (b n : Nat) {f : pl_H} {a0 : Nat} {f' : pl_H} (hF : fn_C_clear f a0 = some f') : Met l my_C_clear (Cond.code my_C_clear co_C_clear 1 none :: pl_tb) rm_C_clear (va_Pc [.ref a0] (pl_pre D dA tt b n f)) (pl_qV D dA tt b n f') 0 0 (pl_A b) := by
  refine Met.ofW (cc := co_C_clear) (maxL := 1) (ret := none) (by decide) rfl ?_
  intro p e s m args below meth c s₁ B hml hv
  obtain ⟨rfl, w, hK⟩ := hv
  have C : pl_C p s m _ meth c co_C_clear 1 rn_C none "clear" D dA tt b := ⟨B.exec, B.bytes, hml, B.returns, findClass_of_methodNamed B.named, B.notSynchronized, fun w hw => atoms_spec (ws := Cond.code my_C_clear co_C_clear 1 none :: pl_tb) B.pre w (List.mem_cons_of_mem _ hw), (name_of_methodNamed B.named B.method).1, hK⟩
  have hl := lv_entry ([.ref a0]) (n := 1) (Nat.le_of_ble_eq_true rfl)
  rw [lg_entry_eq]
  generalize (lg_sl ([.ref a0]) ++ List.replicate (1 - (lg_sl ([.ref a0])).length) Slot.unset).toArray = ls at hl ⊢
  have hl : lv_has ls 1 [(0, .ref a0)] := hl
  exact tl_C_clear C hF w va_S.rf hl
def rm_C_put : Room := { frames := 0, cells := 0, slots := 0, locals := 0 }
def fn_C_put_32 (f : pl_H) : Option (pl_H) := some f
def fn_C_put (f : pl_H) (a0 : Nat) (x1 : Int32) : Option (pl_H) := (pl_gI f a0 1 1).bind fun v1 => (pl_gR f a0 1 0).bind fun v2 => (pl_ln f v2).bind fun v3 => if v3 ≤ v1 then fn_C_put_32 f else (pl_gR f a0 1 0).bind fun v4 => (pl_gI f a0 1 1).bind fun v5 => (pl_sI f v4 v5 x1).bind fun f6 => (pl_gI f6 a0 1 1).bind fun v7 => (pl_pV f6 a0 1 1 (.int (v7 + 1))).bind fun f8 => fn_C_put_32 f8
set_option maxHeartbeats 4000000 in
set_option maxRecDepth 100000 in
theorem tl_C_put_32 {p : Program} {l : Launch} {e : Env} {s : State} {m : MethodId} {args : Array Value} {below : List Frame} {meth : Method} {c : Code} {D : va_G} {dA : Nat → ClassId} {tt : Nat → Nat} {b n : Nat} (C : pl_C p s m args meth c co_C_put 2 rn_C none "put" D dA tt b) {f' : pl_H} {f : pl_H} {H : Heap} {locs : List Loc} {ls : Array Slot} (hF : fn_C_put_32 f = some f') (w : pl_wd D vwCl dA b n f H) (hS : va_S (pl_A b) s.heap H locs) (hl : lv_has ls 2 []) : W p l e rm_C_put s m args below meth c H locs 0 0 (MQ below (pl_qV D dA tt b n f') args s 0 0 (pl_A b)) (F0 m 32 ls []) := by
  have hx := C.1
  have hb := C.2.1
  have hown := C.2.2.2.2.1
  have hts := C.2.2.2.2.2.2.1
  unfold fn_C_put_32 at hF
  exact pl_retVw C w hS hF dc_C_put_32
set_option maxHeartbeats 4000000 in
set_option maxRecDepth 100000 in
theorem tl_C_put {p : Program} {l : Launch} {e : Env} {s : State} {m : MethodId} {args : Array Value} {below : List Frame} {meth : Method} {c : Code} {D : va_G} {dA : Nat → ClassId} {tt : Nat → Nat} {b n : Nat} (C : pl_C p s m args meth c co_C_put 2 rn_C none "put" D dA tt b) {f' : pl_H} {f : pl_H} {a0 : Nat} {x1 : Int32} {H : Heap} {locs : List Loc} {ls : Array Slot} (hF : fn_C_put f a0 x1 = some f') (w : pl_wd D vwCl dA b n f H) (hS : va_S (pl_A b) s.heap H locs) (hl : lv_has ls 2 [(0, .ref a0), (1, .int x1)]) : W p l e rm_C_put s m args below meth c H locs 0 0 (MQ below (pl_qV D dA tt b n f') args s 0 0 (pl_A b)) (F0 m 0 ls []) := by
  have hx := C.1
  have hb := C.2.1
  have hown := C.2.2.2.2.1
  have hts := C.2.2.2.2.2.2.1
  unfold fn_C_put at hF
  refine lv_aload_n hx hb dc_C_put_0 rfl (lv_at hl 0 rfl) ?_
  obtain ⟨v1, ev1, hF⟩ := pl_bd hF
  refine pl_getI C w (ci := 1) in_C rfl (by decide) 1 (by decide) mw_133 ev1 dc_C_put_1 ?_
  refine lv_aload_n hx hb dc_C_put_4 rfl (lv_at hl 0 rfl) ?_
  obtain ⟨v2, ev2, hF⟩ := pl_bd hF
  refine pl_getR C w (ci := 1) in_C rfl (by decide) 0 (by decide) mw_132 ev2 dc_C_put_5 ?_
  obtain ⟨v3, ev3, hF⟩ := pl_bd hF
  refine pl_len C w ev3 dc_C_put_8 ?_
  refine lv_icmp_ge hx hb dc_C_put_9 (tgt := 32) (by decide) (fun hc => ?_) (fun hc => ?_)
  · have hF := (if_pos hc).symm.trans hF
    exact tl_C_put_32 C hF w hS (lv_sub hl [] rfl)
  · have hF := (if_neg hc).symm.trans hF
    refine lv_aload_n hx hb dc_C_put_12 rfl (lv_at hl 0 rfl) ?_
    obtain ⟨v4, ev4, hF⟩ := pl_bd hF
    refine pl_getR C w (ci := 1) in_C rfl (by decide) 0 (by decide) mw_132 ev4 dc_C_put_13 ?_
    refine lv_aload_n hx hb dc_C_put_16 rfl (lv_at hl 0 rfl) ?_
    obtain ⟨v5, ev5, hF⟩ := pl_bd hF
    refine pl_getI C w (ci := 1) in_C rfl (by decide) 1 (by decide) mw_133 ev5 dc_C_put_17 ?_
    refine lv_iload_n hx hb dc_C_put_20 rfl (lv_at hl 1 rfl) ?_
    obtain ⟨f6, ef6, hF⟩ := pl_bd hF
    refine pl_astI C w hS ef6 dc_C_put_21 (fun H locs w hS => ?_)
    refine lv_aload_n hx hb dc_C_put_22 rfl (lv_at hl 0 rfl) ?_
    refine lv_dup hx hb dc_C_put_23 rfl ?_
    obtain ⟨v7, ev7, hF⟩ := pl_bd hF
    refine pl_getI C w (ci := 1) in_C rfl (by decide) 1 (by decide) mw_133 ev7 dc_C_put_24 ?_
    refine lv_iconst (v := 1) hx hb dc_C_put_27 (by decide) ?_
    refine lv_iadd hx hb dc_C_put_28 ?_
    obtain ⟨f8, ef8, hF⟩ := pl_bd hF
    refine pl_put C w hS (ci := 1) in_C rfl (by decide) rty_C_ok rnm_C 1 (by decide) mw_133 rfl rfl rfl ef8 dc_C_put_29 (fun H locs w hS => ?_)
    exact tl_C_put_32 C hF w hS (lv_sub hl [] rfl)
set_option maxHeartbeats 4000000 in
set_option maxRecDepth 100000 in
theorem tm_C_put (l : Launch) (D : va_G) (dA : Nat → ClassId) (tt : Nat → Nat) (b n : Nat) {f : pl_H} {a0 : Nat} {x1 : Int32} {f' : pl_H} (hF : fn_C_put f a0 x1 = some f') : Met l my_C_put (Cond.code my_C_put co_C_put 2 none :: pl_tb) rm_C_put (va_Pc [.ref a0, .int x1] (pl_pre D dA tt b n f)) (pl_qV D dA tt b n f') 0 0 (pl_A b) := by
  refine Met.ofW (cc := co_C_put) (maxL := 2) (ret := none) (by decide) rfl ?_
  intro p e s m args below meth c s₁ B hml hv
  obtain ⟨rfl, w, hK⟩ := hv
  have C : pl_C p s m _ meth c co_C_put 2 rn_C none "put" D dA tt b := ⟨B.exec, B.bytes, hml, B.returns, findClass_of_methodNamed B.named, B.notSynchronized, fun w hw => atoms_spec (ws := Cond.code my_C_put co_C_put 2 none :: pl_tb) B.pre w (List.mem_cons_of_mem _ hw), (name_of_methodNamed B.named B.method).1, hK⟩
  have hl := lv_entry ([.ref a0, .int x1]) (n := 2) (Nat.le_of_ble_eq_true rfl)
  rw [lg_entry_eq]
  generalize (lg_sl ([.ref a0, .int x1]) ++ List.replicate (2 - (lg_sl ([.ref a0, .int x1])).length) Slot.unset).toArray = ls at hl ⊢
  have hl : lv_has ls 2 [(0, .ref a0), (1, .int x1)] := hl
  exact tl_C_put C hF w va_S.rf hl
def rm_C_open : Room := { frames := 1, cells := 0, slots := 0, locals := 21 }
def fn_C_open_7 : Nat → pl_H → Nat → Int32 → Int32 → Option (Int32 × pl_H)
  | 0 => fun _ _ _ _ => none
  | k + 1 => fun f a0 x1 x2 => if 3 ≤ x2 then some (x1, f) else (pl_is f a0 1).bind fun u2 => (fn_C_put f a0 0).bind fun q1 => fn_C_open_7 k q1 a0 x1 (x2 + 1)
def fn_C_open (f : pl_H) (a0 : Nat) : Option (Int32 × pl_H) := (pl_gI f a0 1 1).bind fun v1 => fn_C_open_7 pl_N f a0 v1 0
set_option maxHeartbeats 4000000 in
set_option maxRecDepth 100000 in
theorem tl_C_open_7 {p : Program} {l : Launch} {e : Env} {s : State} {m : MethodId} {args : Array Value} {below : List Frame} {meth : Method} {c : Code} {D : va_G} {dA : Nat → ClassId} {tt : Nat → Nat} {b n : Nat} (C : pl_C p s m args meth c co_C_open 3 rn_C (some .int) "open" D dA tt b) {r : Int32} {f' : pl_H} : ∀ k : Nat, ∀ (f : pl_H) (a0 : Nat) (x1 : Int32) (x2 : Int32) (H : Heap) (locs : List Loc) (ls : Array Slot), fn_C_open_7 k f a0 x1 x2 = some (r, f') → pl_wd D vwCl dA b n f H → va_S (pl_A b) s.heap H locs → lv_has ls 3 [(0, .ref a0), (1, .int x1), (2, .int x2)] → W p l e rm_C_open s m args below meth c H locs 0 0 (MQ below (pl_qI D dA tt b n f' r) args s 0 0 (pl_A b)) (F0 m 7 ls []) := by
  have hx := C.1
  have hb := C.2.1
  have hown := C.2.2.2.2.1
  have hts := C.2.2.2.2.2.2.1
  intro k
  induction k with
  | zero =>
    intro f a0 x1 x2 H locs ls hF
    cases hF
  | succ k ih =>
    intro f a0 x1 x2 H locs ls hF w hS hl
    unfold fn_C_open_7 at hF
    refine lv_iload_n hx hb dc_C_open_7 rfl (lv_at hl 2 rfl) ?_
    refine lv_iconst (v := 3) hx hb dc_C_open_8 (by decide) ?_
    refine lv_icmp_ge hx hb dc_C_open_9 (tgt := 23) (by decide) (fun hc => ?_) (fun hc => ?_)
    · have hF := (if_pos hc).symm.trans hF
      refine lv_iload_n hx hb dc_C_open_23 rfl (lv_at hl 1 rfl) ?_
      exact pl_retIw C w hS hF dc_C_open_24
    · have hF := (if_neg hc).symm.trans hF
      refine lv_aload_n hx hb dc_C_open_12 rfl (lv_at hl 0 rfl) ?_
      refine lv_iconst (v := 0) hx hb dc_C_open_13 (by decide) ?_
      obtain ⟨u2, eu2, hF⟩ := pl_bd hF
      obtain ⟨q1, eq1, hF⟩ := pl_bd hF
      refine pl_gv (pl_runV (Cn := rn_C) (k := 1) C (tm_C_put l D dA tt b n eq1) w hS rfl rfl mw_398 mw_399 mw_400 mw_68 mw_401 (by decide +kernel) ⟨by decide, by decide⟩ eu2 rfl (by decide) rfl hl.1 (Nat.le_of_ble_eq_true rfl) ⟨Nat.zero_le _, Nat.zero_le _⟩ rfl dc_C_open_14) hS (fun H locs w hS => ?_)
      refine lv_iinc (k := 2) (v := x2 + 1) (lv' := [(2, .int (x2 + 1)), (0, .ref a0), (1, .int x1)]) hx hb dc_C_open_17 hl rfl rfl (by decide) rfl (fun ls hl => ?_)
      refine lv_goto hx hb dc_C_open_20 (tgt := 7) (by decide) ?_
      exact ih q1 a0 x1 (x2 + 1) _ _ _ hF w hS (lv_sub hl [1, 2, 0] rfl)
set_option maxHeartbeats 4000000 in
set_option maxRecDepth 100000 in
theorem tl_C_open {p : Program} {l : Launch} {e : Env} {s : State} {m : MethodId} {args : Array Value} {below : List Frame} {meth : Method} {c : Code} {D : va_G} {dA : Nat → ClassId} {tt : Nat → Nat} {b n : Nat} (C : pl_C p s m args meth c co_C_open 3 rn_C (some .int) "open" D dA tt b) {r : Int32} {f' : pl_H} {f : pl_H} {a0 : Nat} {H : Heap} {locs : List Loc} {ls : Array Slot} (hF : fn_C_open f a0 = some (r, f')) (w : pl_wd D vwCl dA b n f H) (hS : va_S (pl_A b) s.heap H locs) (hl : lv_has ls 3 [(0, .ref a0)]) : W p l e rm_C_open s m args below meth c H locs 0 0 (MQ below (pl_qI D dA tt b n f' r) args s 0 0 (pl_A b)) (F0 m 0 ls []) := by
  have hx := C.1
  have hb := C.2.1
  have hown := C.2.2.2.2.1
  have hts := C.2.2.2.2.2.2.1
  unfold fn_C_open at hF
  refine lv_aload_n hx hb dc_C_open_0 rfl (lv_at hl 0 rfl) ?_
  obtain ⟨v1, ev1, hF⟩ := pl_bd hF
  refine pl_getI C w (ci := 1) in_C rfl (by decide) 1 (by decide) mw_133 ev1 dc_C_open_1 ?_
  refine lv_istore_n (lv' := [(1, .int v1), (0, .ref a0)]) hx hb dc_C_open_4 rfl hl (by decide) rfl (fun ls hl => ?_)
  refine lv_iconst (v := 0) hx hb dc_C_open_5 (by decide) ?_
  refine lv_istore_n (lv' := [(2, .int 0), (1, .int v1), (0, .ref a0)]) hx hb dc_C_open_6 rfl hl (by decide) rfl (fun ls hl => ?_)
  exact tl_C_open_7 C pl_N f a0 v1 0 _ _ _ hF w hS (lv_sub hl [2, 1, 0] rfl)
set_option maxHeartbeats 4000000 in
set_option maxRecDepth 100000 in
theorem tm_C_open (l : Launch) (D : va_G) (dA : Nat → ClassId) (tt : Nat → Nat) (b n : Nat) {f : pl_H} {a0 : Nat} {r : Int32} {f' : pl_H} (hF : fn_C_open f a0 = some (r, f')) : Met l my_C_open (Cond.code my_C_open co_C_open 3 (some .int) :: pl_tb) rm_C_open (va_Pc [.ref a0] (pl_pre D dA tt b n f)) (pl_qI D dA tt b n f' r) 0 0 (pl_A b) := by
  refine Met.ofW (cc := co_C_open) (maxL := 3) (ret := (some .int)) (by decide) rfl ?_
  intro p e s m args below meth c s₁ B hml hv
  obtain ⟨rfl, w, hK⟩ := hv
  have C : pl_C p s m _ meth c co_C_open 3 rn_C (some .int) "open" D dA tt b := ⟨B.exec, B.bytes, hml, B.returns, findClass_of_methodNamed B.named, B.notSynchronized, fun w hw => atoms_spec (ws := Cond.code my_C_open co_C_open 3 (some .int) :: pl_tb) B.pre w (List.mem_cons_of_mem _ hw), (name_of_methodNamed B.named B.method).1, hK⟩
  have hl := lv_entry ([.ref a0]) (n := 3) (Nat.le_of_ble_eq_true rfl)
  rw [lg_entry_eq]
  generalize (lg_sl ([.ref a0]) ++ List.replicate (3 - (lg_sl ([.ref a0])).length) Slot.unset).toArray = ls at hl ⊢
  have hl : lv_has ls 3 [(0, .ref a0)] := hl
  exact tl_C_open C hF w va_S.rf hl
def rm_C_putHead : Room := { frames := 1, cells := 0, slots := 0, locals := 21 }
def fn_C_putHead_68 (f : pl_H) : Option (pl_H) := some f
def fn_C_putHead (f : pl_H) (a0 : Nat) (x1 : Int32) (x2 : Int32) : Option (pl_H) := if 55 < x2 then if 256 ≤ x2 then (pl_is f a0 1).bind fun u2 => (fn_C_put f a0 ((x1 + 55) + 2)).bind fun q1 => (pl_is q1 a0 1).bind fun u4 => (fn_C_put q1 a0 (x2 >>> (8 &&& 31))).bind fun q3 => (pl_is q3 a0 1).bind fun u6 => (fn_C_put q3 a0 (x2 &&& 255)).bind fun q5 => fn_C_putHead_68 q5 else (pl_is f a0 1).bind fun u8 => (fn_C_put f a0 ((x1 + 55) + 1)).bind fun q7 => (pl_is q7 a0 1).bind fun u10 => (fn_C_put q7 a0 x2).bind fun q9 => fn_C_putHead_68 q9 else (pl_is f a0 1).bind fun u12 => (fn_C_put f a0 (x1 + x2)).bind fun q11 => fn_C_putHead_68 q11
set_option maxHeartbeats 4000000 in
set_option maxRecDepth 100000 in
theorem tl_C_putHead_68 {p : Program} {l : Launch} {e : Env} {s : State} {m : MethodId} {args : Array Value} {below : List Frame} {meth : Method} {c : Code} {D : va_G} {dA : Nat → ClassId} {tt : Nat → Nat} {b n : Nat} (C : pl_C p s m args meth c co_C_putHead 3 rn_C none "putHead" D dA tt b) {f' : pl_H} {f : pl_H} {H : Heap} {locs : List Loc} {ls : Array Slot} (hF : fn_C_putHead_68 f = some f') (w : pl_wd D vwCl dA b n f H) (hS : va_S (pl_A b) s.heap H locs) (hl : lv_has ls 3 []) : W p l e rm_C_putHead s m args below meth c H locs 0 0 (MQ below (pl_qV D dA tt b n f') args s 0 0 (pl_A b)) (F0 m 68 ls []) := by
  have hx := C.1
  have hb := C.2.1
  have hown := C.2.2.2.2.1
  have hts := C.2.2.2.2.2.2.1
  unfold fn_C_putHead_68 at hF
  exact pl_retVw C w hS hF dc_C_putHead_68
set_option maxHeartbeats 4000000 in
set_option maxRecDepth 100000 in
theorem tl_C_putHead {p : Program} {l : Launch} {e : Env} {s : State} {m : MethodId} {args : Array Value} {below : List Frame} {meth : Method} {c : Code} {D : va_G} {dA : Nat → ClassId} {tt : Nat → Nat} {b n : Nat} (C : pl_C p s m args meth c co_C_putHead 3 rn_C none "putHead" D dA tt b) {f' : pl_H} {f : pl_H} {a0 : Nat} {x1 : Int32} {x2 : Int32} {H : Heap} {locs : List Loc} {ls : Array Slot} (hF : fn_C_putHead f a0 x1 x2 = some f') (w : pl_wd D vwCl dA b n f H) (hS : va_S (pl_A b) s.heap H locs) (hl : lv_has ls 3 [(0, .ref a0), (1, .int x1), (2, .int x2)]) : W p l e rm_C_putHead s m args below meth c H locs 0 0 (MQ below (pl_qV D dA tt b n f') args s 0 0 (pl_A b)) (F0 m 0 ls []) := by
  have hx := C.1
  have hb := C.2.1
  have hown := C.2.2.2.2.1
  have hts := C.2.2.2.2.2.2.1
  unfold fn_C_putHead at hF
  refine lv_iload_n hx hb dc_C_putHead_0 rfl (lv_at hl 2 rfl) ?_
  refine lv_bipush (v := 55) hx hb dc_C_putHead_1 (by decide) ?_
  refine lv_icmp_gt hx hb dc_C_putHead_3 (tgt := 16) (by decide) (fun hc => ?_) (fun hc => ?_)
  · have hF := (if_pos hc).symm.trans hF
    refine lv_iload_n hx hb dc_C_putHead_16 rfl (lv_at hl 2 rfl) ?_
    refine lv_sipush (v := 256) hx hb dc_C_putHead_17 (by decide) ?_
    refine lv_icmp_ge hx hb dc_C_putHead_20 (tgt := 41) (by decide) (fun hc => ?_) (fun hc => ?_)
    · have hF := (if_pos hc).symm.trans hF
      refine lv_aload_n hx hb dc_C_putHead_41 rfl (lv_at hl 0 rfl) ?_
      refine lv_iload_n hx hb dc_C_putHead_42 rfl (lv_at hl 1 rfl) ?_
      refine lv_bipush (v := 55) hx hb dc_C_putHead_43 (by decide) ?_
      refine lv_iadd hx hb dc_C_putHead_45 ?_
      refine lv_iconst (v := 2) hx hb dc_C_putHead_46 (by decide) ?_
      refine lv_iadd hx hb dc_C_putHead_47 ?_
      obtain ⟨u2, eu2, hF⟩ := pl_bd hF
      obtain ⟨q1, eq1, hF⟩ := pl_bd hF
      refine pl_gv (pl_runV (Cn := rn_C) (k := 1) C (tm_C_put l D dA tt b n eq1) w hS rfl rfl mw_398 mw_399 mw_400 mw_68 mw_401 (by decide +kernel) ⟨by decide, by decide⟩ eu2 rfl (by decide) rfl hl.1 (Nat.le_of_ble_eq_true rfl) ⟨Nat.zero_le _, Nat.zero_le _⟩ rfl dc_C_putHead_48) hS (fun H locs w hS => ?_)
      refine lv_aload_n hx hb dc_C_putHead_51 rfl (lv_at hl 0 rfl) ?_
      refine lv_iload_n hx hb dc_C_putHead_52 rfl (lv_at hl 2 rfl) ?_
      refine lv_bipush (v := 8) hx hb dc_C_putHead_53 (by decide) ?_
      refine lv_ishr hx hb dc_C_putHead_55 ?_
      obtain ⟨u4, eu4, hF⟩ := pl_bd hF
      obtain ⟨q3, eq3, hF⟩ := pl_bd hF
      refine pl_gv (pl_runV (Cn := rn_C) (k := 1) C (tm_C_put l D dA tt b n eq3) w hS rfl rfl mw_398 mw_399 mw_400 mw_68 mw_401 (by decide +kernel) ⟨by decide, by decide⟩ eu4 rfl (by decide) rfl hl.1 (Nat.le_of_ble_eq_true rfl) ⟨Nat.zero_le _, Nat.zero_le _⟩ rfl dc_C_putHead_56) hS (fun H locs w hS => ?_)
      refine lv_aload_n hx hb dc_C_putHead_59 rfl (lv_at hl 0 rfl) ?_
      refine lv_iload_n hx hb dc_C_putHead_60 rfl (lv_at hl 2 rfl) ?_
      refine lv_sipush (v := 255) hx hb dc_C_putHead_61 (by decide) ?_
      refine lv_iand hx hb dc_C_putHead_64 ?_
      obtain ⟨u6, eu6, hF⟩ := pl_bd hF
      obtain ⟨q5, eq5, hF⟩ := pl_bd hF
      refine pl_gv (pl_runV (Cn := rn_C) (k := 1) C (tm_C_put l D dA tt b n eq5) w hS rfl rfl mw_398 mw_399 mw_400 mw_68 mw_401 (by decide +kernel) ⟨by decide, by decide⟩ eu6 rfl (by decide) rfl hl.1 (Nat.le_of_ble_eq_true rfl) ⟨Nat.zero_le _, Nat.zero_le _⟩ rfl dc_C_putHead_65) hS (fun H locs w hS => ?_)
      exact tl_C_putHead_68 C hF w hS (lv_sub hl [] rfl)
    · have hF := (if_neg hc).symm.trans hF
      refine lv_aload_n hx hb dc_C_putHead_23 rfl (lv_at hl 0 rfl) ?_
      refine lv_iload_n hx hb dc_C_putHead_24 rfl (lv_at hl 1 rfl) ?_
      refine lv_bipush (v := 55) hx hb dc_C_putHead_25 (by decide) ?_
      refine lv_iadd hx hb dc_C_putHead_27 ?_
      refine lv_iconst (v := 1) hx hb dc_C_putHead_28 (by decide) ?_
      refine lv_iadd hx hb dc_C_putHead_29 ?_
      obtain ⟨u8, eu8, hF⟩ := pl_bd hF
      obtain ⟨q7, eq7, hF⟩ := pl_bd hF
      refine pl_gv (pl_runV (Cn := rn_C) (k := 1) C (tm_C_put l D dA tt b n eq7) w hS rfl rfl mw_398 mw_399 mw_400 mw_68 mw_401 (by decide +kernel) ⟨by decide, by decide⟩ eu8 rfl (by decide) rfl hl.1 (Nat.le_of_ble_eq_true rfl) ⟨Nat.zero_le _, Nat.zero_le _⟩ rfl dc_C_putHead_30) hS (fun H locs w hS => ?_)
      refine lv_aload_n hx hb dc_C_putHead_33 rfl (lv_at hl 0 rfl) ?_
      refine lv_iload_n hx hb dc_C_putHead_34 rfl (lv_at hl 2 rfl) ?_
      obtain ⟨u10, eu10, hF⟩ := pl_bd hF
      obtain ⟨q9, eq9, hF⟩ := pl_bd hF
      refine pl_gv (pl_runV (Cn := rn_C) (k := 1) C (tm_C_put l D dA tt b n eq9) w hS rfl rfl mw_398 mw_399 mw_400 mw_68 mw_401 (by decide +kernel) ⟨by decide, by decide⟩ eu10 rfl (by decide) rfl hl.1 (Nat.le_of_ble_eq_true rfl) ⟨Nat.zero_le _, Nat.zero_le _⟩ rfl dc_C_putHead_35) hS (fun H locs w hS => ?_)
      refine lv_goto hx hb dc_C_putHead_38 (tgt := 68) (by decide) ?_
      exact tl_C_putHead_68 C hF w hS (lv_sub hl [] rfl)
  · have hF := (if_neg hc).symm.trans hF
    refine lv_aload_n hx hb dc_C_putHead_6 rfl (lv_at hl 0 rfl) ?_
    refine lv_iload_n hx hb dc_C_putHead_7 rfl (lv_at hl 1 rfl) ?_
    refine lv_iload_n hx hb dc_C_putHead_8 rfl (lv_at hl 2 rfl) ?_
    refine lv_iadd hx hb dc_C_putHead_9 ?_
    obtain ⟨u12, eu12, hF⟩ := pl_bd hF
    obtain ⟨q11, eq11, hF⟩ := pl_bd hF
    refine pl_gv (pl_runV (Cn := rn_C) (k := 1) C (tm_C_put l D dA tt b n eq11) w hS rfl rfl mw_398 mw_399 mw_400 mw_68 mw_401 (by decide +kernel) ⟨by decide, by decide⟩ eu12 rfl (by decide) rfl hl.1 (Nat.le_of_ble_eq_true rfl) ⟨Nat.zero_le _, Nat.zero_le _⟩ rfl dc_C_putHead_10) hS (fun H locs w hS => ?_)
    refine lv_goto hx hb dc_C_putHead_13 (tgt := 68) (by decide) ?_
    exact tl_C_putHead_68 C hF w hS (lv_sub hl [] rfl)
set_option maxHeartbeats 4000000 in
set_option maxRecDepth 100000 in
theorem tm_C_putHead (l : Launch) (D : va_G) (dA : Nat → ClassId) (tt : Nat → Nat) (b n : Nat) {f : pl_H} {a0 : Nat} {x1 : Int32} {x2 : Int32} {f' : pl_H} (hF : fn_C_putHead f a0 x1 x2 = some f') : Met l my_C_putHead (Cond.code my_C_putHead co_C_putHead 3 none :: pl_tb) rm_C_putHead (va_Pc [.ref a0, .int x1, .int x2] (pl_pre D dA tt b n f)) (pl_qV D dA tt b n f') 0 0 (pl_A b) := by
  refine Met.ofW (cc := co_C_putHead) (maxL := 3) (ret := none) (by decide) rfl ?_
  intro p e s m args below meth c s₁ B hml hv
  obtain ⟨rfl, w, hK⟩ := hv
  have C : pl_C p s m _ meth c co_C_putHead 3 rn_C none "putHead" D dA tt b := ⟨B.exec, B.bytes, hml, B.returns, findClass_of_methodNamed B.named, B.notSynchronized, fun w hw => atoms_spec (ws := Cond.code my_C_putHead co_C_putHead 3 none :: pl_tb) B.pre w (List.mem_cons_of_mem _ hw), (name_of_methodNamed B.named B.method).1, hK⟩
  have hl := lv_entry ([.ref a0, .int x1, .int x2]) (n := 3) (Nat.le_of_ble_eq_true rfl)
  rw [lg_entry_eq]
  generalize (lg_sl ([.ref a0, .int x1, .int x2]) ++ List.replicate (3 - (lg_sl ([.ref a0, .int x1, .int x2])).length) Slot.unset).toArray = ls at hl ⊢
  have hl : lv_has ls 3 [(0, .ref a0), (1, .int x1), (2, .int x2)] := hl
  exact tl_C_putHead C hF w va_S.rf hl
def rm_C_shut : Room := { frames := 2, cells := 0, slots := 0, locals := 43 }
def fn_C_shut_75 : Nat → pl_H → Nat → Int32 → Int32 → Int32 → Option (pl_H)
  | 0 => fun _ _ _ _ _ => none
  | k + 1 => fun f a0 x3 x4 x6 => if (x3 + x4) ≤ x6 then some f else (pl_gR f a0 1 0).bind fun v1 => (pl_aI f v1 x6).bind fun v2 => (pl_is f a0 1).bind fun u4 => (fn_C_put f a0 v2).bind fun q3 => fn_C_shut_75 k q3 a0 x3 x4 (x6 + 1)
def fn_C_shut_72 (f : pl_H) (a0 : Nat) (x3 : Int32) (x4 : Int32) : Option (pl_H) := fn_C_shut_75 pl_N f a0 x3 x4 x3
def fn_C_shut_65 (f : pl_H) (a0 : Nat) (x2 : Int32) (x3 : Int32) (x4 : Int32) : Option (pl_H) := (pl_is f a0 1).bind fun u2 => (fn_C_putHead f a0 x2 x4).bind fun q1 => fn_C_shut_72 q1 a0 x3 x4
def fn_C_shut_37 (f : pl_H) (a0 : Nat) (x1 : Int32) (x2 : Int32) (x3 : Int32) (x4 : Int32) (sx0 : Int32) : Option (pl_H) := (pl_pV f a0 1 1 (.int x1)).bind fun f1 => if x2 = 192 then fn_C_shut_65 f1 a0 x2 x3 x4 else if x4 = 1 then if sx0 < 128 then fn_C_shut_72 f1 a0 x3 x4 else fn_C_shut_65 f1 a0 x2 x3 x4 else fn_C_shut_65 f1 a0 x2 x3 x4
def fn_C_shut_21 (f : pl_H) : Option (pl_H) := some f
def fn_C_shut (f : pl_H) (a0 : Nat) (x1 : Int32) (x2 : Int32) : Option (pl_H) := (pl_gI f a0 1 1).bind fun v1 => if x1 < 0 then fn_C_shut_21 f else if 0 ≤ (v1 - (x1 + 3)) then if (v1 - (x1 + 3)) = 0 then fn_C_shut_37 f a0 x1 x2 (x1 + 3) (v1 - (x1 + 3)) 0 else (pl_gR f a0 1 0).bind fun v2 => (pl_aI f v2 (x1 + 3)).bind fun v3 => fn_C_shut_37 f a0 x1 x2 (x1 + 3) (v1 - (x1 + 3)) v3 else fn_C_shut_21 f
set_option maxHeartbeats 4000000 in
set_option maxRecDepth 100000 in
theorem tl_C_shut_75 {p : Program} {l : Launch} {e : Env} {s : State} {m : MethodId} {args : Array Value} {below : List Frame} {meth : Method} {c : Code} {D : va_G} {dA : Nat → ClassId} {tt : Nat → Nat} {b n : Nat} (C : pl_C p s m args meth c co_C_shut 7 rn_C none "shut" D dA tt b) {f' : pl_H} : ∀ k : Nat, ∀ (f : pl_H) (a0 : Nat) (x3 : Int32) (x4 : Int32) (x6 : Int32) (H : Heap) (locs : List Loc) (ls : Array Slot), fn_C_shut_75 k f a0 x3 x4 x6 = some f' → pl_wd D vwCl dA b n f H → va_S (pl_A b) s.heap H locs → lv_has ls 7 [(0, .ref a0), (3, .int x3), (4, .int x4), (6, .int x6)] → W p l e rm_C_shut s m args below meth c H locs 0 0 (MQ below (pl_qV D dA tt b n f') args s 0 0 (pl_A b)) (F0 m 75 ls []) := by
  have hx := C.1
  have hb := C.2.1
  have hown := C.2.2.2.2.1
  have hts := C.2.2.2.2.2.2.1
  intro k
  induction k with
  | zero =>
    intro f a0 x3 x4 x6 H locs ls hF
    cases hF
  | succ k ih =>
    intro f a0 x3 x4 x6 H locs ls hF w hS hl
    unfold fn_C_shut_75 at hF
    refine lv_iload hx hb dc_C_shut_75 (lv_at hl 3 rfl) ?_
    refine lv_iload_n hx hb dc_C_shut_77 rfl (lv_at hl 1 rfl) ?_
    refine lv_iload hx hb dc_C_shut_78 (lv_at hl 2 rfl) ?_
    refine lv_iadd hx hb dc_C_shut_80 ?_
    refine lv_icmp_ge hx hb dc_C_shut_81 (tgt := 101) (by decide) (fun hc => ?_) (fun hc => ?_)
    · have hF := (if_pos hc).symm.trans hF
      exact pl_retVw C w hS hF dc_C_shut_101
    · have hF := (if_neg hc).symm.trans hF
      refine lv_aload_n hx hb dc_C_shut_84 rfl (lv_at hl 0 rfl) ?_
      refine lv_aload_n hx hb dc_C_shut_85 rfl (lv_at hl 0 rfl) ?_
      obtain ⟨v1, ev1, hF⟩ := pl_bd hF
      refine pl_getR C w (ci := 1) in_C rfl (by decide) 0 (by decide) mw_132 ev1 dc_C_shut_86 ?_
      refine lv_iload hx hb dc_C_shut_89 (lv_at hl 3 rfl) ?_
      obtain ⟨v2, ev2, hF⟩ := pl_bd hF
      refine pl_aldI C w ev2 dc_C_shut_91 ?_
      obtain ⟨u4, eu4, hF⟩ := pl_bd hF
      obtain ⟨q3, eq3, hF⟩ := pl_bd hF
      refine pl_gv (pl_runV (Cn := rn_C) (k := 1) C (tm_C_put l D dA tt b n eq3) w hS rfl rfl mw_398 mw_399 mw_400 mw_68 mw_401 (by decide +kernel) ⟨by decide, by decide⟩ eu4 rfl (by decide) rfl hl.1 (Nat.le_of_ble_eq_true rfl) ⟨Nat.zero_le _, Nat.zero_le _⟩ rfl dc_C_shut_92) hS (fun H locs w hS => ?_)
      refine lv_iinc (k := 3) (v := x6 + 1) (lv' := [(6, .int (x6 + 1)), (0, .ref a0), (3, .int x3), (4, .int x4)]) hx hb dc_C_shut_95 hl rfl rfl (by decide) rfl (fun ls hl => ?_)
      refine lv_goto hx hb dc_C_shut_98 (tgt := 75) (by decide) ?_
      exact ih q3 a0 x3 x4 (x6 + 1) _ _ _ hF w hS (lv_sub hl [1, 2, 3, 0] rfl)
set_option maxHeartbeats 4000000 in
set_option maxRecDepth 100000 in
theorem tl_C_shut_72 {p : Program} {l : Launch} {e : Env} {s : State} {m : MethodId} {args : Array Value} {below : List Frame} {meth : Method} {c : Code} {D : va_G} {dA : Nat → ClassId} {tt : Nat → Nat} {b n : Nat} (C : pl_C p s m args meth c co_C_shut 7 rn_C none "shut" D dA tt b) {f' : pl_H} {f : pl_H} {a0 : Nat} {x3 : Int32} {x4 : Int32} {H : Heap} {locs : List Loc} {ls : Array Slot} (hF : fn_C_shut_72 f a0 x3 x4 = some f') (w : pl_wd D vwCl dA b n f H) (hS : va_S (pl_A b) s.heap H locs) (hl : lv_has ls 7 [(0, .ref a0), (3, .int x3), (4, .int x4)]) : W p l e rm_C_shut s m args below meth c H locs 0 0 (MQ below (pl_qV D dA tt b n f') args s 0 0 (pl_A b)) (F0 m 72 ls []) := by
  have hx := C.1
  have hb := C.2.1
  have hown := C.2.2.2.2.1
  have hts := C.2.2.2.2.2.2.1
  unfold fn_C_shut_72 at hF
  refine lv_iload_n hx hb dc_C_shut_72 rfl (lv_at hl 1 rfl) ?_
  refine lv_istore (lv' := [(6, .int x3), (0, .ref a0), (3, .int x3), (4, .int x4)]) hx hb dc_C_shut_73 hl (by decide) rfl (fun ls hl => ?_)
  exact tl_C_shut_75 C pl_N f a0 x3 x4 x3 _ _ _ hF w hS (lv_sub hl [1, 2, 3, 0] rfl)
set_option maxHeartbeats 4000000 in
set_option maxRecDepth 100000 in
theorem tl_C_shut_65 {p : Program} {l : Launch} {e : Env} {s : State} {m : MethodId} {args : Array Value} {below : List Frame} {meth : Method} {c : Code} {D : va_G} {dA : Nat → ClassId} {tt : Nat → Nat} {b n : Nat} (C : pl_C p s m args meth c co_C_shut 7 rn_C none "shut" D dA tt b) {f' : pl_H} {f : pl_H} {a0 : Nat} {x2 : Int32} {x3 : Int32} {x4 : Int32} {H : Heap} {locs : List Loc} {ls : Array Slot} (hF : fn_C_shut_65 f a0 x2 x3 x4 = some f') (w : pl_wd D vwCl dA b n f H) (hS : va_S (pl_A b) s.heap H locs) (hl : lv_has ls 7 [(0, .ref a0), (2, .int x2), (3, .int x3), (4, .int x4)]) : W p l e rm_C_shut s m args below meth c H locs 0 0 (MQ below (pl_qV D dA tt b n f') args s 0 0 (pl_A b)) (F0 m 65 ls []) := by
  have hx := C.1
  have hb := C.2.1
  have hown := C.2.2.2.2.1
  have hts := C.2.2.2.2.2.2.1
  unfold fn_C_shut_65 at hF
  refine lv_aload_n hx hb dc_C_shut_65 rfl (lv_at hl 0 rfl) ?_
  refine lv_iload_n hx hb dc_C_shut_66 rfl (lv_at hl 1 rfl) ?_
  refine lv_iload hx hb dc_C_shut_67 (lv_at hl 3 rfl) ?_
  obtain ⟨u2, eu2, hF⟩ := pl_bd hF
  obtain ⟨q1, eq1, hF⟩ := pl_bd hF
  refine pl_gv (pl_runV (Cn := rn_C) (k := 2) C (tm_C_putHead l D dA tt b n eq1) w hS rfl rfl mw_406 mw_408 mw_7 mw_68 mw_409 (by decide +kernel) ⟨by decide, by decide⟩ eu2 rfl (by decide) rfl hl.1 (Nat.le_of_ble_eq_true rfl) ⟨Nat.zero_le _, Nat.zero_le _⟩ rfl dc_C_shut_69) hS (fun H locs w hS => ?_)
  exact tl_C_shut_72 C hF w hS (lv_sub hl [0, 2, 3] rfl)
set_option maxHeartbeats 4000000 in
set_option maxRecDepth 100000 in
theorem tl_C_shut_37 {p : Program} {l : Launch} {e : Env} {s : State} {m : MethodId} {args : Array Value} {below : List Frame} {meth : Method} {c : Code} {D : va_G} {dA : Nat → ClassId} {tt : Nat → Nat} {b n : Nat} (C : pl_C p s m args meth c co_C_shut 7 rn_C none "shut" D dA tt b) {f' : pl_H} {f : pl_H} {a0 : Nat} {x1 : Int32} {x2 : Int32} {x3 : Int32} {x4 : Int32} {sx0 : Int32} {H : Heap} {locs : List Loc} {ls : Array Slot} (hF : fn_C_shut_37 f a0 x1 x2 x3 x4 sx0 = some f') (w : pl_wd D vwCl dA b n f H) (hS : va_S (pl_A b) s.heap H locs) (hl : lv_has ls 7 [(0, .ref a0), (1, .int x1), (2, .int x2), (3, .int x3), (4, .int x4)]) : W p l e rm_C_shut s m args below meth c H locs 0 0 (MQ below (pl_qV D dA tt b n f') args s 0 0 (pl_A b)) (F0 m 37 ls [.int sx0]) := by
  have hx := C.1
  have hb := C.2.1
  have hown := C.2.2.2.2.1
  have hts := C.2.2.2.2.2.2.1
  unfold fn_C_shut_37 at hF
  refine lv_istore (lv' := [(5, .int sx0), (0, .ref a0), (1, .int x1), (2, .int x2), (3, .int x3), (4, .int x4)]) hx hb dc_C_shut_37 hl (by decide) rfl (fun ls hl => ?_)
  refine lv_aload_n hx hb dc_C_shut_39 rfl (lv_at hl 1 rfl) ?_
  refine lv_iload_n hx hb dc_C_shut_40 rfl (lv_at hl 2 rfl) ?_
  obtain ⟨f1, ef1, hF⟩ := pl_bd hF
  refine pl_put C w hS (ci := 1) in_C rfl (by decide) rty_C_ok rnm_C 1 (by decide) mw_133 rfl rfl rfl ef1 dc_C_shut_41 (fun H locs w hS => ?_)
  refine lv_iload_n hx hb dc_C_shut_44 rfl (lv_at hl 3 rfl) ?_
  refine lv_sipush (v := 192) hx hb dc_C_shut_45 (by decide) ?_
  refine lv_icmp_eq hx hb dc_C_shut_48 (tgt := 65) (by decide) (fun hc => ?_) (fun hc => ?_)
  · have hF := (if_pos hc).symm.trans hF
    exact tl_C_shut_65 C hF w hS (lv_sub hl [1, 3, 4, 5] rfl)
  · have hF := (if_neg hc).symm.trans hF
    refine lv_iload hx hb dc_C_shut_51 (lv_at hl 5 rfl) ?_
    refine lv_iconst (v := 1) hx hb dc_C_shut_53 (by decide) ?_
    refine lv_icmp_ne hx hb dc_C_shut_54 (tgt := 65) (by decide) (fun hc => ?_) (fun hc => ?_)
    · have hF := (if_neg hc).symm.trans hF
      exact tl_C_shut_65 C hF w hS (lv_sub hl [1, 3, 4, 5] rfl)
    · have hF := (if_pos hc).symm.trans hF
      refine lv_iload hx hb dc_C_shut_57 (lv_at hl 0 rfl) ?_
      refine lv_sipush (v := 128) hx hb dc_C_shut_59 (by decide) ?_
      refine lv_icmp_lt hx hb dc_C_shut_62 (tgt := 72) (by decide) (fun hc => ?_) (fun hc => ?_)
      · have hF := (if_pos hc).symm.trans hF
        exact tl_C_shut_72 C hF w hS (lv_sub hl [1, 4, 5] rfl)
      · have hF := (if_neg hc).symm.trans hF
        exact tl_C_shut_65 C hF w hS (lv_sub hl [1, 3, 4, 5] rfl)
set_option maxHeartbeats 4000000 in
set_option maxRecDepth 100000 in
theorem tl_C_shut_21 {p : Program} {l : Launch} {e : Env} {s : State} {m : MethodId} {args : Array Value} {below : List Frame} {meth : Method} {c : Code} {D : va_G} {dA : Nat → ClassId} {tt : Nat → Nat} {b n : Nat} (C : pl_C p s m args meth c co_C_shut 7 rn_C none "shut" D dA tt b) {f' : pl_H} {f : pl_H} {H : Heap} {locs : List Loc} {ls : Array Slot} (hF : fn_C_shut_21 f = some f') (w : pl_wd D vwCl dA b n f H) (hS : va_S (pl_A b) s.heap H locs) (hl : lv_has ls 7 []) : W p l e rm_C_shut s m args below meth c H locs 0 0 (MQ below (pl_qV D dA tt b n f') args s 0 0 (pl_A b)) (F0 m 21 ls []) := by
  have hx := C.1
  have hb := C.2.1
  have hown := C.2.2.2.2.1
  have hts := C.2.2.2.2.2.2.1
  unfold fn_C_shut_21 at hF
  exact pl_retVw C w hS hF dc_C_shut_21
set_option maxHeartbeats 4000000 in
set_option maxRecDepth 100000 in
theorem tl_C_shut {p : Program} {l : Launch} {e : Env} {s : State} {m : MethodId} {args : Array Value} {below : List Frame} {meth : Method} {c : Code} {D : va_G} {dA : Nat → ClassId} {tt : Nat → Nat} {b n : Nat} (C : pl_C p s m args meth c co_C_shut 7 rn_C none "shut" D dA tt b) {f' : pl_H} {f : pl_H} {a0 : Nat} {x1 : Int32} {x2 : Int32} {H : Heap} {locs : List Loc} {ls : Array Slot} (hF : fn_C_shut f a0 x1 x2 = some f') (w : pl_wd D vwCl dA b n f H) (hS : va_S (pl_A b) s.heap H locs) (hl : lv_has ls 7 [(0, .ref a0), (1, .int x1), (2, .int x2)]) : W p l e rm_C_shut s m args below meth c H locs 0 0 (MQ below (pl_qV D dA tt b n f') args s 0 0 (pl_A b)) (F0 m 0 ls []) := by
  have hx := C.1
  have hb := C.2.1
  have hown := C.2.2.2.2.1
  have hts := C.2.2.2.2.2.2.1
  unfold fn_C_shut at hF
  refine lv_iload_n hx hb dc_C_shut_0 rfl (lv_at hl 1 rfl) ?_
  refine lv_iconst (v := 3) hx hb dc_C_shut_1 (by decide) ?_
  refine lv_iadd hx hb dc_C_shut_2 ?_
  refine lv_istore_n (lv' := [(3, .int (x1 + 3)), (0, .ref a0), (1, .int x1), (2, .int x2)]) hx hb dc_C_shut_3 rfl hl (by decide) rfl (fun ls hl => ?_)
  refine lv_aload_n hx hb dc_C_shut_4 rfl (lv_at hl 1 rfl) ?_
  obtain ⟨v1, ev1, hF⟩ := pl_bd hF
  refine pl_getI C w (ci := 1) in_C rfl (by decide) 1 (by decide) mw_133 ev1 dc_C_shut_5 ?_
  refine lv_iload_n hx hb dc_C_shut_8 rfl (lv_at hl 0 rfl) ?_
  refine lv_isub hx hb dc_C_shut_9 ?_
  refine lv_istore (lv' := [(4, .int (v1 - (x1 + 3))), (3, .int (x1 + 3)), (0, .ref a0), (1, .int x1), (2, .int x2)]) hx hb dc_C_shut_10 hl (by decide) rfl (fun ls hl => ?_)
  refine lv_iload_n hx hb dc_C_shut_12 rfl (lv_at hl 3 rfl) ?_
  refine lv_if_lt hx hb dc_C_shut_13 (tgt := 21) (by decide) (fun hc => ?_) (fun hc => ?_)
  · have hF := (if_pos hc).symm.trans hF
    exact tl_C_shut_21 C hF w hS (lv_sub hl [] rfl)
  · have hF := (if_neg hc).symm.trans hF
    refine lv_iload hx hb dc_C_shut_16 (lv_at hl 0 rfl) ?_
    refine lv_if_ge hx hb dc_C_shut_18 (tgt := 22) (by decide) (fun hc => ?_) (fun hc => ?_)
    · have hF := (if_pos hc).symm.trans hF
      refine lv_iload hx hb dc_C_shut_22 (lv_at hl 0 rfl) ?_
      refine lv_if_ne hx hb dc_C_shut_24 (tgt := 31) (by decide) (fun hc => ?_) (fun hc => ?_)
      · have hF := (if_neg hc).symm.trans hF
        refine lv_aload_n hx hb dc_C_shut_31 rfl (lv_at hl 2 rfl) ?_
        obtain ⟨v2, ev2, hF⟩ := pl_bd hF
        refine pl_getR C w (ci := 1) in_C rfl (by decide) 0 (by decide) mw_132 ev2 dc_C_shut_32 ?_
        refine lv_iload_n hx hb dc_C_shut_35 rfl (lv_at hl 1 rfl) ?_
        obtain ⟨v3, ev3, hF⟩ := pl_bd hF
        refine pl_aldI C w ev3 dc_C_shut_36 ?_
        exact tl_C_shut_37 C hF w hS (lv_sub hl [2, 3, 4, 1, 0] rfl)
      · have hF := (if_pos hc).symm.trans hF
        refine lv_iconst (v := 0) hx hb dc_C_shut_27 (by decide) ?_
        refine lv_goto hx hb dc_C_shut_28 (tgt := 37) (by decide) ?_
        exact tl_C_shut_37 C hF w hS (lv_sub hl [2, 3, 4, 1, 0] rfl)
    · have hF := (if_neg hc).symm.trans hF
      exact tl_C_shut_21 C hF w hS (lv_sub hl [] rfl)
set_option maxHeartbeats 4000000 in
set_option maxRecDepth 100000 in
theorem tm_C_shut (l : Launch) (D : va_G) (dA : Nat → ClassId) (tt : Nat → Nat) (b n : Nat) {f : pl_H} {a0 : Nat} {x1 : Int32} {x2 : Int32} {f' : pl_H} (hF : fn_C_shut f a0 x1 x2 = some f') : Met l my_C_shut (Cond.code my_C_shut co_C_shut 7 none :: pl_tb) rm_C_shut (va_Pc [.ref a0, .int x1, .int x2] (pl_pre D dA tt b n f)) (pl_qV D dA tt b n f') 0 0 (pl_A b) := by
  refine Met.ofW (cc := co_C_shut) (maxL := 7) (ret := none) (by decide) rfl ?_
  intro p e s m args below meth c s₁ B hml hv
  obtain ⟨rfl, w, hK⟩ := hv
  have C : pl_C p s m _ meth c co_C_shut 7 rn_C none "shut" D dA tt b := ⟨B.exec, B.bytes, hml, B.returns, findClass_of_methodNamed B.named, B.notSynchronized, fun w hw => atoms_spec (ws := Cond.code my_C_shut co_C_shut 7 none :: pl_tb) B.pre w (List.mem_cons_of_mem _ hw), (name_of_methodNamed B.named B.method).1, hK⟩
  have hl := lv_entry ([.ref a0, .int x1, .int x2]) (n := 7) (Nat.le_of_ble_eq_true rfl)
  rw [lg_entry_eq]
  generalize (lg_sl ([.ref a0, .int x1, .int x2]) ++ List.replicate (7 - (lg_sl ([.ref a0, .int x1, .int x2])).length) Slot.unset).toArray = ls at hl ⊢
  have hl : lv_has ls 7 [(0, .ref a0), (1, .int x1), (2, .int x2)] := hl
  exact tl_C_shut C hF w va_S.rf hl
def rm_C_used : Room := { frames := 0, cells := 0, slots := 0, locals := 0 }
def fn_C_used (f : pl_H) (a0 : Nat) : Option (Int32) := (pl_gI f a0 1 1).bind fun v1 => some v1
set_option maxHeartbeats 4000000 in
set_option maxRecDepth 100000 in
theorem tl_C_used {p : Program} {l : Launch} {e : Env} {s : State} {m : MethodId} {args : Array Value} {below : List Frame} {meth : Method} {c : Code} {D : va_G} {dA : Nat → ClassId} {tt : Nat → Nat} {b n : Nat} (C : pl_C p s m args meth c co_C_used 1 rn_C (some .int) "used" D dA tt b) {r : Int32} {f : pl_H} {a0 : Nat} {H : Heap} {locs : List Loc} {ls : Array Slot} (hF : fn_C_used f a0 = some r) (w : pl_wd D vwCl dA b n f H) (hS : va_S (pl_A b) s.heap H locs) (hl : lv_has ls 1 [(0, .ref a0)]) : W p l e rm_C_used s m args below meth c H locs 0 0 (MQ below (pl_qI D dA tt b n f r) args s 0 0 (pl_A b)) (F0 m 0 ls []) := by
  have hx := C.1
  have hb := C.2.1
  have hown := C.2.2.2.2.1
  have hts := C.2.2.2.2.2.2.1
  unfold fn_C_used at hF
  refine lv_aload_n hx hb dc_C_used_0 rfl (lv_at hl 0 rfl) ?_
  obtain ⟨v1, ev1, hF⟩ := pl_bd hF
  refine pl_getI C w (ci := 1) in_C rfl (by decide) 1 (by decide) mw_133 ev1 dc_C_used_1 ?_
  exact pl_retI C w hS hF dc_C_used_4
set_option maxHeartbeats 4000000 in
set_option maxRecDepth 100000 in
theorem tm_C_used (l : Launch) (D : va_G) (dA : Nat → ClassId) (tt : Nat → Nat) (b n : Nat) {f : pl_H} {a0 : Nat} {r : Int32} (hF : fn_C_used f a0 = some r) : Met l my_C_used (Cond.code my_C_used co_C_used 1 (some .int) :: pl_tb) rm_C_used (va_Pc [.ref a0] (pl_pre D dA tt b n f)) (pl_qI D dA tt b n f r) 0 0 (pl_A b) := by
  refine Met.ofW (cc := co_C_used) (maxL := 1) (ret := (some .int)) (by decide) rfl ?_
  intro p e s m args below meth c s₁ B hml hv
  obtain ⟨rfl, w, hK⟩ := hv
  have C : pl_C p s m _ meth c co_C_used 1 rn_C (some .int) "used" D dA tt b := ⟨B.exec, B.bytes, hml, B.returns, findClass_of_methodNamed B.named, B.notSynchronized, fun w hw => atoms_spec (ws := Cond.code my_C_used co_C_used 1 (some .int) :: pl_tb) B.pre w (List.mem_cons_of_mem _ hw), (name_of_methodNamed B.named B.method).1, hK⟩
  have hl := lv_entry ([.ref a0]) (n := 1) (Nat.le_of_ble_eq_true rfl)
  rw [lg_entry_eq]
  generalize (lg_sl ([.ref a0]) ++ List.replicate (1 - (lg_sl ([.ref a0])).length) Slot.unset).toArray = ls at hl ⊢
  have hl : lv_has ls 1 [(0, .ref a0)] := hl
  exact tl_C_used C hF w va_S.rf hl
def rm_C_putDigits : Room := { frames := 3, cells := 0, slots := 0, locals := 69 }
def fn_C_putDigits_65 : Nat → pl_H → Nat → Int32 → Int32 → Int32 → Int32 → Option (pl_H)
  | 0 => fun _ _ _ _ _ _ => none
  | k + 1 => fun f a0 x1 x3 x5 x8 => if x3 ≤ (x8 + 1) then (pl_is f a0 1).bind fun u2 => (fn_C_shut f a0 x5 128).bind fun q1 => some q1 else (fn_L_digit f x1 x8).bind fun v3 => (fn_L_digit f x1 (x8 + 1)).bind fun v4 => (pl_is f a0 1).bind fun u6 => (fn_C_put f a0 ((16 * v3) + v4)).bind fun q5 => fn_C_putDigits_65 k q5 a0 x1 x3 x5 (x8 + 2)
def fn_C_putDigits_61 (f : pl_H) (a0 : Nat) (x1 : Int32) (x3 : Int32) (x5 : Int32) (x7 : Int32) : Option (pl_H) := fn_C_putDigits_65 pl_N f a0 x1 x3 x5 x7
def fn_C_putDigits_16 (f : pl_H) (a0 : Nat) (x1 : Int32) (x2 : Int32) (x3 : Int32) (x5 : Int32) (sx0 : Int32) : Option (pl_H) := if ((x3 - x2) - (x3 - x2) / 2 * 2) = 0 then (pl_is f a0 1).bind fun u5 => (fn_C_put f a0 (16 * sx0)).bind fun q4 => fn_C_putDigits_61 q4 a0 x1 x3 x5 x2 else (fn_L_digit f x1 x2).bind fun v1 => (pl_is f a0 1).bind fun u3 => (fn_C_put f a0 ((16 * (sx0 + 1)) + v1)).bind fun q2 => fn_C_putDigits_61 q2 a0 x1 x3 x5 (x2 + 1)
def fn_C_putDigits (f : pl_H) (a0 : Nat) (x1 : Int32) (x2 : Int32) (x3 : Int32) (x4 : Int32) : Option (pl_H) := (pl_is f a0 1).bind fun u2 => (fn_C_open f a0).bind fun q1 => if x4 = 0 then fn_C_putDigits_16 q1.2 a0 x1 x2 x3 q1.1 0 else fn_C_putDigits_16 q1.2 a0 x1 x2 x3 q1.1 2
set_option maxHeartbeats 4000000 in
set_option maxRecDepth 100000 in
theorem tl_C_putDigits_65 {p : Program} {l : Launch} {e : Env} {s : State} {m : MethodId} {args : Array Value} {below : List Frame} {meth : Method} {c : Code} {D : va_G} {dA : Nat → ClassId} {tt : Nat → Nat} {b n : Nat} (C : pl_C p s m args meth c co_C_putDigits 9 rn_C none "putDigits" D dA tt b) {f' : pl_H} : ∀ k : Nat, ∀ (f : pl_H) (a0 : Nat) (x1 : Int32) (x3 : Int32) (x5 : Int32) (x8 : Int32) (H : Heap) (locs : List Loc) (ls : Array Slot), fn_C_putDigits_65 k f a0 x1 x3 x5 x8 = some f' → pl_wd D vwCl dA b n f H → va_S (pl_A b) s.heap H locs → lv_has ls 9 [(0, .ref a0), (1, .int x1), (3, .int x3), (5, .int x5), (8, .int x8)] → W p l e rm_C_putDigits s m args below meth c H locs 0 0 (MQ below (pl_qV D dA tt b n f') args s 0 0 (pl_A b)) (F0 m 65 ls []) := by
  have hx := C.1
  have hb := C.2.1
  have hown := C.2.2.2.2.1
  have hts := C.2.2.2.2.2.2.1
  intro k
  induction k with
  | zero =>
    intro f a0 x1 x3 x5 x8 H locs ls hF
    cases hF
  | succ k ih =>
    intro f a0 x1 x3 x5 x8 H locs ls hF w hS hl
    unfold fn_C_putDigits_65 at hF
    refine lv_iload hx hb dc_C_putDigits_65 (lv_at hl 4 rfl) ?_
    refine lv_iconst (v := 1) hx hb dc_C_putDigits_67 (by decide) ?_
    refine lv_iadd hx hb dc_C_putDigits_68 ?_
    refine lv_iload_n hx hb dc_C_putDigits_69 rfl (lv_at hl 2 rfl) ?_
    refine lv_icmp_ge hx hb dc_C_putDigits_70 (tgt := 101) (by decide) (fun hc => ?_) (fun hc => ?_)
    · have hF := (if_pos hc).symm.trans hF
      refine lv_aload_n hx hb dc_C_putDigits_101 rfl (lv_at hl 0 rfl) ?_
      refine lv_iload hx hb dc_C_putDigits_102 (lv_at hl 3 rfl) ?_
      refine lv_sipush (v := 128) hx hb dc_C_putDigits_104 (by decide) ?_
      obtain ⟨u2, eu2, hF⟩ := pl_bd hF
      obtain ⟨q1, eq1, hF⟩ := pl_bd hF
      refine pl_gv (pl_runV (Cn := rn_C) (k := 2) C (tm_C_shut l D dA tt b n eq1) w hS rfl rfl mw_438 mw_403 mw_404 mw_68 mw_405 (by decide +kernel) ⟨by decide, by decide⟩ eu2 rfl (by decide) rfl hl.1 (Nat.le_of_ble_eq_true rfl) ⟨Nat.zero_le _, Nat.zero_le _⟩ rfl dc_C_putDigits_107) hS (fun H locs w hS => ?_)
      exact pl_retVw C w hS hF dc_C_putDigits_110
    · have hF := (if_neg hc).symm.trans hF
      refine lv_aload_n hx hb dc_C_putDigits_73 rfl (lv_at hl 0 rfl) ?_
      refine lv_bipush (v := 16) hx hb dc_C_putDigits_74 (by decide) ?_
      refine lv_iload_n hx hb dc_C_putDigits_76 rfl (lv_at hl 1 rfl) ?_
      refine lv_iload hx hb dc_C_putDigits_77 (lv_at hl 4 rfl) ?_
      obtain ⟨v3, ev3, hF⟩ := pl_bd hF
      refine pl_gi (pl_runSN (k := 2) C (tm_L_digit l D dA tt b n ev3) w hS rfl rfl C.2.2.2.2.2.2.2.2.2.2.2.2.2.1 mw_436 mw_64 mw_437 (by decide +kernel) ⟨by decide, by decide⟩ rfl hl.1 (Nat.le_of_ble_eq_true rfl) ⟨Nat.zero_le _, Nat.zero_le _⟩ rfl dc_C_putDigits_79) hS (fun H locs w hS => ?_)
      refine lv_imul hx hb dc_C_putDigits_82 ?_
      refine lv_iload_n hx hb dc_C_putDigits_83 rfl (lv_at hl 1 rfl) ?_
      refine lv_iload hx hb dc_C_putDigits_84 (lv_at hl 4 rfl) ?_
      refine lv_iconst (v := 1) hx hb dc_C_putDigits_86 (by decide) ?_
      refine lv_iadd hx hb dc_C_putDigits_87 ?_
      obtain ⟨v4, ev4, hF⟩ := pl_bd hF
      refine pl_gi (pl_runSN (k := 2) C (tm_L_digit l D dA tt b n ev4) w hS rfl rfl C.2.2.2.2.2.2.2.2.2.2.2.2.2.1 mw_436 mw_64 mw_437 (by decide +kernel) ⟨by decide, by decide⟩ rfl hl.1 (Nat.le_of_ble_eq_true rfl) ⟨Nat.zero_le _, Nat.zero_le _⟩ rfl dc_C_putDigits_88) hS (fun H locs w hS => ?_)
      refine lv_iadd hx hb dc_C_putDigits_91 ?_
      obtain ⟨u6, eu6, hF⟩ := pl_bd hF
      obtain ⟨q5, eq5, hF⟩ := pl_bd hF
      refine pl_gv (pl_runV (Cn := rn_C) (k := 1) C (tm_C_put l D dA tt b n eq5) w hS rfl rfl mw_398 mw_399 mw_400 mw_68 mw_401 (by decide +kernel) ⟨by decide, by decide⟩ eu6 rfl (by decide) rfl hl.1 (Nat.le_of_ble_eq_true rfl) ⟨Nat.zero_le _, Nat.zero_le _⟩ rfl dc_C_putDigits_92) hS (fun H locs w hS => ?_)
      refine lv_iinc (k := 4) (v := x8 + 2) (lv' := [(8, .int (x8 + 2)), (0, .ref a0), (1, .int x1), (3, .int x3), (5, .int x5)]) hx hb dc_C_putDigits_95 hl rfl rfl (by decide) rfl (fun ls hl => ?_)
      refine lv_goto hx hb dc_C_putDigits_98 (tgt := 65) (by decide) ?_
      exact ih q5 a0 x1 x3 x5 (x8 + 2) _ _ _ hF w hS (lv_sub hl [1, 2, 3, 4, 0] rfl)
set_option maxHeartbeats 4000000 in
set_option maxRecDepth 100000 in
theorem tl_C_putDigits_61 {p : Program} {l : Launch} {e : Env} {s : State} {m : MethodId} {args : Array Value} {below : List Frame} {meth : Method} {c : Code} {D : va_G} {dA : Nat → ClassId} {tt : Nat → Nat} {b n : Nat} (C : pl_C p s m args meth c co_C_putDigits 9 rn_C none "putDigits" D dA tt b) {f' : pl_H} {f : pl_H} {a0 : Nat} {x1 : Int32} {x3 : Int32} {x5 : Int32} {x7 : Int32} {H : Heap} {locs : List Loc} {ls : Array Slot} (hF : fn_C_putDigits_61 f a0 x1 x3 x5 x7 = some f') (w : pl_wd D vwCl dA b n f H) (hS : va_S (pl_A b) s.heap H locs) (hl : lv_has ls 9 [(0, .ref a0), (1, .int x1), (3, .int x3), (5, .int x5), (7, .int x7)]) : W p l e rm_C_putDigits s m args below meth c H locs 0 0 (MQ below (pl_qV D dA tt b n f') args s 0 0 (pl_A b)) (F0 m 61 ls []) := by
  have hx := C.1
  have hb := C.2.1
  have hown := C.2.2.2.2.1
  have hts := C.2.2.2.2.2.2.1
  unfold fn_C_putDigits_61 at hF
  refine lv_iload hx hb dc_C_putDigits_61 (lv_at hl 4 rfl) ?_
  refine lv_istore (lv' := [(8, .int x7), (0, .ref a0), (1, .int x1), (3, .int x3), (5, .int x5), (7, .int x7)]) hx hb dc_C_putDigits_63 hl (by decide) rfl (fun ls hl => ?_)
  exact tl_C_putDigits_65 C pl_N f a0 x1 x3 x5 x7 _ _ _ hF w hS (lv_sub hl [1, 2, 3, 4, 0] rfl)
set_option maxHeartbeats 4000000 in
set_option maxRecDepth 100000 in
theorem tl_C_putDigits_16 {p : Program} {l : Launch} {e : Env} {s : State} {m : MethodId} {args : Array Value} {below : List Frame} {meth : Method} {c : Code} {D : va_G} {dA : Nat → ClassId} {tt : Nat → Nat} {b n : Nat} (C : pl_C p s m args meth c co_C_putDigits 9 rn_C none "putDigits" D dA tt b) {f' : pl_H} {f : pl_H} {a0 : Nat} {x1 : Int32} {x2 : Int32} {x3 : Int32} {x5 : Int32} {sx0 : Int32} {H : Heap} {locs : List Loc} {ls : Array Slot} (hF : fn_C_putDigits_16 f a0 x1 x2 x3 x5 sx0 = some f') (w : pl_wd D vwCl dA b n f H) (hS : va_S (pl_A b) s.heap H locs) (hl : lv_has ls 9 [(0, .ref a0), (1, .int x1), (2, .int x2), (3, .int x3), (5, .int x5)]) : W p l e rm_C_putDigits s m args below meth c H locs 0 0 (MQ below (pl_qV D dA tt b n f') args s 0 0 (pl_A b)) (F0 m 16 ls [.int sx0]) := by
  have hx := C.1
  have hb := C.2.1
  have hown := C.2.2.2.2.1
  have hts := C.2.2.2.2.2.2.1
  unfold fn_C_putDigits_16 at hF
  refine lv_istore (lv' := [(6, .int sx0), (0, .ref a0), (1, .int x1), (2, .int x2), (3, .int x3), (5, .int x5)]) hx hb dc_C_putDigits_16 hl (by decide) rfl (fun ls hl => ?_)
  refine lv_iload_n hx hb dc_C_putDigits_18 rfl (lv_at hl 3 rfl) ?_
  refine lv_istore (lv' := [(7, .int x2), (6, .int sx0), (0, .ref a0), (1, .int x1), (2, .int x2), (3, .int x3), (5, .int x5)]) hx hb dc_C_putDigits_19 hl (by decide) rfl (fun ls hl => ?_)
  refine lv_iload_n hx hb dc_C_putDigits_21 rfl (lv_at hl 5 rfl) ?_
  refine lv_iload_n hx hb dc_C_putDigits_22 rfl (lv_at hl 4 rfl) ?_
  refine lv_isub hx hb dc_C_putDigits_23 ?_
  refine lv_iconst (v := 2) hx hb dc_C_putDigits_24 (by decide) ?_
  refine lv_irem hx hb dc_C_putDigits_25 (by decide) ?_
  refine lv_if_ne hx hb dc_C_putDigits_26 (tgt := 41) (by decide) (fun hc => ?_) (fun hc => ?_)
  · have hF := (if_neg hc).symm.trans hF
    refine lv_aload_n hx hb dc_C_putDigits_41 rfl (lv_at hl 2 rfl) ?_
    refine lv_bipush (v := 16) hx hb dc_C_putDigits_42 (by decide) ?_
    refine lv_iload hx hb dc_C_putDigits_44 (lv_at hl 1 rfl) ?_
    refine lv_iconst (v := 1) hx hb dc_C_putDigits_46 (by decide) ?_
    refine lv_iadd hx hb dc_C_putDigits_47 ?_
    refine lv_imul hx hb dc_C_putDigits_48 ?_
    refine lv_iload_n hx hb dc_C_putDigits_49 rfl (lv_at hl 3 rfl) ?_
    refine lv_iload_n hx hb dc_C_putDigits_50 rfl (lv_at hl 4 rfl) ?_
    obtain ⟨v1, ev1, hF⟩ := pl_bd hF
    refine pl_gi (pl_runSN (k := 2) C (tm_L_digit l D dA tt b n ev1) w hS rfl rfl C.2.2.2.2.2.2.2.2.2.2.2.2.2.1 mw_436 mw_64 mw_437 (by decide +kernel) ⟨by decide, by decide⟩ rfl hl.1 (Nat.le_of_ble_eq_true rfl) ⟨Nat.zero_le _, Nat.zero_le _⟩ rfl dc_C_putDigits_51) hS (fun H locs w hS => ?_)
    refine lv_iadd hx hb dc_C_putDigits_54 ?_
    obtain ⟨u3, eu3, hF⟩ := pl_bd hF
    obtain ⟨q2, eq2, hF⟩ := pl_bd hF
    refine pl_gv (pl_runV (Cn := rn_C) (k := 1) C (tm_C_put l D dA tt b n eq2) w hS rfl rfl mw_398 mw_399 mw_400 mw_68 mw_401 (by decide +kernel) ⟨by decide, by decide⟩ eu3 rfl (by decide) rfl hl.1 (Nat.le_of_ble_eq_true rfl) ⟨Nat.zero_le _, Nat.zero_le _⟩ rfl dc_C_putDigits_55) hS (fun H locs w hS => ?_)
    refine lv_iinc (k := 0) (v := x2 + 1) (lv' := [(7, .int (x2 + 1)), (6, .int sx0), (0, .ref a0), (1, .int x1), (2, .int x2), (3, .int x3), (5, .int x5)]) hx hb dc_C_putDigits_58 hl rfl rfl (by decide) rfl (fun ls hl => ?_)
    exact tl_C_putDigits_61 C hF w hS (lv_sub hl [2, 3, 5, 6, 0] rfl)
  · have hF := (if_pos hc).symm.trans hF
    refine lv_aload_n hx hb dc_C_putDigits_29 rfl (lv_at hl 2 rfl) ?_
    refine lv_bipush (v := 16) hx hb dc_C_putDigits_30 (by decide) ?_
    refine lv_iload hx hb dc_C_putDigits_32 (lv_at hl 1 rfl) ?_
    refine lv_imul hx hb dc_C_putDigits_34 ?_
    obtain ⟨u5, eu5, hF⟩ := pl_bd hF
    obtain ⟨q4, eq4, hF⟩ := pl_bd hF
    refine pl_gv (pl_runV (Cn := rn_C) (k := 1) C (tm_C_put l D dA tt b n eq4) w hS rfl rfl mw_398 mw_399 mw_400 mw_68 mw_401 (by decide +kernel) ⟨by decide, by decide⟩ eu5 rfl (by decide) rfl hl.1 (Nat.le_of_ble_eq_true rfl) ⟨Nat.zero_le _, Nat.zero_le _⟩ rfl dc_C_putDigits_35) hS (fun H locs w hS => ?_)
    refine lv_goto hx hb dc_C_putDigits_38 (tgt := 61) (by decide) ?_
    exact tl_C_putDigits_61 C hF w hS (lv_sub hl [2, 3, 5, 6, 0] rfl)
set_option maxHeartbeats 4000000 in
set_option maxRecDepth 100000 in
theorem tl_C_putDigits {p : Program} {l : Launch} {e : Env} {s : State} {m : MethodId} {args : Array Value} {below : List Frame} {meth : Method} {c : Code} {D : va_G} {dA : Nat → ClassId} {tt : Nat → Nat} {b n : Nat} (C : pl_C p s m args meth c co_C_putDigits 9 rn_C none "putDigits" D dA tt b) {f' : pl_H} {f : pl_H} {a0 : Nat} {x1 : Int32} {x2 : Int32} {x3 : Int32} {x4 : Int32} {H : Heap} {locs : List Loc} {ls : Array Slot} (hF : fn_C_putDigits f a0 x1 x2 x3 x4 = some f') (w : pl_wd D vwCl dA b n f H) (hS : va_S (pl_A b) s.heap H locs) (hl : lv_has ls 9 [(0, .ref a0), (1, .int x1), (2, .int x2), (3, .int x3), (4, .int x4)]) : W p l e rm_C_putDigits s m args below meth c H locs 0 0 (MQ below (pl_qV D dA tt b n f') args s 0 0 (pl_A b)) (F0 m 0 ls []) := by
  have hx := C.1
  have hb := C.2.1
  have hown := C.2.2.2.2.1
  have hts := C.2.2.2.2.2.2.1
  unfold fn_C_putDigits at hF
  refine lv_aload_n hx hb dc_C_putDigits_0 rfl (lv_at hl 0 rfl) ?_
  obtain ⟨u2, eu2, hF⟩ := pl_bd hF
  obtain ⟨q1, eq1, hF⟩ := pl_bd hF
  refine pl_gi (pl_runV (Cn := rn_C) (k := 0) C (tm_C_open l D dA tt b n eq1) w hS rfl rfl mw_434 mw_395 mw_396 mw_68 mw_397 (by decide +kernel) ⟨by decide, by decide⟩ eu2 rfl (by decide) rfl hl.1 (Nat.le_of_ble_eq_true rfl) ⟨Nat.zero_le _, Nat.zero_le _⟩ rfl dc_C_putDigits_1) hS (fun H locs w hS => ?_)
  refine lv_istore (lv' := [(5, .int q1.1), (0, .ref a0), (1, .int x1), (2, .int x2), (3, .int x3), (4, .int x4)]) hx hb dc_C_putDigits_4 hl (by decide) rfl (fun ls hl => ?_)
  refine lv_iload hx hb dc_C_putDigits_6 (lv_at hl 5 rfl) ?_
  refine lv_if_eq hx hb dc_C_putDigits_8 (tgt := 15) (by decide) (fun hc => ?_) (fun hc => ?_)
  · have hF := (if_pos hc).symm.trans hF
    refine lv_iconst (v := 0) hx hb dc_C_putDigits_15 (by decide) ?_
    exact tl_C_putDigits_16 C hF w hS (lv_sub hl [1, 2, 3, 4, 0] rfl)
  · have hF := (if_neg hc).symm.trans hF
    refine lv_iconst (v := 2) hx hb dc_C_putDigits_11 (by decide) ?_
    refine lv_goto hx hb dc_C_putDigits_12 (tgt := 16) (by decide) ?_
    exact tl_C_putDigits_16 C hF w hS (lv_sub hl [1, 2, 3, 4, 0] rfl)
set_option maxHeartbeats 4000000 in
set_option maxRecDepth 100000 in
theorem tm_C_putDigits (l : Launch) (D : va_G) (dA : Nat → ClassId) (tt : Nat → Nat) (b n : Nat) {f : pl_H} {a0 : Nat} {x1 : Int32} {x2 : Int32} {x3 : Int32} {x4 : Int32} {f' : pl_H} (hF : fn_C_putDigits f a0 x1 x2 x3 x4 = some f') : Met l my_C_putDigits (Cond.code my_C_putDigits co_C_putDigits 9 none :: pl_tb) rm_C_putDigits (va_Pc [.ref a0, .int x1, .int x2, .int x3, .int x4] (pl_pre D dA tt b n f)) (pl_qV D dA tt b n f') 0 0 (pl_A b) := by
  refine Met.ofW (cc := co_C_putDigits) (maxL := 9) (ret := none) (by decide) rfl ?_
  intro p e s m args below meth c s₁ B hml hv
  obtain ⟨rfl, w, hK⟩ := hv
  have C : pl_C p s m _ meth c co_C_putDigits 9 rn_C none "putDigits" D dA tt b := ⟨B.exec, B.bytes, hml, B.returns, findClass_of_methodNamed B.named, B.notSynchronized, fun w hw => atoms_spec (ws := Cond.code my_C_putDigits co_C_putDigits 9 none :: pl_tb) B.pre w (List.mem_cons_of_mem _ hw), (name_of_methodNamed B.named B.method).1, hK⟩
  have hl := lv_entry ([.ref a0, .int x1, .int x2, .int x3, .int x4]) (n := 9) (Nat.le_of_ble_eq_true rfl)
  rw [lg_entry_eq]
  generalize (lg_sl ([.ref a0, .int x1, .int x2, .int x3, .int x4]) ++ List.replicate (9 - (lg_sl ([.ref a0, .int x1, .int x2, .int x3, .int x4])).length) Slot.unset).toArray = ls at hl ⊢
  have hl : lv_has ls 9 [(0, .ref a0), (1, .int x1), (2, .int x2), (3, .int x3), (4, .int x4)] := hl
  exact tl_C_putDigits C hF w va_S.rf hl
def rm_C_putNumber : Room := { frames := 3, cells := 0, slots := 0, locals := 69 }
def fn_C_putNumber_56 (rc12 : pl_H → Nat → Int64 → Int32 → Int32 → Int32 → Option (pl_H)) (f : pl_H) (a0 : Nat) (y1 : Int64) (x3 : Int32) (x4 : Int32) (x5 : Int32) : Option (pl_H) := rc12 f a0 y1 x3 x4 (x5 + (-8))
def fn_C_putNumber_43 (rc12 : pl_H → Nat → Int64 → Int32 → Int32 → Int32 → Option (pl_H)) (f : pl_H) (a0 : Nat) (y1 : Int64) (x3 : Int32) (x5 : Int32) (x6 : Int32) (sx0 : Int32) : Option (pl_H) := if sx0 = 0 then fn_C_putNumber_56 rc12 f a0 y1 x3 sx0 x5 else (pl_is f a0 1).bind fun u2 => (fn_C_put f a0 x6).bind fun q1 => fn_C_putNumber_56 rc12 q1 a0 y1 x3 sx0 x5
def fn_C_putNumber_38 (rc12 : pl_H → Nat → Int64 → Int32 → Int32 → Int32 → Option (pl_H)) (f : pl_H) (a0 : Nat) (y1 : Int64) (x3 : Int32) (x5 : Int32) (x6 : Int32) : Option (pl_H) := fn_C_putNumber_43 rc12 f a0 y1 x3 x5 x6 1
def fn_C_putNumber_12 : Nat → pl_H → Nat → Int64 → Int32 → Int32 → Int32 → Option (pl_H)
  | 0 => fun _ _ _ _ _ _ => none
  | k + 1 => fun f a0 y1 x3 x4 x5 => if x5 < 0 then (pl_is f a0 1).bind fun u2 => (fn_C_shut f a0 x3 128).bind fun q1 => some q1 else if x4 = 0 then if (((((y1.toUInt64 >>> ((x5 : Int32).toInt64.toUInt64 &&& Int64.toUInt64 63)).toInt64) : Int64).toInt32) &&& 255) = 0 then fn_C_putNumber_43 (fn_C_putNumber_12 k) f a0 y1 x3 x5 (((((y1.toUInt64 >>> ((x5 : Int32).toInt64.toUInt64 &&& Int64.toUInt64 63)).toInt64) : Int64).toInt32) &&& 255) 0 else fn_C_putNumber_38 (fn_C_putNumber_12 k) f a0 y1 x3 x5 (((((y1.toUInt64 >>> ((x5 : Int32).toInt64.toUInt64 &&& Int64.toUInt64 63)).toInt64) : Int64).toInt32) &&& 255) else fn_C_putNumber_38 (fn_C_putNumber_12 k) f a0 y1 x3 x5 (((((y1.toUInt64 >>> ((x5 : Int32).toInt64.toUInt64 &&& Int64.toUInt64 63)).toInt64) : Int64).toInt32) &&& 255)
def fn_C_putNumber (f : pl_H) (a0 : Nat) (y1 : Int64) : Option (pl_H) := (pl_is f a0 1).bind fun u2 => (fn_C_open f a0).bind fun q1 => fn_C_putNumber_12 pl_N q1.2 a0 y1 q1.1 0 56
set_option maxHeartbeats 4000000 in
set_option maxRecDepth 100000 in
theorem tl_C_putNumber_56 {p : Program} {l : Launch} {e : Env} {s : State} {m : MethodId} {args : Array Value} {below : List Frame} {meth : Method} {c : Code} {D : va_G} {dA : Nat → ClassId} {tt : Nat → Nat} {b n : Nat} (C : pl_C p s m args meth c co_C_putNumber 7 rn_C none "putNumber" D dA tt b) {f' : pl_H} {rc12 : pl_H → Nat → Int64 → Int32 → Int32 → Int32 → Option (pl_H)} (hr12 : ∀ (f : pl_H) (a0 : Nat) (y1 : Int64) (x3 : Int32) (x4 : Int32) (x5 : Int32) (H : Heap) (locs : List Loc) (ls : Array Slot), rc12 f a0 y1 x3 x4 x5 = some f' → pl_wd D vwCl dA b n f H → va_S (pl_A b) s.heap H locs → lv_has ls 7 [(0, .ref a0), (1, .long y1), (3, .int x3), (4, .int x4), (5, .int x5)] → W p l e rm_C_putNumber s m args below meth c H locs 0 0 (MQ below (pl_qV D dA tt b n f') args s 0 0 (pl_A b)) (F0 m 12 ls [])) {f : pl_H} {a0 : Nat} {y1 : Int64} {x3 : Int32} {x4 : Int32} {x5 : Int32} {H : Heap} {locs : List Loc} {ls : Array Slot} (hF : fn_C_putNumber_56 rc12 f a0 y1 x3 x4 x5 = some f') (w : pl_wd D vwCl dA b n f H) (hS : va_S (pl_A b) s.heap H locs) (hl : lv_has ls 7 [(0, .ref a0), (1, .long y1), (3, .int x3), (4, .int x4), (5, .int x5)]) : W p l e rm_C_putNumber s m args below meth c H locs 0 0 (MQ below (pl_qV D dA tt b n f') args s 0 0 (pl_A b)) (F0 m 56 ls []) := by
  have hx := C.1
  have hb := C.2.1
  have hown := C.2.2.2.2.1
  have hts := C.2.2.2.2.2.2.1
  unfold fn_C_putNumber_56 at hF
  refine lv_iinc (k := 4) (v := x5 + (-8)) (lv' := [(5, .int (x5 + (-8))), (0, .ref a0), (1, .long y1), (3, .int x3), (4, .int x4)]) hx hb dc_C_putNumber_56 hl rfl rfl (by decide) rfl (fun ls hl => ?_)
  refine lv_goto hx hb dc_C_putNumber_59 (tgt := 12) (by decide) ?_
  exact hr12 f a0 y1 x3 x4 (x5 + (-8)) _ _ _ hF w hS (lv_sub hl [1, 2, 3, 4, 0] rfl)
set_option maxHeartbeats 4000000 in
set_option maxRecDepth 100000 in
theorem tl_C_putNumber_43 {p : Program} {l : Launch} {e : Env} {s : State} {m : MethodId} {args : Array Value} {below : List Frame} {meth : Method} {c : Code} {D : va_G} {dA : Nat → ClassId} {tt : Nat → Nat} {b n : Nat} (C : pl_C p s m args meth c co_C_putNumber 7 rn_C none "putNumber" D dA tt b) {f' : pl_H} {rc12 : pl_H → Nat → Int64 → Int32 → Int32 → Int32 → Option (pl_H)} (hr12 : ∀ (f : pl_H) (a0 : Nat) (y1 : Int64) (x3 : Int32) (x4 : Int32) (x5 : Int32) (H : Heap) (locs : List Loc) (ls : Array Slot), rc12 f a0 y1 x3 x4 x5 = some f' → pl_wd D vwCl dA b n f H → va_S (pl_A b) s.heap H locs → lv_has ls 7 [(0, .ref a0), (1, .long y1), (3, .int x3), (4, .int x4), (5, .int x5)] → W p l e rm_C_putNumber s m args below meth c H locs 0 0 (MQ below (pl_qV D dA tt b n f') args s 0 0 (pl_A b)) (F0 m 12 ls [])) {f : pl_H} {a0 : Nat} {y1 : Int64} {x3 : Int32} {x5 : Int32} {x6 : Int32} {sx0 : Int32} {H : Heap} {locs : List Loc} {ls : Array Slot} (hF : fn_C_putNumber_43 rc12 f a0 y1 x3 x5 x6 sx0 = some f') (w : pl_wd D vwCl dA b n f H) (hS : va_S (pl_A b) s.heap H locs) (hl : lv_has ls 7 [(0, .ref a0), (1, .long y1), (3, .int x3), (5, .int x5), (6, .int x6)]) : W p l e rm_C_putNumber s m args below meth c H locs 0 0 (MQ below (pl_qV D dA tt b n f') args s 0 0 (pl_A b)) (F0 m 43 ls [.int sx0]) := by
  have hx := C.1
  have hb := C.2.1
  have hown := C.2.2.2.2.1
  have hts := C.2.2.2.2.2.2.1
  unfold fn_C_putNumber_43 at hF
  refine lv_istore (lv' := [(4, .int sx0), (0, .ref a0), (1, .long y1), (3, .int x3), (5, .int x5), (6, .int x6)]) hx hb dc_C_putNumber_43 hl (by decide) rfl (fun ls hl => ?_)
  refine lv_iload hx hb dc_C_putNumber_45 (lv_at hl 0 rfl) ?_
  refine lv_if_eq hx hb dc_C_putNumber_47 (tgt := 56) (by decide) (fun hc => ?_) (fun hc => ?_)
  · have hF := (if_pos hc).symm.trans hF
    exact tl_C_putNumber_56 C hr12 hF w hS (lv_sub hl [1, 2, 3, 0, 4] rfl)
  · have hF := (if_neg hc).symm.trans hF
    refine lv_aload_n hx hb dc_C_putNumber_50 rfl (lv_at hl 1 rfl) ?_
    refine lv_iload hx hb dc_C_putNumber_51 (lv_at hl 5 rfl) ?_
    obtain ⟨u2, eu2, hF⟩ := pl_bd hF
    obtain ⟨q1, eq1, hF⟩ := pl_bd hF
    refine pl_gv (pl_runV (Cn := rn_C) (k := 1) C (tm_C_put l D dA tt b n eq1) w hS rfl rfl mw_398 mw_399 mw_400 mw_68 mw_401 (by decide +kernel) ⟨by decide, by decide⟩ eu2 rfl (by decide) rfl hl.1 (Nat.le_of_ble_eq_true rfl) ⟨Nat.zero_le _, Nat.zero_le _⟩ rfl dc_C_putNumber_53) hS (fun H locs w hS => ?_)
    exact tl_C_putNumber_56 C hr12 hF w hS (lv_sub hl [1, 2, 3, 0, 4] rfl)
set_option maxHeartbeats 4000000 in
set_option maxRecDepth 100000 in
theorem tl_C_putNumber_38 {p : Program} {l : Launch} {e : Env} {s : State} {m : MethodId} {args : Array Value} {below : List Frame} {meth : Method} {c : Code} {D : va_G} {dA : Nat → ClassId} {tt : Nat → Nat} {b n : Nat} (C : pl_C p s m args meth c co_C_putNumber 7 rn_C none "putNumber" D dA tt b) {f' : pl_H} {rc12 : pl_H → Nat → Int64 → Int32 → Int32 → Int32 → Option (pl_H)} (hr12 : ∀ (f : pl_H) (a0 : Nat) (y1 : Int64) (x3 : Int32) (x4 : Int32) (x5 : Int32) (H : Heap) (locs : List Loc) (ls : Array Slot), rc12 f a0 y1 x3 x4 x5 = some f' → pl_wd D vwCl dA b n f H → va_S (pl_A b) s.heap H locs → lv_has ls 7 [(0, .ref a0), (1, .long y1), (3, .int x3), (4, .int x4), (5, .int x5)] → W p l e rm_C_putNumber s m args below meth c H locs 0 0 (MQ below (pl_qV D dA tt b n f') args s 0 0 (pl_A b)) (F0 m 12 ls [])) {f : pl_H} {a0 : Nat} {y1 : Int64} {x3 : Int32} {x5 : Int32} {x6 : Int32} {H : Heap} {locs : List Loc} {ls : Array Slot} (hF : fn_C_putNumber_38 rc12 f a0 y1 x3 x5 x6 = some f') (w : pl_wd D vwCl dA b n f H) (hS : va_S (pl_A b) s.heap H locs) (hl : lv_has ls 7 [(0, .ref a0), (1, .long y1), (3, .int x3), (5, .int x5), (6, .int x6)]) : W p l e rm_C_putNumber s m args below meth c H locs 0 0 (MQ below (pl_qV D dA tt b n f') args s 0 0 (pl_A b)) (F0 m 38 ls []) := by
  have hx := C.1
  have hb := C.2.1
  have hown := C.2.2.2.2.1
  have hts := C.2.2.2.2.2.2.1
  unfold fn_C_putNumber_38 at hF
  refine lv_iconst (v := 1) hx hb dc_C_putNumber_38 (by decide) ?_
  refine lv_goto hx hb dc_C_putNumber_39 (tgt := 43) (by decide) ?_
  exact tl_C_putNumber_43 C hr12 hF w hS (lv_sub hl [0, 1, 2, 3, 4] rfl)
set_option maxHeartbeats 4000000 in
set_option maxRecDepth 100000 in
theorem tl_C_putNumber_12 {p : Program} {l : Launch} {e : Env} {s : State} {m : MethodId} {args : Array Value} {below : List Frame} {meth : Method} {c : Code} {D : va_G} {dA : Nat → ClassId} {tt : Nat → Nat} {b n : Nat} (C : pl_C p s m args meth c co_C_putNumber 7 rn_C none "putNumber" D dA tt b) {f' : pl_H} : ∀ k : Nat, ∀ (f : pl_H) (a0 : Nat) (y1 : Int64) (x3 : Int32) (x4 : Int32) (x5 : Int32) (H : Heap) (locs : List Loc) (ls : Array Slot), fn_C_putNumber_12 k f a0 y1 x3 x4 x5 = some f' → pl_wd D vwCl dA b n f H → va_S (pl_A b) s.heap H locs → lv_has ls 7 [(0, .ref a0), (1, .long y1), (3, .int x3), (4, .int x4), (5, .int x5)] → W p l e rm_C_putNumber s m args below meth c H locs 0 0 (MQ below (pl_qV D dA tt b n f') args s 0 0 (pl_A b)) (F0 m 12 ls []) := by
  have hx := C.1
  have hb := C.2.1
  have hown := C.2.2.2.2.1
  have hts := C.2.2.2.2.2.2.1
  intro k
  induction k with
  | zero =>
    intro f a0 y1 x3 x4 x5 H locs ls hF
    cases hF
  | succ k ih =>
    intro f a0 y1 x3 x4 x5 H locs ls hF w hS hl
    unfold fn_C_putNumber_12 at hF
    refine lv_iload hx hb dc_C_putNumber_12 (lv_at hl 4 rfl) ?_
    refine lv_if_lt hx hb dc_C_putNumber_14 (tgt := 62) (by decide) (fun hc => ?_) (fun hc => ?_)
    · have hF := (if_pos hc).symm.trans hF
      refine lv_aload_n hx hb dc_C_putNumber_62 rfl (lv_at hl 0 rfl) ?_
      refine lv_iload_n hx hb dc_C_putNumber_63 rfl (lv_at hl 2 rfl) ?_
      refine lv_sipush (v := 128) hx hb dc_C_putNumber_64 (by decide) ?_
      obtain ⟨u2, eu2, hF⟩ := pl_bd hF
      obtain ⟨q1, eq1, hF⟩ := pl_bd hF
      refine pl_gv (pl_runV (Cn := rn_C) (k := 2) C (tm_C_shut l D dA tt b n eq1) w hS rfl rfl mw_438 mw_403 mw_404 mw_68 mw_405 (by decide +kernel) ⟨by decide, by decide⟩ eu2 rfl (by decide) rfl hl.1 (Nat.le_of_ble_eq_true rfl) ⟨Nat.zero_le _, Nat.zero_le _⟩ rfl dc_C_putNumber_67) hS (fun H locs w hS => ?_)
      exact pl_retVw C w hS hF dc_C_putNumber_70
    · have hF := (if_neg hc).symm.trans hF
      refine lv_lload_n hx hb dc_C_putNumber_17 rfl (lv_at hl 1 rfl) ?_
      refine lv_iload hx hb dc_C_putNumber_18 (lv_at hl 4 rfl) ?_
      refine lv_lushr hx hb dc_C_putNumber_20 rfl ?_
      refine lv_l2i hx hb dc_C_putNumber_21 rfl ?_
      refine lv_sipush (v := 255) hx hb dc_C_putNumber_22 (by decide) ?_
      refine lv_iand hx hb dc_C_putNumber_25 ?_
      refine lv_istore (lv' := [(6, .int (((((y1.toUInt64 >>> ((x5 : Int32).toInt64.toUInt64 &&& Int64.toUInt64 63)).toInt64) : Int64).toInt32) &&& 255)), (0, .ref a0), (1, .long y1), (3, .int x3), (4, .int x4), (5, .int x5)]) hx hb dc_C_putNumber_26 hl (by decide) rfl (fun ls hl => ?_)
      refine lv_iload hx hb dc_C_putNumber_28 (lv_at hl 4 rfl) ?_
      refine lv_if_ne hx hb dc_C_putNumber_30 (tgt := 38) (by decide) (fun hc => ?_) (fun hc => ?_)
      · have hF := (if_neg hc).symm.trans hF
        exact tl_C_putNumber_38 C ih hF w hS (lv_sub hl [1, 2, 3, 5, 0] rfl)
      · have hF := (if_pos hc).symm.trans hF
        refine lv_iload hx hb dc_C_putNumber_33 (lv_at hl 0 rfl) ?_
        refine lv_if_eq hx hb dc_C_putNumber_35 (tgt := 42) (by decide) (fun hc => ?_) (fun hc => ?_)
        · have hF := (if_pos hc).symm.trans hF
          refine lv_iconst (v := 0) hx hb dc_C_putNumber_42 (by decide) ?_
          exact tl_C_putNumber_43 C ih hF w hS (lv_sub hl [1, 2, 3, 5, 0] rfl)
        · have hF := (if_neg hc).symm.trans hF
          exact tl_C_putNumber_38 C ih hF w hS (lv_sub hl [1, 2, 3, 5, 0] rfl)
set_option maxHeartbeats 4000000 in
set_option maxRecDepth 100000 in
theorem tl_C_putNumber {p : Program} {l : Launch} {e : Env} {s : State} {m : MethodId} {args : Array Value} {below : List Frame} {meth : Method} {c : Code} {D : va_G} {dA : Nat → ClassId} {tt : Nat → Nat} {b n : Nat} (C : pl_C p s m args meth c co_C_putNumber 7 rn_C none "putNumber" D dA tt b) {f' : pl_H} {f : pl_H} {a0 : Nat} {y1 : Int64} {H : Heap} {locs : List Loc} {ls : Array Slot} (hF : fn_C_putNumber f a0 y1 = some f') (w : pl_wd D vwCl dA b n f H) (hS : va_S (pl_A b) s.heap H locs) (hl : lv_has ls 7 [(0, .ref a0), (1, .long y1)]) : W p l e rm_C_putNumber s m args below meth c H locs 0 0 (MQ below (pl_qV D dA tt b n f') args s 0 0 (pl_A b)) (F0 m 0 ls []) := by
  have hx := C.1
  have hb := C.2.1
  have hown := C.2.2.2.2.1
  have hts := C.2.2.2.2.2.2.1
  unfold fn_C_putNumber at hF
  refine lv_aload_n hx hb dc_C_putNumber_0 rfl (lv_at hl 0 rfl) ?_
  obtain ⟨u2, eu2, hF⟩ := pl_bd hF
  obtain ⟨q1, eq1, hF⟩ := pl_bd hF
  refine pl_gi (pl_runV (Cn := rn_C) (k := 0) C (tm_C_open l D dA tt b n eq1) w hS rfl rfl mw_434 mw_395 mw_396 mw_68 mw_397 (by decide +kernel) ⟨by decide, by decide⟩ eu2 rfl (by decide) rfl hl.1 (Nat.le_of_ble_eq_true rfl) ⟨Nat.zero_le _, Nat.zero_le _⟩ rfl dc_C_putNumber_1) hS (fun H locs w hS => ?_)
  refine lv_istore_n (lv' := [(3, .int q1.1), (0, .ref a0), (1, .long y1)]) hx hb dc_C_putNumber_4 rfl hl (by decide) rfl (fun ls hl => ?_)
  refine lv_iconst (v := 0) hx hb dc_C_putNumber_5 (by decide) ?_
  refine lv_istore (lv' := [(4, .int 0), (3, .int q1.1), (0, .ref a0), (1, .long y1)]) hx hb dc_C_putNumber_6 hl (by decide) rfl (fun ls hl => ?_)
  refine lv_bipush (v := 56) hx hb dc_C_putNumber_8 (by decide) ?_
  refine lv_istore (lv' := [(5, .int 56), (4, .int 0), (3, .int q1.1), (0, .ref a0), (1, .long y1)]) hx hb dc_C_putNumber_10 hl (by decide) rfl (fun ls hl => ?_)
  exact tl_C_putNumber_12 C pl_N q1.2 a0 y1 q1.1 0 56 _ _ _ hF w hS (lv_sub hl [3, 4, 2, 1, 0] rfl)
set_option maxHeartbeats 4000000 in
set_option maxRecDepth 100000 in
theorem tm_C_putNumber (l : Launch) (D : va_G) (dA : Nat → ClassId) (tt : Nat → Nat) (b n : Nat) {f : pl_H} {a0 : Nat} {y1 : Int64} {f' : pl_H} (hF : fn_C_putNumber f a0 y1 = some f') : Met l my_C_putNumber (Cond.code my_C_putNumber co_C_putNumber 7 none :: pl_tb) rm_C_putNumber (va_Pc [.ref a0, .long y1] (pl_pre D dA tt b n f)) (pl_qV D dA tt b n f') 0 0 (pl_A b) := by
  refine Met.ofW (cc := co_C_putNumber) (maxL := 7) (ret := none) (by decide) rfl ?_
  intro p e s m args below meth c s₁ B hml hv
  obtain ⟨rfl, w, hK⟩ := hv
  have C : pl_C p s m _ meth c co_C_putNumber 7 rn_C none "putNumber" D dA tt b := ⟨B.exec, B.bytes, hml, B.returns, findClass_of_methodNamed B.named, B.notSynchronized, fun w hw => atoms_spec (ws := Cond.code my_C_putNumber co_C_putNumber 7 none :: pl_tb) B.pre w (List.mem_cons_of_mem _ hw), (name_of_methodNamed B.named B.method).1, hK⟩
  have hl := lv_entry ([.ref a0, .long y1]) (n := 7) (Nat.le_of_ble_eq_true rfl)
  rw [lg_entry_eq]
  generalize (lg_sl ([.ref a0, .long y1]) ++ List.replicate (7 - (lg_sl ([.ref a0, .long y1])).length) Slot.unset).toArray = ls at hl ⊢
  have hl : lv_has ls 7 [(0, .ref a0), (1, .long y1)] := hl
  exact tl_C_putNumber C hF w va_S.rf hl
def rm_C_bytes : Room := { frames := 0, cells := 0, slots := 0, locals := 0 }
def fn_C_bytes (f : pl_H) (a0 : Nat) : Option (Nat) := (pl_gR f a0 1 0).bind fun v1 => some v1
set_option maxHeartbeats 4000000 in
set_option maxRecDepth 100000 in
theorem tl_C_bytes {p : Program} {l : Launch} {e : Env} {s : State} {m : MethodId} {args : Array Value} {below : List Frame} {meth : Method} {c : Code} {D : va_G} {dA : Nat → ClassId} {tt : Nat → Nat} {b n : Nat} (C : pl_C p s m args meth c co_C_bytes 1 rn_C (some (.array .int)) "bytes" D dA tt b) {r : Nat} {f : pl_H} {a0 : Nat} {H : Heap} {locs : List Loc} {ls : Array Slot} (hF : fn_C_bytes f a0 = some r) (w : pl_wd D vwCl dA b n f H) (hS : va_S (pl_A b) s.heap H locs) (hl : lv_has ls 1 [(0, .ref a0)]) : W p l e rm_C_bytes s m args below meth c H locs 0 0 (MQ below (pl_qQ D dA tt b n f (some r)) args s 0 0 (pl_A b)) (F0 m 0 ls []) := by
  have hx := C.1
  have hb := C.2.1
  have hown := C.2.2.2.2.1
  have hts := C.2.2.2.2.2.2.1
  unfold fn_C_bytes at hF
  refine lv_aload_n hx hb dc_C_bytes_0 rfl (lv_at hl 0 rfl) ?_
  obtain ⟨v1, ev1, hF⟩ := pl_bd hF
  refine pl_getR C w (ci := 1) in_C rfl (by decide) 0 (by decide) mw_132 ev1 dc_C_bytes_1 ?_
  exact pl_retR C w hS hF (by first | exact Or.inl ⟨_, rfl⟩ | exact Or.inr ⟨_, rfl⟩) dc_C_bytes_4
set_option maxHeartbeats 4000000 in
set_option maxRecDepth 100000 in
theorem tm_C_bytes (l : Launch) (D : va_G) (dA : Nat → ClassId) (tt : Nat → Nat) (b n : Nat) {f : pl_H} {a0 : Nat} {r : Nat} (hF : fn_C_bytes f a0 = some r) : Met l my_C_bytes (Cond.code my_C_bytes co_C_bytes 1 (some (.array .int)) :: pl_tb) rm_C_bytes (va_Pc [.ref a0] (pl_pre D dA tt b n f)) (pl_qQ D dA tt b n f (some r)) 0 0 (pl_A b) := by
  refine Met.ofW (cc := co_C_bytes) (maxL := 1) (ret := (some (.array .int))) (by decide) rfl ?_
  intro p e s m args below meth c s₁ B hml hv
  obtain ⟨rfl, w, hK⟩ := hv
  have C : pl_C p s m _ meth c co_C_bytes 1 rn_C (some (.array .int)) "bytes" D dA tt b := ⟨B.exec, B.bytes, hml, B.returns, findClass_of_methodNamed B.named, B.notSynchronized, fun w hw => atoms_spec (ws := Cond.code my_C_bytes co_C_bytes 1 (some (.array .int)) :: pl_tb) B.pre w (List.mem_cons_of_mem _ hw), (name_of_methodNamed B.named B.method).1, hK⟩
  have hl := lv_entry ([.ref a0]) (n := 1) (Nat.le_of_ble_eq_true rfl)
  rw [lg_entry_eq]
  generalize (lg_sl ([.ref a0]) ++ List.replicate (1 - (lg_sl ([.ref a0])).length) Slot.unset).toArray = ls at hl ⊢
  have hl : lv_has ls 1 [(0, .ref a0)] := hl
  exact tl_C_bytes C hF w va_S.rf hl
def rm_C_copy : Room := { frames := 1, cells := 0, slots := 0, locals := 21 }
def fn_C_copy_37 (f : pl_H) : Option (pl_H) := some f
def fn_C_copy_2 : Nat → pl_H → Nat → Int32 → Int32 → Int32 → Option (pl_H)
  | 0 => fun _ _ _ _ _ => none
  | k + 1 => fun f a0 x1 x2 x3 => if (x1 + x2) ≤ x3 then fn_C_copy_37 f else if x3 < 0 then fn_C_copy_37 f else (pl_gI f a0 1 1).bind fun v1 => if v1 ≤ x3 then fn_C_copy_37 f else (pl_gR f a0 1 0).bind fun v2 => (pl_aI f v2 x3).bind fun v3 => (pl_is f a0 1).bind fun u5 => (fn_C_put f a0 v3).bind fun q4 => fn_C_copy_2 k q4 a0 x1 x2 (x3 + 1)
def fn_C_copy (f : pl_H) (a0 : Nat) (x1 : Int32) (x2 : Int32) : Option (pl_H) := fn_C_copy_2 pl_N f a0 x1 x2 x1
set_option maxHeartbeats 4000000 in
set_option maxRecDepth 100000 in
theorem tl_C_copy_37 {p : Program} {l : Launch} {e : Env} {s : State} {m : MethodId} {args : Array Value} {below : List Frame} {meth : Method} {c : Code} {D : va_G} {dA : Nat → ClassId} {tt : Nat → Nat} {b n : Nat} (C : pl_C p s m args meth c co_C_copy 4 rn_C none "copy" D dA tt b) {f' : pl_H} {f : pl_H} {H : Heap} {locs : List Loc} {ls : Array Slot} (hF : fn_C_copy_37 f = some f') (w : pl_wd D vwCl dA b n f H) (hS : va_S (pl_A b) s.heap H locs) (hl : lv_has ls 4 []) : W p l e rm_C_copy s m args below meth c H locs 0 0 (MQ below (pl_qV D dA tt b n f') args s 0 0 (pl_A b)) (F0 m 37 ls []) := by
  have hx := C.1
  have hb := C.2.1
  have hown := C.2.2.2.2.1
  have hts := C.2.2.2.2.2.2.1
  unfold fn_C_copy_37 at hF
  exact pl_retVw C w hS hF dc_C_copy_37
set_option maxHeartbeats 4000000 in
set_option maxRecDepth 100000 in
theorem tl_C_copy_2 {p : Program} {l : Launch} {e : Env} {s : State} {m : MethodId} {args : Array Value} {below : List Frame} {meth : Method} {c : Code} {D : va_G} {dA : Nat → ClassId} {tt : Nat → Nat} {b n : Nat} (C : pl_C p s m args meth c co_C_copy 4 rn_C none "copy" D dA tt b) {f' : pl_H} : ∀ k : Nat, ∀ (f : pl_H) (a0 : Nat) (x1 : Int32) (x2 : Int32) (x3 : Int32) (H : Heap) (locs : List Loc) (ls : Array Slot), fn_C_copy_2 k f a0 x1 x2 x3 = some f' → pl_wd D vwCl dA b n f H → va_S (pl_A b) s.heap H locs → lv_has ls 4 [(0, .ref a0), (1, .int x1), (2, .int x2), (3, .int x3)] → W p l e rm_C_copy s m args below meth c H locs 0 0 (MQ below (pl_qV D dA tt b n f') args s 0 0 (pl_A b)) (F0 m 2 ls []) := by
  have hx := C.1
  have hb := C.2.1
  have hown := C.2.2.2.2.1
  have hts := C.2.2.2.2.2.2.1
  intro k
  induction k with
  | zero =>
    intro f a0 x1 x2 x3 H locs ls hF
    cases hF
  | succ k ih =>
    intro f a0 x1 x2 x3 H locs ls hF w hS hl
    unfold fn_C_copy_2 at hF
    refine lv_iload_n hx hb dc_C_copy_2 rfl (lv_at hl 3 rfl) ?_
    refine lv_iload_n hx hb dc_C_copy_3 rfl (lv_at hl 1 rfl) ?_
    refine lv_iload_n hx hb dc_C_copy_4 rfl (lv_at hl 2 rfl) ?_
    refine lv_iadd hx hb dc_C_copy_5 ?_
    refine lv_icmp_ge hx hb dc_C_copy_6 (tgt := 37) (by decide) (fun hc => ?_) (fun hc => ?_)
    · have hF := (if_pos hc).symm.trans hF
      exact tl_C_copy_37 C hF w hS (lv_sub hl [] rfl)
    · have hF := (if_neg hc).symm.trans hF
      refine lv_iload_n hx hb dc_C_copy_9 rfl (lv_at hl 3 rfl) ?_
      refine lv_if_lt hx hb dc_C_copy_10 (tgt := 37) (by decide) (fun hc => ?_) (fun hc => ?_)
      · have hF := (if_pos hc).symm.trans hF
        exact tl_C_copy_37 C hF w hS (lv_sub hl [] rfl)
      · have hF := (if_neg hc).symm.trans hF
        refine lv_iload_n hx hb dc_C_copy_13 rfl (lv_at hl 3 rfl) ?_
        refine lv_aload_n hx hb dc_C_copy_14 rfl (lv_at hl 0 rfl) ?_
        obtain ⟨v1, ev1, hF⟩ := pl_bd hF
        refine pl_getI C w (ci := 1) in_C rfl (by decide) 1 (by decide) mw_133 ev1 dc_C_copy_15 ?_
        refine lv_icmp_ge hx hb dc_C_copy_18 (tgt := 37) (by decide) (fun hc => ?_) (fun hc => ?_)
        · have hF := (if_pos hc).symm.trans hF
          exact tl_C_copy_37 C hF w hS (lv_sub hl [] rfl)
        · have hF := (if_neg hc).symm.trans hF
          refine lv_aload_n hx hb dc_C_copy_21 rfl (lv_at hl 0 rfl) ?_
          refine lv_aload_n hx hb dc_C_copy_22 rfl (lv_at hl 0 rfl) ?_
          obtain ⟨v2, ev2, hF⟩ := pl_bd hF
          refine pl_getR C w (ci := 1) in_C rfl (by decide) 0 (by decide) mw_132 ev2 dc_C_copy_23 ?_
          refine lv_iload_n hx hb dc_C_copy_26 rfl (lv_at hl 3 rfl) ?_
          obtain ⟨v3, ev3, hF⟩ := pl_bd hF
          refine pl_aldI C w ev3 dc_C_copy_27 ?_
          obtain ⟨u5, eu5, hF⟩ := pl_bd hF
          obtain ⟨q4, eq4, hF⟩ := pl_bd hF
          refine pl_gv (pl_runV (Cn := rn_C) (k := 1) C (tm_C_put l D dA tt b n eq4) w hS rfl rfl mw_398 mw_399 mw_400 mw_68 mw_401 (by decide +kernel) ⟨by decide, by decide⟩ eu5 rfl (by decide) rfl hl.1 (Nat.le_of_ble_eq_true rfl) ⟨Nat.zero_le _, Nat.zero_le _⟩ rfl dc_C_copy_28) hS (fun H locs w hS => ?_)
          refine lv_iinc (k := 3) (v := x3 + 1) (lv' := [(3, .int (x3 + 1)), (0, .ref a0), (1, .int x1), (2, .int x2)]) hx hb dc_C_copy_31 hl rfl rfl (by decide) rfl (fun ls hl => ?_)
          refine lv_goto hx hb dc_C_copy_34 (tgt := 2) (by decide) ?_
          exact ih q4 a0 x1 x2 (x3 + 1) _ _ _ hF w hS (lv_sub hl [1, 2, 3, 0] rfl)
set_option maxHeartbeats 4000000 in
set_option maxRecDepth 100000 in
theorem tl_C_copy {p : Program} {l : Launch} {e : Env} {s : State} {m : MethodId} {args : Array Value} {below : List Frame} {meth : Method} {c : Code} {D : va_G} {dA : Nat → ClassId} {tt : Nat → Nat} {b n : Nat} (C : pl_C p s m args meth c co_C_copy 4 rn_C none "copy" D dA tt b) {f' : pl_H} {f : pl_H} {a0 : Nat} {x1 : Int32} {x2 : Int32} {H : Heap} {locs : List Loc} {ls : Array Slot} (hF : fn_C_copy f a0 x1 x2 = some f') (w : pl_wd D vwCl dA b n f H) (hS : va_S (pl_A b) s.heap H locs) (hl : lv_has ls 4 [(0, .ref a0), (1, .int x1), (2, .int x2)]) : W p l e rm_C_copy s m args below meth c H locs 0 0 (MQ below (pl_qV D dA tt b n f') args s 0 0 (pl_A b)) (F0 m 0 ls []) := by
  have hx := C.1
  have hb := C.2.1
  have hown := C.2.2.2.2.1
  have hts := C.2.2.2.2.2.2.1
  unfold fn_C_copy at hF
  refine lv_iload_n hx hb dc_C_copy_0 rfl (lv_at hl 1 rfl) ?_
  refine lv_istore_n (lv' := [(3, .int x1), (0, .ref a0), (1, .int x1), (2, .int x2)]) hx hb dc_C_copy_1 rfl hl (by decide) rfl (fun ls hl => ?_)
  exact tl_C_copy_2 C pl_N f a0 x1 x2 x1 _ _ _ hF w hS (lv_sub hl [1, 2, 3, 0] rfl)
set_option maxHeartbeats 4000000 in
set_option maxRecDepth 100000 in
theorem tm_C_copy (l : Launch) (D : va_G) (dA : Nat → ClassId) (tt : Nat → Nat) (b n : Nat) {f : pl_H} {a0 : Nat} {x1 : Int32} {x2 : Int32} {f' : pl_H} (hF : fn_C_copy f a0 x1 x2 = some f') : Met l my_C_copy (Cond.code my_C_copy co_C_copy 4 none :: pl_tb) rm_C_copy (va_Pc [.ref a0, .int x1, .int x2] (pl_pre D dA tt b n f)) (pl_qV D dA tt b n f') 0 0 (pl_A b) := by
  refine Met.ofW (cc := co_C_copy) (maxL := 4) (ret := none) (by decide) rfl ?_
  intro p e s m args below meth c s₁ B hml hv
  obtain ⟨rfl, w, hK⟩ := hv
  have C : pl_C p s m _ meth c co_C_copy 4 rn_C none "copy" D dA tt b := ⟨B.exec, B.bytes, hml, B.returns, findClass_of_methodNamed B.named, B.notSynchronized, fun w hw => atoms_spec (ws := Cond.code my_C_copy co_C_copy 4 none :: pl_tb) B.pre w (List.mem_cons_of_mem _ hw), (name_of_methodNamed B.named B.method).1, hK⟩
  have hl := lv_entry ([.ref a0, .int x1, .int x2]) (n := 4) (Nat.le_of_ble_eq_true rfl)
  rw [lg_entry_eq]
  generalize (lg_sl ([.ref a0, .int x1, .int x2]) ++ List.replicate (4 - (lg_sl ([.ref a0, .int x1, .int x2])).length) Slot.unset).toArray = ls at hl ⊢
  have hl : lv_has ls 4 [(0, .ref a0), (1, .int x1), (2, .int x2)] := hl
  exact tl_C_copy C hF w va_S.rf hl
