def rm_P_clear : Room := { frames := 0, cells := 0, slots := 0, locals := 0 }
def fn_P_clear (f : pl_H) (a0 : Nat) : Option (pl_H) := (pl_pV f a0 4 2 (.int 0)).bind fun f1 => some f1
set_option maxHeartbeats 4000000 in
set_option maxRecDepth 100000 in
theorem tl_P_clear {p : Program} {l : Launch} {e : Env} {s : State} {m : MethodId} {args : Array Value} {below : List Frame} {meth : Method} {c : Code} {D : va_G} {dA : Nat → ClassId} {tt : Nat → Nat} {b n : Nat} (C : pl_C p s m args meth c co_P_clear 1 rn_P none "clear" D dA tt b) {f' : pl_H} {f : pl_H} {a0 : Nat} {H : Heap} {locs : List Loc} {ls : Array Slot} (hF : fn_P_clear f a0 = some f') (w : pl_wd D vwCl dA b n f H) (hS : va_S (pl_A b) s.heap H locs) (hl : lv_has ls 1 [(0, .ref a0)]) : W p l e rm_P_clear s m args below meth c H locs 0 0 (MQ below (pl_qV D dA tt b n f') args s 0 0 (pl_A b)) (F0 m 0 ls []) := by
  have hx := C.1
  have hb := C.2.1
  have hown := C.2.2.2.2.1
  have hts := C.2.2.2.2.2.2.1
  unfold fn_P_clear at hF
  refine lv_aload_n hx hb dc_P_clear_0 rfl (lv_at hl 0 rfl) ?_
  refine lv_iconst (v := 0) hx hb dc_P_clear_1 (by decide) ?_
  obtain ⟨f1, ef1, hF⟩ := pl_bd hF
  refine pl_put C w hS (ci := 4) in_P rfl (by decide) rty_P_ok rnm_P 2 (by decide) mw_208 rfl rfl rfl ef1 dc_P_clear_2 (fun H locs w hS => ?_)
  exact pl_retVw C w hS hF dc_P_clear_5
set_option maxHeartbeats 4000000 in
set_option maxRecDepth 100000 in
theorem tm_P_clear (l : Launch) (D : va_G) (dA : Nat → ClassId) (tt : Nat → Nat) (b n : Nat) {f : pl_H} {a0 : Nat} {f' : pl_H} (hF : fn_P_clear f a0 = some f') : Met l my_P_clear (Cond.code my_P_clear co_P_clear 1 none :: pl_tb) rm_P_clear (va_Pc [.ref a0] (pl_pre D dA tt b n f)) (pl_qV D dA tt b n f') 0 0 (pl_A b) := by
  refine Met.ofW (cc := co_P_clear) (maxL := 1) (ret := none) (by decide) rfl ?_
  intro p e s m args below meth c s₁ B hml hv
  obtain ⟨rfl, w, hK⟩ := hv
  have C : pl_C p s m _ meth c co_P_clear 1 rn_P none "clear" D dA tt b := ⟨B.exec, B.bytes, hml, B.returns, findClass_of_methodNamed B.named, B.notSynchronized, fun w hw => atoms_spec (ws := Cond.code my_P_clear co_P_clear 1 none :: pl_tb) B.pre w (List.mem_cons_of_mem _ hw), (name_of_methodNamed B.named B.method).1, hK⟩
  have hl := lv_entry ([.ref a0]) (n := 1) (Nat.le_of_ble_eq_true rfl)
  rw [lg_entry_eq]
  generalize (lg_sl ([.ref a0]) ++ List.replicate (1 - (lg_sl ([.ref a0])).length) Slot.unset).toArray = ls at hl ⊢
  have hl : lv_has ls 1 [(0, .ref a0)] := hl
  exact tl_P_clear C hF w va_S.rf hl
def rm_P_add : Room := { frames := 1, cells := 0, slots := 0, locals := 60 }
def fn_P_add_43 (f : pl_H) : Option (pl_H) := some f
def fn_P_add_21 (f : pl_H) (a0 : Nat) (a1 : Nat) (x2 : Int32) (x3 : Int32) (sx0 : Int32) : Option (pl_H) := if sx0 = 0 then fn_P_add_43 f else if 404 < x3 then fn_P_add_43 f else (pl_gI f a0 4 2).bind fun v1 => if v1 < 5 then (pl_gR f a0 4 0).bind fun v2 => (pl_gI f a0 4 2).bind fun v3 => (pl_aQ f 3 v2 v3).bind fun r4 => r4.bind fun a5 => (pl_cp f a1 x2 a5 0 x3).bind fun f6 => (pl_gR f6 a0 4 1).bind fun v7 => (pl_gI f6 a0 4 2).bind fun v8 => (pl_sI f6 v7 v8 x3).bind fun f9 => (pl_gI f9 a0 4 2).bind fun v10 => (pl_pV f9 a0 4 2 (.int (v10 + 1))).bind fun f11 => some f11 else fn_P_add_43 f
def fn_P_add_20 (f : pl_H) (a0 : Nat) (a1 : Nat) (x2 : Int32) (x3 : Int32) : Option (pl_H) := fn_P_add_21 f a0 a1 x2 x3 0
def fn_P_add (f : pl_H) (a0 : Nat) (a1 : Nat) (x2 : Int32) (x3 : Int32) : Option (pl_H) := if x2 < 0 then fn_P_add_20 f a0 a1 x2 x3 else if x3 < 0 then fn_P_add_20 f a0 a1 x2 x3 else (pl_ln f a1).bind fun v1 => if (v1 - x2) < x3 then fn_P_add_20 f a0 a1 x2 x3 else fn_P_add_21 f a0 a1 x2 x3 1
set_option maxHeartbeats 4000000 in
set_option maxRecDepth 100000 in
theorem tl_P_add_43 {p : Program} {l : Launch} {e : Env} {s : State} {m : MethodId} {args : Array Value} {below : List Frame} {meth : Method} {c : Code} {D : va_G} {dA : Nat → ClassId} {tt : Nat → Nat} {b n : Nat} (C : pl_C p s m args meth c co_P_add 5 rn_P none "add" D dA tt b) {f' : pl_H} {f : pl_H} {H : Heap} {locs : List Loc} {ls : Array Slot} (hF : fn_P_add_43 f = some f') (w : pl_wd D vwCl dA b n f H) (hS : va_S (pl_A b) s.heap H locs) (hl : lv_has ls 5 []) : W p l e rm_P_add s m args below meth c H locs 0 0 (MQ below (pl_qV D dA tt b n f') args s 0 0 (pl_A b)) (F0 m 43 ls []) := by
  have hx := C.1
  have hb := C.2.1
  have hown := C.2.2.2.2.1
  have hts := C.2.2.2.2.2.2.1
  unfold fn_P_add_43 at hF
  exact pl_retVw C w hS hF dc_P_add_43
set_option maxHeartbeats 4000000 in
set_option maxRecDepth 100000 in
theorem tl_P_add_21 {p : Program} {l : Launch} {e : Env} {s : State} {m : MethodId} {args : Array Value} {below : List Frame} {meth : Method} {c : Code} {D : va_G} {dA : Nat → ClassId} {tt : Nat → Nat} {b n : Nat} (C : pl_C p s m args meth c co_P_add 5 rn_P none "add" D dA tt b) {f' : pl_H} {f : pl_H} {a0 : Nat} {a1 : Nat} {x2 : Int32} {x3 : Int32} {sx0 : Int32} {H : Heap} {locs : List Loc} {ls : Array Slot} (hF : fn_P_add_21 f a0 a1 x2 x3 sx0 = some f') (w : pl_wd D vwCl dA b n f H) (hS : va_S (pl_A b) s.heap H locs) (hl : lv_has ls 5 [(0, .ref a0), (1, .ref a1), (2, .int x2), (3, .int x3)]) : W p l e rm_P_add s m args below meth c H locs 0 0 (MQ below (pl_qV D dA tt b n f') args s 0 0 (pl_A b)) (F0 m 21 ls [.int sx0]) := by
  have hx := C.1
  have hb := C.2.1
  have hown := C.2.2.2.2.1
  have hts := C.2.2.2.2.2.2.1
  unfold fn_P_add_21 at hF
  refine lv_istore (lv' := [(4, .int sx0), (0, .ref a0), (1, .ref a1), (2, .int x2), (3, .int x3)]) hx hb dc_P_add_21 hl (by decide) rfl (fun ls hl => ?_)
  refine lv_iload hx hb dc_P_add_23 (lv_at hl 0 rfl) ?_
  refine lv_if_eq hx hb dc_P_add_25 (tgt := 43) (by decide) (fun hc => ?_) (fun hc => ?_)
  · have hF := (if_pos hc).symm.trans hF
    exact tl_P_add_43 C hF w hS (lv_sub hl [] rfl)
  · have hF := (if_neg hc).symm.trans hF
    refine lv_iload_n hx hb dc_P_add_28 rfl (lv_at hl 4 rfl) ?_
    refine lv_sipush (v := 404) hx hb dc_P_add_29 (by decide) ?_
    refine lv_icmp_gt hx hb dc_P_add_32 (tgt := 43) (by decide) (fun hc => ?_) (fun hc => ?_)
    · have hF := (if_pos hc).symm.trans hF
      exact tl_P_add_43 C hF w hS (lv_sub hl [] rfl)
    · have hF := (if_neg hc).symm.trans hF
      refine lv_aload_n hx hb dc_P_add_35 rfl (lv_at hl 1 rfl) ?_
      obtain ⟨v1, ev1, hF⟩ := pl_bd hF
      refine pl_getI C w (ci := 4) in_P rfl (by decide) 2 (by decide) mw_208 ev1 dc_P_add_36 ?_
      refine lv_iconst (v := 5) hx hb dc_P_add_39 (by decide) ?_
      refine lv_icmp_lt hx hb dc_P_add_40 (tgt := 44) (by decide) (fun hc => ?_) (fun hc => ?_)
      · have hF := (if_pos hc).symm.trans hF
        refine lv_aload_n hx hb dc_P_add_44 rfl (lv_at hl 2 rfl) ?_
        refine lv_iload_n hx hb dc_P_add_45 rfl (lv_at hl 3 rfl) ?_
        refine lv_aload_n hx hb dc_P_add_46 rfl (lv_at hl 1 rfl) ?_
        obtain ⟨v2, ev2, hF⟩ := pl_bd hF
        refine pl_getR C w (ci := 4) in_P rfl (by decide) 0 (by decide) mw_206 ev2 dc_P_add_47 ?_
        refine lv_aload_n hx hb dc_P_add_50 rfl (lv_at hl 1 rfl) ?_
        obtain ⟨v3, ev3, hF⟩ := pl_bd hF
        refine pl_getI C w (ci := 4) in_P rfl (by decide) 2 (by decide) mw_208 ev3 dc_P_add_51 ?_
        obtain ⟨r4, er4, hF⟩ := pl_bd hF
        refine pl_aldQ3 C w er4 dc_P_add_54 ?_
        refine lv_iconst (v := 0) hx hb dc_P_add_55 (by decide) ?_
        refine lv_iload_n hx hb dc_P_add_56 rfl (lv_at hl 4 rfl) ?_
        obtain ⟨a5, hz, hG⟩ := pl_bd hF
        clear hF
        subst hz
        have hF := hG
        clear hG
        have hl : lv_has ls 5 [(4, .int sx0), (0, .ref a0), (1, .ref a1), (2, .int x2), (3, .int x3)] := hl
        obtain ⟨f6, ef6, hF⟩ := pl_bd hF
        refine pl_copy C w hS mw_540 mw_542 mw_541 mw_73 hl.1 ef6 (by decide) (Nat.le_of_ble_eq_true rfl) dc_P_add_57 (fun H locs w hS => ?_)
        refine lv_aload_n hx hb dc_P_add_60 rfl (lv_at hl 1 rfl) ?_
        obtain ⟨v7, ev7, hF⟩ := pl_bd hF
        refine pl_getR C w (ci := 4) in_P rfl (by decide) 1 (by decide) mw_207 ev7 dc_P_add_61 ?_
        refine lv_aload_n hx hb dc_P_add_64 rfl (lv_at hl 1 rfl) ?_
        obtain ⟨v8, ev8, hF⟩ := pl_bd hF
        refine pl_getI C w (ci := 4) in_P rfl (by decide) 2 (by decide) mw_208 ev8 dc_P_add_65 ?_
        refine lv_iload_n hx hb dc_P_add_68 rfl (lv_at hl 4 rfl) ?_
        obtain ⟨f9, ef9, hF⟩ := pl_bd hF
        refine pl_astI C w hS ef9 dc_P_add_69 (fun H locs w hS => ?_)
        refine lv_aload_n hx hb dc_P_add_70 rfl (lv_at hl 1 rfl) ?_
        refine lv_dup hx hb dc_P_add_71 rfl ?_
        obtain ⟨v10, ev10, hF⟩ := pl_bd hF
        refine pl_getI C w (ci := 4) in_P rfl (by decide) 2 (by decide) mw_208 ev10 dc_P_add_72 ?_
        refine lv_iconst (v := 1) hx hb dc_P_add_75 (by decide) ?_
        refine lv_iadd hx hb dc_P_add_76 ?_
        obtain ⟨f11, ef11, hF⟩ := pl_bd hF
        refine pl_put C w hS (ci := 4) in_P rfl (by decide) rty_P_ok rnm_P 2 (by decide) mw_208 rfl rfl rfl ef11 dc_P_add_77 (fun H locs w hS => ?_)
        exact pl_retVw C w hS hF dc_P_add_80
      · have hF := (if_neg hc).symm.trans hF
        exact tl_P_add_43 C hF w hS (lv_sub hl [] rfl)
set_option maxHeartbeats 4000000 in
set_option maxRecDepth 100000 in
theorem tl_P_add_20 {p : Program} {l : Launch} {e : Env} {s : State} {m : MethodId} {args : Array Value} {below : List Frame} {meth : Method} {c : Code} {D : va_G} {dA : Nat → ClassId} {tt : Nat → Nat} {b n : Nat} (C : pl_C p s m args meth c co_P_add 5 rn_P none "add" D dA tt b) {f' : pl_H} {f : pl_H} {a0 : Nat} {a1 : Nat} {x2 : Int32} {x3 : Int32} {H : Heap} {locs : List Loc} {ls : Array Slot} (hF : fn_P_add_20 f a0 a1 x2 x3 = some f') (w : pl_wd D vwCl dA b n f H) (hS : va_S (pl_A b) s.heap H locs) (hl : lv_has ls 5 [(0, .ref a0), (1, .ref a1), (2, .int x2), (3, .int x3)]) : W p l e rm_P_add s m args below meth c H locs 0 0 (MQ below (pl_qV D dA tt b n f') args s 0 0 (pl_A b)) (F0 m 20 ls []) := by
  have hx := C.1
  have hb := C.2.1
  have hown := C.2.2.2.2.1
  have hts := C.2.2.2.2.2.2.1
  unfold fn_P_add_20 at hF
  refine lv_iconst (v := 0) hx hb dc_P_add_20 (by decide) ?_
  exact tl_P_add_21 C hF w hS (lv_sub hl [0, 1, 2, 3] rfl)
set_option maxHeartbeats 4000000 in
set_option maxRecDepth 100000 in
theorem tl_P_add {p : Program} {l : Launch} {e : Env} {s : State} {m : MethodId} {args : Array Value} {below : List Frame} {meth : Method} {c : Code} {D : va_G} {dA : Nat → ClassId} {tt : Nat → Nat} {b n : Nat} (C : pl_C p s m args meth c co_P_add 5 rn_P none "add" D dA tt b) {f' : pl_H} {f : pl_H} {a0 : Nat} {a1 : Nat} {x2 : Int32} {x3 : Int32} {H : Heap} {locs : List Loc} {ls : Array Slot} (hF : fn_P_add f a0 a1 x2 x3 = some f') (w : pl_wd D vwCl dA b n f H) (hS : va_S (pl_A b) s.heap H locs) (hl : lv_has ls 5 [(0, .ref a0), (1, .ref a1), (2, .int x2), (3, .int x3)]) : W p l e rm_P_add s m args below meth c H locs 0 0 (MQ below (pl_qV D dA tt b n f') args s 0 0 (pl_A b)) (F0 m 0 ls []) := by
  have hx := C.1
  have hb := C.2.1
  have hown := C.2.2.2.2.1
  have hts := C.2.2.2.2.2.2.1
  unfold fn_P_add at hF
  refine lv_iload_n hx hb dc_P_add_0 rfl (lv_at hl 2 rfl) ?_
  refine lv_if_lt hx hb dc_P_add_1 (tgt := 20) (by decide) (fun hc => ?_) (fun hc => ?_)
  · have hF := (if_pos hc).symm.trans hF
    exact tl_P_add_20 C hF w hS (lv_sub hl [0, 1, 2, 3] rfl)
  · have hF := (if_neg hc).symm.trans hF
    refine lv_iload_n hx hb dc_P_add_4 rfl (lv_at hl 3 rfl) ?_
    refine lv_if_lt hx hb dc_P_add_5 (tgt := 20) (by decide) (fun hc => ?_) (fun hc => ?_)
    · have hF := (if_pos hc).symm.trans hF
      exact tl_P_add_20 C hF w hS (lv_sub hl [0, 1, 2, 3] rfl)
    · have hF := (if_neg hc).symm.trans hF
      refine lv_iload_n hx hb dc_P_add_8 rfl (lv_at hl 3 rfl) ?_
      refine lv_aload_n hx hb dc_P_add_9 rfl (lv_at hl 1 rfl) ?_
      obtain ⟨v1, ev1, hF⟩ := pl_bd hF
      refine pl_len C w ev1 dc_P_add_10 ?_
      refine lv_iload_n hx hb dc_P_add_11 rfl (lv_at hl 2 rfl) ?_
      refine lv_isub hx hb dc_P_add_12 ?_
      refine lv_icmp_gt hx hb dc_P_add_13 (tgt := 20) (by decide) (fun hc => ?_) (fun hc => ?_)
      · have hF := (if_pos hc).symm.trans hF
        exact tl_P_add_20 C hF w hS (lv_sub hl [0, 1, 2, 3] rfl)
      · have hF := (if_neg hc).symm.trans hF
        refine lv_iconst (v := 1) hx hb dc_P_add_16 (by decide) ?_
        refine lv_goto hx hb dc_P_add_17 (tgt := 21) (by decide) ?_
        exact tl_P_add_21 C hF w hS (lv_sub hl [0, 1, 2, 3] rfl)
set_option maxHeartbeats 4000000 in
set_option maxRecDepth 100000 in
theorem tm_P_add (l : Launch) (D : va_G) (dA : Nat → ClassId) (tt : Nat → Nat) (b n : Nat) {f : pl_H} {a0 : Nat} {a1 : Nat} {x2 : Int32} {x3 : Int32} {f' : pl_H} (hF : fn_P_add f a0 a1 x2 x3 = some f') : Met l my_P_add (Cond.code my_P_add co_P_add 5 none :: pl_tb) rm_P_add (va_Pc [.ref a0, .ref a1, .int x2, .int x3] (pl_pre D dA tt b n f)) (pl_qV D dA tt b n f') 0 0 (pl_A b) := by
  refine Met.ofW (cc := co_P_add) (maxL := 5) (ret := none) (by decide) rfl ?_
  intro p e s m args below meth c s₁ B hml hv
  obtain ⟨rfl, w, hK⟩ := hv
  have C : pl_C p s m _ meth c co_P_add 5 rn_P none "add" D dA tt b := ⟨B.exec, B.bytes, hml, B.returns, findClass_of_methodNamed B.named, B.notSynchronized, fun w hw => atoms_spec (ws := Cond.code my_P_add co_P_add 5 none :: pl_tb) B.pre w (List.mem_cons_of_mem _ hw), (name_of_methodNamed B.named B.method).1, hK⟩
  have hl := lv_entry ([.ref a0, .ref a1, .int x2, .int x3]) (n := 5) (Nat.le_of_ble_eq_true rfl)
  rw [lg_entry_eq]
  generalize (lg_sl ([.ref a0, .ref a1, .int x2, .int x3]) ++ List.replicate (5 - (lg_sl ([.ref a0, .ref a1, .int x2, .int x3])).length) Slot.unset).toArray = ls at hl ⊢
  have hl : lv_has ls 5 [(0, .ref a0), (1, .ref a1), (2, .int x2), (3, .int x3)] := hl
  exact tl_P_add C hF w va_S.rf hl
def rm_P_count : Room := { frames := 0, cells := 0, slots := 0, locals := 0 }
def fn_P_count (f : pl_H) (a0 : Nat) : Option (Int32) := (pl_gI f a0 4 2).bind fun v1 => some v1
set_option maxHeartbeats 4000000 in
set_option maxRecDepth 100000 in
theorem tl_P_count {p : Program} {l : Launch} {e : Env} {s : State} {m : MethodId} {args : Array Value} {below : List Frame} {meth : Method} {c : Code} {D : va_G} {dA : Nat → ClassId} {tt : Nat → Nat} {b n : Nat} (C : pl_C p s m args meth c co_P_count 1 rn_P (some .int) "count" D dA tt b) {r : Int32} {f : pl_H} {a0 : Nat} {H : Heap} {locs : List Loc} {ls : Array Slot} (hF : fn_P_count f a0 = some r) (w : pl_wd D vwCl dA b n f H) (hS : va_S (pl_A b) s.heap H locs) (hl : lv_has ls 1 [(0, .ref a0)]) : W p l e rm_P_count s m args below meth c H locs 0 0 (MQ below (pl_qI D dA tt b n f r) args s 0 0 (pl_A b)) (F0 m 0 ls []) := by
  have hx := C.1
  have hb := C.2.1
  have hown := C.2.2.2.2.1
  have hts := C.2.2.2.2.2.2.1
  unfold fn_P_count at hF
  refine lv_aload_n hx hb dc_P_count_0 rfl (lv_at hl 0 rfl) ?_
  obtain ⟨v1, ev1, hF⟩ := pl_bd hF
  refine pl_getI C w (ci := 4) in_P rfl (by decide) 2 (by decide) mw_208 ev1 dc_P_count_1 ?_
  exact pl_retI C w hS hF dc_P_count_4
set_option maxHeartbeats 4000000 in
set_option maxRecDepth 100000 in
theorem tm_P_count (l : Launch) (D : va_G) (dA : Nat → ClassId) (tt : Nat → Nat) (b n : Nat) {f : pl_H} {a0 : Nat} {r : Int32} (hF : fn_P_count f a0 = some r) : Met l my_P_count (Cond.code my_P_count co_P_count 1 (some .int) :: pl_tb) rm_P_count (va_Pc [.ref a0] (pl_pre D dA tt b n f)) (pl_qI D dA tt b n f r) 0 0 (pl_A b) := by
  refine Met.ofW (cc := co_P_count) (maxL := 1) (ret := (some .int)) (by decide) rfl ?_
  intro p e s m args below meth c s₁ B hml hv
  obtain ⟨rfl, w, hK⟩ := hv
  have C : pl_C p s m _ meth c co_P_count 1 rn_P (some .int) "count" D dA tt b := ⟨B.exec, B.bytes, hml, B.returns, findClass_of_methodNamed B.named, B.notSynchronized, fun w hw => atoms_spec (ws := Cond.code my_P_count co_P_count 1 (some .int) :: pl_tb) B.pre w (List.mem_cons_of_mem _ hw), (name_of_methodNamed B.named B.method).1, hK⟩
  have hl := lv_entry ([.ref a0]) (n := 1) (Nat.le_of_ble_eq_true rfl)
  rw [lg_entry_eq]
  generalize (lg_sl ([.ref a0]) ++ List.replicate (1 - (lg_sl ([.ref a0])).length) Slot.unset).toArray = ls at hl ⊢
  have hl : lv_has ls 1 [(0, .ref a0)] := hl
  exact tl_P_count C hF w va_S.rf hl
def rm_P_hasPart : Room := { frames := 0, cells := 0, slots := 0, locals := 0 }
def fn_P_hasPart_17 (f : pl_H) (sx0 : Int32) : Option (Int32) := pl_z sx0
def fn_P_hasPart_16 (f : pl_H) : Option (Int32) := fn_P_hasPart_17 f 0
def fn_P_hasPart (f : pl_H) (a0 : Nat) (x1 : Int32) : Option (Int32) := if x1 < 0 then fn_P_hasPart_16 f else (pl_gI f a0 4 2).bind fun v1 => if v1 ≤ x1 then fn_P_hasPart_16 f else fn_P_hasPart_17 f 1
set_option maxHeartbeats 4000000 in
set_option maxRecDepth 100000 in
theorem tl_P_hasPart_17 {p : Program} {l : Launch} {e : Env} {s : State} {m : MethodId} {args : Array Value} {below : List Frame} {meth : Method} {c : Code} {D : va_G} {dA : Nat → ClassId} {tt : Nat → Nat} {b n : Nat} (C : pl_C p s m args meth c co_P_hasPart 2 rn_P (some .boolean) "hasPart" D dA tt b) {r : Int32} {f : pl_H} {sx0 : Int32} {H : Heap} {locs : List Loc} {ls : Array Slot} (hF : fn_P_hasPart_17 f sx0 = some r) (w : pl_wd D vwCl dA b n f H) (hS : va_S (pl_A b) s.heap H locs) (hl : lv_has ls 2 []) : W p l e rm_P_hasPart s m args below meth c H locs 0 0 (MQ below (pl_qI D dA tt b n f r) args s 0 0 (pl_A b)) (F0 m 17 ls [.int sx0]) := by
  have hx := C.1
  have hb := C.2.1
  have hown := C.2.2.2.2.1
  have hts := C.2.2.2.2.2.2.1
  unfold fn_P_hasPart_17 at hF
  exact pl_retZ C w hS hF dc_P_hasPart_17
set_option maxHeartbeats 4000000 in
set_option maxRecDepth 100000 in
theorem tl_P_hasPart_16 {p : Program} {l : Launch} {e : Env} {s : State} {m : MethodId} {args : Array Value} {below : List Frame} {meth : Method} {c : Code} {D : va_G} {dA : Nat → ClassId} {tt : Nat → Nat} {b n : Nat} (C : pl_C p s m args meth c co_P_hasPart 2 rn_P (some .boolean) "hasPart" D dA tt b) {r : Int32} {f : pl_H} {H : Heap} {locs : List Loc} {ls : Array Slot} (hF : fn_P_hasPart_16 f = some r) (w : pl_wd D vwCl dA b n f H) (hS : va_S (pl_A b) s.heap H locs) (hl : lv_has ls 2 []) : W p l e rm_P_hasPart s m args below meth c H locs 0 0 (MQ below (pl_qI D dA tt b n f r) args s 0 0 (pl_A b)) (F0 m 16 ls []) := by
  have hx := C.1
  have hb := C.2.1
  have hown := C.2.2.2.2.1
  have hts := C.2.2.2.2.2.2.1
  unfold fn_P_hasPart_16 at hF
  refine lv_iconst (v := 0) hx hb dc_P_hasPart_16 (by decide) ?_
  exact tl_P_hasPart_17 C hF w hS (lv_sub hl [] rfl)
set_option maxHeartbeats 4000000 in
set_option maxRecDepth 100000 in
theorem tl_P_hasPart {p : Program} {l : Launch} {e : Env} {s : State} {m : MethodId} {args : Array Value} {below : List Frame} {meth : Method} {c : Code} {D : va_G} {dA : Nat → ClassId} {tt : Nat → Nat} {b n : Nat} (C : pl_C p s m args meth c co_P_hasPart 2 rn_P (some .boolean) "hasPart" D dA tt b) {r : Int32} {f : pl_H} {a0 : Nat} {x1 : Int32} {H : Heap} {locs : List Loc} {ls : Array Slot} (hF : fn_P_hasPart f a0 x1 = some r) (w : pl_wd D vwCl dA b n f H) (hS : va_S (pl_A b) s.heap H locs) (hl : lv_has ls 2 [(0, .ref a0), (1, .int x1)]) : W p l e rm_P_hasPart s m args below meth c H locs 0 0 (MQ below (pl_qI D dA tt b n f r) args s 0 0 (pl_A b)) (F0 m 0 ls []) := by
  have hx := C.1
  have hb := C.2.1
  have hown := C.2.2.2.2.1
  have hts := C.2.2.2.2.2.2.1
  unfold fn_P_hasPart at hF
  refine lv_iload_n hx hb dc_P_hasPart_0 rfl (lv_at hl 1 rfl) ?_
  refine lv_if_lt hx hb dc_P_hasPart_1 (tgt := 16) (by decide) (fun hc => ?_) (fun hc => ?_)
  · have hF := (if_pos hc).symm.trans hF
    exact tl_P_hasPart_16 C hF w hS (lv_sub hl [] rfl)
  · have hF := (if_neg hc).symm.trans hF
    refine lv_iload_n hx hb dc_P_hasPart_4 rfl (lv_at hl 1 rfl) ?_
    refine lv_aload_n hx hb dc_P_hasPart_5 rfl (lv_at hl 0 rfl) ?_
    obtain ⟨v1, ev1, hF⟩ := pl_bd hF
    refine pl_getI C w (ci := 4) in_P rfl (by decide) 2 (by decide) mw_208 ev1 dc_P_hasPart_6 ?_
    refine lv_icmp_ge hx hb dc_P_hasPart_9 (tgt := 16) (by decide) (fun hc => ?_) (fun hc => ?_)
    · have hF := (if_pos hc).symm.trans hF
      exact tl_P_hasPart_16 C hF w hS (lv_sub hl [] rfl)
    · have hF := (if_neg hc).symm.trans hF
      refine lv_iconst (v := 1) hx hb dc_P_hasPart_12 (by decide) ?_
      refine lv_goto hx hb dc_P_hasPart_13 (tgt := 17) (by decide) ?_
      exact tl_P_hasPart_17 C hF w hS (lv_sub hl [] rfl)
set_option maxHeartbeats 4000000 in
set_option maxRecDepth 100000 in
theorem tm_P_hasPart (l : Launch) (D : va_G) (dA : Nat → ClassId) (tt : Nat → Nat) (b n : Nat) {f : pl_H} {a0 : Nat} {x1 : Int32} {r : Int32} (hF : fn_P_hasPart f a0 x1 = some r) : Met l my_P_hasPart (Cond.code my_P_hasPart co_P_hasPart 2 (some .boolean) :: pl_tb) rm_P_hasPart (va_Pc [.ref a0, .int x1] (pl_pre D dA tt b n f)) (pl_qI D dA tt b n f r) 0 0 (pl_A b) := by
  refine Met.ofW (cc := co_P_hasPart) (maxL := 2) (ret := (some .boolean)) (by decide) rfl ?_
  intro p e s m args below meth c s₁ B hml hv
  obtain ⟨rfl, w, hK⟩ := hv
  have C : pl_C p s m _ meth c co_P_hasPart 2 rn_P (some .boolean) "hasPart" D dA tt b := ⟨B.exec, B.bytes, hml, B.returns, findClass_of_methodNamed B.named, B.notSynchronized, fun w hw => atoms_spec (ws := Cond.code my_P_hasPart co_P_hasPart 2 (some .boolean) :: pl_tb) B.pre w (List.mem_cons_of_mem _ hw), (name_of_methodNamed B.named B.method).1, hK⟩
  have hl := lv_entry ([.ref a0, .int x1]) (n := 2) (Nat.le_of_ble_eq_true rfl)
  rw [lg_entry_eq]
  generalize (lg_sl ([.ref a0, .int x1]) ++ List.replicate (2 - (lg_sl ([.ref a0, .int x1])).length) Slot.unset).toArray = ls at hl ⊢
  have hl : lv_has ls 2 [(0, .ref a0), (1, .int x1)] := hl
  exact tl_P_hasPart C hF w va_S.rf hl
def rm_P_lengthOf : Room := { frames := 1, cells := 0, slots := 0, locals := 21 }
def fn_P_lengthOf_18 (f : pl_H) (sx0 : Int32) : Option (Int32) := some sx0
def fn_P_lengthOf (f : pl_H) (a0 : Nat) (x1 : Int32) : Option (Int32) := (pl_is f a0 4).bind fun u2 => (fn_P_hasPart f a0 x1).bind fun v1 => if v1 = 0 then fn_P_lengthOf_18 f 0 else (pl_gR f a0 4 1).bind fun v3 => (pl_aI f v3 x1).bind fun v4 => fn_P_lengthOf_18 f v4
set_option maxHeartbeats 4000000 in
set_option maxRecDepth 100000 in
theorem tl_P_lengthOf_18 {p : Program} {l : Launch} {e : Env} {s : State} {m : MethodId} {args : Array Value} {below : List Frame} {meth : Method} {c : Code} {D : va_G} {dA : Nat → ClassId} {tt : Nat → Nat} {b n : Nat} (C : pl_C p s m args meth c co_P_lengthOf 2 rn_P (some .int) "lengthOf" D dA tt b) {r : Int32} {f : pl_H} {sx0 : Int32} {H : Heap} {locs : List Loc} {ls : Array Slot} (hF : fn_P_lengthOf_18 f sx0 = some r) (w : pl_wd D vwCl dA b n f H) (hS : va_S (pl_A b) s.heap H locs) (hl : lv_has ls 2 []) : W p l e rm_P_lengthOf s m args below meth c H locs 0 0 (MQ below (pl_qI D dA tt b n f r) args s 0 0 (pl_A b)) (F0 m 18 ls [.int sx0]) := by
  have hx := C.1
  have hb := C.2.1
  have hown := C.2.2.2.2.1
  have hts := C.2.2.2.2.2.2.1
  unfold fn_P_lengthOf_18 at hF
  exact pl_retI C w hS hF dc_P_lengthOf_18
set_option maxHeartbeats 4000000 in
set_option maxRecDepth 100000 in
theorem tl_P_lengthOf {p : Program} {l : Launch} {e : Env} {s : State} {m : MethodId} {args : Array Value} {below : List Frame} {meth : Method} {c : Code} {D : va_G} {dA : Nat → ClassId} {tt : Nat → Nat} {b n : Nat} (C : pl_C p s m args meth c co_P_lengthOf 2 rn_P (some .int) "lengthOf" D dA tt b) {r : Int32} {f : pl_H} {a0 : Nat} {x1 : Int32} {H : Heap} {locs : List Loc} {ls : Array Slot} (hF : fn_P_lengthOf f a0 x1 = some r) (w : pl_wd D vwCl dA b n f H) (hS : va_S (pl_A b) s.heap H locs) (hl : lv_has ls 2 [(0, .ref a0), (1, .int x1)]) : W p l e rm_P_lengthOf s m args below meth c H locs 0 0 (MQ below (pl_qI D dA tt b n f r) args s 0 0 (pl_A b)) (F0 m 0 ls []) := by
  have hx := C.1
  have hb := C.2.1
  have hown := C.2.2.2.2.1
  have hts := C.2.2.2.2.2.2.1
  unfold fn_P_lengthOf at hF
  refine lv_aload_n hx hb dc_P_lengthOf_0 rfl (lv_at hl 0 rfl) ?_
  refine lv_iload_n hx hb dc_P_lengthOf_1 rfl (lv_at hl 1 rfl) ?_
  obtain ⟨u2, eu2, hF⟩ := pl_bd hF
  obtain ⟨v1, ev1, hF⟩ := pl_bd hF
  refine pl_gi (pl_runV (Cn := rn_P) (k := 1) C (tm_P_hasPart l D dA tt b n ev1) w hS rfl rfl mw_572 mw_565 mw_566 mw_70 mw_567 (by decide +kernel) ⟨by decide, by decide⟩ eu2 rfl (by decide) rfl hl.1 (Nat.le_of_ble_eq_true rfl) ⟨Nat.zero_le _, Nat.zero_le _⟩ rfl dc_P_lengthOf_2) hS (fun H locs w hS => ?_)
  refine lv_if_eq hx hb dc_P_lengthOf_5 (tgt := 17) (by decide) (fun hc => ?_) (fun hc => ?_)
  · have hF := (if_pos hc).symm.trans hF
    refine lv_iconst (v := 0) hx hb dc_P_lengthOf_17 (by decide) ?_
    exact tl_P_lengthOf_18 C hF w hS (lv_sub hl [] rfl)
  · have hF := (if_neg hc).symm.trans hF
    refine lv_aload_n hx hb dc_P_lengthOf_8 rfl (lv_at hl 0 rfl) ?_
    obtain ⟨v3, ev3, hF⟩ := pl_bd hF
    refine pl_getR C w (ci := 4) in_P rfl (by decide) 1 (by decide) mw_207 ev3 dc_P_lengthOf_9 ?_
    refine lv_iload_n hx hb dc_P_lengthOf_12 rfl (lv_at hl 1 rfl) ?_
    obtain ⟨v4, ev4, hF⟩ := pl_bd hF
    refine pl_aldI C w ev4 dc_P_lengthOf_13 ?_
    refine lv_goto hx hb dc_P_lengthOf_14 (tgt := 18) (by decide) ?_
    exact tl_P_lengthOf_18 C hF w hS (lv_sub hl [] rfl)
set_option maxHeartbeats 4000000 in
set_option maxRecDepth 100000 in
theorem tm_P_lengthOf (l : Launch) (D : va_G) (dA : Nat → ClassId) (tt : Nat → Nat) (b n : Nat) {f : pl_H} {a0 : Nat} {x1 : Int32} {r : Int32} (hF : fn_P_lengthOf f a0 x1 = some r) : Met l my_P_lengthOf (Cond.code my_P_lengthOf co_P_lengthOf 2 (some .int) :: pl_tb) rm_P_lengthOf (va_Pc [.ref a0, .int x1] (pl_pre D dA tt b n f)) (pl_qI D dA tt b n f r) 0 0 (pl_A b) := by
  refine Met.ofW (cc := co_P_lengthOf) (maxL := 2) (ret := (some .int)) (by decide) rfl ?_
  intro p e s m args below meth c s₁ B hml hv
  obtain ⟨rfl, w, hK⟩ := hv
  have C : pl_C p s m _ meth c co_P_lengthOf 2 rn_P (some .int) "lengthOf" D dA tt b := ⟨B.exec, B.bytes, hml, B.returns, findClass_of_methodNamed B.named, B.notSynchronized, fun w hw => atoms_spec (ws := Cond.code my_P_lengthOf co_P_lengthOf 2 (some .int) :: pl_tb) B.pre w (List.mem_cons_of_mem _ hw), (name_of_methodNamed B.named B.method).1, hK⟩
  have hl := lv_entry ([.ref a0, .int x1]) (n := 2) (Nat.le_of_ble_eq_true rfl)
  rw [lg_entry_eq]
  generalize (lg_sl ([.ref a0, .int x1]) ++ List.replicate (2 - (lg_sl ([.ref a0, .int x1])).length) Slot.unset).toArray = ls at hl ⊢
  have hl : lv_has ls 2 [(0, .ref a0), (1, .int x1)] := hl
  exact tl_P_lengthOf C hF w va_S.rf hl
def rm_P_hasByte : Room := { frames := 0, cells := 0, slots := 0, locals := 0 }
def fn_P_hasByte_31 (f : pl_H) (sx0 : Int32) : Option (Int32) := pl_z sx0
def fn_P_hasByte_30 (f : pl_H) : Option (Int32) := fn_P_hasByte_31 f 0
def fn_P_hasByte (f : pl_H) (a0 : Nat) (x1 : Int32) (x2 : Int32) : Option (Int32) := if x1 < 0 then fn_P_hasByte_30 f else (pl_gI f a0 4 2).bind fun v1 => if v1 ≤ x1 then fn_P_hasByte_30 f else if x2 < 0 then fn_P_hasByte_30 f else (pl_gR f a0 4 1).bind fun v2 => (pl_aI f v2 x1).bind fun v3 => if v3 ≤ x2 then fn_P_hasByte_30 f else fn_P_hasByte_31 f 1
set_option maxHeartbeats 4000000 in
set_option maxRecDepth 100000 in
theorem tl_P_hasByte_31 {p : Program} {l : Launch} {e : Env} {s : State} {m : MethodId} {args : Array Value} {below : List Frame} {meth : Method} {c : Code} {D : va_G} {dA : Nat → ClassId} {tt : Nat → Nat} {b n : Nat} (C : pl_C p s m args meth c co_P_hasByte 3 rn_P (some .boolean) "hasByte" D dA tt b) {r : Int32} {f : pl_H} {sx0 : Int32} {H : Heap} {locs : List Loc} {ls : Array Slot} (hF : fn_P_hasByte_31 f sx0 = some r) (w : pl_wd D vwCl dA b n f H) (hS : va_S (pl_A b) s.heap H locs) (hl : lv_has ls 3 []) : W p l e rm_P_hasByte s m args below meth c H locs 0 0 (MQ below (pl_qI D dA tt b n f r) args s 0 0 (pl_A b)) (F0 m 31 ls [.int sx0]) := by
  have hx := C.1
  have hb := C.2.1
  have hown := C.2.2.2.2.1
  have hts := C.2.2.2.2.2.2.1
  unfold fn_P_hasByte_31 at hF
  exact pl_retZ C w hS hF dc_P_hasByte_31
set_option maxHeartbeats 4000000 in
set_option maxRecDepth 100000 in
theorem tl_P_hasByte_30 {p : Program} {l : Launch} {e : Env} {s : State} {m : MethodId} {args : Array Value} {below : List Frame} {meth : Method} {c : Code} {D : va_G} {dA : Nat → ClassId} {tt : Nat → Nat} {b n : Nat} (C : pl_C p s m args meth c co_P_hasByte 3 rn_P (some .boolean) "hasByte" D dA tt b) {r : Int32} {f : pl_H} {H : Heap} {locs : List Loc} {ls : Array Slot} (hF : fn_P_hasByte_30 f = some r) (w : pl_wd D vwCl dA b n f H) (hS : va_S (pl_A b) s.heap H locs) (hl : lv_has ls 3 []) : W p l e rm_P_hasByte s m args below meth c H locs 0 0 (MQ below (pl_qI D dA tt b n f r) args s 0 0 (pl_A b)) (F0 m 30 ls []) := by
  have hx := C.1
  have hb := C.2.1
  have hown := C.2.2.2.2.1
  have hts := C.2.2.2.2.2.2.1
  unfold fn_P_hasByte_30 at hF
  refine lv_iconst (v := 0) hx hb dc_P_hasByte_30 (by decide) ?_
  exact tl_P_hasByte_31 C hF w hS (lv_sub hl [] rfl)
set_option maxHeartbeats 4000000 in
set_option maxRecDepth 100000 in
theorem tl_P_hasByte {p : Program} {l : Launch} {e : Env} {s : State} {m : MethodId} {args : Array Value} {below : List Frame} {meth : Method} {c : Code} {D : va_G} {dA : Nat → ClassId} {tt : Nat → Nat} {b n : Nat} (C : pl_C p s m args meth c co_P_hasByte 3 rn_P (some .boolean) "hasByte" D dA tt b) {r : Int32} {f : pl_H} {a0 : Nat} {x1 : Int32} {x2 : Int32} {H : Heap} {locs : List Loc} {ls : Array Slot} (hF : fn_P_hasByte f a0 x1 x2 = some r) (w : pl_wd D vwCl dA b n f H) (hS : va_S (pl_A b) s.heap H locs) (hl : lv_has ls 3 [(0, .ref a0), (1, .int x1), (2, .int x2)]) : W p l e rm_P_hasByte s m args below meth c H locs 0 0 (MQ below (pl_qI D dA tt b n f r) args s 0 0 (pl_A b)) (F0 m 0 ls []) := by
  have hx := C.1
  have hb := C.2.1
  have hown := C.2.2.2.2.1
  have hts := C.2.2.2.2.2.2.1
  unfold fn_P_hasByte at hF
  refine lv_iload_n hx hb dc_P_hasByte_0 rfl (lv_at hl 1 rfl) ?_
  refine lv_if_lt hx hb dc_P_hasByte_1 (tgt := 30) (by decide) (fun hc => ?_) (fun hc => ?_)
  · have hF := (if_pos hc).symm.trans hF
    exact tl_P_hasByte_30 C hF w hS (lv_sub hl [] rfl)
  · have hF := (if_neg hc).symm.trans hF
    refine lv_iload_n hx hb dc_P_hasByte_4 rfl (lv_at hl 1 rfl) ?_
    refine lv_aload_n hx hb dc_P_hasByte_5 rfl (lv_at hl 0 rfl) ?_
    obtain ⟨v1, ev1, hF⟩ := pl_bd hF
    refine pl_getI C w (ci := 4) in_P rfl (by decide) 2 (by decide) mw_208 ev1 dc_P_hasByte_6 ?_
    refine lv_icmp_ge hx hb dc_P_hasByte_9 (tgt := 30) (by decide) (fun hc => ?_) (fun hc => ?_)
    · have hF := (if_pos hc).symm.trans hF
      exact tl_P_hasByte_30 C hF w hS (lv_sub hl [] rfl)
    · have hF := (if_neg hc).symm.trans hF
      refine lv_iload_n hx hb dc_P_hasByte_12 rfl (lv_at hl 2 rfl) ?_
      refine lv_if_lt hx hb dc_P_hasByte_13 (tgt := 30) (by decide) (fun hc => ?_) (fun hc => ?_)
      · have hF := (if_pos hc).symm.trans hF
        exact tl_P_hasByte_30 C hF w hS (lv_sub hl [] rfl)
      · have hF := (if_neg hc).symm.trans hF
        refine lv_iload_n hx hb dc_P_hasByte_16 rfl (lv_at hl 2 rfl) ?_
        refine lv_aload_n hx hb dc_P_hasByte_17 rfl (lv_at hl 0 rfl) ?_
        obtain ⟨v2, ev2, hF⟩ := pl_bd hF
        refine pl_getR C w (ci := 4) in_P rfl (by decide) 1 (by decide) mw_207 ev2 dc_P_hasByte_18 ?_
        refine lv_iload_n hx hb dc_P_hasByte_21 rfl (lv_at hl 1 rfl) ?_
        obtain ⟨v3, ev3, hF⟩ := pl_bd hF
        refine pl_aldI C w ev3 dc_P_hasByte_22 ?_
        refine lv_icmp_ge hx hb dc_P_hasByte_23 (tgt := 30) (by decide) (fun hc => ?_) (fun hc => ?_)
        · have hF := (if_pos hc).symm.trans hF
          exact tl_P_hasByte_30 C hF w hS (lv_sub hl [] rfl)
        · have hF := (if_neg hc).symm.trans hF
          refine lv_iconst (v := 1) hx hb dc_P_hasByte_26 (by decide) ?_
          refine lv_goto hx hb dc_P_hasByte_27 (tgt := 31) (by decide) ?_
          exact tl_P_hasByte_31 C hF w hS (lv_sub hl [] rfl)
set_option maxHeartbeats 4000000 in
set_option maxRecDepth 100000 in
theorem tm_P_hasByte (l : Launch) (D : va_G) (dA : Nat → ClassId) (tt : Nat → Nat) (b n : Nat) {f : pl_H} {a0 : Nat} {x1 : Int32} {x2 : Int32} {r : Int32} (hF : fn_P_hasByte f a0 x1 x2 = some r) : Met l my_P_hasByte (Cond.code my_P_hasByte co_P_hasByte 3 (some .boolean) :: pl_tb) rm_P_hasByte (va_Pc [.ref a0, .int x1, .int x2] (pl_pre D dA tt b n f)) (pl_qI D dA tt b n f r) 0 0 (pl_A b) := by
  refine Met.ofW (cc := co_P_hasByte) (maxL := 3) (ret := (some .boolean)) (by decide) rfl ?_
  intro p e s m args below meth c s₁ B hml hv
  obtain ⟨rfl, w, hK⟩ := hv
  have C : pl_C p s m _ meth c co_P_hasByte 3 rn_P (some .boolean) "hasByte" D dA tt b := ⟨B.exec, B.bytes, hml, B.returns, findClass_of_methodNamed B.named, B.notSynchronized, fun w hw => atoms_spec (ws := Cond.code my_P_hasByte co_P_hasByte 3 (some .boolean) :: pl_tb) B.pre w (List.mem_cons_of_mem _ hw), (name_of_methodNamed B.named B.method).1, hK⟩
  have hl := lv_entry ([.ref a0, .int x1, .int x2]) (n := 3) (Nat.le_of_ble_eq_true rfl)
  rw [lg_entry_eq]
  generalize (lg_sl ([.ref a0, .int x1, .int x2]) ++ List.replicate (3 - (lg_sl ([.ref a0, .int x1, .int x2])).length) Slot.unset).toArray = ls at hl ⊢
  have hl : lv_has ls 3 [(0, .ref a0), (1, .int x1), (2, .int x2)] := hl
  exact tl_P_hasByte C hF w va_S.rf hl
def rm_P_byteAt : Room := { frames := 1, cells := 0, slots := 0, locals := 22 }
def fn_P_byteAt_21 (f : pl_H) (sx0 : Int32) : Option (Int32) := some sx0
def fn_P_byteAt (f : pl_H) (a0 : Nat) (x1 : Int32) (x2 : Int32) : Option (Int32) := (pl_is f a0 4).bind fun u2 => (fn_P_hasByte f a0 x1 x2).bind fun v1 => if v1 = 0 then fn_P_byteAt_21 f 0 else (pl_gR f a0 4 0).bind fun v3 => (pl_aQ f 3 v3 x1).bind fun r4 => r4.bind fun a5 => (pl_aI f a5 x2).bind fun v6 => fn_P_byteAt_21 f v6
set_option maxHeartbeats 4000000 in
set_option maxRecDepth 100000 in
theorem tl_P_byteAt_21 {p : Program} {l : Launch} {e : Env} {s : State} {m : MethodId} {args : Array Value} {below : List Frame} {meth : Method} {c : Code} {D : va_G} {dA : Nat → ClassId} {tt : Nat → Nat} {b n : Nat} (C : pl_C p s m args meth c co_P_byteAt 3 rn_P (some .int) "byteAt" D dA tt b) {r : Int32} {f : pl_H} {sx0 : Int32} {H : Heap} {locs : List Loc} {ls : Array Slot} (hF : fn_P_byteAt_21 f sx0 = some r) (w : pl_wd D vwCl dA b n f H) (hS : va_S (pl_A b) s.heap H locs) (hl : lv_has ls 3 []) : W p l e rm_P_byteAt s m args below meth c H locs 0 0 (MQ below (pl_qI D dA tt b n f r) args s 0 0 (pl_A b)) (F0 m 21 ls [.int sx0]) := by
  have hx := C.1
  have hb := C.2.1
  have hown := C.2.2.2.2.1
  have hts := C.2.2.2.2.2.2.1
  unfold fn_P_byteAt_21 at hF
  exact pl_retI C w hS hF dc_P_byteAt_21
set_option maxHeartbeats 4000000 in
set_option maxRecDepth 100000 in
theorem tl_P_byteAt {p : Program} {l : Launch} {e : Env} {s : State} {m : MethodId} {args : Array Value} {below : List Frame} {meth : Method} {c : Code} {D : va_G} {dA : Nat → ClassId} {tt : Nat → Nat} {b n : Nat} (C : pl_C p s m args meth c co_P_byteAt 3 rn_P (some .int) "byteAt" D dA tt b) {r : Int32} {f : pl_H} {a0 : Nat} {x1 : Int32} {x2 : Int32} {H : Heap} {locs : List Loc} {ls : Array Slot} (hF : fn_P_byteAt f a0 x1 x2 = some r) (w : pl_wd D vwCl dA b n f H) (hS : va_S (pl_A b) s.heap H locs) (hl : lv_has ls 3 [(0, .ref a0), (1, .int x1), (2, .int x2)]) : W p l e rm_P_byteAt s m args below meth c H locs 0 0 (MQ below (pl_qI D dA tt b n f r) args s 0 0 (pl_A b)) (F0 m 0 ls []) := by
  have hx := C.1
  have hb := C.2.1
  have hown := C.2.2.2.2.1
  have hts := C.2.2.2.2.2.2.1
  unfold fn_P_byteAt at hF
  refine lv_aload_n hx hb dc_P_byteAt_0 rfl (lv_at hl 0 rfl) ?_
  refine lv_iload_n hx hb dc_P_byteAt_1 rfl (lv_at hl 1 rfl) ?_
  refine lv_iload_n hx hb dc_P_byteAt_2 rfl (lv_at hl 2 rfl) ?_
  obtain ⟨u2, eu2, hF⟩ := pl_bd hF
  obtain ⟨v1, ev1, hF⟩ := pl_bd hF
  refine pl_gi (pl_runV (Cn := rn_P) (k := 2) C (tm_P_hasByte l D dA tt b n ev1) w hS rfl rfl mw_585 mw_578 mw_579 mw_70 mw_580 (by decide +kernel) ⟨by decide, by decide⟩ eu2 rfl (by decide) rfl hl.1 (Nat.le_of_ble_eq_true rfl) ⟨Nat.zero_le _, Nat.zero_le _⟩ rfl dc_P_byteAt_3) hS (fun H locs w hS => ?_)
  refine lv_if_eq hx hb dc_P_byteAt_6 (tgt := 20) (by decide) (fun hc => ?_) (fun hc => ?_)
  · have hF := (if_pos hc).symm.trans hF
    refine lv_iconst (v := 0) hx hb dc_P_byteAt_20 (by decide) ?_
    exact tl_P_byteAt_21 C hF w hS (lv_sub hl [] rfl)
  · have hF := (if_neg hc).symm.trans hF
    refine lv_aload_n hx hb dc_P_byteAt_9 rfl (lv_at hl 0 rfl) ?_
    obtain ⟨v3, ev3, hF⟩ := pl_bd hF
    refine pl_getR C w (ci := 4) in_P rfl (by decide) 0 (by decide) mw_206 ev3 dc_P_byteAt_10 ?_
    refine lv_iload_n hx hb dc_P_byteAt_13 rfl (lv_at hl 1 rfl) ?_
    obtain ⟨r4, er4, hF⟩ := pl_bd hF
    refine pl_aldQ3 C w er4 dc_P_byteAt_14 ?_
    refine lv_iload_n hx hb dc_P_byteAt_15 rfl (lv_at hl 2 rfl) ?_
    obtain ⟨a5, hz, hG⟩ := pl_bd hF
    clear hF
    subst hz
    have hF := hG
    clear hG
    have hl : lv_has ls 3 [(0, .ref a0), (1, .int x1), (2, .int x2)] := hl
    obtain ⟨v6, ev6, hF⟩ := pl_bd hF
    refine pl_aldI C w ev6 dc_P_byteAt_16 ?_
    refine lv_goto hx hb dc_P_byteAt_17 (tgt := 21) (by decide) ?_
    exact tl_P_byteAt_21 C hF w hS (lv_sub hl [] rfl)
set_option maxHeartbeats 4000000 in
set_option maxRecDepth 100000 in
theorem tm_P_byteAt (l : Launch) (D : va_G) (dA : Nat → ClassId) (tt : Nat → Nat) (b n : Nat) {f : pl_H} {a0 : Nat} {x1 : Int32} {x2 : Int32} {r : Int32} (hF : fn_P_byteAt f a0 x1 x2 = some r) : Met l my_P_byteAt (Cond.code my_P_byteAt co_P_byteAt 3 (some .int) :: pl_tb) rm_P_byteAt (va_Pc [.ref a0, .int x1, .int x2] (pl_pre D dA tt b n f)) (pl_qI D dA tt b n f r) 0 0 (pl_A b) := by
  refine Met.ofW (cc := co_P_byteAt) (maxL := 3) (ret := (some .int)) (by decide) rfl ?_
  intro p e s m args below meth c s₁ B hml hv
  obtain ⟨rfl, w, hK⟩ := hv
  have C : pl_C p s m _ meth c co_P_byteAt 3 rn_P (some .int) "byteAt" D dA tt b := ⟨B.exec, B.bytes, hml, B.returns, findClass_of_methodNamed B.named, B.notSynchronized, fun w hw => atoms_spec (ws := Cond.code my_P_byteAt co_P_byteAt 3 (some .int) :: pl_tb) B.pre w (List.mem_cons_of_mem _ hw), (name_of_methodNamed B.named B.method).1, hK⟩
  have hl := lv_entry ([.ref a0, .int x1, .int x2]) (n := 3) (Nat.le_of_ble_eq_true rfl)
  rw [lg_entry_eq]
  generalize (lg_sl ([.ref a0, .int x1, .int x2]) ++ List.replicate (3 - (lg_sl ([.ref a0, .int x1, .int x2])).length) Slot.unset).toArray = ls at hl ⊢
  have hl : lv_has ls 3 [(0, .ref a0), (1, .int x1), (2, .int x2)] := hl
  exact tl_P_byteAt C hF w va_S.rf hl
def rm_P_setByte : Room := { frames := 1, cells := 0, slots := 0, locals := 22 }
def fn_P_setByte_18 (f : pl_H) : Option (pl_H) := some f
def fn_P_setByte (f : pl_H) (a0 : Nat) (x1 : Int32) (x2 : Int32) (x3 : Int32) : Option (pl_H) := (pl_is f a0 4).bind fun u2 => (fn_P_hasByte f a0 x1 x2).bind fun v1 => if v1 = 0 then fn_P_setByte_18 f else (pl_gR f a0 4 0).bind fun v3 => (pl_aQ f 3 v3 x1).bind fun r4 => r4.bind fun a5 => (pl_sI f a5 x2 x3).bind fun f6 => fn_P_setByte_18 f6
set_option maxHeartbeats 4000000 in
set_option maxRecDepth 100000 in
theorem tl_P_setByte_18 {p : Program} {l : Launch} {e : Env} {s : State} {m : MethodId} {args : Array Value} {below : List Frame} {meth : Method} {c : Code} {D : va_G} {dA : Nat → ClassId} {tt : Nat → Nat} {b n : Nat} (C : pl_C p s m args meth c co_P_setByte 4 rn_P none "setByte" D dA tt b) {f' : pl_H} {f : pl_H} {H : Heap} {locs : List Loc} {ls : Array Slot} (hF : fn_P_setByte_18 f = some f') (w : pl_wd D vwCl dA b n f H) (hS : va_S (pl_A b) s.heap H locs) (hl : lv_has ls 4 []) : W p l e rm_P_setByte s m args below meth c H locs 0 0 (MQ below (pl_qV D dA tt b n f') args s 0 0 (pl_A b)) (F0 m 18 ls []) := by
  have hx := C.1
  have hb := C.2.1
  have hown := C.2.2.2.2.1
  have hts := C.2.2.2.2.2.2.1
  unfold fn_P_setByte_18 at hF
  exact pl_retVw C w hS hF dc_P_setByte_18
set_option maxHeartbeats 4000000 in
set_option maxRecDepth 100000 in
theorem tl_P_setByte {p : Program} {l : Launch} {e : Env} {s : State} {m : MethodId} {args : Array Value} {below : List Frame} {meth : Method} {c : Code} {D : va_G} {dA : Nat → ClassId} {tt : Nat → Nat} {b n : Nat} (C : pl_C p s m args meth c co_P_setByte 4 rn_P none "setByte" D dA tt b) {f' : pl_H} {f : pl_H} {a0 : Nat} {x1 : Int32} {x2 : Int32} {x3 : Int32} {H : Heap} {locs : List Loc} {ls : Array Slot} (hF : fn_P_setByte f a0 x1 x2 x3 = some f') (w : pl_wd D vwCl dA b n f H) (hS : va_S (pl_A b) s.heap H locs) (hl : lv_has ls 4 [(0, .ref a0), (1, .int x1), (2, .int x2), (3, .int x3)]) : W p l e rm_P_setByte s m args below meth c H locs 0 0 (MQ below (pl_qV D dA tt b n f') args s 0 0 (pl_A b)) (F0 m 0 ls []) := by
  have hx := C.1
  have hb := C.2.1
  have hown := C.2.2.2.2.1
  have hts := C.2.2.2.2.2.2.1
  unfold fn_P_setByte at hF
  refine lv_aload_n hx hb dc_P_setByte_0 rfl (lv_at hl 0 rfl) ?_
  refine lv_iload_n hx hb dc_P_setByte_1 rfl (lv_at hl 1 rfl) ?_
  refine lv_iload_n hx hb dc_P_setByte_2 rfl (lv_at hl 2 rfl) ?_
  obtain ⟨u2, eu2, hF⟩ := pl_bd hF
  obtain ⟨v1, ev1, hF⟩ := pl_bd hF
  refine pl_gi (pl_runV (Cn := rn_P) (k := 2) C (tm_P_hasByte l D dA tt b n ev1) w hS rfl rfl mw_585 mw_578 mw_579 mw_70 mw_580 (by decide +kernel) ⟨by decide, by decide⟩ eu2 rfl (by decide) rfl hl.1 (Nat.le_of_ble_eq_true rfl) ⟨Nat.zero_le _, Nat.zero_le _⟩ rfl dc_P_setByte_3) hS (fun H locs w hS => ?_)
  refine lv_if_eq hx hb dc_P_setByte_6 (tgt := 18) (by decide) (fun hc => ?_) (fun hc => ?_)
  · have hF := (if_pos hc).symm.trans hF
    exact tl_P_setByte_18 C hF w hS (lv_sub hl [] rfl)
  · have hF := (if_neg hc).symm.trans hF
    refine lv_aload_n hx hb dc_P_setByte_9 rfl (lv_at hl 0 rfl) ?_
    obtain ⟨v3, ev3, hF⟩ := pl_bd hF
    refine pl_getR C w (ci := 4) in_P rfl (by decide) 0 (by decide) mw_206 ev3 dc_P_setByte_10 ?_
    refine lv_iload_n hx hb dc_P_setByte_13 rfl (lv_at hl 1 rfl) ?_
    obtain ⟨r4, er4, hF⟩ := pl_bd hF
    refine pl_aldQ3 C w er4 dc_P_setByte_14 ?_
    refine lv_iload_n hx hb dc_P_setByte_15 rfl (lv_at hl 2 rfl) ?_
    refine lv_iload_n hx hb dc_P_setByte_16 rfl (lv_at hl 3 rfl) ?_
    obtain ⟨a5, hz, hG⟩ := pl_bd hF
    clear hF
    subst hz
    have hF := hG
    clear hG
    have hl : lv_has ls 4 [(0, .ref a0), (1, .int x1), (2, .int x2), (3, .int x3)] := hl
    obtain ⟨f6, ef6, hF⟩ := pl_bd hF
    refine pl_astI C w hS ef6 dc_P_setByte_17 (fun H locs w hS => ?_)
    exact tl_P_setByte_18 C hF w hS (lv_sub hl [] rfl)
set_option maxHeartbeats 4000000 in
set_option maxRecDepth 100000 in
theorem tm_P_setByte (l : Launch) (D : va_G) (dA : Nat → ClassId) (tt : Nat → Nat) (b n : Nat) {f : pl_H} {a0 : Nat} {x1 : Int32} {x2 : Int32} {x3 : Int32} {f' : pl_H} (hF : fn_P_setByte f a0 x1 x2 x3 = some f') : Met l my_P_setByte (Cond.code my_P_setByte co_P_setByte 4 none :: pl_tb) rm_P_setByte (va_Pc [.ref a0, .int x1, .int x2, .int x3] (pl_pre D dA tt b n f)) (pl_qV D dA tt b n f') 0 0 (pl_A b) := by
  refine Met.ofW (cc := co_P_setByte) (maxL := 4) (ret := none) (by decide) rfl ?_
  intro p e s m args below meth c s₁ B hml hv
  obtain ⟨rfl, w, hK⟩ := hv
  have C : pl_C p s m _ meth c co_P_setByte 4 rn_P none "setByte" D dA tt b := ⟨B.exec, B.bytes, hml, B.returns, findClass_of_methodNamed B.named, B.notSynchronized, fun w hw => atoms_spec (ws := Cond.code my_P_setByte co_P_setByte 4 none :: pl_tb) B.pre w (List.mem_cons_of_mem _ hw), (name_of_methodNamed B.named B.method).1, hK⟩
  have hl := lv_entry ([.ref a0, .int x1, .int x2, .int x3]) (n := 4) (Nat.le_of_ble_eq_true rfl)
  rw [lg_entry_eq]
  generalize (lg_sl ([.ref a0, .int x1, .int x2, .int x3]) ++ List.replicate (4 - (lg_sl ([.ref a0, .int x1, .int x2, .int x3])).length) Slot.unset).toArray = ls at hl ⊢
  have hl : lv_has ls 4 [(0, .ref a0), (1, .int x1), (2, .int x2), (3, .int x3)] := hl
  exact tl_P_setByte C hF w va_S.rf hl
def rm_P_dropLast : Room := { frames := 0, cells := 0, slots := 0, locals := 0 }
def fn_P_dropLast_17 (f : pl_H) : Option (pl_H) := some f
def fn_P_dropLast (f : pl_H) (a0 : Nat) : Option (pl_H) := (pl_gI f a0 4 2).bind fun v1 => if v1 ≤ 0 then fn_P_dropLast_17 f else (pl_gI f a0 4 2).bind fun v2 => (pl_pV f a0 4 2 (.int (v2 - 1))).bind fun f3 => fn_P_dropLast_17 f3
set_option maxHeartbeats 4000000 in
set_option maxRecDepth 100000 in
theorem tl_P_dropLast_17 {p : Program} {l : Launch} {e : Env} {s : State} {m : MethodId} {args : Array Value} {below : List Frame} {meth : Method} {c : Code} {D : va_G} {dA : Nat → ClassId} {tt : Nat → Nat} {b n : Nat} (C : pl_C p s m args meth c co_P_dropLast 1 rn_P none "dropLast" D dA tt b) {f' : pl_H} {f : pl_H} {H : Heap} {locs : List Loc} {ls : Array Slot} (hF : fn_P_dropLast_17 f = some f') (w : pl_wd D vwCl dA b n f H) (hS : va_S (pl_A b) s.heap H locs) (hl : lv_has ls 1 []) : W p l e rm_P_dropLast s m args below meth c H locs 0 0 (MQ below (pl_qV D dA tt b n f') args s 0 0 (pl_A b)) (F0 m 17 ls []) := by
  have hx := C.1
  have hb := C.2.1
  have hown := C.2.2.2.2.1
  have hts := C.2.2.2.2.2.2.1
  unfold fn_P_dropLast_17 at hF
  exact pl_retVw C w hS hF dc_P_dropLast_17
set_option maxHeartbeats 4000000 in
set_option maxRecDepth 100000 in
theorem tl_P_dropLast {p : Program} {l : Launch} {e : Env} {s : State} {m : MethodId} {args : Array Value} {below : List Frame} {meth : Method} {c : Code} {D : va_G} {dA : Nat → ClassId} {tt : Nat → Nat} {b n : Nat} (C : pl_C p s m args meth c co_P_dropLast 1 rn_P none "dropLast" D dA tt b) {f' : pl_H} {f : pl_H} {a0 : Nat} {H : Heap} {locs : List Loc} {ls : Array Slot} (hF : fn_P_dropLast f a0 = some f') (w : pl_wd D vwCl dA b n f H) (hS : va_S (pl_A b) s.heap H locs) (hl : lv_has ls 1 [(0, .ref a0)]) : W p l e rm_P_dropLast s m args below meth c H locs 0 0 (MQ below (pl_qV D dA tt b n f') args s 0 0 (pl_A b)) (F0 m 0 ls []) := by
  have hx := C.1
  have hb := C.2.1
  have hown := C.2.2.2.2.1
  have hts := C.2.2.2.2.2.2.1
  unfold fn_P_dropLast at hF
  refine lv_aload_n hx hb dc_P_dropLast_0 rfl (lv_at hl 0 rfl) ?_
  obtain ⟨v1, ev1, hF⟩ := pl_bd hF
  refine pl_getI C w (ci := 4) in_P rfl (by decide) 2 (by decide) mw_208 ev1 dc_P_dropLast_1 ?_
  refine lv_if_le hx hb dc_P_dropLast_4 (tgt := 17) (by decide) (fun hc => ?_) (fun hc => ?_)
  · have hF := (if_pos hc).symm.trans hF
    exact tl_P_dropLast_17 C hF w hS (lv_sub hl [] rfl)
  · have hF := (if_neg hc).symm.trans hF
    refine lv_aload_n hx hb dc_P_dropLast_7 rfl (lv_at hl 0 rfl) ?_
    refine lv_dup hx hb dc_P_dropLast_8 rfl ?_
    obtain ⟨v2, ev2, hF⟩ := pl_bd hF
    refine pl_getI C w (ci := 4) in_P rfl (by decide) 2 (by decide) mw_208 ev2 dc_P_dropLast_9 ?_
    refine lv_iconst (v := 1) hx hb dc_P_dropLast_12 (by decide) ?_
    refine lv_isub hx hb dc_P_dropLast_13 ?_
    obtain ⟨f3, ef3, hF⟩ := pl_bd hF
    refine pl_put C w hS (ci := 4) in_P rfl (by decide) rty_P_ok rnm_P 2 (by decide) mw_208 rfl rfl rfl ef3 dc_P_dropLast_14 (fun H locs w hS => ?_)
    exact tl_P_dropLast_17 C hF w hS (lv_sub hl [] rfl)
set_option maxHeartbeats 4000000 in
set_option maxRecDepth 100000 in
theorem tm_P_dropLast (l : Launch) (D : va_G) (dA : Nat → ClassId) (tt : Nat → Nat) (b n : Nat) {f : pl_H} {a0 : Nat} {f' : pl_H} (hF : fn_P_dropLast f a0 = some f') : Met l my_P_dropLast (Cond.code my_P_dropLast co_P_dropLast 1 none :: pl_tb) rm_P_dropLast (va_Pc [.ref a0] (pl_pre D dA tt b n f)) (pl_qV D dA tt b n f') 0 0 (pl_A b) := by
  refine Met.ofW (cc := co_P_dropLast) (maxL := 1) (ret := none) (by decide) rfl ?_
  intro p e s m args below meth c s₁ B hml hv
  obtain ⟨rfl, w, hK⟩ := hv
  have C : pl_C p s m _ meth c co_P_dropLast 1 rn_P none "dropLast" D dA tt b := ⟨B.exec, B.bytes, hml, B.returns, findClass_of_methodNamed B.named, B.notSynchronized, fun w hw => atoms_spec (ws := Cond.code my_P_dropLast co_P_dropLast 1 none :: pl_tb) B.pre w (List.mem_cons_of_mem _ hw), (name_of_methodNamed B.named B.method).1, hK⟩
  have hl := lv_entry ([.ref a0]) (n := 1) (Nat.le_of_ble_eq_true rfl)
  rw [lg_entry_eq]
  generalize (lg_sl ([.ref a0]) ++ List.replicate (1 - (lg_sl ([.ref a0])).length) Slot.unset).toArray = ls at hl ⊢
  have hl : lv_has ls 1 [(0, .ref a0)] := hl
  exact tl_P_dropLast C hF w va_S.rf hl
def rm_P_rowOf : Room := { frames := 0, cells := 0, slots := 0, locals := 0 }
def fn_P_rowOf_22 (f : pl_H) (sx0 : Int32) (sa1 : Nat) : Option (Nat) := (pl_aQ f 3 sa1 sx0).bind fun r1 => r1.bind fun a2 => some a2
def fn_P_rowOf_21 (f : pl_H) (sa0 : Nat) : Option (Nat) := fn_P_rowOf_22 f 0 sa0
def fn_P_rowOf (f : pl_H) (a0 : Nat) (x1 : Int32) : Option (Nat) := (pl_gR f a0 4 0).bind fun v1 => if x1 < 0 then fn_P_rowOf_21 f v1 else (pl_gR f a0 4 0).bind fun v2 => (pl_ln f v2).bind fun v3 => if v3 ≤ x1 then fn_P_rowOf_21 f v1 else fn_P_rowOf_22 f x1 v1
set_option maxHeartbeats 4000000 in
set_option maxRecDepth 100000 in
theorem tl_P_rowOf_22 {p : Program} {l : Launch} {e : Env} {s : State} {m : MethodId} {args : Array Value} {below : List Frame} {meth : Method} {c : Code} {D : va_G} {dA : Nat → ClassId} {tt : Nat → Nat} {b n : Nat} (C : pl_C p s m args meth c co_P_rowOf 2 rn_P (some (.array .int)) "rowOf" D dA tt b) {r : Nat} {f : pl_H} {sx0 : Int32} {sa1 : Nat} {H : Heap} {locs : List Loc} {ls : Array Slot} (hF : fn_P_rowOf_22 f sx0 sa1 = some r) (w : pl_wd D vwCl dA b n f H) (hS : va_S (pl_A b) s.heap H locs) (hl : lv_has ls 2 []) : W p l e rm_P_rowOf s m args below meth c H locs 0 0 (MQ below (pl_qQ D dA tt b n f (some r)) args s 0 0 (pl_A b)) (F0 m 22 ls [.int sx0, .ref sa1]) := by
  have hx := C.1
  have hb := C.2.1
  have hown := C.2.2.2.2.1
  have hts := C.2.2.2.2.2.2.1
  unfold fn_P_rowOf_22 at hF
  obtain ⟨r1, er1, hF⟩ := pl_bd hF
  refine pl_aldQ3 C w er1 dc_P_rowOf_22 ?_
  obtain ⟨a2, hz, hG⟩ := pl_bd hF
  clear hF
  subst hz
  have hF := hG
  clear hG
  have hl : lv_has ls 2 [] := hl
  exact pl_retR C w hS hF (by first | exact Or.inl ⟨_, rfl⟩ | exact Or.inr ⟨_, rfl⟩) dc_P_rowOf_23
set_option maxHeartbeats 4000000 in
set_option maxRecDepth 100000 in
theorem tl_P_rowOf_21 {p : Program} {l : Launch} {e : Env} {s : State} {m : MethodId} {args : Array Value} {below : List Frame} {meth : Method} {c : Code} {D : va_G} {dA : Nat → ClassId} {tt : Nat → Nat} {b n : Nat} (C : pl_C p s m args meth c co_P_rowOf 2 rn_P (some (.array .int)) "rowOf" D dA tt b) {r : Nat} {f : pl_H} {sa0 : Nat} {H : Heap} {locs : List Loc} {ls : Array Slot} (hF : fn_P_rowOf_21 f sa0 = some r) (w : pl_wd D vwCl dA b n f H) (hS : va_S (pl_A b) s.heap H locs) (hl : lv_has ls 2 []) : W p l e rm_P_rowOf s m args below meth c H locs 0 0 (MQ below (pl_qQ D dA tt b n f (some r)) args s 0 0 (pl_A b)) (F0 m 21 ls [.ref sa0]) := by
  have hx := C.1
  have hb := C.2.1
  have hown := C.2.2.2.2.1
  have hts := C.2.2.2.2.2.2.1
  unfold fn_P_rowOf_21 at hF
  refine lv_iconst (v := 0) hx hb dc_P_rowOf_21 (by decide) ?_
  exact tl_P_rowOf_22 C hF w hS (lv_sub hl [] rfl)
set_option maxHeartbeats 4000000 in
set_option maxRecDepth 100000 in
theorem tl_P_rowOf {p : Program} {l : Launch} {e : Env} {s : State} {m : MethodId} {args : Array Value} {below : List Frame} {meth : Method} {c : Code} {D : va_G} {dA : Nat → ClassId} {tt : Nat → Nat} {b n : Nat} (C : pl_C p s m args meth c co_P_rowOf 2 rn_P (some (.array .int)) "rowOf" D dA tt b) {r : Nat} {f : pl_H} {a0 : Nat} {x1 : Int32} {H : Heap} {locs : List Loc} {ls : Array Slot} (hF : fn_P_rowOf f a0 x1 = some r) (w : pl_wd D vwCl dA b n f H) (hS : va_S (pl_A b) s.heap H locs) (hl : lv_has ls 2 [(0, .ref a0), (1, .int x1)]) : W p l e rm_P_rowOf s m args below meth c H locs 0 0 (MQ below (pl_qQ D dA tt b n f (some r)) args s 0 0 (pl_A b)) (F0 m 0 ls []) := by
  have hx := C.1
  have hb := C.2.1
  have hown := C.2.2.2.2.1
  have hts := C.2.2.2.2.2.2.1
  unfold fn_P_rowOf at hF
  refine lv_aload_n hx hb dc_P_rowOf_0 rfl (lv_at hl 0 rfl) ?_
  obtain ⟨v1, ev1, hF⟩ := pl_bd hF
  refine pl_getR C w (ci := 4) in_P rfl (by decide) 0 (by decide) mw_206 ev1 dc_P_rowOf_1 ?_
  refine lv_iload_n hx hb dc_P_rowOf_4 rfl (lv_at hl 1 rfl) ?_
  refine lv_if_lt hx hb dc_P_rowOf_5 (tgt := 21) (by decide) (fun hc => ?_) (fun hc => ?_)
  · have hF := (if_pos hc).symm.trans hF
    exact tl_P_rowOf_21 C hF w hS (lv_sub hl [] rfl)
  · have hF := (if_neg hc).symm.trans hF
    refine lv_iload_n hx hb dc_P_rowOf_8 rfl (lv_at hl 1 rfl) ?_
    refine lv_aload_n hx hb dc_P_rowOf_9 rfl (lv_at hl 0 rfl) ?_
    obtain ⟨v2, ev2, hF⟩ := pl_bd hF
    refine pl_getR C w (ci := 4) in_P rfl (by decide) 0 (by decide) mw_206 ev2 dc_P_rowOf_10 ?_
    obtain ⟨v3, ev3, hF⟩ := pl_bd hF
    refine pl_len C w ev3 dc_P_rowOf_13 ?_
    refine lv_icmp_ge hx hb dc_P_rowOf_14 (tgt := 21) (by decide) (fun hc => ?_) (fun hc => ?_)
    · have hF := (if_pos hc).symm.trans hF
      exact tl_P_rowOf_21 C hF w hS (lv_sub hl [] rfl)
    · have hF := (if_neg hc).symm.trans hF
      refine lv_iload_n hx hb dc_P_rowOf_17 rfl (lv_at hl 1 rfl) ?_
      refine lv_goto hx hb dc_P_rowOf_18 (tgt := 22) (by decide) ?_
      exact tl_P_rowOf_22 C hF w hS (lv_sub hl [] rfl)
set_option maxHeartbeats 4000000 in
set_option maxRecDepth 100000 in
theorem tm_P_rowOf (l : Launch) (D : va_G) (dA : Nat → ClassId) (tt : Nat → Nat) (b n : Nat) {f : pl_H} {a0 : Nat} {x1 : Int32} {r : Nat} (hF : fn_P_rowOf f a0 x1 = some r) : Met l my_P_rowOf (Cond.code my_P_rowOf co_P_rowOf 2 (some (.array .int)) :: pl_tb) rm_P_rowOf (va_Pc [.ref a0, .int x1] (pl_pre D dA tt b n f)) (pl_qQ D dA tt b n f (some r)) 0 0 (pl_A b) := by
  refine Met.ofW (cc := co_P_rowOf) (maxL := 2) (ret := (some (.array .int))) (by decide) rfl ?_
  intro p e s m args below meth c s₁ B hml hv
  obtain ⟨rfl, w, hK⟩ := hv
  have C : pl_C p s m _ meth c co_P_rowOf 2 rn_P (some (.array .int)) "rowOf" D dA tt b := ⟨B.exec, B.bytes, hml, B.returns, findClass_of_methodNamed B.named, B.notSynchronized, fun w hw => atoms_spec (ws := Cond.code my_P_rowOf co_P_rowOf 2 (some (.array .int)) :: pl_tb) B.pre w (List.mem_cons_of_mem _ hw), (name_of_methodNamed B.named B.method).1, hK⟩
  have hl := lv_entry ([.ref a0, .int x1]) (n := 2) (Nat.le_of_ble_eq_true rfl)
  rw [lg_entry_eq]
  generalize (lg_sl ([.ref a0, .int x1]) ++ List.replicate (2 - (lg_sl ([.ref a0, .int x1])).length) Slot.unset).toArray = ls at hl ⊢
  have hl : lv_has ls 2 [(0, .ref a0), (1, .int x1)] := hl
  exact tl_P_rowOf C hF w va_S.rf hl
