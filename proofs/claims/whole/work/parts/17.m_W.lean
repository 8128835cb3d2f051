def rm_W_enterPart : Room := { frames := 3, cells := 0, slots := 0, locals := 79 }
def fn_W_enterPart (f : pl_H) (a0 : Nat) (x1 : Int32) (a2 : Nat) (x3 : Int32) (x4 : Int32) : Option (Int32 × pl_H) := (pl_gR f a0 6 0).bind fun v1 => (pl_is f v1 4).bind fun u3 => (fn_P_hasPart f v1 x1).bind fun v2 => if v2 = 0 then (pl_z 0).bind (fun z => some (z, f)) else (pl_gR f a0 6 1).bind fun v4 => (pl_gR f a0 6 0).bind fun v5 => (pl_is f v5 4).bind fun u7 => (fn_P_rowOf f v5 x1).bind fun v6 => (pl_gR f a0 6 0).bind fun v8 => (pl_is f v8 4).bind fun u10 => (fn_P_lengthOf f v8 x1).bind fun v9 => (pl_is f v4 2).bind fun u12 => (fn_H_hash f v4 v6 0 v9).bind fun q11 => (pl_gR q11 a0 6 1).bind fun v13 => (pl_is q11 v13 2).bind fun u15 => (fn_H_standsIn q11 v13 a2 x3 x4).bind fun v14 => if v14 = 0 then (pl_z 0).bind (fun z => some (z, q11)) else (pl_pV q11 a0 6 3 (.int x1)).bind fun f16 => (pl_gR f16 a0 6 0).bind fun v17 => (pl_is f16 v17 4).bind fun u19 => (fn_P_rowOf f16 v17 x1).bind fun v18 => (pl_pV f16 a0 6 4 (.ref v18)).bind fun f20 => (pl_gR f20 a0 6 0).bind fun v21 => (pl_is f20 v21 4).bind fun u23 => (fn_P_lengthOf f20 v21 x1).bind fun v22 => (pl_pV f20 a0 6 5 (.int v22)).bind fun f24 => (pl_pV f24 a0 6 6 (.int 0)).bind fun f25 => (pl_z 1).bind (fun z => some (z, f25))
set_option maxHeartbeats 4000000 in
set_option maxRecDepth 100000 in
theorem tl_W_enterPart {p : Program} {l : Launch} {e : Env} {s : State} {m : MethodId} {args : Array Value} {below : List Frame} {meth : Method} {c : Code} {D : va_G} {dA : Nat → ClassId} {tt : Nat → Nat} {b n : Nat} (C : pl_C p s m args meth c co_W_enterPart 5 rn_W (some .boolean) "enterPart" D dA tt b) {r : Int32} {f' : pl_H} {f : pl_H} {a0 : Nat} {x1 : Int32} {a2 : Nat} {x3 : Int32} {x4 : Int32} {H : Heap} {locs : List Loc} {ls : Array Slot} (hF : fn_W_enterPart f a0 x1 a2 x3 x4 = some (r, f')) (w : pl_wd D vwCl dA b n f H) (hS : va_S (pl_A b) s.heap H locs) (hl : lv_has ls 5 [(0, .ref a0), (1, .int x1), (2, .ref a2), (3, .int x3), (4, .int x4)]) : W p l e rm_W_enterPart s m args below meth c H locs 0 0 (MQ below (pl_qI D dA tt b n f' r) args s 0 0 (pl_A b)) (F0 m 0 ls []) := by
  have hx := C.1
  have hb := C.2.1
  have hown := C.2.2.2.2.1
  have hts := C.2.2.2.2.2.2.1
  unfold fn_W_enterPart at hF
  refine lv_aload_n hx hb dc_W_enterPart_0 rfl (lv_at hl 0 rfl) ?_
  obtain ⟨v1, ev1, hF⟩ := pl_bd hF
  refine pl_getR C w (ci := 6) in_W rfl (by decide) 0 (by decide) mw_226 ev1 dc_W_enterPart_1 ?_
  refine lv_iload_n hx hb dc_W_enterPart_4 rfl (lv_at hl 1 rfl) ?_
  obtain ⟨u3, eu3, hF⟩ := pl_bd hF
  obtain ⟨v2, ev2, hF⟩ := pl_bd hF
  refine pl_gi (pl_runV (Cn := rn_P) (k := 1) C (tm_P_hasPart l D dA tt b n ev2) w hS rfl rfl mw_618 mw_565 mw_566 mw_70 mw_567 (by decide +kernel) ⟨by decide, by decide⟩ eu3 rfl (by decide) rfl hl.1 (Nat.le_of_ble_eq_true rfl) ⟨Nat.zero_le _, Nat.zero_le _⟩ rfl dc_W_enterPart_5) hS (fun H locs w hS => ?_)
  refine lv_if_ne hx hb dc_W_enterPart_8 (tgt := 13) (by decide) (fun hc => ?_) (fun hc => ?_)
  · have hF := (if_neg hc).symm.trans hF
    refine lv_aload_n hx hb dc_W_enterPart_13 rfl (lv_at hl 0 rfl) ?_
    obtain ⟨v4, ev4, hF⟩ := pl_bd hF
    refine pl_getR C w (ci := 6) in_W rfl (by decide) 1 (by decide) mw_227 ev4 dc_W_enterPart_14 ?_
    refine lv_aload_n hx hb dc_W_enterPart_17 rfl (lv_at hl 0 rfl) ?_
    obtain ⟨v5, ev5, hF⟩ := pl_bd hF
    refine pl_getR C w (ci := 6) in_W rfl (by decide) 0 (by decide) mw_226 ev5 dc_W_enterPart_18 ?_
    refine lv_iload_n hx hb dc_W_enterPart_21 rfl (lv_at hl 1 rfl) ?_
    obtain ⟨u7, eu7, hF⟩ := pl_bd hF
    obtain ⟨v6, ev6, hF⟩ := pl_bd hF
    refine pl_gr (pl_runV (Cn := rn_P) (k := 1) C (tm_P_rowOf l D dA tt b n ev6) w hS rfl rfl mw_222 mw_223 mw_224 mw_70 mw_225 (by decide +kernel) ⟨by decide, by decide⟩ eu7 rfl (by decide) rfl hl.1 (Nat.le_of_ble_eq_true rfl) ⟨Nat.zero_le _, Nat.zero_le _⟩ rfl dc_W_enterPart_22) hS (fun H locs w hS => ?_)
    refine lv_iconst (v := 0) hx hb dc_W_enterPart_25 (by decide) ?_
    refine lv_aload_n hx hb dc_W_enterPart_26 rfl (lv_at hl 0 rfl) ?_
    obtain ⟨v8, ev8, hF⟩ := pl_bd hF
    refine pl_getR C w (ci := 6) in_W rfl (by decide) 0 (by decide) mw_226 ev8 dc_W_enterPart_27 ?_
    refine lv_iload_n hx hb dc_W_enterPart_30 rfl (lv_at hl 1 rfl) ?_
    obtain ⟨u10, eu10, hF⟩ := pl_bd hF
    obtain ⟨v9, ev9, hF⟩ := pl_bd hF
    refine pl_gi (pl_runV (Cn := rn_P) (k := 1) C (tm_P_lengthOf l D dA tt b n ev9) w hS rfl rfl mw_619 mw_569 mw_570 mw_70 mw_571 (by decide +kernel) ⟨by decide, by decide⟩ eu10 rfl (by decide) rfl hl.1 (Nat.le_of_ble_eq_true rfl) ⟨Nat.zero_le _, Nat.zero_le _⟩ rfl dc_W_enterPart_31) hS (fun H locs w hS => ?_)
    obtain ⟨u12, eu12, hF⟩ := pl_bd hF
    obtain ⟨q11, eq11, hF⟩ := pl_bd hF
    refine pl_gv (pl_runV (Cn := rn_H) (k := 3) C (tm_H_hash l D dA tt b n eq11) w hS rfl rfl mw_620 mw_466 mw_467 mw_66 mw_468 (by decide +kernel) ⟨by decide, by decide⟩ eu12 rfl (by decide) rfl hl.1 (Nat.le_of_ble_eq_true rfl) ⟨Nat.zero_le _, Nat.zero_le _⟩ rfl dc_W_enterPart_34) hS (fun H locs w hS => ?_)
    refine lv_aload_n hx hb dc_W_enterPart_37 rfl (lv_at hl 0 rfl) ?_
    obtain ⟨v13, ev13, hF⟩ := pl_bd hF
    refine pl_getR C w (ci := 6) in_W rfl (by decide) 1 (by decide) mw_227 ev13 dc_W_enterPart_38 ?_
    refine lv_aload_n hx hb dc_W_enterPart_41 rfl (lv_at hl 2 rfl) ?_
    refine lv_iload_n hx hb dc_W_enterPart_42 rfl (lv_at hl 3 rfl) ?_
    refine lv_iload hx hb dc_W_enterPart_43 (lv_at hl 4 rfl) ?_
    obtain ⟨u15, eu15, hF⟩ := pl_bd hF
    obtain ⟨v14, ev14, hF⟩ := pl_bd hF
    refine pl_gi (pl_runV (Cn := rn_H) (k := 3) C (tm_H_standsIn l D dA tt b n ev14) w hS rfl rfl mw_621 mw_622 mw_623 mw_66 mw_624 (by decide +kernel) ⟨by decide, by decide⟩ eu15 rfl (by decide) rfl hl.1 (Nat.le_of_ble_eq_true rfl) ⟨Nat.zero_le _, Nat.zero_le _⟩ rfl dc_W_enterPart_45) hS (fun H locs w hS => ?_)
    refine lv_if_ne hx hb dc_W_enterPart_48 (tgt := 53) (by decide) (fun hc => ?_) (fun hc => ?_)
    · have hF := (if_neg hc).symm.trans hF
      refine lv_aload_n hx hb dc_W_enterPart_53 rfl (lv_at hl 0 rfl) ?_
      refine lv_iload_n hx hb dc_W_enterPart_54 rfl (lv_at hl 1 rfl) ?_
      obtain ⟨f16, ef16, hF⟩ := pl_bd hF
      refine pl_put C w hS (ci := 6) in_W rfl (by decide) rty_W_ok rnm_W 3 (by decide) mw_229 rfl rfl rfl ef16 dc_W_enterPart_55 (fun H locs w hS => ?_)
      refine lv_aload_n hx hb dc_W_enterPart_58 rfl (lv_at hl 0 rfl) ?_
      refine lv_aload_n hx hb dc_W_enterPart_59 rfl (lv_at hl 0 rfl) ?_
      obtain ⟨v17, ev17, hF⟩ := pl_bd hF
      refine pl_getR C w (ci := 6) in_W rfl (by decide) 0 (by decide) mw_226 ev17 dc_W_enterPart_60 ?_
      refine lv_iload_n hx hb dc_W_enterPart_63 rfl (lv_at hl 1 rfl) ?_
      obtain ⟨u19, eu19, hF⟩ := pl_bd hF
      obtain ⟨v18, ev18, hF⟩ := pl_bd hF
      refine pl_gr (pl_runV (Cn := rn_P) (k := 1) C (tm_P_rowOf l D dA tt b n ev18) w hS rfl rfl mw_222 mw_223 mw_224 mw_70 mw_225 (by decide +kernel) ⟨by decide, by decide⟩ eu19 rfl (by decide) rfl hl.1 (Nat.le_of_ble_eq_true rfl) ⟨Nat.zero_le _, Nat.zero_le _⟩ rfl dc_W_enterPart_64) hS (fun H locs w hS => ?_)
      obtain ⟨f20, ef20, hF⟩ := pl_bd hF
      refine pl_put C w hS (ci := 6) in_W rfl (by decide) rty_W_ok rnm_W 4 (by decide) mw_230 rfl rfl rfl ef20 dc_W_enterPart_67 (fun H locs w hS => ?_)
      refine lv_aload_n hx hb dc_W_enterPart_70 rfl (lv_at hl 0 rfl) ?_
      refine lv_aload_n hx hb dc_W_enterPart_71 rfl (lv_at hl 0 rfl) ?_
      obtain ⟨v21, ev21, hF⟩ := pl_bd hF
      refine pl_getR C w (ci := 6) in_W rfl (by decide) 0 (by decide) mw_226 ev21 dc_W_enterPart_72 ?_
      refine lv_iload_n hx hb dc_W_enterPart_75 rfl (lv_at hl 1 rfl) ?_
      obtain ⟨u23, eu23, hF⟩ := pl_bd hF
      obtain ⟨v22, ev22, hF⟩ := pl_bd hF
      refine pl_gi (pl_runV (Cn := rn_P) (k := 1) C (tm_P_lengthOf l D dA tt b n ev22) w hS rfl rfl mw_619 mw_569 mw_570 mw_70 mw_571 (by decide +kernel) ⟨by decide, by decide⟩ eu23 rfl (by decide) rfl hl.1 (Nat.le_of_ble_eq_true rfl) ⟨Nat.zero_le _, Nat.zero_le _⟩ rfl dc_W_enterPart_76) hS (fun H locs w hS => ?_)
      obtain ⟨f24, ef24, hF⟩ := pl_bd hF
      refine pl_put C w hS (ci := 6) in_W rfl (by decide) rty_W_ok rnm_W 5 (by decide) mw_231 rfl rfl rfl ef24 dc_W_enterPart_79 (fun H locs w hS => ?_)
      refine lv_aload_n hx hb dc_W_enterPart_82 rfl (lv_at hl 0 rfl) ?_
      refine lv_iconst (v := 0) hx hb dc_W_enterPart_83 (by decide) ?_
      obtain ⟨f25, ef25, hF⟩ := pl_bd hF
      refine pl_put C w hS (ci := 6) in_W rfl (by decide) rty_W_ok rnm_W 6 (by decide) mw_232 rfl rfl rfl ef25 dc_W_enterPart_84 (fun H locs w hS => ?_)
      refine lv_iconst (v := 1) hx hb dc_W_enterPart_87 (by decide) ?_
      exact pl_retZw C w hS hF dc_W_enterPart_88
    · have hF := (if_pos hc).symm.trans hF
      refine lv_iconst (v := 0) hx hb dc_W_enterPart_51 (by decide) ?_
      exact pl_retZw C w hS hF dc_W_enterPart_52
  · have hF := (if_pos hc).symm.trans hF
    refine lv_iconst (v := 0) hx hb dc_W_enterPart_11 (by decide) ?_
    exact pl_retZw C w hS hF dc_W_enterPart_12
set_option maxHeartbeats 4000000 in
set_option maxRecDepth 100000 in
theorem tm_W_enterPart (l : Launch) (D : va_G) (dA : Nat → ClassId) (tt : Nat → Nat) (b n : Nat) {f : pl_H} {a0 : Nat} {x1 : Int32} {a2 : Nat} {x3 : Int32} {x4 : Int32} {r : Int32} {f' : pl_H} (hF : fn_W_enterPart f a0 x1 a2 x3 x4 = some (r, f')) : Met l my_W_enterPart (Cond.code my_W_enterPart co_W_enterPart 5 (some .boolean) :: pl_tb) rm_W_enterPart (va_Pc [.ref a0, .int x1, .ref a2, .int x3, .int x4] (pl_pre D dA tt b n f)) (pl_qI D dA tt b n f' r) 0 0 (pl_A b) := by
  refine Met.ofW (cc := co_W_enterPart) (maxL := 5) (ret := (some .boolean)) (by decide) rfl ?_
  intro p e s m args below meth c s₁ B hml hv
  obtain ⟨rfl, w, hK⟩ := hv
  have C : pl_C p s m _ meth c co_W_enterPart 5 rn_W (some .boolean) "enterPart" D dA tt b := ⟨B.exec, B.bytes, hml, B.returns, findClass_of_methodNamed B.named, B.notSynchronized, fun w hw => atoms_spec (ws := Cond.code my_W_enterPart co_W_enterPart 5 (some .boolean) :: pl_tb) B.pre w (List.mem_cons_of_mem _ hw), (name_of_methodNamed B.named B.method).1, hK⟩
  have hl := lv_entry ([.ref a0, .int x1, .ref a2, .int x3, .int x4]) (n := 5) (Nat.le_of_ble_eq_true rfl)
  rw [lg_entry_eq]
  generalize (lg_sl ([.ref a0, .int x1, .ref a2, .int x3, .int x4]) ++ List.replicate (5 - (lg_sl ([.ref a0, .int x1, .ref a2, .int x3, .int x4])).length) Slot.unset).toArray = ls at hl ⊢
  have hl : lv_has ls 5 [(0, .ref a0), (1, .int x1), (2, .ref a2), (3, .int x3), (4, .int x4)] := hl
  exact tl_W_enterPart C hF w va_S.rf hl
def rm_W_byteAt : Room := { frames := 0, cells := 0, slots := 0, locals := 0 }
def fn_W_byteAt_31 (f : pl_H) (sx0 : Int32) : Option (Int32) := some sx0
def fn_W_byteAt_30 (f : pl_H) : Option (Int32) := fn_W_byteAt_31 f 0
def fn_W_byteAt (f : pl_H) (a0 : Nat) (x1 : Int32) : Option (Int32) := if x1 < 0 then fn_W_byteAt_30 f else (pl_gI f a0 6 5).bind fun v1 => if v1 ≤ x1 then fn_W_byteAt_30 f else (pl_gR f a0 6 4).bind fun v2 => (pl_ln f v2).bind fun v3 => if v3 ≤ x1 then fn_W_byteAt_30 f else (pl_gR f a0 6 4).bind fun v4 => (pl_aI f v4 x1).bind fun v5 => fn_W_byteAt_31 f v5
set_option maxHeartbeats 4000000 in
set_option maxRecDepth 100000 in
theorem tl_W_byteAt_31 {p : Program} {l : Launch} {e : Env} {s : State} {m : MethodId} {args : Array Value} {below : List Frame} {meth : Method} {c : Code} {D : va_G} {dA : Nat → ClassId} {tt : Nat → Nat} {b n : Nat} (C : pl_C p s m args meth c co_W_byteAt 2 rn_W (some .int) "byteAt" D dA tt b) {r : Int32} {f : pl_H} {sx0 : Int32} {H : Heap} {locs : List Loc} {ls : Array Slot} (hF : fn_W_byteAt_31 f sx0 = some r) (w : pl_wd D vwCl dA b n f H) (hS : va_S (pl_A b) s.heap H locs) (hl : lv_has ls 2 []) : W p l e rm_W_byteAt s m args below meth c H locs 0 0 (MQ below (pl_qI D dA tt b n f r) args s 0 0 (pl_A b)) (F0 m 31 ls [.int sx0]) := by
  have hx := C.1
  have hb := C.2.1
  have hown := C.2.2.2.2.1
  have hts := C.2.2.2.2.2.2.1
  unfold fn_W_byteAt_31 at hF
  exact pl_retI C w hS hF dc_W_byteAt_31
set_option maxHeartbeats 4000000 in
set_option maxRecDepth 100000 in
theorem tl_W_byteAt_30 {p : Program} {l : Launch} {e : Env} {s : State} {m : MethodId} {args : Array Value} {below : List Frame} {meth : Method} {c : Code} {D : va_G} {dA : Nat → ClassId} {tt : Nat → Nat} {b n : Nat} (C : pl_C p s m args meth c co_W_byteAt 2 rn_W (some .int) "byteAt" D dA tt b) {r : Int32} {f : pl_H} {H : Heap} {locs : List Loc} {ls : Array Slot} (hF : fn_W_byteAt_30 f = some r) (w : pl_wd D vwCl dA b n f H) (hS : va_S (pl_A b) s.heap H locs) (hl : lv_has ls 2 []) : W p l e rm_W_byteAt s m args below meth c H locs 0 0 (MQ below (pl_qI D dA tt b n f r) args s 0 0 (pl_A b)) (F0 m 30 ls []) := by
  have hx := C.1
  have hb := C.2.1
  have hown := C.2.2.2.2.1
  have hts := C.2.2.2.2.2.2.1
  unfold fn_W_byteAt_30 at hF
  refine lv_iconst (v := 0) hx hb dc_W_byteAt_30 (by decide) ?_
  exact tl_W_byteAt_31 C hF w hS (lv_sub hl [] rfl)
set_option maxHeartbeats 4000000 in
set_option maxRecDepth 100000 in
theorem tl_W_byteAt {p : Program} {l : Launch} {e : Env} {s : State} {m : MethodId} {args : Array Value} {below : List Frame} {meth : Method} {c : Code} {D : va_G} {dA : Nat → ClassId} {tt : Nat → Nat} {b n : Nat} (C : pl_C p s m args meth c co_W_byteAt 2 rn_W (some .int) "byteAt" D dA tt b) {r : Int32} {f : pl_H} {a0 : Nat} {x1 : Int32} {H : Heap} {locs : List Loc} {ls : Array Slot} (hF : fn_W_byteAt f a0 x1 = some r) (w : pl_wd D vwCl dA b n f H) (hS : va_S (pl_A b) s.heap H locs) (hl : lv_has ls 2 [(0, .ref a0), (1, .int x1)]) : W p l e rm_W_byteAt s m args below meth c H locs 0 0 (MQ below (pl_qI D dA tt b n f r) args s 0 0 (pl_A b)) (F0 m 0 ls []) := by
  have hx := C.1
  have hb := C.2.1
  have hown := C.2.2.2.2.1
  have hts := C.2.2.2.2.2.2.1
  unfold fn_W_byteAt at hF
  refine lv_iload_n hx hb dc_W_byteAt_0 rfl (lv_at hl 1 rfl) ?_
  refine lv_if_lt hx hb dc_W_byteAt_1 (tgt := 30) (by decide) (fun hc => ?_) (fun hc => ?_)
  · have hF := (if_pos hc).symm.trans hF
    exact tl_W_byteAt_30 C hF w hS (lv_sub hl [] rfl)
  · have hF := (if_neg hc).symm.trans hF
    refine lv_iload_n hx hb dc_W_byteAt_4 rfl (lv_at hl 1 rfl) ?_
    refine lv_aload_n hx hb dc_W_byteAt_5 rfl (lv_at hl 0 rfl) ?_
    obtain ⟨v1, ev1, hF⟩ := pl_bd hF
    refine pl_getI C w (ci := 6) in_W rfl (by decide) 5 (by decide) mw_231 ev1 dc_W_byteAt_6 ?_
    refine lv_icmp_ge hx hb dc_W_byteAt_9 (tgt := 30) (by decide) (fun hc => ?_) (fun hc => ?_)
    · have hF := (if_pos hc).symm.trans hF
      exact tl_W_byteAt_30 C hF w hS (lv_sub hl [] rfl)
    · have hF := (if_neg hc).symm.trans hF
      refine lv_iload_n hx hb dc_W_byteAt_12 rfl (lv_at hl 1 rfl) ?_
      refine lv_aload_n hx hb dc_W_byteAt_13 rfl (lv_at hl 0 rfl) ?_
      obtain ⟨v2, ev2, hF⟩ := pl_bd hF
      refine pl_getR C w (ci := 6) in_W rfl (by decide) 4 (by decide) mw_230 ev2 dc_W_byteAt_14 ?_
      obtain ⟨v3, ev3, hF⟩ := pl_bd hF
      refine pl_len C w ev3 dc_W_byteAt_17 ?_
      refine lv_icmp_ge hx hb dc_W_byteAt_18 (tgt := 30) (by decide) (fun hc => ?_) (fun hc => ?_)
      · have hF := (if_pos hc).symm.trans hF
        exact tl_W_byteAt_30 C hF w hS (lv_sub hl [] rfl)
      · have hF := (if_neg hc).symm.trans hF
        refine lv_aload_n hx hb dc_W_byteAt_21 rfl (lv_at hl 0 rfl) ?_
        obtain ⟨v4, ev4, hF⟩ := pl_bd hF
        refine pl_getR C w (ci := 6) in_W rfl (by decide) 4 (by decide) mw_230 ev4 dc_W_byteAt_22 ?_
        refine lv_iload_n hx hb dc_W_byteAt_25 rfl (lv_at hl 1 rfl) ?_
        obtain ⟨v5, ev5, hF⟩ := pl_bd hF
        refine pl_aldI C w ev5 dc_W_byteAt_26 ?_
        refine lv_goto hx hb dc_W_byteAt_27 (tgt := 31) (by decide) ?_
        exact tl_W_byteAt_31 C hF w hS (lv_sub hl [] rfl)
set_option maxHeartbeats 4000000 in
set_option maxRecDepth 100000 in
theorem tm_W_byteAt (l : Launch) (D : va_G) (dA : Nat → ClassId) (tt : Nat → Nat) (b n : Nat) {f : pl_H} {a0 : Nat} {x1 : Int32} {r : Int32} (hF : fn_W_byteAt f a0 x1 = some r) : Met l my_W_byteAt (Cond.code my_W_byteAt co_W_byteAt 2 (some .int) :: pl_tb) rm_W_byteAt (va_Pc [.ref a0, .int x1] (pl_pre D dA tt b n f)) (pl_qI D dA tt b n f r) 0 0 (pl_A b) := by
  refine Met.ofW (cc := co_W_byteAt) (maxL := 2) (ret := (some .int)) (by decide) rfl ?_
  intro p e s m args below meth c s₁ B hml hv
  obtain ⟨rfl, w, hK⟩ := hv
  have C : pl_C p s m _ meth c co_W_byteAt 2 rn_W (some .int) "byteAt" D dA tt b := ⟨B.exec, B.bytes, hml, B.returns, findClass_of_methodNamed B.named, B.notSynchronized, fun w hw => atoms_spec (ws := Cond.code my_W_byteAt co_W_byteAt 2 (some .int) :: pl_tb) B.pre w (List.mem_cons_of_mem _ hw), (name_of_methodNamed B.named B.method).1, hK⟩
  have hl := lv_entry ([.ref a0, .int x1]) (n := 2) (Nat.le_of_ble_eq_true rfl)
  rw [lg_entry_eq]
  generalize (lg_sl ([.ref a0, .int x1]) ++ List.replicate (2 - (lg_sl ([.ref a0, .int x1])).length) Slot.unset).toArray = ls at hl ⊢
  have hl : lv_has ls 2 [(0, .ref a0), (1, .int x1)] := hl
  exact tl_W_byteAt C hF w va_S.rf hl
def rm_W_firstItem : Room := { frames := 1, cells := 0, slots := 0, locals := 60 }
def fn_W_firstItem_23 (f : pl_H) : Option (Int32) := some ((-1))
def fn_W_firstItem (f : pl_H) (a0 : Nat) : Option (Int32) := (pl_gI f a0 6 6).bind fun v1 => (pl_is f a0 6).bind fun u3 => (fn_W_byteAt f a0 v1).bind fun v2 => if v2 < 192 then fn_W_firstItem_23 f else if v2 ≤ 249 then (pl_gI f a0 6 6).bind fun v4 => some ((v4 + 1) + (if 0 < ((v2 - 192) - 55) then ((v2 - 192) - 55) else 0)) else fn_W_firstItem_23 f
set_option maxHeartbeats 4000000 in
set_option maxRecDepth 100000 in
theorem tl_W_firstItem_23 {p : Program} {l : Launch} {e : Env} {s : State} {m : MethodId} {args : Array Value} {below : List Frame} {meth : Method} {c : Code} {D : va_G} {dA : Nat → ClassId} {tt : Nat → Nat} {b n : Nat} (C : pl_C p s m args meth c co_W_firstItem 2 rn_W (some .int) "firstItem" D dA tt b) {r : Int32} {f : pl_H} {H : Heap} {locs : List Loc} {ls : Array Slot} (hF : fn_W_firstItem_23 f = some r) (w : pl_wd D vwCl dA b n f H) (hS : va_S (pl_A b) s.heap H locs) (hl : lv_has ls 2 []) : W p l e rm_W_firstItem s m args below meth c H locs 0 0 (MQ below (pl_qI D dA tt b n f r) args s 0 0 (pl_A b)) (F0 m 23 ls []) := by
  have hx := C.1
  have hb := C.2.1
  have hown := C.2.2.2.2.1
  have hts := C.2.2.2.2.2.2.1
  unfold fn_W_firstItem_23 at hF
  refine lv_iconst (v := (-1)) hx hb dc_W_firstItem_23 (by decide) ?_
  exact pl_retI C w hS hF dc_W_firstItem_24
set_option maxHeartbeats 4000000 in
set_option maxRecDepth 100000 in
theorem tl_W_firstItem {p : Program} {l : Launch} {e : Env} {s : State} {m : MethodId} {args : Array Value} {below : List Frame} {meth : Method} {c : Code} {D : va_G} {dA : Nat → ClassId} {tt : Nat → Nat} {b n : Nat} (C : pl_C p s m args meth c co_W_firstItem 2 rn_W (some .int) "firstItem" D dA tt b) {r : Int32} {f : pl_H} {a0 : Nat} {H : Heap} {locs : List Loc} {ls : Array Slot} (hF : fn_W_firstItem f a0 = some r) (w : pl_wd D vwCl dA b n f H) (hS : va_S (pl_A b) s.heap H locs) (hl : lv_has ls 2 [(0, .ref a0)]) : W p l e rm_W_firstItem s m args below meth c H locs 0 0 (MQ below (pl_qI D dA tt b n f r) args s 0 0 (pl_A b)) (F0 m 0 ls []) := by
  have hx := C.1
  have hb := C.2.1
  have hown := C.2.2.2.2.1
  have hts := C.2.2.2.2.2.2.1
  unfold fn_W_firstItem at hF
  refine lv_aload_n hx hb dc_W_firstItem_0 rfl (lv_at hl 0 rfl) ?_
  refine lv_aload_n hx hb dc_W_firstItem_1 rfl (lv_at hl 0 rfl) ?_
  obtain ⟨v1, ev1, hF⟩ := pl_bd hF
  refine pl_getI C w (ci := 6) in_W rfl (by decide) 6 (by decide) mw_232 ev1 dc_W_firstItem_2 ?_
  obtain ⟨u3, eu3, hF⟩ := pl_bd hF
  obtain ⟨v2, ev2, hF⟩ := pl_bd hF
  refine pl_gi (pl_runV (Cn := rn_W) (k := 1) C (tm_W_byteAt l D dA tt b n ev2) w hS rfl rfl mw_634 mw_636 mw_22 mw_71 mw_637 (by decide +kernel) ⟨by decide, by decide⟩ eu3 rfl (by decide) rfl hl.1 (Nat.le_of_ble_eq_true rfl) ⟨Nat.zero_le _, Nat.zero_le _⟩ rfl dc_W_firstItem_5) hS (fun H locs w hS => ?_)
  refine lv_istore_n (lv' := [(1, .int v2), (0, .ref a0)]) hx hb dc_W_firstItem_8 rfl hl (by decide) rfl (fun ls hl => ?_)
  refine lv_iload_n hx hb dc_W_firstItem_9 rfl (lv_at hl 0 rfl) ?_
  refine lv_sipush (v := 192) hx hb dc_W_firstItem_10 (by decide) ?_
  refine lv_icmp_lt hx hb dc_W_firstItem_13 (tgt := 23) (by decide) (fun hc => ?_) (fun hc => ?_)
  · have hF := (if_pos hc).symm.trans hF
    exact tl_W_firstItem_23 C hF w hS (lv_sub hl [] rfl)
  · have hF := (if_neg hc).symm.trans hF
    refine lv_iload_n hx hb dc_W_firstItem_16 rfl (lv_at hl 0 rfl) ?_
    refine lv_sipush (v := 249) hx hb dc_W_firstItem_17 (by decide) ?_
    refine lv_icmp_le hx hb dc_W_firstItem_20 (tgt := 25) (by decide) (fun hc => ?_) (fun hc => ?_)
    · have hF := (if_pos hc).symm.trans hF
      refine lv_aload_n hx hb dc_W_firstItem_25 rfl (lv_at hl 1 rfl) ?_
      obtain ⟨v4, ev4, hF⟩ := pl_bd hF
      refine pl_getI C w (ci := 6) in_W rfl (by decide) 6 (by decide) mw_232 ev4 dc_W_firstItem_26 ?_
      refine lv_iconst (v := 1) hx hb dc_W_firstItem_29 (by decide) ?_
      refine lv_iadd hx hb dc_W_firstItem_30 ?_
      refine lv_iconst (v := 0) hx hb dc_W_firstItem_31 (by decide) ?_
      refine lv_iload_n hx hb dc_W_firstItem_32 rfl (lv_at hl 0 rfl) ?_
      refine lv_sipush (v := 192) hx hb dc_W_firstItem_33 (by decide) ?_
      refine lv_isub hx hb dc_W_firstItem_36 ?_
      refine lv_bipush (v := 55) hx hb dc_W_firstItem_37 (by decide) ?_
      refine lv_isub hx hb dc_W_firstItem_39 ?_
      refine pl_max C mw_638 mw_639 mw_74 mw_640 (by decide) (Nat.le_of_ble_eq_true rfl) hl.1 ⟨Nat.zero_le _, Nat.zero_le _⟩ dc_W_firstItem_40 ?_
      refine lv_iadd hx hb dc_W_firstItem_43 ?_
      exact pl_retI C w hS hF dc_W_firstItem_44
    · have hF := (if_neg hc).symm.trans hF
      exact tl_W_firstItem_23 C hF w hS (lv_sub hl [] rfl)
set_option maxHeartbeats 4000000 in
set_option maxRecDepth 100000 in
theorem tm_W_firstItem (l : Launch) (D : va_G) (dA : Nat → ClassId) (tt : Nat → Nat) (b n : Nat) {f : pl_H} {a0 : Nat} {r : Int32} (hF : fn_W_firstItem f a0 = some r) : Met l my_W_firstItem (Cond.code my_W_firstItem co_W_firstItem 2 (some .int) :: pl_tb) rm_W_firstItem (va_Pc [.ref a0] (pl_pre D dA tt b n f)) (pl_qI D dA tt b n f r) 0 0 (pl_A b) := by
  refine Met.ofW (cc := co_W_firstItem) (maxL := 2) (ret := (some .int)) (by decide) rfl ?_
  intro p e s m args below meth c s₁ B hml hv
  obtain ⟨rfl, w, hK⟩ := hv
  have C : pl_C p s m _ meth c co_W_firstItem 2 rn_W (some .int) "firstItem" D dA tt b := ⟨B.exec, B.bytes, hml, B.returns, findClass_of_methodNamed B.named, B.notSynchronized, fun w hw => atoms_spec (ws := Cond.code my_W_firstItem co_W_firstItem 2 (some .int) :: pl_tb) B.pre w (List.mem_cons_of_mem _ hw), (name_of_methodNamed B.named B.method).1, hK⟩
  have hl := lv_entry ([.ref a0]) (n := 2) (Nat.le_of_ble_eq_true rfl)
  rw [lg_entry_eq]
  generalize (lg_sl ([.ref a0]) ++ List.replicate (2 - (lg_sl ([.ref a0])).length) Slot.unset).toArray = ls at hl ⊢
  have hl : lv_has ls 2 [(0, .ref a0)] := hl
  exact tl_W_firstItem C hF w va_S.rf hl
def rm_W_itemEnd : Room := { frames := 1, cells := 0, slots := 0, locals := 21 }
def fn_W_itemEnd_61 (f : pl_H) (sx0 : Int32) : Option (Int32) := some sx0
def fn_W_itemEnd_60 (f : pl_H) : Option (Int32) := fn_W_itemEnd_61 f ((-1))
def fn_W_itemEnd (f : pl_H) (a0 : Nat) (x1 : Int32) : Option (Int32) := (pl_is f a0 6).bind fun u2 => (fn_W_byteAt f a0 x1).bind fun v1 => if 128 ≤ v1 then if 183 < v1 then if v1 < 192 then fn_W_itemEnd_60 f else if 247 < v1 then fn_W_itemEnd_60 f else fn_W_itemEnd_61 f (((x1 + 1) + v1) - 192) else some (((x1 + 1) + v1) - 128) else some (x1 + 1)
set_option maxHeartbeats 4000000 in
set_option maxRecDepth 100000 in
theorem tl_W_itemEnd_61 {p : Program} {l : Launch} {e : Env} {s : State} {m : MethodId} {args : Array Value} {below : List Frame} {meth : Method} {c : Code} {D : va_G} {dA : Nat → ClassId} {tt : Nat → Nat} {b n : Nat} (C : pl_C p s m args meth c co_W_itemEnd 3 rn_W (some .int) "itemEnd" D dA tt b) {r : Int32} {f : pl_H} {sx0 : Int32} {H : Heap} {locs : List Loc} {ls : Array Slot} (hF : fn_W_itemEnd_61 f sx0 = some r) (w : pl_wd D vwCl dA b n f H) (hS : va_S (pl_A b) s.heap H locs) (hl : lv_has ls 3 []) : W p l e rm_W_itemEnd s m args below meth c H locs 0 0 (MQ below (pl_qI D dA tt b n f r) args s 0 0 (pl_A b)) (F0 m 61 ls [.int sx0]) := by
  have hx := C.1
  have hb := C.2.1
  have hown := C.2.2.2.2.1
  have hts := C.2.2.2.2.2.2.1
  unfold fn_W_itemEnd_61 at hF
  exact pl_retI C w hS hF dc_W_itemEnd_61
set_option maxHeartbeats 4000000 in
set_option maxRecDepth 100000 in
theorem tl_W_itemEnd_60 {p : Program} {l : Launch} {e : Env} {s : State} {m : MethodId} {args : Array Value} {below : List Frame} {meth : Method} {c : Code} {D : va_G} {dA : Nat → ClassId} {tt : Nat → Nat} {b n : Nat} (C : pl_C p s m args meth c co_W_itemEnd 3 rn_W (some .int) "itemEnd" D dA tt b) {r : Int32} {f : pl_H} {H : Heap} {locs : List Loc} {ls : Array Slot} (hF : fn_W_itemEnd_60 f = some r) (w : pl_wd D vwCl dA b n f H) (hS : va_S (pl_A b) s.heap H locs) (hl : lv_has ls 3 []) : W p l e rm_W_itemEnd s m args below meth c H locs 0 0 (MQ below (pl_qI D dA tt b n f r) args s 0 0 (pl_A b)) (F0 m 60 ls []) := by
  have hx := C.1
  have hb := C.2.1
  have hown := C.2.2.2.2.1
  have hts := C.2.2.2.2.2.2.1
  unfold fn_W_itemEnd_60 at hF
  refine lv_iconst (v := (-1)) hx hb dc_W_itemEnd_60 (by decide) ?_
  exact tl_W_itemEnd_61 C hF w hS (lv_sub hl [] rfl)
set_option maxHeartbeats 4000000 in
set_option maxRecDepth 100000 in
theorem tl_W_itemEnd {p : Program} {l : Launch} {e : Env} {s : State} {m : MethodId} {args : Array Value} {below : List Frame} {meth : Method} {c : Code} {D : va_G} {dA : Nat → ClassId} {tt : Nat → Nat} {b n : Nat} (C : pl_C p s m args meth c co_W_itemEnd 3 rn_W (some .int) "itemEnd" D dA tt b) {r : Int32} {f : pl_H} {a0 : Nat} {x1 : Int32} {H : Heap} {locs : List Loc} {ls : Array Slot} (hF : fn_W_itemEnd f a0 x1 = some r) (w : pl_wd D vwCl dA b n f H) (hS : va_S (pl_A b) s.heap H locs) (hl : lv_has ls 3 [(0, .ref a0), (1, .int x1)]) : W p l e rm_W_itemEnd s m args below meth c H locs 0 0 (MQ below (pl_qI D dA tt b n f r) args s 0 0 (pl_A b)) (F0 m 0 ls []) := by
  have hx := C.1
  have hb := C.2.1
  have hown := C.2.2.2.2.1
  have hts := C.2.2.2.2.2.2.1
  unfold fn_W_itemEnd at hF
  refine lv_aload_n hx hb dc_W_itemEnd_0 rfl (lv_at hl 0 rfl) ?_
  refine lv_iload_n hx hb dc_W_itemEnd_1 rfl (lv_at hl 1 rfl) ?_
  obtain ⟨u2, eu2, hF⟩ := pl_bd hF
  obtain ⟨v1, ev1, hF⟩ := pl_bd hF
  refine pl_gi (pl_runV (Cn := rn_W) (k := 1) C (tm_W_byteAt l D dA tt b n ev1) w hS rfl rfl mw_634 mw_636 mw_22 mw_71 mw_637 (by decide +kernel) ⟨by decide, by decide⟩ eu2 rfl (by decide) rfl hl.1 (Nat.le_of_ble_eq_true rfl) ⟨Nat.zero_le _, Nat.zero_le _⟩ rfl dc_W_itemEnd_2) hS (fun H locs w hS => ?_)
  refine lv_istore_n (lv' := [(2, .int v1), (0, .ref a0), (1, .int x1)]) hx hb dc_W_itemEnd_5 rfl hl (by decide) rfl (fun ls hl => ?_)
  refine lv_iload_n hx hb dc_W_itemEnd_6 rfl (lv_at hl 0 rfl) ?_
  refine lv_sipush (v := 128) hx hb dc_W_itemEnd_7 (by decide) ?_
  refine lv_icmp_ge hx hb dc_W_itemEnd_10 (tgt := 17) (by decide) (fun hc => ?_) (fun hc => ?_)
  · have hF := (if_pos hc).symm.trans hF
    refine lv_iload_n hx hb dc_W_itemEnd_17 rfl (lv_at hl 0 rfl) ?_
    refine lv_sipush (v := 183) hx hb dc_W_itemEnd_18 (by decide) ?_
    refine lv_icmp_gt hx hb dc_W_itemEnd_21 (tgt := 34) (by decide) (fun hc => ?_) (fun hc => ?_)
    · have hF := (if_pos hc).symm.trans hF
      refine lv_iload_n hx hb dc_W_itemEnd_34 rfl (lv_at hl 0 rfl) ?_
      refine lv_sipush (v := 192) hx hb dc_W_itemEnd_35 (by decide) ?_
      refine lv_icmp_lt hx hb dc_W_itemEnd_38 (tgt := 60) (by decide) (fun hc => ?_) (fun hc => ?_)
      · have hF := (if_pos hc).symm.trans hF
        exact tl_W_itemEnd_60 C hF w hS (lv_sub hl [] rfl)
      · have hF := (if_neg hc).symm.trans hF
        refine lv_iload_n hx hb dc_W_itemEnd_41 rfl (lv_at hl 0 rfl) ?_
        refine lv_sipush (v := 247) hx hb dc_W_itemEnd_42 (by decide) ?_
        refine lv_icmp_gt hx hb dc_W_itemEnd_45 (tgt := 60) (by decide) (fun hc => ?_) (fun hc => ?_)
        · have hF := (if_pos hc).symm.trans hF
          exact tl_W_itemEnd_60 C hF w hS (lv_sub hl [] rfl)
        · have hF := (if_neg hc).symm.trans hF
          refine lv_iload_n hx hb dc_W_itemEnd_48 rfl (lv_at hl 2 rfl) ?_
          refine lv_iconst (v := 1) hx hb dc_W_itemEnd_49 (by decide) ?_
          refine lv_iadd hx hb dc_W_itemEnd_50 ?_
          refine lv_iload_n hx hb dc_W_itemEnd_51 rfl (lv_at hl 0 rfl) ?_
          refine lv_iadd hx hb dc_W_itemEnd_52 ?_
          refine lv_sipush (v := 192) hx hb dc_W_itemEnd_53 (by decide) ?_
          refine lv_isub hx hb dc_W_itemEnd_56 ?_
          refine lv_goto hx hb dc_W_itemEnd_57 (tgt := 61) (by decide) ?_
          exact tl_W_itemEnd_61 C hF w hS (lv_sub hl [] rfl)
    · have hF := (if_neg hc).symm.trans hF
      refine lv_iload_n hx hb dc_W_itemEnd_24 rfl (lv_at hl 2 rfl) ?_
      refine lv_iconst (v := 1) hx hb dc_W_itemEnd_25 (by decide) ?_
      refine lv_iadd hx hb dc_W_itemEnd_26 ?_
      refine lv_iload_n hx hb dc_W_itemEnd_27 rfl (lv_at hl 0 rfl) ?_
      refine lv_iadd hx hb dc_W_itemEnd_28 ?_
      refine lv_sipush (v := 128) hx hb dc_W_itemEnd_29 (by decide) ?_
      refine lv_isub hx hb dc_W_itemEnd_32 ?_
      exact pl_retI C w hS hF dc_W_itemEnd_33
  · have hF := (if_neg hc).symm.trans hF
    refine lv_iload_n hx hb dc_W_itemEnd_13 rfl (lv_at hl 2 rfl) ?_
    refine lv_iconst (v := 1) hx hb dc_W_itemEnd_14 (by decide) ?_
    refine lv_iadd hx hb dc_W_itemEnd_15 ?_
    exact pl_retI C w hS hF dc_W_itemEnd_16
set_option maxHeartbeats 4000000 in
set_option maxRecDepth 100000 in
theorem tm_W_itemEnd (l : Launch) (D : va_G) (dA : Nat → ClassId) (tt : Nat → Nat) (b n : Nat) {f : pl_H} {a0 : Nat} {x1 : Int32} {r : Int32} (hF : fn_W_itemEnd f a0 x1 = some r) : Met l my_W_itemEnd (Cond.code my_W_itemEnd co_W_itemEnd 3 (some .int) :: pl_tb) rm_W_itemEnd (va_Pc [.ref a0, .int x1] (pl_pre D dA tt b n f)) (pl_qI D dA tt b n f r) 0 0 (pl_A b) := by
  refine Met.ofW (cc := co_W_itemEnd) (maxL := 3) (ret := (some .int)) (by decide) rfl ?_
  intro p e s m args below meth c s₁ B hml hv
  obtain ⟨rfl, w, hK⟩ := hv
  have C : pl_C p s m _ meth c co_W_itemEnd 3 rn_W (some .int) "itemEnd" D dA tt b := ⟨B.exec, B.bytes, hml, B.returns, findClass_of_methodNamed B.named, B.notSynchronized, fun w hw => atoms_spec (ws := Cond.code my_W_itemEnd co_W_itemEnd 3 (some .int) :: pl_tb) B.pre w (List.mem_cons_of_mem _ hw), (name_of_methodNamed B.named B.method).1, hK⟩
  have hl := lv_entry ([.ref a0, .int x1]) (n := 3) (Nat.le_of_ble_eq_true rfl)
  rw [lg_entry_eq]
  generalize (lg_sl ([.ref a0, .int x1]) ++ List.replicate (3 - (lg_sl ([.ref a0, .int x1])).length) Slot.unset).toArray = ls at hl ⊢
  have hl : lv_has ls 3 [(0, .ref a0), (1, .int x1)] := hl
  exact tl_W_itemEnd C hF w va_S.rf hl
def rm_W_nodeEnd : Room := { frames := 1, cells := 0, slots := 0, locals := 21 }
def fn_W_nodeEnd_60 (f : pl_H) (sx0 : Int32) : Option (Int32) := some sx0
def fn_W_nodeEnd (f : pl_H) (a0 : Nat) (x1 : Int32) : Option (Int32) := (pl_gI f a0 6 6).bind fun v1 => (pl_is f a0 6).bind fun u3 => (fn_W_byteAt f a0 v1).bind fun v2 => if 247 < v2 then (pl_is f a0 6).bind fun u5 => (fn_W_byteAt f a0 (x1 - 1)).bind fun v4 => if v2 = 248 then fn_W_nodeEnd_60 f (x1 + v4) else (pl_is f a0 6).bind fun u7 => (fn_W_byteAt f a0 (x1 - 2)).bind fun v6 => fn_W_nodeEnd_60 f ((x1 + (256 * v6)) + v4) else some ((x1 + v2) - 192)
set_option maxHeartbeats 4000000 in
set_option maxRecDepth 100000 in
theorem tl_W_nodeEnd_60 {p : Program} {l : Launch} {e : Env} {s : State} {m : MethodId} {args : Array Value} {below : List Frame} {meth : Method} {c : Code} {D : va_G} {dA : Nat → ClassId} {tt : Nat → Nat} {b n : Nat} (C : pl_C p s m args meth c co_W_nodeEnd 4 rn_W (some .int) "nodeEnd" D dA tt b) {r : Int32} {f : pl_H} {sx0 : Int32} {H : Heap} {locs : List Loc} {ls : Array Slot} (hF : fn_W_nodeEnd_60 f sx0 = some r) (w : pl_wd D vwCl dA b n f H) (hS : va_S (pl_A b) s.heap H locs) (hl : lv_has ls 4 []) : W p l e rm_W_nodeEnd s m args below meth c H locs 0 0 (MQ below (pl_qI D dA tt b n f r) args s 0 0 (pl_A b)) (F0 m 60 ls [.int sx0]) := by
  have hx := C.1
  have hb := C.2.1
  have hown := C.2.2.2.2.1
  have hts := C.2.2.2.2.2.2.1
  unfold fn_W_nodeEnd_60 at hF
  exact pl_retI C w hS hF dc_W_nodeEnd_60
set_option maxHeartbeats 4000000 in
set_option maxRecDepth 100000 in
theorem tl_W_nodeEnd {p : Program} {l : Launch} {e : Env} {s : State} {m : MethodId} {args : Array Value} {below : List Frame} {meth : Method} {c : Code} {D : va_G} {dA : Nat → ClassId} {tt : Nat → Nat} {b n : Nat} (C : pl_C p s m args meth c co_W_nodeEnd 4 rn_W (some .int) "nodeEnd" D dA tt b) {r : Int32} {f : pl_H} {a0 : Nat} {x1 : Int32} {H : Heap} {locs : List Loc} {ls : Array Slot} (hF : fn_W_nodeEnd f a0 x1 = some r) (w : pl_wd D vwCl dA b n f H) (hS : va_S (pl_A b) s.heap H locs) (hl : lv_has ls 4 [(0, .ref a0), (1, .int x1)]) : W p l e rm_W_nodeEnd s m args below meth c H locs 0 0 (MQ below (pl_qI D dA tt b n f r) args s 0 0 (pl_A b)) (F0 m 0 ls []) := by
  have hx := C.1
  have hb := C.2.1
  have hown := C.2.2.2.2.1
  have hts := C.2.2.2.2.2.2.1
  unfold fn_W_nodeEnd at hF
  refine lv_aload_n hx hb dc_W_nodeEnd_0 rfl (lv_at hl 0 rfl) ?_
  refine lv_aload_n hx hb dc_W_nodeEnd_1 rfl (lv_at hl 0 rfl) ?_
  obtain ⟨v1, ev1, hF⟩ := pl_bd hF
  refine pl_getI C w (ci := 6) in_W rfl (by decide) 6 (by decide) mw_232 ev1 dc_W_nodeEnd_2 ?_
  obtain ⟨u3, eu3, hF⟩ := pl_bd hF
  obtain ⟨v2, ev2, hF⟩ := pl_bd hF
  refine pl_gi (pl_runV (Cn := rn_W) (k := 1) C (tm_W_byteAt l D dA tt b n ev2) w hS rfl rfl mw_634 mw_636 mw_22 mw_71 mw_637 (by decide +kernel) ⟨by decide, by decide⟩ eu3 rfl (by decide) rfl hl.1 (Nat.le_of_ble_eq_true rfl) ⟨Nat.zero_le _, Nat.zero_le _⟩ rfl dc_W_nodeEnd_5) hS (fun H locs w hS => ?_)
  refine lv_istore_n (lv' := [(2, .int v2), (0, .ref a0), (1, .int x1)]) hx hb dc_W_nodeEnd_8 rfl hl (by decide) rfl (fun ls hl => ?_)
  refine lv_iload_n hx hb dc_W_nodeEnd_9 rfl (lv_at hl 0 rfl) ?_
  refine lv_sipush (v := 247) hx hb dc_W_nodeEnd_10 (by decide) ?_
  refine lv_icmp_gt hx hb dc_W_nodeEnd_13 (tgt := 24) (by decide) (fun hc => ?_) (fun hc => ?_)
  · have hF := (if_pos hc).symm.trans hF
    refine lv_aload_n hx hb dc_W_nodeEnd_24 rfl (lv_at hl 1 rfl) ?_
    refine lv_iload_n hx hb dc_W_nodeEnd_25 rfl (lv_at hl 2 rfl) ?_
    refine lv_iconst (v := 1) hx hb dc_W_nodeEnd_26 (by decide) ?_
    refine lv_isub hx hb dc_W_nodeEnd_27 ?_
    obtain ⟨u5, eu5, hF⟩ := pl_bd hF
    obtain ⟨v4, ev4, hF⟩ := pl_bd hF
    refine pl_gi (pl_runV (Cn := rn_W) (k := 1) C (tm_W_byteAt l D dA tt b n ev4) w hS rfl rfl mw_634 mw_636 mw_22 mw_71 mw_637 (by decide +kernel) ⟨by decide, by decide⟩ eu5 rfl (by decide) rfl hl.1 (Nat.le_of_ble_eq_true rfl) ⟨Nat.zero_le _, Nat.zero_le _⟩ rfl dc_W_nodeEnd_28) hS (fun H locs w hS => ?_)
    refine lv_istore_n (lv' := [(3, .int v4), (2, .int v2), (0, .ref a0), (1, .int x1)]) hx hb dc_W_nodeEnd_31 rfl hl (by decide) rfl (fun ls hl => ?_)
    refine lv_iload_n hx hb dc_W_nodeEnd_32 rfl (lv_at hl 1 rfl) ?_
    refine lv_sipush (v := 248) hx hb dc_W_nodeEnd_33 (by decide) ?_
    refine lv_icmp_ne hx hb dc_W_nodeEnd_36 (tgt := 45) (by decide) (fun hc => ?_) (fun hc => ?_)
    · have hF := (if_neg hc).symm.trans hF
      refine lv_iload_n hx hb dc_W_nodeEnd_45 rfl (lv_at hl 3 rfl) ?_
      refine lv_sipush (v := 256) hx hb dc_W_nodeEnd_46 (by decide) ?_
      refine lv_aload_n hx hb dc_W_nodeEnd_49 rfl (lv_at hl 2 rfl) ?_
      refine lv_iload_n hx hb dc_W_nodeEnd_50 rfl (lv_at hl 3 rfl) ?_
      refine lv_iconst (v := 2) hx hb dc_W_nodeEnd_51 (by decide) ?_
      refine lv_isub hx hb dc_W_nodeEnd_52 ?_
      obtain ⟨u7, eu7, hF⟩ := pl_bd hF
      obtain ⟨v6, ev6, hF⟩ := pl_bd hF
      refine pl_gi (pl_runV (Cn := rn_W) (k := 1) C (tm_W_byteAt l D dA tt b n ev6) w hS rfl rfl mw_634 mw_636 mw_22 mw_71 mw_637 (by decide +kernel) ⟨by decide, by decide⟩ eu7 rfl (by decide) rfl hl.1 (Nat.le_of_ble_eq_true rfl) ⟨Nat.zero_le _, Nat.zero_le _⟩ rfl dc_W_nodeEnd_53) hS (fun H locs w hS => ?_)
      refine lv_imul hx hb dc_W_nodeEnd_56 ?_
      refine lv_iadd hx hb dc_W_nodeEnd_57 ?_
      refine lv_iload_n hx hb dc_W_nodeEnd_58 rfl (lv_at hl 0 rfl) ?_
      refine lv_iadd hx hb dc_W_nodeEnd_59 ?_
      exact tl_W_nodeEnd_60 C hF w hS (lv_sub hl [] rfl)
    · have hF := (if_pos hc).symm.trans hF
      refine lv_iload_n hx hb dc_W_nodeEnd_39 rfl (lv_at hl 3 rfl) ?_
      refine lv_iload_n hx hb dc_W_nodeEnd_40 rfl (lv_at hl 0 rfl) ?_
      refine lv_iadd hx hb dc_W_nodeEnd_41 ?_
      refine lv_goto hx hb dc_W_nodeEnd_42 (tgt := 60) (by decide) ?_
      exact tl_W_nodeEnd_60 C hF w hS (lv_sub hl [] rfl)
  · have hF := (if_neg hc).symm.trans hF
    refine lv_iload_n hx hb dc_W_nodeEnd_16 rfl (lv_at hl 2 rfl) ?_
    refine lv_iload_n hx hb dc_W_nodeEnd_17 rfl (lv_at hl 0 rfl) ?_
    refine lv_iadd hx hb dc_W_nodeEnd_18 ?_
    refine lv_sipush (v := 192) hx hb dc_W_nodeEnd_19 (by decide) ?_
    refine lv_isub hx hb dc_W_nodeEnd_22 ?_
    exact pl_retI C w hS hF dc_W_nodeEnd_23
set_option maxHeartbeats 4000000 in
set_option maxRecDepth 100000 in
theorem tm_W_nodeEnd (l : Launch) (D : va_G) (dA : Nat → ClassId) (tt : Nat → Nat) (b n : Nat) {f : pl_H} {a0 : Nat} {x1 : Int32} {r : Int32} (hF : fn_W_nodeEnd f a0 x1 = some r) : Met l my_W_nodeEnd (Cond.code my_W_nodeEnd co_W_nodeEnd 4 (some .int) :: pl_tb) rm_W_nodeEnd (va_Pc [.ref a0, .int x1] (pl_pre D dA tt b n f)) (pl_qI D dA tt b n f r) 0 0 (pl_A b) := by
  refine Met.ofW (cc := co_W_nodeEnd) (maxL := 4) (ret := (some .int)) (by decide) rfl ?_
  intro p e s m args below meth c s₁ B hml hv
  obtain ⟨rfl, w, hK⟩ := hv
  have C : pl_C p s m _ meth c co_W_nodeEnd 4 rn_W (some .int) "nodeEnd" D dA tt b := ⟨B.exec, B.bytes, hml, B.returns, findClass_of_methodNamed B.named, B.notSynchronized, fun w hw => atoms_spec (ws := Cond.code my_W_nodeEnd co_W_nodeEnd 4 (some .int) :: pl_tb) B.pre w (List.mem_cons_of_mem _ hw), (name_of_methodNamed B.named B.method).1, hK⟩
  have hl := lv_entry ([.ref a0, .int x1]) (n := 4) (Nat.le_of_ble_eq_true rfl)
  rw [lg_entry_eq]
  generalize (lg_sl ([.ref a0, .int x1]) ++ List.replicate (4 - (lg_sl ([.ref a0, .int x1])).length) Slot.unset).toArray = ls at hl ⊢
  have hl : lv_has ls 4 [(0, .ref a0), (1, .int x1)] := hl
  exact tl_W_nodeEnd C hF w va_S.rf hl
def rm_W_bytesBegin : Room := { frames := 1, cells := 0, slots := 0, locals := 21 }
def fn_W_bytesBegin_18 (f : pl_H) (sx0 : Int32) : Option (Int32) := some sx0
def fn_W_bytesBegin (f : pl_H) (a0 : Nat) (x1 : Int32) : Option (Int32) := (pl_is f a0 6).bind fun u2 => (fn_W_byteAt f a0 x1).bind fun v1 => if 128 ≤ v1 then fn_W_bytesBegin_18 f (x1 + 1) else fn_W_bytesBegin_18 f x1
set_option maxHeartbeats 4000000 in
set_option maxRecDepth 100000 in
theorem tl_W_bytesBegin_18 {p : Program} {l : Launch} {e : Env} {s : State} {m : MethodId} {args : Array Value} {below : List Frame} {meth : Method} {c : Code} {D : va_G} {dA : Nat → ClassId} {tt : Nat → Nat} {b n : Nat} (C : pl_C p s m args meth c co_W_bytesBegin 2 rn_W (some .int) "bytesBegin" D dA tt b) {r : Int32} {f : pl_H} {sx0 : Int32} {H : Heap} {locs : List Loc} {ls : Array Slot} (hF : fn_W_bytesBegin_18 f sx0 = some r) (w : pl_wd D vwCl dA b n f H) (hS : va_S (pl_A b) s.heap H locs) (hl : lv_has ls 2 []) : W p l e rm_W_bytesBegin s m args below meth c H locs 0 0 (MQ below (pl_qI D dA tt b n f r) args s 0 0 (pl_A b)) (F0 m 18 ls [.int sx0]) := by
  have hx := C.1
  have hb := C.2.1
  have hown := C.2.2.2.2.1
  have hts := C.2.2.2.2.2.2.1
  unfold fn_W_bytesBegin_18 at hF
  exact pl_retI C w hS hF dc_W_bytesBegin_18
set_option maxHeartbeats 4000000 in
set_option maxRecDepth 100000 in
theorem tl_W_bytesBegin {p : Program} {l : Launch} {e : Env} {s : State} {m : MethodId} {args : Array Value} {below : List Frame} {meth : Method} {c : Code} {D : va_G} {dA : Nat → ClassId} {tt : Nat → Nat} {b n : Nat} (C : pl_C p s m args meth c co_W_bytesBegin 2 rn_W (some .int) "bytesBegin" D dA tt b) {r : Int32} {f : pl_H} {a0 : Nat} {x1 : Int32} {H : Heap} {locs : List Loc} {ls : Array Slot} (hF : fn_W_bytesBegin f a0 x1 = some r) (w : pl_wd D vwCl dA b n f H) (hS : va_S (pl_A b) s.heap H locs) (hl : lv_has ls 2 [(0, .ref a0), (1, .int x1)]) : W p l e rm_W_bytesBegin s m args below meth c H locs 0 0 (MQ below (pl_qI D dA tt b n f r) args s 0 0 (pl_A b)) (F0 m 0 ls []) := by
  have hx := C.1
  have hb := C.2.1
  have hown := C.2.2.2.2.1
  have hts := C.2.2.2.2.2.2.1
  unfold fn_W_bytesBegin at hF
  refine lv_aload_n hx hb dc_W_bytesBegin_0 rfl (lv_at hl 0 rfl) ?_
  refine lv_iload_n hx hb dc_W_bytesBegin_1 rfl (lv_at hl 1 rfl) ?_
  obtain ⟨u2, eu2, hF⟩ := pl_bd hF
  obtain ⟨v1, ev1, hF⟩ := pl_bd hF
  refine pl_gi (pl_runV (Cn := rn_W) (k := 1) C (tm_W_byteAt l D dA tt b n ev1) w hS rfl rfl mw_634 mw_636 mw_22 mw_71 mw_637 (by decide +kernel) ⟨by decide, by decide⟩ eu2 rfl (by decide) rfl hl.1 (Nat.le_of_ble_eq_true rfl) ⟨Nat.zero_le _, Nat.zero_le _⟩ rfl dc_W_bytesBegin_2) hS (fun H locs w hS => ?_)
  refine lv_sipush (v := 128) hx hb dc_W_bytesBegin_5 (by decide) ?_
  refine lv_icmp_ge hx hb dc_W_bytesBegin_8 (tgt := 15) (by decide) (fun hc => ?_) (fun hc => ?_)
  · have hF := (if_pos hc).symm.trans hF
    refine lv_iload_n hx hb dc_W_bytesBegin_15 rfl (lv_at hl 1 rfl) ?_
    refine lv_iconst (v := 1) hx hb dc_W_bytesBegin_16 (by decide) ?_
    refine lv_iadd hx hb dc_W_bytesBegin_17 ?_
    exact tl_W_bytesBegin_18 C hF w hS (lv_sub hl [] rfl)
  · have hF := (if_neg hc).symm.trans hF
    refine lv_iload_n hx hb dc_W_bytesBegin_11 rfl (lv_at hl 1 rfl) ?_
    refine lv_goto hx hb dc_W_bytesBegin_12 (tgt := 18) (by decide) ?_
    exact tl_W_bytesBegin_18 C hF w hS (lv_sub hl [] rfl)
set_option maxHeartbeats 4000000 in
set_option maxRecDepth 100000 in
theorem tm_W_bytesBegin (l : Launch) (D : va_G) (dA : Nat → ClassId) (tt : Nat → Nat) (b n : Nat) {f : pl_H} {a0 : Nat} {x1 : Int32} {r : Int32} (hF : fn_W_bytesBegin f a0 x1 = some r) : Met l my_W_bytesBegin (Cond.code my_W_bytesBegin co_W_bytesBegin 2 (some .int) :: pl_tb) rm_W_bytesBegin (va_Pc [.ref a0, .int x1] (pl_pre D dA tt b n f)) (pl_qI D dA tt b n f r) 0 0 (pl_A b) := by
  refine Met.ofW (cc := co_W_bytesBegin) (maxL := 2) (ret := (some .int)) (by decide) rfl ?_
  intro p e s m args below meth c s₁ B hml hv
  obtain ⟨rfl, w, hK⟩ := hv
  have C : pl_C p s m _ meth c co_W_bytesBegin 2 rn_W (some .int) "bytesBegin" D dA tt b := ⟨B.exec, B.bytes, hml, B.returns, findClass_of_methodNamed B.named, B.notSynchronized, fun w hw => atoms_spec (ws := Cond.code my_W_bytesBegin co_W_bytesBegin 2 (some .int) :: pl_tb) B.pre w (List.mem_cons_of_mem _ hw), (name_of_methodNamed B.named B.method).1, hK⟩
  have hl := lv_entry ([.ref a0, .int x1]) (n := 2) (Nat.le_of_ble_eq_true rfl)
  rw [lg_entry_eq]
  generalize (lg_sl ([.ref a0, .int x1]) ++ List.replicate (2 - (lg_sl ([.ref a0, .int x1])).length) Slot.unset).toArray = ls at hl ⊢
  have hl : lv_has ls 2 [(0, .ref a0), (1, .int x1)] := hl
  exact tl_W_bytesBegin C hF w va_S.rf hl
def rm_W_haveDigits : Room := { frames := 1, cells := 0, slots := 0, locals := 21 }
def fn_W_haveDigits_47 (rc3 : pl_H → Nat → Int32 → Int32 → Int32 → Int32 → Option (Int32)) (f : pl_H) (a0 : Nat) (x1 : Int32) (x2 : Int32) (x3 : Int32) (x4 : Int32) (sx0 : Int32) : Option (Int32) := (pl_gI f a0 6 2).bind fun v1 => (pl_gI f a0 6 7).bind fun v2 => (fn_L_digit f v1 (v2 + x4)).bind fun v3 => if sx0 = v3 then rc3 f a0 x1 x2 x3 (x4 + 1) else pl_z 0
def fn_W_haveDigits_3 : Nat → pl_H → Nat → Int32 → Int32 → Int32 → Int32 → Option (Int32)
  | 0 => fun _ _ _ _ _ _ => none
  | k + 1 => fun f a0 x1 x2 x3 x4 => if x3 ≤ x4 then pl_z 1 else (pl_is f a0 6).bind fun u2 => (fn_W_byteAt f a0 (x1 + ((x2 + x4) / 2))).bind fun v1 => if ((x2 + x4) - (x2 + x4) / 2 * 2) = 0 then fn_W_haveDigits_47 (fn_W_haveDigits_3 k) f a0 x1 x2 x3 x4 (v1 / 16) else fn_W_haveDigits_47 (fn_W_haveDigits_3 k) f a0 x1 x2 x3 x4 (v1 - v1 / 16 * 16)
def fn_W_haveDigits (f : pl_H) (a0 : Nat) (x1 : Int32) (x2 : Int32) (x3 : Int32) : Option (Int32) := fn_W_haveDigits_3 pl_N f a0 x1 x2 x3 0
set_option maxHeartbeats 4000000 in
set_option maxRecDepth 100000 in
theorem tl_W_haveDigits_47 {p : Program} {l : Launch} {e : Env} {s : State} {m : MethodId} {args : Array Value} {below : List Frame} {meth : Method} {c : Code} {D : va_G} {dA : Nat → ClassId} {tt : Nat → Nat} {b n : Nat} (C : pl_C p s m args meth c co_W_haveDigits 8 rn_W (some .boolean) "haveDigits" D dA tt b) {r : Int32} {f : pl_H} {rc3 : pl_H → Nat → Int32 → Int32 → Int32 → Int32 → Option (Int32)} (hr3 : ∀ (a0 : Nat) (x1 : Int32) (x2 : Int32) (x3 : Int32) (x4 : Int32) (H : Heap) (locs : List Loc) (ls : Array Slot), rc3 f a0 x1 x2 x3 x4 = some r → pl_wd D vwCl dA b n f H → va_S (pl_A b) s.heap H locs → lv_has ls 8 [(0, .ref a0), (1, .int x1), (2, .int x2), (3, .int x3), (4, .int x4)] → W p l e rm_W_haveDigits s m args below meth c H locs 0 0 (MQ below (pl_qI D dA tt b n f r) args s 0 0 (pl_A b)) (F0 m 3 ls [])) {a0 : Nat} {x1 : Int32} {x2 : Int32} {x3 : Int32} {x4 : Int32} {sx0 : Int32} {H : Heap} {locs : List Loc} {ls : Array Slot} (hF : fn_W_haveDigits_47 rc3 f a0 x1 x2 x3 x4 sx0 = some r) (w : pl_wd D vwCl dA b n f H) (hS : va_S (pl_A b) s.heap H locs) (hl : lv_has ls 8 [(0, .ref a0), (1, .int x1), (2, .int x2), (3, .int x3), (4, .int x4)]) : W p l e rm_W_haveDigits s m args below meth c H locs 0 0 (MQ below (pl_qI D dA tt b n f r) args s 0 0 (pl_A b)) (F0 m 47 ls [.int sx0]) := by
  have hx := C.1
  have hb := C.2.1
  have hown := C.2.2.2.2.1
  have hts := C.2.2.2.2.2.2.1
  unfold fn_W_haveDigits_47 at hF
  refine lv_istore (lv' := [(7, .int sx0), (0, .ref a0), (1, .int x1), (2, .int x2), (3, .int x3), (4, .int x4)]) hx hb dc_W_haveDigits_47 hl (by decide) rfl (fun ls hl => ?_)
  refine lv_iload hx hb dc_W_haveDigits_49 (lv_at hl 0 rfl) ?_
  refine lv_aload_n hx hb dc_W_haveDigits_51 rfl (lv_at hl 1 rfl) ?_
  obtain ⟨v1, ev1, hF⟩ := pl_bd hF
  refine pl_getI C w (ci := 6) in_W rfl (by decide) 2 (by decide) mw_228 ev1 dc_W_haveDigits_52 ?_
  refine lv_aload_n hx hb dc_W_haveDigits_55 rfl (lv_at hl 1 rfl) ?_
  obtain ⟨v2, ev2, hF⟩ := pl_bd hF
  refine pl_getI C w (ci := 6) in_W rfl (by decide) 7 (by decide) mw_233 ev2 dc_W_haveDigits_56 ?_
  refine lv_iload hx hb dc_W_haveDigits_59 (lv_at hl 5 rfl) ?_
  refine lv_iadd hx hb dc_W_haveDigits_61 ?_
  obtain ⟨v3, ev3, hF⟩ := pl_bd hF
  refine pl_gi (pl_runSN (k := 2) C (tm_L_digit l D dA tt b n ev3) w hS rfl rfl C.2.2.2.2.2.2.2.2.2.2.2.2.2.2.2.2.1 mw_436 mw_64 mw_437 (by decide +kernel) ⟨by decide, by decide⟩ rfl hl.1 (Nat.le_of_ble_eq_true rfl) ⟨Nat.zero_le _, Nat.zero_le _⟩ rfl dc_W_haveDigits_62) hS (fun H locs w hS => ?_)
  refine lv_icmp_eq hx hb dc_W_haveDigits_65 (tgt := 70) (by decide) (fun hc => ?_) (fun hc => ?_)
  · have hF := (if_pos hc).symm.trans hF
    refine lv_iinc (k := 5) (v := x4 + 1) (lv' := [(4, .int (x4 + 1)), (7, .int sx0), (0, .ref a0), (1, .int x1), (2, .int x2), (3, .int x3)]) hx hb dc_W_haveDigits_70 hl rfl rfl (by decide) rfl (fun ls hl => ?_)
    refine lv_goto hx hb dc_W_haveDigits_73 (tgt := 3) (by decide) ?_
    exact hr3 a0 x1 x2 x3 (x4 + 1) _ _ _ hF w hS (lv_sub hl [2, 3, 4, 5, 0] rfl)
  · have hF := (if_neg hc).symm.trans hF
    refine lv_iconst (v := 0) hx hb dc_W_haveDigits_68 (by decide) ?_
    exact pl_retZ C w hS hF dc_W_haveDigits_69
set_option maxHeartbeats 4000000 in
set_option maxRecDepth 100000 in
theorem tl_W_haveDigits_3 {p : Program} {l : Launch} {e : Env} {s : State} {m : MethodId} {args : Array Value} {below : List Frame} {meth : Method} {c : Code} {D : va_G} {dA : Nat → ClassId} {tt : Nat → Nat} {b n : Nat} (C : pl_C p s m args meth c co_W_haveDigits 8 rn_W (some .boolean) "haveDigits" D dA tt b) {r : Int32} {f : pl_H} : ∀ k : Nat, ∀ (a0 : Nat) (x1 : Int32) (x2 : Int32) (x3 : Int32) (x4 : Int32) (H : Heap) (locs : List Loc) (ls : Array Slot), fn_W_haveDigits_3 k f a0 x1 x2 x3 x4 = some r → pl_wd D vwCl dA b n f H → va_S (pl_A b) s.heap H locs → lv_has ls 8 [(0, .ref a0), (1, .int x1), (2, .int x2), (3, .int x3), (4, .int x4)] → W p l e rm_W_haveDigits s m args below meth c H locs 0 0 (MQ below (pl_qI D dA tt b n f r) args s 0 0 (pl_A b)) (F0 m 3 ls []) := by
  have hx := C.1
  have hb := C.2.1
  have hown := C.2.2.2.2.1
  have hts := C.2.2.2.2.2.2.1
  intro k
  induction k with
  | zero =>
    intro a0 x1 x2 x3 x4 H locs ls hF
    cases hF
  | succ k ih =>
    intro a0 x1 x2 x3 x4 H locs ls hF w hS hl
    unfold fn_W_haveDigits_3 at hF
    refine lv_iload hx hb dc_W_haveDigits_3 (lv_at hl 4 rfl) ?_
    refine lv_iload_n hx hb dc_W_haveDigits_5 rfl (lv_at hl 3 rfl) ?_
    refine lv_icmp_ge hx hb dc_W_haveDigits_6 (tgt := 76) (by decide) (fun hc => ?_) (fun hc => ?_)
    · have hF := (if_pos hc).symm.trans hF
      refine lv_iconst (v := 1) hx hb dc_W_haveDigits_76 (by decide) ?_
      exact pl_retZ C w hS hF dc_W_haveDigits_77
    · have hF := (if_neg hc).symm.trans hF
      refine lv_iload_n hx hb dc_W_haveDigits_9 rfl (lv_at hl 2 rfl) ?_
      refine lv_iload hx hb dc_W_haveDigits_10 (lv_at hl 4 rfl) ?_
      refine lv_iadd hx hb dc_W_haveDigits_12 ?_
      refine lv_istore (lv' := [(5, .int (x2 + x4)), (0, .ref a0), (1, .int x1), (2, .int x2), (3, .int x3), (4, .int x4)]) hx hb dc_W_haveDigits_13 hl (by decide) rfl (fun ls hl => ?_)
      refine lv_aload_n hx hb dc_W_haveDigits_15 rfl (lv_at hl 1 rfl) ?_
      refine lv_iload_n hx hb dc_W_haveDigits_16 rfl (lv_at hl 2 rfl) ?_
      refine lv_iload hx hb dc_W_haveDigits_17 (lv_at hl 0 rfl) ?_
      refine lv_iconst (v := 2) hx hb dc_W_haveDigits_19 (by decide) ?_
      refine lv_idiv hx hb dc_W_haveDigits_20 (by decide) ?_
      refine lv_iadd hx hb dc_W_haveDigits_21 ?_
      obtain ⟨u2, eu2, hF⟩ := pl_bd hF
      obtain ⟨v1, ev1, hF⟩ := pl_bd hF
      refine pl_gi (pl_runV (Cn := rn_W) (k := 1) C (tm_W_byteAt l D dA tt b n ev1) w hS rfl rfl mw_634 mw_636 mw_22 mw_71 mw_637 (by decide +kernel) ⟨by decide, by decide⟩ eu2 rfl (by decide) rfl hl.1 (Nat.le_of_ble_eq_true rfl) ⟨Nat.zero_le _, Nat.zero_le _⟩ rfl dc_W_haveDigits_22) hS (fun H locs w hS => ?_)
      refine lv_istore (lv' := [(6, .int v1), (5, .int (x2 + x4)), (0, .ref a0), (1, .int x1), (2, .int x2), (3, .int x3), (4, .int x4)]) hx hb dc_W_haveDigits_25 hl (by decide) rfl (fun ls hl => ?_)
      refine lv_iload hx hb dc_W_haveDigits_27 (lv_at hl 1 rfl) ?_
      refine lv_iconst (v := 2) hx hb dc_W_haveDigits_29 (by decide) ?_
      refine lv_irem hx hb dc_W_haveDigits_30 (by decide) ?_
      refine lv_if_ne hx hb dc_W_haveDigits_31 (tgt := 42) (by decide) (fun hc => ?_) (fun hc => ?_)
      · have hF := (if_neg hc).symm.trans hF
        refine lv_iload hx hb dc_W_haveDigits_42 (lv_at hl 0 rfl) ?_
        refine lv_bipush (v := 16) hx hb dc_W_haveDigits_44 (by decide) ?_
        refine lv_irem hx hb dc_W_haveDigits_46 (by decide) ?_
        exact tl_W_haveDigits_47 C ih hF w hS (lv_sub hl [2, 3, 4, 5, 6] rfl)
      · have hF := (if_pos hc).symm.trans hF
        refine lv_iload hx hb dc_W_haveDigits_34 (lv_at hl 0 rfl) ?_
        refine lv_bipush (v := 16) hx hb dc_W_haveDigits_36 (by decide) ?_
        refine lv_idiv hx hb dc_W_haveDigits_38 (by decide) ?_
        refine lv_goto hx hb dc_W_haveDigits_39 (tgt := 47) (by decide) ?_
        exact tl_W_haveDigits_47 C ih hF w hS (lv_sub hl [2, 3, 4, 5, 6] rfl)
set_option maxHeartbeats 4000000 in
set_option maxRecDepth 100000 in
theorem tl_W_haveDigits {p : Program} {l : Launch} {e : Env} {s : State} {m : MethodId} {args : Array Value} {below : List Frame} {meth : Method} {c : Code} {D : va_G} {dA : Nat → ClassId} {tt : Nat → Nat} {b n : Nat} (C : pl_C p s m args meth c co_W_haveDigits 8 rn_W (some .boolean) "haveDigits" D dA tt b) {r : Int32} {f : pl_H} {a0 : Nat} {x1 : Int32} {x2 : Int32} {x3 : Int32} {H : Heap} {locs : List Loc} {ls : Array Slot} (hF : fn_W_haveDigits f a0 x1 x2 x3 = some r) (w : pl_wd D vwCl dA b n f H) (hS : va_S (pl_A b) s.heap H locs) (hl : lv_has ls 8 [(0, .ref a0), (1, .int x1), (2, .int x2), (3, .int x3)]) : W p l e rm_W_haveDigits s m args below meth c H locs 0 0 (MQ below (pl_qI D dA tt b n f r) args s 0 0 (pl_A b)) (F0 m 0 ls []) := by
  have hx := C.1
  have hb := C.2.1
  have hown := C.2.2.2.2.1
  have hts := C.2.2.2.2.2.2.1
  unfold fn_W_haveDigits at hF
  refine lv_iconst (v := 0) hx hb dc_W_haveDigits_0 (by decide) ?_
  refine lv_istore (lv' := [(4, .int 0), (0, .ref a0), (1, .int x1), (2, .int x2), (3, .int x3)]) hx hb dc_W_haveDigits_1 hl (by decide) rfl (fun ls hl => ?_)
  exact tl_W_haveDigits_3 C pl_N a0 x1 x2 x3 0 _ _ _ hF w hS (lv_sub hl [1, 2, 3, 4, 0] rfl)
set_option maxHeartbeats 4000000 in
set_option maxRecDepth 100000 in
theorem tm_W_haveDigits (l : Launch) (D : va_G) (dA : Nat → ClassId) (tt : Nat → Nat) (b n : Nat) {f : pl_H} {a0 : Nat} {x1 : Int32} {x2 : Int32} {x3 : Int32} {r : Int32} (hF : fn_W_haveDigits f a0 x1 x2 x3 = some r) : Met l my_W_haveDigits (Cond.code my_W_haveDigits co_W_haveDigits 8 (some .boolean) :: pl_tb) rm_W_haveDigits (va_Pc [.ref a0, .int x1, .int x2, .int x3] (pl_pre D dA tt b n f)) (pl_qI D dA tt b n f r) 0 0 (pl_A b) := by
  refine Met.ofW (cc := co_W_haveDigits) (maxL := 8) (ret := (some .boolean)) (by decide) rfl ?_
  intro p e s m args below meth c s₁ B hml hv
  obtain ⟨rfl, w, hK⟩ := hv
  have C : pl_C p s m _ meth c co_W_haveDigits 8 rn_W (some .boolean) "haveDigits" D dA tt b := ⟨B.exec, B.bytes, hml, B.returns, findClass_of_methodNamed B.named, B.notSynchronized, fun w hw => atoms_spec (ws := Cond.code my_W_haveDigits co_W_haveDigits 8 (some .boolean) :: pl_tb) B.pre w (List.mem_cons_of_mem _ hw), (name_of_methodNamed B.named B.method).1, hK⟩
  have hl := lv_entry ([.ref a0, .int x1, .int x2, .int x3]) (n := 8) (Nat.le_of_ble_eq_true rfl)
  rw [lg_entry_eq]
  generalize (lg_sl ([.ref a0, .int x1, .int x2, .int x3]) ++ List.replicate (8 - (lg_sl ([.ref a0, .int x1, .int x2, .int x3])).length) Slot.unset).toArray = ls at hl ⊢
  have hl : lv_has ls 8 [(0, .ref a0), (1, .int x1), (2, .int x2), (3, .int x3)] := hl
  exact tl_W_haveDigits C hF w va_S.rf hl
def rm_W_numberAt : Room := { frames := 2, cells := 0, slots := 0, locals := 42 }
def fn_W_numberAt_9 : Nat → pl_H → Nat → Int32 → Int64 → Int32 → Option (Int64)
  | 0 => fun _ _ _ _ _ => none
  | k + 1 => fun f a0 x2 y3 x5 => if x2 ≤ x5 then some y3 else (pl_is f a0 6).bind fun u2 => (fn_W_byteAt f a0 x5).bind fun v1 => fn_W_numberAt_9 k f a0 x2 ((y3 <<< ((8 : Int32).toInt64 &&& 63)) ||| ((v1 : Int32).toInt64)) (x5 + 1)
def fn_W_numberAt (f : pl_H) (a0 : Nat) (x1 : Int32) (x2 : Int32) : Option (Int64) := (pl_is f a0 6).bind fun u2 => (fn_W_bytesBegin f a0 x1).bind fun v1 => fn_W_numberAt_9 pl_N f a0 x2 0 v1
set_option maxHeartbeats 4000000 in
set_option maxRecDepth 100000 in
theorem tl_W_numberAt_9 {p : Program} {l : Launch} {e : Env} {s : State} {m : MethodId} {args : Array Value} {below : List Frame} {meth : Method} {c : Code} {D : va_G} {dA : Nat → ClassId} {tt : Nat → Nat} {b n : Nat} (C : pl_C p s m args meth c co_W_numberAt 6 rn_W (some .long) "numberAt" D dA tt b) {r : Int64} {f : pl_H} : ∀ k : Nat, ∀ (a0 : Nat) (x2 : Int32) (y3 : Int64) (x5 : Int32) (H : Heap) (locs : List Loc) (ls : Array Slot), fn_W_numberAt_9 k f a0 x2 y3 x5 = some r → pl_wd D vwCl dA b n f H → va_S (pl_A b) s.heap H locs → lv_has ls 6 [(0, .ref a0), (2, .int x2), (3, .long y3), (5, .int x5)] → W p l e rm_W_numberAt s m args below meth c H locs 0 0 (MQ below (pl_qL D dA tt b n f r) args s 0 0 (pl_A b)) (F0 m 9 ls []) := by
  have hx := C.1
  have hb := C.2.1
  have hown := C.2.2.2.2.1
  have hts := C.2.2.2.2.2.2.1
  intro k
  induction k with
  | zero =>
    intro a0 x2 y3 x5 H locs ls hF
    cases hF
  | succ k ih =>
    intro a0 x2 y3 x5 H locs ls hF w hS hl
    unfold fn_W_numberAt_9 at hF
    refine lv_iload hx hb dc_W_numberAt_9 (lv_at hl 3 rfl) ?_
    refine lv_iload_n hx hb dc_W_numberAt_11 rfl (lv_at hl 1 rfl) ?_
    refine lv_icmp_ge hx hb dc_W_numberAt_12 (tgt := 34) (by decide) (fun hc => ?_) (fun hc => ?_)
    · have hF := (if_pos hc).symm.trans hF
      refine lv_lload_n hx hb dc_W_numberAt_34 rfl (lv_at hl 2 rfl) ?_
      exact pl_retL C w hS hF dc_W_numberAt_35
    · have hF := (if_neg hc).symm.trans hF
      refine lv_lload_n hx hb dc_W_numberAt_15 rfl (lv_at hl 2 rfl) ?_
      refine lv_bipush (v := 8) hx hb dc_W_numberAt_16 (by decide) ?_
      refine lv_lshl hx hb dc_W_numberAt_18 rfl ?_
      refine lv_aload_n hx hb dc_W_numberAt_19 rfl (lv_at hl 0 rfl) ?_
      refine lv_iload hx hb dc_W_numberAt_20 (lv_at hl 3 rfl) ?_
      obtain ⟨u2, eu2, hF⟩ := pl_bd hF
      obtain ⟨v1, ev1, hF⟩ := pl_bd hF
      refine pl_gi (pl_runV (Cn := rn_W) (k := 1) C (tm_W_byteAt l D dA tt b n ev1) w hS rfl rfl mw_634 mw_636 mw_22 mw_71 mw_637 (by decide +kernel) ⟨by decide, by decide⟩ eu2 rfl (by decide) rfl hl.1 (Nat.le_of_ble_eq_true rfl) ⟨Nat.zero_le _, Nat.zero_le _⟩ rfl dc_W_numberAt_22) hS (fun H locs w hS => ?_)
      refine lv_i2l hx hb dc_W_numberAt_25 rfl ?_
      refine lv_lor hx hb dc_W_numberAt_26 ?_
      refine lv_lstore_n (lv' := [(3, .long ((y3 <<< ((8 : Int32).toInt64 &&& 63)) ||| ((v1 : Int32).toInt64))), (0, .ref a0), (2, .int x2), (5, .int x5)]) hx hb dc_W_numberAt_27 rfl hl (by decide) rfl (fun ls hl => ?_)
      refine lv_iinc (k := 3) (v := x5 + 1) (lv' := [(5, .int (x5 + 1)), (3, .long ((y3 <<< ((8 : Int32).toInt64 &&& 63)) ||| ((v1 : Int32).toInt64))), (0, .ref a0), (2, .int x2)]) hx hb dc_W_numberAt_28 hl rfl rfl (by decide) rfl (fun ls hl => ?_)
      refine lv_goto hx hb dc_W_numberAt_31 (tgt := 9) (by decide) ?_
      exact ih a0 x2 ((y3 <<< ((8 : Int32).toInt64 &&& 63)) ||| ((v1 : Int32).toInt64)) (x5 + 1) _ _ _ hF w hS (lv_sub hl [2, 3, 1, 0] rfl)
set_option maxHeartbeats 4000000 in
set_option maxRecDepth 100000 in
theorem tl_W_numberAt {p : Program} {l : Launch} {e : Env} {s : State} {m : MethodId} {args : Array Value} {below : List Frame} {meth : Method} {c : Code} {D : va_G} {dA : Nat → ClassId} {tt : Nat → Nat} {b n : Nat} (C : pl_C p s m args meth c co_W_numberAt 6 rn_W (some .long) "numberAt" D dA tt b) {r : Int64} {f : pl_H} {a0 : Nat} {x1 : Int32} {x2 : Int32} {H : Heap} {locs : List Loc} {ls : Array Slot} (hF : fn_W_numberAt f a0 x1 x2 = some r) (w : pl_wd D vwCl dA b n f H) (hS : va_S (pl_A b) s.heap H locs) (hl : lv_has ls 6 [(0, .ref a0), (1, .int x1), (2, .int x2)]) : W p l e rm_W_numberAt s m args below meth c H locs 0 0 (MQ below (pl_qL D dA tt b n f r) args s 0 0 (pl_A b)) (F0 m 0 ls []) := by
  have hx := C.1
  have hb := C.2.1
  have hown := C.2.2.2.2.1
  have hts := C.2.2.2.2.2.2.1
  unfold fn_W_numberAt at hF
  refine lv_lconst (v := 0) hx hb dc_W_numberAt_0 (by decide) ?_
  refine lv_lstore_n (lv' := [(3, .long 0), (0, .ref a0), (1, .int x1), (2, .int x2)]) hx hb dc_W_numberAt_1 rfl hl (by decide) rfl (fun ls hl => ?_)
  refine lv_aload_n hx hb dc_W_numberAt_2 rfl (lv_at hl 1 rfl) ?_
  refine lv_iload_n hx hb dc_W_numberAt_3 rfl (lv_at hl 2 rfl) ?_
  obtain ⟨u2, eu2, hF⟩ := pl_bd hF
  obtain ⟨v1, ev1, hF⟩ := pl_bd hF
  refine pl_gi (pl_runV (Cn := rn_W) (k := 1) C (tm_W_bytesBegin l D dA tt b n ev1) w hS rfl rfl mw_653 mw_655 mw_26 mw_71 mw_656 (by decide +kernel) ⟨by decide, by decide⟩ eu2 rfl (by decide) rfl hl.1 (Nat.le_of_ble_eq_true rfl) ⟨Nat.zero_le _, Nat.zero_le _⟩ rfl dc_W_numberAt_4) hS (fun H locs w hS => ?_)
  refine lv_istore (lv' := [(5, .int v1), (3, .long 0), (0, .ref a0), (1, .int x1), (2, .int x2)]) hx hb dc_W_numberAt_7 hl (by decide) rfl (fun ls hl => ?_)
  exact tl_W_numberAt_9 C pl_N a0 x2 0 v1 _ _ _ hF w hS (lv_sub hl [2, 4, 1, 0] rfl)
set_option maxHeartbeats 4000000 in
set_option maxRecDepth 100000 in
theorem tm_W_numberAt (l : Launch) (D : va_G) (dA : Nat → ClassId) (tt : Nat → Nat) (b n : Nat) {f : pl_H} {a0 : Nat} {x1 : Int32} {x2 : Int32} {r : Int64} (hF : fn_W_numberAt f a0 x1 x2 = some r) : Met l my_W_numberAt (Cond.code my_W_numberAt co_W_numberAt 6 (some .long) :: pl_tb) rm_W_numberAt (va_Pc [.ref a0, .int x1, .int x2] (pl_pre D dA tt b n f)) (pl_qL D dA tt b n f r) 0 0 (pl_A b) := by
  refine Met.ofW (cc := co_W_numberAt) (maxL := 6) (ret := (some .long)) (by decide) rfl ?_
  intro p e s m args below meth c s₁ B hml hv
  obtain ⟨rfl, w, hK⟩ := hv
  have C : pl_C p s m _ meth c co_W_numberAt 6 rn_W (some .long) "numberAt" D dA tt b := ⟨B.exec, B.bytes, hml, B.returns, findClass_of_methodNamed B.named, B.notSynchronized, fun w hw => atoms_spec (ws := Cond.code my_W_numberAt co_W_numberAt 6 (some .long) :: pl_tb) B.pre w (List.mem_cons_of_mem _ hw), (name_of_methodNamed B.named B.method).1, hK⟩
  have hl := lv_entry ([.ref a0, .int x1, .int x2]) (n := 6) (Nat.le_of_ble_eq_true rfl)
  rw [lg_entry_eq]
  generalize (lg_sl ([.ref a0, .int x1, .int x2]) ++ List.replicate (6 - (lg_sl ([.ref a0, .int x1, .int x2])).length) Slot.unset).toArray = ls at hl ⊢
  have hl : lv_has ls 6 [(0, .ref a0), (1, .int x1), (2, .int x2)] := hl
  exact tl_W_numberAt C hF w va_S.rf hl
def rm_W_findValue : Room := { frames := 3, cells := 0, slots := 0, locals := 67 }
def fn_W_findValue_62 (f : pl_H) (sy0 : Int64) (sa1 : Nat) : Option (pl_H) := (pl_pV f sa1 6 10 (.long sy0)).bind fun f1 => some f1
def fn_W_findValue_20 (f : pl_H) (a0 : Nat) (sx0 : Int32) : Option (pl_H) := (pl_is f a0 6).bind fun u2 => (fn_W_itemEnd f a0 sx0).bind fun v1 => (pl_pV f a0 6 8 (.int 1)).bind fun f3 => (pl_is f3 a0 6).bind fun u5 => (fn_W_numberAt f3 a0 sx0 v1).bind fun v4 => (pl_pV f3 a0 6 9 (.long v4)).bind fun f6 => if v1 = ((-1)) then fn_W_findValue_62 f6 0 a0 else (pl_is f6 a0 6).bind fun u8 => (fn_W_itemEnd f6 a0 v1).bind fun v7 => (pl_is f6 a0 6).bind fun u10 => (fn_W_numberAt f6 a0 v1 v7).bind fun v9 => fn_W_findValue_62 f6 v9 a0
def fn_W_findValue (f : pl_H) (a0 : Nat) (x1 : Int32) : Option (pl_H) := (pl_is f a0 6).bind fun u2 => (fn_W_byteAt f a0 x1).bind fun v1 => if 128 ≤ v1 then fn_W_findValue_20 f a0 (x1 + 2) else fn_W_findValue_20 f a0 (x1 + 1)
set_option maxHeartbeats 4000000 in
set_option maxRecDepth 100000 in
theorem tl_W_findValue_62 {p : Program} {l : Launch} {e : Env} {s : State} {m : MethodId} {args : Array Value} {below : List Frame} {meth : Method} {c : Code} {D : va_G} {dA : Nat → ClassId} {tt : Nat → Nat} {b n : Nat} (C : pl_C p s m args meth c co_W_findValue 4 rn_W none "findValue" D dA tt b) {f' : pl_H} {f : pl_H} {sy0 : Int64} {sa1 : Nat} {H : Heap} {locs : List Loc} {ls : Array Slot} (hF : fn_W_findValue_62 f sy0 sa1 = some f') (w : pl_wd D vwCl dA b n f H) (hS : va_S (pl_A b) s.heap H locs) (hl : lv_has ls 4 []) : W p l e rm_W_findValue s m args below meth c H locs 0 0 (MQ below (pl_qV D dA tt b n f') args s 0 0 (pl_A b)) (F0 m 62 ls [.long sy0, .ref sa1]) := by
  have hx := C.1
  have hb := C.2.1
  have hown := C.2.2.2.2.1
  have hts := C.2.2.2.2.2.2.1
  unfold fn_W_findValue_62 at hF
  obtain ⟨f1, ef1, hF⟩ := pl_bd hF
  refine pl_put C w hS (ci := 6) in_W rfl (by decide) rty_W_ok rnm_W 10 (by decide) mw_236 rfl rfl rfl ef1 dc_W_findValue_62 (fun H locs w hS => ?_)
  exact pl_retVw C w hS hF dc_W_findValue_65
set_option maxHeartbeats 4000000 in
set_option maxRecDepth 100000 in
theorem tl_W_findValue_20 {p : Program} {l : Launch} {e : Env} {s : State} {m : MethodId} {args : Array Value} {below : List Frame} {meth : Method} {c : Code} {D : va_G} {dA : Nat → ClassId} {tt : Nat → Nat} {b n : Nat} (C : pl_C p s m args meth c co_W_findValue 4 rn_W none "findValue" D dA tt b) {f' : pl_H} {f : pl_H} {a0 : Nat} {sx0 : Int32} {H : Heap} {locs : List Loc} {ls : Array Slot} (hF : fn_W_findValue_20 f a0 sx0 = some f') (w : pl_wd D vwCl dA b n f H) (hS : va_S (pl_A b) s.heap H locs) (hl : lv_has ls 4 [(0, .ref a0)]) : W p l e rm_W_findValue s m args below meth c H locs 0 0 (MQ below (pl_qV D dA tt b n f') args s 0 0 (pl_A b)) (F0 m 20 ls [.int sx0]) := by
  have hx := C.1
  have hb := C.2.1
  have hown := C.2.2.2.2.1
  have hts := C.2.2.2.2.2.2.1
  unfold fn_W_findValue_20 at hF
  refine lv_istore_n (lv' := [(2, .int sx0), (0, .ref a0)]) hx hb dc_W_findValue_20 rfl hl (by decide) rfl (fun ls hl => ?_)
  refine lv_aload_n hx hb dc_W_findValue_21 rfl (lv_at hl 1 rfl) ?_
  refine lv_iload_n hx hb dc_W_findValue_22 rfl (lv_at hl 0 rfl) ?_
  obtain ⟨u2, eu2, hF⟩ := pl_bd hF
  obtain ⟨v1, ev1, hF⟩ := pl_bd hF
  refine pl_gi (pl_runV (Cn := rn_W) (k := 1) C (tm_W_itemEnd l D dA tt b n ev1) w hS rfl rfl mw_641 mw_643 mw_23 mw_71 mw_644 (by decide +kernel) ⟨by decide, by decide⟩ eu2 rfl (by decide) rfl hl.1 (Nat.le_of_ble_eq_true rfl) ⟨Nat.zero_le _, Nat.zero_le _⟩ rfl dc_W_findValue_23) hS (fun H locs w hS => ?_)
  refine lv_istore_n (lv' := [(3, .int v1), (2, .int sx0), (0, .ref a0)]) hx hb dc_W_findValue_26 rfl hl (by decide) rfl (fun ls hl => ?_)
  refine lv_aload_n hx hb dc_W_findValue_27 rfl (lv_at hl 2 rfl) ?_
  refine lv_iconst (v := 1) hx hb dc_W_findValue_28 (by decide) ?_
  obtain ⟨f3, ef3, hF⟩ := pl_bd hF
  refine pl_put C w hS (ci := 6) in_W rfl (by decide) rty_W_ok rnm_W 8 (by decide) mw_234 rfl rfl rfl ef3 dc_W_findValue_29 (fun H locs w hS => ?_)
  refine lv_aload_n hx hb dc_W_findValue_32 rfl (lv_at hl 2 rfl) ?_
  refine lv_aload_n hx hb dc_W_findValue_33 rfl (lv_at hl 2 rfl) ?_
  refine lv_iload_n hx hb dc_W_findValue_34 rfl (lv_at hl 1 rfl) ?_
  refine lv_iload_n hx hb dc_W_findValue_35 rfl (lv_at hl 0 rfl) ?_
  obtain ⟨u5, eu5, hF⟩ := pl_bd hF
  obtain ⟨v4, ev4, hF⟩ := pl_bd hF
  refine pl_gl (pl_runV (Cn := rn_W) (k := 2) C (tm_W_numberAt l D dA tt b n ev4) w hS rfl rfl mw_666 mw_668 mw_29 mw_71 mw_669 (by decide +kernel) ⟨by decide, by decide⟩ eu5 rfl (by decide) rfl hl.1 (Nat.le_of_ble_eq_true rfl) ⟨Nat.zero_le _, Nat.zero_le _⟩ rfl dc_W_findValue_36) hS (fun H locs w hS => ?_)
  obtain ⟨f6, ef6, hF⟩ := pl_bd hF
  refine pl_put C w hS (ci := 6) in_W rfl (by decide) rty_W_ok rnm_W 9 (by decide) mw_235 rfl rfl rfl ef6 dc_W_findValue_39 (fun H locs w hS => ?_)
  refine lv_aload_n hx hb dc_W_findValue_42 rfl (lv_at hl 2 rfl) ?_
  refine lv_iload_n hx hb dc_W_findValue_43 rfl (lv_at hl 0 rfl) ?_
  refine lv_iconst (v := (-1)) hx hb dc_W_findValue_44 (by decide) ?_
  refine lv_icmp_ne hx hb dc_W_findValue_45 (tgt := 52) (by decide) (fun hc => ?_) (fun hc => ?_)
  · have hF := (if_neg hc).symm.trans hF
    refine lv_aload_n hx hb dc_W_findValue_52 rfl (lv_at hl 2 rfl) ?_
    refine lv_iload_n hx hb dc_W_findValue_53 rfl (lv_at hl 0 rfl) ?_
    refine lv_aload_n hx hb dc_W_findValue_54 rfl (lv_at hl 2 rfl) ?_
    refine lv_iload_n hx hb dc_W_findValue_55 rfl (lv_at hl 0 rfl) ?_
    obtain ⟨u8, eu8, hF⟩ := pl_bd hF
    obtain ⟨v7, ev7, hF⟩ := pl_bd hF
    refine pl_gi (pl_runV (Cn := rn_W) (k := 1) C (tm_W_itemEnd l D dA tt b n ev7) w hS rfl rfl mw_641 mw_643 mw_23 mw_71 mw_644 (by decide +kernel) ⟨by decide, by decide⟩ eu8 rfl (by decide) rfl hl.1 (Nat.le_of_ble_eq_true rfl) ⟨Nat.zero_le _, Nat.zero_le _⟩ rfl dc_W_findValue_56) hS (fun H locs w hS => ?_)
    obtain ⟨u10, eu10, hF⟩ := pl_bd hF
    obtain ⟨v9, ev9, hF⟩ := pl_bd hF
    refine pl_gl (pl_runV (Cn := rn_W) (k := 2) C (tm_W_numberAt l D dA tt b n ev9) w hS rfl rfl mw_666 mw_668 mw_29 mw_71 mw_669 (by decide +kernel) ⟨by decide, by decide⟩ eu10 rfl (by decide) rfl hl.1 (Nat.le_of_ble_eq_true rfl) ⟨Nat.zero_le _, Nat.zero_le _⟩ rfl dc_W_findValue_59) hS (fun H locs w hS => ?_)
    exact tl_W_findValue_62 C hF w hS (lv_sub hl [] rfl)
  · have hF := (if_pos hc).symm.trans hF
    refine lv_lconst (v := 0) hx hb dc_W_findValue_48 (by decide) ?_
    refine lv_goto hx hb dc_W_findValue_49 (tgt := 62) (by decide) ?_
    exact tl_W_findValue_62 C hF w hS (lv_sub hl [] rfl)
set_option maxHeartbeats 4000000 in
set_option maxRecDepth 100000 in
theorem tl_W_findValue {p : Program} {l : Launch} {e : Env} {s : State} {m : MethodId} {args : Array Value} {below : List Frame} {meth : Method} {c : Code} {D : va_G} {dA : Nat → ClassId} {tt : Nat → Nat} {b n : Nat} (C : pl_C p s m args meth c co_W_findValue 4 rn_W none "findValue" D dA tt b) {f' : pl_H} {f : pl_H} {a0 : Nat} {x1 : Int32} {H : Heap} {locs : List Loc} {ls : Array Slot} (hF : fn_W_findValue f a0 x1 = some f') (w : pl_wd D vwCl dA b n f H) (hS : va_S (pl_A b) s.heap H locs) (hl : lv_has ls 4 [(0, .ref a0), (1, .int x1)]) : W p l e rm_W_findValue s m args below meth c H locs 0 0 (MQ below (pl_qV D dA tt b n f') args s 0 0 (pl_A b)) (F0 m 0 ls []) := by
  have hx := C.1
  have hb := C.2.1
  have hown := C.2.2.2.2.1
  have hts := C.2.2.2.2.2.2.1
  unfold fn_W_findValue at hF
  refine lv_aload_n hx hb dc_W_findValue_0 rfl (lv_at hl 0 rfl) ?_
  refine lv_iload_n hx hb dc_W_findValue_1 rfl (lv_at hl 1 rfl) ?_
  obtain ⟨u2, eu2, hF⟩ := pl_bd hF
  obtain ⟨v1, ev1, hF⟩ := pl_bd hF
  refine pl_gi (pl_runV (Cn := rn_W) (k := 1) C (tm_W_byteAt l D dA tt b n ev1) w hS rfl rfl mw_634 mw_636 mw_22 mw_71 mw_637 (by decide +kernel) ⟨by decide, by decide⟩ eu2 rfl (by decide) rfl hl.1 (Nat.le_of_ble_eq_true rfl) ⟨Nat.zero_le _, Nat.zero_le _⟩ rfl dc_W_findValue_2) hS (fun H locs w hS => ?_)
  refine lv_sipush (v := 128) hx hb dc_W_findValue_5 (by decide) ?_
  refine lv_icmp_ge hx hb dc_W_findValue_8 (tgt := 17) (by decide) (fun hc => ?_) (fun hc => ?_)
  · have hF := (if_pos hc).symm.trans hF
    refine lv_iload_n hx hb dc_W_findValue_17 rfl (lv_at hl 1 rfl) ?_
    refine lv_iconst (v := 2) hx hb dc_W_findValue_18 (by decide) ?_
    refine lv_iadd hx hb dc_W_findValue_19 ?_
    exact tl_W_findValue_20 C hF w hS (lv_sub hl [0] rfl)
  · have hF := (if_neg hc).symm.trans hF
    refine lv_iload_n hx hb dc_W_findValue_11 rfl (lv_at hl 1 rfl) ?_
    refine lv_iconst (v := 1) hx hb dc_W_findValue_12 (by decide) ?_
    refine lv_iadd hx hb dc_W_findValue_13 ?_
    refine lv_goto hx hb dc_W_findValue_14 (tgt := 20) (by decide) ?_
    exact tl_W_findValue_20 C hF w hS (lv_sub hl [0] rfl)
set_option maxHeartbeats 4000000 in
set_option maxRecDepth 100000 in
theorem tm_W_findValue (l : Launch) (D : va_G) (dA : Nat → ClassId) (tt : Nat → Nat) (b n : Nat) {f : pl_H} {a0 : Nat} {x1 : Int32} {f' : pl_H} (hF : fn_W_findValue f a0 x1 = some f') : Met l my_W_findValue (Cond.code my_W_findValue co_W_findValue 4 none :: pl_tb) rm_W_findValue (va_Pc [.ref a0, .int x1] (pl_pre D dA tt b n f)) (pl_qV D dA tt b n f') 0 0 (pl_A b) := by
  refine Met.ofW (cc := co_W_findValue) (maxL := 4) (ret := none) (by decide) rfl ?_
  intro p e s m args below meth c s₁ B hml hv
  obtain ⟨rfl, w, hK⟩ := hv
  have C : pl_C p s m _ meth c co_W_findValue 4 rn_W none "findValue" D dA tt b := ⟨B.exec, B.bytes, hml, B.returns, findClass_of_methodNamed B.named, B.notSynchronized, fun w hw => atoms_spec (ws := Cond.code my_W_findValue co_W_findValue 4 none :: pl_tb) B.pre w (List.mem_cons_of_mem _ hw), (name_of_methodNamed B.named B.method).1, hK⟩
  have hl := lv_entry ([.ref a0, .int x1]) (n := 4) (Nat.le_of_ble_eq_true rfl)
  rw [lg_entry_eq]
  generalize (lg_sl ([.ref a0, .int x1]) ++ List.replicate (4 - (lg_sl ([.ref a0, .int x1])).length) Slot.unset).toArray = ls at hl ⊢
  have hl : lv_has ls 4 [(0, .ref a0), (1, .int x1)] := hl
  exact tl_W_findValue C hF w va_S.rf hl
def rm_W_passDigits : Room := { frames := 4, cells := 0, slots := 0, locals := 90 }
def fn_W_passDigits_105 (f : pl_H) : Option (Int32 × pl_H) := some ((-1), f)
def fn_W_passDigits_70 (f : pl_H) : Option (Int32 × pl_H) := some ((-1), f)
def fn_W_passDigits (f : pl_H) (a0 : Nat) (x1 : Int32) (x2 : Int32) : Option (Int32 × pl_H) := (pl_is f a0 6).bind fun u2 => (fn_W_bytesBegin f a0 x1).bind fun v1 => if (x2 - v1) = 0 then some ((-1), f) else (pl_is f a0 6).bind fun u4 => (fn_W_byteAt f a0 v1).bind fun v3 => (pl_gI f a0 6 7).bind fun v5 => if 4 < (v5 + (((2 * (x2 - v1)) - 2) + ((v3 / 16) - (v3 / 16) / 2 * 2))) then fn_W_passDigits_70 f else (pl_is f a0 6).bind fun u7 => (fn_W_haveDigits f a0 v1 (2 - ((v3 / 16) - (v3 / 16) / 2 * 2)) (((2 * (x2 - v1)) - 2) + ((v3 / 16) - (v3 / 16) / 2 * 2))).bind fun v6 => if v6 = 0 then fn_W_passDigits_70 f else (pl_gI f a0 6 7).bind fun v8 => (pl_pV f a0 6 7 (.int (v8 + (((2 * (x2 - v1)) - 2) + ((v3 / 16) - (v3 / 16) / 2 * 2))))).bind fun f9 => if ((v3 / 16) &&& 2) = 0 then some (x2, f9) else (pl_gI f9 a0 6 7).bind fun v10 => if v10 = 4 then (pl_is f9 a0 6).bind fun u12 => (fn_W_findValue f9 a0 x2).bind fun q11 => fn_W_passDigits_105 q11 else fn_W_passDigits_105 f9
set_option maxHeartbeats 4000000 in
set_option maxRecDepth 100000 in
theorem tl_W_passDigits_105 {p : Program} {l : Launch} {e : Env} {s : State} {m : MethodId} {args : Array Value} {below : List Frame} {meth : Method} {c : Code} {D : va_G} {dA : Nat → ClassId} {tt : Nat → Nat} {b n : Nat} (C : pl_C p s m args meth c co_W_passDigits 8 rn_W (some .int) "passDigits" D dA tt b) {r : Int32} {f' : pl_H} {f : pl_H} {H : Heap} {locs : List Loc} {ls : Array Slot} (hF : fn_W_passDigits_105 f = some (r, f')) (w : pl_wd D vwCl dA b n f H) (hS : va_S (pl_A b) s.heap H locs) (hl : lv_has ls 8 []) : W p l e rm_W_passDigits s m args below meth c H locs 0 0 (MQ below (pl_qI D dA tt b n f' r) args s 0 0 (pl_A b)) (F0 m 105 ls []) := by
  have hx := C.1
  have hb := C.2.1
  have hown := C.2.2.2.2.1
  have hts := C.2.2.2.2.2.2.1
  unfold fn_W_passDigits_105 at hF
  refine lv_iconst (v := (-1)) hx hb dc_W_passDigits_105 (by decide) ?_
  exact pl_retIw C w hS hF dc_W_passDigits_106
set_option maxHeartbeats 4000000 in
set_option maxRecDepth 100000 in
theorem tl_W_passDigits_70 {p : Program} {l : Launch} {e : Env} {s : State} {m : MethodId} {args : Array Value} {below : List Frame} {meth : Method} {c : Code} {D : va_G} {dA : Nat → ClassId} {tt : Nat → Nat} {b n : Nat} (C : pl_C p s m args meth c co_W_passDigits 8 rn_W (some .int) "passDigits" D dA tt b) {r : Int32} {f' : pl_H} {f : pl_H} {H : Heap} {locs : List Loc} {ls : Array Slot} (hF : fn_W_passDigits_70 f = some (r, f')) (w : pl_wd D vwCl dA b n f H) (hS : va_S (pl_A b) s.heap H locs) (hl : lv_has ls 8 []) : W p l e rm_W_passDigits s m args below meth c H locs 0 0 (MQ below (pl_qI D dA tt b n f' r) args s 0 0 (pl_A b)) (F0 m 70 ls []) := by
  have hx := C.1
  have hb := C.2.1
  have hown := C.2.2.2.2.1
  have hts := C.2.2.2.2.2.2.1
  unfold fn_W_passDigits_70 at hF
  refine lv_iconst (v := (-1)) hx hb dc_W_passDigits_70 (by decide) ?_
  exact pl_retIw C w hS hF dc_W_passDigits_71
set_option maxHeartbeats 4000000 in
set_option maxRecDepth 100000 in
theorem tl_W_passDigits {p : Program} {l : Launch} {e : Env} {s : State} {m : MethodId} {args : Array Value} {below : List Frame} {meth : Method} {c : Code} {D : va_G} {dA : Nat → ClassId} {tt : Nat → Nat} {b n : Nat} (C : pl_C p s m args meth c co_W_passDigits 8 rn_W (some .int) "passDigits" D dA tt b) {r : Int32} {f' : pl_H} {f : pl_H} {a0 : Nat} {x1 : Int32} {x2 : Int32} {H : Heap} {locs : List Loc} {ls : Array Slot} (hF : fn_W_passDigits f a0 x1 x2 = some (r, f')) (w : pl_wd D vwCl dA b n f H) (hS : va_S (pl_A b) s.heap H locs) (hl : lv_has ls 8 [(0, .ref a0), (1, .int x1), (2, .int x2)]) : W p l e rm_W_passDigits s m args below meth c H locs 0 0 (MQ below (pl_qI D dA tt b n f' r) args s 0 0 (pl_A b)) (F0 m 0 ls []) := by
  have hx := C.1
  have hb := C.2.1
  have hown := C.2.2.2.2.1
  have hts := C.2.2.2.2.2.2.1
  unfold fn_W_passDigits at hF
  refine lv_aload_n hx hb dc_W_passDigits_0 rfl (lv_at hl 0 rfl) ?_
  refine lv_iload_n hx hb dc_W_passDigits_1 rfl (lv_at hl 1 rfl) ?_
  obtain ⟨u2, eu2, hF⟩ := pl_bd hF
  obtain ⟨v1, ev1, hF⟩ := pl_bd hF
  refine pl_gi (pl_runV (Cn := rn_W) (k := 1) C (tm_W_bytesBegin l D dA tt b n ev1) w hS rfl rfl mw_653 mw_655 mw_26 mw_71 mw_656 (by decide +kernel) ⟨by decide, by decide⟩ eu2 rfl (by decide) rfl hl.1 (Nat.le_of_ble_eq_true rfl) ⟨Nat.zero_le _, Nat.zero_le _⟩ rfl dc_W_passDigits_2) hS (fun H locs w hS => ?_)
  refine lv_istore_n (lv' := [(3, .int v1), (0, .ref a0), (1, .int x1), (2, .int x2)]) hx hb dc_W_passDigits_5 rfl hl (by decide) rfl (fun ls hl => ?_)
  refine lv_iload_n hx hb dc_W_passDigits_6 rfl (lv_at hl 3 rfl) ?_
  refine lv_iload_n hx hb dc_W_passDigits_7 rfl (lv_at hl 0 rfl) ?_
  refine lv_isub hx hb dc_W_passDigits_8 ?_
  refine lv_istore (lv' := [(4, .int (x2 - v1)), (3, .int v1), (0, .ref a0), (1, .int x1), (2, .int x2)]) hx hb dc_W_passDigits_9 hl (by decide) rfl (fun ls hl => ?_)
  refine lv_iload hx hb dc_W_passDigits_11 (lv_at hl 0 rfl) ?_
  refine lv_if_ne hx hb dc_W_passDigits_13 (tgt := 18) (by decide) (fun hc => ?_) (fun hc => ?_)
  · have hF := (if_neg hc).symm.trans hF
    refine lv_aload_n hx hb dc_W_passDigits_18 rfl (lv_at hl 2 rfl) ?_
    refine lv_iload_n hx hb dc_W_passDigits_19 rfl (lv_at hl 1 rfl) ?_
    obtain ⟨u4, eu4, hF⟩ := pl_bd hF
    obtain ⟨v3, ev3, hF⟩ := pl_bd hF
    refine pl_gi (pl_runV (Cn := rn_W) (k := 1) C (tm_W_byteAt l D dA tt b n ev3) w hS rfl rfl mw_634 mw_636 mw_22 mw_71 mw_637 (by decide +kernel) ⟨by decide, by decide⟩ eu4 rfl (by decide) rfl hl.1 (Nat.le_of_ble_eq_true rfl) ⟨Nat.zero_le _, Nat.zero_le _⟩ rfl dc_W_passDigits_20) hS (fun H locs w hS => ?_)
    refine lv_bipush (v := 16) hx hb dc_W_passDigits_23 (by decide) ?_
    refine lv_idiv hx hb dc_W_passDigits_25 (by decide) ?_
    refine lv_istore (lv' := [(5, .int (v3 / 16)), (4, .int (x2 - v1)), (3, .int v1), (0, .ref a0), (1, .int x1), (2, .int x2)]) hx hb dc_W_passDigits_26 hl (by decide) rfl (fun ls hl => ?_)
    refine lv_iload hx hb dc_W_passDigits_28 (lv_at hl 0 rfl) ?_
    refine lv_iconst (v := 2) hx hb dc_W_passDigits_30 (by decide) ?_
    refine lv_irem hx hb dc_W_passDigits_31 (by decide) ?_
    refine lv_istore (lv' := [(6, .int ((v3 / 16) - (v3 / 16) / 2 * 2)), (5, .int (v3 / 16)), (4, .int (x2 - v1)), (3, .int v1), (0, .ref a0), (1, .int x1), (2, .int x2)]) hx hb dc_W_passDigits_32 hl (by decide) rfl (fun ls hl => ?_)
    refine lv_iconst (v := 2) hx hb dc_W_passDigits_34 (by decide) ?_
    refine lv_iload hx hb dc_W_passDigits_35 (lv_at hl 2 rfl) ?_
    refine lv_imul hx hb dc_W_passDigits_37 ?_
    refine lv_iconst (v := 2) hx hb dc_W_passDigits_38 (by decide) ?_
    refine lv_isub hx hb dc_W_passDigits_39 ?_
    refine lv_iload hx hb dc_W_passDigits_40 (lv_at hl 0 rfl) ?_
    refine lv_iadd hx hb dc_W_passDigits_42 ?_
    refine lv_istore (lv' := [(7, .int (((2 * (x2 - v1)) - 2) + ((v3 / 16) - (v3 / 16) / 2 * 2))), (6, .int ((v3 / 16) - (v3 / 16) / 2 * 2)), (5, .int (v3 / 16)), (4, .int (x2 - v1)), (3, .int v1), (0, .ref a0), (1, .int x1), (2, .int x2)]) hx hb dc_W_passDigits_43 hl (by decide) rfl (fun ls hl => ?_)
    refine lv_aload_n hx hb dc_W_passDigits_45 rfl (lv_at hl 5 rfl) ?_
    obtain ⟨v5, ev5, hF⟩ := pl_bd hF
    refine pl_getI C w (ci := 6) in_W rfl (by decide) 7 (by decide) mw_233 ev5 dc_W_passDigits_46 ?_
    refine lv_iload hx hb dc_W_passDigits_49 (lv_at hl 0 rfl) ?_
    refine lv_iadd hx hb dc_W_passDigits_51 ?_
    refine lv_iconst (v := 4) hx hb dc_W_passDigits_52 (by decide) ?_
    refine lv_icmp_gt hx hb dc_W_passDigits_53 (tgt := 70) (by decide) (fun hc => ?_) (fun hc => ?_)
    · have hF := (if_pos hc).symm.trans hF
      exact tl_W_passDigits_70 C hF w hS (lv_sub hl [] rfl)
    · have hF := (if_neg hc).symm.trans hF
      refine lv_aload_n hx hb dc_W_passDigits_56 rfl (lv_at hl 5 rfl) ?_
      refine lv_iload_n hx hb dc_W_passDigits_57 rfl (lv_at hl 4 rfl) ?_
      refine lv_iconst (v := 2) hx hb dc_W_passDigits_58 (by decide) ?_
      refine lv_iload hx hb dc_W_passDigits_59 (lv_at hl 1 rfl) ?_
      refine lv_isub hx hb dc_W_passDigits_61 ?_
      refine lv_iload hx hb dc_W_passDigits_62 (lv_at hl 0 rfl) ?_
      obtain ⟨u7, eu7, hF⟩ := pl_bd hF
      obtain ⟨v6, ev6, hF⟩ := pl_bd hF
      refine pl_gi (pl_runV (Cn := rn_W) (k := 3) C (tm_W_haveDigits l D dA tt b n ev6) w hS rfl rfl mw_657 mw_659 mw_27 mw_71 mw_660 (by decide +kernel) ⟨by decide, by decide⟩ eu7 rfl (by decide) rfl hl.1 (Nat.le_of_ble_eq_true rfl) ⟨Nat.zero_le _, Nat.zero_le _⟩ rfl dc_W_passDigits_64) hS (fun H locs w hS => ?_)
      refine lv_if_ne hx hb dc_W_passDigits_67 (tgt := 72) (by decide) (fun hc => ?_) (fun hc => ?_)
      · have hF := (if_neg hc).symm.trans hF
        refine lv_aload_n hx hb dc_W_passDigits_72 rfl (lv_at hl 5 rfl) ?_
        refine lv_dup hx hb dc_W_passDigits_73 rfl ?_
        obtain ⟨v8, ev8, hF⟩ := pl_bd hF
        refine pl_getI C w (ci := 6) in_W rfl (by decide) 7 (by decide) mw_233 ev8 dc_W_passDigits_74 ?_
        refine lv_iload hx hb dc_W_passDigits_77 (lv_at hl 0 rfl) ?_
        refine lv_iadd hx hb dc_W_passDigits_79 ?_
        obtain ⟨f9, ef9, hF⟩ := pl_bd hF
        refine pl_put C w hS (ci := 6) in_W rfl (by decide) rty_W_ok rnm_W 7 (by decide) mw_233 rfl rfl rfl ef9 dc_W_passDigits_80 (fun H locs w hS => ?_)
        refine lv_iload hx hb dc_W_passDigits_83 (lv_at hl 2 rfl) ?_
        refine lv_iconst (v := 2) hx hb dc_W_passDigits_85 (by decide) ?_
        refine lv_iand hx hb dc_W_passDigits_86 ?_
        refine lv_if_ne hx hb dc_W_passDigits_87 (tgt := 92) (by decide) (fun hc => ?_) (fun hc => ?_)
        · have hF := (if_neg hc).symm.trans hF
          refine lv_aload_n hx hb dc_W_passDigits_92 rfl (lv_at hl 5 rfl) ?_
          obtain ⟨v10, ev10, hF⟩ := pl_bd hF
          refine pl_getI C w (ci := 6) in_W rfl (by decide) 7 (by decide) mw_233 ev10 dc_W_passDigits_93 ?_
          refine lv_iconst (v := 4) hx hb dc_W_passDigits_96 (by decide) ?_
          refine lv_icmp_ne hx hb dc_W_passDigits_97 (tgt := 105) (by decide) (fun hc => ?_) (fun hc => ?_)
          · have hF := (if_neg hc).symm.trans hF
            exact tl_W_passDigits_105 C hF w hS (lv_sub hl [] rfl)
          · have hF := (if_pos hc).symm.trans hF
            refine lv_aload_n hx hb dc_W_passDigits_100 rfl (lv_at hl 5 rfl) ?_
            refine lv_iload_n hx hb dc_W_passDigits_101 rfl (lv_at hl 7 rfl) ?_
            obtain ⟨u12, eu12, hF⟩ := pl_bd hF
            obtain ⟨q11, eq11, hF⟩ := pl_bd hF
            refine pl_gv (pl_runV (Cn := rn_W) (k := 1) C (tm_W_findValue l D dA tt b n eq11) w hS rfl rfl mw_662 mw_664 mw_28 mw_71 mw_665 (by decide +kernel) ⟨by decide, by decide⟩ eu12 rfl (by decide) rfl hl.1 (Nat.le_of_ble_eq_true rfl) ⟨Nat.zero_le _, Nat.zero_le _⟩ rfl dc_W_passDigits_102) hS (fun H locs w hS => ?_)
            exact tl_W_passDigits_105 C hF w hS (lv_sub hl [] rfl)
        · have hF := (if_pos hc).symm.trans hF
          refine lv_iload_n hx hb dc_W_passDigits_90 rfl (lv_at hl 7 rfl) ?_
          exact pl_retIw C w hS hF dc_W_passDigits_91
      · have hF := (if_pos hc).symm.trans hF
        exact tl_W_passDigits_70 C hF w hS (lv_sub hl [] rfl)
  · have hF := (if_pos hc).symm.trans hF
    refine lv_iconst (v := (-1)) hx hb dc_W_passDigits_16 (by decide) ?_
    exact pl_retIw C w hS hF dc_W_passDigits_17
set_option maxHeartbeats 4000000 in
set_option maxRecDepth 100000 in
theorem tm_W_passDigits (l : Launch) (D : va_G) (dA : Nat → ClassId) (tt : Nat → Nat) (b n : Nat) {f : pl_H} {a0 : Nat} {x1 : Int32} {x2 : Int32} {r : Int32} {f' : pl_H} (hF : fn_W_passDigits f a0 x1 x2 = some (r, f')) : Met l my_W_passDigits (Cond.code my_W_passDigits co_W_passDigits 8 (some .int) :: pl_tb) rm_W_passDigits (va_Pc [.ref a0, .int x1, .int x2] (pl_pre D dA tt b n f)) (pl_qI D dA tt b n f' r) 0 0 (pl_A b) := by
  refine Met.ofW (cc := co_W_passDigits) (maxL := 8) (ret := (some .int)) (by decide) rfl ?_
  intro p e s m args below meth c s₁ B hml hv
  obtain ⟨rfl, w, hK⟩ := hv
  have C : pl_C p s m _ meth c co_W_passDigits 8 rn_W (some .int) "passDigits" D dA tt b := ⟨B.exec, B.bytes, hml, B.returns, findClass_of_methodNamed B.named, B.notSynchronized, fun w hw => atoms_spec (ws := Cond.code my_W_passDigits co_W_passDigits 8 (some .int) :: pl_tb) B.pre w (List.mem_cons_of_mem _ hw), (name_of_methodNamed B.named B.method).1, hK⟩
  have hl := lv_entry ([.ref a0, .int x1, .int x2]) (n := 8) (Nat.le_of_ble_eq_true rfl)
  rw [lg_entry_eq]
  generalize (lg_sl ([.ref a0, .int x1, .int x2]) ++ List.replicate (8 - (lg_sl ([.ref a0, .int x1, .int x2])).length) Slot.unset).toArray = ls at hl ⊢
  have hl : lv_has ls 8 [(0, .ref a0), (1, .int x1), (2, .int x2)] := hl
  exact tl_W_passDigits C hF w va_S.rf hl
def rm_W_passFork : Room := { frames := 2, cells := 0, slots := 0, locals := 43 }
def fn_W_passFork_50 (f : pl_H) (a0 : Nat) (x2 : Int32) : Option (Int32 × pl_H) := (pl_gI f a0 6 7).bind fun v1 => (pl_pV f a0 6 7 (.int (v1 + 1))).bind fun f2 => some (x2, f2)
def fn_W_passFork_27 : Nat → pl_H → Nat → Int32 → Int32 → Int32 → Option (Int32 × pl_H)
  | 0 => fun _ _ _ _ _ => none
  | k + 1 => fun f a0 x2 x3 x4 => if x3 ≤ x4 then fn_W_passFork_50 f a0 x2 else if x2 = ((-1)) then fn_W_passFork_50 f a0 x2 else (pl_is f a0 6).bind fun u2 => (fn_W_itemEnd f a0 x2).bind fun v1 => fn_W_passFork_27 k f a0 v1 x3 (x4 + 1)
def fn_W_passFork (f : pl_H) (a0 : Nat) (x1 : Int32) : Option (Int32 × pl_H) := (pl_gI f a0 6 7).bind fun v1 => if v1 < 4 then (pl_gI f a0 6 2).bind fun v2 => (pl_gI f a0 6 7).bind fun v3 => (fn_L_digit f v2 v3).bind fun v4 => fn_W_passFork_27 pl_N f a0 x1 v4 0 else some ((-1), f)
set_option maxHeartbeats 4000000 in
set_option maxRecDepth 100000 in
theorem tl_W_passFork_50 {p : Program} {l : Launch} {e : Env} {s : State} {m : MethodId} {args : Array Value} {below : List Frame} {meth : Method} {c : Code} {D : va_G} {dA : Nat → ClassId} {tt : Nat → Nat} {b n : Nat} (C : pl_C p s m args meth c co_W_passFork 5 rn_W (some .int) "passFork" D dA tt b) {r : Int32} {f' : pl_H} {f : pl_H} {a0 : Nat} {x2 : Int32} {H : Heap} {locs : List Loc} {ls : Array Slot} (hF : fn_W_passFork_50 f a0 x2 = some (r, f')) (w : pl_wd D vwCl dA b n f H) (hS : va_S (pl_A b) s.heap H locs) (hl : lv_has ls 5 [(0, .ref a0), (2, .int x2)]) : W p l e rm_W_passFork s m args below meth c H locs 0 0 (MQ below (pl_qI D dA tt b n f' r) args s 0 0 (pl_A b)) (F0 m 50 ls []) := by
  have hx := C.1
  have hb := C.2.1
  have hown := C.2.2.2.2.1
  have hts := C.2.2.2.2.2.2.1
  unfold fn_W_passFork_50 at hF
  refine lv_aload_n hx hb dc_W_passFork_50 rfl (lv_at hl 0 rfl) ?_
  refine lv_dup hx hb dc_W_passFork_51 rfl ?_
  obtain ⟨v1, ev1, hF⟩ := pl_bd hF
  refine pl_getI C w (ci := 6) in_W rfl (by decide) 7 (by decide) mw_233 ev1 dc_W_passFork_52 ?_
  refine lv_iconst (v := 1) hx hb dc_W_passFork_55 (by decide) ?_
  refine lv_iadd hx hb dc_W_passFork_56 ?_
  obtain ⟨f2, ef2, hF⟩ := pl_bd hF
  refine pl_put C w hS (ci := 6) in_W rfl (by decide) rty_W_ok rnm_W 7 (by decide) mw_233 rfl rfl rfl ef2 dc_W_passFork_57 (fun H locs w hS => ?_)
  refine lv_iload_n hx hb dc_W_passFork_60 rfl (lv_at hl 1 rfl) ?_
  exact pl_retIw C w hS hF dc_W_passFork_61
set_option maxHeartbeats 4000000 in
set_option maxRecDepth 100000 in
theorem tl_W_passFork_27 {p : Program} {l : Launch} {e : Env} {s : State} {m : MethodId} {args : Array Value} {below : List Frame} {meth : Method} {c : Code} {D : va_G} {dA : Nat → ClassId} {tt : Nat → Nat} {b n : Nat} (C : pl_C p s m args meth c co_W_passFork 5 rn_W (some .int) "passFork" D dA tt b) {r : Int32} {f' : pl_H} : ∀ k : Nat, ∀ (f : pl_H) (a0 : Nat) (x2 : Int32) (x3 : Int32) (x4 : Int32) (H : Heap) (locs : List Loc) (ls : Array Slot), fn_W_passFork_27 k f a0 x2 x3 x4 = some (r, f') → pl_wd D vwCl dA b n f H → va_S (pl_A b) s.heap H locs → lv_has ls 5 [(0, .ref a0), (2, .int x2), (3, .int x3), (4, .int x4)] → W p l e rm_W_passFork s m args below meth c H locs 0 0 (MQ below (pl_qI D dA tt b n f' r) args s 0 0 (pl_A b)) (F0 m 27 ls []) := by
  have hx := C.1
  have hb := C.2.1
  have hown := C.2.2.2.2.1
  have hts := C.2.2.2.2.2.2.1
  intro k
  induction k with
  | zero =>
    intro f a0 x2 x3 x4 H locs ls hF
    cases hF
  | succ k ih =>
    intro f a0 x2 x3 x4 H locs ls hF w hS hl
    unfold fn_W_passFork_27 at hF
    refine lv_iload hx hb dc_W_passFork_27 (lv_at hl 3 rfl) ?_
    refine lv_iload_n hx hb dc_W_passFork_29 rfl (lv_at hl 2 rfl) ?_
    refine lv_icmp_ge hx hb dc_W_passFork_30 (tgt := 50) (by decide) (fun hc => ?_) (fun hc => ?_)
    · have hF := (if_pos hc).symm.trans hF
      exact tl_W_passFork_50 C hF w hS (lv_sub hl [0, 1] rfl)
    · have hF := (if_neg hc).symm.trans hF
      refine lv_iload_n hx hb dc_W_passFork_33 rfl (lv_at hl 1 rfl) ?_
      refine lv_iconst (v := (-1)) hx hb dc_W_passFork_34 (by decide) ?_
      refine lv_icmp_eq hx hb dc_W_passFork_35 (tgt := 50) (by decide) (fun hc => ?_) (fun hc => ?_)
      · have hF := (if_pos hc).symm.trans hF
        exact tl_W_passFork_50 C hF w hS (lv_sub hl [0, 1] rfl)
      · have hF := (if_neg hc).symm.trans hF
        refine lv_aload_n hx hb dc_W_passFork_38 rfl (lv_at hl 0 rfl) ?_
        refine lv_iload_n hx hb dc_W_passFork_39 rfl (lv_at hl 1 rfl) ?_
        obtain ⟨u2, eu2, hF⟩ := pl_bd hF
        obtain ⟨v1, ev1, hF⟩ := pl_bd hF
        refine pl_gi (pl_runV (Cn := rn_W) (k := 1) C (tm_W_itemEnd l D dA tt b n ev1) w hS rfl rfl mw_641 mw_643 mw_23 mw_71 mw_644 (by decide +kernel) ⟨by decide, by decide⟩ eu2 rfl (by decide) rfl hl.1 (Nat.le_of_ble_eq_true rfl) ⟨Nat.zero_le _, Nat.zero_le _⟩ rfl dc_W_passFork_40) hS (fun H locs w hS => ?_)
        refine lv_istore_n (lv' := [(2, .int v1), (0, .ref a0), (3, .int x3), (4, .int x4)]) hx hb dc_W_passFork_43 rfl hl (by decide) rfl (fun ls hl => ?_)
        refine lv_iinc (k := 3) (v := x4 + 1) (lv' := [(4, .int (x4 + 1)), (2, .int v1), (0, .ref a0), (3, .int x3)]) hx hb dc_W_passFork_44 hl rfl rfl (by decide) rfl (fun ls hl => ?_)
        refine lv_goto hx hb dc_W_passFork_47 (tgt := 27) (by decide) ?_
        exact ih f a0 v1 x3 (x4 + 1) _ _ _ hF w hS (lv_sub hl [2, 1, 3, 0] rfl)
set_option maxHeartbeats 4000000 in
set_option maxRecDepth 100000 in
theorem tl_W_passFork {p : Program} {l : Launch} {e : Env} {s : State} {m : MethodId} {args : Array Value} {below : List Frame} {meth : Method} {c : Code} {D : va_G} {dA : Nat → ClassId} {tt : Nat → Nat} {b n : Nat} (C : pl_C p s m args meth c co_W_passFork 5 rn_W (some .int) "passFork" D dA tt b) {r : Int32} {f' : pl_H} {f : pl_H} {a0 : Nat} {x1 : Int32} {H : Heap} {locs : List Loc} {ls : Array Slot} (hF : fn_W_passFork f a0 x1 = some (r, f')) (w : pl_wd D vwCl dA b n f H) (hS : va_S (pl_A b) s.heap H locs) (hl : lv_has ls 5 [(0, .ref a0), (1, .int x1)]) : W p l e rm_W_passFork s m args below meth c H locs 0 0 (MQ below (pl_qI D dA tt b n f' r) args s 0 0 (pl_A b)) (F0 m 0 ls []) := by
  have hx := C.1
  have hb := C.2.1
  have hown := C.2.2.2.2.1
  have hts := C.2.2.2.2.2.2.1
  unfold fn_W_passFork at hF
  refine lv_aload_n hx hb dc_W_passFork_0 rfl (lv_at hl 0 rfl) ?_
  obtain ⟨v1, ev1, hF⟩ := pl_bd hF
  refine pl_getI C w (ci := 6) in_W rfl (by decide) 7 (by decide) mw_233 ev1 dc_W_passFork_1 ?_
  refine lv_iconst (v := 4) hx hb dc_W_passFork_4 (by decide) ?_
  refine lv_icmp_lt hx hb dc_W_passFork_5 (tgt := 10) (by decide) (fun hc => ?_) (fun hc => ?_)
  · have hF := (if_pos hc).symm.trans hF
    refine lv_iload_n hx hb dc_W_passFork_10 rfl (lv_at hl 1 rfl) ?_
    refine lv_istore_n (lv' := [(2, .int x1), (0, .ref a0), (1, .int x1)]) hx hb dc_W_passFork_11 rfl hl (by decide) rfl (fun ls hl => ?_)
    refine lv_aload_n hx hb dc_W_passFork_12 rfl (lv_at hl 1 rfl) ?_
    obtain ⟨v2, ev2, hF⟩ := pl_bd hF
    refine pl_getI C w (ci := 6) in_W rfl (by decide) 2 (by decide) mw_228 ev2 dc_W_passFork_13 ?_
    refine lv_aload_n hx hb dc_W_passFork_16 rfl (lv_at hl 1 rfl) ?_
    obtain ⟨v3, ev3, hF⟩ := pl_bd hF
    refine pl_getI C w (ci := 6) in_W rfl (by decide) 7 (by decide) mw_233 ev3 dc_W_passFork_17 ?_
    obtain ⟨v4, ev4, hF⟩ := pl_bd hF
    refine pl_gi (pl_runSN (k := 2) C (tm_L_digit l D dA tt b n ev4) w hS rfl rfl C.2.2.2.2.2.2.2.2.2.2.2.2.2.2.2.2.1 mw_436 mw_64 mw_437 (by decide +kernel) ⟨by decide, by decide⟩ rfl hl.1 (Nat.le_of_ble_eq_true rfl) ⟨Nat.zero_le _, Nat.zero_le _⟩ rfl dc_W_passFork_20) hS (fun H locs w hS => ?_)
    refine lv_istore_n (lv' := [(3, .int v4), (2, .int x1), (0, .ref a0), (1, .int x1)]) hx hb dc_W_passFork_23 rfl hl (by decide) rfl (fun ls hl => ?_)
    refine lv_iconst (v := 0) hx hb dc_W_passFork_24 (by decide) ?_
    refine lv_istore (lv' := [(4, .int 0), (3, .int v4), (2, .int x1), (0, .ref a0), (1, .int x1)]) hx hb dc_W_passFork_25 hl (by decide) rfl (fun ls hl => ?_)
    exact tl_W_passFork_27 C pl_N f a0 x1 v4 0 _ _ _ hF w hS (lv_sub hl [3, 2, 1, 0] rfl)
  · have hF := (if_neg hc).symm.trans hF
    refine lv_iconst (v := (-1)) hx hb dc_W_passFork_8 (by decide) ?_
    exact pl_retIw C w hS hF dc_W_passFork_9
set_option maxHeartbeats 4000000 in
set_option maxRecDepth 100000 in
theorem tm_W_passFork (l : Launch) (D : va_G) (dA : Nat → ClassId) (tt : Nat → Nat) (b n : Nat) {f : pl_H} {a0 : Nat} {x1 : Int32} {r : Int32} {f' : pl_H} (hF : fn_W_passFork f a0 x1 = some (r, f')) : Met l my_W_passFork (Cond.code my_W_passFork co_W_passFork 5 (some .int) :: pl_tb) rm_W_passFork (va_Pc [.ref a0, .int x1] (pl_pre D dA tt b n f)) (pl_qI D dA tt b n f' r) 0 0 (pl_A b) := by
  refine Met.ofW (cc := co_W_passFork) (maxL := 5) (ret := (some .int)) (by decide) rfl ?_
  intro p e s m args below meth c s₁ B hml hv
  obtain ⟨rfl, w, hK⟩ := hv
  have C : pl_C p s m _ meth c co_W_passFork 5 rn_W (some .int) "passFork" D dA tt b := ⟨B.exec, B.bytes, hml, B.returns, findClass_of_methodNamed B.named, B.notSynchronized, fun w hw => atoms_spec (ws := Cond.code my_W_passFork co_W_passFork 5 (some .int) :: pl_tb) B.pre w (List.mem_cons_of_mem _ hw), (name_of_methodNamed B.named B.method).1, hK⟩
  have hl := lv_entry ([.ref a0, .int x1]) (n := 5) (Nat.le_of_ble_eq_true rfl)
  rw [lg_entry_eq]
  generalize (lg_sl ([.ref a0, .int x1]) ++ List.replicate (5 - (lg_sl ([.ref a0, .int x1])).length) Slot.unset).toArray = ls at hl ⊢
  have hl : lv_has ls 5 [(0, .ref a0), (1, .int x1)] := hl
  exact tl_W_passFork C hF w va_S.rf hl
def rm_W_passNode : Room := { frames := 5, cells := 0, slots := 0, locals := 117 }
def fn_W_passNode_65 (f : pl_H) (sx0 : Int32) : Option (Int32 × pl_H) := some (sx0, f)
def fn_W_passNode_34 (f : pl_H) (a0 : Nat) (x1 : Int32) (x2 : Int32) (sx0 : Int32) : Option (Int32 × pl_H) := if sx0 = ((-1)) then some ((-1), f) else (pl_is f a0 6).bind fun u2 => (fn_W_nodeEnd f a0 x1).bind fun v1 => if sx0 = v1 then (pl_is f a0 6).bind fun u6 => (fn_W_passDigits f a0 x1 x2).bind fun q5 => fn_W_passNode_65 q5.2 q5.1 else (pl_is f a0 6).bind fun u4 => (fn_W_passFork f a0 x1).bind fun q3 => fn_W_passNode_65 q3.2 q3.1
def fn_W_passNode_19 (f : pl_H) (a0 : Nat) (x1 : Int32) (sx0 : Int32) : Option (Int32 × pl_H) := if sx0 = ((-1)) then fn_W_passNode_34 f a0 x1 sx0 ((-1)) else (pl_is f a0 6).bind fun u2 => (fn_W_itemEnd f a0 sx0).bind fun v1 => fn_W_passNode_34 f a0 x1 sx0 v1
def fn_W_passNode (f : pl_H) (a0 : Nat) : Option (Int32 × pl_H) := (pl_is f a0 6).bind fun u2 => (fn_W_firstItem f a0).bind fun v1 => if v1 = ((-1)) then fn_W_passNode_19 f a0 v1 ((-1)) else (pl_is f a0 6).bind fun u4 => (fn_W_itemEnd f a0 v1).bind fun v3 => fn_W_passNode_19 f a0 v1 v3
set_option maxHeartbeats 4000000 in
set_option maxRecDepth 100000 in
theorem tl_W_passNode_65 {p : Program} {l : Launch} {e : Env} {s : State} {m : MethodId} {args : Array Value} {below : List Frame} {meth : Method} {c : Code} {D : va_G} {dA : Nat → ClassId} {tt : Nat → Nat} {b n : Nat} (C : pl_C p s m args meth c co_W_passNode 4 rn_W (some .int) "passNode" D dA tt b) {r : Int32} {f' : pl_H} {f : pl_H} {sx0 : Int32} {H : Heap} {locs : List Loc} {ls : Array Slot} (hF : fn_W_passNode_65 f sx0 = some (r, f')) (w : pl_wd D vwCl dA b n f H) (hS : va_S (pl_A b) s.heap H locs) (hl : lv_has ls 4 []) : W p l e rm_W_passNode s m args below meth c H locs 0 0 (MQ below (pl_qI D dA tt b n f' r) args s 0 0 (pl_A b)) (F0 m 65 ls [.int sx0]) := by
  have hx := C.1
  have hb := C.2.1
  have hown := C.2.2.2.2.1
  have hts := C.2.2.2.2.2.2.1
  unfold fn_W_passNode_65 at hF
  exact pl_retIw C w hS hF dc_W_passNode_65
set_option maxHeartbeats 4000000 in
set_option maxRecDepth 100000 in
theorem tl_W_passNode_34 {p : Program} {l : Launch} {e : Env} {s : State} {m : MethodId} {args : Array Value} {below : List Frame} {meth : Method} {c : Code} {D : va_G} {dA : Nat → ClassId} {tt : Nat → Nat} {b n : Nat} (C : pl_C p s m args meth c co_W_passNode 4 rn_W (some .int) "passNode" D dA tt b) {r : Int32} {f' : pl_H} {f : pl_H} {a0 : Nat} {x1 : Int32} {x2 : Int32} {sx0 : Int32} {H : Heap} {locs : List Loc} {ls : Array Slot} (hF : fn_W_passNode_34 f a0 x1 x2 sx0 = some (r, f')) (w : pl_wd D vwCl dA b n f H) (hS : va_S (pl_A b) s.heap H locs) (hl : lv_has ls 4 [(0, .ref a0), (1, .int x1), (2, .int x2)]) : W p l e rm_W_passNode s m args below meth c H locs 0 0 (MQ below (pl_qI D dA tt b n f' r) args s 0 0 (pl_A b)) (F0 m 34 ls [.int sx0]) := by
  have hx := C.1
  have hb := C.2.1
  have hown := C.2.2.2.2.1
  have hts := C.2.2.2.2.2.2.1
  unfold fn_W_passNode_34 at hF
  refine lv_istore_n (lv' := [(3, .int sx0), (0, .ref a0), (1, .int x1), (2, .int x2)]) hx hb dc_W_passNode_34 rfl hl (by decide) rfl (fun ls hl => ?_)
  refine lv_iload_n hx hb dc_W_passNode_35 rfl (lv_at hl 0 rfl) ?_
  refine lv_iconst (v := (-1)) hx hb dc_W_passNode_36 (by decide) ?_
  refine lv_icmp_ne hx hb dc_W_passNode_37 (tgt := 42) (by decide) (fun hc => ?_) (fun hc => ?_)
  · have hF := (if_neg hc).symm.trans hF
    refine lv_iload_n hx hb dc_W_passNode_42 rfl (lv_at hl 0 rfl) ?_
    refine lv_aload_n hx hb dc_W_passNode_43 rfl (lv_at hl 1 rfl) ?_
    refine lv_iload_n hx hb dc_W_passNode_44 rfl (lv_at hl 2 rfl) ?_
    obtain ⟨u2, eu2, hF⟩ := pl_bd hF
    obtain ⟨v1, ev1, hF⟩ := pl_bd hF
    refine pl_gi (pl_runV (Cn := rn_W) (k := 1) C (tm_W_nodeEnd l D dA tt b n ev1) w hS rfl rfl mw_645 mw_647 mw_24 mw_71 mw_648 (by decide +kernel) ⟨by decide, by decide⟩ eu2 rfl (by decide) rfl hl.1 (Nat.le_of_ble_eq_true rfl) ⟨Nat.zero_le _, Nat.zero_le _⟩ rfl dc_W_passNode_45) hS (fun H locs w hS => ?_)
    refine lv_icmp_ne hx hb dc_W_passNode_48 (tgt := 60) (by decide) (fun hc => ?_) (fun hc => ?_)
    · have hF := (if_neg hc).symm.trans hF
      refine lv_aload_n hx hb dc_W_passNode_60 rfl (lv_at hl 1 rfl) ?_
      refine lv_iload_n hx hb dc_W_passNode_61 rfl (lv_at hl 2 rfl) ?_
      obtain ⟨u4, eu4, hF⟩ := pl_bd hF
      obtain ⟨q3, eq3, hF⟩ := pl_bd hF
      refine pl_gi (pl_runV (Cn := rn_W) (k := 1) C (tm_W_passFork l D dA tt b n eq3) w hS rfl rfl mw_670 mw_672 mw_30 mw_71 mw_673 (by decide +kernel) ⟨by decide, by decide⟩ eu4 rfl (by decide) rfl hl.1 (Nat.le_of_ble_eq_true rfl) ⟨Nat.zero_le _, Nat.zero_le _⟩ rfl dc_W_passNode_62) hS (fun H locs w hS => ?_)
      exact tl_W_passNode_65 C hF w hS (lv_sub hl [] rfl)
    · have hF := (if_pos hc).symm.trans hF
      refine lv_aload_n hx hb dc_W_passNode_51 rfl (lv_at hl 1 rfl) ?_
      refine lv_iload_n hx hb dc_W_passNode_52 rfl (lv_at hl 2 rfl) ?_
      refine lv_iload_n hx hb dc_W_passNode_53 rfl (lv_at hl 3 rfl) ?_
      obtain ⟨u6, eu6, hF⟩ := pl_bd hF
      obtain ⟨q5, eq5, hF⟩ := pl_bd hF
      refine pl_gi (pl_runV (Cn := rn_W) (k := 2) C (tm_W_passDigits l D dA tt b n eq5) w hS rfl rfl mw_649 mw_651 mw_25 mw_71 mw_652 (by decide +kernel) ⟨by decide, by decide⟩ eu6 rfl (by decide) rfl hl.1 (Nat.le_of_ble_eq_true rfl) ⟨Nat.zero_le _, Nat.zero_le _⟩ rfl dc_W_passNode_54) hS (fun H locs w hS => ?_)
      refine lv_goto hx hb dc_W_passNode_57 (tgt := 65) (by decide) ?_
      exact tl_W_passNode_65 C hF w hS (lv_sub hl [] rfl)
  · have hF := (if_pos hc).symm.trans hF
    refine lv_iconst (v := (-1)) hx hb dc_W_passNode_40 (by decide) ?_
    exact pl_retIw C w hS hF dc_W_passNode_41
set_option maxHeartbeats 4000000 in
set_option maxRecDepth 100000 in
theorem tl_W_passNode_19 {p : Program} {l : Launch} {e : Env} {s : State} {m : MethodId} {args : Array Value} {below : List Frame} {meth : Method} {c : Code} {D : va_G} {dA : Nat → ClassId} {tt : Nat → Nat} {b n : Nat} (C : pl_C p s m args meth c co_W_passNode 4 rn_W (some .int) "passNode" D dA tt b) {r : Int32} {f' : pl_H} {f : pl_H} {a0 : Nat} {x1 : Int32} {sx0 : Int32} {H : Heap} {locs : List Loc} {ls : Array Slot} (hF : fn_W_passNode_19 f a0 x1 sx0 = some (r, f')) (w : pl_wd D vwCl dA b n f H) (hS : va_S (pl_A b) s.heap H locs) (hl : lv_has ls 4 [(0, .ref a0), (1, .int x1)]) : W p l e rm_W_passNode s m args below meth c H locs 0 0 (MQ below (pl_qI D dA tt b n f' r) args s 0 0 (pl_A b)) (F0 m 19 ls [.int sx0]) := by
  have hx := C.1
  have hb := C.2.1
  have hown := C.2.2.2.2.1
  have hts := C.2.2.2.2.2.2.1
  unfold fn_W_passNode_19 at hF
  refine lv_istore_n (lv' := [(2, .int sx0), (0, .ref a0), (1, .int x1)]) hx hb dc_W_passNode_19 rfl hl (by decide) rfl (fun ls hl => ?_)
  refine lv_iload_n hx hb dc_W_passNode_20 rfl (lv_at hl 0 rfl) ?_
  refine lv_iconst (v := (-1)) hx hb dc_W_passNode_21 (by decide) ?_
  refine lv_icmp_ne hx hb dc_W_passNode_22 (tgt := 29) (by decide) (fun hc => ?_) (fun hc => ?_)
  · have hF := (if_neg hc).symm.trans hF
    refine lv_aload_n hx hb dc_W_passNode_29 rfl (lv_at hl 1 rfl) ?_
    refine lv_iload_n hx hb dc_W_passNode_30 rfl (lv_at hl 0 rfl) ?_
    obtain ⟨u2, eu2, hF⟩ := pl_bd hF
    obtain ⟨v1, ev1, hF⟩ := pl_bd hF
    refine pl_gi (pl_runV (Cn := rn_W) (k := 1) C (tm_W_itemEnd l D dA tt b n ev1) w hS rfl rfl mw_641 mw_643 mw_23 mw_71 mw_644 (by decide +kernel) ⟨by decide, by decide⟩ eu2 rfl (by decide) rfl hl.1 (Nat.le_of_ble_eq_true rfl) ⟨Nat.zero_le _, Nat.zero_le _⟩ rfl dc_W_passNode_31) hS (fun H locs w hS => ?_)
    exact tl_W_passNode_34 C hF w hS (lv_sub hl [1, 2, 0] rfl)
  · have hF := (if_pos hc).symm.trans hF
    refine lv_iconst (v := (-1)) hx hb dc_W_passNode_25 (by decide) ?_
    refine lv_goto hx hb dc_W_passNode_26 (tgt := 34) (by decide) ?_
    exact tl_W_passNode_34 C hF w hS (lv_sub hl [1, 2, 0] rfl)
set_option maxHeartbeats 4000000 in
set_option maxRecDepth 100000 in
theorem tl_W_passNode {p : Program} {l : Launch} {e : Env} {s : State} {m : MethodId} {args : Array Value} {below : List Frame} {meth : Method} {c : Code} {D : va_G} {dA : Nat → ClassId} {tt : Nat → Nat} {b n : Nat} (C : pl_C p s m args meth c co_W_passNode 4 rn_W (some .int) "passNode" D dA tt b) {r : Int32} {f' : pl_H} {f : pl_H} {a0 : Nat} {H : Heap} {locs : List Loc} {ls : Array Slot} (hF : fn_W_passNode f a0 = some (r, f')) (w : pl_wd D vwCl dA b n f H) (hS : va_S (pl_A b) s.heap H locs) (hl : lv_has ls 4 [(0, .ref a0)]) : W p l e rm_W_passNode s m args below meth c H locs 0 0 (MQ below (pl_qI D dA tt b n f' r) args s 0 0 (pl_A b)) (F0 m 0 ls []) := by
  have hx := C.1
  have hb := C.2.1
  have hown := C.2.2.2.2.1
  have hts := C.2.2.2.2.2.2.1
  unfold fn_W_passNode at hF
  refine lv_aload_n hx hb dc_W_passNode_0 rfl (lv_at hl 0 rfl) ?_
  obtain ⟨u2, eu2, hF⟩ := pl_bd hF
  obtain ⟨v1, ev1, hF⟩ := pl_bd hF
  refine pl_gi (pl_runV (Cn := rn_W) (k := 0) C (tm_W_firstItem l D dA tt b n ev1) w hS rfl rfl mw_630 mw_632 mw_21 mw_71 mw_633 (by decide +kernel) ⟨by decide, by decide⟩ eu2 rfl (by decide) rfl hl.1 (Nat.le_of_ble_eq_true rfl) ⟨Nat.zero_le _, Nat.zero_le _⟩ rfl dc_W_passNode_1) hS (fun H locs w hS => ?_)
  refine lv_istore_n (lv' := [(1, .int v1), (0, .ref a0)]) hx hb dc_W_passNode_4 rfl hl (by decide) rfl (fun ls hl => ?_)
  refine lv_iload_n hx hb dc_W_passNode_5 rfl (lv_at hl 0 rfl) ?_
  refine lv_iconst (v := (-1)) hx hb dc_W_passNode_6 (by decide) ?_
  refine lv_icmp_ne hx hb dc_W_passNode_7 (tgt := 14) (by decide) (fun hc => ?_) (fun hc => ?_)
  · have hF := (if_neg hc).symm.trans hF
    refine lv_aload_n hx hb dc_W_passNode_14 rfl (lv_at hl 1 rfl) ?_
    refine lv_iload_n hx hb dc_W_passNode_15 rfl (lv_at hl 0 rfl) ?_
    obtain ⟨u4, eu4, hF⟩ := pl_bd hF
    obtain ⟨v3, ev3, hF⟩ := pl_bd hF
    refine pl_gi (pl_runV (Cn := rn_W) (k := 1) C (tm_W_itemEnd l D dA tt b n ev3) w hS rfl rfl mw_641 mw_643 mw_23 mw_71 mw_644 (by decide +kernel) ⟨by decide, by decide⟩ eu4 rfl (by decide) rfl hl.1 (Nat.le_of_ble_eq_true rfl) ⟨Nat.zero_le _, Nat.zero_le _⟩ rfl dc_W_passNode_16) hS (fun H locs w hS => ?_)
    exact tl_W_passNode_19 C hF w hS (lv_sub hl [1, 0] rfl)
  · have hF := (if_pos hc).symm.trans hF
    refine lv_iconst (v := (-1)) hx hb dc_W_passNode_10 (by decide) ?_
    refine lv_goto hx hb dc_W_passNode_11 (tgt := 19) (by decide) ?_
    exact tl_W_passNode_19 C hF w hS (lv_sub hl [1, 0] rfl)
set_option maxHeartbeats 4000000 in
set_option maxRecDepth 100000 in
theorem tm_W_passNode (l : Launch) (D : va_G) (dA : Nat → ClassId) (tt : Nat → Nat) (b n : Nat) {f : pl_H} {a0 : Nat} {r : Int32} {f' : pl_H} (hF : fn_W_passNode f a0 = some (r, f')) : Met l my_W_passNode (Cond.code my_W_passNode co_W_passNode 4 (some .int) :: pl_tb) rm_W_passNode (va_Pc [.ref a0] (pl_pre D dA tt b n f)) (pl_qI D dA tt b n f' r) 0 0 (pl_A b) := by
  refine Met.ofW (cc := co_W_passNode) (maxL := 4) (ret := (some .int)) (by decide) rfl ?_
  intro p e s m args below meth c s₁ B hml hv
  obtain ⟨rfl, w, hK⟩ := hv
  have C : pl_C p s m _ meth c co_W_passNode 4 rn_W (some .int) "passNode" D dA tt b := ⟨B.exec, B.bytes, hml, B.returns, findClass_of_methodNamed B.named, B.notSynchronized, fun w hw => atoms_spec (ws := Cond.code my_W_passNode co_W_passNode 4 (some .int) :: pl_tb) B.pre w (List.mem_cons_of_mem _ hw), (name_of_methodNamed B.named B.method).1, hK⟩
  have hl := lv_entry ([.ref a0]) (n := 4) (Nat.le_of_ble_eq_true rfl)
  rw [lg_entry_eq]
  generalize (lg_sl ([.ref a0]) ++ List.replicate (4 - (lg_sl ([.ref a0])).length) Slot.unset).toArray = ls at hl ⊢
  have hl : lv_has ls 4 [(0, .ref a0)] := hl
  exact tl_W_passNode C hF w va_S.rf hl
def rm_W_goOn : Room := { frames := 4, cells := 0, slots := 0, locals := 103 }
def fn_W_goOn_42 (f : pl_H) (sx0 : Int32) : Option (Int32 × pl_H) := some (sx0, f)
def fn_W_goOn (f : pl_H) (a0 : Nat) (x1 : Int32) : Option (Int32 × pl_H) := (pl_is f a0 6).bind fun u2 => (fn_W_byteAt f a0 x1).bind fun v1 => if v1 = 160 then (pl_gI f a0 6 3).bind fun v4 => (pl_gR f a0 6 4).bind fun v5 => (pl_gI f a0 6 5).bind fun v6 => (pl_is f a0 6).bind fun u8 => (fn_W_enterPart f a0 (v4 + 1) v5 v6 (x1 + 1)).bind fun q7 => if q7.1 = 0 then fn_W_goOn_42 q7.2 2 else fn_W_goOn_42 q7.2 0 else if 192 ≤ v1 then (pl_pV f a0 6 6 (.int x1)).bind fun f3 => some (0, f3) else some (1, f)
set_option maxHeartbeats 4000000 in
set_option maxRecDepth 100000 in
theorem tl_W_goOn_42 {p : Program} {l : Launch} {e : Env} {s : State} {m : MethodId} {args : Array Value} {below : List Frame} {meth : Method} {c : Code} {D : va_G} {dA : Nat → ClassId} {tt : Nat → Nat} {b n : Nat} (C : pl_C p s m args meth c co_W_goOn 3 rn_W (some .int) "goOn" D dA tt b) {r : Int32} {f' : pl_H} {f : pl_H} {sx0 : Int32} {H : Heap} {locs : List Loc} {ls : Array Slot} (hF : fn_W_goOn_42 f sx0 = some (r, f')) (w : pl_wd D vwCl dA b n f H) (hS : va_S (pl_A b) s.heap H locs) (hl : lv_has ls 3 []) : W p l e rm_W_goOn s m args below meth c H locs 0 0 (MQ below (pl_qI D dA tt b n f' r) args s 0 0 (pl_A b)) (F0 m 42 ls [.int sx0]) := by
  have hx := C.1
  have hb := C.2.1
  have hown := C.2.2.2.2.1
  have hts := C.2.2.2.2.2.2.1
  unfold fn_W_goOn_42 at hF
  exact pl_retIw C w hS hF dc_W_goOn_42
set_option maxHeartbeats 4000000 in
set_option maxRecDepth 100000 in
theorem tl_W_goOn {p : Program} {l : Launch} {e : Env} {s : State} {m : MethodId} {args : Array Value} {below : List Frame} {meth : Method} {c : Code} {D : va_G} {dA : Nat → ClassId} {tt : Nat → Nat} {b n : Nat} (C : pl_C p s m args meth c co_W_goOn 3 rn_W (some .int) "goOn" D dA tt b) {r : Int32} {f' : pl_H} {f : pl_H} {a0 : Nat} {x1 : Int32} {H : Heap} {locs : List Loc} {ls : Array Slot} (hF : fn_W_goOn f a0 x1 = some (r, f')) (w : pl_wd D vwCl dA b n f H) (hS : va_S (pl_A b) s.heap H locs) (hl : lv_has ls 3 [(0, .ref a0), (1, .int x1)]) : W p l e rm_W_goOn s m args below meth c H locs 0 0 (MQ below (pl_qI D dA tt b n f' r) args s 0 0 (pl_A b)) (F0 m 0 ls []) := by
  have hx := C.1
  have hb := C.2.1
  have hown := C.2.2.2.2.1
  have hts := C.2.2.2.2.2.2.1
  unfold fn_W_goOn at hF
  refine lv_aload_n hx hb dc_W_goOn_0 rfl (lv_at hl 0 rfl) ?_
  refine lv_iload_n hx hb dc_W_goOn_1 rfl (lv_at hl 1 rfl) ?_
  obtain ⟨u2, eu2, hF⟩ := pl_bd hF
  obtain ⟨v1, ev1, hF⟩ := pl_bd hF
  refine pl_gi (pl_runV (Cn := rn_W) (k := 1) C (tm_W_byteAt l D dA tt b n ev1) w hS rfl rfl mw_634 mw_636 mw_22 mw_71 mw_637 (by decide +kernel) ⟨by decide, by decide⟩ eu2 rfl (by decide) rfl hl.1 (Nat.le_of_ble_eq_true rfl) ⟨Nat.zero_le _, Nat.zero_le _⟩ rfl dc_W_goOn_2) hS (fun H locs w hS => ?_)
  refine lv_istore_n (lv' := [(2, .int v1), (0, .ref a0), (1, .int x1)]) hx hb dc_W_goOn_5 rfl hl (by decide) rfl (fun ls hl => ?_)
  refine lv_iload_n hx hb dc_W_goOn_6 rfl (lv_at hl 0 rfl) ?_
  refine lv_sipush (v := 160) hx hb dc_W_goOn_7 (by decide) ?_
  refine lv_icmp_ne hx hb dc_W_goOn_10 (tgt := 43) (by decide) (fun hc => ?_) (fun hc => ?_)
  · have hF := (if_neg hc).symm.trans hF
    refine lv_iload_n hx hb dc_W_goOn_43 rfl (lv_at hl 0 rfl) ?_
    refine lv_sipush (v := 192) hx hb dc_W_goOn_44 (by decide) ?_
    refine lv_icmp_ge hx hb dc_W_goOn_47 (tgt := 52) (by decide) (fun hc => ?_) (fun hc => ?_)
    · have hF := (if_pos hc).symm.trans hF
      refine lv_aload_n hx hb dc_W_goOn_52 rfl (lv_at hl 1 rfl) ?_
      refine lv_iload_n hx hb dc_W_goOn_53 rfl (lv_at hl 2 rfl) ?_
      obtain ⟨f3, ef3, hF⟩ := pl_bd hF
      refine pl_put C w hS (ci := 6) in_W rfl (by decide) rty_W_ok rnm_W 6 (by decide) mw_232 rfl rfl rfl ef3 dc_W_goOn_54 (fun H locs w hS => ?_)
      refine lv_iconst (v := 0) hx hb dc_W_goOn_57 (by decide) ?_
      exact pl_retIw C w hS hF dc_W_goOn_58
    · have hF := (if_neg hc).symm.trans hF
      refine lv_iconst (v := 1) hx hb dc_W_goOn_50 (by decide) ?_
      exact pl_retIw C w hS hF dc_W_goOn_51
  · have hF := (if_pos hc).symm.trans hF
    refine lv_aload_n hx hb dc_W_goOn_13 rfl (lv_at hl 1 rfl) ?_
    refine lv_aload_n hx hb dc_W_goOn_14 rfl (lv_at hl 1 rfl) ?_
    obtain ⟨v4, ev4, hF⟩ := pl_bd hF
    refine pl_getI C w (ci := 6) in_W rfl (by decide) 3 (by decide) mw_229 ev4 dc_W_goOn_15 ?_
    refine lv_iconst (v := 1) hx hb dc_W_goOn_18 (by decide) ?_
    refine lv_iadd hx hb dc_W_goOn_19 ?_
    refine lv_aload_n hx hb dc_W_goOn_20 rfl (lv_at hl 1 rfl) ?_
    obtain ⟨v5, ev5, hF⟩ := pl_bd hF
    refine pl_getR C w (ci := 6) in_W rfl (by decide) 4 (by decide) mw_230 ev5 dc_W_goOn_21 ?_
    refine lv_aload_n hx hb dc_W_goOn_24 rfl (lv_at hl 1 rfl) ?_
    obtain ⟨v6, ev6, hF⟩ := pl_bd hF
    refine pl_getI C w (ci := 6) in_W rfl (by decide) 5 (by decide) mw_231 ev6 dc_W_goOn_25 ?_
    refine lv_iload_n hx hb dc_W_goOn_28 rfl (lv_at hl 2 rfl) ?_
    refine lv_iconst (v := 1) hx hb dc_W_goOn_29 (by decide) ?_
    refine lv_iadd hx hb dc_W_goOn_30 ?_
    obtain ⟨u8, eu8, hF⟩ := pl_bd hF
    obtain ⟨q7, eq7, hF⟩ := pl_bd hF
    refine pl_gi (pl_runV (Cn := rn_W) (k := 4) C (tm_W_enterPart l D dA tt b n eq7) w hS rfl rfl mw_614 mw_616 mw_19 mw_71 mw_617 (by decide +kernel) ⟨by decide, by decide⟩ eu8 rfl (by decide) rfl hl.1 (Nat.le_of_ble_eq_true rfl) ⟨Nat.zero_le _, Nat.zero_le _⟩ rfl dc_W_goOn_31) hS (fun H locs w hS => ?_)
    refine lv_if_eq hx hb dc_W_goOn_34 (tgt := 41) (by decide) (fun hc => ?_) (fun hc => ?_)
    · have hF := (if_pos hc).symm.trans hF
      refine lv_iconst (v := 2) hx hb dc_W_goOn_41 (by decide) ?_
      exact tl_W_goOn_42 C hF w hS (lv_sub hl [] rfl)
    · have hF := (if_neg hc).symm.trans hF
      refine lv_iconst (v := 0) hx hb dc_W_goOn_37 (by decide) ?_
      refine lv_goto hx hb dc_W_goOn_38 (tgt := 42) (by decide) ?_
      exact tl_W_goOn_42 C hF w hS (lv_sub hl [] rfl)
set_option maxHeartbeats 4000000 in
set_option maxRecDepth 100000 in
theorem tm_W_goOn (l : Launch) (D : va_G) (dA : Nat → ClassId) (tt : Nat → Nat) (b n : Nat) {f : pl_H} {a0 : Nat} {x1 : Int32} {r : Int32} {f' : pl_H} (hF : fn_W_goOn f a0 x1 = some (r, f')) : Met l my_W_goOn (Cond.code my_W_goOn co_W_goOn 3 (some .int) :: pl_tb) rm_W_goOn (va_Pc [.ref a0, .int x1] (pl_pre D dA tt b n f)) (pl_qI D dA tt b n f' r) 0 0 (pl_A b) := by
  refine Met.ofW (cc := co_W_goOn) (maxL := 3) (ret := (some .int)) (by decide) rfl ?_
  intro p e s m args below meth c s₁ B hml hv
  obtain ⟨rfl, w, hK⟩ := hv
  have C : pl_C p s m _ meth c co_W_goOn 3 rn_W (some .int) "goOn" D dA tt b := ⟨B.exec, B.bytes, hml, B.returns, findClass_of_methodNamed B.named, B.notSynchronized, fun w hw => atoms_spec (ws := Cond.code my_W_goOn co_W_goOn 3 (some .int) :: pl_tb) B.pre w (List.mem_cons_of_mem _ hw), (name_of_methodNamed B.named B.method).1, hK⟩
  have hl := lv_entry ([.ref a0, .int x1]) (n := 3) (Nat.le_of_ble_eq_true rfl)
  rw [lg_entry_eq]
  generalize (lg_sl ([.ref a0, .int x1]) ++ List.replicate (3 - (lg_sl ([.ref a0, .int x1])).length) Slot.unset).toArray = ls at hl ⊢
  have hl : lv_has ls 3 [(0, .ref a0), (1, .int x1)] := hl
  exact tl_W_goOn C hF w va_S.rf hl
def rm_W_follow : Room := { frames := 6, cells := 0, slots := 0, locals := 140 }
def fn_W_follow_110 (f : pl_H) (sx0 : Int32) : Option (Int32 × pl_H) := some (sx0, f)
def fn_W_follow_96 (f : pl_H) : Option (Int32 × pl_H) := some ((-1), f)
def fn_W_follow_75 (f : pl_H) (a0 : Nat) (x3 : Int32) : Option (Int32 × pl_H) := if x3 = 2 then fn_W_follow_96 f else (pl_gI f a0 6 3).bind fun v1 => (pl_gR f a0 6 0).bind fun v2 => (pl_is f v2 4).bind fun u4 => (fn_P_count f v2).bind fun v3 => if v1 = (v3 - 1) then (pl_gI f a0 6 8).bind fun v5 => if v5 = 0 then fn_W_follow_110 f 0 else fn_W_follow_110 f 1 else fn_W_follow_96 f
def fn_W_follow_68 (rc34 : pl_H → Nat → Int32 → Int32 → Option (Int32 × pl_H)) (f : pl_H) (a0 : Nat) (x4 : Int32) (sx0 : Int32) : Option (Int32 × pl_H) := rc34 f a0 sx0 (x4 + 1)
def fn_W_follow_34 : Nat → pl_H → Nat → Int32 → Int32 → Option (Int32 × pl_H)
  | 0 => fun _ _ _ _ => none
  | k + 1 => fun f a0 x3 x4 => if 2020 ≤ x4 then fn_W_follow_75 f a0 x3 else if x3 = 0 then (pl_is f a0 6).bind fun u2 => (fn_W_passNode f a0).bind fun q1 => if q1.1 = ((-1)) then fn_W_follow_68 (fn_W_follow_34 k) q1.2 a0 x4 1 else (pl_is q1.2 a0 6).bind fun u4 => (fn_W_goOn q1.2 a0 q1.1).bind fun q3 => fn_W_follow_68 (fn_W_follow_34 k) q3.2 a0 x4 q3.1 else fn_W_follow_75 f a0 x3
def fn_W_follow (f : pl_H) (a0 : Nat) (x1 : Int32) (a2 : Nat) : Option (Int32 × pl_H) := (pl_pV f a0 6 2 (.int x1)).bind fun f1 => (pl_pV f1 a0 6 7 (.int 0)).bind fun f2 => (pl_pV f2 a0 6 8 (.int 0)).bind fun f3 => (pl_ln f3 a2).bind fun v4 => (pl_is f3 a0 6).bind fun u6 => (fn_W_enterPart f3 a0 0 a2 v4 0).bind fun q5 => if q5.1 = 0 then some ((-1), q5.2) else fn_W_follow_34 pl_N q5.2 a0 0 0
set_option maxHeartbeats 4000000 in
set_option maxRecDepth 100000 in
theorem tl_W_follow_110 {p : Program} {l : Launch} {e : Env} {s : State} {m : MethodId} {args : Array Value} {below : List Frame} {meth : Method} {c : Code} {D : va_G} {dA : Nat → ClassId} {tt : Nat → Nat} {b n : Nat} (C : pl_C p s m args meth c co_W_follow 6 rn_W (some .int) "follow" D dA tt b) {r : Int32} {f' : pl_H} {f : pl_H} {sx0 : Int32} {H : Heap} {locs : List Loc} {ls : Array Slot} (hF : fn_W_follow_110 f sx0 = some (r, f')) (w : pl_wd D vwCl dA b n f H) (hS : va_S (pl_A b) s.heap H locs) (hl : lv_has ls 6 []) : W p l e rm_W_follow s m args below meth c H locs 0 0 (MQ below (pl_qI D dA tt b n f' r) args s 0 0 (pl_A b)) (F0 m 110 ls [.int sx0]) := by
  have hx := C.1
  have hb := C.2.1
  have hown := C.2.2.2.2.1
  have hts := C.2.2.2.2.2.2.1
  unfold fn_W_follow_110 at hF
  exact pl_retIw C w hS hF dc_W_follow_110
set_option maxHeartbeats 4000000 in
set_option maxRecDepth 100000 in
theorem tl_W_follow_96 {p : Program} {l : Launch} {e : Env} {s : State} {m : MethodId} {args : Array Value} {below : List Frame} {meth : Method} {c : Code} {D : va_G} {dA : Nat → ClassId} {tt : Nat → Nat} {b n : Nat} (C : pl_C p s m args meth c co_W_follow 6 rn_W (some .int) "follow" D dA tt b) {r : Int32} {f' : pl_H} {f : pl_H} {H : Heap} {locs : List Loc} {ls : Array Slot} (hF : fn_W_follow_96 f = some (r, f')) (w : pl_wd D vwCl dA b n f H) (hS : va_S (pl_A b) s.heap H locs) (hl : lv_has ls 6 []) : W p l e rm_W_follow s m args below meth c H locs 0 0 (MQ below (pl_qI D dA tt b n f' r) args s 0 0 (pl_A b)) (F0 m 96 ls []) := by
  have hx := C.1
  have hb := C.2.1
  have hown := C.2.2.2.2.1
  have hts := C.2.2.2.2.2.2.1
  unfold fn_W_follow_96 at hF
  refine lv_iconst (v := (-1)) hx hb dc_W_follow_96 (by decide) ?_
  exact pl_retIw C w hS hF dc_W_follow_97
set_option maxHeartbeats 4000000 in
set_option maxRecDepth 100000 in
theorem tl_W_follow_75 {p : Program} {l : Launch} {e : Env} {s : State} {m : MethodId} {args : Array Value} {below : List Frame} {meth : Method} {c : Code} {D : va_G} {dA : Nat → ClassId} {tt : Nat → Nat} {b n : Nat} (C : pl_C p s m args meth c co_W_follow 6 rn_W (some .int) "follow" D dA tt b) {r : Int32} {f' : pl_H} {f : pl_H} {a0 : Nat} {x3 : Int32} {H : Heap} {locs : List Loc} {ls : Array Slot} (hF : fn_W_follow_75 f a0 x3 = some (r, f')) (w : pl_wd D vwCl dA b n f H) (hS : va_S (pl_A b) s.heap H locs) (hl : lv_has ls 6 [(0, .ref a0), (3, .int x3)]) : W p l e rm_W_follow s m args below meth c H locs 0 0 (MQ below (pl_qI D dA tt b n f' r) args s 0 0 (pl_A b)) (F0 m 75 ls []) := by
  have hx := C.1
  have hb := C.2.1
  have hown := C.2.2.2.2.1
  have hts := C.2.2.2.2.2.2.1
  unfold fn_W_follow_75 at hF
  refine lv_iload_n hx hb dc_W_follow_75 rfl (lv_at hl 1 rfl) ?_
  refine lv_iconst (v := 2) hx hb dc_W_follow_76 (by decide) ?_
  refine lv_icmp_eq hx hb dc_W_follow_77 (tgt := 96) (by decide) (fun hc => ?_) (fun hc => ?_)
  · have hF := (if_pos hc).symm.trans hF
    exact tl_W_follow_96 C hF w hS (lv_sub hl [] rfl)
  · have hF := (if_neg hc).symm.trans hF
    refine lv_aload_n hx hb dc_W_follow_80 rfl (lv_at hl 0 rfl) ?_
    obtain ⟨v1, ev1, hF⟩ := pl_bd hF
    refine pl_getI C w (ci := 6) in_W rfl (by decide) 3 (by decide) mw_229 ev1 dc_W_follow_81 ?_
    refine lv_aload_n hx hb dc_W_follow_84 rfl (lv_at hl 0 rfl) ?_
    obtain ⟨v2, ev2, hF⟩ := pl_bd hF
    refine pl_getR C w (ci := 6) in_W rfl (by decide) 0 (by decide) mw_226 ev2 dc_W_follow_85 ?_
    obtain ⟨u4, eu4, hF⟩ := pl_bd hF
    obtain ⟨v3, ev3, hF⟩ := pl_bd hF
    refine pl_gi (pl_runV (Cn := rn_P) (k := 0) C (tm_P_count l D dA tt b n ev3) w hS rfl rfl mw_678 mw_553 mw_554 mw_70 mw_555 (by decide +kernel) ⟨by decide, by decide⟩ eu4 rfl (by decide) rfl hl.1 (Nat.le_of_ble_eq_true rfl) ⟨Nat.zero_le _, Nat.zero_le _⟩ rfl dc_W_follow_88) hS (fun H locs w hS => ?_)
    refine lv_iconst (v := 1) hx hb dc_W_follow_91 (by decide) ?_
    refine lv_isub hx hb dc_W_follow_92 ?_
    refine lv_icmp_eq hx hb dc_W_follow_93 (tgt := 98) (by decide) (fun hc => ?_) (fun hc => ?_)
    · have hF := (if_pos hc).symm.trans hF
      refine lv_aload_n hx hb dc_W_follow_98 rfl (lv_at hl 0 rfl) ?_
      obtain ⟨v5, ev5, hF⟩ := pl_bd hF
      refine pl_getI C w (ci := 6) in_W rfl (by decide) 8 (by decide) mw_234 ev5 dc_W_follow_99 ?_
      refine lv_if_eq hx hb dc_W_follow_102 (tgt := 109) (by decide) (fun hc => ?_) (fun hc => ?_)
      · have hF := (if_pos hc).symm.trans hF
        refine lv_iconst (v := 0) hx hb dc_W_follow_109 (by decide) ?_
        exact tl_W_follow_110 C hF w hS (lv_sub hl [] rfl)
      · have hF := (if_neg hc).symm.trans hF
        refine lv_iconst (v := 1) hx hb dc_W_follow_105 (by decide) ?_
        refine lv_goto hx hb dc_W_follow_106 (tgt := 110) (by decide) ?_
        exact tl_W_follow_110 C hF w hS (lv_sub hl [] rfl)
    · have hF := (if_neg hc).symm.trans hF
      exact tl_W_follow_96 C hF w hS (lv_sub hl [] rfl)
set_option maxHeartbeats 4000000 in
set_option maxRecDepth 100000 in
theorem tl_W_follow_68 {p : Program} {l : Launch} {e : Env} {s : State} {m : MethodId} {args : Array Value} {below : List Frame} {meth : Method} {c : Code} {D : va_G} {dA : Nat → ClassId} {tt : Nat → Nat} {b n : Nat} (C : pl_C p s m args meth c co_W_follow 6 rn_W (some .int) "follow" D dA tt b) {r : Int32} {f' : pl_H} {rc34 : pl_H → Nat → Int32 → Int32 → Option (Int32 × pl_H)} (hr34 : ∀ (f : pl_H) (a0 : Nat) (x3 : Int32) (x4 : Int32) (H : Heap) (locs : List Loc) (ls : Array Slot), rc34 f a0 x3 x4 = some (r, f') → pl_wd D vwCl dA b n f H → va_S (pl_A b) s.heap H locs → lv_has ls 6 [(0, .ref a0), (3, .int x3), (4, .int x4)] → W p l e rm_W_follow s m args below meth c H locs 0 0 (MQ below (pl_qI D dA tt b n f' r) args s 0 0 (pl_A b)) (F0 m 34 ls [])) {f : pl_H} {a0 : Nat} {x4 : Int32} {sx0 : Int32} {H : Heap} {locs : List Loc} {ls : Array Slot} (hF : fn_W_follow_68 rc34 f a0 x4 sx0 = some (r, f')) (w : pl_wd D vwCl dA b n f H) (hS : va_S (pl_A b) s.heap H locs) (hl : lv_has ls 6 [(0, .ref a0), (4, .int x4)]) : W p l e rm_W_follow s m args below meth c H locs 0 0 (MQ below (pl_qI D dA tt b n f' r) args s 0 0 (pl_A b)) (F0 m 68 ls [.int sx0]) := by
  have hx := C.1
  have hb := C.2.1
  have hown := C.2.2.2.2.1
  have hts := C.2.2.2.2.2.2.1
  unfold fn_W_follow_68 at hF
  refine lv_istore_n (lv' := [(3, .int sx0), (0, .ref a0), (4, .int x4)]) hx hb dc_W_follow_68 rfl hl (by decide) rfl (fun ls hl => ?_)
  refine lv_iinc (k := 2) (v := x4 + 1) (lv' := [(4, .int (x4 + 1)), (3, .int sx0), (0, .ref a0)]) hx hb dc_W_follow_69 hl rfl rfl (by decide) rfl (fun ls hl => ?_)
  refine lv_goto hx hb dc_W_follow_72 (tgt := 34) (by decide) ?_
  exact hr34 f a0 sx0 (x4 + 1) _ _ _ hF w hS (lv_sub hl [2, 1, 0] rfl)
set_option maxHeartbeats 4000000 in
set_option maxRecDepth 100000 in
theorem tl_W_follow_34 {p : Program} {l : Launch} {e : Env} {s : State} {m : MethodId} {args : Array Value} {below : List Frame} {meth : Method} {c : Code} {D : va_G} {dA : Nat → ClassId} {tt : Nat → Nat} {b n : Nat} (C : pl_C p s m args meth c co_W_follow 6 rn_W (some .int) "follow" D dA tt b) {r : Int32} {f' : pl_H} : ∀ k : Nat, ∀ (f : pl_H) (a0 : Nat) (x3 : Int32) (x4 : Int32) (H : Heap) (locs : List Loc) (ls : Array Slot), fn_W_follow_34 k f a0 x3 x4 = some (r, f') → pl_wd D vwCl dA b n f H → va_S (pl_A b) s.heap H locs → lv_has ls 6 [(0, .ref a0), (3, .int x3), (4, .int x4)] → W p l e rm_W_follow s m args below meth c H locs 0 0 (MQ below (pl_qI D dA tt b n f' r) args s 0 0 (pl_A b)) (F0 m 34 ls []) := by
  have hx := C.1
  have hb := C.2.1
  have hown := C.2.2.2.2.1
  have hts := C.2.2.2.2.2.2.1
  intro k
  induction k with
  | zero =>
    intro f a0 x3 x4 H locs ls hF
    cases hF
  | succ k ih =>
    intro f a0 x3 x4 H locs ls hF w hS hl
    unfold fn_W_follow_34 at hF
    refine lv_iload hx hb dc_W_follow_34 (lv_at hl 2 rfl) ?_
    refine lv_sipush (v := 2020) hx hb dc_W_follow_36 (by decide) ?_
    refine lv_icmp_ge hx hb dc_W_follow_39 (tgt := 75) (by decide) (fun hc => ?_) (fun hc => ?_)
    · have hF := (if_pos hc).symm.trans hF
      exact tl_W_follow_75 C hF w hS (lv_sub hl [0, 1] rfl)
    · have hF := (if_neg hc).symm.trans hF
      refine lv_iload_n hx hb dc_W_follow_42 rfl (lv_at hl 1 rfl) ?_
      refine lv_if_ne hx hb dc_W_follow_43 (tgt := 75) (by decide) (fun hc => ?_) (fun hc => ?_)
      · have hF := (if_neg hc).symm.trans hF
        exact tl_W_follow_75 C hF w hS (lv_sub hl [0, 1] rfl)
      · have hF := (if_pos hc).symm.trans hF
        refine lv_aload_n hx hb dc_W_follow_46 rfl (lv_at hl 0 rfl) ?_
        obtain ⟨u2, eu2, hF⟩ := pl_bd hF
        obtain ⟨q1, eq1, hF⟩ := pl_bd hF
        refine pl_gi (pl_runV (Cn := rn_W) (k := 0) C (tm_W_passNode l D dA tt b n eq1) w hS rfl rfl mw_626 mw_628 mw_20 mw_71 mw_629 (by decide +kernel) ⟨by decide, by decide⟩ eu2 rfl (by decide) rfl hl.1 (Nat.le_of_ble_eq_true rfl) ⟨Nat.zero_le _, Nat.zero_le _⟩ rfl dc_W_follow_47) hS (fun H locs w hS => ?_)
        refine lv_istore (lv' := [(5, .int q1.1), (0, .ref a0), (3, .int x3), (4, .int x4)]) hx hb dc_W_follow_50 hl (by decide) rfl (fun ls hl => ?_)
        refine lv_iload hx hb dc_W_follow_52 (lv_at hl 0 rfl) ?_
        refine lv_iconst (v := (-1)) hx hb dc_W_follow_54 (by decide) ?_
        refine lv_icmp_ne hx hb dc_W_follow_55 (tgt := 62) (by decide) (fun hc => ?_) (fun hc => ?_)
        · have hF := (if_neg hc).symm.trans hF
          refine lv_aload_n hx hb dc_W_follow_62 rfl (lv_at hl 1 rfl) ?_
          refine lv_iload hx hb dc_W_follow_63 (lv_at hl 0 rfl) ?_
          obtain ⟨u4, eu4, hF⟩ := pl_bd hF
          obtain ⟨q3, eq3, hF⟩ := pl_bd hF
          refine pl_gi (pl_runV (Cn := rn_W) (k := 1) C (tm_W_goOn l D dA tt b n eq3) w hS rfl rfl mw_674 mw_676 mw_31 mw_71 mw_677 (by decide +kernel) ⟨by decide, by decide⟩ eu4 rfl (by decide) rfl hl.1 (Nat.le_of_ble_eq_true rfl) ⟨Nat.zero_le _, Nat.zero_le _⟩ rfl dc_W_follow_65) hS (fun H locs w hS => ?_)
          exact tl_W_follow_68 C ih hF w hS (lv_sub hl [1, 3] rfl)
        · have hF := (if_pos hc).symm.trans hF
          refine lv_iconst (v := 1) hx hb dc_W_follow_58 (by decide) ?_
          refine lv_goto hx hb dc_W_follow_59 (tgt := 68) (by decide) ?_
          exact tl_W_follow_68 C ih hF w hS (lv_sub hl [1, 3] rfl)
set_option maxHeartbeats 4000000 in
set_option maxRecDepth 100000 in
theorem tl_W_follow {p : Program} {l : Launch} {e : Env} {s : State} {m : MethodId} {args : Array Value} {below : List Frame} {meth : Method} {c : Code} {D : va_G} {dA : Nat → ClassId} {tt : Nat → Nat} {b n : Nat} (C : pl_C p s m args meth c co_W_follow 6 rn_W (some .int) "follow" D dA tt b) {r : Int32} {f' : pl_H} {f : pl_H} {a0 : Nat} {x1 : Int32} {a2 : Nat} {H : Heap} {locs : List Loc} {ls : Array Slot} (hF : fn_W_follow f a0 x1 a2 = some (r, f')) (w : pl_wd D vwCl dA b n f H) (hS : va_S (pl_A b) s.heap H locs) (hl : lv_has ls 6 [(0, .ref a0), (1, .int x1), (2, .ref a2)]) : W p l e rm_W_follow s m args below meth c H locs 0 0 (MQ below (pl_qI D dA tt b n f' r) args s 0 0 (pl_A b)) (F0 m 0 ls []) := by
  have hx := C.1
  have hb := C.2.1
  have hown := C.2.2.2.2.1
  have hts := C.2.2.2.2.2.2.1
  unfold fn_W_follow at hF
  refine lv_aload_n hx hb dc_W_follow_0 rfl (lv_at hl 0 rfl) ?_
  refine lv_iload_n hx hb dc_W_follow_1 rfl (lv_at hl 1 rfl) ?_
  obtain ⟨f1, ef1, hF⟩ := pl_bd hF
  refine pl_put C w hS (ci := 6) in_W rfl (by decide) rty_W_ok rnm_W 2 (by decide) mw_228 rfl rfl rfl ef1 dc_W_follow_2 (fun H locs w hS => ?_)
  refine lv_aload_n hx hb dc_W_follow_5 rfl (lv_at hl 0 rfl) ?_
  refine lv_iconst (v := 0) hx hb dc_W_follow_6 (by decide) ?_
  obtain ⟨f2, ef2, hF⟩ := pl_bd hF
  refine pl_put C w hS (ci := 6) in_W rfl (by decide) rty_W_ok rnm_W 7 (by decide) mw_233 rfl rfl rfl ef2 dc_W_follow_7 (fun H locs w hS => ?_)
  refine lv_aload_n hx hb dc_W_follow_10 rfl (lv_at hl 0 rfl) ?_
  refine lv_iconst (v := 0) hx hb dc_W_follow_11 (by decide) ?_
  obtain ⟨f3, ef3, hF⟩ := pl_bd hF
  refine pl_put C w hS (ci := 6) in_W rfl (by decide) rty_W_ok rnm_W 8 (by decide) mw_234 rfl rfl rfl ef3 dc_W_follow_12 (fun H locs w hS => ?_)
  refine lv_aload_n hx hb dc_W_follow_15 rfl (lv_at hl 0 rfl) ?_
  refine lv_iconst (v := 0) hx hb dc_W_follow_16 (by decide) ?_
  refine lv_aload_n hx hb dc_W_follow_17 rfl (lv_at hl 2 rfl) ?_
  refine lv_aload_n hx hb dc_W_follow_18 rfl (lv_at hl 2 rfl) ?_
  obtain ⟨v4, ev4, hF⟩ := pl_bd hF
  refine pl_len C w ev4 dc_W_follow_19 ?_
  refine lv_iconst (v := 0) hx hb dc_W_follow_20 (by decide) ?_
  obtain ⟨u6, eu6, hF⟩ := pl_bd hF
  obtain ⟨q5, eq5, hF⟩ := pl_bd hF
  refine pl_gi (pl_runV (Cn := rn_W) (k := 4) C (tm_W_enterPart l D dA tt b n eq5) w hS rfl rfl mw_614 mw_616 mw_19 mw_71 mw_617 (by decide +kernel) ⟨by decide, by decide⟩ eu6 rfl (by decide) rfl hl.1 (Nat.le_of_ble_eq_true rfl) ⟨Nat.zero_le _, Nat.zero_le _⟩ rfl dc_W_follow_21) hS (fun H locs w hS => ?_)
  refine lv_if_ne hx hb dc_W_follow_24 (tgt := 29) (by decide) (fun hc => ?_) (fun hc => ?_)
  · have hF := (if_neg hc).symm.trans hF
    refine lv_iconst (v := 0) hx hb dc_W_follow_29 (by decide) ?_
    refine lv_istore_n (lv' := [(3, .int 0), (0, .ref a0), (1, .int x1), (2, .ref a2)]) hx hb dc_W_follow_30 rfl hl (by decide) rfl (fun ls hl => ?_)
    refine lv_iconst (v := 0) hx hb dc_W_follow_31 (by decide) ?_
    refine lv_istore (lv' := [(4, .int 0), (3, .int 0), (0, .ref a0), (1, .int x1), (2, .ref a2)]) hx hb dc_W_follow_32 hl (by decide) rfl (fun ls hl => ?_)
    exact tl_W_follow_34 C pl_N q5.2 a0 0 0 _ _ _ hF w hS (lv_sub hl [2, 1, 0] rfl)
  · have hF := (if_pos hc).symm.trans hF
    refine lv_iconst (v := (-1)) hx hb dc_W_follow_27 (by decide) ?_
    exact pl_retIw C w hS hF dc_W_follow_28
set_option maxHeartbeats 4000000 in
set_option maxRecDepth 100000 in
theorem tm_W_follow (l : Launch) (D : va_G) (dA : Nat → ClassId) (tt : Nat → Nat) (b n : Nat) {f : pl_H} {a0 : Nat} {x1 : Int32} {a2 : Nat} {r : Int32} {f' : pl_H} (hF : fn_W_follow f a0 x1 a2 = some (r, f')) : Met l my_W_follow (Cond.code my_W_follow co_W_follow 6 (some .int) :: pl_tb) rm_W_follow (va_Pc [.ref a0, .int x1, .ref a2] (pl_pre D dA tt b n f)) (pl_qI D dA tt b n f' r) 0 0 (pl_A b) := by
  refine Met.ofW (cc := co_W_follow) (maxL := 6) (ret := (some .int)) (by decide) rfl ?_
  intro p e s m args below meth c s₁ B hml hv
  obtain ⟨rfl, w, hK⟩ := hv
  have C : pl_C p s m _ meth c co_W_follow 6 rn_W (some .int) "follow" D dA tt b := ⟨B.exec, B.bytes, hml, B.returns, findClass_of_methodNamed B.named, B.notSynchronized, fun w hw => atoms_spec (ws := Cond.code my_W_follow co_W_follow 6 (some .int) :: pl_tb) B.pre w (List.mem_cons_of_mem _ hw), (name_of_methodNamed B.named B.method).1, hK⟩
  have hl := lv_entry ([.ref a0, .int x1, .ref a2]) (n := 6) (Nat.le_of_ble_eq_true rfl)
  rw [lg_entry_eq]
  generalize (lg_sl ([.ref a0, .int x1, .ref a2]) ++ List.replicate (6 - (lg_sl ([.ref a0, .int x1, .ref a2])).length) Slot.unset).toArray = ls at hl ⊢
  have hl : lv_has ls 6 [(0, .ref a0), (1, .int x1), (2, .ref a2)] := hl
  exact tl_W_follow C hF w va_S.rf hl
def rm_W_foundNonce : Room := { frames := 0, cells := 0, slots := 0, locals := 0 }
def fn_W_foundNonce (f : pl_H) (a0 : Nat) : Option (Int64) := (pl_gL f a0 6 9).bind fun v1 => some v1
set_option maxHeartbeats 4000000 in
set_option maxRecDepth 100000 in
theorem tl_W_foundNonce {p : Program} {l : Launch} {e : Env} {s : State} {m : MethodId} {args : Array Value} {below : List Frame} {meth : Method} {c : Code} {D : va_G} {dA : Nat → ClassId} {tt : Nat → Nat} {b n : Nat} (C : pl_C p s m args meth c co_W_foundNonce 1 rn_W (some .long) "foundNonce" D dA tt b) {r : Int64} {f : pl_H} {a0 : Nat} {H : Heap} {locs : List Loc} {ls : Array Slot} (hF : fn_W_foundNonce f a0 = some r) (w : pl_wd D vwCl dA b n f H) (hS : va_S (pl_A b) s.heap H locs) (hl : lv_has ls 1 [(0, .ref a0)]) : W p l e rm_W_foundNonce s m args below meth c H locs 0 0 (MQ below (pl_qL D dA tt b n f r) args s 0 0 (pl_A b)) (F0 m 0 ls []) := by
  have hx := C.1
  have hb := C.2.1
  have hown := C.2.2.2.2.1
  have hts := C.2.2.2.2.2.2.1
  unfold fn_W_foundNonce at hF
  refine lv_aload_n hx hb dc_W_foundNonce_0 rfl (lv_at hl 0 rfl) ?_
  obtain ⟨v1, ev1, hF⟩ := pl_bd hF
  refine pl_getL C w (ci := 6) in_W rfl (by decide) 9 (by decide) mw_235 ev1 dc_W_foundNonce_1 ?_
  exact pl_retL C w hS hF dc_W_foundNonce_4
set_option maxHeartbeats 4000000 in
set_option maxRecDepth 100000 in
theorem tm_W_foundNonce (l : Launch) (D : va_G) (dA : Nat → ClassId) (tt : Nat → Nat) (b n : Nat) {f : pl_H} {a0 : Nat} {r : Int64} (hF : fn_W_foundNonce f a0 = some r) : Met l my_W_foundNonce (Cond.code my_W_foundNonce co_W_foundNonce 1 (some .long) :: pl_tb) rm_W_foundNonce (va_Pc [.ref a0] (pl_pre D dA tt b n f)) (pl_qL D dA tt b n f r) 0 0 (pl_A b) := by
  refine Met.ofW (cc := co_W_foundNonce) (maxL := 1) (ret := (some .long)) (by decide) rfl ?_
  intro p e s m args below meth c s₁ B hml hv
  obtain ⟨rfl, w, hK⟩ := hv
  have C : pl_C p s m _ meth c co_W_foundNonce 1 rn_W (some .long) "foundNonce" D dA tt b := ⟨B.exec, B.bytes, hml, B.returns, findClass_of_methodNamed B.named, B.notSynchronized, fun w hw => atoms_spec (ws := Cond.code my_W_foundNonce co_W_foundNonce 1 (some .long) :: pl_tb) B.pre w (List.mem_cons_of_mem _ hw), (name_of_methodNamed B.named B.method).1, hK⟩
  have hl := lv_entry ([.ref a0]) (n := 1) (Nat.le_of_ble_eq_true rfl)
  rw [lg_entry_eq]
  generalize (lg_sl ([.ref a0]) ++ List.replicate (1 - (lg_sl ([.ref a0])).length) Slot.unset).toArray = ls at hl ⊢
  have hl : lv_has ls 1 [(0, .ref a0)] := hl
  exact tl_W_foundNonce C hF w va_S.rf hl
def rm_W_foundBalance : Room := { frames := 0, cells := 0, slots := 0, locals := 0 }
def fn_W_foundBalance (f : pl_H) (a0 : Nat) : Option (Int64) := (pl_gL f a0 6 10).bind fun v1 => some v1
set_option maxHeartbeats 4000000 in
set_option maxRecDepth 100000 in
theorem tl_W_foundBalance {p : Program} {l : Launch} {e : Env} {s : State} {m : MethodId} {args : Array Value} {below : List Frame} {meth : Method} {c : Code} {D : va_G} {dA : Nat → ClassId} {tt : Nat → Nat} {b n : Nat} (C : pl_C p s m args meth c co_W_foundBalance 1 rn_W (some .long) "foundBalance" D dA tt b) {r : Int64} {f : pl_H} {a0 : Nat} {H : Heap} {locs : List Loc} {ls : Array Slot} (hF : fn_W_foundBalance f a0 = some r) (w : pl_wd D vwCl dA b n f H) (hS : va_S (pl_A b) s.heap H locs) (hl : lv_has ls 1 [(0, .ref a0)]) : W p l e rm_W_foundBalance s m args below meth c H locs 0 0 (MQ below (pl_qL D dA tt b n f r) args s 0 0 (pl_A b)) (F0 m 0 ls []) := by
  have hx := C.1
  have hb := C.2.1
  have hown := C.2.2.2.2.1
  have hts := C.2.2.2.2.2.2.1
  unfold fn_W_foundBalance at hF
  refine lv_aload_n hx hb dc_W_foundBalance_0 rfl (lv_at hl 0 rfl) ?_
  obtain ⟨v1, ev1, hF⟩ := pl_bd hF
  refine pl_getL C w (ci := 6) in_W rfl (by decide) 10 (by decide) mw_236 ev1 dc_W_foundBalance_1 ?_
  exact pl_retL C w hS hF dc_W_foundBalance_4
set_option maxHeartbeats 4000000 in
set_option maxRecDepth 100000 in
theorem tm_W_foundBalance (l : Launch) (D : va_G) (dA : Nat → ClassId) (tt : Nat → Nat) (b n : Nat) {f : pl_H} {a0 : Nat} {r : Int64} (hF : fn_W_foundBalance f a0 = some r) : Met l my_W_foundBalance (Cond.code my_W_foundBalance co_W_foundBalance 1 (some .long) :: pl_tb) rm_W_foundBalance (va_Pc [.ref a0] (pl_pre D dA tt b n f)) (pl_qL D dA tt b n f r) 0 0 (pl_A b) := by
  refine Met.ofW (cc := co_W_foundBalance) (maxL := 1) (ret := (some .long)) (by decide) rfl ?_
  intro p e s m args below meth c s₁ B hml hv
  obtain ⟨rfl, w, hK⟩ := hv
  have C : pl_C p s m _ meth c co_W_foundBalance 1 rn_W (some .long) "foundBalance" D dA tt b := ⟨B.exec, B.bytes, hml, B.returns, findClass_of_methodNamed B.named, B.notSynchronized, fun w hw => atoms_spec (ws := Cond.code my_W_foundBalance co_W_foundBalance 1 (some .long) :: pl_tb) B.pre w (List.mem_cons_of_mem _ hw), (name_of_methodNamed B.named B.method).1, hK⟩
  have hl := lv_entry ([.ref a0]) (n := 1) (Nat.le_of_ble_eq_true rfl)
  rw [lg_entry_eq]
  generalize (lg_sl ([.ref a0]) ++ List.replicate (1 - (lg_sl ([.ref a0])).length) Slot.unset).toArray = ls at hl ⊢
  have hl : lv_has ls 1 [(0, .ref a0)] := hl
  exact tl_W_foundBalance C hF w va_S.rf hl
