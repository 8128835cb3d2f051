def rm_T_outdate : Room := { frames := 0, cells := 0, slots := 0, locals := 0 }
def fn_T_outdate (f : pl_H) (a0 : Nat) : Option (pl_H) := (pl_pV f a0 5 8 (.int 1)).bind fun f1 => some f1
set_option maxHeartbeats 4000000 in
set_option maxRecDepth 100000 in
theorem tl_T_outdate {p : Program} {l : Launch} {e : Env} {s : State} {m : MethodId} {args : Array Value} {below : List Frame} {meth : Method} {c : Code} {D : va_G} {dA : Nat → ClassId} {tt : Nat → Nat} {b n : Nat} (C : pl_C p s m args meth c co_T_outdate 1 rn_T none "outdate" D dA tt b) {f' : pl_H} {f : pl_H} {a0 : Nat} {H : Heap} {locs : List Loc} {ls : Array Slot} (hF : fn_T_outdate f a0 = some f') (w : pl_wd D vwCl dA b n f H) (hS : va_S (pl_A b) s.heap H locs) (hl : lv_has ls 1 [(0, .ref a0)]) : W p l e rm_T_outdate s m args below meth c H locs 0 0 (MQ below (pl_qV D dA tt b n f') args s 0 0 (pl_A b)) (F0 m 0 ls []) := by
  have hx := C.1
  have hb := C.2.1
  have hown := C.2.2.2.2.1
  have hts := C.2.2.2.2.2.2.1
  unfold fn_T_outdate at hF
  refine lv_aload_n hx hb dc_T_outdate_0 rfl (lv_at hl 0 rfl) ?_
  refine lv_iconst (v := 1) hx hb dc_T_outdate_1 (by decide) ?_
  obtain ⟨f1, ef1, hF⟩ := pl_bd hF
  refine pl_put C w hS (ci := 5) in_T rfl (by decide) rty_T_ok rnm_T 8 (by decide) mw_178 rfl rfl rfl ef1 dc_T_outdate_2 (fun H locs w hS => ?_)
  exact pl_retVw C w hS hF dc_T_outdate_5
set_option maxHeartbeats 4000000 in
set_option maxRecDepth 100000 in
theorem tm_T_outdate (l : Launch) (D : va_G) (dA : Nat → ClassId) (tt : Nat → Nat) (b n : Nat) {f : pl_H} {a0 : Nat} {f' : pl_H} (hF : fn_T_outdate f a0 = some f') : Met l my_T_outdate (Cond.code my_T_outdate co_T_outdate 1 none :: pl_tb) rm_T_outdate (va_Pc [.ref a0] (pl_pre D dA tt b n f)) (pl_qV D dA tt b n f') 0 0 (pl_A b) := by
  refine Met.ofW (cc := co_T_outdate) (maxL := 1) (ret := none) (by decide) rfl ?_
  intro p e s m args below meth c s₁ B hml hv
  obtain ⟨rfl, w, hK⟩ := hv
  have C : pl_C p s m _ meth c co_T_outdate 1 rn_T none "outdate" D dA tt b := ⟨B.exec, B.bytes, hml, B.returns, findClass_of_methodNamed B.named, B.notSynchronized, fun w hw => atoms_spec (ws := Cond.code my_T_outdate co_T_outdate 1 none :: pl_tb) B.pre w (List.mem_cons_of_mem _ hw), (name_of_methodNamed B.named B.method).1, hK⟩
  have hl := lv_entry ([.ref a0]) (n := 1) (Nat.le_of_ble_eq_true rfl)
  rw [lg_entry_eq]
  generalize (lg_sl ([.ref a0]) ++ List.replicate (1 - (lg_sl ([.ref a0])).length) Slot.unset).toArray = ls at hl ⊢
  have hl : lv_has ls 1 [(0, .ref a0)] := hl
  exact tl_T_outdate C hF w va_S.rf hl
def rm_T_take : Room := { frames := 1, cells := 0, slots := 0, locals := 25 }
def fn_T_take_35 (f : pl_H) (a0 : Nat) (x1 : Int32) (x2 : Int32) (x3 : Int32) (x4 : Int32) (r5 : Option Nat) : Option (Nat × pl_H) := r5.bind fun a1 => (pl_is f a1 3).bind fun u3 => (fn_N_become f a1 x1 x2 x3 x4).bind fun q2 => (pl_gR q2 a0 5 4).bind fun v4 => (pl_aI q2 v4 x1).bind fun v5 => (pl_sI q2 v4 x1 (v5 + 1)).bind fun f6 => some (a1, f6)
def fn_T_take (f : pl_H) (a0 : Nat) (x1 : Int32) (x2 : Int32) (x3 : Int32) (x4 : Int32) : Option (Nat × pl_H) := (pl_gR f a0 5 3).bind fun v1 => (pl_gI f a0 5 6).bind fun v2 => (pl_aQ f 2 v1 v2).bind fun r3 => (pl_gI f a0 5 6).bind fun v4 => (pl_gR f a0 5 3).bind fun v5 => (pl_ln f v5).bind fun v6 => if (v6 - 1) ≤ v4 then fn_T_take_35 f a0 x1 x2 x3 x4 r3 else (pl_gI f a0 5 6).bind fun v7 => (pl_pV f a0 5 6 (.int (v7 + 1))).bind fun f8 => fn_T_take_35 f8 a0 x1 x2 x3 x4 r3
set_option maxHeartbeats 4000000 in
set_option maxRecDepth 100000 in
theorem tl_T_take_35 {p : Program} {l : Launch} {e : Env} {s : State} {m : MethodId} {args : Array Value} {below : List Frame} {meth : Method} {c : Code} {D : va_G} {dA : Nat → ClassId} {tt : Nat → Nat} {b n : Nat} (C : pl_C p s m args meth c co_T_take 6 rn_T (some (.object "ProvenLedger$Node")) "take" D dA tt b) {r : Nat} {f' : pl_H} {f : pl_H} {a0 : Nat} {x1 : Int32} {x2 : Int32} {x3 : Int32} {x4 : Int32} {r5 : Option Nat} {H : Heap} {locs : List Loc} {ls : Array Slot} (hF : fn_T_take_35 f a0 x1 x2 x3 x4 r5 = some (r, f')) (w : pl_wd D vwCl dA b n f H) (hS : va_S (pl_A b) s.heap H locs) (hl : lv_has ls 6 [(0, .ref a0), (1, .int x1), (2, .int x2), (3, .int x3), (4, .int x4), (5, va_rf r5)]) : W p l e rm_T_take s m args below meth c H locs 0 0 (MQ below (pl_qQ D dA tt b n f' (some r)) args s 0 0 (pl_A b)) (F0 m 35 ls []) := by
  have hx := C.1
  have hb := C.2.1
  have hown := C.2.2.2.2.1
  have hts := C.2.2.2.2.2.2.1
  unfold fn_T_take_35 at hF
  refine pl_aload hx hb dc_T_take_35 (lv_at hl 5 rfl) ?_
  refine lv_iload_n hx hb dc_T_take_37 rfl (lv_at hl 1 rfl) ?_
  refine lv_iload_n hx hb dc_T_take_38 rfl (lv_at hl 2 rfl) ?_
  refine lv_iload_n hx hb dc_T_take_39 rfl (lv_at hl 3 rfl) ?_
  refine lv_iload hx hb dc_T_take_40 (lv_at hl 4 rfl) ?_
  obtain ⟨a1, hz, hG⟩ := pl_bd hF
  clear hF
  subst hz
  have hF := hG
  clear hG
  have hl : lv_has ls 6 [(0, .ref a0), (1, .int x1), (2, .int x2), (3, .int x3), (4, .int x4), (5, .ref a1)] := hl
  obtain ⟨u3, eu3, hF⟩ := pl_bd hF
  obtain ⟨q2, eq2, hF⟩ := pl_bd hF
  refine pl_gv (pl_runV (Cn := rn_N) (k := 4) C (tm_N_become l D dA tt b n eq2) w hS rfl rfl mw_390 mw_391 mw_392 mw_69 mw_393 (by decide +kernel) ⟨by decide, by decide⟩ eu3 rfl (by decide) rfl hl.1 (Nat.le_of_ble_eq_true rfl) ⟨Nat.zero_le _, Nat.zero_le _⟩ rfl dc_T_take_42) hS (fun H locs w hS => ?_)
  refine lv_aload_n hx hb dc_T_take_45 rfl (lv_at hl 0 rfl) ?_
  obtain ⟨v4, ev4, hF⟩ := pl_bd hF
  refine pl_getR C w (ci := 5) in_T rfl (by decide) 4 (by decide) mw_174 ev4 dc_T_take_46 ?_
  refine lv_iload_n hx hb dc_T_take_49 rfl (lv_at hl 1 rfl) ?_
  refine lv_dup2_11 hx hb dc_T_take_50 rfl rfl ?_
  obtain ⟨v5, ev5, hF⟩ := pl_bd hF
  refine pl_aldI C w ev5 dc_T_take_51 ?_
  refine lv_iconst (v := 1) hx hb dc_T_take_52 (by decide) ?_
  refine lv_iadd hx hb dc_T_take_53 ?_
  obtain ⟨f6, ef6, hF⟩ := pl_bd hF
  refine pl_astI C w hS ef6 dc_T_take_54 (fun H locs w hS => ?_)
  refine lv_aload hx hb dc_T_take_55 (lv_at hl 5 rfl) ?_
  exact pl_retRw C w hS hF (by first | exact Or.inl ⟨_, rfl⟩ | exact Or.inr ⟨_, rfl⟩) dc_T_take_57
set_option maxHeartbeats 4000000 in
set_option maxRecDepth 100000 in
theorem tl_T_take {p : Program} {l : Launch} {e : Env} {s : State} {m : MethodId} {args : Array Value} {below : List Frame} {meth : Method} {c : Code} {D : va_G} {dA : Nat → ClassId} {tt : Nat → Nat} {b n : Nat} (C : pl_C p s m args meth c co_T_take 6 rn_T (some (.object "ProvenLedger$Node")) "take" D dA tt b) {r : Nat} {f' : pl_H} {f : pl_H} {a0 : Nat} {x1 : Int32} {x2 : Int32} {x3 : Int32} {x4 : Int32} {H : Heap} {locs : List Loc} {ls : Array Slot} (hF : fn_T_take f a0 x1 x2 x3 x4 = some (r, f')) (w : pl_wd D vwCl dA b n f H) (hS : va_S (pl_A b) s.heap H locs) (hl : lv_has ls 6 [(0, .ref a0), (1, .int x1), (2, .int x2), (3, .int x3), (4, .int x4)]) : W p l e rm_T_take s m args below meth c H locs 0 0 (MQ below (pl_qQ D dA tt b n f' (some r)) args s 0 0 (pl_A b)) (F0 m 0 ls []) := by
  have hx := C.1
  have hb := C.2.1
  have hown := C.2.2.2.2.1
  have hts := C.2.2.2.2.2.2.1
  unfold fn_T_take at hF
  refine lv_aload_n hx hb dc_T_take_0 rfl (lv_at hl 0 rfl) ?_
  obtain ⟨v1, ev1, hF⟩ := pl_bd hF
  refine pl_getR C w (ci := 5) in_T rfl (by decide) 3 (by decide) mw_173 ev1 dc_T_take_1 ?_
  refine lv_aload_n hx hb dc_T_take_4 rfl (lv_at hl 0 rfl) ?_
  obtain ⟨v2, ev2, hF⟩ := pl_bd hF
  refine pl_getI C w (ci := 5) in_T rfl (by decide) 6 (by decide) mw_176 ev2 dc_T_take_5 ?_
  obtain ⟨r3, er3, hF⟩ := pl_bd hF
  refine pl_aldQ2 C w er3 dc_T_take_8 ?_
  refine pl_astore (lv' := [(5, va_rf r3), (0, .ref a0), (1, .int x1), (2, .int x2), (3, .int x3), (4, .int x4)]) hx hb dc_T_take_9 hl (by decide) rfl (fun ls hl => ?_)
  refine lv_aload_n hx hb dc_T_take_11 rfl (lv_at hl 1 rfl) ?_
  obtain ⟨v4, ev4, hF⟩ := pl_bd hF
  refine pl_getI C w (ci := 5) in_T rfl (by decide) 6 (by decide) mw_176 ev4 dc_T_take_12 ?_
  refine lv_aload_n hx hb dc_T_take_15 rfl (lv_at hl 1 rfl) ?_
  obtain ⟨v5, ev5, hF⟩ := pl_bd hF
  refine pl_getR C w (ci := 5) in_T rfl (by decide) 3 (by decide) mw_173 ev5 dc_T_take_16 ?_
  obtain ⟨v6, ev6, hF⟩ := pl_bd hF
  refine pl_len C w ev6 dc_T_take_19 ?_
  refine lv_iconst (v := 1) hx hb dc_T_take_20 (by decide) ?_
  refine lv_isub hx hb dc_T_take_21 ?_
  refine lv_icmp_ge hx hb dc_T_take_22 (tgt := 35) (by decide) (fun hc => ?_) (fun hc => ?_)
  · have hF := (if_pos hc).symm.trans hF
    exact tl_T_take_35 C hF w hS (lv_sub hl [1, 2, 3, 4, 5, 0] rfl)
  · have hF := (if_neg hc).symm.trans hF
    refine lv_aload_n hx hb dc_T_take_25 rfl (lv_at hl 1 rfl) ?_
    refine lv_dup hx hb dc_T_take_26 rfl ?_
    obtain ⟨v7, ev7, hF⟩ := pl_bd hF
    refine pl_getI C w (ci := 5) in_T rfl (by decide) 6 (by decide) mw_176 ev7 dc_T_take_27 ?_
    refine lv_iconst (v := 1) hx hb dc_T_take_30 (by decide) ?_
    refine lv_iadd hx hb dc_T_take_31 ?_
    obtain ⟨f8, ef8, hF⟩ := pl_bd hF
    refine pl_put C w hS (ci := 5) in_T rfl (by decide) rty_T_ok rnm_T 6 (by decide) mw_176 rfl rfl rfl ef8 dc_T_take_32 (fun H locs w hS => ?_)
    exact tl_T_take_35 C hF w hS (lv_sub hl [1, 2, 3, 4, 5, 0] rfl)
set_option maxHeartbeats 4000000 in
set_option maxRecDepth 100000 in
theorem tm_T_take (l : Launch) (D : va_G) (dA : Nat → ClassId) (tt : Nat → Nat) (b n : Nat) {f : pl_H} {a0 : Nat} {x1 : Int32} {x2 : Int32} {x3 : Int32} {x4 : Int32} {r : Nat} {f' : pl_H} (hF : fn_T_take f a0 x1 x2 x3 x4 = some (r, f')) : Met l my_T_take (Cond.code my_T_take co_T_take 6 (some (.object "ProvenLedger$Node")) :: pl_tb) rm_T_take (va_Pc [.ref a0, .int x1, .int x2, .int x3, .int x4] (pl_pre D dA tt b n f)) (pl_qQ D dA tt b n f' (some r)) 0 0 (pl_A b) := by
  refine Met.ofW (cc := co_T_take) (maxL := 6) (ret := (some (.object "ProvenLedger$Node"))) (by decide) rfl ?_
  intro p e s m args below meth c s₁ B hml hv
  obtain ⟨rfl, w, hK⟩ := hv
  have C : pl_C p s m _ meth c co_T_take 6 rn_T (some (.object "ProvenLedger$Node")) "take" D dA tt b := ⟨B.exec, B.bytes, hml, B.returns, findClass_of_methodNamed B.named, B.notSynchronized, fun w hw => atoms_spec (ws := Cond.code my_T_take co_T_take 6 (some (.object "ProvenLedger$Node")) :: pl_tb) B.pre w (List.mem_cons_of_mem _ hw), (name_of_methodNamed B.named B.method).1, hK⟩
  have hl := lv_entry ([.ref a0, .int x1, .int x2, .int x3, .int x4]) (n := 6) (Nat.le_of_ble_eq_true rfl)
  rw [lg_entry_eq]
  generalize (lg_sl ([.ref a0, .int x1, .int x2, .int x3, .int x4]) ++ List.replicate (6 - (lg_sl ([.ref a0, .int x1, .int x2, .int x3, .int x4])).length) Slot.unset).toArray = ls at hl ⊢
  have hl : lv_has ls 6 [(0, .ref a0), (1, .int x1), (2, .int x2), (3, .int x3), (4, .int x4)] := hl
  exact tl_T_take C hF w va_S.rf hl
def rm_T_finish : Room := { frames := 1, cells := 0, slots := 0, locals := 20 }
def fn_T_finish (f : pl_H) (a0 : Nat) (a1 : Nat) (x2 : Int32) : Option (Nat × pl_H) := (pl_pV f a1 3 5 (.int x2)).bind fun f1 => (pl_gR f1 a0 5 2).bind fun v2 => (pl_is f1 v2 1).bind fun u4 => (fn_C_used f1 v2).bind fun v3 => (pl_pV f1 a1 3 6 (.int (v3 - x2))).bind fun f5 => some (a1, f5)
set_option maxHeartbeats 4000000 in
set_option maxRecDepth 100000 in
theorem tl_T_finish {p : Program} {l : Launch} {e : Env} {s : State} {m : MethodId} {args : Array Value} {below : List Frame} {meth : Method} {c : Code} {D : va_G} {dA : Nat → ClassId} {tt : Nat → Nat} {b n : Nat} (C : pl_C p s m args meth c co_T_finish 3 rn_T (some (.object "ProvenLedger$Node")) "finish" D dA tt b) {r : Nat} {f' : pl_H} {f : pl_H} {a0 : Nat} {a1 : Nat} {x2 : Int32} {H : Heap} {locs : List Loc} {ls : Array Slot} (hF : fn_T_finish f a0 a1 x2 = some (r, f')) (w : pl_wd D vwCl dA b n f H) (hS : va_S (pl_A b) s.heap H locs) (hl : lv_has ls 3 [(0, .ref a0), (1, .ref a1), (2, .int x2)]) : W p l e rm_T_finish s m args below meth c H locs 0 0 (MQ below (pl_qQ D dA tt b n f' (some r)) args s 0 0 (pl_A b)) (F0 m 0 ls []) := by
  have hx := C.1
  have hb := C.2.1
  have hown := C.2.2.2.2.1
  have hts := C.2.2.2.2.2.2.1
  unfold fn_T_finish at hF
  refine lv_aload_n hx hb dc_T_finish_0 rfl (lv_at hl 1 rfl) ?_
  refine lv_iload_n hx hb dc_T_finish_1 rfl (lv_at hl 2 rfl) ?_
  obtain ⟨f1, ef1, hF⟩ := pl_bd hF
  refine pl_putN C w hS (ci := 3) in_N rfl (by decide) rty_N_ok rnm_N 5 (by decide) C.2.2.2.2.2.2.2.2.2.2.2.1 rfl rfl rfl ef1 dc_T_finish_2 (fun H locs w hS => ?_)
  refine lv_aload_n hx hb dc_T_finish_5 rfl (lv_at hl 1 rfl) ?_
  refine lv_aload_n hx hb dc_T_finish_6 rfl (lv_at hl 0 rfl) ?_
  obtain ⟨v2, ev2, hF⟩ := pl_bd hF
  refine pl_getR C w (ci := 5) in_T rfl (by decide) 2 (by decide) mw_172 ev2 dc_T_finish_7 ?_
  obtain ⟨u4, eu4, hF⟩ := pl_bd hF
  obtain ⟨v3, ev3, hF⟩ := pl_bd hF
  refine pl_gi (pl_runV (Cn := rn_C) (k := 0) C (tm_C_used l D dA tt b n ev3) w hS rfl rfl mw_414 mw_415 mw_416 mw_68 mw_417 (by decide +kernel) ⟨by decide, by decide⟩ eu4 rfl (by decide) rfl hl.1 (Nat.le_of_ble_eq_true rfl) ⟨Nat.zero_le _, Nat.zero_le _⟩ rfl dc_T_finish_10) hS (fun H locs w hS => ?_)
  refine lv_iload_n hx hb dc_T_finish_13 rfl (lv_at hl 2 rfl) ?_
  refine lv_isub hx hb dc_T_finish_14 ?_
  obtain ⟨f5, ef5, hF⟩ := pl_bd hF
  refine pl_putN C w hS (ci := 3) in_N rfl (by decide) rty_N_ok rnm_N 6 (by decide) C.2.2.2.2.2.2.2.2.2.2.2.2.1 rfl rfl rfl ef5 dc_T_finish_15 (fun H locs w hS => ?_)
  refine lv_aload_n hx hb dc_T_finish_18 rfl (lv_at hl 1 rfl) ?_
  exact pl_retRw C w hS hF (by first | exact Or.inl ⟨_, rfl⟩ | exact Or.inr ⟨_, rfl⟩) dc_T_finish_19
set_option maxHeartbeats 4000000 in
set_option maxRecDepth 100000 in
theorem tm_T_finish (l : Launch) (D : va_G) (dA : Nat → ClassId) (tt : Nat → Nat) (b n : Nat) {f : pl_H} {a0 : Nat} {a1 : Nat} {x2 : Int32} {r : Nat} {f' : pl_H} (hF : fn_T_finish f a0 a1 x2 = some (r, f')) : Met l my_T_finish (Cond.code my_T_finish co_T_finish 3 (some (.object "ProvenLedger$Node")) :: pl_tb) rm_T_finish (va_Pc [.ref a0, .ref a1, .int x2] (pl_pre D dA tt b n f)) (pl_qQ D dA tt b n f' (some r)) 0 0 (pl_A b) := by
  refine Met.ofW (cc := co_T_finish) (maxL := 3) (ret := (some (.object "ProvenLedger$Node"))) (by decide) rfl ?_
  intro p e s m args below meth c s₁ B hml hv
  obtain ⟨rfl, w, hK⟩ := hv
  have C : pl_C p s m _ meth c co_T_finish 3 rn_T (some (.object "ProvenLedger$Node")) "finish" D dA tt b := ⟨B.exec, B.bytes, hml, B.returns, findClass_of_methodNamed B.named, B.notSynchronized, fun w hw => atoms_spec (ws := Cond.code my_T_finish co_T_finish 3 (some (.object "ProvenLedger$Node")) :: pl_tb) B.pre w (List.mem_cons_of_mem _ hw), (name_of_methodNamed B.named B.method).1, hK⟩
  have hl := lv_entry ([.ref a0, .ref a1, .int x2]) (n := 3) (Nat.le_of_ble_eq_true rfl)
  rw [lg_entry_eq]
  generalize (lg_sl ([.ref a0, .ref a1, .int x2]) ++ List.replicate (3 - (lg_sl ([.ref a0, .ref a1, .int x2])).length) Slot.unset).toArray = ls at hl ⊢
  have hl : lv_has ls 3 [(0, .ref a0), (1, .ref a1), (2, .int x2)] := hl
  exact tl_T_finish C hF w va_S.rf hl
def rm_T_growNothing : Room := { frames := 3, cells := 0, slots := 0, locals := 69 }
def fn_T_growNothing (f : pl_H) (a0 : Nat) : Option (Nat × pl_H) := (pl_is f a0 5).bind fun u2 => (fn_T_take f a0 3 0 0 0).bind fun q1 => (pl_gR q1.2 a0 5 2).bind fun v3 => (pl_is q1.2 v3 1).bind fun u5 => (fn_C_open q1.2 v3).bind fun q4 => (pl_gR q4.2 a0 5 2).bind fun v6 => (pl_is q4.2 v6 1).bind fun u8 => (fn_C_shut q4.2 v6 q4.1 128).bind fun q7 => (pl_is q7 a0 5).bind fun u10 => (fn_T_finish q7 a0 q1.1 q4.1).bind fun q9 => some (q9.1, q9.2)
set_option maxHeartbeats 4000000 in
set_option maxRecDepth 100000 in
theorem tl_T_growNothing {p : Program} {l : Launch} {e : Env} {s : State} {m : MethodId} {args : Array Value} {below : List Frame} {meth : Method} {c : Code} {D : va_G} {dA : Nat → ClassId} {tt : Nat → Nat} {b n : Nat} (C : pl_C p s m args meth c co_T_growNothing 3 rn_T (some (.object "ProvenLedger$Node")) "growNothing" D dA tt b) {r : Nat} {f' : pl_H} {f : pl_H} {a0 : Nat} {H : Heap} {locs : List Loc} {ls : Array Slot} (hF : fn_T_growNothing f a0 = some (r, f')) (w : pl_wd D vwCl dA b n f H) (hS : va_S (pl_A b) s.heap H locs) (hl : lv_has ls 3 [(0, .ref a0)]) : W p l e rm_T_growNothing s m args below meth c H locs 0 0 (MQ below (pl_qQ D dA tt b n f' (some r)) args s 0 0 (pl_A b)) (F0 m 0 ls []) := by
  have hx := C.1
  have hb := C.2.1
  have hown := C.2.2.2.2.1
  have hts := C.2.2.2.2.2.2.1
  unfold fn_T_growNothing at hF
  refine lv_aload_n hx hb dc_T_growNothing_0 rfl (lv_at hl 0 rfl) ?_
  refine lv_iconst (v := 3) hx hb dc_T_growNothing_1 (by decide) ?_
  refine lv_iconst (v := 0) hx hb dc_T_growNothing_2 (by decide) ?_
  refine lv_iconst (v := 0) hx hb dc_T_growNothing_3 (by decide) ?_
  refine lv_iconst (v := 0) hx hb dc_T_growNothing_4 (by decide) ?_
  obtain ⟨u2, eu2, hF⟩ := pl_bd hF
  obtain ⟨q1, eq1, hF⟩ := pl_bd hF
  refine pl_gr (pl_runV (Cn := rn_T) (k := 4) C (tm_T_take l D dA tt b n eq1) w hS rfl rfl mw_386 mw_388 mw_6 mw_67 mw_389 (by decide +kernel) ⟨by decide, by decide⟩ eu2 rfl (by decide) rfl hl.1 (Nat.le_of_ble_eq_true rfl) ⟨Nat.zero_le _, Nat.zero_le _⟩ rfl dc_T_growNothing_5) hS (fun H locs w hS => ?_)
  refine lv_astore_n (lv' := [(1, .ref q1.1), (0, .ref a0)]) hx hb dc_T_growNothing_8 rfl hl (by decide) rfl (fun ls hl => ?_)
  refine lv_aload_n hx hb dc_T_growNothing_9 rfl (lv_at hl 1 rfl) ?_
  obtain ⟨v3, ev3, hF⟩ := pl_bd hF
  refine pl_getR C w (ci := 5) in_T rfl (by decide) 2 (by decide) mw_172 ev3 dc_T_growNothing_10 ?_
  obtain ⟨u5, eu5, hF⟩ := pl_bd hF
  obtain ⟨q4, eq4, hF⟩ := pl_bd hF
  refine pl_gi (pl_runV (Cn := rn_C) (k := 0) C (tm_C_open l D dA tt b n eq4) w hS rfl rfl mw_394 mw_395 mw_396 mw_68 mw_397 (by decide +kernel) ⟨by decide, by decide⟩ eu5 rfl (by decide) rfl hl.1 (Nat.le_of_ble_eq_true rfl) ⟨Nat.zero_le _, Nat.zero_le _⟩ rfl dc_T_growNothing_13) hS (fun H locs w hS => ?_)
  refine lv_istore_n (lv' := [(2, .int q4.1), (1, .ref q1.1), (0, .ref a0)]) hx hb dc_T_growNothing_16 rfl hl (by decide) rfl (fun ls hl => ?_)
  refine lv_aload_n hx hb dc_T_growNothing_17 rfl (lv_at hl 2 rfl) ?_
  obtain ⟨v6, ev6, hF⟩ := pl_bd hF
  refine pl_getR C w (ci := 5) in_T rfl (by decide) 2 (by decide) mw_172 ev6 dc_T_growNothing_18 ?_
  refine lv_iload_n hx hb dc_T_growNothing_21 rfl (lv_at hl 0 rfl) ?_
  refine lv_sipush (v := 128) hx hb dc_T_growNothing_22 (by decide) ?_
  obtain ⟨u8, eu8, hF⟩ := pl_bd hF
  obtain ⟨q7, eq7, hF⟩ := pl_bd hF
  refine pl_gv (pl_runV (Cn := rn_C) (k := 2) C (tm_C_shut l D dA tt b n eq7) w hS rfl rfl mw_402 mw_403 mw_404 mw_68 mw_405 (by decide +kernel) ⟨by decide, by decide⟩ eu8 rfl (by decide) rfl hl.1 (Nat.le_of_ble_eq_true rfl) ⟨Nat.zero_le _, Nat.zero_le _⟩ rfl dc_T_growNothing_25) hS (fun H locs w hS => ?_)
  refine lv_aload_n hx hb dc_T_growNothing_28 rfl (lv_at hl 2 rfl) ?_
  refine lv_aload_n hx hb dc_T_growNothing_29 rfl (lv_at hl 1 rfl) ?_
  refine lv_iload_n hx hb dc_T_growNothing_30 rfl (lv_at hl 0 rfl) ?_
  obtain ⟨u10, eu10, hF⟩ := pl_bd hF
  obtain ⟨q9, eq9, hF⟩ := pl_bd hF
  refine pl_gr (pl_runV (Cn := rn_T) (k := 2) C (tm_T_finish l D dA tt b n eq9) w hS rfl rfl mw_410 mw_412 mw_8 mw_67 mw_413 (by decide +kernel) ⟨by decide, by decide⟩ eu10 rfl (by decide) rfl hl.1 (Nat.le_of_ble_eq_true rfl) ⟨Nat.zero_le _, Nat.zero_le _⟩ rfl dc_T_growNothing_31) hS (fun H locs w hS => ?_)
  exact pl_retRw C w hS hF (by first | exact Or.inl ⟨_, rfl⟩ | exact Or.inr ⟨_, rfl⟩) dc_T_growNothing_34
set_option maxHeartbeats 4000000 in
set_option maxRecDepth 100000 in
theorem tm_T_growNothing (l : Launch) (D : va_G) (dA : Nat → ClassId) (tt : Nat → Nat) (b n : Nat) {f : pl_H} {a0 : Nat} {r : Nat} {f' : pl_H} (hF : fn_T_growNothing f a0 = some (r, f')) : Met l my_T_growNothing (Cond.code my_T_growNothing co_T_growNothing 3 (some (.object "ProvenLedger$Node")) :: pl_tb) rm_T_growNothing (va_Pc [.ref a0] (pl_pre D dA tt b n f)) (pl_qQ D dA tt b n f' (some r)) 0 0 (pl_A b) := by
  refine Met.ofW (cc := co_T_growNothing) (maxL := 3) (ret := (some (.object "ProvenLedger$Node"))) (by decide) rfl ?_
  intro p e s m args below meth c s₁ B hml hv
  obtain ⟨rfl, w, hK⟩ := hv
  have C : pl_C p s m _ meth c co_T_growNothing 3 rn_T (some (.object "ProvenLedger$Node")) "growNothing" D dA tt b := ⟨B.exec, B.bytes, hml, B.returns, findClass_of_methodNamed B.named, B.notSynchronized, fun w hw => atoms_spec (ws := Cond.code my_T_growNothing co_T_growNothing 3 (some (.object "ProvenLedger$Node")) :: pl_tb) B.pre w (List.mem_cons_of_mem _ hw), (name_of_methodNamed B.named B.method).1, hK⟩
  have hl := lv_entry ([.ref a0]) (n := 3) (Nat.le_of_ble_eq_true rfl)
  rw [lg_entry_eq]
  generalize (lg_sl ([.ref a0]) ++ List.replicate (3 - (lg_sl ([.ref a0])).length) Slot.unset).toArray = ls at hl ⊢
  have hl : lv_has ls 3 [(0, .ref a0)] := hl
  exact tl_T_growNothing C hF w va_S.rf hl
def rm_T_growLeaf : Room := { frames := 4, cells := 0, slots := 0, locals := 97 }
def fn_T_growLeaf (f : pl_H) (a0 : Nat) (x1 : Int32) (x2 : Int32) : Option (Nat × pl_H) := (pl_is f a0 5).bind fun u2 => (fn_T_take f a0 0 x1 x2 4).bind fun q1 => (pl_gR q1.2 a0 5 2).bind fun v3 => (pl_is q1.2 v3 1).bind fun u5 => (fn_C_open q1.2 v3).bind fun q4 => (pl_gR q4.2 a0 5 2).bind fun v6 => (pl_is q4.2 v6 1).bind fun u8 => (fn_C_putDigits q4.2 v6 x1 x2 4 1).bind fun q7 => (pl_gR q7 a0 5 2).bind fun v9 => (pl_is q7 v9 1).bind fun u11 => (fn_C_open q7 v9).bind fun q10 => (pl_gR q10.2 a0 5 2).bind fun v12 => (pl_is q10.2 v12 1).bind fun u14 => (fn_C_open q10.2 v12).bind fun q13 => (pl_gR q13.2 a0 5 2).bind fun v15 => (pl_gR q13.2 a0 5 0).bind fun v16 => (pl_is q13.2 v16 0).bind fun u18 => (fn_B_nonceOf q13.2 v16 x1).bind fun v17 => (pl_is q13.2 v15 1).bind fun u20 => (fn_C_putNumber q13.2 v15 ((v17 : Int32).toInt64)).bind fun q19 => (pl_gR q19 a0 5 2).bind fun v21 => (pl_gR q19 a0 5 0).bind fun v22 => (pl_is q19 v22 0).bind fun u24 => (fn_B_balanceOf q19 v22 x1).bind fun v23 => (pl_is q19 v21 1).bind fun u26 => (fn_C_putNumber q19 v21 v23).bind fun q25 => (pl_gR q25 a0 5 2).bind fun v27 => (pl_is q25 v27 1).bind fun u29 => (fn_C_shut q25 v27 q13.1 192).bind fun q28 => (pl_gR q28 a0 5 2).bind fun v30 => (pl_is q28 v30 1).bind fun u32 => (fn_C_shut q28 v30 q10.1 128).bind fun q31 => (pl_gR q31 a0 5 2).bind fun v33 => (pl_is q31 v33 1).bind fun u35 => (fn_C_shut q31 v33 q4.1 192).bind fun q34 => (pl_is q34 a0 5).bind fun u37 => (fn_T_finish q34 a0 q1.1 q4.1).bind fun q36 => some (q36.1, q36.2)
set_option maxHeartbeats 4000000 in
set_option maxRecDepth 100000 in
theorem tl_T_growLeaf {p : Program} {l : Launch} {e : Env} {s : State} {m : MethodId} {args : Array Value} {below : List Frame} {meth : Method} {c : Code} {D : va_G} {dA : Nat → ClassId} {tt : Nat → Nat} {b n : Nat} (C : pl_C p s m args meth c co_T_growLeaf 7 rn_T (some (.object "ProvenLedger$Node")) "growLeaf" D dA tt b) {r : Nat} {f' : pl_H} {f : pl_H} {a0 : Nat} {x1 : Int32} {x2 : Int32} {H : Heap} {locs : List Loc} {ls : Array Slot} (hF : fn_T_growLeaf f a0 x1 x2 = some (r, f')) (w : pl_wd D vwCl dA b n f H) (hS : va_S (pl_A b) s.heap H locs) (hl : lv_has ls 7 [(0, .ref a0), (1, .int x1), (2, .int x2)]) : W p l e rm_T_growLeaf s m args below meth c H locs 0 0 (MQ below (pl_qQ D dA tt b n f' (some r)) args s 0 0 (pl_A b)) (F0 m 0 ls []) := by
  have hx := C.1
  have hb := C.2.1
  have hown := C.2.2.2.2.1
  have hts := C.2.2.2.2.2.2.1
  unfold fn_T_growLeaf at hF
  refine lv_aload_n hx hb dc_T_growLeaf_0 rfl (lv_at hl 0 rfl) ?_
  refine lv_iconst (v := 0) hx hb dc_T_growLeaf_1 (by decide) ?_
  refine lv_iload_n hx hb dc_T_growLeaf_2 rfl (lv_at hl 1 rfl) ?_
  refine lv_iload_n hx hb dc_T_growLeaf_3 rfl (lv_at hl 2 rfl) ?_
  refine lv_iconst (v := 4) hx hb dc_T_growLeaf_4 (by decide) ?_
  obtain ⟨u2, eu2, hF⟩ := pl_bd hF
  obtain ⟨q1, eq1, hF⟩ := pl_bd hF
  refine pl_gr (pl_runV (Cn := rn_T) (k := 4) C (tm_T_take l D dA tt b n eq1) w hS rfl rfl mw_386 mw_388 mw_6 mw_67 mw_389 (by decide +kernel) ⟨by decide, by decide⟩ eu2 rfl (by decide) rfl hl.1 (Nat.le_of_ble_eq_true rfl) ⟨Nat.zero_le _, Nat.zero_le _⟩ rfl dc_T_growLeaf_5) hS (fun H locs w hS => ?_)
  refine lv_astore_n (lv' := [(3, .ref q1.1), (0, .ref a0), (1, .int x1), (2, .int x2)]) hx hb dc_T_growLeaf_8 rfl hl (by decide) rfl (fun ls hl => ?_)
  refine lv_aload_n hx hb dc_T_growLeaf_9 rfl (lv_at hl 1 rfl) ?_
  obtain ⟨v3, ev3, hF⟩ := pl_bd hF
  refine pl_getR C w (ci := 5) in_T rfl (by decide) 2 (by decide) mw_172 ev3 dc_T_growLeaf_10 ?_
  obtain ⟨u5, eu5, hF⟩ := pl_bd hF
  obtain ⟨q4, eq4, hF⟩ := pl_bd hF
  refine pl_gi (pl_runV (Cn := rn_C) (k := 0) C (tm_C_open l D dA tt b n eq4) w hS rfl rfl mw_394 mw_395 mw_396 mw_68 mw_397 (by decide +kernel) ⟨by decide, by decide⟩ eu5 rfl (by decide) rfl hl.1 (Nat.le_of_ble_eq_true rfl) ⟨Nat.zero_le _, Nat.zero_le _⟩ rfl dc_T_growLeaf_13) hS (fun H locs w hS => ?_)
  refine lv_istore (lv' := [(4, .int q4.1), (3, .ref q1.1), (0, .ref a0), (1, .int x1), (2, .int x2)]) hx hb dc_T_growLeaf_16 hl (by decide) rfl (fun ls hl => ?_)
  refine lv_aload_n hx hb dc_T_growLeaf_18 rfl (lv_at hl 2 rfl) ?_
  obtain ⟨v6, ev6, hF⟩ := pl_bd hF
  refine pl_getR C w (ci := 5) in_T rfl (by decide) 2 (by decide) mw_172 ev6 dc_T_growLeaf_19 ?_
  refine lv_iload_n hx hb dc_T_growLeaf_22 rfl (lv_at hl 3 rfl) ?_
  refine lv_iload_n hx hb dc_T_growLeaf_23 rfl (lv_at hl 4 rfl) ?_
  refine lv_iconst (v := 4) hx hb dc_T_growLeaf_24 (by decide) ?_
  refine lv_iconst (v := 1) hx hb dc_T_growLeaf_25 (by decide) ?_
  obtain ⟨u8, eu8, hF⟩ := pl_bd hF
  obtain ⟨q7, eq7, hF⟩ := pl_bd hF
  refine pl_gv (pl_runV (Cn := rn_C) (k := 4) C (tm_C_putDigits l D dA tt b n eq7) w hS rfl rfl mw_430 mw_431 mw_432 mw_68 mw_433 (by decide +kernel) ⟨by decide, by decide⟩ eu8 rfl (by decide) rfl hl.1 (Nat.le_of_ble_eq_true rfl) ⟨Nat.zero_le _, Nat.zero_le _⟩ rfl dc_T_growLeaf_26) hS (fun H locs w hS => ?_)
  refine lv_aload_n hx hb dc_T_growLeaf_29 rfl (lv_at hl 2 rfl) ?_
  obtain ⟨v9, ev9, hF⟩ := pl_bd hF
  refine pl_getR C w (ci := 5) in_T rfl (by decide) 2 (by decide) mw_172 ev9 dc_T_growLeaf_30 ?_
  obtain ⟨u11, eu11, hF⟩ := pl_bd hF
  obtain ⟨q10, eq10, hF⟩ := pl_bd hF
  refine pl_gi (pl_runV (Cn := rn_C) (k := 0) C (tm_C_open l D dA tt b n eq10) w hS rfl rfl mw_394 mw_395 mw_396 mw_68 mw_397 (by decide +kernel) ⟨by decide, by decide⟩ eu11 rfl (by decide) rfl hl.1 (Nat.le_of_ble_eq_true rfl) ⟨Nat.zero_le _, Nat.zero_le _⟩ rfl dc_T_growLeaf_33) hS (fun H locs w hS => ?_)
  refine lv_istore (lv' := [(5, .int q10.1), (4, .int q4.1), (3, .ref q1.1), (0, .ref a0), (1, .int x1), (2, .int x2)]) hx hb dc_T_growLeaf_36 hl (by decide) rfl (fun ls hl => ?_)
  refine lv_aload_n hx hb dc_T_growLeaf_38 rfl (lv_at hl 3 rfl) ?_
  obtain ⟨v12, ev12, hF⟩ := pl_bd hF
  refine pl_getR C w (ci := 5) in_T rfl (by decide) 2 (by decide) mw_172 ev12 dc_T_growLeaf_39 ?_
  obtain ⟨u14, eu14, hF⟩ := pl_bd hF
  obtain ⟨q13, eq13, hF⟩ := pl_bd hF
  refine pl_gi (pl_runV (Cn := rn_C) (k := 0) C (tm_C_open l D dA tt b n eq13) w hS rfl rfl mw_394 mw_395 mw_396 mw_68 mw_397 (by decide +kernel) ⟨by decide, by decide⟩ eu14 rfl (by decide) rfl hl.1 (Nat.le_of_ble_eq_true rfl) ⟨Nat.zero_le _, Nat.zero_le _⟩ rfl dc_T_growLeaf_42) hS (fun H locs w hS => ?_)
  refine lv_istore (lv' := [(6, .int q13.1), (5, .int q10.1), (4, .int q4.1), (3, .ref q1.1), (0, .ref a0), (1, .int x1), (2, .int x2)]) hx hb dc_T_growLeaf_45 hl (by decide) rfl (fun ls hl => ?_)
  refine lv_aload_n hx hb dc_T_growLeaf_47 rfl (lv_at hl 4 rfl) ?_
  obtain ⟨v15, ev15, hF⟩ := pl_bd hF
  refine pl_getR C w (ci := 5) in_T rfl (by decide) 2 (by decide) mw_172 ev15 dc_T_growLeaf_48 ?_
  refine lv_aload_n hx hb dc_T_growLeaf_51 rfl (lv_at hl 4 rfl) ?_
  obtain ⟨v16, ev16, hF⟩ := pl_bd hF
  refine pl_getR C w (ci := 5) in_T rfl (by decide) 0 (by decide) mw_170 ev16 dc_T_growLeaf_52 ?_
  refine lv_iload_n hx hb dc_T_growLeaf_55 rfl (lv_at hl 5 rfl) ?_
  obtain ⟨u18, eu18, hF⟩ := pl_bd hF
  obtain ⟨v17, ev17, hF⟩ := pl_bd hF
  refine pl_gi (pl_runV (Cn := rn_B) (k := 1) C (tm_B_nonceOf l D dA tt b n ev17) w hS rfl rfl mw_439 mw_312 mw_313 mw_65 mw_314 (by decide +kernel) ⟨by decide, by decide⟩ eu18 rfl (by decide) rfl hl.1 (Nat.le_of_ble_eq_true rfl) ⟨Nat.zero_le _, Nat.zero_le _⟩ rfl dc_T_growLeaf_56) hS (fun H locs w hS => ?_)
  refine lv_i2l hx hb dc_T_growLeaf_59 rfl ?_
  obtain ⟨u20, eu20, hF⟩ := pl_bd hF
  obtain ⟨q19, eq19, hF⟩ := pl_bd hF
  refine pl_gv (pl_runV (Cn := rn_C) (k := 1) C (tm_C_putNumber l D dA tt b n eq19) w hS rfl rfl mw_440 mw_441 mw_442 mw_68 mw_443 (by decide +kernel) ⟨by decide, by decide⟩ eu20 rfl (by decide) rfl hl.1 (Nat.le_of_ble_eq_true rfl) ⟨Nat.zero_le _, Nat.zero_le _⟩ rfl dc_T_growLeaf_60) hS (fun H locs w hS => ?_)
  refine lv_aload_n hx hb dc_T_growLeaf_63 rfl (lv_at hl 4 rfl) ?_
  obtain ⟨v21, ev21, hF⟩ := pl_bd hF
  refine pl_getR C w (ci := 5) in_T rfl (by decide) 2 (by decide) mw_172 ev21 dc_T_growLeaf_64 ?_
  refine lv_aload_n hx hb dc_T_growLeaf_67 rfl (lv_at hl 4 rfl) ?_
  obtain ⟨v22, ev22, hF⟩ := pl_bd hF
  refine pl_getR C w (ci := 5) in_T rfl (by decide) 0 (by decide) mw_170 ev22 dc_T_growLeaf_68 ?_
  refine lv_iload_n hx hb dc_T_growLeaf_71 rfl (lv_at hl 5 rfl) ?_
  obtain ⟨u24, eu24, hF⟩ := pl_bd hF
  obtain ⟨v23, ev23, hF⟩ := pl_bd hF
  refine pl_gl (pl_runV (Cn := rn_B) (k := 1) C (tm_B_balanceOf l D dA tt b n ev23) w hS rfl rfl mw_444 mw_316 mw_317 mw_65 mw_318 (by decide +kernel) ⟨by decide, by decide⟩ eu24 rfl (by decide) rfl hl.1 (Nat.le_of_ble_eq_true rfl) ⟨Nat.zero_le _, Nat.zero_le _⟩ rfl dc_T_growLeaf_72) hS (fun H locs w hS => ?_)
  obtain ⟨u26, eu26, hF⟩ := pl_bd hF
  obtain ⟨q25, eq25, hF⟩ := pl_bd hF
  refine pl_gv (pl_runV (Cn := rn_C) (k := 1) C (tm_C_putNumber l D dA tt b n eq25) w hS rfl rfl mw_440 mw_441 mw_442 mw_68 mw_443 (by decide +kernel) ⟨by decide, by decide⟩ eu26 rfl (by decide) rfl hl.1 (Nat.le_of_ble_eq_true rfl) ⟨Nat.zero_le _, Nat.zero_le _⟩ rfl dc_T_growLeaf_75) hS (fun H locs w hS => ?_)
  refine lv_aload_n hx hb dc_T_growLeaf_78 rfl (lv_at hl 4 rfl) ?_
  obtain ⟨v27, ev27, hF⟩ := pl_bd hF
  refine pl_getR C w (ci := 5) in_T rfl (by decide) 2 (by decide) mw_172 ev27 dc_T_growLeaf_79 ?_
  refine lv_iload hx hb dc_T_growLeaf_82 (lv_at hl 0 rfl) ?_
  refine lv_sipush (v := 192) hx hb dc_T_growLeaf_84 (by decide) ?_
  obtain ⟨u29, eu29, hF⟩ := pl_bd hF
  obtain ⟨q28, eq28, hF⟩ := pl_bd hF
  refine pl_gv (pl_runV (Cn := rn_C) (k := 2) C (tm_C_shut l D dA tt b n eq28) w hS rfl rfl mw_402 mw_403 mw_404 mw_68 mw_405 (by decide +kernel) ⟨by decide, by decide⟩ eu29 rfl (by decide) rfl hl.1 (Nat.le_of_ble_eq_true rfl) ⟨Nat.zero_le _, Nat.zero_le _⟩ rfl dc_T_growLeaf_87) hS (fun H locs w hS => ?_)
  refine lv_aload_n hx hb dc_T_growLeaf_90 rfl (lv_at hl 4 rfl) ?_
  obtain ⟨v30, ev30, hF⟩ := pl_bd hF
  refine pl_getR C w (ci := 5) in_T rfl (by decide) 2 (by decide) mw_172 ev30 dc_T_growLeaf_91 ?_
  refine lv_iload hx hb dc_T_growLeaf_94 (lv_at hl 1 rfl) ?_
  refine lv_sipush (v := 128) hx hb dc_T_growLeaf_96 (by decide) ?_
  obtain ⟨u32, eu32, hF⟩ := pl_bd hF
  obtain ⟨q31, eq31, hF⟩ := pl_bd hF
  refine pl_gv (pl_runV (Cn := rn_C) (k := 2) C (tm_C_shut l D dA tt b n eq31) w hS rfl rfl mw_402 mw_403 mw_404 mw_68 mw_405 (by decide +kernel) ⟨by decide, by decide⟩ eu32 rfl (by decide) rfl hl.1 (Nat.le_of_ble_eq_true rfl) ⟨Nat.zero_le _, Nat.zero_le _⟩ rfl dc_T_growLeaf_99) hS (fun H locs w hS => ?_)
  refine lv_aload_n hx hb dc_T_growLeaf_102 rfl (lv_at hl 4 rfl) ?_
  obtain ⟨v33, ev33, hF⟩ := pl_bd hF
  refine pl_getR C w (ci := 5) in_T rfl (by decide) 2 (by decide) mw_172 ev33 dc_T_growLeaf_103 ?_
  refine lv_iload hx hb dc_T_growLeaf_106 (lv_at hl 2 rfl) ?_
  refine lv_sipush (v := 192) hx hb dc_T_growLeaf_108 (by decide) ?_
  obtain ⟨u35, eu35, hF⟩ := pl_bd hF
  obtain ⟨q34, eq34, hF⟩ := pl_bd hF
  refine pl_gv (pl_runV (Cn := rn_C) (k := 2) C (tm_C_shut l D dA tt b n eq34) w hS rfl rfl mw_402 mw_403 mw_404 mw_68 mw_405 (by decide +kernel) ⟨by decide, by decide⟩ eu35 rfl (by decide) rfl hl.1 (Nat.le_of_ble_eq_true rfl) ⟨Nat.zero_le _, Nat.zero_le _⟩ rfl dc_T_growLeaf_111) hS (fun H locs w hS => ?_)
  refine lv_aload_n hx hb dc_T_growLeaf_114 rfl (lv_at hl 4 rfl) ?_
  refine lv_aload_n hx hb dc_T_growLeaf_115 rfl (lv_at hl 3 rfl) ?_
  refine lv_iload hx hb dc_T_growLeaf_116 (lv_at hl 2 rfl) ?_
  obtain ⟨u37, eu37, hF⟩ := pl_bd hF
  obtain ⟨q36, eq36, hF⟩ := pl_bd hF
  refine pl_gr (pl_runV (Cn := rn_T) (k := 2) C (tm_T_finish l D dA tt b n eq36) w hS rfl rfl mw_410 mw_412 mw_8 mw_67 mw_413 (by decide +kernel) ⟨by decide, by decide⟩ eu37 rfl (by decide) rfl hl.1 (Nat.le_of_ble_eq_true rfl) ⟨Nat.zero_le _, Nat.zero_le _⟩ rfl dc_T_growLeaf_118) hS (fun H locs w hS => ?_)
  exact pl_retRw C w hS hF (by first | exact Or.inl ⟨_, rfl⟩ | exact Or.inr ⟨_, rfl⟩) dc_T_growLeaf_121
set_option maxHeartbeats 4000000 in
set_option maxRecDepth 100000 in
theorem tm_T_growLeaf (l : Launch) (D : va_G) (dA : Nat → ClassId) (tt : Nat → Nat) (b n : Nat) {f : pl_H} {a0 : Nat} {x1 : Int32} {x2 : Int32} {r : Nat} {f' : pl_H} (hF : fn_T_growLeaf f a0 x1 x2 = some (r, f')) : Met l my_T_growLeaf (Cond.code my_T_growLeaf co_T_growLeaf 7 (some (.object "ProvenLedger$Node")) :: pl_tb) rm_T_growLeaf (va_Pc [.ref a0, .int x1, .int x2] (pl_pre D dA tt b n f)) (pl_qQ D dA tt b n f' (some r)) 0 0 (pl_A b) := by
  refine Met.ofW (cc := co_T_growLeaf) (maxL := 7) (ret := (some (.object "ProvenLedger$Node"))) (by decide) rfl ?_
  intro p e s m args below meth c s₁ B hml hv
  obtain ⟨rfl, w, hK⟩ := hv
  have C : pl_C p s m _ meth c co_T_growLeaf 7 rn_T (some (.object "ProvenLedger$Node")) "growLeaf" D dA tt b := ⟨B.exec, B.bytes, hml, B.returns, findClass_of_methodNamed B.named, B.notSynchronized, fun w hw => atoms_spec (ws := Cond.code my_T_growLeaf co_T_growLeaf 7 (some (.object "ProvenLedger$Node")) :: pl_tb) B.pre w (List.mem_cons_of_mem _ hw), (name_of_methodNamed B.named B.method).1, hK⟩
  have hl := lv_entry ([.ref a0, .int x1, .int x2]) (n := 7) (Nat.le_of_ble_eq_true rfl)
  rw [lg_entry_eq]
  generalize (lg_sl ([.ref a0, .int x1, .int x2]) ++ List.replicate (7 - (lg_sl ([.ref a0, .int x1, .int x2])).length) Slot.unset).toArray = ls at hl ⊢
  have hl : lv_has ls 7 [(0, .ref a0), (1, .int x1), (2, .int x2)] := hl
  exact tl_T_growLeaf C hF w va_S.rf hl
def rm_T_agreedDepth : Room := { frames := 1, cells := 0, slots := 0, locals := 21 }
def fn_T_agreedDepth_26 (f : pl_H) (x3 : Int32) : Option (Int32) := some x3
def fn_T_agreedDepth_2 : Nat → pl_H → Int32 → Int32 → Int32 → Option (Int32)
  | 0 => fun _ _ _ _ => none
  | k + 1 => fun f x0 x1 x3 => if 4 ≤ x3 then fn_T_agreedDepth_26 f x3 else (fn_L_digit f x0 x3).bind fun v1 => (fn_L_digit f x1 x3).bind fun v2 => if v1 = v2 then fn_T_agreedDepth_2 k f x0 x1 (x3 + 1) else fn_T_agreedDepth_26 f x3
def fn_T_agreedDepth (f : pl_H) (x0 : Int32) (x1 : Int32) (x2 : Int32) : Option (Int32) := fn_T_agreedDepth_2 pl_N f x0 x1 x2
set_option maxHeartbeats 4000000 in
set_option maxRecDepth 100000 in
theorem tl_T_agreedDepth_26 {p : Program} {l : Launch} {e : Env} {s : State} {m : MethodId} {args : Array Value} {below : List Frame} {meth : Method} {c : Code} {D : va_G} {dA : Nat → ClassId} {tt : Nat → Nat} {b n : Nat} (C : pl_C p s m args meth c co_T_agreedDepth 4 rn_T (some .int) "agreedDepth" D dA tt b) {r : Int32} {f : pl_H} {x3 : Int32} {H : Heap} {locs : List Loc} {ls : Array Slot} (hF : fn_T_agreedDepth_26 f x3 = some r) (w : pl_wd D vwCl dA b n f H) (hS : va_S (pl_A b) s.heap H locs) (hl : lv_has ls 4 [(3, .int x3)]) : W p l e rm_T_agreedDepth s m args below meth c H locs 0 0 (MQ below (pl_qI D dA tt b n f r) args s 0 0 (pl_A b)) (F0 m 26 ls []) := by
  have hx := C.1
  have hb := C.2.1
  have hown := C.2.2.2.2.1
  have hts := C.2.2.2.2.2.2.1
  unfold fn_T_agreedDepth_26 at hF
  refine lv_iload_n hx hb dc_T_agreedDepth_26 rfl (lv_at hl 0 rfl) ?_
  exact pl_retI C w hS hF dc_T_agreedDepth_27
set_option maxHeartbeats 4000000 in
set_option maxRecDepth 100000 in
theorem tl_T_agreedDepth_2 {p : Program} {l : Launch} {e : Env} {s : State} {m : MethodId} {args : Array Value} {below : List Frame} {meth : Method} {c : Code} {D : va_G} {dA : Nat → ClassId} {tt : Nat → Nat} {b n : Nat} (C : pl_C p s m args meth c co_T_agreedDepth 4 rn_T (some .int) "agreedDepth" D dA tt b) {r : Int32} {f : pl_H} : ∀ k : Nat, ∀ (x0 : Int32) (x1 : Int32) (x3 : Int32) (H : Heap) (locs : List Loc) (ls : Array Slot), fn_T_agreedDepth_2 k f x0 x1 x3 = some r → pl_wd D vwCl dA b n f H → va_S (pl_A b) s.heap H locs → lv_has ls 4 [(0, .int x0), (1, .int x1), (3, .int x3)] → W p l e rm_T_agreedDepth s m args below meth c H locs 0 0 (MQ below (pl_qI D dA tt b n f r) args s 0 0 (pl_A b)) (F0 m 2 ls []) := by
  have hx := C.1
  have hb := C.2.1
  have hown := C.2.2.2.2.1
  have hts := C.2.2.2.2.2.2.1
  intro k
  induction k with
  | zero =>
    intro x0 x1 x3 H locs ls hF
    cases hF
  | succ k ih =>
    intro x0 x1 x3 H locs ls hF w hS hl
    unfold fn_T_agreedDepth_2 at hF
    refine lv_iload_n hx hb dc_T_agreedDepth_2 rfl (lv_at hl 2 rfl) ?_
    refine lv_iconst (v := 4) hx hb dc_T_agreedDepth_3 (by decide) ?_
    refine lv_icmp_ge hx hb dc_T_agreedDepth_4 (tgt := 26) (by decide) (fun hc => ?_) (fun hc => ?_)
    · have hF := (if_pos hc).symm.trans hF
      exact tl_T_agreedDepth_26 C hF w hS (lv_sub hl [2] rfl)
    · have hF := (if_neg hc).symm.trans hF
      refine lv_iload_n hx hb dc_T_agreedDepth_7 rfl (lv_at hl 0 rfl) ?_
      refine lv_iload_n hx hb dc_T_agreedDepth_8 rfl (lv_at hl 2 rfl) ?_
      obtain ⟨v1, ev1, hF⟩ := pl_bd hF
      refine pl_gi (pl_runSN (k := 2) C (tm_L_digit l D dA tt b n ev1) w hS rfl rfl C.2.2.2.2.2.2.2.2.2.2.2.2.2.2.1 mw_436 mw_64 mw_437 (by decide +kernel) ⟨by decide, by decide⟩ rfl hl.1 (Nat.le_of_ble_eq_true rfl) ⟨Nat.zero_le _, Nat.zero_le _⟩ rfl dc_T_agreedDepth_9) hS (fun H locs w hS => ?_)
      refine lv_iload_n hx hb dc_T_agreedDepth_12 rfl (lv_at hl 1 rfl) ?_
      refine lv_iload_n hx hb dc_T_agreedDepth_13 rfl (lv_at hl 2 rfl) ?_
      obtain ⟨v2, ev2, hF⟩ := pl_bd hF
      refine pl_gi (pl_runSN (k := 2) C (tm_L_digit l D dA tt b n ev2) w hS rfl rfl C.2.2.2.2.2.2.2.2.2.2.2.2.2.2.1 mw_436 mw_64 mw_437 (by decide +kernel) ⟨by decide, by decide⟩ rfl hl.1 (Nat.le_of_ble_eq_true rfl) ⟨Nat.zero_le _, Nat.zero_le _⟩ rfl dc_T_agreedDepth_14) hS (fun H locs w hS => ?_)
      refine lv_icmp_ne hx hb dc_T_agreedDepth_17 (tgt := 26) (by decide) (fun hc => ?_) (fun hc => ?_)
      · have hF := (if_neg hc).symm.trans hF
        exact tl_T_agreedDepth_26 C hF w hS (lv_sub hl [2] rfl)
      · have hF := (if_pos hc).symm.trans hF
        refine lv_iinc (k := 2) (v := x3 + 1) (lv' := [(3, .int (x3 + 1)), (0, .int x0), (1, .int x1)]) hx hb dc_T_agreedDepth_20 hl rfl rfl (by decide) rfl (fun ls hl => ?_)
        refine lv_goto hx hb dc_T_agreedDepth_23 (tgt := 2) (by decide) ?_
        exact ih x0 x1 (x3 + 1) _ _ _ hF w hS (lv_sub hl [1, 2, 0] rfl)
set_option maxHeartbeats 4000000 in
set_option maxRecDepth 100000 in
theorem tl_T_agreedDepth {p : Program} {l : Launch} {e : Env} {s : State} {m : MethodId} {args : Array Value} {below : List Frame} {meth : Method} {c : Code} {D : va_G} {dA : Nat → ClassId} {tt : Nat → Nat} {b n : Nat} (C : pl_C p s m args meth c co_T_agreedDepth 4 rn_T (some .int) "agreedDepth" D dA tt b) {r : Int32} {f : pl_H} {x0 : Int32} {x1 : Int32} {x2 : Int32} {H : Heap} {locs : List Loc} {ls : Array Slot} (hF : fn_T_agreedDepth f x0 x1 x2 = some r) (w : pl_wd D vwCl dA b n f H) (hS : va_S (pl_A b) s.heap H locs) (hl : lv_has ls 4 [(0, .int x0), (1, .int x1), (2, .int x2)]) : W p l e rm_T_agreedDepth s m args below meth c H locs 0 0 (MQ below (pl_qI D dA tt b n f r) args s 0 0 (pl_A b)) (F0 m 0 ls []) := by
  have hx := C.1
  have hb := C.2.1
  have hown := C.2.2.2.2.1
  have hts := C.2.2.2.2.2.2.1
  unfold fn_T_agreedDepth at hF
  refine lv_iload_n hx hb dc_T_agreedDepth_0 rfl (lv_at hl 2 rfl) ?_
  refine lv_istore_n (lv' := [(3, .int x2), (0, .int x0), (1, .int x1), (2, .int x2)]) hx hb dc_T_agreedDepth_1 rfl hl (by decide) rfl (fun ls hl => ?_)
  exact tl_T_agreedDepth_2 C pl_N x0 x1 x2 _ _ _ hF w hS (lv_sub hl [1, 2, 0] rfl)
set_option maxHeartbeats 4000000 in
set_option maxRecDepth 100000 in
theorem tm_T_agreedDepth (l : Launch) (D : va_G) (dA : Nat → ClassId) (tt : Nat → Nat) (b n : Nat) {f : pl_H} {x0 : Int32} {x1 : Int32} {x2 : Int32} {r : Int32} (hF : fn_T_agreedDepth f x0 x1 x2 = some r) : Met l my_T_agreedDepth (Cond.code my_T_agreedDepth co_T_agreedDepth 4 (some .int) :: pl_tb) rm_T_agreedDepth (va_Pc [.int x0, .int x1, .int x2] (pl_pre D dA tt b n f)) (pl_qI D dA tt b n f r) 0 0 (pl_A b) := by
  refine Met.ofW (cc := co_T_agreedDepth) (maxL := 4) (ret := (some .int)) (by decide) rfl ?_
  intro p e s m args below meth c s₁ B hml hv
  obtain ⟨rfl, w, hK⟩ := hv
  have C : pl_C p s m _ meth c co_T_agreedDepth 4 rn_T (some .int) "agreedDepth" D dA tt b := ⟨B.exec, B.bytes, hml, B.returns, findClass_of_methodNamed B.named, B.notSynchronized, fun w hw => atoms_spec (ws := Cond.code my_T_agreedDepth co_T_agreedDepth 4 (some .int) :: pl_tb) B.pre w (List.mem_cons_of_mem _ hw), (name_of_methodNamed B.named B.method).1, hK⟩
  have hl := lv_entry ([.int x0, .int x1, .int x2]) (n := 4) (Nat.le_of_ble_eq_true rfl)
  rw [lg_entry_eq]
  generalize (lg_sl ([.int x0, .int x1, .int x2]) ++ List.replicate (4 - (lg_sl ([.int x0, .int x1, .int x2])).length) Slot.unset).toArray = ls at hl ⊢
  have hl : lv_has ls 4 [(0, .int x0), (1, .int x1), (2, .int x2)] := hl
  exact tl_T_agreedDepth C hF w va_S.rf hl
def rm_T_isHashed : Room := { frames := 0, cells := 0, slots := 0, locals := 0 }
def fn_T_isHashed_14 (f : pl_H) (sx0 : Int32) : Option (Int32) := pl_z sx0
def fn_T_isHashed (f : pl_H) (a0 : Nat) : Option (Int32) := (pl_gI f a0 3 6).bind fun v1 => if v1 < 32 then fn_T_isHashed_14 f 0 else fn_T_isHashed_14 f 1
set_option maxHeartbeats 4000000 in
set_option maxRecDepth 100000 in
theorem tl_T_isHashed_14 {p : Program} {l : Launch} {e : Env} {s : State} {m : MethodId} {args : Array Value} {below : List Frame} {meth : Method} {c : Code} {D : va_G} {dA : Nat → ClassId} {tt : Nat → Nat} {b n : Nat} (C : pl_C p s m args meth c co_T_isHashed 1 rn_T (some .boolean) "isHashed" D dA tt b) {r : Int32} {f : pl_H} {sx0 : Int32} {H : Heap} {locs : List Loc} {ls : Array Slot} (hF : fn_T_isHashed_14 f sx0 = some r) (w : pl_wd D vwCl dA b n f H) (hS : va_S (pl_A b) s.heap H locs) (hl : lv_has ls 1 []) : W p l e rm_T_isHashed s m args below meth c H locs 0 0 (MQ below (pl_qI D dA tt b n f r) args s 0 0 (pl_A b)) (F0 m 14 ls [.int sx0]) := by
  have hx := C.1
  have hb := C.2.1
  have hown := C.2.2.2.2.1
  have hts := C.2.2.2.2.2.2.1
  unfold fn_T_isHashed_14 at hF
  exact pl_retZ C w hS hF dc_T_isHashed_14
set_option maxHeartbeats 4000000 in
set_option maxRecDepth 100000 in
theorem tl_T_isHashed {p : Program} {l : Launch} {e : Env} {s : State} {m : MethodId} {args : Array Value} {below : List Frame} {meth : Method} {c : Code} {D : va_G} {dA : Nat → ClassId} {tt : Nat → Nat} {b n : Nat} (C : pl_C p s m args meth c co_T_isHashed 1 rn_T (some .boolean) "isHashed" D dA tt b) {r : Int32} {f : pl_H} {a0 : Nat} {H : Heap} {locs : List Loc} {ls : Array Slot} (hF : fn_T_isHashed f a0 = some r) (w : pl_wd D vwCl dA b n f H) (hS : va_S (pl_A b) s.heap H locs) (hl : lv_has ls 1 [(0, .ref a0)]) : W p l e rm_T_isHashed s m args below meth c H locs 0 0 (MQ below (pl_qI D dA tt b n f r) args s 0 0 (pl_A b)) (F0 m 0 ls []) := by
  have hx := C.1
  have hb := C.2.1
  have hown := C.2.2.2.2.1
  have hts := C.2.2.2.2.2.2.1
  unfold fn_T_isHashed at hF
  refine lv_aload_n hx hb dc_T_isHashed_0 rfl (lv_at hl 0 rfl) ?_
  obtain ⟨v1, ev1, hF⟩ := pl_bd hF
  refine pl_getNI C w (ci := 3) in_N rfl (by decide) 6 (by decide) C.2.2.2.2.2.2.2.2.2.2.2.2.1 ev1 dc_T_isHashed_1 ?_
  refine lv_bipush (v := 32) hx hb dc_T_isHashed_4 (by decide) ?_
  refine lv_icmp_lt hx hb dc_T_isHashed_6 (tgt := 13) (by decide) (fun hc => ?_) (fun hc => ?_)
  · have hF := (if_pos hc).symm.trans hF
    refine lv_iconst (v := 0) hx hb dc_T_isHashed_13 (by decide) ?_
    exact tl_T_isHashed_14 C hF w hS (lv_sub hl [] rfl)
  · have hF := (if_neg hc).symm.trans hF
    refine lv_iconst (v := 1) hx hb dc_T_isHashed_9 (by decide) ?_
    refine lv_goto hx hb dc_T_isHashed_10 (tgt := 14) (by decide) ?_
    exact tl_T_isHashed_14 C hF w hS (lv_sub hl [] rfl)
set_option maxHeartbeats 4000000 in
set_option maxRecDepth 100000 in
theorem tm_T_isHashed (l : Launch) (D : va_G) (dA : Nat → ClassId) (tt : Nat → Nat) (b n : Nat) {f : pl_H} {a0 : Nat} {r : Int32} (hF : fn_T_isHashed f a0 = some r) : Met l my_T_isHashed (Cond.code my_T_isHashed co_T_isHashed 1 (some .boolean) :: pl_tb) rm_T_isHashed (va_Pc [.ref a0] (pl_pre D dA tt b n f)) (pl_qI D dA tt b n f r) 0 0 (pl_A b) := by
  refine Met.ofW (cc := co_T_isHashed) (maxL := 1) (ret := (some .boolean)) (by decide) rfl ?_
  intro p e s m args below meth c s₁ B hml hv
  obtain ⟨rfl, w, hK⟩ := hv
  have C : pl_C p s m _ meth c co_T_isHashed 1 rn_T (some .boolean) "isHashed" D dA tt b := ⟨B.exec, B.bytes, hml, B.returns, findClass_of_methodNamed B.named, B.notSynchronized, fun w hw => atoms_spec (ws := Cond.code my_T_isHashed co_T_isHashed 1 (some .boolean) :: pl_tb) B.pre w (List.mem_cons_of_mem _ hw), (name_of_methodNamed B.named B.method).1, hK⟩
  have hl := lv_entry ([.ref a0]) (n := 1) (Nat.le_of_ble_eq_true rfl)
  rw [lg_entry_eq]
  generalize (lg_sl ([.ref a0]) ++ List.replicate (1 - (lg_sl ([.ref a0])).length) Slot.unset).toArray = ls at hl ⊢
  have hl : lv_has ls 1 [(0, .ref a0)] := hl
  exact tl_T_isHashed C hF w va_S.rf hl
def rm_T_putReference : Room := { frames := 3, cells := 0, slots := 0, locals := 79 }
def fn_T_putReference_103 (f : pl_H) : Option (pl_H) := some f
def fn_T_putReference_58 : Nat → pl_H → Nat → Int32 → Option (pl_H)
  | 0 => fun _ _ _ => none
  | k + 1 => fun f a0 x2 => if 32 ≤ x2 then fn_T_putReference_103 f else (pl_gR f a0 5 2).bind fun v1 => (pl_gR f a0 5 1).bind fun v2 => (pl_is f v2 2).bind fun u4 => (fn_H_hashByte f v2 x2).bind fun v3 => (pl_is f v1 1).bind fun u6 => (fn_C_put f v1 v3).bind fun q5 => fn_T_putReference_58 k q5 a0 (x2 + 1)
def fn_T_putReference (f : pl_H) (a0 : Nat) (r1 : Option Nat) : Option (pl_H) := (match r1 with | none => (pl_gR f a0 5 2).bind fun v2 => (pl_is f v2 1).bind fun u4 => (fn_C_put f v2 128).bind fun q3 => fn_T_putReference_103 q3 | some a1 => (fn_T_isHashed f a1).bind fun v5 => if v5 = 0 then (pl_gR f a0 5 2).bind fun v6 => (pl_gI f a1 3 5).bind fun v7 => (pl_gI f a1 3 6).bind fun v8 => (pl_is f v6 1).bind fun u10 => (fn_C_copy f v6 v7 v8).bind fun q9 => fn_T_putReference_103 q9 else (pl_gR f a0 5 1).bind fun v11 => (pl_gR f a0 5 2).bind fun v12 => (pl_is f v12 1).bind fun u14 => (fn_C_bytes f v12).bind fun v13 => (pl_gI f a1 3 5).bind fun v15 => (pl_gI f a1 3 6).bind fun v16 => (pl_is f v11 2).bind fun u18 => (fn_H_hash f v11 v13 v15 v16).bind fun q17 => (pl_gR q17 a0 5 2).bind fun v19 => (pl_is q17 v19 1).bind fun u21 => (fn_C_put q17 v19 160).bind fun q20 => fn_T_putReference_58 pl_N q20 a0 0)
set_option maxHeartbeats 4000000 in
set_option maxRecDepth 100000 in
theorem tl_T_putReference_103 {p : Program} {l : Launch} {e : Env} {s : State} {m : MethodId} {args : Array Value} {below : List Frame} {meth : Method} {c : Code} {D : va_G} {dA : Nat → ClassId} {tt : Nat → Nat} {b n : Nat} (C : pl_C p s m args meth c co_T_putReference 3 rn_T none "putReference" D dA tt b) {f' : pl_H} {f : pl_H} {H : Heap} {locs : List Loc} {ls : Array Slot} (hF : fn_T_putReference_103 f = some f') (w : pl_wd D vwCl dA b n f H) (hS : va_S (pl_A b) s.heap H locs) (hl : lv_has ls 3 []) : W p l e rm_T_putReference s m args below meth c H locs 0 0 (MQ below (pl_qV D dA tt b n f') args s 0 0 (pl_A b)) (F0 m 103 ls []) := by
  have hx := C.1
  have hb := C.2.1
  have hown := C.2.2.2.2.1
  have hts := C.2.2.2.2.2.2.1
  unfold fn_T_putReference_103 at hF
  exact pl_retVw C w hS hF dc_T_putReference_103
set_option maxHeartbeats 4000000 in
set_option maxRecDepth 100000 in
theorem tl_T_putReference_58 {p : Program} {l : Launch} {e : Env} {s : State} {m : MethodId} {args : Array Value} {below : List Frame} {meth : Method} {c : Code} {D : va_G} {dA : Nat → ClassId} {tt : Nat → Nat} {b n : Nat} (C : pl_C p s m args meth c co_T_putReference 3 rn_T none "putReference" D dA tt b) {f' : pl_H} : ∀ k : Nat, ∀ (f : pl_H) (a0 : Nat) (x2 : Int32) (H : Heap) (locs : List Loc) (ls : Array Slot), fn_T_putReference_58 k f a0 x2 = some f' → pl_wd D vwCl dA b n f H → va_S (pl_A b) s.heap H locs → lv_has ls 3 [(0, .ref a0), (2, .int x2)] → W p l e rm_T_putReference s m args below meth c H locs 0 0 (MQ below (pl_qV D dA tt b n f') args s 0 0 (pl_A b)) (F0 m 58 ls []) := by
  have hx := C.1
  have hb := C.2.1
  have hown := C.2.2.2.2.1
  have hts := C.2.2.2.2.2.2.1
  intro k
  induction k with
  | zero =>
    intro f a0 x2 H locs ls hF
    cases hF
  | succ k ih =>
    intro f a0 x2 H locs ls hF w hS hl
    unfold fn_T_putReference_58 at hF
    refine lv_iload_n hx hb dc_T_putReference_58 rfl (lv_at hl 1 rfl) ?_
    refine lv_bipush (v := 32) hx hb dc_T_putReference_59 (by decide) ?_
    refine lv_icmp_ge hx hb dc_T_putReference_61 (tgt := 85) (by decide) (fun hc => ?_) (fun hc => ?_)
    · have hF := (if_pos hc).symm.trans hF
      refine lv_goto hx hb dc_T_putReference_85 (tgt := 103) (by decide) ?_
      exact tl_T_putReference_103 C hF w hS (lv_sub hl [] rfl)
    · have hF := (if_neg hc).symm.trans hF
      refine lv_aload_n hx hb dc_T_putReference_64 rfl (lv_at hl 0 rfl) ?_
      obtain ⟨v1, ev1, hF⟩ := pl_bd hF
      refine pl_getR C w (ci := 5) in_T rfl (by decide) 2 (by decide) mw_172 ev1 dc_T_putReference_65 ?_
      refine lv_aload_n hx hb dc_T_putReference_68 rfl (lv_at hl 0 rfl) ?_
      obtain ⟨v2, ev2, hF⟩ := pl_bd hF
      refine pl_getR C w (ci := 5) in_T rfl (by decide) 1 (by decide) mw_171 ev2 dc_T_putReference_69 ?_
      refine lv_iload_n hx hb dc_T_putReference_72 rfl (lv_at hl 1 rfl) ?_
      obtain ⟨u4, eu4, hF⟩ := pl_bd hF
      obtain ⟨v3, ev3, hF⟩ := pl_bd hF
      refine pl_gi (pl_runV (Cn := rn_H) (k := 1) C (tm_H_hashByte l D dA tt b n ev3) w hS rfl rfl mw_492 mw_493 mw_494 mw_66 mw_495 (by decide +kernel) ⟨by decide, by decide⟩ eu4 rfl (by decide) rfl hl.1 (Nat.le_of_ble_eq_true rfl) ⟨Nat.zero_le _, Nat.zero_le _⟩ rfl dc_T_putReference_73) hS (fun H locs w hS => ?_)
      obtain ⟨u6, eu6, hF⟩ := pl_bd hF
      obtain ⟨q5, eq5, hF⟩ := pl_bd hF
      refine pl_gv (pl_runV (Cn := rn_C) (k := 1) C (tm_C_put l D dA tt b n eq5) w hS rfl rfl mw_457 mw_399 mw_400 mw_68 mw_401 (by decide +kernel) ⟨by decide, by decide⟩ eu6 rfl (by decide) rfl hl.1 (Nat.le_of_ble_eq_true rfl) ⟨Nat.zero_le _, Nat.zero_le _⟩ rfl dc_T_putReference_76) hS (fun H locs w hS => ?_)
      refine lv_iinc (k := 1) (v := x2 + 1) (lv' := [(2, .int (x2 + 1)), (0, .ref a0)]) hx hb dc_T_putReference_79 hl rfl rfl (by decide) rfl (fun ls hl => ?_)
      refine lv_goto hx hb dc_T_putReference_82 (tgt := 58) (by decide) ?_
      exact ih q5 a0 (x2 + 1) _ _ _ hF w hS (lv_sub hl [1, 0] rfl)
set_option maxHeartbeats 4000000 in
set_option maxRecDepth 100000 in
theorem tl_T_putReference {p : Program} {l : Launch} {e : Env} {s : State} {m : MethodId} {args : Array Value} {below : List Frame} {meth : Method} {c : Code} {D : va_G} {dA : Nat → ClassId} {tt : Nat → Nat} {b n : Nat} (C : pl_C p s m args meth c co_T_putReference 3 rn_T none "putReference" D dA tt b) {f' : pl_H} {f : pl_H} {a0 : Nat} {r1 : Option Nat} {H : Heap} {locs : List Loc} {ls : Array Slot} (hF : fn_T_putReference f a0 r1 = some f') (w : pl_wd D vwCl dA b n f H) (hS : va_S (pl_A b) s.heap H locs) (hl : lv_has ls 3 [(0, .ref a0), (1, va_rf r1)]) : W p l e rm_T_putReference s m args below meth c H locs 0 0 (MQ below (pl_qV D dA tt b n f') args s 0 0 (pl_A b)) (F0 m 0 ls []) := by
  have hx := C.1
  have hb := C.2.1
  have hown := C.2.2.2.2.1
  have hts := C.2.2.2.2.2.2.1
  unfold fn_T_putReference at hF
  refine pl_aload_n hx hb dc_T_putReference_0 rfl (lv_at hl 1 rfl) ?_
  cases r1 with
  | none =>
    have hl : lv_has ls 3 [(0, .ref a0), (1, .null)] := hl
    refine lv_ifnonnullN hx hb dc_T_putReference_1 ?_
    refine lv_aload_n hx hb dc_T_putReference_4 rfl (lv_at hl 0 rfl) ?_
    obtain ⟨v2, ev2, hF⟩ := pl_bd hF
    refine pl_getR C w (ci := 5) in_T rfl (by decide) 2 (by decide) mw_172 ev2 dc_T_putReference_5 ?_
    refine lv_sipush (v := 128) hx hb dc_T_putReference_8 (by decide) ?_
    obtain ⟨u4, eu4, hF⟩ := pl_bd hF
    obtain ⟨q3, eq3, hF⟩ := pl_bd hF
    refine pl_gv (pl_runV (Cn := rn_C) (k := 1) C (tm_C_put l D dA tt b n eq3) w hS rfl rfl mw_457 mw_399 mw_400 mw_68 mw_401 (by decide +kernel) ⟨by decide, by decide⟩ eu4 rfl (by decide) rfl hl.1 (Nat.le_of_ble_eq_true rfl) ⟨Nat.zero_le _, Nat.zero_le _⟩ rfl dc_T_putReference_11) hS (fun H locs w hS => ?_)
    refine lv_goto hx hb dc_T_putReference_14 (tgt := 103) (by decide) ?_
    exact tl_T_putReference_103 C hF w hS (lv_sub hl [] rfl)
  | some a1 =>
    have hl : lv_has ls 3 [(0, .ref a0), (1, .ref a1)] := hl
    refine lv_ifnonnull hx hb dc_T_putReference_1 (tgt := 17) (by decide) ?_
    refine lv_aload_n hx hb dc_T_putReference_17 rfl (lv_at hl 1 rfl) ?_
    obtain ⟨v5, ev5, hF⟩ := pl_bd hF
    refine pl_gi (pl_runS (k := 1) C (tm_T_isHashed l D dA tt b n ev5) w hS rfl rfl mw_458 mw_459 mw_67 mw_460 (by decide +kernel) ⟨by decide, by decide⟩ rfl hl.1 (Nat.le_of_ble_eq_true rfl) ⟨Nat.zero_le _, Nat.zero_le _⟩ rfl dc_T_putReference_18) hS (fun H locs w hS => ?_)
    refine lv_if_eq hx hb dc_T_putReference_21 (tgt := 88) (by decide) (fun hc => ?_) (fun hc => ?_)
    · have hF := (if_pos hc).symm.trans hF
      refine lv_aload_n hx hb dc_T_putReference_88 rfl (lv_at hl 0 rfl) ?_
      obtain ⟨v6, ev6, hF⟩ := pl_bd hF
      refine pl_getR C w (ci := 5) in_T rfl (by decide) 2 (by decide) mw_172 ev6 dc_T_putReference_89 ?_
      refine lv_aload_n hx hb dc_T_putReference_92 rfl (lv_at hl 1 rfl) ?_
      obtain ⟨v7, ev7, hF⟩ := pl_bd hF
      refine pl_getNI C w (ci := 3) in_N rfl (by decide) 5 (by decide) C.2.2.2.2.2.2.2.2.2.2.2.1 ev7 dc_T_putReference_93 ?_
      refine lv_aload_n hx hb dc_T_putReference_96 rfl (lv_at hl 1 rfl) ?_
      obtain ⟨v8, ev8, hF⟩ := pl_bd hF
      refine pl_getNI C w (ci := 3) in_N rfl (by decide) 6 (by decide) C.2.2.2.2.2.2.2.2.2.2.2.2.1 ev8 dc_T_putReference_97 ?_
      obtain ⟨u10, eu10, hF⟩ := pl_bd hF
      obtain ⟨q9, eq9, hF⟩ := pl_bd hF
      refine pl_gv (pl_runV (Cn := rn_C) (k := 2) C (tm_C_copy l D dA tt b n eq9) w hS rfl rfl mw_496 mw_497 mw_498 mw_68 mw_499 (by decide +kernel) ⟨by decide, by decide⟩ eu10 rfl (by decide) rfl hl.1 (Nat.le_of_ble_eq_true rfl) ⟨Nat.zero_le _, Nat.zero_le _⟩ rfl dc_T_putReference_100) hS (fun H locs w hS => ?_)
      exact tl_T_putReference_103 C hF w hS (lv_sub hl [] rfl)
    · have hF := (if_neg hc).symm.trans hF
      refine lv_aload_n hx hb dc_T_putReference_24 rfl (lv_at hl 0 rfl) ?_
      obtain ⟨v11, ev11, hF⟩ := pl_bd hF
      refine pl_getR C w (ci := 5) in_T rfl (by decide) 1 (by decide) mw_171 ev11 dc_T_putReference_25 ?_
      refine lv_aload_n hx hb dc_T_putReference_28 rfl (lv_at hl 0 rfl) ?_
      obtain ⟨v12, ev12, hF⟩ := pl_bd hF
      refine pl_getR C w (ci := 5) in_T rfl (by decide) 2 (by decide) mw_172 ev12 dc_T_putReference_29 ?_
      obtain ⟨u14, eu14, hF⟩ := pl_bd hF
      obtain ⟨v13, ev13, hF⟩ := pl_bd hF
      refine pl_gr (pl_runV (Cn := rn_C) (k := 0) C (tm_C_bytes l D dA tt b n ev13) w hS rfl rfl mw_461 mw_462 mw_463 mw_68 mw_464 (by decide +kernel) ⟨by decide, by decide⟩ eu14 rfl (by decide) rfl hl.1 (Nat.le_of_ble_eq_true rfl) ⟨Nat.zero_le _, Nat.zero_le _⟩ rfl dc_T_putReference_32) hS (fun H locs w hS => ?_)
      refine lv_aload_n hx hb dc_T_putReference_35 rfl (lv_at hl 1 rfl) ?_
      obtain ⟨v15, ev15, hF⟩ := pl_bd hF
      refine pl_getNI C w (ci := 3) in_N rfl (by decide) 5 (by decide) C.2.2.2.2.2.2.2.2.2.2.2.1 ev15 dc_T_putReference_36 ?_
      refine lv_aload_n hx hb dc_T_putReference_39 rfl (lv_at hl 1 rfl) ?_
      obtain ⟨v16, ev16, hF⟩ := pl_bd hF
      refine pl_getNI C w (ci := 3) in_N rfl (by decide) 6 (by decide) C.2.2.2.2.2.2.2.2.2.2.2.2.1 ev16 dc_T_putReference_40 ?_
      obtain ⟨u18, eu18, hF⟩ := pl_bd hF
      obtain ⟨q17, eq17, hF⟩ := pl_bd hF
      refine pl_gv (pl_runV (Cn := rn_H) (k := 3) C (tm_H_hash l D dA tt b n eq17) w hS rfl rfl mw_465 mw_466 mw_467 mw_66 mw_468 (by decide +kernel) ⟨by decide, by decide⟩ eu18 rfl (by decide) rfl hl.1 (Nat.le_of_ble_eq_true rfl) ⟨Nat.zero_le _, Nat.zero_le _⟩ rfl dc_T_putReference_43) hS (fun H locs w hS => ?_)
      refine lv_aload_n hx hb dc_T_putReference_46 rfl (lv_at hl 0 rfl) ?_
      obtain ⟨v19, ev19, hF⟩ := pl_bd hF
      refine pl_getR C w (ci := 5) in_T rfl (by decide) 2 (by decide) mw_172 ev19 dc_T_putReference_47 ?_
      refine lv_sipush (v := 160) hx hb dc_T_putReference_50 (by decide) ?_
      obtain ⟨u21, eu21, hF⟩ := pl_bd hF
      obtain ⟨q20, eq20, hF⟩ := pl_bd hF
      refine pl_gv (pl_runV (Cn := rn_C) (k := 1) C (tm_C_put l D dA tt b n eq20) w hS rfl rfl mw_457 mw_399 mw_400 mw_68 mw_401 (by decide +kernel) ⟨by decide, by decide⟩ eu21 rfl (by decide) rfl hl.1 (Nat.le_of_ble_eq_true rfl) ⟨Nat.zero_le _, Nat.zero_le _⟩ rfl dc_T_putReference_53) hS (fun H locs w hS => ?_)
      refine lv_iconst (v := 0) hx hb dc_T_putReference_56 (by decide) ?_
      refine lv_istore_n (lv' := [(2, .int 0), (0, .ref a0), (1, .ref a1)]) hx hb dc_T_putReference_57 rfl hl (by decide) rfl (fun ls hl => ?_)
      exact tl_T_putReference_58 C pl_N q20 a0 0 _ _ _ hF w hS (lv_sub hl [1, 0] rfl)
set_option maxHeartbeats 4000000 in
set_option maxRecDepth 100000 in
theorem tm_T_putReference (l : Launch) (D : va_G) (dA : Nat → ClassId) (tt : Nat → Nat) (b n : Nat) {f : pl_H} {a0 : Nat} {r1 : Option Nat} {f' : pl_H} (hF : fn_T_putReference f a0 r1 = some f') : Met l my_T_putReference (Cond.code my_T_putReference co_T_putReference 3 none :: pl_tb) rm_T_putReference (va_Pc [.ref a0, va_rf r1] (pl_pre D dA tt b n f)) (pl_qV D dA tt b n f') 0 0 (pl_A b) := by
  refine Met.ofW (cc := co_T_putReference) (maxL := 3) (ret := none) (by decide) rfl ?_
  intro p e s m args below meth c s₁ B hml hv
  obtain ⟨rfl, w, hK⟩ := hv
  have C : pl_C p s m _ meth c co_T_putReference 3 rn_T none "putReference" D dA tt b := ⟨B.exec, B.bytes, hml, B.returns, findClass_of_methodNamed B.named, B.notSynchronized, fun w hw => atoms_spec (ws := Cond.code my_T_putReference co_T_putReference 3 none :: pl_tb) B.pre w (List.mem_cons_of_mem _ hw), (name_of_methodNamed B.named B.method).1, hK⟩
  cases r1 with
  | none =>
    have hl := lv_entry ([.ref a0, va_rf none]) (n := 3) (Nat.le_of_ble_eq_true rfl)
    rw [lg_entry_eq]
    generalize (lg_sl ([.ref a0, va_rf none]) ++ List.replicate (3 - (lg_sl ([.ref a0, va_rf none])).length) Slot.unset).toArray = ls at hl ⊢
    have hl : lv_has ls 3 [(0, .ref a0), (1, va_rf none)] := hl
    exact tl_T_putReference C hF w va_S.rf hl
  | some v =>
    have hl := lv_entry ([.ref a0, va_rf (some v)]) (n := 3) (Nat.le_of_ble_eq_true rfl)
    rw [lg_entry_eq]
    generalize (lg_sl ([.ref a0, va_rf (some v)]) ++ List.replicate (3 - (lg_sl ([.ref a0, va_rf (some v)])).length) Slot.unset).toArray = ls at hl ⊢
    have hl : lv_has ls 3 [(0, .ref a0), (1, va_rf (some v))] := hl
    exact tl_T_putReference C hF w va_S.rf hl
def rm_T_rootByte : Room := { frames := 0, cells := 0, slots := 0, locals := 0 }
def fn_T_rootByte_20 (f : pl_H) (sx0 : Int32) : Option (Int32) := some sx0
def fn_T_rootByte_19 (f : pl_H) : Option (Int32) := fn_T_rootByte_20 f 0
def fn_T_rootByte (f : pl_H) (a0 : Nat) (x1 : Int32) : Option (Int32) := if x1 < 0 then fn_T_rootByte_19 f else if 32 ≤ x1 then fn_T_rootByte_19 f else (pl_gR f a0 5 5).bind fun v1 => (pl_aI f v1 x1).bind fun v2 => fn_T_rootByte_20 f v2
set_option maxHeartbeats 4000000 in
set_option maxRecDepth 100000 in
theorem tl_T_rootByte_20 {p : Program} {l : Launch} {e : Env} {s : State} {m : MethodId} {args : Array Value} {below : List Frame} {meth : Method} {c : Code} {D : va_G} {dA : Nat → ClassId} {tt : Nat → Nat} {b n : Nat} (C : pl_C p s m args meth c co_T_rootByte 2 rn_T (some .int) "rootByte" D dA tt b) {r : Int32} {f : pl_H} {sx0 : Int32} {H : Heap} {locs : List Loc} {ls : Array Slot} (hF : fn_T_rootByte_20 f sx0 = some r) (w : pl_wd D vwCl dA b n f H) (hS : va_S (pl_A b) s.heap H locs) (hl : lv_has ls 2 []) : W p l e rm_T_rootByte s m args below meth c H locs 0 0 (MQ below (pl_qI D dA tt b n f r) args s 0 0 (pl_A b)) (F0 m 20 ls [.int sx0]) := by
  have hx := C.1
  have hb := C.2.1
  have hown := C.2.2.2.2.1
  have hts := C.2.2.2.2.2.2.1
  unfold fn_T_rootByte_20 at hF
  exact pl_retI C w hS hF dc_T_rootByte_20
set_option maxHeartbeats 4000000 in
set_option maxRecDepth 100000 in
theorem tl_T_rootByte_19 {p : Program} {l : Launch} {e : Env} {s : State} {m : MethodId} {args : Array Value} {below : List Frame} {meth : Method} {c : Code} {D : va_G} {dA : Nat → ClassId} {tt : Nat → Nat} {b n : Nat} (C : pl_C p s m args meth c co_T_rootByte 2 rn_T (some .int) "rootByte" D dA tt b) {r : Int32} {f : pl_H} {H : Heap} {locs : List Loc} {ls : Array Slot} (hF : fn_T_rootByte_19 f = some r) (w : pl_wd D vwCl dA b n f H) (hS : va_S (pl_A b) s.heap H locs) (hl : lv_has ls 2 []) : W p l e rm_T_rootByte s m args below meth c H locs 0 0 (MQ below (pl_qI D dA tt b n f r) args s 0 0 (pl_A b)) (F0 m 19 ls []) := by
  have hx := C.1
  have hb := C.2.1
  have hown := C.2.2.2.2.1
  have hts := C.2.2.2.2.2.2.1
  unfold fn_T_rootByte_19 at hF
  refine lv_iconst (v := 0) hx hb dc_T_rootByte_19 (by decide) ?_
  exact tl_T_rootByte_20 C hF w hS (lv_sub hl [] rfl)
set_option maxHeartbeats 4000000 in
set_option maxRecDepth 100000 in
theorem tl_T_rootByte {p : Program} {l : Launch} {e : Env} {s : State} {m : MethodId} {args : Array Value} {below : List Frame} {meth : Method} {c : Code} {D : va_G} {dA : Nat → ClassId} {tt : Nat → Nat} {b n : Nat} (C : pl_C p s m args meth c co_T_rootByte 2 rn_T (some .int) "rootByte" D dA tt b) {r : Int32} {f : pl_H} {a0 : Nat} {x1 : Int32} {H : Heap} {locs : List Loc} {ls : Array Slot} (hF : fn_T_rootByte f a0 x1 = some r) (w : pl_wd D vwCl dA b n f H) (hS : va_S (pl_A b) s.heap H locs) (hl : lv_has ls 2 [(0, .ref a0), (1, .int x1)]) : W p l e rm_T_rootByte s m args below meth c H locs 0 0 (MQ below (pl_qI D dA tt b n f r) args s 0 0 (pl_A b)) (F0 m 0 ls []) := by
  have hx := C.1
  have hb := C.2.1
  have hown := C.2.2.2.2.1
  have hts := C.2.2.2.2.2.2.1
  unfold fn_T_rootByte at hF
  refine lv_iload_n hx hb dc_T_rootByte_0 rfl (lv_at hl 1 rfl) ?_
  refine lv_if_lt hx hb dc_T_rootByte_1 (tgt := 19) (by decide) (fun hc => ?_) (fun hc => ?_)
  · have hF := (if_pos hc).symm.trans hF
    exact tl_T_rootByte_19 C hF w hS (lv_sub hl [] rfl)
  · have hF := (if_neg hc).symm.trans hF
    refine lv_iload_n hx hb dc_T_rootByte_4 rfl (lv_at hl 1 rfl) ?_
    refine lv_bipush (v := 32) hx hb dc_T_rootByte_5 (by decide) ?_
    refine lv_icmp_ge hx hb dc_T_rootByte_7 (tgt := 19) (by decide) (fun hc => ?_) (fun hc => ?_)
    · have hF := (if_pos hc).symm.trans hF
      exact tl_T_rootByte_19 C hF w hS (lv_sub hl [] rfl)
    · have hF := (if_neg hc).symm.trans hF
      refine lv_aload_n hx hb dc_T_rootByte_10 rfl (lv_at hl 0 rfl) ?_
      obtain ⟨v1, ev1, hF⟩ := pl_bd hF
      refine pl_getR C w (ci := 5) in_T rfl (by decide) 5 (by decide) mw_175 ev1 dc_T_rootByte_11 ?_
      refine lv_iload_n hx hb dc_T_rootByte_14 rfl (lv_at hl 1 rfl) ?_
      obtain ⟨v2, ev2, hF⟩ := pl_bd hF
      refine pl_aldI C w ev2 dc_T_rootByte_15 ?_
      refine lv_goto hx hb dc_T_rootByte_16 (tgt := 20) (by decide) ?_
      exact tl_T_rootByte_20 C hF w hS (lv_sub hl [] rfl)
set_option maxHeartbeats 4000000 in
set_option maxRecDepth 100000 in
theorem tm_T_rootByte (l : Launch) (D : va_G) (dA : Nat → ClassId) (tt : Nat → Nat) (b n : Nat) {f : pl_H} {a0 : Nat} {x1 : Int32} {r : Int32} (hF : fn_T_rootByte f a0 x1 = some r) : Met l my_T_rootByte (Cond.code my_T_rootByte co_T_rootByte 2 (some .int) :: pl_tb) rm_T_rootByte (va_Pc [.ref a0, .int x1] (pl_pre D dA tt b n f)) (pl_qI D dA tt b n f r) 0 0 (pl_A b) := by
  refine Met.ofW (cc := co_T_rootByte) (maxL := 2) (ret := (some .int)) (by decide) rfl ?_
  intro p e s m args below meth c s₁ B hml hv
  obtain ⟨rfl, w, hK⟩ := hv
  have C : pl_C p s m _ meth c co_T_rootByte 2 rn_T (some .int) "rootByte" D dA tt b := ⟨B.exec, B.bytes, hml, B.returns, findClass_of_methodNamed B.named, B.notSynchronized, fun w hw => atoms_spec (ws := Cond.code my_T_rootByte co_T_rootByte 2 (some .int) :: pl_tb) B.pre w (List.mem_cons_of_mem _ hw), (name_of_methodNamed B.named B.method).1, hK⟩
  have hl := lv_entry ([.ref a0, .int x1]) (n := 2) (Nat.le_of_ble_eq_true rfl)
  rw [lg_entry_eq]
  generalize (lg_sl ([.ref a0, .int x1]) ++ List.replicate (2 - (lg_sl ([.ref a0, .int x1])).length) Slot.unset).toArray = ls at hl ⊢
  have hl : lv_has ls 2 [(0, .ref a0), (1, .int x1)] := hl
  exact tl_T_rootByte C hF w va_S.rf hl
def rm_T_countOf : Room := { frames := 0, cells := 0, slots := 0, locals := 0 }
def fn_T_countOf_23 (f : pl_H) (sx0 : Int32) : Option (Int32) := some sx0
def fn_T_countOf_22 (f : pl_H) : Option (Int32) := fn_T_countOf_23 f 0
def fn_T_countOf (f : pl_H) (a0 : Nat) (x1 : Int32) : Option (Int32) := if x1 < 0 then fn_T_countOf_22 f else (pl_gR f a0 5 4).bind fun v1 => (pl_ln f v1).bind fun v2 => if v2 ≤ x1 then fn_T_countOf_22 f else (pl_gR f a0 5 4).bind fun v3 => (pl_aI f v3 x1).bind fun v4 => fn_T_countOf_23 f v4
set_option maxHeartbeats 4000000 in
set_option maxRecDepth 100000 in
theorem tl_T_countOf_23 {p : Program} {l : Launch} {e : Env} {s : State} {m : MethodId} {args : Array Value} {below : List Frame} {meth : Method} {c : Code} {D : va_G} {dA : Nat → ClassId} {tt : Nat → Nat} {b n : Nat} (C : pl_C p s m args meth c co_T_countOf 2 rn_T (some .int) "countOf" D dA tt b) {r : Int32} {f : pl_H} {sx0 : Int32} {H : Heap} {locs : List Loc} {ls : Array Slot} (hF : fn_T_countOf_23 f sx0 = some r) (w : pl_wd D vwCl dA b n f H) (hS : va_S (pl_A b) s.heap H locs) (hl : lv_has ls 2 []) : W p l e rm_T_countOf s m args below meth c H locs 0 0 (MQ below (pl_qI D dA tt b n f r) args s 0 0 (pl_A b)) (F0 m 23 ls [.int sx0]) := by
  have hx := C.1
  have hb := C.2.1
  have hown := C.2.2.2.2.1
  have hts := C.2.2.2.2.2.2.1
  unfold fn_T_countOf_23 at hF
  exact pl_retI C w hS hF dc_T_countOf_23
set_option maxHeartbeats 4000000 in
set_option maxRecDepth 100000 in
theorem tl_T_countOf_22 {p : Program} {l : Launch} {e : Env} {s : State} {m : MethodId} {args : Array Value} {below : List Frame} {meth : Method} {c : Code} {D : va_G} {dA : Nat → ClassId} {tt : Nat → Nat} {b n : Nat} (C : pl_C p s m args meth c co_T_countOf 2 rn_T (some .int) "countOf" D dA tt b) {r : Int32} {f : pl_H} {H : Heap} {locs : List Loc} {ls : Array Slot} (hF : fn_T_countOf_22 f = some r) (w : pl_wd D vwCl dA b n f H) (hS : va_S (pl_A b) s.heap H locs) (hl : lv_has ls 2 []) : W p l e rm_T_countOf s m args below meth c H locs 0 0 (MQ below (pl_qI D dA tt b n f r) args s 0 0 (pl_A b)) (F0 m 22 ls []) := by
  have hx := C.1
  have hb := C.2.1
  have hown := C.2.2.2.2.1
  have hts := C.2.2.2.2.2.2.1
  unfold fn_T_countOf_22 at hF
  refine lv_iconst (v := 0) hx hb dc_T_countOf_22 (by decide) ?_
  exact tl_T_countOf_23 C hF w hS (lv_sub hl [] rfl)
set_option maxHeartbeats 4000000 in
set_option maxRecDepth 100000 in
theorem tl_T_countOf {p : Program} {l : Launch} {e : Env} {s : State} {m : MethodId} {args : Array Value} {below : List Frame} {meth : Method} {c : Code} {D : va_G} {dA : Nat → ClassId} {tt : Nat → Nat} {b n : Nat} (C : pl_C p s m args meth c co_T_countOf 2 rn_T (some .int) "countOf" D dA tt b) {r : Int32} {f : pl_H} {a0 : Nat} {x1 : Int32} {H : Heap} {locs : List Loc} {ls : Array Slot} (hF : fn_T_countOf f a0 x1 = some r) (w : pl_wd D vwCl dA b n f H) (hS : va_S (pl_A b) s.heap H locs) (hl : lv_has ls 2 [(0, .ref a0), (1, .int x1)]) : W p l e rm_T_countOf s m args below meth c H locs 0 0 (MQ below (pl_qI D dA tt b n f r) args s 0 0 (pl_A b)) (F0 m 0 ls []) := by
  have hx := C.1
  have hb := C.2.1
  have hown := C.2.2.2.2.1
  have hts := C.2.2.2.2.2.2.1
  unfold fn_T_countOf at hF
  refine lv_iload_n hx hb dc_T_countOf_0 rfl (lv_at hl 1 rfl) ?_
  refine lv_if_lt hx hb dc_T_countOf_1 (tgt := 22) (by decide) (fun hc => ?_) (fun hc => ?_)
  · have hF := (if_pos hc).symm.trans hF
    exact tl_T_countOf_22 C hF w hS (lv_sub hl [] rfl)
  · have hF := (if_neg hc).symm.trans hF
    refine lv_iload_n hx hb dc_T_countOf_4 rfl (lv_at hl 1 rfl) ?_
    refine lv_aload_n hx hb dc_T_countOf_5 rfl (lv_at hl 0 rfl) ?_
    obtain ⟨v1, ev1, hF⟩ := pl_bd hF
    refine pl_getR C w (ci := 5) in_T rfl (by decide) 4 (by decide) mw_174 ev1 dc_T_countOf_6 ?_
    obtain ⟨v2, ev2, hF⟩ := pl_bd hF
    refine pl_len C w ev2 dc_T_countOf_9 ?_
    refine lv_icmp_ge hx hb dc_T_countOf_10 (tgt := 22) (by decide) (fun hc => ?_) (fun hc => ?_)
    · have hF := (if_pos hc).symm.trans hF
      exact tl_T_countOf_22 C hF w hS (lv_sub hl [] rfl)
    · have hF := (if_neg hc).symm.trans hF
      refine lv_aload_n hx hb dc_T_countOf_13 rfl (lv_at hl 0 rfl) ?_
      obtain ⟨v3, ev3, hF⟩ := pl_bd hF
      refine pl_getR C w (ci := 5) in_T rfl (by decide) 4 (by decide) mw_174 ev3 dc_T_countOf_14 ?_
      refine lv_iload_n hx hb dc_T_countOf_17 rfl (lv_at hl 1 rfl) ?_
      obtain ⟨v4, ev4, hF⟩ := pl_bd hF
      refine pl_aldI C w ev4 dc_T_countOf_18 ?_
      refine lv_goto hx hb dc_T_countOf_19 (tgt := 23) (by decide) ?_
      exact tl_T_countOf_23 C hF w hS (lv_sub hl [] rfl)
set_option maxHeartbeats 4000000 in
set_option maxRecDepth 100000 in
theorem tm_T_countOf (l : Launch) (D : va_G) (dA : Nat → ClassId) (tt : Nat → Nat) (b n : Nat) {f : pl_H} {a0 : Nat} {x1 : Int32} {r : Int32} (hF : fn_T_countOf f a0 x1 = some r) : Met l my_T_countOf (Cond.code my_T_countOf co_T_countOf 2 (some .int) :: pl_tb) rm_T_countOf (va_Pc [.ref a0, .int x1] (pl_pre D dA tt b n f)) (pl_qI D dA tt b n f r) 0 0 (pl_A b) := by
  refine Met.ofW (cc := co_T_countOf) (maxL := 2) (ret := (some .int)) (by decide) rfl ?_
  intro p e s m args below meth c s₁ B hml hv
  obtain ⟨rfl, w, hK⟩ := hv
  have C : pl_C p s m _ meth c co_T_countOf 2 rn_T (some .int) "countOf" D dA tt b := ⟨B.exec, B.bytes, hml, B.returns, findClass_of_methodNamed B.named, B.notSynchronized, fun w hw => atoms_spec (ws := Cond.code my_T_countOf co_T_countOf 2 (some .int) :: pl_tb) B.pre w (List.mem_cons_of_mem _ hw), (name_of_methodNamed B.named B.method).1, hK⟩
  have hl := lv_entry ([.ref a0, .int x1]) (n := 2) (Nat.le_of_ble_eq_true rfl)
  rw [lg_entry_eq]
  generalize (lg_sl ([.ref a0, .int x1]) ++ List.replicate (2 - (lg_sl ([.ref a0, .int x1])).length) Slot.unset).toArray = ls at hl ⊢
  have hl : lv_has ls 2 [(0, .ref a0), (1, .int x1)] := hl
  exact tl_T_countOf C hF w va_S.rf hl
def rm_T_topLength : Room := { frames := 0, cells := 0, slots := 0, locals := 0 }
def fn_T_topLength (f : pl_H) (a0 : Nat) : Option (Int32) := (pl_gR f a0 5 7).bind fun v1 => (pl_gI f v1 3 6).bind fun v2 => some v2
set_option maxHeartbeats 4000000 in
set_option maxRecDepth 100000 in
theorem tl_T_topLength {p : Program} {l : Launch} {e : Env} {s : State} {m : MethodId} {args : Array Value} {below : List Frame} {meth : Method} {c : Code} {D : va_G} {dA : Nat → ClassId} {tt : Nat → Nat} {b n : Nat} (C : pl_C p s m args meth c co_T_topLength 1 rn_T (some .int) "topLength" D dA tt b) {r : Int32} {f : pl_H} {a0 : Nat} {H : Heap} {locs : List Loc} {ls : Array Slot} (hF : fn_T_topLength f a0 = some r) (w : pl_wd D vwCl dA b n f H) (hS : va_S (pl_A b) s.heap H locs) (hl : lv_has ls 1 [(0, .ref a0)]) : W p l e rm_T_topLength s m args below meth c H locs 0 0 (MQ below (pl_qI D dA tt b n f r) args s 0 0 (pl_A b)) (F0 m 0 ls []) := by
  have hx := C.1
  have hb := C.2.1
  have hown := C.2.2.2.2.1
  have hts := C.2.2.2.2.2.2.1
  unfold fn_T_topLength at hF
  refine lv_aload_n hx hb dc_T_topLength_0 rfl (lv_at hl 0 rfl) ?_
  obtain ⟨v1, ev1, hF⟩ := pl_bd hF
  refine pl_getR C w (ci := 5) in_T rfl (by decide) 7 (by decide) mw_177 ev1 dc_T_topLength_1 ?_
  obtain ⟨v2, ev2, hF⟩ := pl_bd hF
  refine pl_getNI C w (ci := 3) in_N rfl (by decide) 6 (by decide) C.2.2.2.2.2.2.2.2.2.2.2.2.1 ev2 dc_T_topLength_4 ?_
  exact pl_retI C w hS hF dc_T_topLength_7
set_option maxHeartbeats 4000000 in
set_option maxRecDepth 100000 in
theorem tm_T_topLength (l : Launch) (D : va_G) (dA : Nat → ClassId) (tt : Nat → Nat) (b n : Nat) {f : pl_H} {a0 : Nat} {r : Int32} (hF : fn_T_topLength f a0 = some r) : Met l my_T_topLength (Cond.code my_T_topLength co_T_topLength 1 (some .int) :: pl_tb) rm_T_topLength (va_Pc [.ref a0] (pl_pre D dA tt b n f)) (pl_qI D dA tt b n f r) 0 0 (pl_A b) := by
  refine Met.ofW (cc := co_T_topLength) (maxL := 1) (ret := (some .int)) (by decide) rfl ?_
  intro p e s m args below meth c s₁ B hml hv
  obtain ⟨rfl, w, hK⟩ := hv
  have C : pl_C p s m _ meth c co_T_topLength 1 rn_T (some .int) "topLength" D dA tt b := ⟨B.exec, B.bytes, hml, B.returns, findClass_of_methodNamed B.named, B.notSynchronized, fun w hw => atoms_spec (ws := Cond.code my_T_topLength co_T_topLength 1 (some .int) :: pl_tb) B.pre w (List.mem_cons_of_mem _ hw), (name_of_methodNamed B.named B.method).1, hK⟩
  have hl := lv_entry ([.ref a0]) (n := 1) (Nat.le_of_ble_eq_true rfl)
  rw [lg_entry_eq]
  generalize (lg_sl ([.ref a0]) ++ List.replicate (1 - (lg_sl ([.ref a0])).length) Slot.unset).toArray = ls at hl ⊢
  have hl : lv_has ls 1 [(0, .ref a0)] := hl
  exact tl_T_topLength C hF w va_S.rf hl
def rm_T_writeProof : Room := { frames := 3, cells := 0, slots := 0, locals := 84 }
def fn_T_writeProof_89 (f : pl_H) : Option (pl_H) := some f
def fn_T_writeProof_77 (rc41 : pl_H → Nat → Int32 → Nat → (Option Nat) → Int32 → Option (pl_H)) (f : pl_H) (a0 : Nat) (x1 : Int32) (a2 : Nat) (r3 : Option Nat) (x4 : Int32) : Option (pl_H) := r3.bind fun a1 => (pl_is f a1 3).bind fun u3 => (fn_N_next f a1 x1).bind fun v2 => rc41 f a0 x1 a2 v2 (x4 + 1)
def fn_T_writeProof_41 : Nat → pl_H → Nat → Int32 → Nat → (Option Nat) → Int32 → Option (pl_H)
  | 0 => fun _ _ _ _ _ _ => none
  | k + 1 => fun f a0 x1 a2 r3 x4 => if 4 < x4 then fn_T_writeProof_89 f else (match r3 with | none => fn_T_writeProof_89 f | some a1 => (fn_T_isHashed f a1).bind fun v2 => if v2 = 0 then fn_T_writeProof_77 (fn_T_writeProof_41 k) f a0 x1 a2 ((some a1)) x4 else (pl_gR f a0 5 2).bind fun v3 => (pl_is f v3 1).bind fun u5 => (fn_C_bytes f v3).bind fun v4 => (pl_gI f a1 3 5).bind fun v6 => (pl_gI f a1 3 6).bind fun v7 => (pl_is f a2 4).bind fun u9 => (fn_P_add f a2 v4 v6 v7).bind fun q8 => fn_T_writeProof_77 (fn_T_writeProof_41 k) q8 a0 x1 a2 ((some a1)) x4)
def fn_T_writeProof (f : pl_H) (a0 : Nat) (x1 : Int32) (a2 : Nat) : Option (pl_H) := (pl_is f a2 4).bind fun u2 => (fn_P_clear f a2).bind fun q1 => (pl_gR q1 a0 5 2).bind fun v3 => (pl_is q1 v3 1).bind fun u5 => (fn_C_bytes q1 v3).bind fun v4 => (pl_gR q1 a0 5 7).bind fun v6 => (pl_gI q1 v6 3 5).bind fun v7 => (pl_gR q1 a0 5 7).bind fun v8 => (pl_gI q1 v8 3 6).bind fun v9 => (pl_is q1 a2 4).bind fun u11 => (fn_P_add q1 a2 v4 v7 v9).bind fun q10 => (pl_gR q10 a0 5 7).bind fun v12 => (pl_is q10 v12 3).bind fun u14 => (fn_N_next q10 v12 x1).bind fun v13 => fn_T_writeProof_41 pl_N q10 a0 x1 a2 v13 1
set_option maxHeartbeats 4000000 in
set_option maxRecDepth 100000 in
theorem tl_T_writeProof_89 {p : Program} {l : Launch} {e : Env} {s : State} {m : MethodId} {args : Array Value} {below : List Frame} {meth : Method} {c : Code} {D : va_G} {dA : Nat → ClassId} {tt : Nat → Nat} {b n : Nat} (C : pl_C p s m args meth c co_T_writeProof 5 rn_T none "writeProof" D dA tt b) {f' : pl_H} {f : pl_H} {H : Heap} {locs : List Loc} {ls : Array Slot} (hF : fn_T_writeProof_89 f = some f') (w : pl_wd D vwCl dA b n f H) (hS : va_S (pl_A b) s.heap H locs) (hl : lv_has ls 5 []) : W p l e rm_T_writeProof s m args below meth c H locs 0 0 (MQ below (pl_qV D dA tt b n f') args s 0 0 (pl_A b)) (F0 m 89 ls []) := by
  have hx := C.1
  have hb := C.2.1
  have hown := C.2.2.2.2.1
  have hts := C.2.2.2.2.2.2.1
  unfold fn_T_writeProof_89 at hF
  exact pl_retVw C w hS hF dc_T_writeProof_89
set_option maxHeartbeats 4000000 in
set_option maxRecDepth 100000 in
theorem tl_T_writeProof_77 {p : Program} {l : Launch} {e : Env} {s : State} {m : MethodId} {args : Array Value} {below : List Frame} {meth : Method} {c : Code} {D : va_G} {dA : Nat → ClassId} {tt : Nat → Nat} {b n : Nat} (C : pl_C p s m args meth c co_T_writeProof 5 rn_T none "writeProof" D dA tt b) {f' : pl_H} {rc41 : pl_H → Nat → Int32 → Nat → (Option Nat) → Int32 → Option (pl_H)} (hr41 : ∀ (f : pl_H) (a0 : Nat) (x1 : Int32) (a2 : Nat) (r3 : Option Nat) (x4 : Int32) (H : Heap) (locs : List Loc) (ls : Array Slot), rc41 f a0 x1 a2 r3 x4 = some f' → pl_wd D vwCl dA b n f H → va_S (pl_A b) s.heap H locs → lv_has ls 5 [(0, .ref a0), (1, .int x1), (2, .ref a2), (3, va_rf r3), (4, .int x4)] → W p l e rm_T_writeProof s m args below meth c H locs 0 0 (MQ below (pl_qV D dA tt b n f') args s 0 0 (pl_A b)) (F0 m 41 ls [])) {f : pl_H} {a0 : Nat} {x1 : Int32} {a2 : Nat} {r3 : Option Nat} {x4 : Int32} {H : Heap} {locs : List Loc} {ls : Array Slot} (hF : fn_T_writeProof_77 rc41 f a0 x1 a2 r3 x4 = some f') (w : pl_wd D vwCl dA b n f H) (hS : va_S (pl_A b) s.heap H locs) (hl : lv_has ls 5 [(0, .ref a0), (1, .int x1), (2, .ref a2), (3, va_rf r3), (4, .int x4)]) : W p l e rm_T_writeProof s m args below meth c H locs 0 0 (MQ below (pl_qV D dA tt b n f') args s 0 0 (pl_A b)) (F0 m 77 ls []) := by
  have hx := C.1
  have hb := C.2.1
  have hown := C.2.2.2.2.1
  have hts := C.2.2.2.2.2.2.1
  unfold fn_T_writeProof_77 at hF
  refine pl_aload_n hx hb dc_T_writeProof_77 rfl (lv_at hl 3 rfl) ?_
  refine lv_iload_n hx hb dc_T_writeProof_78 rfl (lv_at hl 1 rfl) ?_
  obtain ⟨a1, hz, hG⟩ := pl_bd hF
  clear hF
  subst hz
  have hF := hG
  clear hG
  have hl : lv_has ls 5 [(0, .ref a0), (1, .int x1), (2, .ref a2), (3, .ref a1), (4, .int x4)] := hl
  obtain ⟨u3, eu3, hF⟩ := pl_bd hF
  obtain ⟨v2, ev2, hF⟩ := pl_bd hF
  refine pl_gq (pl_runV (Cn := rn_N) (k := 1) C (tm_N_next l D dA tt b n ev2) w hS rfl rfl mw_543 mw_544 mw_545 mw_69 mw_546 (by decide +kernel) ⟨by decide, by decide⟩ eu3 rfl (by decide) rfl hl.1 (Nat.le_of_ble_eq_true rfl) ⟨Nat.zero_le _, Nat.zero_le _⟩ rfl dc_T_writeProof_79) hS (fun H locs w hS => ?_)
  refine pl_astore_n (lv' := [(3, va_rf v2), (0, .ref a0), (1, .int x1), (2, .ref a2), (4, .int x4)]) hx hb dc_T_writeProof_82 rfl hl (by decide) rfl (fun ls hl => ?_)
  refine lv_iinc (k := 4) (v := x4 + 1) (lv' := [(4, .int (x4 + 1)), (3, va_rf v2), (0, .ref a0), (1, .int x1), (2, .ref a2)]) hx hb dc_T_writeProof_83 hl rfl rfl (by decide) (by simp [pl_cat]) (fun ls hl => ?_)
  refine lv_goto hx hb dc_T_writeProof_86 (tgt := 41) (by decide) ?_
  exact hr41 f a0 x1 a2 v2 (x4 + 1) _ _ _ hF w hS (lv_sub hl [2, 3, 4, 1, 0] rfl)
set_option maxHeartbeats 4000000 in
set_option maxRecDepth 100000 in
theorem tl_T_writeProof_41 {p : Program} {l : Launch} {e : Env} {s : State} {m : MethodId} {args : Array Value} {below : List Frame} {meth : Method} {c : Code} {D : va_G} {dA : Nat → ClassId} {tt : Nat → Nat} {b n : Nat} (C : pl_C p s m args meth c co_T_writeProof 5 rn_T none "writeProof" D dA tt b) {f' : pl_H} : ∀ k : Nat, ∀ (f : pl_H) (a0 : Nat) (x1 : Int32) (a2 : Nat) (r3 : Option Nat) (x4 : Int32) (H : Heap) (locs : List Loc) (ls : Array Slot), fn_T_writeProof_41 k f a0 x1 a2 r3 x4 = some f' → pl_wd D vwCl dA b n f H → va_S (pl_A b) s.heap H locs → lv_has ls 5 [(0, .ref a0), (1, .int x1), (2, .ref a2), (3, va_rf r3), (4, .int x4)] → W p l e rm_T_writeProof s m args below meth c H locs 0 0 (MQ below (pl_qV D dA tt b n f') args s 0 0 (pl_A b)) (F0 m 41 ls []) := by
  have hx := C.1
  have hb := C.2.1
  have hown := C.2.2.2.2.1
  have hts := C.2.2.2.2.2.2.1
  intro k
  induction k with
  | zero =>
    intro f a0 x1 a2 r3 x4 H locs ls hF
    cases hF
  | succ k ih =>
    intro f a0 x1 a2 r3 x4 H locs ls hF w hS hl
    unfold fn_T_writeProof_41 at hF
    refine lv_iload hx hb dc_T_writeProof_41 (lv_at hl 4 rfl) ?_
    refine lv_iconst (v := 4) hx hb dc_T_writeProof_43 (by decide) ?_
    refine lv_icmp_gt hx hb dc_T_writeProof_44 (tgt := 89) (by decide) (fun hc => ?_) (fun hc => ?_)
    · have hF := (if_pos hc).symm.trans hF
      exact tl_T_writeProof_89 C hF w hS (lv_sub hl [] rfl)
    · have hF := (if_neg hc).symm.trans hF
      refine pl_aload_n hx hb dc_T_writeProof_47 rfl (lv_at hl 3 rfl) ?_
      cases r3 with
      | none =>
        have hl : lv_has ls 5 [(0, .ref a0), (1, .int x1), (2, .ref a2), (3, .null), (4, .int x4)] := hl
        refine lv_ifnullN hx hb dc_T_writeProof_48 (tgt := 89) (by decide) ?_
        exact tl_T_writeProof_89 C hF w hS (lv_sub hl [] rfl)
      | some a1 =>
        have hl : lv_has ls 5 [(0, .ref a0), (1, .int x1), (2, .ref a2), (3, .ref a1), (4, .int x4)] := hl
        refine lv_ifnull hx hb dc_T_writeProof_48 ?_
        refine lv_aload_n hx hb dc_T_writeProof_51 rfl (lv_at hl 3 rfl) ?_
        obtain ⟨v2, ev2, hF⟩ := pl_bd hF
        refine pl_gi (pl_runS (k := 1) C (tm_T_isHashed l D dA tt b n ev2) w hS rfl rfl mw_458 mw_459 mw_67 mw_460 (by decide +kernel) ⟨by decide, by decide⟩ rfl hl.1 (Nat.le_of_ble_eq_true rfl) ⟨Nat.zero_le _, Nat.zero_le _⟩ rfl dc_T_writeProof_52) hS (fun H locs w hS => ?_)
        refine lv_if_eq hx hb dc_T_writeProof_55 (tgt := 77) (by decide) (fun hc => ?_) (fun hc => ?_)
        · have hF := (if_pos hc).symm.trans hF
          exact tl_T_writeProof_77 C ih hF w hS (lv_sub hl [0, 1, 2, 3, 4] rfl)
        · have hF := (if_neg hc).symm.trans hF
          refine lv_aload_n hx hb dc_T_writeProof_58 rfl (lv_at hl 2 rfl) ?_
          refine lv_aload_n hx hb dc_T_writeProof_59 rfl (lv_at hl 0 rfl) ?_
          obtain ⟨v3, ev3, hF⟩ := pl_bd hF
          refine pl_getR C w (ci := 5) in_T rfl (by decide) 2 (by decide) mw_172 ev3 dc_T_writeProof_60 ?_
          obtain ⟨u5, eu5, hF⟩ := pl_bd hF
          obtain ⟨v4, ev4, hF⟩ := pl_bd hF
          refine pl_gr (pl_runV (Cn := rn_C) (k := 0) C (tm_C_bytes l D dA tt b n ev4) w hS rfl rfl mw_461 mw_462 mw_463 mw_68 mw_464 (by decide +kernel) ⟨by decide, by decide⟩ eu5 rfl (by decide) rfl hl.1 (Nat.le_of_ble_eq_true rfl) ⟨Nat.zero_le _, Nat.zero_le _⟩ rfl dc_T_writeProof_63) hS (fun H locs w hS => ?_)
          refine lv_aload_n hx hb dc_T_writeProof_66 rfl (lv_at hl 3 rfl) ?_
          obtain ⟨v6, ev6, hF⟩ := pl_bd hF
          refine pl_getNI C w (ci := 3) in_N rfl (by decide) 5 (by decide) C.2.2.2.2.2.2.2.2.2.2.2.1 ev6 dc_T_writeProof_67 ?_
          refine lv_aload_n hx hb dc_T_writeProof_70 rfl (lv_at hl 3 rfl) ?_
          obtain ⟨v7, ev7, hF⟩ := pl_bd hF
          refine pl_getNI C w (ci := 3) in_N rfl (by decide) 6 (by decide) C.2.2.2.2.2.2.2.2.2.2.2.2.1 ev7 dc_T_writeProof_71 ?_
          obtain ⟨u9, eu9, hF⟩ := pl_bd hF
          obtain ⟨q8, eq8, hF⟩ := pl_bd hF
          refine pl_gv (pl_runV (Cn := rn_P) (k := 3) C (tm_P_add l D dA tt b n eq8) w hS rfl rfl mw_536 mw_537 mw_538 mw_70 mw_539 (by decide +kernel) ⟨by decide, by decide⟩ eu9 rfl (by decide) rfl hl.1 (Nat.le_of_ble_eq_true rfl) ⟨Nat.zero_le _, Nat.zero_le _⟩ rfl dc_T_writeProof_74) hS (fun H locs w hS => ?_)
          exact tl_T_writeProof_77 C ih hF w hS (lv_sub hl [0, 1, 2, 3, 4] rfl)
set_option maxHeartbeats 4000000 in
set_option maxRecDepth 100000 in
theorem tl_T_writeProof {p : Program} {l : Launch} {e : Env} {s : State} {m : MethodId} {args : Array Value} {below : List Frame} {meth : Method} {c : Code} {D : va_G} {dA : Nat → ClassId} {tt : Nat → Nat} {b n : Nat} (C : pl_C p s m args meth c co_T_writeProof 5 rn_T none "writeProof" D dA tt b) {f' : pl_H} {f : pl_H} {a0 : Nat} {x1 : Int32} {a2 : Nat} {H : Heap} {locs : List Loc} {ls : Array Slot} (hF : fn_T_writeProof f a0 x1 a2 = some f') (w : pl_wd D vwCl dA b n f H) (hS : va_S (pl_A b) s.heap H locs) (hl : lv_has ls 5 [(0, .ref a0), (1, .int x1), (2, .ref a2)]) : W p l e rm_T_writeProof s m args below meth c H locs 0 0 (MQ below (pl_qV D dA tt b n f') args s 0 0 (pl_A b)) (F0 m 0 ls []) := by
  have hx := C.1
  have hb := C.2.1
  have hown := C.2.2.2.2.1
  have hts := C.2.2.2.2.2.2.1
  unfold fn_T_writeProof at hF
  refine lv_aload_n hx hb dc_T_writeProof_0 rfl (lv_at hl 2 rfl) ?_
  obtain ⟨u2, eu2, hF⟩ := pl_bd hF
  obtain ⟨q1, eq1, hF⟩ := pl_bd hF
  refine pl_gv (pl_runV (Cn := rn_P) (k := 0) C (tm_P_clear l D dA tt b n eq1) w hS rfl rfl mw_532 mw_533 mw_534 mw_70 mw_535 (by decide +kernel) ⟨by decide, by decide⟩ eu2 rfl (by decide) rfl hl.1 (Nat.le_of_ble_eq_true rfl) ⟨Nat.zero_le _, Nat.zero_le _⟩ rfl dc_T_writeProof_1) hS (fun H locs w hS => ?_)
  refine lv_aload_n hx hb dc_T_writeProof_4 rfl (lv_at hl 2 rfl) ?_
  refine lv_aload_n hx hb dc_T_writeProof_5 rfl (lv_at hl 0 rfl) ?_
  obtain ⟨v3, ev3, hF⟩ := pl_bd hF
  refine pl_getR C w (ci := 5) in_T rfl (by decide) 2 (by decide) mw_172 ev3 dc_T_writeProof_6 ?_
  obtain ⟨u5, eu5, hF⟩ := pl_bd hF
  obtain ⟨v4, ev4, hF⟩ := pl_bd hF
  refine pl_gr (pl_runV (Cn := rn_C) (k := 0) C (tm_C_bytes l D dA tt b n ev4) w hS rfl rfl mw_461 mw_462 mw_463 mw_68 mw_464 (by decide +kernel) ⟨by decide, by decide⟩ eu5 rfl (by decide) rfl hl.1 (Nat.le_of_ble_eq_true rfl) ⟨Nat.zero_le _, Nat.zero_le _⟩ rfl dc_T_writeProof_9) hS (fun H locs w hS => ?_)
  refine lv_aload_n hx hb dc_T_writeProof_12 rfl (lv_at hl 0 rfl) ?_
  obtain ⟨v6, ev6, hF⟩ := pl_bd hF
  refine pl_getR C w (ci := 5) in_T rfl (by decide) 7 (by decide) mw_177 ev6 dc_T_writeProof_13 ?_
  obtain ⟨v7, ev7, hF⟩ := pl_bd hF
  refine pl_getNI C w (ci := 3) in_N rfl (by decide) 5 (by decide) C.2.2.2.2.2.2.2.2.2.2.2.1 ev7 dc_T_writeProof_16 ?_
  refine lv_aload_n hx hb dc_T_writeProof_19 rfl (lv_at hl 0 rfl) ?_
  obtain ⟨v8, ev8, hF⟩ := pl_bd hF
  refine pl_getR C w (ci := 5) in_T rfl (by decide) 7 (by decide) mw_177 ev8 dc_T_writeProof_20 ?_
  obtain ⟨v9, ev9, hF⟩ := pl_bd hF
  refine pl_getNI C w (ci := 3) in_N rfl (by decide) 6 (by decide) C.2.2.2.2.2.2.2.2.2.2.2.2.1 ev9 dc_T_writeProof_23 ?_
  obtain ⟨u11, eu11, hF⟩ := pl_bd hF
  obtain ⟨q10, eq10, hF⟩ := pl_bd hF
  refine pl_gv (pl_runV (Cn := rn_P) (k := 3) C (tm_P_add l D dA tt b n eq10) w hS rfl rfl mw_536 mw_537 mw_538 mw_70 mw_539 (by decide +kernel) ⟨by decide, by decide⟩ eu11 rfl (by decide) rfl hl.1 (Nat.le_of_ble_eq_true rfl) ⟨Nat.zero_le _, Nat.zero_le _⟩ rfl dc_T_writeProof_26) hS (fun H locs w hS => ?_)
  refine lv_aload_n hx hb dc_T_writeProof_29 rfl (lv_at hl 0 rfl) ?_
  obtain ⟨v12, ev12, hF⟩ := pl_bd hF
  refine pl_getR C w (ci := 5) in_T rfl (by decide) 7 (by decide) mw_177 ev12 dc_T_writeProof_30 ?_
  refine lv_iload_n hx hb dc_T_writeProof_33 rfl (lv_at hl 1 rfl) ?_
  obtain ⟨u14, eu14, hF⟩ := pl_bd hF
  obtain ⟨v13, ev13, hF⟩ := pl_bd hF
  refine pl_gq (pl_runV (Cn := rn_N) (k := 1) C (tm_N_next l D dA tt b n ev13) w hS rfl rfl mw_543 mw_544 mw_545 mw_69 mw_546 (by decide +kernel) ⟨by decide, by decide⟩ eu14 rfl (by decide) rfl hl.1 (Nat.le_of_ble_eq_true rfl) ⟨Nat.zero_le _, Nat.zero_le _⟩ rfl dc_T_writeProof_34) hS (fun H locs w hS => ?_)
  refine pl_astore_n (lv' := [(3, va_rf v13), (0, .ref a0), (1, .int x1), (2, .ref a2)]) hx hb dc_T_writeProof_37 rfl hl (by decide) rfl (fun ls hl => ?_)
  refine lv_iconst (v := 1) hx hb dc_T_writeProof_38 (by decide) ?_
  refine lv_istore (lv' := [(4, .int 1), (3, va_rf v13), (0, .ref a0), (1, .int x1), (2, .ref a2)]) hx hb dc_T_writeProof_39 hl (by decide) (by simp [pl_cat]) (fun ls hl => ?_)
  exact tl_T_writeProof_41 C pl_N q10 a0 x1 a2 v13 1 _ _ _ hF w hS (lv_sub hl [2, 3, 4, 1, 0] rfl)
set_option maxHeartbeats 4000000 in
set_option maxRecDepth 100000 in
theorem tm_T_writeProof (l : Launch) (D : va_G) (dA : Nat → ClassId) (tt : Nat → Nat) (b n : Nat) {f : pl_H} {a0 : Nat} {x1 : Int32} {a2 : Nat} {f' : pl_H} (hF : fn_T_writeProof f a0 x1 a2 = some f') : Met l my_T_writeProof (Cond.code my_T_writeProof co_T_writeProof 5 none :: pl_tb) rm_T_writeProof (va_Pc [.ref a0, .int x1, .ref a2] (pl_pre D dA tt b n f)) (pl_qV D dA tt b n f') 0 0 (pl_A b) := by
  refine Met.ofW (cc := co_T_writeProof) (maxL := 5) (ret := none) (by decide) rfl ?_
  intro p e s m args below meth c s₁ B hml hv
  obtain ⟨rfl, w, hK⟩ := hv
  have C : pl_C p s m _ meth c co_T_writeProof 5 rn_T none "writeProof" D dA tt b := ⟨B.exec, B.bytes, hml, B.returns, findClass_of_methodNamed B.named, B.notSynchronized, fun w hw => atoms_spec (ws := Cond.code my_T_writeProof co_T_writeProof 5 none :: pl_tb) B.pre w (List.mem_cons_of_mem _ hw), (name_of_methodNamed B.named B.method).1, hK⟩
  have hl := lv_entry ([.ref a0, .int x1, .ref a2]) (n := 5) (Nat.le_of_ble_eq_true rfl)
  rw [lg_entry_eq]
  generalize (lg_sl ([.ref a0, .int x1, .ref a2]) ++ List.replicate (5 - (lg_sl ([.ref a0, .int x1, .ref a2])).length) Slot.unset).toArray = ls at hl ⊢
  have hl : lv_has ls 5 [(0, .ref a0), (1, .int x1), (2, .ref a2)] := hl
  exact tl_T_writeProof C hF w va_S.rf hl
def rm_T_rootRow : Room := { frames := 0, cells := 0, slots := 0, locals := 0 }
def fn_T_rootRow (f : pl_H) (a0 : Nat) : Option (Nat) := (pl_gR f a0 5 5).bind fun v1 => some v1
set_option maxHeartbeats 4000000 in
set_option maxRecDepth 100000 in
theorem tl_T_rootRow {p : Program} {l : Launch} {e : Env} {s : State} {m : MethodId} {args : Array Value} {below : List Frame} {meth : Method} {c : Code} {D : va_G} {dA : Nat → ClassId} {tt : Nat → Nat} {b n : Nat} (C : pl_C p s m args meth c co_T_rootRow 1 rn_T (some (.array .int)) "rootRow" D dA tt b) {r : Nat} {f : pl_H} {a0 : Nat} {H : Heap} {locs : List Loc} {ls : Array Slot} (hF : fn_T_rootRow f a0 = some r) (w : pl_wd D vwCl dA b n f H) (hS : va_S (pl_A b) s.heap H locs) (hl : lv_has ls 1 [(0, .ref a0)]) : W p l e rm_T_rootRow s m args below meth c H locs 0 0 (MQ below (pl_qQ D dA tt b n f (some r)) args s 0 0 (pl_A b)) (F0 m 0 ls []) := by
  have hx := C.1
  have hb := C.2.1
  have hown := C.2.2.2.2.1
  have hts := C.2.2.2.2.2.2.1
  unfold fn_T_rootRow at hF
  refine lv_aload_n hx hb dc_T_rootRow_0 rfl (lv_at hl 0 rfl) ?_
  obtain ⟨v1, ev1, hF⟩ := pl_bd hF
  refine pl_getR C w (ci := 5) in_T rfl (by decide) 5 (by decide) mw_175 ev1 dc_T_rootRow_1 ?_
  exact pl_retR C w hS hF (by first | exact Or.inl ⟨_, rfl⟩ | exact Or.inr ⟨_, rfl⟩) dc_T_rootRow_4
set_option maxHeartbeats 4000000 in
set_option maxRecDepth 100000 in
theorem tm_T_rootRow (l : Launch) (D : va_G) (dA : Nat → ClassId) (tt : Nat → Nat) (b n : Nat) {f : pl_H} {a0 : Nat} {r : Nat} (hF : fn_T_rootRow f a0 = some r) : Met l my_T_rootRow (Cond.code my_T_rootRow co_T_rootRow 1 (some (.array .int)) :: pl_tb) rm_T_rootRow (va_Pc [.ref a0] (pl_pre D dA tt b n f)) (pl_qQ D dA tt b n f (some r)) 0 0 (pl_A b) := by
  refine Met.ofW (cc := co_T_rootRow) (maxL := 1) (ret := (some (.array .int))) (by decide) rfl ?_
  intro p e s m args below meth c s₁ B hml hv
  obtain ⟨rfl, w, hK⟩ := hv
  have C : pl_C p s m _ meth c co_T_rootRow 1 rn_T (some (.array .int)) "rootRow" D dA tt b := ⟨B.exec, B.bytes, hml, B.returns, findClass_of_methodNamed B.named, B.notSynchronized, fun w hw => atoms_spec (ws := Cond.code my_T_rootRow co_T_rootRow 1 (some (.array .int)) :: pl_tb) B.pre w (List.mem_cons_of_mem _ hw), (name_of_methodNamed B.named B.method).1, hK⟩
  have hl := lv_entry ([.ref a0]) (n := 1) (Nat.le_of_ble_eq_true rfl)
  rw [lg_entry_eq]
  generalize (lg_sl ([.ref a0]) ++ List.replicate (1 - (lg_sl ([.ref a0])).length) Slot.unset).toArray = ls at hl ⊢
  have hl : lv_has ls 1 [(0, .ref a0)] := hl
  exact tl_T_rootRow C hF w va_S.rf hl
