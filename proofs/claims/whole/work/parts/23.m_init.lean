def rm_B_init : Room := { frames := 1, cells := 3, slots := 36, locals := 60 }
def fn_B_init (n : Nat) (f : pl_H) (a0 : Nat) : Option (pl_H) := (pl_mk f n (.inl (0, 12, .inl (fun _ => 0)))).bind fun f1 => (pl_pV f1 a0 0 0 (.ref n)).bind fun f2 => (pl_mk f2 (n + 1) (.inl (0, 12, .inl (fun _ => 0)))).bind fun f3 => (pl_pV f3 a0 0 1 (.ref ((n + 1)))).bind fun f4 => (pl_mk f4 (n + 2) (.inl (1, 12, .inr (.inl (fun _ => 0))))).bind fun f5 => (pl_pV f5 a0 0 2 (.ref ((n + 2)))).bind fun f6 => some f6
set_option maxHeartbeats 4000000 in
set_option maxRecDepth 100000 in
theorem tl_B_init {p : Program} {l : Launch} {e : Env} {s : State} {m : MethodId} {args : Array Value} {below : List Frame} {meth : Method} {c : Code} {D : va_G} {dA : Nat → ClassId} {tt : Nat → Nat} {b n : Nat} (C : pl_C p s m args meth c co_B_init 1 rn_B none "<init>" D dA tt b) {f' : pl_H} {f : pl_H} {a0 : Nat} {H : Heap} {locs : List Loc} {ls : Array Slot} (hF : fn_B_init n f a0 = some f') (w : pl_wd D vwCl dA b n f H) (hS : va_S (pl_A b) s.heap H locs) (hl : lv_has ls 1 [(0, .ref a0)]) : W p l e rm_B_init s m args below meth c H locs 0 0 (MQ below (pl_qV D dA tt b (n + 3) f') args s 3 36 (pl_A b)) (F0 m 0 ls []) := by
  have hx := C.1
  have hb := C.2.1
  have hown := C.2.2.2.2.1
  have hts := C.2.2.2.2.2.2.1
  unfold fn_B_init at hF
  refine lv_aload_n hx hb dc_B_init_0 rfl (lv_at hl 0 rfl) ?_
  refine pl_objI C mw_88 mw_81 mw_82 hl.1 (by decide) (Nat.le_of_ble_eq_true rfl) dc_B_init_1 ?_
  refine lv_aload_n hx hb dc_B_init_4 rfl (lv_at hl 0 rfl) ?_
  refine lv_bipush (v := 12) hx hb dc_B_init_5 (by decide) ?_
  obtain ⟨f1, ef1, hF⟩ := pl_bd hF
  refine pl_newI C w hS mw_102 (by decide) (by decide) (by decide) (by decide) (by decide) ef1 dc_B_init_7 (fun H w hS => ?_)
  have w : pl_wd D vwCl dA b (n + 1) f1 H := w
  obtain ⟨f2, ef2, hF⟩ := pl_bd hF
  refine pl_putF C w hS (ci := 0) in_B rfl (by decide) rty_B_ok rnm_B 0 (by decide) mw_89 rfl rfl rfl rfl ef2 dc_B_init_9 (fun H locs w hS => ?_)
  refine lv_aload_n hx hb dc_B_init_12 rfl (lv_at hl 0 rfl) ?_
  refine lv_bipush (v := 12) hx hb dc_B_init_13 (by decide) ?_
  obtain ⟨f3, ef3, hF⟩ := pl_bd hF
  refine pl_newI C w hS mw_102 (by decide) (by decide) (by decide) (by decide) (by decide) ef3 dc_B_init_15 (fun H w hS => ?_)
  have w : pl_wd D vwCl dA b (n + 2) f3 H := w
  obtain ⟨f4, ef4, hF⟩ := pl_bd hF
  refine pl_putF C w hS (ci := 0) in_B rfl (by decide) rty_B_ok rnm_B 1 (by decide) mw_90 rfl rfl rfl rfl ef4 dc_B_init_17 (fun H locs w hS => ?_)
  refine lv_aload_n hx hb dc_B_init_20 rfl (lv_at hl 0 rfl) ?_
  refine lv_bipush (v := 12) hx hb dc_B_init_21 (by decide) ?_
  obtain ⟨f5, ef5, hF⟩ := pl_bd hF
  refine pl_newL C w hS mw_103 (by decide) (by decide) (by decide) (by decide) (by decide) ef5 dc_B_init_23 (fun H w hS => ?_)
  have w : pl_wd D vwCl dA b (n + 3) f5 H := w
  obtain ⟨f6, ef6, hF⟩ := pl_bd hF
  refine pl_putF C w hS (ci := 0) in_B rfl (by decide) rty_B_ok rnm_B 2 (by decide) mw_91 rfl rfl rfl rfl ef6 dc_B_init_25 (fun H locs w hS => ?_)
  exact pl_retVw C w hS hF dc_B_init_28
set_option maxHeartbeats 4000000 in
set_option maxRecDepth 100000 in
theorem tm_B_init (l : Launch) (D : va_G) (dA : Nat → ClassId) (tt : Nat → Nat) (b n : Nat) {f : pl_H} {a0 : Nat} {f' : pl_H} (hF : fn_B_init n f a0 = some f') : Met l my_B_init (Cond.code my_B_init co_B_init 1 none :: pl_tb) rm_B_init (va_Pc [.ref a0] (pl_pre D dA tt b n f)) (pl_qV D dA tt b (n + 3) f') 3 36 (pl_A b) := by
  refine Met.ofW (cc := co_B_init) (maxL := 1) (ret := none) (by decide) rfl ?_
  intro p e s m args below meth c s₁ B hml hv
  obtain ⟨rfl, w, hK⟩ := hv
  have C : pl_C p s m _ meth c co_B_init 1 rn_B none "<init>" D dA tt b := ⟨B.exec, B.bytes, hml, B.returns, findClass_of_methodNamed B.named, B.notSynchronized, fun w hw => atoms_spec (ws := Cond.code my_B_init co_B_init 1 none :: pl_tb) B.pre w (List.mem_cons_of_mem _ hw), (name_of_methodNamed B.named B.method).1, hK⟩
  have hl := lv_entry ([.ref a0]) (n := 1) (Nat.le_of_ble_eq_true rfl)
  rw [lg_entry_eq]
  generalize (lg_sl ([.ref a0]) ++ List.replicate (1 - (lg_sl ([.ref a0])).length) Slot.unset).toArray = ls at hl ⊢
  have hl : lv_has ls 1 [(0, .ref a0)] := hl
  exact tl_B_init C hF w va_S.rf hl
def rm_H_init : Room := { frames := 1, cells := 3, slots := 55, locals := 60 }
def fn_H_init (n : Nat) (f : pl_H) (a0 : Nat) : Option (pl_H) := (pl_mk f n (.inl (1, 25, .inr (.inl (fun _ => 0))))).bind fun f1 => (pl_pV f1 a0 2 0 (.ref n)).bind fun f2 => (pl_mk f2 (n + 1) (.inl (1, 25, .inr (.inl (fun _ => 0))))).bind fun f3 => (pl_pV f3 a0 2 1 (.ref ((n + 1)))).bind fun f4 => (pl_mk f4 (n + 2) (.inl (1, 5, .inr (.inl (fun _ => 0))))).bind fun f5 => (pl_pV f5 a0 2 2 (.ref ((n + 2)))).bind fun f6 => some f6
set_option maxHeartbeats 4000000 in
set_option maxRecDepth 100000 in
theorem tl_H_init {p : Program} {l : Launch} {e : Env} {s : State} {m : MethodId} {args : Array Value} {below : List Frame} {meth : Method} {c : Code} {D : va_G} {dA : Nat → ClassId} {tt : Nat → Nat} {b n : Nat} (C : pl_C p s m args meth c co_H_init 1 rn_H none "<init>" D dA tt b) {f' : pl_H} {f : pl_H} {a0 : Nat} {H : Heap} {locs : List Loc} {ls : Array Slot} (hF : fn_H_init n f a0 = some f') (w : pl_wd D vwCl dA b n f H) (hS : va_S (pl_A b) s.heap H locs) (hl : lv_has ls 1 [(0, .ref a0)]) : W p l e rm_H_init s m args below meth c H locs 0 0 (MQ below (pl_qV D dA tt b (n + 3) f') args s 3 55 (pl_A b)) (F0 m 0 ls []) := by
  have hx := C.1
  have hb := C.2.1
  have hown := C.2.2.2.2.1
  have hts := C.2.2.2.2.2.2.1
  unfold fn_H_init at hF
  refine lv_aload_n hx hb dc_H_init_0 rfl (lv_at hl 0 rfl) ?_
  refine pl_objI C mw_109 mw_81 mw_82 hl.1 (by decide) (Nat.le_of_ble_eq_true rfl) dc_H_init_1 ?_
  refine lv_aload_n hx hb dc_H_init_4 rfl (lv_at hl 0 rfl) ?_
  refine lv_bipush (v := 25) hx hb dc_H_init_5 (by decide) ?_
  obtain ⟨f1, ef1, hF⟩ := pl_bd hF
  refine pl_newL C w hS mw_103 (by decide) (by decide) (by decide) (by decide) (by decide) ef1 dc_H_init_7 (fun H w hS => ?_)
  have w : pl_wd D vwCl dA b (n + 1) f1 H := w
  obtain ⟨f2, ef2, hF⟩ := pl_bd hF
  refine pl_putF C w hS (ci := 2) in_H rfl (by decide) rty_H_ok rnm_H 0 (by decide) mw_110 rfl rfl rfl rfl ef2 dc_H_init_9 (fun H locs w hS => ?_)
  refine lv_aload_n hx hb dc_H_init_12 rfl (lv_at hl 0 rfl) ?_
  refine lv_bipush (v := 25) hx hb dc_H_init_13 (by decide) ?_
  obtain ⟨f3, ef3, hF⟩ := pl_bd hF
  refine pl_newL C w hS mw_103 (by decide) (by decide) (by decide) (by decide) (by decide) ef3 dc_H_init_15 (fun H w hS => ?_)
  have w : pl_wd D vwCl dA b (n + 2) f3 H := w
  obtain ⟨f4, ef4, hF⟩ := pl_bd hF
  refine pl_putF C w hS (ci := 2) in_H rfl (by decide) rty_H_ok rnm_H 1 (by decide) mw_111 rfl rfl rfl rfl ef4 dc_H_init_17 (fun H locs w hS => ?_)
  refine lv_aload_n hx hb dc_H_init_20 rfl (lv_at hl 0 rfl) ?_
  refine lv_iconst (v := 5) hx hb dc_H_init_21 (by decide) ?_
  obtain ⟨f5, ef5, hF⟩ := pl_bd hF
  refine pl_newL C w hS mw_103 (by decide) (by decide) (by decide) (by decide) (by decide) ef5 dc_H_init_22 (fun H w hS => ?_)
  have w : pl_wd D vwCl dA b (n + 3) f5 H := w
  obtain ⟨f6, ef6, hF⟩ := pl_bd hF
  refine pl_putF C w hS (ci := 2) in_H rfl (by decide) rty_H_ok rnm_H 2 (by decide) mw_112 rfl rfl rfl rfl ef6 dc_H_init_24 (fun H locs w hS => ?_)
  exact pl_retVw C w hS hF dc_H_init_27
set_option maxHeartbeats 4000000 in
set_option maxRecDepth 100000 in
theorem tm_H_init (l : Launch) (D : va_G) (dA : Nat → ClassId) (tt : Nat → Nat) (b n : Nat) {f : pl_H} {a0 : Nat} {f' : pl_H} (hF : fn_H_init n f a0 = some f') : Met l my_H_init (Cond.code my_H_init co_H_init 1 none :: pl_tb) rm_H_init (va_Pc [.ref a0] (pl_pre D dA tt b n f)) (pl_qV D dA tt b (n + 3) f') 3 55 (pl_A b) := by
  refine Met.ofW (cc := co_H_init) (maxL := 1) (ret := none) (by decide) rfl ?_
  intro p e s m args below meth c s₁ B hml hv
  obtain ⟨rfl, w, hK⟩ := hv
  have C : pl_C p s m _ meth c co_H_init 1 rn_H none "<init>" D dA tt b := ⟨B.exec, B.bytes, hml, B.returns, findClass_of_methodNamed B.named, B.notSynchronized, fun w hw => atoms_spec (ws := Cond.code my_H_init co_H_init 1 none :: pl_tb) B.pre w (List.mem_cons_of_mem _ hw), (name_of_methodNamed B.named B.method).1, hK⟩
  have hl := lv_entry ([.ref a0]) (n := 1) (Nat.le_of_ble_eq_true rfl)
  rw [lg_entry_eq]
  generalize (lg_sl ([.ref a0]) ++ List.replicate (1 - (lg_sl ([.ref a0])).length) Slot.unset).toArray = ls at hl ⊢
  have hl : lv_has ls 1 [(0, .ref a0)] := hl
  exact tl_H_init C hF w va_S.rf hl
def rm_C_init : Room := { frames := 1, cells := 1, slots := 2176, locals := 60 }
def fn_C_init (n : Nat) (f : pl_H) (a0 : Nat) : Option (pl_H) := (pl_mk f n (.inl (0, 2176, .inl (fun _ => 0)))).bind fun f1 => (pl_pV f1 a0 1 0 (.ref n)).bind fun f2 => some f2
set_option maxHeartbeats 4000000 in
set_option maxRecDepth 100000 in
theorem tl_C_init {p : Program} {l : Launch} {e : Env} {s : State} {m : MethodId} {args : Array Value} {below : List Frame} {meth : Method} {c : Code} {D : va_G} {dA : Nat → ClassId} {tt : Nat → Nat} {b n : Nat} (C : pl_C p s m args meth c co_C_init 1 rn_C none "<init>" D dA tt b) {f' : pl_H} {f : pl_H} {a0 : Nat} {H : Heap} {locs : List Loc} {ls : Array Slot} (hF : fn_C_init n f a0 = some f') (w : pl_wd D vwCl dA b n f H) (hS : va_S (pl_A b) s.heap H locs) (hl : lv_has ls 1 [(0, .ref a0)]) : W p l e rm_C_init s m args below meth c H locs 0 0 (MQ below (pl_qV D dA tt b (n + 1) f') args s 1 2176 (pl_A b)) (F0 m 0 ls []) := by
  have hx := C.1
  have hb := C.2.1
  have hown := C.2.2.2.2.1
  have hts := C.2.2.2.2.2.2.1
  unfold fn_C_init at hF
  refine lv_aload_n hx hb dc_C_init_0 rfl (lv_at hl 0 rfl) ?_
  refine pl_objI C mw_131 mw_81 mw_82 hl.1 (by decide) (Nat.le_of_ble_eq_true rfl) dc_C_init_1 ?_
  refine lv_aload_n hx hb dc_C_init_4 rfl (lv_at hl 0 rfl) ?_
  refine lv_sipush (v := 2176) hx hb dc_C_init_5 (by decide) ?_
  obtain ⟨f1, ef1, hF⟩ := pl_bd hF
  refine pl_newI C w hS mw_102 (by decide) (by decide) (by decide) (by decide) (by decide) ef1 dc_C_init_8 (fun H w hS => ?_)
  have w : pl_wd D vwCl dA b (n + 1) f1 H := w
  obtain ⟨f2, ef2, hF⟩ := pl_bd hF
  refine pl_putF C w hS (ci := 1) in_C rfl (by decide) rty_C_ok rnm_C 0 (by decide) mw_132 rfl rfl rfl rfl ef2 dc_C_init_10 (fun H locs w hS => ?_)
  exact pl_retVw C w hS hF dc_C_init_13
set_option maxHeartbeats 4000000 in
set_option maxRecDepth 100000 in
theorem tm_C_init (l : Launch) (D : va_G) (dA : Nat → ClassId) (tt : Nat → Nat) (b n : Nat) {f : pl_H} {a0 : Nat} {f' : pl_H} (hF : fn_C_init n f a0 = some f') : Met l my_C_init (Cond.code my_C_init co_C_init 1 none :: pl_tb) rm_C_init (va_Pc [.ref a0] (pl_pre D dA tt b n f)) (pl_qV D dA tt b (n + 1) f') 1 2176 (pl_A b) := by
  refine Met.ofW (cc := co_C_init) (maxL := 1) (ret := none) (by decide) rfl ?_
  intro p e s m args below meth c s₁ B hml hv
  obtain ⟨rfl, w, hK⟩ := hv
  have C : pl_C p s m _ meth c co_C_init 1 rn_C none "<init>" D dA tt b := ⟨B.exec, B.bytes, hml, B.returns, findClass_of_methodNamed B.named, B.notSynchronized, fun w hw => atoms_spec (ws := Cond.code my_C_init co_C_init 1 none :: pl_tb) B.pre w (List.mem_cons_of_mem _ hw), (name_of_methodNamed B.named B.method).1, hK⟩
  have hl := lv_entry ([.ref a0]) (n := 1) (Nat.le_of_ble_eq_true rfl)
  rw [lg_entry_eq]
  generalize (lg_sl ([.ref a0]) ++ List.replicate (1 - (lg_sl ([.ref a0])).length) Slot.unset).toArray = ls at hl ⊢
  have hl : lv_has ls 1 [(0, .ref a0)] := hl
  exact tl_C_init C hF w va_S.rf hl
def rm_N_init : Room := { frames := 1, cells := 1, slots := 16, locals := 60 }
def fn_N_init (n : Nat) (f : pl_H) (a0 : Nat) : Option (pl_H) := (pl_mk f n (.inl (2, 16, .inr (.inr (.inr (.inr (fun _ => none))))))).bind fun f1 => (pl_pV f1 a0 3 0 (.ref n)).bind fun f2 => some f2
set_option maxHeartbeats 4000000 in
set_option maxRecDepth 100000 in
theorem tl_N_init {p : Program} {l : Launch} {e : Env} {s : State} {m : MethodId} {args : Array Value} {below : List Frame} {meth : Method} {c : Code} {D : va_G} {dA : Nat → ClassId} {tt : Nat → Nat} {b n : Nat} (C : pl_C p s m args meth c co_N_init 1 rn_N none "<init>" D dA tt b) {f' : pl_H} {f : pl_H} {a0 : Nat} {H : Heap} {locs : List Loc} {ls : Array Slot} (hF : fn_N_init n f a0 = some f') (w : pl_wd D vwCl dA b n f H) (hS : va_S (pl_A b) s.heap H locs) (hl : lv_has ls 1 [(0, .ref a0)]) : W p l e rm_N_init s m args below meth c H locs 0 0 (MQ below (pl_qV D dA tt b (n + 1) f') args s 1 16 (pl_A b)) (F0 m 0 ls []) := by
  have hx := C.1
  have hb := C.2.1
  have hown := C.2.2.2.2.1
  have hts := C.2.2.2.2.2.2.1
  unfold fn_N_init at hF
  refine lv_aload_n hx hb dc_N_init_0 rfl (lv_at hl 0 rfl) ?_
  refine pl_objI C mw_145 mw_81 mw_82 hl.1 (by decide) (Nat.le_of_ble_eq_true rfl) dc_N_init_1 ?_
  refine lv_aload_n hx hb dc_N_init_4 rfl (lv_at hl 0 rfl) ?_
  refine lv_bipush (v := 16) hx hb dc_N_init_5 (by decide) ?_
  obtain ⟨f1, ef1, hF⟩ := pl_bd hF
  refine pl_newQ C w hS mw_146 (by decide) (by decide) (by decide) (by decide) (by decide) ef1 dc_N_init_7 (fun H w hS => ?_)
  have w : pl_wd D vwCl dA b (n + 1) f1 H := w
  obtain ⟨f2, ef2, hF⟩ := pl_bd hF
  refine pl_putF C w hS (ci := 3) in_N rfl (by decide) rty_N_ok rnm_N 0 (by decide) mw_147 rfl rfl rfl rfl ef2 dc_N_init_10 (fun H locs w hS => ?_)
  exact pl_retVw C w hS hF dc_N_init_13
set_option maxHeartbeats 4000000 in
set_option maxRecDepth 100000 in
theorem tm_N_init (l : Launch) (D : va_G) (dA : Nat → ClassId) (tt : Nat → Nat) (b n : Nat) {f : pl_H} {a0 : Nat} {f' : pl_H} (hF : fn_N_init n f a0 = some f') : Met l my_N_init (Cond.code my_N_init co_N_init 1 none :: pl_tb) rm_N_init (va_Pc [.ref a0] (pl_pre D dA tt b n f)) (pl_qV D dA tt b (n + 1) f') 1 16 (pl_A b) := by
  refine Met.ofW (cc := co_N_init) (maxL := 1) (ret := none) (by decide) rfl ?_
  intro p e s m args below meth c s₁ B hml hv
  obtain ⟨rfl, w, hK⟩ := hv
  have C : pl_C p s m _ meth c co_N_init 1 rn_N none "<init>" D dA tt b := ⟨B.exec, B.bytes, hml, B.returns, findClass_of_methodNamed B.named, B.notSynchronized, fun w hw => atoms_spec (ws := Cond.code my_N_init co_N_init 1 none :: pl_tb) B.pre w (List.mem_cons_of_mem _ hw), (name_of_methodNamed B.named B.method).1, hK⟩
  have hl := lv_entry ([.ref a0]) (n := 1) (Nat.le_of_ble_eq_true rfl)
  rw [lg_entry_eq]
  generalize (lg_sl ([.ref a0]) ++ List.replicate (1 - (lg_sl ([.ref a0])).length) Slot.unset).toArray = ls at hl ⊢
  have hl : lv_has ls 1 [(0, .ref a0)] := hl
  exact tl_N_init C hF w va_S.rf hl
def rm_T_init : Room := { frames := 2, cells := 73, slots := 3030, locals := 80 }
set_option maxRecDepth 100000 in
def fn_T_init (n : Nat) (f : pl_H) (a0 : Nat) (a1 : Nat) (a2 : Nat) : Option (pl_H) := (pl_mk f n (.inr (1, [.null, .int 0]))).bind fun f1 => (fn_C_init (n + 1) f1 n).bind fun q2 => (pl_pV q2 a0 5 2 (.ref n)).bind fun f3 => (pl_mk f3 (n + 2) (.inl (2, 34, .inr (.inr (.inr (.inr (fun _ => none))))))).bind fun f4 => (pl_pV f4 a0 5 3 (.ref ((n + 2)))).bind fun f5 => (pl_mk f5 (n + 3) (.inl (0, 4, .inl (fun _ => 0)))).bind fun f6 => (pl_pV f6 a0 5 4 (.ref ((n + 3)))).bind fun f7 => (pl_mk f7 (n + 4) (.inl (0, 32, .inl (fun _ => 0)))).bind fun f8 => (pl_pV f8 a0 5 5 (.ref ((n + 4)))).bind fun f9 => (pl_pV f9 a0 5 0 (.ref a1)).bind fun f10 => (pl_pV f10 a0 5 1 (.ref a2)).bind fun f11 => (pl_gR f11 a0 5 3).bind fun v12 => (pl_ln f11 v12).bind fun v13 => if v13 ≤ 0 then none else (pl_gR f11 a0 5 3).bind fun v14 => (pl_mk f11 (n + 5) (.inr (3, [.null, .int 0, .int 0, .int 0, .int 0, .int 0, .int 0]))).bind fun f15 => (fn_N_init (n + 6) f15 ((n + 5))).bind fun q16 => (pl_sQ q16 2 3 v14 0 (some ((n + 5)))).bind fun f17 => (pl_gR f17 a0 5 3).bind fun v18 => (pl_ln f17 v18).bind fun v19 => if v19 ≤ 1 then none else (pl_gR f17 a0 5 3).bind fun v20 => (pl_mk f17 (n + 7) (.inr (3, [.null, .int 0, .int 0, .int 0, .int 0, .int 0, .int 0]))).bind fun f21 => (fn_N_init (n + 8) f21 ((n + 7))).bind fun q22 => (pl_sQ q22 2 3 v20 1 (some ((n + 7)))).bind fun f23 => (pl_gR f23 a0 5 3).bind fun v24 => (pl_ln f23 v24).bind fun v25 => if v25 ≤ 2 then none else (pl_gR f23 a0 5 3).bind fun v26 => (pl_mk f23 (n + 9) (.inr (3, [.null, .int 0, .int 0, .int 0, .int 0, .int 0, .int 0]))).bind fun f27 => (fn_N_init (n + 10) f27 ((n + 9))).bind fun q28 => (pl_sQ q28 2 3 v26 2 (some ((n + 9)))).bind fun f29 => (pl_gR f29 a0 5 3).bind fun v30 => (pl_ln f29 v30).bind fun v31 => if v31 ≤ 3 then none else (pl_gR f29 a0 5 3).bind fun v32 => (pl_mk f29 (n + 11) (.inr (3, [.null, .int 0, .int 0, .int 0, .int 0, .int 0, .int 0]))).bind fun f33 => (fn_N_init (n + 12) f33 ((n + 11))).bind fun q34 => (pl_sQ q34 2 3 v32 3 (some ((n + 11)))).bind fun f35 => (pl_gR f35 a0 5 3).bind fun v36 => (pl_ln f35 v36).bind fun v37 => if v37 ≤ 4 then none else (pl_gR f35 a0 5 3).bind fun v38 => (pl_mk f35 (n + 13) (.inr (3, [.null, .int 0, .int 0, .int 0, .int 0, .int 0, .int 0]))).bind fun f39 => (fn_N_init (n + 14) f39 ((n + 13))).bind fun q40 => (pl_sQ q40 2 3 v38 4 (some ((n + 13)))).bind fun f41 => (pl_gR f41 a0 5 3).bind fun v42 => (pl_ln f41 v42).bind fun v43 => if v43 ≤ 5 then none else (pl_gR f41 a0 5 3).bind fun v44 => (pl_mk f41 (n + 15) (.inr (3, [.null, .int 0, .int 0, .int 0, .int 0, .int 0, .int 0]))).bind fun f45 => (fn_N_init (n + 16) f45 ((n + 15))).bind fun q46 => (pl_sQ q46 2 3 v44 5 (some ((n + 15)))).bind fun f47 => (pl_gR f47 a0 5 3).bind fun v48 => (pl_ln f47 v48).bind fun v49 => if v49 ≤ 6 then none else (pl_gR f47 a0 5 3).bind fun v50 => (pl_mk f47 (n + 17) (.inr (3, [.null, .int 0, .int 0, .int 0, .int 0, .int 0, .int 0]))).bind fun f51 => (fn_N_init (n + 18) f51 ((n + 17))).bind fun q52 => (pl_sQ q52 2 3 v50 6 (some ((n + 17)))).bind fun f53 => (pl_gR f53 a0 5 3).bind fun v54 => (pl_ln f53 v54).bind fun v55 => if v55 ≤ 7 then none else (pl_gR f53 a0 5 3).bind fun v56 => (pl_mk f53 (n + 19) (.inr (3, [.null, .int 0, .int 0, .int 0, .int 0, .int 0, .int 0]))).bind fun f57 => (fn_N_init (n + 20) f57 ((n + 19))).bind fun q58 => (pl_sQ q58 2 3 v56 7 (some ((n + 19)))).bind fun f59 => (pl_gR f59 a0 5 3).bind fun v60 => (pl_ln f59 v60).bind fun v61 => if v61 ≤ 8 then none else (pl_gR f59 a0 5 3).bind fun v62 => (pl_mk f59 (n + 21) (.inr (3, [.null, .int 0, .int 0, .int 0, .int 0, .int 0, .int 0]))).bind fun f63 => (fn_N_init (n + 22) f63 ((n + 21))).bind fun q64 => (pl_sQ q64 2 3 v62 8 (some ((n + 21)))).bind fun f65 => (pl_gR f65 a0 5 3).bind fun v66 => (pl_ln f65 v66).bind fun v67 => if v67 ≤ 9 then none else (pl_gR f65 a0 5 3).bind fun v68 => (pl_mk f65 (n + 23) (.inr (3, [.null, .int 0, .int 0, .int 0, .int 0, .int 0, .int 0]))).bind fun f69 => (fn_N_init (n + 24) f69 ((n + 23))).bind fun q70 => (pl_sQ q70 2 3 v68 9 (some ((n + 23)))).bind fun f71 => (pl_gR f71 a0 5 3).bind fun v72 => (pl_ln f71 v72).bind fun v73 => if v73 ≤ 10 then none else (pl_gR f71 a0 5 3).bind fun v74 => (pl_mk f71 (n + 25) (.inr (3, [.null, .int 0, .int 0, .int 0, .int 0, .int 0, .int 0]))).bind fun f75 => (fn_N_init (n + 26) f75 ((n + 25))).bind fun q76 => (pl_sQ q76 2 3 v74 10 (some ((n + 25)))).bind fun f77 => (pl_gR f77 a0 5 3).bind fun v78 => (pl_ln f77 v78).bind fun v79 => if v79 ≤ 11 then none else (pl_gR f77 a0 5 3).bind fun v80 => (pl_mk f77 (n + 27) (.inr (3, [.null, .int 0, .int 0, .int 0, .int 0, .int 0, .int 0]))).bind fun f81 => (fn_N_init (n + 28) f81 ((n + 27))).bind fun q82 => (pl_sQ q82 2 3 v80 11 (some ((n + 27)))).bind fun f83 => (pl_gR f83 a0 5 3).bind fun v84 => (pl_ln f83 v84).bind fun v85 => if v85 ≤ 12 then none else (pl_gR f83 a0 5 3).bind fun v86 => (pl_mk f83 (n + 29) (.inr (3, [.null, .int 0, .int 0, .int 0, .int 0, .int 0, .int 0]))).bind fun f87 => (fn_N_init (n + 30) f87 ((n + 29))).bind fun q88 => (pl_sQ q88 2 3 v86 12 (some ((n + 29)))).bind fun f89 => (pl_gR f89 a0 5 3).bind fun v90 => (pl_ln f89 v90).bind fun v91 => if v91 ≤ 13 then none else (pl_gR f89 a0 5 3).bind fun v92 => (pl_mk f89 (n + 31) (.inr (3, [.null, .int 0, .int 0, .int 0, .int 0, .int 0, .int 0]))).bind fun f93 => (fn_N_init (n + 32) f93 ((n + 31))).bind fun q94 => (pl_sQ q94 2 3 v92 13 (some ((n + 31)))).bind fun f95 => (pl_gR f95 a0 5 3).bind fun v96 => (pl_ln f95 v96).bind fun v97 => if v97 ≤ 14 then none else (pl_gR f95 a0 5 3).bind fun v98 => (pl_mk f95 (n + 33) (.inr (3, [.null, .int 0, .int 0, .int 0, .int 0, .int 0, .int 0]))).bind fun f99 => (fn_N_init (n + 34) f99 ((n + 33))).bind fun q100 => (pl_sQ q100 2 3 v98 14 (some ((n + 33)))).bind fun f101 => (pl_gR f101 a0 5 3).bind fun v102 => (pl_ln f101 v102).bind fun v103 => if v103 ≤ 15 then none else (pl_gR f101 a0 5 3).bind fun v104 => (pl_mk f101 (n + 35) (.inr (3, [.null, .int 0, .int 0, .int 0, .int 0, .int 0, .int 0]))).bind fun f105 => (fn_N_init (n + 36) f105 ((n + 35))).bind fun q106 => (pl_sQ q106 2 3 v104 15 (some ((n + 35)))).bind fun f107 => (pl_gR f107 a0 5 3).bind fun v108 => (pl_ln f107 v108).bind fun v109 => if v109 ≤ 16 then none else (pl_gR f107 a0 5 3).bind fun v110 => (pl_mk f107 (n + 37) (.inr (3, [.null, .int 0, .int 0, .int 0, .int 0, .int 0, .int 0]))).bind fun f111 => (fn_N_init (n + 38) f111 ((n + 37))).bind fun q112 => (pl_sQ q112 2 3 v110 16 (some ((n + 37)))).bind fun f113 => (pl_gR f113 a0 5 3).bind fun v114 => (pl_ln f113 v114).bind fun v115 => if v115 ≤ 17 then none else (pl_gR f113 a0 5 3).bind fun v116 => (pl_mk f113 (n + 39) (.inr (3, [.null, .int 0, .int 0, .int 0, .int 0, .int 0, .int 0]))).bind fun f117 => (fn_N_init (n + 40) f117 ((n + 39))).bind fun q118 => (pl_sQ q118 2 3 v116 17 (some ((n + 39)))).bind fun f119 => (pl_gR f119 a0 5 3).bind fun v120 => (pl_ln f119 v120).bind fun v121 => if v121 ≤ 18 then none else (pl_gR f119 a0 5 3).bind fun v122 => (pl_mk f119 (n + 41) (.inr (3, [.null, .int 0, .int 0, .int 0, .int 0, .int 0, .int 0]))).bind fun f123 => (fn_N_init (n + 42) f123 ((n + 41))).bind fun q124 => (pl_sQ q124 2 3 v122 18 (some ((n + 41)))).bind fun f125 => (pl_gR f125 a0 5 3).bind fun v126 => (pl_ln f125 v126).bind fun v127 => if v127 ≤ 19 then none else (pl_gR f125 a0 5 3).bind fun v128 => (pl_mk f125 (n + 43) (.inr (3, [.null, .int 0, .int 0, .int 0, .int 0, .int 0, .int 0]))).bind fun f129 => (fn_N_init (n + 44) f129 ((n + 43))).bind fun q130 => (pl_sQ q130 2 3 v128 19 (some ((n + 43)))).bind fun f131 => (pl_gR f131 a0 5 3).bind fun v132 => (pl_ln f131 v132).bind fun v133 => if v133 ≤ 20 then none else (pl_gR f131 a0 5 3).bind fun v134 => (pl_mk f131 (n + 45) (.inr (3, [.null, .int 0, .int 0, .int 0, .int 0, .int 0, .int 0]))).bind fun f135 => (fn_N_init (n + 46) f135 ((n + 45))).bind fun q136 => (pl_sQ q136 2 3 v134 20 (some ((n + 45)))).bind fun f137 => (pl_gR f137 a0 5 3).bind fun v138 => (pl_ln f137 v138).bind fun v139 => if v139 ≤ 21 then none else (pl_gR f137 a0 5 3).bind fun v140 => (pl_mk f137 (n + 47) (.inr (3, [.null, .int 0, .int 0, .int 0, .int 0, .int 0, .int 0]))).bind fun f141 => (fn_N_init (n + 48) f141 ((n + 47))).bind fun q142 => (pl_sQ q142 2 3 v140 21 (some ((n + 47)))).bind fun f143 => (pl_gR f143 a0 5 3).bind fun v144 => (pl_ln f143 v144).bind fun v145 => if v145 ≤ 22 then none else (pl_gR f143 a0 5 3).bind fun v146 => (pl_mk f143 (n + 49) (.inr (3, [.null, .int 0, .int 0, .int 0, .int 0, .int 0, .int 0]))).bind fun f147 => (fn_N_init (n + 50) f147 ((n + 49))).bind fun q148 => (pl_sQ q148 2 3 v146 22 (some ((n + 49)))).bind fun f149 => (pl_gR f149 a0 5 3).bind fun v150 => (pl_ln f149 v150).bind fun v151 => if v151 ≤ 23 then none else (pl_gR f149 a0 5 3).bind fun v152 => (pl_mk f149 (n + 51) (.inr (3, [.null, .int 0, .int 0, .int 0, .int 0, .int 0, .int 0]))).bind fun f153 => (fn_N_init (n + 52) f153 ((n + 51))).bind fun q154 => (pl_sQ q154 2 3 v152 23 (some ((n + 51)))).bind fun f155 => (pl_gR f155 a0 5 3).bind fun v156 => (pl_ln f155 v156).bind fun v157 => if v157 ≤ 24 then none else (pl_gR f155 a0 5 3).bind fun v158 => (pl_mk f155 (n + 53) (.inr (3, [.null, .int 0, .int 0, .int 0, .int 0, .int 0, .int 0]))).bind fun f159 => (fn_N_init (n + 54) f159 ((n + 53))).bind fun q160 => (pl_sQ q160 2 3 v158 24 (some ((n + 53)))).bind fun f161 => (pl_gR f161 a0 5 3).bind fun v162 => (pl_ln f161 v162).bind fun v163 => if v163 ≤ 25 then none else (pl_gR f161 a0 5 3).bind fun v164 => (pl_mk f161 (n + 55) (.inr (3, [.null, .int 0, .int 0, .int 0, .int 0, .int 0, .int 0]))).bind fun f165 => (fn_N_init (n + 56) f165 ((n + 55))).bind fun q166 => (pl_sQ q166 2 3 v164 25 (some ((n + 55)))).bind fun f167 => (pl_gR f167 a0 5 3).bind fun v168 => (pl_ln f167 v168).bind fun v169 => if v169 ≤ 26 then none else (pl_gR f167 a0 5 3).bind fun v170 => (pl_mk f167 (n + 57) (.inr (3, [.null, .int 0, .int 0, .int 0, .int 0, .int 0, .int 0]))).bind fun f171 => (fn_N_init (n + 58) f171 ((n + 57))).bind fun q172 => (pl_sQ q172 2 3 v170 26 (some ((n + 57)))).bind fun f173 => (pl_gR f173 a0 5 3).bind fun v174 => (pl_ln f173 v174).bind fun v175 => if v175 ≤ 27 then none else (pl_gR f173 a0 5 3).bind fun v176 => (pl_mk f173 (n + 59) (.inr (3, [.null, .int 0, .int 0, .int 0, .int 0, .int 0, .int 0]))).bind fun f177 => (fn_N_init (n + 60) f177 ((n + 59))).bind fun q178 => (pl_sQ q178 2 3 v176 27 (some ((n + 59)))).bind fun f179 => (pl_gR f179 a0 5 3).bind fun v180 => (pl_ln f179 v180).bind fun v181 => if v181 ≤ 28 then none else (pl_gR f179 a0 5 3).bind fun v182 => (pl_mk f179 (n + 61) (.inr (3, [.null, .int 0, .int 0, .int 0, .int 0, .int 0, .int 0]))).bind fun f183 => (fn_N_init (n + 62) f183 ((n + 61))).bind fun q184 => (pl_sQ q184 2 3 v182 28 (some ((n + 61)))).bind fun f185 => (pl_gR f185 a0 5 3).bind fun v186 => (pl_ln f185 v186).bind fun v187 => if v187 ≤ 29 then none else (pl_gR f185 a0 5 3).bind fun v188 => (pl_mk f185 (n + 63) (.inr (3, [.null, .int 0, .int 0, .int 0, .int 0, .int 0, .int 0]))).bind fun f189 => (fn_N_init (n + 64) f189 ((n + 63))).bind fun q190 => (pl_sQ q190 2 3 v188 29 (some ((n + 63)))).bind fun f191 => (pl_gR f191 a0 5 3).bind fun v192 => (pl_ln f191 v192).bind fun v193 => if v193 ≤ 30 then none else (pl_gR f191 a0 5 3).bind fun v194 => (pl_mk f191 (n + 65) (.inr (3, [.null, .int 0, .int 0, .int 0, .int 0, .int 0, .int 0]))).bind fun f195 => (fn_N_init (n + 66) f195 ((n + 65))).bind fun q196 => (pl_sQ q196 2 3 v194 30 (some ((n + 65)))).bind fun f197 => (pl_gR f197 a0 5 3).bind fun v198 => (pl_ln f197 v198).bind fun v199 => if v199 ≤ 31 then none else (pl_gR f197 a0 5 3).bind fun v200 => (pl_mk f197 (n + 67) (.inr (3, [.null, .int 0, .int 0, .int 0, .int 0, .int 0, .int 0]))).bind fun f201 => (fn_N_init (n + 68) f201 ((n + 67))).bind fun q202 => (pl_sQ q202 2 3 v200 31 (some ((n + 67)))).bind fun f203 => (pl_gR f203 a0 5 3).bind fun v204 => (pl_ln f203 v204).bind fun v205 => if v205 ≤ 32 then none else (pl_gR f203 a0 5 3).bind fun v206 => (pl_mk f203 (n + 69) (.inr (3, [.null, .int 0, .int 0, .int 0, .int 0, .int 0, .int 0]))).bind fun f207 => (fn_N_init (n + 70) f207 ((n + 69))).bind fun q208 => (pl_sQ q208 2 3 v206 32 (some ((n + 69)))).bind fun f209 => (pl_gR f209 a0 5 3).bind fun v210 => (pl_ln f209 v210).bind fun v211 => if v211 ≤ 33 then none else (pl_gR f209 a0 5 3).bind fun v212 => (pl_mk f209 (n + 71) (.inr (3, [.null, .int 0, .int 0, .int 0, .int 0, .int 0, .int 0]))).bind fun f213 => (fn_N_init (n + 72) f213 ((n + 71))).bind fun q214 => (pl_sQ q214 2 3 v212 33 (some ((n + 71)))).bind fun f215 => (pl_gR f215 a0 5 3).bind fun v216 => (pl_ln f215 v216).bind fun v217 => if v217 ≤ 34 then (pl_gR f215 a0 5 3).bind fun v218 => (pl_aQ f215 2 v218 0).bind fun r219 => r219.bind fun a220 => (pl_pV f215 a0 5 7 (.ref a220)).bind fun f221 => (pl_pV f221 a0 5 8 (.int 1)).bind fun f222 => some f222 else none
set_option maxHeartbeats 4000000 in
set_option maxRecDepth 100000 in
theorem tl_T_init {p : Program} {l : Launch} {e : Env} {s : State} {m : MethodId} {args : Array Value} {below : List Frame} {meth : Method} {c : Code} {D : va_G} {dA : Nat → ClassId} {tt : Nat → Nat} {b n : Nat} (C : pl_C p s m args meth c co_T_init 4 rn_T none "<init>" D dA tt b) {f' : pl_H} {f : pl_H} {a0 : Nat} {a1 : Nat} {a2 : Nat} {H : Heap} {locs : List Loc} {ls : Array Slot} (hF : fn_T_init n f a0 a1 a2 = some f') (w : pl_wd D vwCl dA b n f H) (hS : va_S (pl_A b) s.heap H locs) (hl : lv_has ls 4 [(0, .ref a0), (1, .ref a1), (2, .ref a2)]) : W p l e rm_T_init s m args below meth c H locs 0 0 (MQ below (pl_qV D dA tt b (n + 73) f') args s 73 3030 (pl_A b)) (F0 m 0 ls []) := by
  have hx := C.1
  have hb := C.2.1
  have hown := C.2.2.2.2.1
  have hts := C.2.2.2.2.2.2.1
  unfold fn_T_init at hF
  refine lv_aload_n hx hb dc_T_init_0 rfl (lv_at hl 0 rfl) ?_
  refine pl_objI C mw_125 mw_81 mw_82 hl.1 (by decide) (Nat.le_of_ble_eq_true rfl) dc_T_init_1 ?_
  refine lv_aload_n hx hb dc_T_init_4 rfl (lv_at hl 0 rfl) ?_
  obtain ⟨f1, ef1, hF⟩ := pl_bd hF
  refine pl_new (fs := [.null, .int 0]) C w hS (ci := 1) in_C rfl rty_C_ok (by decide +kernel) mw_126 mw_127 mw_68 (by decide) (by decide) ef1 dc_T_init_5 (fun H w hS => ?_)
  have w : pl_wd D vwCl dA b (n + 1) f1 H := w
  refine lv_dup hx hb dc_T_init_8 rfl ?_
  obtain ⟨q2, eq2, hF⟩ := pl_bd hF
  refine pl_gv (pl_runI (k := 0) C (tm_C_init l D dA tt b (n + 1) eq2) w hS rfl rfl mw_128 mw_129 mw_68 mw_130 rfl (by decide +kernel) ⟨by decide, by decide⟩ rfl hl.1 (Nat.le_of_ble_eq_true rfl) ⟨by decide, by decide⟩ rfl dc_T_init_9) hS (fun H locs w hS => ?_)
  have w : pl_wd D vwCl dA b (n + 2) q2 H := w
  obtain ⟨f3, ef3, hF⟩ := pl_bd hF
  refine pl_putF C w hS (ci := 5) in_T rfl (by decide) rty_T_ok rnm_T 2 (by decide) mw_172 rfl rfl rfl rfl ef3 dc_T_init_12 (fun H locs w hS => ?_)
  refine lv_aload_n hx hb dc_T_init_15 rfl (lv_at hl 0 rfl) ?_
  refine lv_bipush (v := 34) hx hb dc_T_init_16 (by decide) ?_
  obtain ⟨f4, ef4, hF⟩ := pl_bd hF
  refine pl_newQ C w hS mw_139 (by decide) (by decide) (by decide) (by decide) (by decide) ef4 dc_T_init_18 (fun H w hS => ?_)
  have w : pl_wd D vwCl dA b (n + 3) f4 H := w
  obtain ⟨f5, ef5, hF⟩ := pl_bd hF
  refine pl_putF C w hS (ci := 5) in_T rfl (by decide) rty_T_ok rnm_T 3 (by decide) mw_173 rfl rfl rfl rfl ef5 dc_T_init_21 (fun H locs w hS => ?_)
  refine lv_aload_n hx hb dc_T_init_24 rfl (lv_at hl 0 rfl) ?_
  refine lv_iconst (v := 4) hx hb dc_T_init_25 (by decide) ?_
  obtain ⟨f6, ef6, hF⟩ := pl_bd hF
  refine pl_newI C w hS mw_102 (by decide) (by decide) (by decide) (by decide) (by decide) ef6 dc_T_init_26 (fun H w hS => ?_)
  have w : pl_wd D vwCl dA b (n + 4) f6 H := w
  obtain ⟨f7, ef7, hF⟩ := pl_bd hF
  refine pl_putF C w hS (ci := 5) in_T rfl (by decide) rty_T_ok rnm_T 4 (by decide) mw_174 rfl rfl rfl rfl ef7 dc_T_init_28 (fun H locs w hS => ?_)
  refine lv_aload_n hx hb dc_T_init_31 rfl (lv_at hl 0 rfl) ?_
  refine lv_bipush (v := 32) hx hb dc_T_init_32 (by decide) ?_
  obtain ⟨f8, ef8, hF⟩ := pl_bd hF
  refine pl_newI C w hS mw_102 (by decide) (by decide) (by decide) (by decide) (by decide) ef8 dc_T_init_34 (fun H w hS => ?_)
  have w : pl_wd D vwCl dA b (n + 5) f8 H := w
  obtain ⟨f9, ef9, hF⟩ := pl_bd hF
  refine pl_putF C w hS (ci := 5) in_T rfl (by decide) rty_T_ok rnm_T 5 (by decide) mw_175 rfl rfl rfl rfl ef9 dc_T_init_36 (fun H locs w hS => ?_)
  refine lv_aload_n hx hb dc_T_init_39 rfl (lv_at hl 0 rfl) ?_
  refine lv_aload_n hx hb dc_T_init_40 rfl (lv_at hl 1 rfl) ?_
  obtain ⟨f10, ef10, hF⟩ := pl_bd hF
  refine pl_putF C w hS (ci := 5) in_T rfl (by decide) rty_T_ok rnm_T 0 (by decide) mw_170 rfl rfl rfl rfl ef10 dc_T_init_41 (fun H locs w hS => ?_)
  refine lv_aload_n hx hb dc_T_init_44 rfl (lv_at hl 0 rfl) ?_
  refine lv_aload_n hx hb dc_T_init_45 rfl (lv_at hl 2 rfl) ?_
  obtain ⟨f11, ef11, hF⟩ := pl_bd hF
  refine pl_putF C w hS (ci := 5) in_T rfl (by decide) rty_T_ok rnm_T 1 (by decide) mw_171 rfl rfl rfl rfl ef11 dc_T_init_46 (fun H locs w hS => ?_)
  refine lv_iconst (v := 0) hx hb dc_T_init_49 (by decide) ?_
  refine lv_istore_n (lv' := [(3, .int 0), (0, .ref a0), (1, .ref a1), (2, .ref a2)]) hx hb dc_T_init_50 rfl hl (by decide) rfl (fun ls hl => ?_)
  refine lv_iload_n hx hb dc_T_init_51 rfl (lv_at hl 0 rfl) ?_
  refine lv_aload_n hx hb dc_T_init_52 rfl (lv_at hl 1 rfl) ?_
  obtain ⟨v12, ev12, hF⟩ := pl_bd hF
  refine pl_getR C w (ci := 5) in_T rfl (by decide) 3 (by decide) mw_173 ev12 dc_T_init_53 ?_
  obtain ⟨v13, ev13, hF⟩ := pl_bd hF
  refine pl_len C w ev13 dc_T_init_56 ?_
  refine lv_icmp_ge hx hb dc_T_init_57 (tgt := 79) (by decide) (fun hc => ?_) (fun hc => ?_)
  · have hF := (if_pos hc).symm.trans hF
    cases hF
  · have hF := (if_neg hc).symm.trans hF
    refine lv_aload_n hx hb dc_T_init_60 rfl (lv_at hl 1 rfl) ?_
    obtain ⟨v14, ev14, hF⟩ := pl_bd hF
    refine pl_getR C w (ci := 5) in_T rfl (by decide) 3 (by decide) mw_173 ev14 dc_T_init_61 ?_
    refine lv_iload_n hx hb dc_T_init_64 rfl (lv_at hl 0 rfl) ?_
    obtain ⟨f15, ef15, hF⟩ := pl_bd hF
    refine pl_new (fs := [.null, .int 0, .int 0, .int 0, .int 0, .int 0, .int 0]) C w hS (ci := 3) in_N rfl rty_N_ok (by decide +kernel) mw_139 mw_141 mw_69 (by decide) (by decide) ef15 dc_T_init_65 (fun H w hS => ?_)
    have w : pl_wd D vwCl dA b (n + 6) f15 H := w
    refine lv_dup hx hb dc_T_init_68 rfl ?_
    obtain ⟨q16, eq16, hF⟩ := pl_bd hF
    refine pl_gv (pl_runI (k := 0) C (tm_N_init l D dA tt b (n + 6) eq16) w hS rfl rfl mw_142 mw_143 mw_69 mw_144 rfl (by decide +kernel) ⟨by decide, by decide⟩ rfl hl.1 (Nat.le_of_ble_eq_true rfl) ⟨by decide, by decide⟩ rfl dc_T_init_69) hS (fun H locs w hS => ?_)
    have w : pl_wd D vwCl dA b (n + 7) q16 H := w
    obtain ⟨f17, ef17, hF⟩ := pl_bd hF
    refine pl_astQ2 (r := (some ((n + 5)))) C w hS ef17 dc_T_init_72 (fun H locs w hS => ?_)
    refine lv_iinc (k := 0) (v := 1) (lv' := [(3, .int 1), (0, .ref a0), (1, .ref a1), (2, .ref a2)]) hx hb dc_T_init_73 hl rfl rfl (by decide) rfl (fun ls hl => ?_)
    refine lv_goto hx hb dc_T_init_76 (tgt := 51) (by decide) ?_
    refine lv_iload_n hx hb dc_T_init_51 rfl (lv_at hl 0 rfl) ?_
    refine lv_aload_n hx hb dc_T_init_52 rfl (lv_at hl 1 rfl) ?_
    obtain ⟨v18, ev18, hF⟩ := pl_bd hF
    refine pl_getR C w (ci := 5) in_T rfl (by decide) 3 (by decide) mw_173 ev18 dc_T_init_53 ?_
    obtain ⟨v19, ev19, hF⟩ := pl_bd hF
    refine pl_len C w ev19 dc_T_init_56 ?_
    refine lv_icmp_ge hx hb dc_T_init_57 (tgt := 79) (by decide) (fun hc => ?_) (fun hc => ?_)
    · have hF := (if_pos hc).symm.trans hF
      cases hF
    · have hF := (if_neg hc).symm.trans hF
      refine lv_aload_n hx hb dc_T_init_60 rfl (lv_at hl 1 rfl) ?_
      obtain ⟨v20, ev20, hF⟩ := pl_bd hF
      refine pl_getR C w (ci := 5) in_T rfl (by decide) 3 (by decide) mw_173 ev20 dc_T_init_61 ?_
      refine lv_iload_n hx hb dc_T_init_64 rfl (lv_at hl 0 rfl) ?_
      obtain ⟨f21, ef21, hF⟩ := pl_bd hF
      refine pl_new (fs := [.null, .int 0, .int 0, .int 0, .int 0, .int 0, .int 0]) C w hS (ci := 3) in_N rfl rty_N_ok (by decide +kernel) mw_139 mw_141 mw_69 (by decide) (by decide) ef21 dc_T_init_65 (fun H w hS => ?_)
      have w : pl_wd D vwCl dA b (n + 8) f21 H := w
      refine lv_dup hx hb dc_T_init_68 rfl ?_
      obtain ⟨q22, eq22, hF⟩ := pl_bd hF
      refine pl_gv (pl_runI (k := 0) C (tm_N_init l D dA tt b (n + 8) eq22) w hS rfl rfl mw_142 mw_143 mw_69 mw_144 rfl (by decide +kernel) ⟨by decide, by decide⟩ rfl hl.1 (Nat.le_of_ble_eq_true rfl) ⟨by decide, by decide⟩ rfl dc_T_init_69) hS (fun H locs w hS => ?_)
      have w : pl_wd D vwCl dA b (n + 9) q22 H := w
      obtain ⟨f23, ef23, hF⟩ := pl_bd hF
      refine pl_astQ2 (r := (some ((n + 7)))) C w hS ef23 dc_T_init_72 (fun H locs w hS => ?_)
      refine lv_iinc (k := 0) (v := 2) (lv' := [(3, .int 2), (0, .ref a0), (1, .ref a1), (2, .ref a2)]) hx hb dc_T_init_73 hl rfl rfl (by decide) rfl (fun ls hl => ?_)
      refine lv_goto hx hb dc_T_init_76 (tgt := 51) (by decide) ?_
      refine lv_iload_n hx hb dc_T_init_51 rfl (lv_at hl 0 rfl) ?_
      refine lv_aload_n hx hb dc_T_init_52 rfl (lv_at hl 1 rfl) ?_
      obtain ⟨v24, ev24, hF⟩ := pl_bd hF
      refine pl_getR C w (ci := 5) in_T rfl (by decide) 3 (by decide) mw_173 ev24 dc_T_init_53 ?_
      obtain ⟨v25, ev25, hF⟩ := pl_bd hF
      refine pl_len C w ev25 dc_T_init_56 ?_
      refine lv_icmp_ge hx hb dc_T_init_57 (tgt := 79) (by decide) (fun hc => ?_) (fun hc => ?_)
      · have hF := (if_pos hc).symm.trans hF
        cases hF
      · have hF := (if_neg hc).symm.trans hF
        refine lv_aload_n hx hb dc_T_init_60 rfl (lv_at hl 1 rfl) ?_
        obtain ⟨v26, ev26, hF⟩ := pl_bd hF
        refine pl_getR C w (ci := 5) in_T rfl (by decide) 3 (by decide) mw_173 ev26 dc_T_init_61 ?_
        refine lv_iload_n hx hb dc_T_init_64 rfl (lv_at hl 0 rfl) ?_
        obtain ⟨f27, ef27, hF⟩ := pl_bd hF
        refine pl_new (fs := [.null, .int 0, .int 0, .int 0, .int 0, .int 0, .int 0]) C w hS (ci := 3) in_N rfl rty_N_ok (by decide +kernel) mw_139 mw_141 mw_69 (by decide) (by decide) ef27 dc_T_init_65 (fun H w hS => ?_)
        have w : pl_wd D vwCl dA b (n + 10) f27 H := w
        refine lv_dup hx hb dc_T_init_68 rfl ?_
        obtain ⟨q28, eq28, hF⟩ := pl_bd hF
        refine pl_gv (pl_runI (k := 0) C (tm_N_init l D dA tt b (n + 10) eq28) w hS rfl rfl mw_142 mw_143 mw_69 mw_144 rfl (by decide +kernel) ⟨by decide, by decide⟩ rfl hl.1 (Nat.le_of_ble_eq_true rfl) ⟨by decide, by decide⟩ rfl dc_T_init_69) hS (fun H locs w hS => ?_)
        have w : pl_wd D vwCl dA b (n + 11) q28 H := w
        obtain ⟨f29, ef29, hF⟩ := pl_bd hF
        refine pl_astQ2 (r := (some ((n + 9)))) C w hS ef29 dc_T_init_72 (fun H locs w hS => ?_)
        refine lv_iinc (k := 0) (v := 3) (lv' := [(3, .int 3), (0, .ref a0), (1, .ref a1), (2, .ref a2)]) hx hb dc_T_init_73 hl rfl rfl (by decide) rfl (fun ls hl => ?_)
        refine lv_goto hx hb dc_T_init_76 (tgt := 51) (by decide) ?_
        refine lv_iload_n hx hb dc_T_init_51 rfl (lv_at hl 0 rfl) ?_
        refine lv_aload_n hx hb dc_T_init_52 rfl (lv_at hl 1 rfl) ?_
        obtain ⟨v30, ev30, hF⟩ := pl_bd hF
        refine pl_getR C w (ci := 5) in_T rfl (by decide) 3 (by decide) mw_173 ev30 dc_T_init_53 ?_
        obtain ⟨v31, ev31, hF⟩ := pl_bd hF
        refine pl_len C w ev31 dc_T_init_56 ?_
        refine lv_icmp_ge hx hb dc_T_init_57 (tgt := 79) (by decide) (fun hc => ?_) (fun hc => ?_)
        · have hF := (if_pos hc).symm.trans hF
          cases hF
        · have hF := (if_neg hc).symm.trans hF
          refine lv_aload_n hx hb dc_T_init_60 rfl (lv_at hl 1 rfl) ?_
          obtain ⟨v32, ev32, hF⟩ := pl_bd hF
          refine pl_getR C w (ci := 5) in_T rfl (by decide) 3 (by decide) mw_173 ev32 dc_T_init_61 ?_
          refine lv_iload_n hx hb dc_T_init_64 rfl (lv_at hl 0 rfl) ?_
          obtain ⟨f33, ef33, hF⟩ := pl_bd hF
          refine pl_new (fs := [.null, .int 0, .int 0, .int 0, .int 0, .int 0, .int 0]) C w hS (ci := 3) in_N rfl rty_N_ok (by decide +kernel) mw_139 mw_141 mw_69 (by decide) (by decide) ef33 dc_T_init_65 (fun H w hS => ?_)
          have w : pl_wd D vwCl dA b (n + 12) f33 H := w
          refine lv_dup hx hb dc_T_init_68 rfl ?_
          obtain ⟨q34, eq34, hF⟩ := pl_bd hF
          refine pl_gv (pl_runI (k := 0) C (tm_N_init l D dA tt b (n + 12) eq34) w hS rfl rfl mw_142 mw_143 mw_69 mw_144 rfl (by decide +kernel) ⟨by decide, by decide⟩ rfl hl.1 (Nat.le_of_ble_eq_true rfl) ⟨by decide, by decide⟩ rfl dc_T_init_69) hS (fun H locs w hS => ?_)
          have w : pl_wd D vwCl dA b (n + 13) q34 H := w
          obtain ⟨f35, ef35, hF⟩ := pl_bd hF
          refine pl_astQ2 (r := (some ((n + 11)))) C w hS ef35 dc_T_init_72 (fun H locs w hS => ?_)
          refine lv_iinc (k := 0) (v := 4) (lv' := [(3, .int 4), (0, .ref a0), (1, .ref a1), (2, .ref a2)]) hx hb dc_T_init_73 hl rfl rfl (by decide) rfl (fun ls hl => ?_)
          refine lv_goto hx hb dc_T_init_76 (tgt := 51) (by decide) ?_
          refine lv_iload_n hx hb dc_T_init_51 rfl (lv_at hl 0 rfl) ?_
          refine lv_aload_n hx hb dc_T_init_52 rfl (lv_at hl 1 rfl) ?_
          obtain ⟨v36, ev36, hF⟩ := pl_bd hF
          refine pl_getR C w (ci := 5) in_T rfl (by decide) 3 (by decide) mw_173 ev36 dc_T_init_53 ?_
          obtain ⟨v37, ev37, hF⟩ := pl_bd hF
          refine pl_len C w ev37 dc_T_init_56 ?_
          refine lv_icmp_ge hx hb dc_T_init_57 (tgt := 79) (by decide) (fun hc => ?_) (fun hc => ?_)
          · have hF := (if_pos hc).symm.trans hF
            cases hF
          · have hF := (if_neg hc).symm.trans hF
            refine lv_aload_n hx hb dc_T_init_60 rfl (lv_at hl 1 rfl) ?_
            obtain ⟨v38, ev38, hF⟩ := pl_bd hF
            refine pl_getR C w (ci := 5) in_T rfl (by decide) 3 (by decide) mw_173 ev38 dc_T_init_61 ?_
            refine lv_iload_n hx hb dc_T_init_64 rfl (lv_at hl 0 rfl) ?_
            obtain ⟨f39, ef39, hF⟩ := pl_bd hF
            refine pl_new (fs := [.null, .int 0, .int 0, .int 0, .int 0, .int 0, .int 0]) C w hS (ci := 3) in_N rfl rty_N_ok (by decide +kernel) mw_139 mw_141 mw_69 (by decide) (by decide) ef39 dc_T_init_65 (fun H w hS => ?_)
            have w : pl_wd D vwCl dA b (n + 14) f39 H := w
            refine lv_dup hx hb dc_T_init_68 rfl ?_
            obtain ⟨q40, eq40, hF⟩ := pl_bd hF
            refine pl_gv (pl_runI (k := 0) C (tm_N_init l D dA tt b (n + 14) eq40) w hS rfl rfl mw_142 mw_143 mw_69 mw_144 rfl (by decide +kernel) ⟨by decide, by decide⟩ rfl hl.1 (Nat.le_of_ble_eq_true rfl) ⟨by decide, by decide⟩ rfl dc_T_init_69) hS (fun H locs w hS => ?_)
            have w : pl_wd D vwCl dA b (n + 15) q40 H := w
            obtain ⟨f41, ef41, hF⟩ := pl_bd hF
            refine pl_astQ2 (r := (some ((n + 13)))) C w hS ef41 dc_T_init_72 (fun H locs w hS => ?_)
            refine lv_iinc (k := 0) (v := 5) (lv' := [(3, .int 5), (0, .ref a0), (1, .ref a1), (2, .ref a2)]) hx hb dc_T_init_73 hl rfl rfl (by decide) rfl (fun ls hl => ?_)
            refine lv_goto hx hb dc_T_init_76 (tgt := 51) (by decide) ?_
            refine lv_iload_n hx hb dc_T_init_51 rfl (lv_at hl 0 rfl) ?_
            refine lv_aload_n hx hb dc_T_init_52 rfl (lv_at hl 1 rfl) ?_
            obtain ⟨v42, ev42, hF⟩ := pl_bd hF
            refine pl_getR C w (ci := 5) in_T rfl (by decide) 3 (by decide) mw_173 ev42 dc_T_init_53 ?_
            obtain ⟨v43, ev43, hF⟩ := pl_bd hF
            refine pl_len C w ev43 dc_T_init_56 ?_
            refine lv_icmp_ge hx hb dc_T_init_57 (tgt := 79) (by decide) (fun hc => ?_) (fun hc => ?_)
            · have hF := (if_pos hc).symm.trans hF
              cases hF
            · have hF := (if_neg hc).symm.trans hF
              refine lv_aload_n hx hb dc_T_init_60 rfl (lv_at hl 1 rfl) ?_
              obtain ⟨v44, ev44, hF⟩ := pl_bd hF
              refine pl_getR C w (ci := 5) in_T rfl (by decide) 3 (by decide) mw_173 ev44 dc_T_init_61 ?_
              refine lv_iload_n hx hb dc_T_init_64 rfl (lv_at hl 0 rfl) ?_
              obtain ⟨f45, ef45, hF⟩ := pl_bd hF
              refine pl_new (fs := [.null, .int 0, .int 0, .int 0, .int 0, .int 0, .int 0]) C w hS (ci := 3) in_N rfl rty_N_ok (by decide +kernel) mw_139 mw_141 mw_69 (by decide) (by decide) ef45 dc_T_init_65 (fun H w hS => ?_)
              have w : pl_wd D vwCl dA b (n + 16) f45 H := w
              refine lv_dup hx hb dc_T_init_68 rfl ?_
              obtain ⟨q46, eq46, hF⟩ := pl_bd hF
              refine pl_gv (pl_runI (k := 0) C (tm_N_init l D dA tt b (n + 16) eq46) w hS rfl rfl mw_142 mw_143 mw_69 mw_144 rfl (by decide +kernel) ⟨by decide, by decide⟩ rfl hl.1 (Nat.le_of_ble_eq_true rfl) ⟨by decide, by decide⟩ rfl dc_T_init_69) hS (fun H locs w hS => ?_)
              have w : pl_wd D vwCl dA b (n + 17) q46 H := w
              obtain ⟨f47, ef47, hF⟩ := pl_bd hF
              refine pl_astQ2 (r := (some ((n + 15)))) C w hS ef47 dc_T_init_72 (fun H locs w hS => ?_)
              refine lv_iinc (k := 0) (v := 6) (lv' := [(3, .int 6), (0, .ref a0), (1, .ref a1), (2, .ref a2)]) hx hb dc_T_init_73 hl rfl rfl (by decide) rfl (fun ls hl => ?_)
              refine lv_goto hx hb dc_T_init_76 (tgt := 51) (by decide) ?_
              refine lv_iload_n hx hb dc_T_init_51 rfl (lv_at hl 0 rfl) ?_
              refine lv_aload_n hx hb dc_T_init_52 rfl (lv_at hl 1 rfl) ?_
              obtain ⟨v48, ev48, hF⟩ := pl_bd hF
              refine pl_getR C w (ci := 5) in_T rfl (by decide) 3 (by decide) mw_173 ev48 dc_T_init_53 ?_
              obtain ⟨v49, ev49, hF⟩ := pl_bd hF
              refine pl_len C w ev49 dc_T_init_56 ?_
              refine lv_icmp_ge hx hb dc_T_init_57 (tgt := 79) (by decide) (fun hc => ?_) (fun hc => ?_)
              · have hF := (if_pos hc).symm.trans hF
                cases hF
              · have hF := (if_neg hc).symm.trans hF
                refine lv_aload_n hx hb dc_T_init_60 rfl (lv_at hl 1 rfl) ?_
                obtain ⟨v50, ev50, hF⟩ := pl_bd hF
                refine pl_getR C w (ci := 5) in_T rfl (by decide) 3 (by decide) mw_173 ev50 dc_T_init_61 ?_
                refine lv_iload_n hx hb dc_T_init_64 rfl (lv_at hl 0 rfl) ?_
                obtain ⟨f51, ef51, hF⟩ := pl_bd hF
                refine pl_new (fs := [.null, .int 0, .int 0, .int 0, .int 0, .int 0, .int 0]) C w hS (ci := 3) in_N rfl rty_N_ok (by decide +kernel) mw_139 mw_141 mw_69 (by decide) (by decide) ef51 dc_T_init_65 (fun H w hS => ?_)
                have w : pl_wd D vwCl dA b (n + 18) f51 H := w
                refine lv_dup hx hb dc_T_init_68 rfl ?_
                obtain ⟨q52, eq52, hF⟩ := pl_bd hF
                refine pl_gv (pl_runI (k := 0) C (tm_N_init l D dA tt b (n + 18) eq52) w hS rfl rfl mw_142 mw_143 mw_69 mw_144 rfl (by decide +kernel) ⟨by decide, by decide⟩ rfl hl.1 (Nat.le_of_ble_eq_true rfl) ⟨by decide, by decide⟩ rfl dc_T_init_69) hS (fun H locs w hS => ?_)
                have w : pl_wd D vwCl dA b (n + 19) q52 H := w
                obtain ⟨f53, ef53, hF⟩ := pl_bd hF
                refine pl_astQ2 (r := (some ((n + 17)))) C w hS ef53 dc_T_init_72 (fun H locs w hS => ?_)
                refine lv_iinc (k := 0) (v := 7) (lv' := [(3, .int 7), (0, .ref a0), (1, .ref a1), (2, .ref a2)]) hx hb dc_T_init_73 hl rfl rfl (by decide) rfl (fun ls hl => ?_)
                refine lv_goto hx hb dc_T_init_76 (tgt := 51) (by decide) ?_
                refine lv_iload_n hx hb dc_T_init_51 rfl (lv_at hl 0 rfl) ?_
                refine lv_aload_n hx hb dc_T_init_52 rfl (lv_at hl 1 rfl) ?_
                obtain ⟨v54, ev54, hF⟩ := pl_bd hF
                refine pl_getR C w (ci := 5) in_T rfl (by decide) 3 (by decide) mw_173 ev54 dc_T_init_53 ?_
                obtain ⟨v55, ev55, hF⟩ := pl_bd hF
                refine pl_len C w ev55 dc_T_init_56 ?_
                refine lv_icmp_ge hx hb dc_T_init_57 (tgt := 79) (by decide) (fun hc => ?_) (fun hc => ?_)
                · have hF := (if_pos hc).symm.trans hF
                  cases hF
                · have hF := (if_neg hc).symm.trans hF
                  refine lv_aload_n hx hb dc_T_init_60 rfl (lv_at hl 1 rfl) ?_
                  obtain ⟨v56, ev56, hF⟩ := pl_bd hF
                  refine pl_getR C w (ci := 5) in_T rfl (by decide) 3 (by decide) mw_173 ev56 dc_T_init_61 ?_
                  refine lv_iload_n hx hb dc_T_init_64 rfl (lv_at hl 0 rfl) ?_
                  obtain ⟨f57, ef57, hF⟩ := pl_bd hF
                  refine pl_new (fs := [.null, .int 0, .int 0, .int 0, .int 0, .int 0, .int 0]) C w hS (ci := 3) in_N rfl rty_N_ok (by decide +kernel) mw_139 mw_141 mw_69 (by decide) (by decide) ef57 dc_T_init_65 (fun H w hS => ?_)
                  have w : pl_wd D vwCl dA b (n + 20) f57 H := w
                  refine lv_dup hx hb dc_T_init_68 rfl ?_
                  obtain ⟨q58, eq58, hF⟩ := pl_bd hF
                  refine pl_gv (pl_runI (k := 0) C (tm_N_init l D dA tt b (n + 20) eq58) w hS rfl rfl mw_142 mw_143 mw_69 mw_144 rfl (by decide +kernel) ⟨by decide, by decide⟩ rfl hl.1 (Nat.le_of_ble_eq_true rfl) ⟨by decide, by decide⟩ rfl dc_T_init_69) hS (fun H locs w hS => ?_)
                  have w : pl_wd D vwCl dA b (n + 21) q58 H := w
                  obtain ⟨f59, ef59, hF⟩ := pl_bd hF
                  refine pl_astQ2 (r := (some ((n + 19)))) C w hS ef59 dc_T_init_72 (fun H locs w hS => ?_)
                  refine lv_iinc (k := 0) (v := 8) (lv' := [(3, .int 8), (0, .ref a0), (1, .ref a1), (2, .ref a2)]) hx hb dc_T_init_73 hl rfl rfl (by decide) rfl (fun ls hl => ?_)
                  refine lv_goto hx hb dc_T_init_76 (tgt := 51) (by decide) ?_
                  refine lv_iload_n hx hb dc_T_init_51 rfl (lv_at hl 0 rfl) ?_
                  refine lv_aload_n hx hb dc_T_init_52 rfl (lv_at hl 1 rfl) ?_
                  obtain ⟨v60, ev60, hF⟩ := pl_bd hF
                  refine pl_getR C w (ci := 5) in_T rfl (by decide) 3 (by decide) mw_173 ev60 dc_T_init_53 ?_
                  obtain ⟨v61, ev61, hF⟩ := pl_bd hF
                  refine pl_len C w ev61 dc_T_init_56 ?_
                  refine lv_icmp_ge hx hb dc_T_init_57 (tgt := 79) (by decide) (fun hc => ?_) (fun hc => ?_)
                  · have hF := (if_pos hc).symm.trans hF
                    cases hF
                  · have hF := (if_neg hc).symm.trans hF
                    refine lv_aload_n hx hb dc_T_init_60 rfl (lv_at hl 1 rfl) ?_
                    obtain ⟨v62, ev62, hF⟩ := pl_bd hF
                    refine pl_getR C w (ci := 5) in_T rfl (by decide) 3 (by decide) mw_173 ev62 dc_T_init_61 ?_
                    refine lv_iload_n hx hb dc_T_init_64 rfl (lv_at hl 0 rfl) ?_
                    obtain ⟨f63, ef63, hF⟩ := pl_bd hF
                    refine pl_new (fs := [.null, .int 0, .int 0, .int 0, .int 0, .int 0, .int 0]) C w hS (ci := 3) in_N rfl rty_N_ok (by decide +kernel) mw_139 mw_141 mw_69 (by decide) (by decide) ef63 dc_T_init_65 (fun H w hS => ?_)
                    have w : pl_wd D vwCl dA b (n + 22) f63 H := w
                    refine lv_dup hx hb dc_T_init_68 rfl ?_
                    obtain ⟨q64, eq64, hF⟩ := pl_bd hF
                    refine pl_gv (pl_runI (k := 0) C (tm_N_init l D dA tt b (n + 22) eq64) w hS rfl rfl mw_142 mw_143 mw_69 mw_144 rfl (by decide +kernel) ⟨by decide, by decide⟩ rfl hl.1 (Nat.le_of_ble_eq_true rfl) ⟨by decide, by decide⟩ rfl dc_T_init_69) hS (fun H locs w hS => ?_)
                    have w : pl_wd D vwCl dA b (n + 23) q64 H := w
                    obtain ⟨f65, ef65, hF⟩ := pl_bd hF
                    refine pl_astQ2 (r := (some ((n + 21)))) C w hS ef65 dc_T_init_72 (fun H locs w hS => ?_)
                    refine lv_iinc (k := 0) (v := 9) (lv' := [(3, .int 9), (0, .ref a0), (1, .ref a1), (2, .ref a2)]) hx hb dc_T_init_73 hl rfl rfl (by decide) rfl (fun ls hl => ?_)
                    refine lv_goto hx hb dc_T_init_76 (tgt := 51) (by decide) ?_
                    refine lv_iload_n hx hb dc_T_init_51 rfl (lv_at hl 0 rfl) ?_
                    refine lv_aload_n hx hb dc_T_init_52 rfl (lv_at hl 1 rfl) ?_
                    obtain ⟨v66, ev66, hF⟩ := pl_bd hF
                    refine pl_getR C w (ci := 5) in_T rfl (by decide) 3 (by decide) mw_173 ev66 dc_T_init_53 ?_
                    obtain ⟨v67, ev67, hF⟩ := pl_bd hF
                    refine pl_len C w ev67 dc_T_init_56 ?_
                    refine lv_icmp_ge hx hb dc_T_init_57 (tgt := 79) (by decide) (fun hc => ?_) (fun hc => ?_)
                    · have hF := (if_pos hc).symm.trans hF
                      cases hF
                    · have hF := (if_neg hc).symm.trans hF
                      refine lv_aload_n hx hb dc_T_init_60 rfl (lv_at hl 1 rfl) ?_
                      obtain ⟨v68, ev68, hF⟩ := pl_bd hF
                      refine pl_getR C w (ci := 5) in_T rfl (by decide) 3 (by decide) mw_173 ev68 dc_T_init_61 ?_
                      refine lv_iload_n hx hb dc_T_init_64 rfl (lv_at hl 0 rfl) ?_
                      obtain ⟨f69, ef69, hF⟩ := pl_bd hF
                      refine pl_new (fs := [.null, .int 0, .int 0, .int 0, .int 0, .int 0, .int 0]) C w hS (ci := 3) in_N rfl rty_N_ok (by decide +kernel) mw_139 mw_141 mw_69 (by decide) (by decide) ef69 dc_T_init_65 (fun H w hS => ?_)
                      have w : pl_wd D vwCl dA b (n + 24) f69 H := w
                      refine lv_dup hx hb dc_T_init_68 rfl ?_
                      obtain ⟨q70, eq70, hF⟩ := pl_bd hF
                      refine pl_gv (pl_runI (k := 0) C (tm_N_init l D dA tt b (n + 24) eq70) w hS rfl rfl mw_142 mw_143 mw_69 mw_144 rfl (by decide +kernel) ⟨by decide, by decide⟩ rfl hl.1 (Nat.le_of_ble_eq_true rfl) ⟨by decide, by decide⟩ rfl dc_T_init_69) hS (fun H locs w hS => ?_)
                      have w : pl_wd D vwCl dA b (n + 25) q70 H := w
                      obtain ⟨f71, ef71, hF⟩ := pl_bd hF
                      refine pl_astQ2 (r := (some ((n + 23)))) C w hS ef71 dc_T_init_72 (fun H locs w hS => ?_)
                      refine lv_iinc (k := 0) (v := 10) (lv' := [(3, .int 10), (0, .ref a0), (1, .ref a1), (2, .ref a2)]) hx hb dc_T_init_73 hl rfl rfl (by decide) rfl (fun ls hl => ?_)
                      refine lv_goto hx hb dc_T_init_76 (tgt := 51) (by decide) ?_
                      refine lv_iload_n hx hb dc_T_init_51 rfl (lv_at hl 0 rfl) ?_
                      refine lv_aload_n hx hb dc_T_init_52 rfl (lv_at hl 1 rfl) ?_
                      obtain ⟨v72, ev72, hF⟩ := pl_bd hF
                      refine pl_getR C w (ci := 5) in_T rfl (by decide) 3 (by decide) mw_173 ev72 dc_T_init_53 ?_
                      obtain ⟨v73, ev73, hF⟩ := pl_bd hF
                      refine pl_len C w ev73 dc_T_init_56 ?_
                      refine lv_icmp_ge hx hb dc_T_init_57 (tgt := 79) (by decide) (fun hc => ?_) (fun hc => ?_)
                      · have hF := (if_pos hc).symm.trans hF
                        cases hF
                      · have hF := (if_neg hc).symm.trans hF
                        refine lv_aload_n hx hb dc_T_init_60 rfl (lv_at hl 1 rfl) ?_
                        obtain ⟨v74, ev74, hF⟩ := pl_bd hF
                        refine pl_getR C w (ci := 5) in_T rfl (by decide) 3 (by decide) mw_173 ev74 dc_T_init_61 ?_
                        refine lv_iload_n hx hb dc_T_init_64 rfl (lv_at hl 0 rfl) ?_
                        obtain ⟨f75, ef75, hF⟩ := pl_bd hF
                        refine pl_new (fs := [.null, .int 0, .int 0, .int 0, .int 0, .int 0, .int 0]) C w hS (ci := 3) in_N rfl rty_N_ok (by decide +kernel) mw_139 mw_141 mw_69 (by decide) (by decide) ef75 dc_T_init_65 (fun H w hS => ?_)
                        have w : pl_wd D vwCl dA b (n + 26) f75 H := w
                        refine lv_dup hx hb dc_T_init_68 rfl ?_
                        obtain ⟨q76, eq76, hF⟩ := pl_bd hF
                        refine pl_gv (pl_runI (k := 0) C (tm_N_init l D dA tt b (n + 26) eq76) w hS rfl rfl mw_142 mw_143 mw_69 mw_144 rfl (by decide +kernel) ⟨by decide, by decide⟩ rfl hl.1 (Nat.le_of_ble_eq_true rfl) ⟨by decide, by decide⟩ rfl dc_T_init_69) hS (fun H locs w hS => ?_)
                        have w : pl_wd D vwCl dA b (n + 27) q76 H := w
                        obtain ⟨f77, ef77, hF⟩ := pl_bd hF
                        refine pl_astQ2 (r := (some ((n + 25)))) C w hS ef77 dc_T_init_72 (fun H locs w hS => ?_)
                        refine lv_iinc (k := 0) (v := 11) (lv' := [(3, .int 11), (0, .ref a0), (1, .ref a1), (2, .ref a2)]) hx hb dc_T_init_73 hl rfl rfl (by decide) rfl (fun ls hl => ?_)
                        refine lv_goto hx hb dc_T_init_76 (tgt := 51) (by decide) ?_
                        refine lv_iload_n hx hb dc_T_init_51 rfl (lv_at hl 0 rfl) ?_
                        refine lv_aload_n hx hb dc_T_init_52 rfl (lv_at hl 1 rfl) ?_
                        obtain ⟨v78, ev78, hF⟩ := pl_bd hF
                        refine pl_getR C w (ci := 5) in_T rfl (by decide) 3 (by decide) mw_173 ev78 dc_T_init_53 ?_
                        obtain ⟨v79, ev79, hF⟩ := pl_bd hF
                        refine pl_len C w ev79 dc_T_init_56 ?_
                        refine lv_icmp_ge hx hb dc_T_init_57 (tgt := 79) (by decide) (fun hc => ?_) (fun hc => ?_)
                        · have hF := (if_pos hc).symm.trans hF
                          cases hF
                        · have hF := (if_neg hc).symm.trans hF
                          refine lv_aload_n hx hb dc_T_init_60 rfl (lv_at hl 1 rfl) ?_
                          obtain ⟨v80, ev80, hF⟩ := pl_bd hF
                          refine pl_getR C w (ci := 5) in_T rfl (by decide) 3 (by decide) mw_173 ev80 dc_T_init_61 ?_
                          refine lv_iload_n hx hb dc_T_init_64 rfl (lv_at hl 0 rfl) ?_
                          obtain ⟨f81, ef81, hF⟩ := pl_bd hF
                          refine pl_new (fs := [.null, .int 0, .int 0, .int 0, .int 0, .int 0, .int 0]) C w hS (ci := 3) in_N rfl rty_N_ok (by decide +kernel) mw_139 mw_141 mw_69 (by decide) (by decide) ef81 dc_T_init_65 (fun H w hS => ?_)
                          have w : pl_wd D vwCl dA b (n + 28) f81 H := w
                          refine lv_dup hx hb dc_T_init_68 rfl ?_
                          obtain ⟨q82, eq82, hF⟩ := pl_bd hF
                          refine pl_gv (pl_runI (k := 0) C (tm_N_init l D dA tt b (n + 28) eq82) w hS rfl rfl mw_142 mw_143 mw_69 mw_144 rfl (by decide +kernel) ⟨by decide, by decide⟩ rfl hl.1 (Nat.le_of_ble_eq_true rfl) ⟨by decide, by decide⟩ rfl dc_T_init_69) hS (fun H locs w hS => ?_)
                          have w : pl_wd D vwCl dA b (n + 29) q82 H := w
                          obtain ⟨f83, ef83, hF⟩ := pl_bd hF
                          refine pl_astQ2 (r := (some ((n + 27)))) C w hS ef83 dc_T_init_72 (fun H locs w hS => ?_)
                          refine lv_iinc (k := 0) (v := 12) (lv' := [(3, .int 12), (0, .ref a0), (1, .ref a1), (2, .ref a2)]) hx hb dc_T_init_73 hl rfl rfl (by decide) rfl (fun ls hl => ?_)
                          refine lv_goto hx hb dc_T_init_76 (tgt := 51) (by decide) ?_
                          refine lv_iload_n hx hb dc_T_init_51 rfl (lv_at hl 0 rfl) ?_
                          refine lv_aload_n hx hb dc_T_init_52 rfl (lv_at hl 1 rfl) ?_
                          obtain ⟨v84, ev84, hF⟩ := pl_bd hF
                          refine pl_getR C w (ci := 5) in_T rfl (by decide) 3 (by decide) mw_173 ev84 dc_T_init_53 ?_
                          obtain ⟨v85, ev85, hF⟩ := pl_bd hF
                          refine pl_len C w ev85 dc_T_init_56 ?_
                          refine lv_icmp_ge hx hb dc_T_init_57 (tgt := 79) (by decide) (fun hc => ?_) (fun hc => ?_)
                          · have hF := (if_pos hc).symm.trans hF
                            cases hF
                          · have hF := (if_neg hc).symm.trans hF
                            refine lv_aload_n hx hb dc_T_init_60 rfl (lv_at hl 1 rfl) ?_
                            obtain ⟨v86, ev86, hF⟩ := pl_bd hF
                            refine pl_getR C w (ci := 5) in_T rfl (by decide) 3 (by decide) mw_173 ev86 dc_T_init_61 ?_
                            refine lv_iload_n hx hb dc_T_init_64 rfl (lv_at hl 0 rfl) ?_
                            obtain ⟨f87, ef87, hF⟩ := pl_bd hF
                            refine pl_new (fs := [.null, .int 0, .int 0, .int 0, .int 0, .int 0, .int 0]) C w hS (ci := 3) in_N rfl rty_N_ok (by decide +kernel) mw_139 mw_141 mw_69 (by decide) (by decide) ef87 dc_T_init_65 (fun H w hS => ?_)
                            have w : pl_wd D vwCl dA b (n + 30) f87 H := w
                            refine lv_dup hx hb dc_T_init_68 rfl ?_
                            obtain ⟨q88, eq88, hF⟩ := pl_bd hF
                            refine pl_gv (pl_runI (k := 0) C (tm_N_init l D dA tt b (n + 30) eq88) w hS rfl rfl mw_142 mw_143 mw_69 mw_144 rfl (by decide +kernel) ⟨by decide, by decide⟩ rfl hl.1 (Nat.le_of_ble_eq_true rfl) ⟨by decide, by decide⟩ rfl dc_T_init_69) hS (fun H locs w hS => ?_)
                            have w : pl_wd D vwCl dA b (n + 31) q88 H := w
                            obtain ⟨f89, ef89, hF⟩ := pl_bd hF
                            refine pl_astQ2 (r := (some ((n + 29)))) C w hS ef89 dc_T_init_72 (fun H locs w hS => ?_)
                            refine lv_iinc (k := 0) (v := 13) (lv' := [(3, .int 13), (0, .ref a0), (1, .ref a1), (2, .ref a2)]) hx hb dc_T_init_73 hl rfl rfl (by decide) rfl (fun ls hl => ?_)
                            refine lv_goto hx hb dc_T_init_76 (tgt := 51) (by decide) ?_
                            refine lv_iload_n hx hb dc_T_init_51 rfl (lv_at hl 0 rfl) ?_
                            refine lv_aload_n hx hb dc_T_init_52 rfl (lv_at hl 1 rfl) ?_
                            obtain ⟨v90, ev90, hF⟩ := pl_bd hF
                            refine pl_getR C w (ci := 5) in_T rfl (by decide) 3 (by decide) mw_173 ev90 dc_T_init_53 ?_
                            obtain ⟨v91, ev91, hF⟩ := pl_bd hF
                            refine pl_len C w ev91 dc_T_init_56 ?_
                            refine lv_icmp_ge hx hb dc_T_init_57 (tgt := 79) (by decide) (fun hc => ?_) (fun hc => ?_)
                            · have hF := (if_pos hc).symm.trans hF
                              cases hF
                            · have hF := (if_neg hc).symm.trans hF
                              refine lv_aload_n hx hb dc_T_init_60 rfl (lv_at hl 1 rfl) ?_
                              obtain ⟨v92, ev92, hF⟩ := pl_bd hF
                              refine pl_getR C w (ci := 5) in_T rfl (by decide) 3 (by decide) mw_173 ev92 dc_T_init_61 ?_
                              refine lv_iload_n hx hb dc_T_init_64 rfl (lv_at hl 0 rfl) ?_
                              obtain ⟨f93, ef93, hF⟩ := pl_bd hF
                              refine pl_new (fs := [.null, .int 0, .int 0, .int 0, .int 0, .int 0, .int 0]) C w hS (ci := 3) in_N rfl rty_N_ok (by decide +kernel) mw_139 mw_141 mw_69 (by decide) (by decide) ef93 dc_T_init_65 (fun H w hS => ?_)
                              have w : pl_wd D vwCl dA b (n + 32) f93 H := w
                              refine lv_dup hx hb dc_T_init_68 rfl ?_
                              obtain ⟨q94, eq94, hF⟩ := pl_bd hF
                              refine pl_gv (pl_runI (k := 0) C (tm_N_init l D dA tt b (n + 32) eq94) w hS rfl rfl mw_142 mw_143 mw_69 mw_144 rfl (by decide +kernel) ⟨by decide, by decide⟩ rfl hl.1 (Nat.le_of_ble_eq_true rfl) ⟨by decide, by decide⟩ rfl dc_T_init_69) hS (fun H locs w hS => ?_)
                              have w : pl_wd D vwCl dA b (n + 33) q94 H := w
                              obtain ⟨f95, ef95, hF⟩ := pl_bd hF
                              refine pl_astQ2 (r := (some ((n + 31)))) C w hS ef95 dc_T_init_72 (fun H locs w hS => ?_)
                              refine lv_iinc (k := 0) (v := 14) (lv' := [(3, .int 14), (0, .ref a0), (1, .ref a1), (2, .ref a2)]) hx hb dc_T_init_73 hl rfl rfl (by decide) rfl (fun ls hl => ?_)
                              refine lv_goto hx hb dc_T_init_76 (tgt := 51) (by decide) ?_
                              refine lv_iload_n hx hb dc_T_init_51 rfl (lv_at hl 0 rfl) ?_
                              refine lv_aload_n hx hb dc_T_init_52 rfl (lv_at hl 1 rfl) ?_
                              obtain ⟨v96, ev96, hF⟩ := pl_bd hF
                              refine pl_getR C w (ci := 5) in_T rfl (by decide) 3 (by decide) mw_173 ev96 dc_T_init_53 ?_
                              obtain ⟨v97, ev97, hF⟩ := pl_bd hF
                              refine pl_len C w ev97 dc_T_init_56 ?_
                              refine lv_icmp_ge hx hb dc_T_init_57 (tgt := 79) (by decide) (fun hc => ?_) (fun hc => ?_)
                              · have hF := (if_pos hc).symm.trans hF
                                cases hF
                              · have hF := (if_neg hc).symm.trans hF
                                refine lv_aload_n hx hb dc_T_init_60 rfl (lv_at hl 1 rfl) ?_
                                obtain ⟨v98, ev98, hF⟩ := pl_bd hF
                                refine pl_getR C w (ci := 5) in_T rfl (by decide) 3 (by decide) mw_173 ev98 dc_T_init_61 ?_
                                refine lv_iload_n hx hb dc_T_init_64 rfl (lv_at hl 0 rfl) ?_
                                obtain ⟨f99, ef99, hF⟩ := pl_bd hF
                                refine pl_new (fs := [.null, .int 0, .int 0, .int 0, .int 0, .int 0, .int 0]) C w hS (ci := 3) in_N rfl rty_N_ok (by decide +kernel) mw_139 mw_141 mw_69 (by decide) (by decide) ef99 dc_T_init_65 (fun H w hS => ?_)
                                have w : pl_wd D vwCl dA b (n + 34) f99 H := w
                                refine lv_dup hx hb dc_T_init_68 rfl ?_
                                obtain ⟨q100, eq100, hF⟩ := pl_bd hF
                                refine pl_gv (pl_runI (k := 0) C (tm_N_init l D dA tt b (n + 34) eq100) w hS rfl rfl mw_142 mw_143 mw_69 mw_144 rfl (by decide +kernel) ⟨by decide, by decide⟩ rfl hl.1 (Nat.le_of_ble_eq_true rfl) ⟨by decide, by decide⟩ rfl dc_T_init_69) hS (fun H locs w hS => ?_)
                                have w : pl_wd D vwCl dA b (n + 35) q100 H := w
                                obtain ⟨f101, ef101, hF⟩ := pl_bd hF
                                refine pl_astQ2 (r := (some ((n + 33)))) C w hS ef101 dc_T_init_72 (fun H locs w hS => ?_)
                                refine lv_iinc (k := 0) (v := 15) (lv' := [(3, .int 15), (0, .ref a0), (1, .ref a1), (2, .ref a2)]) hx hb dc_T_init_73 hl rfl rfl (by decide) rfl (fun ls hl => ?_)
                                refine lv_goto hx hb dc_T_init_76 (tgt := 51) (by decide) ?_
                                refine lv_iload_n hx hb dc_T_init_51 rfl (lv_at hl 0 rfl) ?_
                                refine lv_aload_n hx hb dc_T_init_52 rfl (lv_at hl 1 rfl) ?_
                                obtain ⟨v102, ev102, hF⟩ := pl_bd hF
                                refine pl_getR C w (ci := 5) in_T rfl (by decide) 3 (by decide) mw_173 ev102 dc_T_init_53 ?_
                                obtain ⟨v103, ev103, hF⟩ := pl_bd hF
                                refine pl_len C w ev103 dc_T_init_56 ?_
                                refine lv_icmp_ge hx hb dc_T_init_57 (tgt := 79) (by decide) (fun hc => ?_) (fun hc => ?_)
                                · have hF := (if_pos hc).symm.trans hF
                                  cases hF
                                · have hF := (if_neg hc).symm.trans hF
                                  refine lv_aload_n hx hb dc_T_init_60 rfl (lv_at hl 1 rfl) ?_
                                  obtain ⟨v104, ev104, hF⟩ := pl_bd hF
                                  refine pl_getR C w (ci := 5) in_T rfl (by decide) 3 (by decide) mw_173 ev104 dc_T_init_61 ?_
                                  refine lv_iload_n hx hb dc_T_init_64 rfl (lv_at hl 0 rfl) ?_
                                  obtain ⟨f105, ef105, hF⟩ := pl_bd hF
                                  refine pl_new (fs := [.null, .int 0, .int 0, .int 0, .int 0, .int 0, .int 0]) C w hS (ci := 3) in_N rfl rty_N_ok (by decide +kernel) mw_139 mw_141 mw_69 (by decide) (by decide) ef105 dc_T_init_65 (fun H w hS => ?_)
                                  have w : pl_wd D vwCl dA b (n + 36) f105 H := w
                                  refine lv_dup hx hb dc_T_init_68 rfl ?_
                                  obtain ⟨q106, eq106, hF⟩ := pl_bd hF
                                  refine pl_gv (pl_runI (k := 0) C (tm_N_init l D dA tt b (n + 36) eq106) w hS rfl rfl mw_142 mw_143 mw_69 mw_144 rfl (by decide +kernel) ⟨by decide, by decide⟩ rfl hl.1 (Nat.le_of_ble_eq_true rfl) ⟨by decide, by decide⟩ rfl dc_T_init_69) hS (fun H locs w hS => ?_)
                                  have w : pl_wd D vwCl dA b (n + 37) q106 H := w
                                  obtain ⟨f107, ef107, hF⟩ := pl_bd hF
                                  refine pl_astQ2 (r := (some ((n + 35)))) C w hS ef107 dc_T_init_72 (fun H locs w hS => ?_)
                                  refine lv_iinc (k := 0) (v := 16) (lv' := [(3, .int 16), (0, .ref a0), (1, .ref a1), (2, .ref a2)]) hx hb dc_T_init_73 hl rfl rfl (by decide) rfl (fun ls hl => ?_)
                                  refine lv_goto hx hb dc_T_init_76 (tgt := 51) (by decide) ?_
                                  refine lv_iload_n hx hb dc_T_init_51 rfl (lv_at hl 0 rfl) ?_
                                  refine lv_aload_n hx hb dc_T_init_52 rfl (lv_at hl 1 rfl) ?_
                                  obtain ⟨v108, ev108, hF⟩ := pl_bd hF
                                  refine pl_getR C w (ci := 5) in_T rfl (by decide) 3 (by decide) mw_173 ev108 dc_T_init_53 ?_
                                  obtain ⟨v109, ev109, hF⟩ := pl_bd hF
                                  refine pl_len C w ev109 dc_T_init_56 ?_
                                  refine lv_icmp_ge hx hb dc_T_init_57 (tgt := 79) (by decide) (fun hc => ?_) (fun hc => ?_)
                                  · have hF := (if_pos hc).symm.trans hF
                                    cases hF
                                  · have hF := (if_neg hc).symm.trans hF
                                    refine lv_aload_n hx hb dc_T_init_60 rfl (lv_at hl 1 rfl) ?_
                                    obtain ⟨v110, ev110, hF⟩ := pl_bd hF
                                    refine pl_getR C w (ci := 5) in_T rfl (by decide) 3 (by decide) mw_173 ev110 dc_T_init_61 ?_
                                    refine lv_iload_n hx hb dc_T_init_64 rfl (lv_at hl 0 rfl) ?_
                                    obtain ⟨f111, ef111, hF⟩ := pl_bd hF
                                    refine pl_new (fs := [.null, .int 0, .int 0, .int 0, .int 0, .int 0, .int 0]) C w hS (ci := 3) in_N rfl rty_N_ok (by decide +kernel) mw_139 mw_141 mw_69 (by decide) (by decide) ef111 dc_T_init_65 (fun H w hS => ?_)
                                    have w : pl_wd D vwCl dA b (n + 38) f111 H := w
                                    refine lv_dup hx hb dc_T_init_68 rfl ?_
                                    obtain ⟨q112, eq112, hF⟩ := pl_bd hF
                                    refine pl_gv (pl_runI (k := 0) C (tm_N_init l D dA tt b (n + 38) eq112) w hS rfl rfl mw_142 mw_143 mw_69 mw_144 rfl (by decide +kernel) ⟨by decide, by decide⟩ rfl hl.1 (Nat.le_of_ble_eq_true rfl) ⟨by decide, by decide⟩ rfl dc_T_init_69) hS (fun H locs w hS => ?_)
                                    have w : pl_wd D vwCl dA b (n + 39) q112 H := w
                                    obtain ⟨f113, ef113, hF⟩ := pl_bd hF
                                    refine pl_astQ2 (r := (some ((n + 37)))) C w hS ef113 dc_T_init_72 (fun H locs w hS => ?_)
                                    refine lv_iinc (k := 0) (v := 17) (lv' := [(3, .int 17), (0, .ref a0), (1, .ref a1), (2, .ref a2)]) hx hb dc_T_init_73 hl rfl rfl (by decide) rfl (fun ls hl => ?_)
                                    refine lv_goto hx hb dc_T_init_76 (tgt := 51) (by decide) ?_
                                    refine lv_iload_n hx hb dc_T_init_51 rfl (lv_at hl 0 rfl) ?_
                                    refine lv_aload_n hx hb dc_T_init_52 rfl (lv_at hl 1 rfl) ?_
                                    obtain ⟨v114, ev114, hF⟩ := pl_bd hF
                                    refine pl_getR C w (ci := 5) in_T rfl (by decide) 3 (by decide) mw_173 ev114 dc_T_init_53 ?_
                                    obtain ⟨v115, ev115, hF⟩ := pl_bd hF
                                    refine pl_len C w ev115 dc_T_init_56 ?_
                                    refine lv_icmp_ge hx hb dc_T_init_57 (tgt := 79) (by decide) (fun hc => ?_) (fun hc => ?_)
                                    · have hF := (if_pos hc).symm.trans hF
                                      cases hF
                                    · have hF := (if_neg hc).symm.trans hF
                                      refine lv_aload_n hx hb dc_T_init_60 rfl (lv_at hl 1 rfl) ?_
                                      obtain ⟨v116, ev116, hF⟩ := pl_bd hF
                                      refine pl_getR C w (ci := 5) in_T rfl (by decide) 3 (by decide) mw_173 ev116 dc_T_init_61 ?_
                                      refine lv_iload_n hx hb dc_T_init_64 rfl (lv_at hl 0 rfl) ?_
                                      obtain ⟨f117, ef117, hF⟩ := pl_bd hF
                                      refine pl_new (fs := [.null, .int 0, .int 0, .int 0, .int 0, .int 0, .int 0]) C w hS (ci := 3) in_N rfl rty_N_ok (by decide +kernel) mw_139 mw_141 mw_69 (by decide) (by decide) ef117 dc_T_init_65 (fun H w hS => ?_)
                                      have w : pl_wd D vwCl dA b (n + 40) f117 H := w
                                      refine lv_dup hx hb dc_T_init_68 rfl ?_
                                      obtain ⟨q118, eq118, hF⟩ := pl_bd hF
                                      refine pl_gv (pl_runI (k := 0) C (tm_N_init l D dA tt b (n + 40) eq118) w hS rfl rfl mw_142 mw_143 mw_69 mw_144 rfl (by decide +kernel) ⟨by decide, by decide⟩ rfl hl.1 (Nat.le_of_ble_eq_true rfl) ⟨by decide, by decide⟩ rfl dc_T_init_69) hS (fun H locs w hS => ?_)
                                      have w : pl_wd D vwCl dA b (n + 41) q118 H := w
                                      obtain ⟨f119, ef119, hF⟩ := pl_bd hF
                                      refine pl_astQ2 (r := (some ((n + 39)))) C w hS ef119 dc_T_init_72 (fun H locs w hS => ?_)
                                      refine lv_iinc (k := 0) (v := 18) (lv' := [(3, .int 18), (0, .ref a0), (1, .ref a1), (2, .ref a2)]) hx hb dc_T_init_73 hl rfl rfl (by decide) rfl (fun ls hl => ?_)
                                      refine lv_goto hx hb dc_T_init_76 (tgt := 51) (by decide) ?_
                                      refine lv_iload_n hx hb dc_T_init_51 rfl (lv_at hl 0 rfl) ?_
                                      refine lv_aload_n hx hb dc_T_init_52 rfl (lv_at hl 1 rfl) ?_
                                      obtain ⟨v120, ev120, hF⟩ := pl_bd hF
                                      refine pl_getR C w (ci := 5) in_T rfl (by decide) 3 (by decide) mw_173 ev120 dc_T_init_53 ?_
                                      obtain ⟨v121, ev121, hF⟩ := pl_bd hF
                                      refine pl_len C w ev121 dc_T_init_56 ?_
                                      refine lv_icmp_ge hx hb dc_T_init_57 (tgt := 79) (by decide) (fun hc => ?_) (fun hc => ?_)
                                      · have hF := (if_pos hc).symm.trans hF
                                        cases hF
                                      · have hF := (if_neg hc).symm.trans hF
                                        refine lv_aload_n hx hb dc_T_init_60 rfl (lv_at hl 1 rfl) ?_
                                        obtain ⟨v122, ev122, hF⟩ := pl_bd hF
                                        refine pl_getR C w (ci := 5) in_T rfl (by decide) 3 (by decide) mw_173 ev122 dc_T_init_61 ?_
                                        refine lv_iload_n hx hb dc_T_init_64 rfl (lv_at hl 0 rfl) ?_
                                        obtain ⟨f123, ef123, hF⟩ := pl_bd hF
                                        refine pl_new (fs := [.null, .int 0, .int 0, .int 0, .int 0, .int 0, .int 0]) C w hS (ci := 3) in_N rfl rty_N_ok (by decide +kernel) mw_139 mw_141 mw_69 (by decide) (by decide) ef123 dc_T_init_65 (fun H w hS => ?_)
                                        have w : pl_wd D vwCl dA b (n + 42) f123 H := w
                                        refine lv_dup hx hb dc_T_init_68 rfl ?_
                                        obtain ⟨q124, eq124, hF⟩ := pl_bd hF
                                        refine pl_gv (pl_runI (k := 0) C (tm_N_init l D dA tt b (n + 42) eq124) w hS rfl rfl mw_142 mw_143 mw_69 mw_144 rfl (by decide +kernel) ⟨by decide, by decide⟩ rfl hl.1 (Nat.le_of_ble_eq_true rfl) ⟨by decide, by decide⟩ rfl dc_T_init_69) hS (fun H locs w hS => ?_)
                                        have w : pl_wd D vwCl dA b (n + 43) q124 H := w
                                        obtain ⟨f125, ef125, hF⟩ := pl_bd hF
                                        refine pl_astQ2 (r := (some ((n + 41)))) C w hS ef125 dc_T_init_72 (fun H locs w hS => ?_)
                                        refine lv_iinc (k := 0) (v := 19) (lv' := [(3, .int 19), (0, .ref a0), (1, .ref a1), (2, .ref a2)]) hx hb dc_T_init_73 hl rfl rfl (by decide) rfl (fun ls hl => ?_)
                                        refine lv_goto hx hb dc_T_init_76 (tgt := 51) (by decide) ?_
                                        refine lv_iload_n hx hb dc_T_init_51 rfl (lv_at hl 0 rfl) ?_
                                        refine lv_aload_n hx hb dc_T_init_52 rfl (lv_at hl 1 rfl) ?_
                                        obtain ⟨v126, ev126, hF⟩ := pl_bd hF
                                        refine pl_getR C w (ci := 5) in_T rfl (by decide) 3 (by decide) mw_173 ev126 dc_T_init_53 ?_
                                        obtain ⟨v127, ev127, hF⟩ := pl_bd hF
                                        refine pl_len C w ev127 dc_T_init_56 ?_
                                        refine lv_icmp_ge hx hb dc_T_init_57 (tgt := 79) (by decide) (fun hc => ?_) (fun hc => ?_)
                                        · have hF := (if_pos hc).symm.trans hF
                                          cases hF
                                        · have hF := (if_neg hc).symm.trans hF
                                          refine lv_aload_n hx hb dc_T_init_60 rfl (lv_at hl 1 rfl) ?_
                                          obtain ⟨v128, ev128, hF⟩ := pl_bd hF
                                          refine pl_getR C w (ci := 5) in_T rfl (by decide) 3 (by decide) mw_173 ev128 dc_T_init_61 ?_
                                          refine lv_iload_n hx hb dc_T_init_64 rfl (lv_at hl 0 rfl) ?_
                                          obtain ⟨f129, ef129, hF⟩ := pl_bd hF
                                          refine pl_new (fs := [.null, .int 0, .int 0, .int 0, .int 0, .int 0, .int 0]) C w hS (ci := 3) in_N rfl rty_N_ok (by decide +kernel) mw_139 mw_141 mw_69 (by decide) (by decide) ef129 dc_T_init_65 (fun H w hS => ?_)
                                          have w : pl_wd D vwCl dA b (n + 44) f129 H := w
                                          refine lv_dup hx hb dc_T_init_68 rfl ?_
                                          obtain ⟨q130, eq130, hF⟩ := pl_bd hF
                                          refine pl_gv (pl_runI (k := 0) C (tm_N_init l D dA tt b (n + 44) eq130) w hS rfl rfl mw_142 mw_143 mw_69 mw_144 rfl (by decide +kernel) ⟨by decide, by decide⟩ rfl hl.1 (Nat.le_of_ble_eq_true rfl) ⟨by decide, by decide⟩ rfl dc_T_init_69) hS (fun H locs w hS => ?_)
                                          have w : pl_wd D vwCl dA b (n + 45) q130 H := w
                                          obtain ⟨f131, ef131, hF⟩ := pl_bd hF
                                          refine pl_astQ2 (r := (some ((n + 43)))) C w hS ef131 dc_T_init_72 (fun H locs w hS => ?_)
                                          refine lv_iinc (k := 0) (v := 20) (lv' := [(3, .int 20), (0, .ref a0), (1, .ref a1), (2, .ref a2)]) hx hb dc_T_init_73 hl rfl rfl (by decide) rfl (fun ls hl => ?_)
                                          refine lv_goto hx hb dc_T_init_76 (tgt := 51) (by decide) ?_
                                          refine lv_iload_n hx hb dc_T_init_51 rfl (lv_at hl 0 rfl) ?_
                                          refine lv_aload_n hx hb dc_T_init_52 rfl (lv_at hl 1 rfl) ?_
                                          obtain ⟨v132, ev132, hF⟩ := pl_bd hF
                                          refine pl_getR C w (ci := 5) in_T rfl (by decide) 3 (by decide) mw_173 ev132 dc_T_init_53 ?_
                                          obtain ⟨v133, ev133, hF⟩ := pl_bd hF
                                          refine pl_len C w ev133 dc_T_init_56 ?_
                                          refine lv_icmp_ge hx hb dc_T_init_57 (tgt := 79) (by decide) (fun hc => ?_) (fun hc => ?_)
                                          · have hF := (if_pos hc).symm.trans hF
                                            cases hF
                                          · have hF := (if_neg hc).symm.trans hF
                                            refine lv_aload_n hx hb dc_T_init_60 rfl (lv_at hl 1 rfl) ?_
                                            obtain ⟨v134, ev134, hF⟩ := pl_bd hF
                                            refine pl_getR C w (ci := 5) in_T rfl (by decide) 3 (by decide) mw_173 ev134 dc_T_init_61 ?_
                                            refine lv_iload_n hx hb dc_T_init_64 rfl (lv_at hl 0 rfl) ?_
                                            obtain ⟨f135, ef135, hF⟩ := pl_bd hF
                                            refine pl_new (fs := [.null, .int 0, .int 0, .int 0, .int 0, .int 0, .int 0]) C w hS (ci := 3) in_N rfl rty_N_ok (by decide +kernel) mw_139 mw_141 mw_69 (by decide) (by decide) ef135 dc_T_init_65 (fun H w hS => ?_)
                                            have w : pl_wd D vwCl dA b (n + 46) f135 H := w
                                            refine lv_dup hx hb dc_T_init_68 rfl ?_
                                            obtain ⟨q136, eq136, hF⟩ := pl_bd hF
                                            refine pl_gv (pl_runI (k := 0) C (tm_N_init l D dA tt b (n + 46) eq136) w hS rfl rfl mw_142 mw_143 mw_69 mw_144 rfl (by decide +kernel) ⟨by decide, by decide⟩ rfl hl.1 (Nat.le_of_ble_eq_true rfl) ⟨by decide, by decide⟩ rfl dc_T_init_69) hS (fun H locs w hS => ?_)
                                            have w : pl_wd D vwCl dA b (n + 47) q136 H := w
                                            obtain ⟨f137, ef137, hF⟩ := pl_bd hF
                                            refine pl_astQ2 (r := (some ((n + 45)))) C w hS ef137 dc_T_init_72 (fun H locs w hS => ?_)
                                            refine lv_iinc (k := 0) (v := 21) (lv' := [(3, .int 21), (0, .ref a0), (1, .ref a1), (2, .ref a2)]) hx hb dc_T_init_73 hl rfl rfl (by decide) rfl (fun ls hl => ?_)
                                            refine lv_goto hx hb dc_T_init_76 (tgt := 51) (by decide) ?_
                                            refine lv_iload_n hx hb dc_T_init_51 rfl (lv_at hl 0 rfl) ?_
                                            refine lv_aload_n hx hb dc_T_init_52 rfl (lv_at hl 1 rfl) ?_
                                            obtain ⟨v138, ev138, hF⟩ := pl_bd hF
                                            refine pl_getR C w (ci := 5) in_T rfl (by decide) 3 (by decide) mw_173 ev138 dc_T_init_53 ?_
                                            obtain ⟨v139, ev139, hF⟩ := pl_bd hF
                                            refine pl_len C w ev139 dc_T_init_56 ?_
                                            refine lv_icmp_ge hx hb dc_T_init_57 (tgt := 79) (by decide) (fun hc => ?_) (fun hc => ?_)
                                            · have hF := (if_pos hc).symm.trans hF
                                              cases hF
                                            · have hF := (if_neg hc).symm.trans hF
                                              refine lv_aload_n hx hb dc_T_init_60 rfl (lv_at hl 1 rfl) ?_
                                              obtain ⟨v140, ev140, hF⟩ := pl_bd hF
                                              refine pl_getR C w (ci := 5) in_T rfl (by decide) 3 (by decide) mw_173 ev140 dc_T_init_61 ?_
                                              refine lv_iload_n hx hb dc_T_init_64 rfl (lv_at hl 0 rfl) ?_
                                              obtain ⟨f141, ef141, hF⟩ := pl_bd hF
                                              refine pl_new (fs := [.null, .int 0, .int 0, .int 0, .int 0, .int 0, .int 0]) C w hS (ci := 3) in_N rfl rty_N_ok (by decide +kernel) mw_139 mw_141 mw_69 (by decide) (by decide) ef141 dc_T_init_65 (fun H w hS => ?_)
                                              have w : pl_wd D vwCl dA b (n + 48) f141 H := w
                                              refine lv_dup hx hb dc_T_init_68 rfl ?_
                                              obtain ⟨q142, eq142, hF⟩ := pl_bd hF
                                              refine pl_gv (pl_runI (k := 0) C (tm_N_init l D dA tt b (n + 48) eq142) w hS rfl rfl mw_142 mw_143 mw_69 mw_144 rfl (by decide +kernel) ⟨by decide, by decide⟩ rfl hl.1 (Nat.le_of_ble_eq_true rfl) ⟨by decide, by decide⟩ rfl dc_T_init_69) hS (fun H locs w hS => ?_)
                                              have w : pl_wd D vwCl dA b (n + 49) q142 H := w
                                              obtain ⟨f143, ef143, hF⟩ := pl_bd hF
                                              refine pl_astQ2 (r := (some ((n + 47)))) C w hS ef143 dc_T_init_72 (fun H locs w hS => ?_)
                                              refine lv_iinc (k := 0) (v := 22) (lv' := [(3, .int 22), (0, .ref a0), (1, .ref a1), (2, .ref a2)]) hx hb dc_T_init_73 hl rfl rfl (by decide) rfl (fun ls hl => ?_)
                                              refine lv_goto hx hb dc_T_init_76 (tgt := 51) (by decide) ?_
                                              refine lv_iload_n hx hb dc_T_init_51 rfl (lv_at hl 0 rfl) ?_
                                              refine lv_aload_n hx hb dc_T_init_52 rfl (lv_at hl 1 rfl) ?_
                                              obtain ⟨v144, ev144, hF⟩ := pl_bd hF
                                              refine pl_getR C w (ci := 5) in_T rfl (by decide) 3 (by decide) mw_173 ev144 dc_T_init_53 ?_
                                              obtain ⟨v145, ev145, hF⟩ := pl_bd hF
                                              refine pl_len C w ev145 dc_T_init_56 ?_
                                              refine lv_icmp_ge hx hb dc_T_init_57 (tgt := 79) (by decide) (fun hc => ?_) (fun hc => ?_)
                                              · have hF := (if_pos hc).symm.trans hF
                                                cases hF
                                              · have hF := (if_neg hc).symm.trans hF
                                                refine lv_aload_n hx hb dc_T_init_60 rfl (lv_at hl 1 rfl) ?_
                                                obtain ⟨v146, ev146, hF⟩ := pl_bd hF
                                                refine pl_getR C w (ci := 5) in_T rfl (by decide) 3 (by decide) mw_173 ev146 dc_T_init_61 ?_
                                                refine lv_iload_n hx hb dc_T_init_64 rfl (lv_at hl 0 rfl) ?_
                                                obtain ⟨f147, ef147, hF⟩ := pl_bd hF
                                                refine pl_new (fs := [.null, .int 0, .int 0, .int 0, .int 0, .int 0, .int 0]) C w hS (ci := 3) in_N rfl rty_N_ok (by decide +kernel) mw_139 mw_141 mw_69 (by decide) (by decide) ef147 dc_T_init_65 (fun H w hS => ?_)
                                                have w : pl_wd D vwCl dA b (n + 50) f147 H := w
                                                refine lv_dup hx hb dc_T_init_68 rfl ?_
                                                obtain ⟨q148, eq148, hF⟩ := pl_bd hF
                                                refine pl_gv (pl_runI (k := 0) C (tm_N_init l D dA tt b (n + 50) eq148) w hS rfl rfl mw_142 mw_143 mw_69 mw_144 rfl (by decide +kernel) ⟨by decide, by decide⟩ rfl hl.1 (Nat.le_of_ble_eq_true rfl) ⟨by decide, by decide⟩ rfl dc_T_init_69) hS (fun H locs w hS => ?_)
                                                have w : pl_wd D vwCl dA b (n + 51) q148 H := w
                                                obtain ⟨f149, ef149, hF⟩ := pl_bd hF
                                                refine pl_astQ2 (r := (some ((n + 49)))) C w hS ef149 dc_T_init_72 (fun H locs w hS => ?_)
                                                refine lv_iinc (k := 0) (v := 23) (lv' := [(3, .int 23), (0, .ref a0), (1, .ref a1), (2, .ref a2)]) hx hb dc_T_init_73 hl rfl rfl (by decide) rfl (fun ls hl => ?_)
                                                refine lv_goto hx hb dc_T_init_76 (tgt := 51) (by decide) ?_
                                                refine lv_iload_n hx hb dc_T_init_51 rfl (lv_at hl 0 rfl) ?_
                                                refine lv_aload_n hx hb dc_T_init_52 rfl (lv_at hl 1 rfl) ?_
                                                obtain ⟨v150, ev150, hF⟩ := pl_bd hF
                                                refine pl_getR C w (ci := 5) in_T rfl (by decide) 3 (by decide) mw_173 ev150 dc_T_init_53 ?_
                                                obtain ⟨v151, ev151, hF⟩ := pl_bd hF
                                                refine pl_len C w ev151 dc_T_init_56 ?_
                                                refine lv_icmp_ge hx hb dc_T_init_57 (tgt := 79) (by decide) (fun hc => ?_) (fun hc => ?_)
                                                · have hF := (if_pos hc).symm.trans hF
                                                  cases hF
                                                · have hF := (if_neg hc).symm.trans hF
                                                  refine lv_aload_n hx hb dc_T_init_60 rfl (lv_at hl 1 rfl) ?_
                                                  obtain ⟨v152, ev152, hF⟩ := pl_bd hF
                                                  refine pl_getR C w (ci := 5) in_T rfl (by decide) 3 (by decide) mw_173 ev152 dc_T_init_61 ?_
                                                  refine lv_iload_n hx hb dc_T_init_64 rfl (lv_at hl 0 rfl) ?_
                                                  obtain ⟨f153, ef153, hF⟩ := pl_bd hF
                                                  refine pl_new (fs := [.null, .int 0, .int 0, .int 0, .int 0, .int 0, .int 0]) C w hS (ci := 3) in_N rfl rty_N_ok (by decide +kernel) mw_139 mw_141 mw_69 (by decide) (by decide) ef153 dc_T_init_65 (fun H w hS => ?_)
                                                  have w : pl_wd D vwCl dA b (n + 52) f153 H := w
                                                  refine lv_dup hx hb dc_T_init_68 rfl ?_
                                                  obtain ⟨q154, eq154, hF⟩ := pl_bd hF
                                                  refine pl_gv (pl_runI (k := 0) C (tm_N_init l D dA tt b (n + 52) eq154) w hS rfl rfl mw_142 mw_143 mw_69 mw_144 rfl (by decide +kernel) ⟨by decide, by decide⟩ rfl hl.1 (Nat.le_of_ble_eq_true rfl) ⟨by decide, by decide⟩ rfl dc_T_init_69) hS (fun H locs w hS => ?_)
                                                  have w : pl_wd D vwCl dA b (n + 53) q154 H := w
                                                  obtain ⟨f155, ef155, hF⟩ := pl_bd hF
                                                  refine pl_astQ2 (r := (some ((n + 51)))) C w hS ef155 dc_T_init_72 (fun H locs w hS => ?_)
                                                  refine lv_iinc (k := 0) (v := 24) (lv' := [(3, .int 24), (0, .ref a0), (1, .ref a1), (2, .ref a2)]) hx hb dc_T_init_73 hl rfl rfl (by decide) rfl (fun ls hl => ?_)
                                                  refine lv_goto hx hb dc_T_init_76 (tgt := 51) (by decide) ?_
                                                  refine lv_iload_n hx hb dc_T_init_51 rfl (lv_at hl 0 rfl) ?_
                                                  refine lv_aload_n hx hb dc_T_init_52 rfl (lv_at hl 1 rfl) ?_
                                                  obtain ⟨v156, ev156, hF⟩ := pl_bd hF
                                                  refine pl_getR C w (ci := 5) in_T rfl (by decide) 3 (by decide) mw_173 ev156 dc_T_init_53 ?_
                                                  obtain ⟨v157, ev157, hF⟩ := pl_bd hF
                                                  refine pl_len C w ev157 dc_T_init_56 ?_
                                                  refine lv_icmp_ge hx hb dc_T_init_57 (tgt := 79) (by decide) (fun hc => ?_) (fun hc => ?_)
                                                  · have hF := (if_pos hc).symm.trans hF
                                                    cases hF
                                                  · have hF := (if_neg hc).symm.trans hF
                                                    refine lv_aload_n hx hb dc_T_init_60 rfl (lv_at hl 1 rfl) ?_
                                                    obtain ⟨v158, ev158, hF⟩ := pl_bd hF
                                                    refine pl_getR C w (ci := 5) in_T rfl (by decide) 3 (by decide) mw_173 ev158 dc_T_init_61 ?_
                                                    refine lv_iload_n hx hb dc_T_init_64 rfl (lv_at hl 0 rfl) ?_
                                                    obtain ⟨f159, ef159, hF⟩ := pl_bd hF
                                                    refine pl_new (fs := [.null, .int 0, .int 0, .int 0, .int 0, .int 0, .int 0]) C w hS (ci := 3) in_N rfl rty_N_ok (by decide +kernel) mw_139 mw_141 mw_69 (by decide) (by decide) ef159 dc_T_init_65 (fun H w hS => ?_)
                                                    have w : pl_wd D vwCl dA b (n + 54) f159 H := w
                                                    refine lv_dup hx hb dc_T_init_68 rfl ?_
                                                    obtain ⟨q160, eq160, hF⟩ := pl_bd hF
                                                    refine pl_gv (pl_runI (k := 0) C (tm_N_init l D dA tt b (n + 54) eq160) w hS rfl rfl mw_142 mw_143 mw_69 mw_144 rfl (by decide +kernel) ⟨by decide, by decide⟩ rfl hl.1 (Nat.le_of_ble_eq_true rfl) ⟨by decide, by decide⟩ rfl dc_T_init_69) hS (fun H locs w hS => ?_)
                                                    have w : pl_wd D vwCl dA b (n + 55) q160 H := w
                                                    obtain ⟨f161, ef161, hF⟩ := pl_bd hF
                                                    refine pl_astQ2 (r := (some ((n + 53)))) C w hS ef161 dc_T_init_72 (fun H locs w hS => ?_)
                                                    refine lv_iinc (k := 0) (v := 25) (lv' := [(3, .int 25), (0, .ref a0), (1, .ref a1), (2, .ref a2)]) hx hb dc_T_init_73 hl rfl rfl (by decide) rfl (fun ls hl => ?_)
                                                    refine lv_goto hx hb dc_T_init_76 (tgt := 51) (by decide) ?_
                                                    refine lv_iload_n hx hb dc_T_init_51 rfl (lv_at hl 0 rfl) ?_
                                                    refine lv_aload_n hx hb dc_T_init_52 rfl (lv_at hl 1 rfl) ?_
                                                    obtain ⟨v162, ev162, hF⟩ := pl_bd hF
                                                    refine pl_getR C w (ci := 5) in_T rfl (by decide) 3 (by decide) mw_173 ev162 dc_T_init_53 ?_
                                                    obtain ⟨v163, ev163, hF⟩ := pl_bd hF
                                                    refine pl_len C w ev163 dc_T_init_56 ?_
                                                    refine lv_icmp_ge hx hb dc_T_init_57 (tgt := 79) (by decide) (fun hc => ?_) (fun hc => ?_)
                                                    · have hF := (if_pos hc).symm.trans hF
                                                      cases hF
                                                    · have hF := (if_neg hc).symm.trans hF
                                                      refine lv_aload_n hx hb dc_T_init_60 rfl (lv_at hl 1 rfl) ?_
                                                      obtain ⟨v164, ev164, hF⟩ := pl_bd hF
                                                      refine pl_getR C w (ci := 5) in_T rfl (by decide) 3 (by decide) mw_173 ev164 dc_T_init_61 ?_
                                                      refine lv_iload_n hx hb dc_T_init_64 rfl (lv_at hl 0 rfl) ?_
                                                      obtain ⟨f165, ef165, hF⟩ := pl_bd hF
                                                      refine pl_new (fs := [.null, .int 0, .int 0, .int 0, .int 0, .int 0, .int 0]) C w hS (ci := 3) in_N rfl rty_N_ok (by decide +kernel) mw_139 mw_141 mw_69 (by decide) (by decide) ef165 dc_T_init_65 (fun H w hS => ?_)
                                                      have w : pl_wd D vwCl dA b (n + 56) f165 H := w
                                                      refine lv_dup hx hb dc_T_init_68 rfl ?_
                                                      obtain ⟨q166, eq166, hF⟩ := pl_bd hF
                                                      refine pl_gv (pl_runI (k := 0) C (tm_N_init l D dA tt b (n + 56) eq166) w hS rfl rfl mw_142 mw_143 mw_69 mw_144 rfl (by decide +kernel) ⟨by decide, by decide⟩ rfl hl.1 (Nat.le_of_ble_eq_true rfl) ⟨by decide, by decide⟩ rfl dc_T_init_69) hS (fun H locs w hS => ?_)
                                                      have w : pl_wd D vwCl dA b (n + 57) q166 H := w
                                                      obtain ⟨f167, ef167, hF⟩ := pl_bd hF
                                                      refine pl_astQ2 (r := (some ((n + 55)))) C w hS ef167 dc_T_init_72 (fun H locs w hS => ?_)
                                                      refine lv_iinc (k := 0) (v := 26) (lv' := [(3, .int 26), (0, .ref a0), (1, .ref a1), (2, .ref a2)]) hx hb dc_T_init_73 hl rfl rfl (by decide) rfl (fun ls hl => ?_)
                                                      refine lv_goto hx hb dc_T_init_76 (tgt := 51) (by decide) ?_
                                                      refine lv_iload_n hx hb dc_T_init_51 rfl (lv_at hl 0 rfl) ?_
                                                      refine lv_aload_n hx hb dc_T_init_52 rfl (lv_at hl 1 rfl) ?_
                                                      obtain ⟨v168, ev168, hF⟩ := pl_bd hF
                                                      refine pl_getR C w (ci := 5) in_T rfl (by decide) 3 (by decide) mw_173 ev168 dc_T_init_53 ?_
                                                      obtain ⟨v169, ev169, hF⟩ := pl_bd hF
                                                      refine pl_len C w ev169 dc_T_init_56 ?_
                                                      refine lv_icmp_ge hx hb dc_T_init_57 (tgt := 79) (by decide) (fun hc => ?_) (fun hc => ?_)
                                                      · have hF := (if_pos hc).symm.trans hF
                                                        cases hF
                                                      · have hF := (if_neg hc).symm.trans hF
                                                        refine lv_aload_n hx hb dc_T_init_60 rfl (lv_at hl 1 rfl) ?_
                                                        obtain ⟨v170, ev170, hF⟩ := pl_bd hF
                                                        refine pl_getR C w (ci := 5) in_T rfl (by decide) 3 (by decide) mw_173 ev170 dc_T_init_61 ?_
                                                        refine lv_iload_n hx hb dc_T_init_64 rfl (lv_at hl 0 rfl) ?_
                                                        obtain ⟨f171, ef171, hF⟩ := pl_bd hF
                                                        refine pl_new (fs := [.null, .int 0, .int 0, .int 0, .int 0, .int 0, .int 0]) C w hS (ci := 3) in_N rfl rty_N_ok (by decide +kernel) mw_139 mw_141 mw_69 (by decide) (by decide) ef171 dc_T_init_65 (fun H w hS => ?_)
                                                        have w : pl_wd D vwCl dA b (n + 58) f171 H := w
                                                        refine lv_dup hx hb dc_T_init_68 rfl ?_
                                                        obtain ⟨q172, eq172, hF⟩ := pl_bd hF
                                                        refine pl_gv (pl_runI (k := 0) C (tm_N_init l D dA tt b (n + 58) eq172) w hS rfl rfl mw_142 mw_143 mw_69 mw_144 rfl (by decide +kernel) ⟨by decide, by decide⟩ rfl hl.1 (Nat.le_of_ble_eq_true rfl) ⟨by decide, by decide⟩ rfl dc_T_init_69) hS (fun H locs w hS => ?_)
                                                        have w : pl_wd D vwCl dA b (n + 59) q172 H := w
                                                        obtain ⟨f173, ef173, hF⟩ := pl_bd hF
                                                        refine pl_astQ2 (r := (some ((n + 57)))) C w hS ef173 dc_T_init_72 (fun H locs w hS => ?_)
                                                        refine lv_iinc (k := 0) (v := 27) (lv' := [(3, .int 27), (0, .ref a0), (1, .ref a1), (2, .ref a2)]) hx hb dc_T_init_73 hl rfl rfl (by decide) rfl (fun ls hl => ?_)
                                                        refine lv_goto hx hb dc_T_init_76 (tgt := 51) (by decide) ?_
                                                        refine lv_iload_n hx hb dc_T_init_51 rfl (lv_at hl 0 rfl) ?_
                                                        refine lv_aload_n hx hb dc_T_init_52 rfl (lv_at hl 1 rfl) ?_
                                                        obtain ⟨v174, ev174, hF⟩ := pl_bd hF
                                                        refine pl_getR C w (ci := 5) in_T rfl (by decide) 3 (by decide) mw_173 ev174 dc_T_init_53 ?_
                                                        obtain ⟨v175, ev175, hF⟩ := pl_bd hF
                                                        refine pl_len C w ev175 dc_T_init_56 ?_
                                                        refine lv_icmp_ge hx hb dc_T_init_57 (tgt := 79) (by decide) (fun hc => ?_) (fun hc => ?_)
                                                        · have hF := (if_pos hc).symm.trans hF
                                                          cases hF
                                                        · have hF := (if_neg hc).symm.trans hF
                                                          refine lv_aload_n hx hb dc_T_init_60 rfl (lv_at hl 1 rfl) ?_
                                                          obtain ⟨v176, ev176, hF⟩ := pl_bd hF
                                                          refine pl_getR C w (ci := 5) in_T rfl (by decide) 3 (by decide) mw_173 ev176 dc_T_init_61 ?_
                                                          refine lv_iload_n hx hb dc_T_init_64 rfl (lv_at hl 0 rfl) ?_
                                                          obtain ⟨f177, ef177, hF⟩ := pl_bd hF
                                                          refine pl_new (fs := [.null, .int 0, .int 0, .int 0, .int 0, .int 0, .int 0]) C w hS (ci := 3) in_N rfl rty_N_ok (by decide +kernel) mw_139 mw_141 mw_69 (by decide) (by decide) ef177 dc_T_init_65 (fun H w hS => ?_)
                                                          have w : pl_wd D vwCl dA b (n + 60) f177 H := w
                                                          refine lv_dup hx hb dc_T_init_68 rfl ?_
                                                          obtain ⟨q178, eq178, hF⟩ := pl_bd hF
                                                          refine pl_gv (pl_runI (k := 0) C (tm_N_init l D dA tt b (n + 60) eq178) w hS rfl rfl mw_142 mw_143 mw_69 mw_144 rfl (by decide +kernel) ⟨by decide, by decide⟩ rfl hl.1 (Nat.le_of_ble_eq_true rfl) ⟨by decide, by decide⟩ rfl dc_T_init_69) hS (fun H locs w hS => ?_)
                                                          have w : pl_wd D vwCl dA b (n + 61) q178 H := w
                                                          obtain ⟨f179, ef179, hF⟩ := pl_bd hF
                                                          refine pl_astQ2 (r := (some ((n + 59)))) C w hS ef179 dc_T_init_72 (fun H locs w hS => ?_)
                                                          refine lv_iinc (k := 0) (v := 28) (lv' := [(3, .int 28), (0, .ref a0), (1, .ref a1), (2, .ref a2)]) hx hb dc_T_init_73 hl rfl rfl (by decide) rfl (fun ls hl => ?_)
                                                          refine lv_goto hx hb dc_T_init_76 (tgt := 51) (by decide) ?_
                                                          refine lv_iload_n hx hb dc_T_init_51 rfl (lv_at hl 0 rfl) ?_
                                                          refine lv_aload_n hx hb dc_T_init_52 rfl (lv_at hl 1 rfl) ?_
                                                          obtain ⟨v180, ev180, hF⟩ := pl_bd hF
                                                          refine pl_getR C w (ci := 5) in_T rfl (by decide) 3 (by decide) mw_173 ev180 dc_T_init_53 ?_
                                                          obtain ⟨v181, ev181, hF⟩ := pl_bd hF
                                                          refine pl_len C w ev181 dc_T_init_56 ?_
                                                          refine lv_icmp_ge hx hb dc_T_init_57 (tgt := 79) (by decide) (fun hc => ?_) (fun hc => ?_)
                                                          · have hF := (if_pos hc).symm.trans hF
                                                            cases hF
                                                          · have hF := (if_neg hc).symm.trans hF
                                                            refine lv_aload_n hx hb dc_T_init_60 rfl (lv_at hl 1 rfl) ?_
                                                            obtain ⟨v182, ev182, hF⟩ := pl_bd hF
                                                            refine pl_getR C w (ci := 5) in_T rfl (by decide) 3 (by decide) mw_173 ev182 dc_T_init_61 ?_
                                                            refine lv_iload_n hx hb dc_T_init_64 rfl (lv_at hl 0 rfl) ?_
                                                            obtain ⟨f183, ef183, hF⟩ := pl_bd hF
                                                            refine pl_new (fs := [.null, .int 0, .int 0, .int 0, .int 0, .int 0, .int 0]) C w hS (ci := 3) in_N rfl rty_N_ok (by decide +kernel) mw_139 mw_141 mw_69 (by decide) (by decide) ef183 dc_T_init_65 (fun H w hS => ?_)
                                                            have w : pl_wd D vwCl dA b (n + 62) f183 H := w
                                                            refine lv_dup hx hb dc_T_init_68 rfl ?_
                                                            obtain ⟨q184, eq184, hF⟩ := pl_bd hF
                                                            refine pl_gv (pl_runI (k := 0) C (tm_N_init l D dA tt b (n + 62) eq184) w hS rfl rfl mw_142 mw_143 mw_69 mw_144 rfl (by decide +kernel) ⟨by decide, by decide⟩ rfl hl.1 (Nat.le_of_ble_eq_true rfl) ⟨by decide, by decide⟩ rfl dc_T_init_69) hS (fun H locs w hS => ?_)
                                                            have w : pl_wd D vwCl dA b (n + 63) q184 H := w
                                                            obtain ⟨f185, ef185, hF⟩ := pl_bd hF
                                                            refine pl_astQ2 (r := (some ((n + 61)))) C w hS ef185 dc_T_init_72 (fun H locs w hS => ?_)
                                                            refine lv_iinc (k := 0) (v := 29) (lv' := [(3, .int 29), (0, .ref a0), (1, .ref a1), (2, .ref a2)]) hx hb dc_T_init_73 hl rfl rfl (by decide) rfl (fun ls hl => ?_)
                                                            refine lv_goto hx hb dc_T_init_76 (tgt := 51) (by decide) ?_
                                                            refine lv_iload_n hx hb dc_T_init_51 rfl (lv_at hl 0 rfl) ?_
                                                            refine lv_aload_n hx hb dc_T_init_52 rfl (lv_at hl 1 rfl) ?_
                                                            obtain ⟨v186, ev186, hF⟩ := pl_bd hF
                                                            refine pl_getR C w (ci := 5) in_T rfl (by decide) 3 (by decide) mw_173 ev186 dc_T_init_53 ?_
                                                            obtain ⟨v187, ev187, hF⟩ := pl_bd hF
                                                            refine pl_len C w ev187 dc_T_init_56 ?_
                                                            refine lv_icmp_ge hx hb dc_T_init_57 (tgt := 79) (by decide) (fun hc => ?_) (fun hc => ?_)
                                                            · have hF := (if_pos hc).symm.trans hF
                                                              cases hF
                                                            · have hF := (if_neg hc).symm.trans hF
                                                              refine lv_aload_n hx hb dc_T_init_60 rfl (lv_at hl 1 rfl) ?_
                                                              obtain ⟨v188, ev188, hF⟩ := pl_bd hF
                                                              refine pl_getR C w (ci := 5) in_T rfl (by decide) 3 (by decide) mw_173 ev188 dc_T_init_61 ?_
                                                              refine lv_iload_n hx hb dc_T_init_64 rfl (lv_at hl 0 rfl) ?_
                                                              obtain ⟨f189, ef189, hF⟩ := pl_bd hF
                                                              refine pl_new (fs := [.null, .int 0, .int 0, .int 0, .int 0, .int 0, .int 0]) C w hS (ci := 3) in_N rfl rty_N_ok (by decide +kernel) mw_139 mw_141 mw_69 (by decide) (by decide) ef189 dc_T_init_65 (fun H w hS => ?_)
                                                              have w : pl_wd D vwCl dA b (n + 64) f189 H := w
                                                              refine lv_dup hx hb dc_T_init_68 rfl ?_
                                                              obtain ⟨q190, eq190, hF⟩ := pl_bd hF
                                                              refine pl_gv (pl_runI (k := 0) C (tm_N_init l D dA tt b (n + 64) eq190) w hS rfl rfl mw_142 mw_143 mw_69 mw_144 rfl (by decide +kernel) ⟨by decide, by decide⟩ rfl hl.1 (Nat.le_of_ble_eq_true rfl) ⟨by decide, by decide⟩ rfl dc_T_init_69) hS (fun H locs w hS => ?_)
                                                              have w : pl_wd D vwCl dA b (n + 65) q190 H := w
                                                              obtain ⟨f191, ef191, hF⟩ := pl_bd hF
                                                              refine pl_astQ2 (r := (some ((n + 63)))) C w hS ef191 dc_T_init_72 (fun H locs w hS => ?_)
                                                              refine lv_iinc (k := 0) (v := 30) (lv' := [(3, .int 30), (0, .ref a0), (1, .ref a1), (2, .ref a2)]) hx hb dc_T_init_73 hl rfl rfl (by decide) rfl (fun ls hl => ?_)
                                                              refine lv_goto hx hb dc_T_init_76 (tgt := 51) (by decide) ?_
                                                              refine lv_iload_n hx hb dc_T_init_51 rfl (lv_at hl 0 rfl) ?_
                                                              refine lv_aload_n hx hb dc_T_init_52 rfl (lv_at hl 1 rfl) ?_
                                                              obtain ⟨v192, ev192, hF⟩ := pl_bd hF
                                                              refine pl_getR C w (ci := 5) in_T rfl (by decide) 3 (by decide) mw_173 ev192 dc_T_init_53 ?_
                                                              obtain ⟨v193, ev193, hF⟩ := pl_bd hF
                                                              refine pl_len C w ev193 dc_T_init_56 ?_
                                                              refine lv_icmp_ge hx hb dc_T_init_57 (tgt := 79) (by decide) (fun hc => ?_) (fun hc => ?_)
                                                              · have hF := (if_pos hc).symm.trans hF
                                                                cases hF
                                                              · have hF := (if_neg hc).symm.trans hF
                                                                refine lv_aload_n hx hb dc_T_init_60 rfl (lv_at hl 1 rfl) ?_
                                                                obtain ⟨v194, ev194, hF⟩ := pl_bd hF
                                                                refine pl_getR C w (ci := 5) in_T rfl (by decide) 3 (by decide) mw_173 ev194 dc_T_init_61 ?_
                                                                refine lv_iload_n hx hb dc_T_init_64 rfl (lv_at hl 0 rfl) ?_
                                                                obtain ⟨f195, ef195, hF⟩ := pl_bd hF
                                                                refine pl_new (fs := [.null, .int 0, .int 0, .int 0, .int 0, .int 0, .int 0]) C w hS (ci := 3) in_N rfl rty_N_ok (by decide +kernel) mw_139 mw_141 mw_69 (by decide) (by decide) ef195 dc_T_init_65 (fun H w hS => ?_)
                                                                have w : pl_wd D vwCl dA b (n + 66) f195 H := w
                                                                refine lv_dup hx hb dc_T_init_68 rfl ?_
                                                                obtain ⟨q196, eq196, hF⟩ := pl_bd hF
                                                                refine pl_gv (pl_runI (k := 0) C (tm_N_init l D dA tt b (n + 66) eq196) w hS rfl rfl mw_142 mw_143 mw_69 mw_144 rfl (by decide +kernel) ⟨by decide, by decide⟩ rfl hl.1 (Nat.le_of_ble_eq_true rfl) ⟨by decide, by decide⟩ rfl dc_T_init_69) hS (fun H locs w hS => ?_)
                                                                have w : pl_wd D vwCl dA b (n + 67) q196 H := w
                                                                obtain ⟨f197, ef197, hF⟩ := pl_bd hF
                                                                refine pl_astQ2 (r := (some ((n + 65)))) C w hS ef197 dc_T_init_72 (fun H locs w hS => ?_)
                                                                refine lv_iinc (k := 0) (v := 31) (lv' := [(3, .int 31), (0, .ref a0), (1, .ref a1), (2, .ref a2)]) hx hb dc_T_init_73 hl rfl rfl (by decide) rfl (fun ls hl => ?_)
                                                                refine lv_goto hx hb dc_T_init_76 (tgt := 51) (by decide) ?_
                                                                refine lv_iload_n hx hb dc_T_init_51 rfl (lv_at hl 0 rfl) ?_
                                                                refine lv_aload_n hx hb dc_T_init_52 rfl (lv_at hl 1 rfl) ?_
                                                                obtain ⟨v198, ev198, hF⟩ := pl_bd hF
                                                                refine pl_getR C w (ci := 5) in_T rfl (by decide) 3 (by decide) mw_173 ev198 dc_T_init_53 ?_
                                                                obtain ⟨v199, ev199, hF⟩ := pl_bd hF
                                                                refine pl_len C w ev199 dc_T_init_56 ?_
                                                                refine lv_icmp_ge hx hb dc_T_init_57 (tgt := 79) (by decide) (fun hc => ?_) (fun hc => ?_)
                                                                · have hF := (if_pos hc).symm.trans hF
                                                                  cases hF
                                                                · have hF := (if_neg hc).symm.trans hF
                                                                  refine lv_aload_n hx hb dc_T_init_60 rfl (lv_at hl 1 rfl) ?_
                                                                  obtain ⟨v200, ev200, hF⟩ := pl_bd hF
                                                                  refine pl_getR C w (ci := 5) in_T rfl (by decide) 3 (by decide) mw_173 ev200 dc_T_init_61 ?_
                                                                  refine lv_iload_n hx hb dc_T_init_64 rfl (lv_at hl 0 rfl) ?_
                                                                  obtain ⟨f201, ef201, hF⟩ := pl_bd hF
                                                                  refine pl_new (fs := [.null, .int 0, .int 0, .int 0, .int 0, .int 0, .int 0]) C w hS (ci := 3) in_N rfl rty_N_ok (by decide +kernel) mw_139 mw_141 mw_69 (by decide) (by decide) ef201 dc_T_init_65 (fun H w hS => ?_)
                                                                  have w : pl_wd D vwCl dA b (n + 68) f201 H := w
                                                                  refine lv_dup hx hb dc_T_init_68 rfl ?_
                                                                  obtain ⟨q202, eq202, hF⟩ := pl_bd hF
                                                                  refine pl_gv (pl_runI (k := 0) C (tm_N_init l D dA tt b (n + 68) eq202) w hS rfl rfl mw_142 mw_143 mw_69 mw_144 rfl (by decide +kernel) ⟨by decide, by decide⟩ rfl hl.1 (Nat.le_of_ble_eq_true rfl) ⟨by decide, by decide⟩ rfl dc_T_init_69) hS (fun H locs w hS => ?_)
                                                                  have w : pl_wd D vwCl dA b (n + 69) q202 H := w
                                                                  obtain ⟨f203, ef203, hF⟩ := pl_bd hF
                                                                  refine pl_astQ2 (r := (some ((n + 67)))) C w hS ef203 dc_T_init_72 (fun H locs w hS => ?_)
                                                                  refine lv_iinc (k := 0) (v := 32) (lv' := [(3, .int 32), (0, .ref a0), (1, .ref a1), (2, .ref a2)]) hx hb dc_T_init_73 hl rfl rfl (by decide) rfl (fun ls hl => ?_)
                                                                  refine lv_goto hx hb dc_T_init_76 (tgt := 51) (by decide) ?_
                                                                  refine lv_iload_n hx hb dc_T_init_51 rfl (lv_at hl 0 rfl) ?_
                                                                  refine lv_aload_n hx hb dc_T_init_52 rfl (lv_at hl 1 rfl) ?_
                                                                  obtain ⟨v204, ev204, hF⟩ := pl_bd hF
                                                                  refine pl_getR C w (ci := 5) in_T rfl (by decide) 3 (by decide) mw_173 ev204 dc_T_init_53 ?_
                                                                  obtain ⟨v205, ev205, hF⟩ := pl_bd hF
                                                                  refine pl_len C w ev205 dc_T_init_56 ?_
                                                                  refine lv_icmp_ge hx hb dc_T_init_57 (tgt := 79) (by decide) (fun hc => ?_) (fun hc => ?_)
                                                                  · have hF := (if_pos hc).symm.trans hF
                                                                    cases hF
                                                                  · have hF := (if_neg hc).symm.trans hF
                                                                    refine lv_aload_n hx hb dc_T_init_60 rfl (lv_at hl 1 rfl) ?_
                                                                    obtain ⟨v206, ev206, hF⟩ := pl_bd hF
                                                                    refine pl_getR C w (ci := 5) in_T rfl (by decide) 3 (by decide) mw_173 ev206 dc_T_init_61 ?_
                                                                    refine lv_iload_n hx hb dc_T_init_64 rfl (lv_at hl 0 rfl) ?_
                                                                    obtain ⟨f207, ef207, hF⟩ := pl_bd hF
                                                                    refine pl_new (fs := [.null, .int 0, .int 0, .int 0, .int 0, .int 0, .int 0]) C w hS (ci := 3) in_N rfl rty_N_ok (by decide +kernel) mw_139 mw_141 mw_69 (by decide) (by decide) ef207 dc_T_init_65 (fun H w hS => ?_)
                                                                    have w : pl_wd D vwCl dA b (n + 70) f207 H := w
                                                                    refine lv_dup hx hb dc_T_init_68 rfl ?_
                                                                    obtain ⟨q208, eq208, hF⟩ := pl_bd hF
                                                                    refine pl_gv (pl_runI (k := 0) C (tm_N_init l D dA tt b (n + 70) eq208) w hS rfl rfl mw_142 mw_143 mw_69 mw_144 rfl (by decide +kernel) ⟨by decide, by decide⟩ rfl hl.1 (Nat.le_of_ble_eq_true rfl) ⟨by decide, by decide⟩ rfl dc_T_init_69) hS (fun H locs w hS => ?_)
                                                                    have w : pl_wd D vwCl dA b (n + 71) q208 H := w
                                                                    obtain ⟨f209, ef209, hF⟩ := pl_bd hF
                                                                    refine pl_astQ2 (r := (some ((n + 69)))) C w hS ef209 dc_T_init_72 (fun H locs w hS => ?_)
                                                                    refine lv_iinc (k := 0) (v := 33) (lv' := [(3, .int 33), (0, .ref a0), (1, .ref a1), (2, .ref a2)]) hx hb dc_T_init_73 hl rfl rfl (by decide) rfl (fun ls hl => ?_)
                                                                    refine lv_goto hx hb dc_T_init_76 (tgt := 51) (by decide) ?_
                                                                    refine lv_iload_n hx hb dc_T_init_51 rfl (lv_at hl 0 rfl) ?_
                                                                    refine lv_aload_n hx hb dc_T_init_52 rfl (lv_at hl 1 rfl) ?_
                                                                    obtain ⟨v210, ev210, hF⟩ := pl_bd hF
                                                                    refine pl_getR C w (ci := 5) in_T rfl (by decide) 3 (by decide) mw_173 ev210 dc_T_init_53 ?_
                                                                    obtain ⟨v211, ev211, hF⟩ := pl_bd hF
                                                                    refine pl_len C w ev211 dc_T_init_56 ?_
                                                                    refine lv_icmp_ge hx hb dc_T_init_57 (tgt := 79) (by decide) (fun hc => ?_) (fun hc => ?_)
                                                                    · have hF := (if_pos hc).symm.trans hF
                                                                      cases hF
                                                                    · have hF := (if_neg hc).symm.trans hF
                                                                      refine lv_aload_n hx hb dc_T_init_60 rfl (lv_at hl 1 rfl) ?_
                                                                      obtain ⟨v212, ev212, hF⟩ := pl_bd hF
                                                                      refine pl_getR C w (ci := 5) in_T rfl (by decide) 3 (by decide) mw_173 ev212 dc_T_init_61 ?_
                                                                      refine lv_iload_n hx hb dc_T_init_64 rfl (lv_at hl 0 rfl) ?_
                                                                      obtain ⟨f213, ef213, hF⟩ := pl_bd hF
                                                                      refine pl_new (fs := [.null, .int 0, .int 0, .int 0, .int 0, .int 0, .int 0]) C w hS (ci := 3) in_N rfl rty_N_ok (by decide +kernel) mw_139 mw_141 mw_69 (by decide) (by decide) ef213 dc_T_init_65 (fun H w hS => ?_)
                                                                      have w : pl_wd D vwCl dA b (n + 72) f213 H := w
                                                                      refine lv_dup hx hb dc_T_init_68 rfl ?_
                                                                      obtain ⟨q214, eq214, hF⟩ := pl_bd hF
                                                                      refine pl_gv (pl_runI (k := 0) C (tm_N_init l D dA tt b (n + 72) eq214) w hS rfl rfl mw_142 mw_143 mw_69 mw_144 rfl (by decide +kernel) ⟨by decide, by decide⟩ rfl hl.1 (Nat.le_of_ble_eq_true rfl) ⟨by decide, by decide⟩ rfl dc_T_init_69) hS (fun H locs w hS => ?_)
                                                                      have w : pl_wd D vwCl dA b (n + 73) q214 H := w
                                                                      obtain ⟨f215, ef215, hF⟩ := pl_bd hF
                                                                      refine pl_astQ2 (r := (some ((n + 71)))) C w hS ef215 dc_T_init_72 (fun H locs w hS => ?_)
                                                                      refine lv_iinc (k := 0) (v := 34) (lv' := [(3, .int 34), (0, .ref a0), (1, .ref a1), (2, .ref a2)]) hx hb dc_T_init_73 hl rfl rfl (by decide) rfl (fun ls hl => ?_)
                                                                      refine lv_goto hx hb dc_T_init_76 (tgt := 51) (by decide) ?_
                                                                      refine lv_iload_n hx hb dc_T_init_51 rfl (lv_at hl 0 rfl) ?_
                                                                      refine lv_aload_n hx hb dc_T_init_52 rfl (lv_at hl 1 rfl) ?_
                                                                      obtain ⟨v216, ev216, hF⟩ := pl_bd hF
                                                                      refine pl_getR C w (ci := 5) in_T rfl (by decide) 3 (by decide) mw_173 ev216 dc_T_init_53 ?_
                                                                      obtain ⟨v217, ev217, hF⟩ := pl_bd hF
                                                                      refine pl_len C w ev217 dc_T_init_56 ?_
                                                                      refine lv_icmp_ge hx hb dc_T_init_57 (tgt := 79) (by decide) (fun hc => ?_) (fun hc => ?_)
                                                                      · have hF := (if_pos hc).symm.trans hF
                                                                        refine lv_aload_n hx hb dc_T_init_79 rfl (lv_at hl 1 rfl) ?_
                                                                        refine lv_aload_n hx hb dc_T_init_80 rfl (lv_at hl 1 rfl) ?_
                                                                        obtain ⟨v218, ev218, hF⟩ := pl_bd hF
                                                                        refine pl_getR C w (ci := 5) in_T rfl (by decide) 3 (by decide) mw_173 ev218 dc_T_init_81 ?_
                                                                        refine lv_iconst (v := 0) hx hb dc_T_init_84 (by decide) ?_
                                                                        obtain ⟨r219, er219, hF⟩ := pl_bd hF
                                                                        refine pl_aldQ2 C w er219 dc_T_init_85 ?_
                                                                        obtain ⟨a220, hz, hG⟩ := pl_bd hF
                                                                        clear hF
                                                                        subst hz
                                                                        have hF := hG
                                                                        clear hG
                                                                        have hl : lv_has ls 4 [(3, .int 34), (0, .ref a0), (1, .ref a1), (2, .ref a2)] := hl
                                                                        obtain ⟨f221, ef221, hF⟩ := pl_bd hF
                                                                        refine pl_put C w hS (ci := 5) in_T rfl (by decide) rty_T_ok rnm_T 7 (by decide) mw_177 rfl rfl rfl ef221 dc_T_init_86 (fun H locs w hS => ?_)
                                                                        refine lv_aload_n hx hb dc_T_init_89 rfl (lv_at hl 1 rfl) ?_
                                                                        refine lv_iconst (v := 1) hx hb dc_T_init_90 (by decide) ?_
                                                                        obtain ⟨f222, ef222, hF⟩ := pl_bd hF
                                                                        refine pl_put C w hS (ci := 5) in_T rfl (by decide) rty_T_ok rnm_T 8 (by decide) mw_178 rfl rfl rfl ef222 dc_T_init_91 (fun H locs w hS => ?_)
                                                                        exact pl_retVw C w hS hF dc_T_init_94
                                                                      · have hF := (if_neg hc).symm.trans hF
                                                                        cases hF
set_option maxHeartbeats 4000000 in
set_option maxRecDepth 100000 in
theorem tm_T_init (l : Launch) (D : va_G) (dA : Nat → ClassId) (tt : Nat → Nat) (b n : Nat) {f : pl_H} {a0 : Nat} {a1 : Nat} {a2 : Nat} {f' : pl_H} (hF : fn_T_init n f a0 a1 a2 = some f') : Met l my_T_init (Cond.code my_T_init co_T_init 4 none :: pl_tb) rm_T_init (va_Pc [.ref a0, .ref a1, .ref a2] (pl_pre D dA tt b n f)) (pl_qV D dA tt b (n + 73) f') 73 3030 (pl_A b) := by
  refine Met.ofW (cc := co_T_init) (maxL := 4) (ret := none) (by decide) rfl ?_
  intro p e s m args below meth c s₁ B hml hv
  obtain ⟨rfl, w, hK⟩ := hv
  have C : pl_C p s m _ meth c co_T_init 4 rn_T none "<init>" D dA tt b := ⟨B.exec, B.bytes, hml, B.returns, findClass_of_methodNamed B.named, B.notSynchronized, fun w hw => atoms_spec (ws := Cond.code my_T_init co_T_init 4 none :: pl_tb) B.pre w (List.mem_cons_of_mem _ hw), (name_of_methodNamed B.named B.method).1, hK⟩
  have hl := lv_entry ([.ref a0, .ref a1, .ref a2]) (n := 4) (Nat.le_of_ble_eq_true rfl)
  rw [lg_entry_eq]
  generalize (lg_sl ([.ref a0, .ref a1, .ref a2]) ++ List.replicate (4 - (lg_sl ([.ref a0, .ref a1, .ref a2])).length) Slot.unset).toArray = ls at hl ⊢
  have hl : lv_has ls 4 [(0, .ref a0), (1, .ref a1), (2, .ref a2)] := hl
  exact tl_T_init C hF w va_S.rf hl
def rm_P_init : Room := { frames := 1, cells := 7, slots := 2030, locals := 60 }
def fn_P_init (n : Nat) (f : pl_H) (a0 : Nat) : Option (pl_H) := (pl_mn f n 5 404).bind fun f1 => (pl_pV f1 a0 4 0 (.ref n)).bind fun f2 => (pl_mk f2 (n + 6) (.inl (0, 5, .inl (fun _ => 0)))).bind fun f3 => (pl_pV f3 a0 4 1 (.ref ((n + 6)))).bind fun f4 => some f4
set_option maxHeartbeats 4000000 in
set_option maxRecDepth 100000 in
theorem tl_P_init {p : Program} {l : Launch} {e : Env} {s : State} {m : MethodId} {args : Array Value} {below : List Frame} {meth : Method} {c : Code} {D : va_G} {dA : Nat → ClassId} {tt : Nat → Nat} {b n : Nat} (C : pl_C p s m args meth c co_P_init 1 rn_P none "<init>" D dA tt b) {f' : pl_H} {f : pl_H} {a0 : Nat} {H : Heap} {locs : List Loc} {ls : Array Slot} (hF : fn_P_init n f a0 = some f') (w : pl_wd D vwCl dA b n f H) (hS : va_S (pl_A b) s.heap H locs) (hl : lv_has ls 1 [(0, .ref a0)]) : W p l e rm_P_init s m args below meth c H locs 0 0 (MQ below (pl_qV D dA tt b (n + 7) f') args s 7 2030 (pl_A b)) (F0 m 0 ls []) := by
  have hx := C.1
  have hb := C.2.1
  have hown := C.2.2.2.2.1
  have hts := C.2.2.2.2.2.2.1
  unfold fn_P_init at hF
  refine lv_aload_n hx hb dc_P_init_0 rfl (lv_at hl 0 rfl) ?_
  refine pl_objI C mw_203 mw_81 mw_82 hl.1 (by decide) (Nat.le_of_ble_eq_true rfl) dc_P_init_1 ?_
  refine lv_aload_n hx hb dc_P_init_4 rfl (lv_at hl 0 rfl) ?_
  refine lv_iconst (v := 5) hx hb dc_P_init_5 (by decide) ?_
  refine lv_sipush (v := 404) hx hb dc_P_init_6 (by decide) ?_
  obtain ⟨f1, ef1, hF⟩ := pl_bd hF
  refine pl_mna (N := 5) (K := 404) C w hS mw_204 mw_102 (by decide) (by decide) (by decide) (by decide) (by decide) (by decide) (by decide) (by decide) (by decide) ef1 dc_P_init_9 (fun H w hS => ?_)
  have w : pl_wd D vwCl dA b (n + 6) f1 H := w
  obtain ⟨f2, ef2, hF⟩ := pl_bd hF
  refine pl_putF C w hS (ci := 4) in_P rfl (by decide) rty_P_ok rnm_P 0 (by decide) mw_206 rfl rfl rfl rfl ef2 dc_P_init_13 (fun H locs w hS => ?_)
  refine lv_aload_n hx hb dc_P_init_16 rfl (lv_at hl 0 rfl) ?_
  refine lv_iconst (v := 5) hx hb dc_P_init_17 (by decide) ?_
  obtain ⟨f3, ef3, hF⟩ := pl_bd hF
  refine pl_newI C w hS mw_102 (by decide) (by decide) (by decide) (by decide) (by decide) ef3 dc_P_init_18 (fun H w hS => ?_)
  have w : pl_wd D vwCl dA b (n + 7) f3 H := w
  obtain ⟨f4, ef4, hF⟩ := pl_bd hF
  refine pl_putF C w hS (ci := 4) in_P rfl (by decide) rty_P_ok rnm_P 1 (by decide) mw_207 rfl rfl rfl rfl ef4 dc_P_init_20 (fun H locs w hS => ?_)
  exact pl_retVw C w hS hF dc_P_init_23
set_option maxHeartbeats 4000000 in
set_option maxRecDepth 100000 in
theorem tm_P_init (l : Launch) (D : va_G) (dA : Nat → ClassId) (tt : Nat → Nat) (b n : Nat) {f : pl_H} {a0 : Nat} {f' : pl_H} (hF : fn_P_init n f a0 = some f') : Met l my_P_init (Cond.code my_P_init co_P_init 1 none :: pl_tb) rm_P_init (va_Pc [.ref a0] (pl_pre D dA tt b n f)) (pl_qV D dA tt b (n + 7) f') 7 2030 (pl_A b) := by
  refine Met.ofW (cc := co_P_init) (maxL := 1) (ret := none) (by decide) rfl ?_
  intro p e s m args below meth c s₁ B hml hv
  obtain ⟨rfl, w, hK⟩ := hv
  have C : pl_C p s m _ meth c co_P_init 1 rn_P none "<init>" D dA tt b := ⟨B.exec, B.bytes, hml, B.returns, findClass_of_methodNamed B.named, B.notSynchronized, fun w hw => atoms_spec (ws := Cond.code my_P_init co_P_init 1 none :: pl_tb) B.pre w (List.mem_cons_of_mem _ hw), (name_of_methodNamed B.named B.method).1, hK⟩
  have hl := lv_entry ([.ref a0]) (n := 1) (Nat.le_of_ble_eq_true rfl)
  rw [lg_entry_eq]
  generalize (lg_sl ([.ref a0]) ++ List.replicate (1 - (lg_sl ([.ref a0])).length) Slot.unset).toArray = ls at hl ⊢
  have hl : lv_has ls 1 [(0, .ref a0)] := hl
  exact tl_P_init C hF w va_S.rf hl
def rm_W_init : Room := { frames := 1, cells := 0, slots := 0, locals := 60 }
def fn_W_init (f : pl_H) (a0 : Nat) (a1 : Nat) (a2 : Nat) : Option (pl_H) := (pl_pV f a0 6 0 (.ref a1)).bind fun f1 => (pl_pV f1 a0 6 1 (.ref a2)).bind fun f2 => (pl_is f2 a1 4).bind fun u4 => (fn_P_rowOf f2 a1 0).bind fun v3 => (pl_pV f2 a0 6 4 (.ref v3)).bind fun f5 => some f5
set_option maxHeartbeats 4000000 in
set_option maxRecDepth 100000 in
theorem tl_W_init {p : Program} {l : Launch} {e : Env} {s : State} {m : MethodId} {args : Array Value} {below : List Frame} {meth : Method} {c : Code} {D : va_G} {dA : Nat → ClassId} {tt : Nat → Nat} {b n : Nat} (C : pl_C p s m args meth c co_W_init 3 rn_W none "<init>" D dA tt b) {f' : pl_H} {f : pl_H} {a0 : Nat} {a1 : Nat} {a2 : Nat} {H : Heap} {locs : List Loc} {ls : Array Slot} (hF : fn_W_init f a0 a1 a2 = some f') (w : pl_wd D vwCl dA b n f H) (hS : va_S (pl_A b) s.heap H locs) (hl : lv_has ls 3 [(0, .ref a0), (1, .ref a1), (2, .ref a2)]) : W p l e rm_W_init s m args below meth c H locs 0 0 (MQ below (pl_qV D dA tt b n f') args s 0 0 (pl_A b)) (F0 m 0 ls []) := by
  have hx := C.1
  have hb := C.2.1
  have hown := C.2.2.2.2.1
  have hts := C.2.2.2.2.2.2.1
  unfold fn_W_init at hF
  refine lv_aload_n hx hb dc_W_init_0 rfl (lv_at hl 0 rfl) ?_
  refine pl_objI C mw_221 mw_81 mw_82 hl.1 (by decide) (Nat.le_of_ble_eq_true rfl) dc_W_init_1 ?_
  refine lv_aload_n hx hb dc_W_init_4 rfl (lv_at hl 0 rfl) ?_
  refine lv_aload_n hx hb dc_W_init_5 rfl (lv_at hl 1 rfl) ?_
  obtain ⟨f1, ef1, hF⟩ := pl_bd hF
  refine pl_putF C w hS (ci := 6) in_W rfl (by decide) rty_W_ok rnm_W 0 (by decide) mw_226 rfl rfl rfl rfl ef1 dc_W_init_6 (fun H locs w hS => ?_)
  refine lv_aload_n hx hb dc_W_init_9 rfl (lv_at hl 0 rfl) ?_
  refine lv_aload_n hx hb dc_W_init_10 rfl (lv_at hl 2 rfl) ?_
  obtain ⟨f2, ef2, hF⟩ := pl_bd hF
  refine pl_putF C w hS (ci := 6) in_W rfl (by decide) rty_W_ok rnm_W 1 (by decide) mw_227 rfl rfl rfl rfl ef2 dc_W_init_11 (fun H locs w hS => ?_)
  refine lv_aload_n hx hb dc_W_init_14 rfl (lv_at hl 0 rfl) ?_
  refine lv_aload_n hx hb dc_W_init_15 rfl (lv_at hl 1 rfl) ?_
  refine lv_iconst (v := 0) hx hb dc_W_init_16 (by decide) ?_
  obtain ⟨u4, eu4, hF⟩ := pl_bd hF
  obtain ⟨v3, ev3, hF⟩ := pl_bd hF
  refine pl_gr (pl_runV (Cn := rn_P) (k := 1) C (tm_P_rowOf l D dA tt b n ev3) w hS rfl rfl mw_222 mw_223 mw_224 mw_70 mw_225 (by decide +kernel) ⟨by decide, by decide⟩ eu4 rfl (by decide) rfl hl.1 (Nat.le_of_ble_eq_true rfl) ⟨Nat.zero_le _, Nat.zero_le _⟩ rfl dc_W_init_17) hS (fun H locs w hS => ?_)
  obtain ⟨f5, ef5, hF⟩ := pl_bd hF
  refine pl_put C w hS (ci := 6) in_W rfl (by decide) rty_W_ok rnm_W 4 (by decide) mw_230 rfl rfl rfl ef5 dc_W_init_20 (fun H locs w hS => ?_)
  exact pl_retVw C w hS hF dc_W_init_23
set_option maxHeartbeats 4000000 in
set_option maxRecDepth 100000 in
theorem tm_W_init (l : Launch) (D : va_G) (dA : Nat → ClassId) (tt : Nat → Nat) (b n : Nat) {f : pl_H} {a0 : Nat} {a1 : Nat} {a2 : Nat} {f' : pl_H} (hF : fn_W_init f a0 a1 a2 = some f') : Met l my_W_init (Cond.code my_W_init co_W_init 3 none :: pl_tb) rm_W_init (va_Pc [.ref a0, .ref a1, .ref a2] (pl_pre D dA tt b n f)) (pl_qV D dA tt b n f') 0 0 (pl_A b) := by
  refine Met.ofW (cc := co_W_init) (maxL := 3) (ret := none) (by decide) rfl ?_
  intro p e s m args below meth c s₁ B hml hv
  obtain ⟨rfl, w, hK⟩ := hv
  have C : pl_C p s m _ meth c co_W_init 3 rn_W none "<init>" D dA tt b := ⟨B.exec, B.bytes, hml, B.returns, findClass_of_methodNamed B.named, B.notSynchronized, fun w hw => atoms_spec (ws := Cond.code my_W_init co_W_init 3 none :: pl_tb) B.pre w (List.mem_cons_of_mem _ hw), (name_of_methodNamed B.named B.method).1, hK⟩
  have hl := lv_entry ([.ref a0, .ref a1, .ref a2]) (n := 3) (Nat.le_of_ble_eq_true rfl)
  rw [lg_entry_eq]
  generalize (lg_sl ([.ref a0, .ref a1, .ref a2]) ++ List.replicate (3 - (lg_sl ([.ref a0, .ref a1, .ref a2])).length) Slot.unset).toArray = ls at hl ⊢
  have hl : lv_has ls 3 [(0, .ref a0), (1, .ref a1), (2, .ref a2)] := hl
  exact tl_W_init C hF w va_S.rf hl
def rm_L_init : Room := { frames := 3, cells := 91, slots := 5181, locals := 103 }
def fn_L_init (n : Nat) (f : pl_H) (a0 : Nat) : Option (pl_H) := (pl_mk f n (.inr (0, [.null, .null, .null, .int 0]))).bind fun f1 => (fn_B_init (n + 1) f1 n).bind fun q2 => (pl_pV q2 a0 7 0 (.ref n)).bind fun f3 => (pl_mk f3 (n + 4) (.inr (2, [.null, .null, .null]))).bind fun f4 => (fn_H_init (n + 5) f4 ((n + 4))).bind fun q5 => (pl_pV q5 a0 7 1 (.ref ((n + 4)))).bind fun f6 => (pl_mk f6 (n + 8) (.inr (5, [.null, .null, .null, .null, .null, .null, .int 0, .null, .int 0]))).bind fun f7 => (pl_gR f7 a0 7 0).bind fun v8 => (pl_gR f7 a0 7 1).bind fun v9 => (fn_T_init (n + 9) f7 ((n + 8)) v8 v9).bind fun q10 => (pl_pV q10 a0 7 2 (.ref ((n + 8)))).bind fun f11 => (pl_mk f11 (n + 82) (.inr (4, [.null, .null, .int 0]))).bind fun f12 => (fn_P_init (n + 83) f12 ((n + 82))).bind fun q13 => (pl_pV q13 a0 7 3 (.ref ((n + 82)))).bind fun f14 => (pl_mk f14 (n + 90) (.inr (6, [.null, .null, .int 0, .int 0, .null, .int 0, .int 0, .int 0, .int 0, .long 0, .long 0]))).bind fun f15 => (pl_gR f15 a0 7 3).bind fun v16 => (pl_gR f15 a0 7 1).bind fun v17 => (fn_W_init f15 ((n + 90)) v16 v17).bind fun q18 => (pl_pV q18 a0 7 4 (.ref ((n + 90)))).bind fun f19 => (pl_pV f19 a0 7 5 (.int 0)).bind fun f20 => (pl_pV f20 a0 7 6 (.int ((-1)))).bind fun f21 => some f21
set_option maxHeartbeats 4000000 in
set_option maxRecDepth 100000 in
theorem tl_L_init {p : Program} {l : Launch} {e : Env} {s : State} {m : MethodId} {args : Array Value} {below : List Frame} {meth : Method} {c : Code} {D : va_G} {dA : Nat → ClassId} {tt : Nat → Nat} {b n : Nat} (C : pl_C p s m args meth c co_L_init 1 rn_L none "<init>" D dA tt b) {f' : pl_H} {f : pl_H} {a0 : Nat} {H : Heap} {locs : List Loc} {ls : Array Slot} (hF : fn_L_init n f a0 = some f') (w : pl_wd D vwCl dA b n f H) (hS : va_S (pl_A b) s.heap H locs) (hl : lv_has ls 1 [(0, .ref a0)]) : W p l e rm_L_init s m args below meth c H locs 0 0 (MQ below (pl_qV D dA tt b (n + 91) f') args s 91 5181 (pl_A b)) (F0 m 0 ls []) := by
  have hx := C.1
  have hb := C.2.1
  have hown := C.2.2.2.2.1
  have hts := C.2.2.2.2.2.2.1
  unfold fn_L_init at hF
  refine lv_aload_n hx hb dc_L_init_0 rfl (lv_at hl 0 rfl) ?_
  refine pl_objI C mw_80 mw_81 mw_82 hl.1 (by decide) (Nat.le_of_ble_eq_true rfl) dc_L_init_1 ?_
  refine lv_aload_n hx hb dc_L_init_4 rfl (lv_at hl 0 rfl) ?_
  obtain ⟨f1, ef1, hF⟩ := pl_bd hF
  refine pl_new (fs := [.null, .null, .null, .int 0]) C w hS (ci := 0) in_B rfl rty_B_ok (by decide +kernel) mw_83 mw_84 mw_65 (by decide) (by decide) ef1 dc_L_init_5 (fun H w hS => ?_)
  have w : pl_wd D vwCl dA b (n + 1) f1 H := w
  refine lv_dup hx hb dc_L_init_8 rfl ?_
  obtain ⟨q2, eq2, hF⟩ := pl_bd hF
  refine pl_gv (pl_runI (k := 0) C (tm_B_init l D dA tt b (n + 1) eq2) w hS rfl rfl mw_85 mw_86 mw_65 mw_87 rfl (by decide +kernel) ⟨by decide, by decide⟩ rfl hl.1 (Nat.le_of_ble_eq_true rfl) ⟨by decide, by decide⟩ rfl dc_L_init_9) hS (fun H locs w hS => ?_)
  have w : pl_wd D vwCl dA b (n + 4) q2 H := w
  obtain ⟨f3, ef3, hF⟩ := pl_bd hF
  refine pl_putF C w hS (ci := 7) in_L rfl (by decide) rty_L_ok rnm_L 0 (by decide) mw_260 rfl rfl rfl rfl ef3 dc_L_init_12 (fun H locs w hS => ?_)
  refine lv_aload_n hx hb dc_L_init_15 rfl (lv_at hl 0 rfl) ?_
  obtain ⟨f4, ef4, hF⟩ := pl_bd hF
  refine pl_new (fs := [.null, .null, .null]) C w hS (ci := 2) in_H rfl rty_H_ok (by decide +kernel) mw_104 mw_105 mw_66 (by decide) (by decide) ef4 dc_L_init_16 (fun H w hS => ?_)
  have w : pl_wd D vwCl dA b (n + 5) f4 H := w
  refine lv_dup hx hb dc_L_init_19 rfl ?_
  obtain ⟨q5, eq5, hF⟩ := pl_bd hF
  refine pl_gv (pl_runI (k := 0) C (tm_H_init l D dA tt b (n + 5) eq5) w hS rfl rfl mw_106 mw_107 mw_66 mw_108 rfl (by decide +kernel) ⟨by decide, by decide⟩ rfl hl.1 (Nat.le_of_ble_eq_true rfl) ⟨by decide, by decide⟩ rfl dc_L_init_20) hS (fun H locs w hS => ?_)
  have w : pl_wd D vwCl dA b (n + 8) q5 H := w
  obtain ⟨f6, ef6, hF⟩ := pl_bd hF
  refine pl_putF C w hS (ci := 7) in_L rfl (by decide) rty_L_ok rnm_L 1 (by decide) mw_261 rfl rfl rfl rfl ef6 dc_L_init_23 (fun H locs w hS => ?_)
  refine lv_aload_n hx hb dc_L_init_26 rfl (lv_at hl 0 rfl) ?_
  obtain ⟨f7, ef7, hF⟩ := pl_bd hF
  refine pl_new (fs := [.null, .null, .null, .null, .null, .null, .int 0, .null, .int 0]) C w hS (ci := 5) in_T rfl rty_T_ok (by decide +kernel) mw_120 mw_121 mw_67 (by decide) (by decide) ef7 dc_L_init_27 (fun H w hS => ?_)
  have w : pl_wd D vwCl dA b (n + 9) f7 H := w
  refine lv_dup hx hb dc_L_init_30 rfl ?_
  refine lv_aload_n hx hb dc_L_init_31 rfl (lv_at hl 0 rfl) ?_
  obtain ⟨v8, ev8, hF⟩ := pl_bd hF
  refine pl_getR C w (ci := 7) in_L rfl (by decide) 0 (by decide) mw_260 ev8 dc_L_init_32 ?_
  refine lv_aload_n hx hb dc_L_init_35 rfl (lv_at hl 0 rfl) ?_
  obtain ⟨v9, ev9, hF⟩ := pl_bd hF
  refine pl_getR C w (ci := 7) in_L rfl (by decide) 1 (by decide) mw_261 ev9 dc_L_init_36 ?_
  obtain ⟨q10, eq10, hF⟩ := pl_bd hF
  refine pl_gv (pl_runI (k := 2) C (tm_T_init l D dA tt b (n + 9) eq10) w hS rfl rfl mw_122 mw_123 mw_67 mw_124 rfl (by decide +kernel) ⟨by decide, by decide⟩ rfl hl.1 (Nat.le_of_ble_eq_true rfl) ⟨by decide, by decide⟩ rfl dc_L_init_39) hS (fun H locs w hS => ?_)
  have w : pl_wd D vwCl dA b (n + 82) q10 H := w
  obtain ⟨f11, ef11, hF⟩ := pl_bd hF
  refine pl_putF C w hS (ci := 7) in_L rfl (by decide) rty_L_ok rnm_L 2 (by decide) mw_262 rfl rfl rfl rfl ef11 dc_L_init_42 (fun H locs w hS => ?_)
  refine lv_aload_n hx hb dc_L_init_45 rfl (lv_at hl 0 rfl) ?_
  obtain ⟨f12, ef12, hF⟩ := pl_bd hF
  refine pl_new (fs := [.null, .null, .int 0]) C w hS (ci := 4) in_P rfl rty_P_ok (by decide +kernel) mw_198 mw_199 mw_70 (by decide) (by decide) ef12 dc_L_init_46 (fun H w hS => ?_)
  have w : pl_wd D vwCl dA b (n + 83) f12 H := w
  refine lv_dup hx hb dc_L_init_49 rfl ?_
  obtain ⟨q13, eq13, hF⟩ := pl_bd hF
  refine pl_gv (pl_runI (k := 0) C (tm_P_init l D dA tt b (n + 83) eq13) w hS rfl rfl mw_200 mw_201 mw_70 mw_202 rfl (by decide +kernel) ⟨by decide, by decide⟩ rfl hl.1 (Nat.le_of_ble_eq_true rfl) ⟨by decide, by decide⟩ rfl dc_L_init_50) hS (fun H locs w hS => ?_)
  have w : pl_wd D vwCl dA b (n + 90) q13 H := w
  obtain ⟨f14, ef14, hF⟩ := pl_bd hF
  refine pl_putF C w hS (ci := 7) in_L rfl (by decide) rty_L_ok rnm_L 3 (by decide) mw_263 rfl rfl rfl rfl ef14 dc_L_init_53 (fun H locs w hS => ?_)
  refine lv_aload_n hx hb dc_L_init_56 rfl (lv_at hl 0 rfl) ?_
  obtain ⟨f15, ef15, hF⟩ := pl_bd hF
  refine pl_new (fs := [.null, .null, .int 0, .int 0, .null, .int 0, .int 0, .int 0, .int 0, .long 0, .long 0]) C w hS (ci := 6) in_W rfl rty_W_ok (by decide +kernel) mw_216 mw_217 mw_71 (by decide) (by decide) ef15 dc_L_init_57 (fun H w hS => ?_)
  have w : pl_wd D vwCl dA b (n + 91) f15 H := w
  refine lv_dup hx hb dc_L_init_60 rfl ?_
  refine lv_aload_n hx hb dc_L_init_61 rfl (lv_at hl 0 rfl) ?_
  obtain ⟨v16, ev16, hF⟩ := pl_bd hF
  refine pl_getR C w (ci := 7) in_L rfl (by decide) 3 (by decide) mw_263 ev16 dc_L_init_62 ?_
  refine lv_aload_n hx hb dc_L_init_65 rfl (lv_at hl 0 rfl) ?_
  obtain ⟨v17, ev17, hF⟩ := pl_bd hF
  refine pl_getR C w (ci := 7) in_L rfl (by decide) 1 (by decide) mw_261 ev17 dc_L_init_66 ?_
  obtain ⟨q18, eq18, hF⟩ := pl_bd hF
  refine pl_gv (pl_runI (k := 2) C (tm_W_init l D dA tt b (n + 91) eq18) w hS rfl rfl mw_218 mw_219 mw_71 mw_220 rfl (by decide +kernel) ⟨by decide, by decide⟩ rfl hl.1 (Nat.le_of_ble_eq_true rfl) ⟨by decide, by decide⟩ rfl dc_L_init_69) hS (fun H locs w hS => ?_)
  have w : pl_wd D vwCl dA b (n + 91) q18 H := w
  obtain ⟨f19, ef19, hF⟩ := pl_bd hF
  refine pl_putF C w hS (ci := 7) in_L rfl (by decide) rty_L_ok rnm_L 4 (by decide) mw_264 rfl rfl rfl rfl ef19 dc_L_init_72 (fun H locs w hS => ?_)
  refine lv_aload_n hx hb dc_L_init_75 rfl (lv_at hl 0 rfl) ?_
  refine lv_iconst (v := 0) hx hb dc_L_init_76 (by decide) ?_
  obtain ⟨f20, ef20, hF⟩ := pl_bd hF
  refine pl_put C w hS (ci := 7) in_L rfl (by decide) rty_L_ok rnm_L 5 (by decide) mw_265 rfl rfl rfl ef20 dc_L_init_77 (fun H locs w hS => ?_)
  refine lv_aload_n hx hb dc_L_init_80 rfl (lv_at hl 0 rfl) ?_
  refine lv_iconst (v := (-1)) hx hb dc_L_init_81 (by decide) ?_
  obtain ⟨f21, ef21, hF⟩ := pl_bd hF
  refine pl_put C w hS (ci := 7) in_L rfl (by decide) rty_L_ok rnm_L 6 (by decide) mw_266 rfl rfl rfl ef21 dc_L_init_82 (fun H locs w hS => ?_)
  exact pl_retVw C w hS hF dc_L_init_85
set_option maxHeartbeats 4000000 in
set_option maxRecDepth 100000 in
theorem tm_L_init (l : Launch) (D : va_G) (dA : Nat → ClassId) (tt : Nat → Nat) (b n : Nat) {f : pl_H} {a0 : Nat} {f' : pl_H} (hF : fn_L_init n f a0 = some f') : Met l my_L_init (Cond.code my_L_init co_L_init 1 none :: pl_tb) rm_L_init (va_Pc [.ref a0] (pl_pre D dA tt b n f)) (pl_qV D dA tt b (n + 91) f') 91 5181 (pl_A b) := by
  refine Met.ofW (cc := co_L_init) (maxL := 1) (ret := none) (by decide) rfl ?_
  intro p e s m args below meth c s₁ B hml hv
  obtain ⟨rfl, w, hK⟩ := hv
  have C : pl_C p s m _ meth c co_L_init 1 rn_L none "<init>" D dA tt b := ⟨B.exec, B.bytes, hml, B.returns, findClass_of_methodNamed B.named, B.notSynchronized, fun w hw => atoms_spec (ws := Cond.code my_L_init co_L_init 1 none :: pl_tb) B.pre w (List.mem_cons_of_mem _ hw), (name_of_methodNamed B.named B.method).1, hK⟩
  have hl := lv_entry ([.ref a0]) (n := 1) (Nat.le_of_ble_eq_true rfl)
  rw [lg_entry_eq]
  generalize (lg_sl ([.ref a0]) ++ List.replicate (1 - (lg_sl ([.ref a0])).length) Slot.unset).toArray = ls at hl ⊢
  have hl : lv_has ls 1 [(0, .ref a0)] := hl
  exact tl_L_init C hF w va_S.rf hl
def rm_M_init : Room := { frames := 1, cells := 21, slots := 7271, locals := 60 }
def fn_M_init_300 (rc235 : pl_H → Nat → Int32 → Int32 → Option (pl_H)) (f : pl_H) (a0 : Nat) (x4 : Int32) (sx0 : Int32) : Option (pl_H) := rc235 f a0 sx0 (x4 + 1)
def fn_M_init_235 : Nat → pl_H → Nat → Int32 → Int32 → Option (pl_H)
  | 0 => fun _ _ _ _ => none
  | k + 1 => fun f a0 x3 x4 => if 168 ≤ x4 then some f else (pl_gR f a0 8 25).bind fun v1 => (pl_gR f a0 8 25).bind fun v2 => (pl_aL f v2 (x4 / 7)).bind fun v3 => (pl_sL f v1 (x4 / 7) (v3 ||| ((((x3 &&& 1) : Int32).toInt64) <<< ((((1 <<< ((x4 - x4 / 7 * 7) &&& 31)) - 1) : Int32).toInt64 &&& 63)))).bind fun f4 => if (2 * x3) < 256 then fn_M_init_300 (fn_M_init_235 k) f4 a0 x4 (2 * x3) else fn_M_init_300 (fn_M_init_235 k) f4 a0 x4 ((2 * x3) ^^^ 369)
def fn_M_init_180 : Nat → pl_H → Nat → Int32 → Int32 → Int32 → Option (pl_H)
  | 0 => fun _ _ _ _ _ => none
  | k + 1 => fun f a0 x1 x2 x3 => if 24 ≤ x3 then fn_M_init_235 pl_N f a0 1 0 else (pl_gR f a0 8 24).bind fun v1 => (pl_sI f v1 (x1 + (5 * x2)) ((((x3 + 1) * (x3 + 2)) / 2) - (((x3 + 1) * (x3 + 2)) / 2) / 64 * 64)).bind fun f2 => fn_M_init_180 k f2 a0 x2 (((2 * x1) + (3 * x2)) - ((2 * x1) + (3 * x2)) / 5 * 5) (x3 + 1)
def fn_M_init (n : Nat) (f : pl_H) (a0 : Nat) : Option (pl_H) := (pl_mk f n (.inl (0, 13, .inl (fun _ => 0)))).bind fun f1 => (pl_pV f1 a0 8 1 (.ref n)).bind fun f2 => (pl_mk f2 (n + 1) (.inl (0, 13, .inl (fun _ => 0)))).bind fun f3 => (pl_pV f3 a0 8 2 (.ref ((n + 1)))).bind fun f4 => (pl_mk f4 (n + 2) (.inl (1, 13, .inr (.inl (fun _ => 0))))).bind fun f5 => (pl_pV f5 a0 8 3 (.ref ((n + 2)))).bind fun f6 => (pl_mk f6 (n + 3) (.inl (0, 1980, .inl (fun _ => 0)))).bind fun f7 => (pl_pV f7 a0 8 6 (.ref ((n + 3)))).bind fun f8 => (pl_mk f8 (n + 4) (.inl (0, 60, .inl (fun _ => 0)))).bind fun f9 => (pl_pV f9 a0 8 7 (.ref ((n + 4)))).bind fun f10 => (pl_mk f10 (n + 5) (.inl (4, 60, .inl (fun _ => 0)))).bind fun f11 => (pl_pV f11 a0 8 8 (.ref ((n + 5)))).bind fun f12 => (pl_mk f12 (n + 6) (.inl (4, 60, .inl (fun _ => 0)))).bind fun f13 => (pl_pV f13 a0 8 9 (.ref ((n + 6)))).bind fun f14 => (pl_mk f14 (n + 7) (.inl (0, 600, .inl (fun _ => 0)))).bind fun f15 => (pl_pV f15 a0 8 11 (.ref ((n + 7)))).bind fun f16 => (pl_mk f16 (n + 8) (.inl (0, 600, .inl (fun _ => 0)))).bind fun f17 => (pl_pV f17 a0 8 13 (.ref ((n + 8)))).bind fun f18 => (pl_mk f18 (n + 9) (.inl (0, 3, .inl (fun _ => 0)))).bind fun f19 => (pl_pV f19 a0 8 14 (.ref ((n + 9)))).bind fun f20 => (pl_mk f20 (n + 10) (.inl (0, 16, .inl (fun _ => 0)))).bind fun f21 => (pl_pV f21 a0 8 15 (.ref ((n + 10)))).bind fun f22 => (pl_mk f22 (n + 11) (.inl (0, 5, .inl (fun _ => 0)))).bind fun f23 => (pl_pV f23 a0 8 17 (.ref ((n + 11)))).bind fun f24 => (pl_mk f24 (n + 12) (.inl (0, 3000, .inl (fun _ => 0)))).bind fun f25 => (pl_pV f25 a0 8 18 (.ref ((n + 12)))).bind fun f26 => (pl_mk f26 (n + 13) (.inl (1, 25, .inr (.inl (fun _ => 0))))).bind fun f27 => (pl_pV f27 a0 8 21 (.ref ((n + 13)))).bind fun f28 => (pl_mk f28 (n + 14) (.inl (1, 25, .inr (.inl (fun _ => 0))))).bind fun f29 => (pl_pV f29 a0 8 22 (.ref ((n + 14)))).bind fun f30 => (pl_mk f30 (n + 15) (.inl (1, 5, .inr (.inl (fun _ => 0))))).bind fun f31 => (pl_pV f31 a0 8 23 (.ref ((n + 15)))).bind fun f32 => (pl_mk f32 (n + 16) (.inl (0, 25, .inl (fun _ => 0)))).bind fun f33 => (pl_pV f33 a0 8 24 (.ref ((n + 16)))).bind fun f34 => (pl_mk f34 (n + 17) (.inl (1, 24, .inr (.inl (fun _ => 0))))).bind fun f35 => (pl_pV f35 a0 8 25 (.ref ((n + 17)))).bind fun f36 => (pl_mk f36 (n + 18) (.inl (0, 680, .inl (fun _ => 0)))).bind fun f37 => (pl_pV f37 a0 8 26 (.ref ((n + 18)))).bind fun f38 => (pl_mk f38 (n + 19) (.inl (0, 32, .inl (fun _ => 0)))).bind fun f39 => (pl_pV f39 a0 8 27 (.ref ((n + 19)))).bind fun f40 => (pl_mk f40 (n + 20) (.inl (0, 32, .inl (fun _ => 0)))).bind fun f41 => (pl_pV f41 a0 8 28 (.ref ((n + 20)))).bind fun f42 => fn_M_init_180 pl_N f42 a0 1 0 0
set_option maxHeartbeats 4000000 in
set_option maxRecDepth 100000 in
theorem tl_M_init_300 {p : Program} {l : Launch} {e : Env} {s : State} {m : MethodId} {args : Array Value} {below : List Frame} {meth : Method} {c : Code} {D : va_G} {dA : Nat → ClassId} {tt : Nat → Nat} {b n : Nat} (C : pl_C p s m args meth c co_M_init 5 rn_M none "<init>" D dA tt b) {f' : pl_H} {rc235 : pl_H → Nat → Int32 → Int32 → Option (pl_H)} (hr235 : ∀ (f : pl_H) (a0 : Nat) (x3 : Int32) (x4 : Int32) (H : Heap) (locs : List Loc) (ls : Array Slot), rc235 f a0 x3 x4 = some f' → pl_wd D vwCl dA b (n + 21) f H → va_S (pl_A b) s.heap H locs → lv_has ls 5 [(0, .ref a0), (3, .int x3), (4, .int x4)] → W p l e rm_M_init s m args below meth c H locs 21 7271 (MQ below (pl_qV D dA tt b (n + 21) f') args s 21 7271 (pl_A b)) (F0 m 235 ls [])) {f : pl_H} {a0 : Nat} {x4 : Int32} {sx0 : Int32} {H : Heap} {locs : List Loc} {ls : Array Slot} (hF : fn_M_init_300 rc235 f a0 x4 sx0 = some f') (w : pl_wd D vwCl dA b (n + 21) f H) (hS : va_S (pl_A b) s.heap H locs) (hl : lv_has ls 5 [(0, .ref a0), (4, .int x4)]) : W p l e rm_M_init s m args below meth c H locs 21 7271 (MQ below (pl_qV D dA tt b (n + 21) f') args s 21 7271 (pl_A b)) (F0 m 300 ls [.int sx0]) := by
  have hx := C.1
  have hb := C.2.1
  have hown := C.2.2.2.2.1
  have hts := C.2.2.2.2.2.2.1
  unfold fn_M_init_300 at hF
  refine lv_istore_n (lv' := [(3, .int sx0), (0, .ref a0), (4, .int x4)]) hx hb dc_M_init_300 rfl hl (by decide) rfl (fun ls hl => ?_)
  refine lv_iinc (k := 2) (v := x4 + 1) (lv' := [(4, .int (x4 + 1)), (3, .int sx0), (0, .ref a0)]) hx hb dc_M_init_301 hl rfl rfl (by decide) rfl (fun ls hl => ?_)
  refine lv_goto hx hb dc_M_init_304 (tgt := 235) (by decide) ?_
  exact hr235 f a0 sx0 (x4 + 1) _ _ _ hF w hS (lv_sub hl [2, 1, 0] rfl)
set_option maxHeartbeats 4000000 in
set_option maxRecDepth 100000 in
theorem tl_M_init_235 {p : Program} {l : Launch} {e : Env} {s : State} {m : MethodId} {args : Array Value} {below : List Frame} {meth : Method} {c : Code} {D : va_G} {dA : Nat → ClassId} {tt : Nat → Nat} {b n : Nat} (C : pl_C p s m args meth c co_M_init 5 rn_M none "<init>" D dA tt b) {f' : pl_H} : ∀ k : Nat, ∀ (f : pl_H) (a0 : Nat) (x3 : Int32) (x4 : Int32) (H : Heap) (locs : List Loc) (ls : Array Slot), fn_M_init_235 k f a0 x3 x4 = some f' → pl_wd D vwCl dA b (n + 21) f H → va_S (pl_A b) s.heap H locs → lv_has ls 5 [(0, .ref a0), (3, .int x3), (4, .int x4)] → W p l e rm_M_init s m args below meth c H locs 21 7271 (MQ below (pl_qV D dA tt b (n + 21) f') args s 21 7271 (pl_A b)) (F0 m 235 ls []) := by
  have hx := C.1
  have hb := C.2.1
  have hown := C.2.2.2.2.1
  have hts := C.2.2.2.2.2.2.1
  intro k
  induction k with
  | zero =>
    intro f a0 x3 x4 H locs ls hF
    cases hF
  | succ k ih =>
    intro f a0 x3 x4 H locs ls hF w hS hl
    unfold fn_M_init_235 at hF
    refine lv_iload hx hb dc_M_init_235 (lv_at hl 2 rfl) ?_
    refine lv_sipush (v := 168) hx hb dc_M_init_237 (by decide) ?_
    refine lv_icmp_ge hx hb dc_M_init_240 (tgt := 307) (by decide) (fun hc => ?_) (fun hc => ?_)
    · have hF := (if_pos hc).symm.trans hF
      exact pl_retVw C w hS hF dc_M_init_307
    · have hF := (if_neg hc).symm.trans hF
      refine lv_aload_n hx hb dc_M_init_243 rfl (lv_at hl 0 rfl) ?_
      obtain ⟨v1, ev1, hF⟩ := pl_bd hF
      refine pl_getR C w (ci := 8) in_M rfl (by decide) 25 (by decide) mw_722 ev1 dc_M_init_244 ?_
      refine lv_iload hx hb dc_M_init_247 (lv_at hl 2 rfl) ?_
      refine lv_bipush (v := 7) hx hb dc_M_init_249 (by decide) ?_
      refine lv_idiv hx hb dc_M_init_251 (by decide) ?_
      refine lv_aload_n hx hb dc_M_init_252 rfl (lv_at hl 0 rfl) ?_
      obtain ⟨v2, ev2, hF⟩ := pl_bd hF
      refine pl_getR C w (ci := 8) in_M rfl (by decide) 25 (by decide) mw_722 ev2 dc_M_init_253 ?_
      refine lv_iload hx hb dc_M_init_256 (lv_at hl 2 rfl) ?_
      refine lv_bipush (v := 7) hx hb dc_M_init_258 (by decide) ?_
      refine lv_idiv hx hb dc_M_init_260 (by decide) ?_
      obtain ⟨v3, ev3, hF⟩ := pl_bd hF
      refine pl_aldL C w ev3 dc_M_init_261 ?_
      refine lv_iload_n hx hb dc_M_init_262 rfl (lv_at hl 1 rfl) ?_
      refine lv_iconst (v := 1) hx hb dc_M_init_263 (by decide) ?_
      refine lv_iand hx hb dc_M_init_264 ?_
      refine lv_i2l hx hb dc_M_init_265 rfl ?_
      refine lv_iconst (v := 1) hx hb dc_M_init_266 (by decide) ?_
      refine lv_iload hx hb dc_M_init_267 (lv_at hl 2 rfl) ?_
      refine lv_bipush (v := 7) hx hb dc_M_init_269 (by decide) ?_
      refine lv_irem hx hb dc_M_init_271 (by decide) ?_
      refine lv_ishl hx hb dc_M_init_272 ?_
      refine lv_iconst (v := 1) hx hb dc_M_init_273 (by decide) ?_
      refine lv_isub hx hb dc_M_init_274 ?_
      refine lv_lshl hx hb dc_M_init_275 rfl ?_
      refine lv_lor hx hb dc_M_init_276 ?_
      obtain ⟨f4, ef4, hF⟩ := pl_bd hF
      refine pl_astL C w hS ef4 dc_M_init_277 (fun H locs w hS => ?_)
      refine lv_iconst (v := 2) hx hb dc_M_init_278 (by decide) ?_
      refine lv_iload_n hx hb dc_M_init_279 rfl (lv_at hl 1 rfl) ?_
      refine lv_imul hx hb dc_M_init_280 ?_
      refine lv_sipush (v := 256) hx hb dc_M_init_281 (by decide) ?_
      refine lv_icmp_lt hx hb dc_M_init_284 (tgt := 297) (by decide) (fun hc => ?_) (fun hc => ?_)
      · have hF := (if_pos hc).symm.trans hF
        refine lv_iconst (v := 2) hx hb dc_M_init_297 (by decide) ?_
        refine lv_iload_n hx hb dc_M_init_298 rfl (lv_at hl 1 rfl) ?_
        refine lv_imul hx hb dc_M_init_299 ?_
        exact tl_M_init_300 C ih hF w hS (lv_sub hl [0, 2] rfl)
      · have hF := (if_neg hc).symm.trans hF
        refine lv_iconst (v := 2) hx hb dc_M_init_287 (by decide) ?_
        refine lv_iload_n hx hb dc_M_init_288 rfl (lv_at hl 1 rfl) ?_
        refine lv_imul hx hb dc_M_init_289 ?_
        refine lv_sipush (v := 369) hx hb dc_M_init_290 (by decide) ?_
        refine lv_ixor hx hb dc_M_init_293 ?_
        refine lv_goto hx hb dc_M_init_294 (tgt := 300) (by decide) ?_
        exact tl_M_init_300 C ih hF w hS (lv_sub hl [0, 2] rfl)
set_option maxHeartbeats 4000000 in
set_option maxRecDepth 100000 in
theorem tl_M_init_180 {p : Program} {l : Launch} {e : Env} {s : State} {m : MethodId} {args : Array Value} {below : List Frame} {meth : Method} {c : Code} {D : va_G} {dA : Nat → ClassId} {tt : Nat → Nat} {b n : Nat} (C : pl_C p s m args meth c co_M_init 5 rn_M none "<init>" D dA tt b) {f' : pl_H} : ∀ k : Nat, ∀ (f : pl_H) (a0 : Nat) (x1 : Int32) (x2 : Int32) (x3 : Int32) (H : Heap) (locs : List Loc) (ls : Array Slot), fn_M_init_180 k f a0 x1 x2 x3 = some f' → pl_wd D vwCl dA b (n + 21) f H → va_S (pl_A b) s.heap H locs → lv_has ls 5 [(0, .ref a0), (1, .int x1), (2, .int x2), (3, .int x3)] → W p l e rm_M_init s m args below meth c H locs 21 7271 (MQ below (pl_qV D dA tt b (n + 21) f') args s 21 7271 (pl_A b)) (F0 m 180 ls []) := by
  have hx := C.1
  have hb := C.2.1
  have hown := C.2.2.2.2.1
  have hts := C.2.2.2.2.2.2.1
  intro k
  induction k with
  | zero =>
    intro f a0 x1 x2 x3 H locs ls hF
    cases hF
  | succ k ih =>
    intro f a0 x1 x2 x3 H locs ls hF w hS hl
    unfold fn_M_init_180 at hF
    refine lv_iload_n hx hb dc_M_init_180 rfl (lv_at hl 3 rfl) ?_
    refine lv_bipush (v := 24) hx hb dc_M_init_181 (by decide) ?_
    refine lv_icmp_ge hx hb dc_M_init_183 (tgt := 230) (by decide) (fun hc => ?_) (fun hc => ?_)
    · have hF := (if_pos hc).symm.trans hF
      refine lv_iconst (v := 1) hx hb dc_M_init_230 (by decide) ?_
      refine lv_istore_n (lv' := [(3, .int 1), (0, .ref a0), (1, .int x1), (2, .int x2)]) hx hb dc_M_init_231 rfl hl (by decide) rfl (fun ls hl => ?_)
      refine lv_iconst (v := 0) hx hb dc_M_init_232 (by decide) ?_
      refine lv_istore (lv' := [(4, .int 0), (3, .int 1), (0, .ref a0), (1, .int x1), (2, .int x2)]) hx hb dc_M_init_233 hl (by decide) rfl (fun ls hl => ?_)
      exact tl_M_init_235 C pl_N f a0 1 0 _ _ _ hF w hS (lv_sub hl [2, 1, 0] rfl)
    · have hF := (if_neg hc).symm.trans hF
      refine lv_aload_n hx hb dc_M_init_186 rfl (lv_at hl 0 rfl) ?_
      obtain ⟨v1, ev1, hF⟩ := pl_bd hF
      refine pl_getR C w (ci := 8) in_M rfl (by decide) 24 (by decide) mw_721 ev1 dc_M_init_187 ?_
      refine lv_iload_n hx hb dc_M_init_190 rfl (lv_at hl 1 rfl) ?_
      refine lv_iconst (v := 5) hx hb dc_M_init_191 (by decide) ?_
      refine lv_iload_n hx hb dc_M_init_192 rfl (lv_at hl 2 rfl) ?_
      refine lv_imul hx hb dc_M_init_193 ?_
      refine lv_iadd hx hb dc_M_init_194 ?_
      refine lv_iload_n hx hb dc_M_init_195 rfl (lv_at hl 3 rfl) ?_
      refine lv_iconst (v := 1) hx hb dc_M_init_196 (by decide) ?_
      refine lv_iadd hx hb dc_M_init_197 ?_
      refine lv_iload_n hx hb dc_M_init_198 rfl (lv_at hl 3 rfl) ?_
      refine lv_iconst (v := 2) hx hb dc_M_init_199 (by decide) ?_
      refine lv_iadd hx hb dc_M_init_200 ?_
      refine lv_imul hx hb dc_M_init_201 ?_
      refine lv_iconst (v := 2) hx hb dc_M_init_202 (by decide) ?_
      refine lv_idiv hx hb dc_M_init_203 (by decide) ?_
      refine lv_bipush (v := 64) hx hb dc_M_init_204 (by decide) ?_
      refine lv_irem hx hb dc_M_init_206 (by decide) ?_
      obtain ⟨f2, ef2, hF⟩ := pl_bd hF
      refine pl_astI C w hS ef2 dc_M_init_207 (fun H locs w hS => ?_)
      refine lv_iconst (v := 2) hx hb dc_M_init_208 (by decide) ?_
      refine lv_iload_n hx hb dc_M_init_209 rfl (lv_at hl 1 rfl) ?_
      refine lv_imul hx hb dc_M_init_210 ?_
      refine lv_iconst (v := 3) hx hb dc_M_init_211 (by decide) ?_
      refine lv_iload_n hx hb dc_M_init_212 rfl (lv_at hl 2 rfl) ?_
      refine lv_imul hx hb dc_M_init_213 ?_
      refine lv_iadd hx hb dc_M_init_214 ?_
      refine lv_iconst (v := 5) hx hb dc_M_init_215 (by decide) ?_
      refine lv_irem hx hb dc_M_init_216 (by decide) ?_
      refine lv_istore (lv' := [(4, .int (((2 * x1) + (3 * x2)) - ((2 * x1) + (3 * x2)) / 5 * 5)), (0, .ref a0), (1, .int x1), (2, .int x2), (3, .int x3)]) hx hb dc_M_init_217 hl (by decide) rfl (fun ls hl => ?_)
      refine lv_iload_n hx hb dc_M_init_219 rfl (lv_at hl 3 rfl) ?_
      refine lv_istore_n (lv' := [(1, .int x2), (4, .int (((2 * x1) + (3 * x2)) - ((2 * x1) + (3 * x2)) / 5 * 5)), (0, .ref a0), (2, .int x2), (3, .int x3)]) hx hb dc_M_init_220 rfl hl (by decide) rfl (fun ls hl => ?_)
      refine lv_iload hx hb dc_M_init_221 (lv_at hl 1 rfl) ?_
      refine lv_istore_n (lv' := [(2, .int (((2 * x1) + (3 * x2)) - ((2 * x1) + (3 * x2)) / 5 * 5)), (1, .int x2), (4, .int (((2 * x1) + (3 * x2)) - ((2 * x1) + (3 * x2)) / 5 * 5)), (0, .ref a0), (3, .int x3)]) hx hb dc_M_init_223 rfl hl (by decide) rfl (fun ls hl => ?_)
      refine lv_iinc (k := 4) (v := x3 + 1) (lv' := [(3, .int (x3 + 1)), (2, .int (((2 * x1) + (3 * x2)) - ((2 * x1) + (3 * x2)) / 5 * 5)), (1, .int x2), (4, .int (((2 * x1) + (3 * x2)) - ((2 * x1) + (3 * x2)) / 5 * 5)), (0, .ref a0)]) hx hb dc_M_init_224 hl rfl rfl (by decide) rfl (fun ls hl => ?_)
      refine lv_goto hx hb dc_M_init_227 (tgt := 180) (by decide) ?_
      exact ih f2 a0 x2 (((2 * x1) + (3 * x2)) - ((2 * x1) + (3 * x2)) / 5 * 5) (x3 + 1) _ _ _ hF w hS (lv_sub hl [4, 2, 1, 0] rfl)
set_option maxHeartbeats 4000000 in
set_option maxRecDepth 100000 in
theorem tl_M_init {p : Program} {l : Launch} {e : Env} {s : State} {m : MethodId} {args : Array Value} {below : List Frame} {meth : Method} {c : Code} {D : va_G} {dA : Nat → ClassId} {tt : Nat → Nat} {b n : Nat} (C : pl_C p s m args meth c co_M_init 5 rn_M none "<init>" D dA tt b) {f' : pl_H} {f : pl_H} {a0 : Nat} {H : Heap} {locs : List Loc} {ls : Array Slot} (hF : fn_M_init n f a0 = some f') (w : pl_wd D vwCl dA b n f H) (hS : va_S (pl_A b) s.heap H locs) (hl : lv_has ls 5 [(0, .ref a0)]) : W p l e rm_M_init s m args below meth c H locs 0 0 (MQ below (pl_qV D dA tt b (n + 21) f') args s 21 7271 (pl_A b)) (F0 m 0 ls []) := by
  have hx := C.1
  have hb := C.2.1
  have hown := C.2.2.2.2.1
  have hts := C.2.2.2.2.2.2.1
  unfold fn_M_init at hF
  refine lv_aload_n hx hb dc_M_init_0 rfl (lv_at hl 0 rfl) ?_
  refine pl_objI C mw_696 mw_81 mw_82 hl.1 (by decide) (Nat.le_of_ble_eq_true rfl) dc_M_init_1 ?_
  refine lv_aload_n hx hb dc_M_init_4 rfl (lv_at hl 0 rfl) ?_
  refine lv_bipush (v := 13) hx hb dc_M_init_5 (by decide) ?_
  obtain ⟨f1, ef1, hF⟩ := pl_bd hF
  refine pl_newI C w hS mw_102 (by decide) (by decide) (by decide) (by decide) (by decide) ef1 dc_M_init_7 (fun H w hS => ?_)
  have w : pl_wd D vwCl dA b (n + 1) f1 H := w
  obtain ⟨f2, ef2, hF⟩ := pl_bd hF
  refine pl_put C w hS (ci := 8) in_M rfl (by decide) rty_M_ok rnm_M 1 (by decide) mw_698 rfl rfl rfl ef2 dc_M_init_9 (fun H locs w hS => ?_)
  refine lv_aload_n hx hb dc_M_init_12 rfl (lv_at hl 0 rfl) ?_
  refine lv_bipush (v := 13) hx hb dc_M_init_13 (by decide) ?_
  obtain ⟨f3, ef3, hF⟩ := pl_bd hF
  refine pl_newI C w hS mw_102 (by decide) (by decide) (by decide) (by decide) (by decide) ef3 dc_M_init_15 (fun H w hS => ?_)
  have w : pl_wd D vwCl dA b (n + 2) f3 H := w
  obtain ⟨f4, ef4, hF⟩ := pl_bd hF
  refine pl_put C w hS (ci := 8) in_M rfl (by decide) rty_M_ok rnm_M 2 (by decide) mw_699 rfl rfl rfl ef4 dc_M_init_17 (fun H locs w hS => ?_)
  refine lv_aload_n hx hb dc_M_init_20 rfl (lv_at hl 0 rfl) ?_
  refine lv_bipush (v := 13) hx hb dc_M_init_21 (by decide) ?_
  obtain ⟨f5, ef5, hF⟩ := pl_bd hF
  refine pl_newL C w hS mw_103 (by decide) (by decide) (by decide) (by decide) (by decide) ef5 dc_M_init_23 (fun H w hS => ?_)
  have w : pl_wd D vwCl dA b (n + 3) f5 H := w
  obtain ⟨f6, ef6, hF⟩ := pl_bd hF
  refine pl_put C w hS (ci := 8) in_M rfl (by decide) rty_M_ok rnm_M 3 (by decide) mw_700 rfl rfl rfl ef6 dc_M_init_25 (fun H locs w hS => ?_)
  refine lv_aload_n hx hb dc_M_init_28 rfl (lv_at hl 0 rfl) ?_
  refine lv_sipush (v := 1980) hx hb dc_M_init_29 (by decide) ?_
  obtain ⟨f7, ef7, hF⟩ := pl_bd hF
  refine pl_newI C w hS mw_102 (by decide) (by decide) (by decide) (by decide) (by decide) ef7 dc_M_init_32 (fun H w hS => ?_)
  have w : pl_wd D vwCl dA b (n + 4) f7 H := w
  obtain ⟨f8, ef8, hF⟩ := pl_bd hF
  refine pl_put C w hS (ci := 8) in_M rfl (by decide) rty_M_ok rnm_M 6 (by decide) mw_703 rfl rfl rfl ef8 dc_M_init_34 (fun H locs w hS => ?_)
  refine lv_aload_n hx hb dc_M_init_37 rfl (lv_at hl 0 rfl) ?_
  refine lv_bipush (v := 60) hx hb dc_M_init_38 (by decide) ?_
  obtain ⟨f9, ef9, hF⟩ := pl_bd hF
  refine pl_newI C w hS mw_102 (by decide) (by decide) (by decide) (by decide) (by decide) ef9 dc_M_init_40 (fun H w hS => ?_)
  have w : pl_wd D vwCl dA b (n + 5) f9 H := w
  obtain ⟨f10, ef10, hF⟩ := pl_bd hF
  refine pl_put C w hS (ci := 8) in_M rfl (by decide) rty_M_ok rnm_M 7 (by decide) mw_704 rfl rfl rfl ef10 dc_M_init_42 (fun H locs w hS => ?_)
  refine lv_aload_n hx hb dc_M_init_45 rfl (lv_at hl 0 rfl) ?_
  refine lv_bipush (v := 60) hx hb dc_M_init_46 (by decide) ?_
  obtain ⟨f11, ef11, hF⟩ := pl_bd hF
  refine pl_newZ C w hS mw_800 (by decide) (by decide) (by decide) (by decide) (by decide) ef11 dc_M_init_48 (fun H w hS => ?_)
  have w : pl_wd D vwCl dA b (n + 6) f11 H := w
  obtain ⟨f12, ef12, hF⟩ := pl_bd hF
  refine pl_put C w hS (ci := 8) in_M rfl (by decide) rty_M_ok rnm_M 8 (by decide) mw_705 rfl rfl rfl ef12 dc_M_init_50 (fun H locs w hS => ?_)
  refine lv_aload_n hx hb dc_M_init_53 rfl (lv_at hl 0 rfl) ?_
  refine lv_bipush (v := 60) hx hb dc_M_init_54 (by decide) ?_
  obtain ⟨f13, ef13, hF⟩ := pl_bd hF
  refine pl_newZ C w hS mw_800 (by decide) (by decide) (by decide) (by decide) (by decide) ef13 dc_M_init_56 (fun H w hS => ?_)
  have w : pl_wd D vwCl dA b (n + 7) f13 H := w
  obtain ⟨f14, ef14, hF⟩ := pl_bd hF
  refine pl_put C w hS (ci := 8) in_M rfl (by decide) rty_M_ok rnm_M 9 (by decide) mw_706 rfl rfl rfl ef14 dc_M_init_58 (fun H locs w hS => ?_)
  refine lv_aload_n hx hb dc_M_init_61 rfl (lv_at hl 0 rfl) ?_
  refine lv_sipush (v := 600) hx hb dc_M_init_62 (by decide) ?_
  obtain ⟨f15, ef15, hF⟩ := pl_bd hF
  refine pl_newI C w hS mw_102 (by decide) (by decide) (by decide) (by decide) (by decide) ef15 dc_M_init_65 (fun H w hS => ?_)
  have w : pl_wd D vwCl dA b (n + 8) f15 H := w
  obtain ⟨f16, ef16, hF⟩ := pl_bd hF
  refine pl_put C w hS (ci := 8) in_M rfl (by decide) rty_M_ok rnm_M 11 (by decide) mw_708 rfl rfl rfl ef16 dc_M_init_67 (fun H locs w hS => ?_)
  refine lv_aload_n hx hb dc_M_init_70 rfl (lv_at hl 0 rfl) ?_
  refine lv_sipush (v := 600) hx hb dc_M_init_71 (by decide) ?_
  obtain ⟨f17, ef17, hF⟩ := pl_bd hF
  refine pl_newI C w hS mw_102 (by decide) (by decide) (by decide) (by decide) (by decide) ef17 dc_M_init_74 (fun H w hS => ?_)
  have w : pl_wd D vwCl dA b (n + 9) f17 H := w
  obtain ⟨f18, ef18, hF⟩ := pl_bd hF
  refine pl_put C w hS (ci := 8) in_M rfl (by decide) rty_M_ok rnm_M 13 (by decide) mw_710 rfl rfl rfl ef18 dc_M_init_76 (fun H locs w hS => ?_)
  refine lv_aload_n hx hb dc_M_init_79 rfl (lv_at hl 0 rfl) ?_
  refine lv_iconst (v := 3) hx hb dc_M_init_80 (by decide) ?_
  obtain ⟨f19, ef19, hF⟩ := pl_bd hF
  refine pl_newI C w hS mw_102 (by decide) (by decide) (by decide) (by decide) (by decide) ef19 dc_M_init_81 (fun H w hS => ?_)
  have w : pl_wd D vwCl dA b (n + 10) f19 H := w
  obtain ⟨f20, ef20, hF⟩ := pl_bd hF
  refine pl_put C w hS (ci := 8) in_M rfl (by decide) rty_M_ok rnm_M 14 (by decide) mw_711 rfl rfl rfl ef20 dc_M_init_83 (fun H locs w hS => ?_)
  refine lv_aload_n hx hb dc_M_init_86 rfl (lv_at hl 0 rfl) ?_
  refine lv_bipush (v := 16) hx hb dc_M_init_87 (by decide) ?_
  obtain ⟨f21, ef21, hF⟩ := pl_bd hF
  refine pl_newI C w hS mw_102 (by decide) (by decide) (by decide) (by decide) (by decide) ef21 dc_M_init_89 (fun H w hS => ?_)
  have w : pl_wd D vwCl dA b (n + 11) f21 H := w
  obtain ⟨f22, ef22, hF⟩ := pl_bd hF
  refine pl_put C w hS (ci := 8) in_M rfl (by decide) rty_M_ok rnm_M 15 (by decide) mw_712 rfl rfl rfl ef22 dc_M_init_91 (fun H locs w hS => ?_)
  refine lv_aload_n hx hb dc_M_init_94 rfl (lv_at hl 0 rfl) ?_
  refine lv_iconst (v := 5) hx hb dc_M_init_95 (by decide) ?_
  obtain ⟨f23, ef23, hF⟩ := pl_bd hF
  refine pl_newI C w hS mw_102 (by decide) (by decide) (by decide) (by decide) (by decide) ef23 dc_M_init_96 (fun H w hS => ?_)
  have w : pl_wd D vwCl dA b (n + 12) f23 H := w
  obtain ⟨f24, ef24, hF⟩ := pl_bd hF
  refine pl_put C w hS (ci := 8) in_M rfl (by decide) rty_M_ok rnm_M 17 (by decide) mw_714 rfl rfl rfl ef24 dc_M_init_98 (fun H locs w hS => ?_)
  refine lv_aload_n hx hb dc_M_init_101 rfl (lv_at hl 0 rfl) ?_
  refine lv_sipush (v := 3000) hx hb dc_M_init_102 (by decide) ?_
  obtain ⟨f25, ef25, hF⟩ := pl_bd hF
  refine pl_newI C w hS mw_102 (by decide) (by decide) (by decide) (by decide) (by decide) ef25 dc_M_init_105 (fun H w hS => ?_)
  have w : pl_wd D vwCl dA b (n + 13) f25 H := w
  obtain ⟨f26, ef26, hF⟩ := pl_bd hF
  refine pl_put C w hS (ci := 8) in_M rfl (by decide) rty_M_ok rnm_M 18 (by decide) mw_715 rfl rfl rfl ef26 dc_M_init_107 (fun H locs w hS => ?_)
  refine lv_aload_n hx hb dc_M_init_110 rfl (lv_at hl 0 rfl) ?_
  refine lv_bipush (v := 25) hx hb dc_M_init_111 (by decide) ?_
  obtain ⟨f27, ef27, hF⟩ := pl_bd hF
  refine pl_newL C w hS mw_103 (by decide) (by decide) (by decide) (by decide) (by decide) ef27 dc_M_init_113 (fun H w hS => ?_)
  have w : pl_wd D vwCl dA b (n + 14) f27 H := w
  obtain ⟨f28, ef28, hF⟩ := pl_bd hF
  refine pl_put C w hS (ci := 8) in_M rfl (by decide) rty_M_ok rnm_M 21 (by decide) mw_718 rfl rfl rfl ef28 dc_M_init_115 (fun H locs w hS => ?_)
  refine lv_aload_n hx hb dc_M_init_118 rfl (lv_at hl 0 rfl) ?_
  refine lv_bipush (v := 25) hx hb dc_M_init_119 (by decide) ?_
  obtain ⟨f29, ef29, hF⟩ := pl_bd hF
  refine pl_newL C w hS mw_103 (by decide) (by decide) (by decide) (by decide) (by decide) ef29 dc_M_init_121 (fun H w hS => ?_)
  have w : pl_wd D vwCl dA b (n + 15) f29 H := w
  obtain ⟨f30, ef30, hF⟩ := pl_bd hF
  refine pl_put C w hS (ci := 8) in_M rfl (by decide) rty_M_ok rnm_M 22 (by decide) mw_719 rfl rfl rfl ef30 dc_M_init_123 (fun H locs w hS => ?_)
  refine lv_aload_n hx hb dc_M_init_126 rfl (lv_at hl 0 rfl) ?_
  refine lv_iconst (v := 5) hx hb dc_M_init_127 (by decide) ?_
  obtain ⟨f31, ef31, hF⟩ := pl_bd hF
  refine pl_newL C w hS mw_103 (by decide) (by decide) (by decide) (by decide) (by decide) ef31 dc_M_init_128 (fun H w hS => ?_)
  have w : pl_wd D vwCl dA b (n + 16) f31 H := w
  obtain ⟨f32, ef32, hF⟩ := pl_bd hF
  refine pl_put C w hS (ci := 8) in_M rfl (by decide) rty_M_ok rnm_M 23 (by decide) mw_720 rfl rfl rfl ef32 dc_M_init_130 (fun H locs w hS => ?_)
  refine lv_aload_n hx hb dc_M_init_133 rfl (lv_at hl 0 rfl) ?_
  refine lv_bipush (v := 25) hx hb dc_M_init_134 (by decide) ?_
  obtain ⟨f33, ef33, hF⟩ := pl_bd hF
  refine pl_newI C w hS mw_102 (by decide) (by decide) (by decide) (by decide) (by decide) ef33 dc_M_init_136 (fun H w hS => ?_)
  have w : pl_wd D vwCl dA b (n + 17) f33 H := w
  obtain ⟨f34, ef34, hF⟩ := pl_bd hF
  refine pl_put C w hS (ci := 8) in_M rfl (by decide) rty_M_ok rnm_M 24 (by decide) mw_721 rfl rfl rfl ef34 dc_M_init_138 (fun H locs w hS => ?_)
  refine lv_aload_n hx hb dc_M_init_141 rfl (lv_at hl 0 rfl) ?_
  refine lv_bipush (v := 24) hx hb dc_M_init_142 (by decide) ?_
  obtain ⟨f35, ef35, hF⟩ := pl_bd hF
  refine pl_newL C w hS mw_103 (by decide) (by decide) (by decide) (by decide) (by decide) ef35 dc_M_init_144 (fun H w hS => ?_)
  have w : pl_wd D vwCl dA b (n + 18) f35 H := w
  obtain ⟨f36, ef36, hF⟩ := pl_bd hF
  refine pl_put C w hS (ci := 8) in_M rfl (by decide) rty_M_ok rnm_M 25 (by decide) mw_722 rfl rfl rfl ef36 dc_M_init_146 (fun H locs w hS => ?_)
  refine lv_aload_n hx hb dc_M_init_149 rfl (lv_at hl 0 rfl) ?_
  refine lv_sipush (v := 680) hx hb dc_M_init_150 (by decide) ?_
  obtain ⟨f37, ef37, hF⟩ := pl_bd hF
  refine pl_newI C w hS mw_102 (by decide) (by decide) (by decide) (by decide) (by decide) ef37 dc_M_init_153 (fun H w hS => ?_)
  have w : pl_wd D vwCl dA b (n + 19) f37 H := w
  obtain ⟨f38, ef38, hF⟩ := pl_bd hF
  refine pl_put C w hS (ci := 8) in_M rfl (by decide) rty_M_ok rnm_M 26 (by decide) mw_723 rfl rfl rfl ef38 dc_M_init_155 (fun H locs w hS => ?_)
  refine lv_aload_n hx hb dc_M_init_158 rfl (lv_at hl 0 rfl) ?_
  refine lv_bipush (v := 32) hx hb dc_M_init_159 (by decide) ?_
  obtain ⟨f39, ef39, hF⟩ := pl_bd hF
  refine pl_newI C w hS mw_102 (by decide) (by decide) (by decide) (by decide) (by decide) ef39 dc_M_init_161 (fun H w hS => ?_)
  have w : pl_wd D vwCl dA b (n + 20) f39 H := w
  obtain ⟨f40, ef40, hF⟩ := pl_bd hF
  refine pl_put C w hS (ci := 8) in_M rfl (by decide) rty_M_ok rnm_M 27 (by decide) mw_724 rfl rfl rfl ef40 dc_M_init_163 (fun H locs w hS => ?_)
  refine lv_aload_n hx hb dc_M_init_166 rfl (lv_at hl 0 rfl) ?_
  refine lv_bipush (v := 32) hx hb dc_M_init_167 (by decide) ?_
  obtain ⟨f41, ef41, hF⟩ := pl_bd hF
  refine pl_newI C w hS mw_102 (by decide) (by decide) (by decide) (by decide) (by decide) ef41 dc_M_init_169 (fun H w hS => ?_)
  have w : pl_wd D vwCl dA b (n + 21) f41 H := w
  obtain ⟨f42, ef42, hF⟩ := pl_bd hF
  refine pl_put C w hS (ci := 8) in_M rfl (by decide) rty_M_ok rnm_M 28 (by decide) mw_725 rfl rfl rfl ef42 dc_M_init_171 (fun H locs w hS => ?_)
  refine lv_iconst (v := 1) hx hb dc_M_init_174 (by decide) ?_
  refine lv_istore_n (lv' := [(1, .int 1), (0, .ref a0)]) hx hb dc_M_init_175 rfl hl (by decide) rfl (fun ls hl => ?_)
  refine lv_iconst (v := 0) hx hb dc_M_init_176 (by decide) ?_
  refine lv_istore_n (lv' := [(2, .int 0), (1, .int 1), (0, .ref a0)]) hx hb dc_M_init_177 rfl hl (by decide) rfl (fun ls hl => ?_)
  refine lv_iconst (v := 0) hx hb dc_M_init_178 (by decide) ?_
  refine lv_istore_n (lv' := [(3, .int 0), (2, .int 0), (1, .int 1), (0, .ref a0)]) hx hb dc_M_init_179 rfl hl (by decide) rfl (fun ls hl => ?_)
  exact tl_M_init_180 C pl_N f42 a0 1 0 0 _ _ _ hF w hS (lv_sub hl [3, 2, 1, 0] rfl)
set_option maxHeartbeats 4000000 in
set_option maxRecDepth 100000 in
theorem tm_M_init (l : Launch) (D : va_G) (dA : Nat → ClassId) (tt : Nat → Nat) (b n : Nat) {f : pl_H} {a0 : Nat} {f' : pl_H} (hF : fn_M_init n f a0 = some f') : Met l my_M_init (Cond.code my_M_init co_M_init 5 none :: pl_tb) rm_M_init (va_Pc [.ref a0] (pl_pre D dA tt b n f)) (pl_qV D dA tt b (n + 21) f') 21 7271 (pl_A b) := by
  refine Met.ofW (cc := co_M_init) (maxL := 5) (ret := none) (by decide) rfl ?_
  intro p e s m args below meth c s₁ B hml hv
  obtain ⟨rfl, w, hK⟩ := hv
  have C : pl_C p s m _ meth c co_M_init 5 rn_M none "<init>" D dA tt b := ⟨B.exec, B.bytes, hml, B.returns, findClass_of_methodNamed B.named, B.notSynchronized, fun w hw => atoms_spec (ws := Cond.code my_M_init co_M_init 5 none :: pl_tb) B.pre w (List.mem_cons_of_mem _ hw), (name_of_methodNamed B.named B.method).1, hK⟩
  have hl := lv_entry ([.ref a0]) (n := 5) (Nat.le_of_ble_eq_true rfl)
  rw [lg_entry_eq]
  generalize (lg_sl ([.ref a0]) ++ List.replicate (5 - (lg_sl ([.ref a0])).length) Slot.unset).toArray = ls at hl ⊢
  have hl : lv_has ls 5 [(0, .ref a0)] := hl
  exact tl_M_init C hF w va_S.rf hl
