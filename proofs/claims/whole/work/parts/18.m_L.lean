def rm_L_collector : Room := { frames := 1, cells := 0, slots := 0, locals := 20 }
def fn_L_collector (f : pl_H) (a0 : Nat) (x1 : Int32) : Option (Int32 × pl_H) := (fn_L_isAccount f x1).bind fun v1 => if v1 = 0 then (pl_z 0).bind (fun z => some (z, f)) else (pl_pV f a0 7 5 (.int x1)).bind fun f2 => (pl_z 1).bind (fun z => some (z, f2))
set_option maxHeartbeats 4000000 in
set_option maxRecDepth 100000 in
theorem tl_L_collector {p : Program} {l : Launch} {e : Env} {s : State} {m : MethodId} {args : Array Value} {below : List Frame} {meth : Method} {c : Code} {D : va_G} {dA : Nat → ClassId} {tt : Nat → Nat} {b n : Nat} (C : pl_C p s m args meth c co_L_collector 2 rn_L (some .boolean) "collector" D dA tt b) {r : Int32} {f' : pl_H} {f : pl_H} {a0 : Nat} {x1 : Int32} {H : Heap} {locs : List Loc} {ls : Array Slot} (hF : fn_L_collector f a0 x1 = some (r, f')) (w : pl_wd D vwCl dA b n f H) (hS : va_S (pl_A b) s.heap H locs) (hl : lv_has ls 2 [(0, .ref a0), (1, .int x1)]) : W p l e rm_L_collector s m args below meth c H locs 0 0 (MQ below (pl_qI D dA tt b n f' r) args s 0 0 (pl_A b)) (F0 m 0 ls []) := by
  have hx := C.1
  have hb := C.2.1
  have hown := C.2.2.2.2.1
  have hts := C.2.2.2.2.2.2.1
  unfold fn_L_collector at hF
  refine lv_iload_n hx hb dc_L_collector_0 rfl (lv_at hl 1 rfl) ?_
  obtain ⟨v1, ev1, hF⟩ := pl_bd hF
  refine pl_gi (pl_runS (k := 1) C (tm_L_isAccount l D dA tt b n ev1) w hS rfl rfl mw_286 mw_287 mw_64 mw_288 (by decide +kernel) ⟨by decide, by decide⟩ rfl hl.1 (Nat.le_of_ble_eq_true rfl) ⟨Nat.zero_le _, Nat.zero_le _⟩ rfl dc_L_collector_1) hS (fun H locs w hS => ?_)
  refine lv_if_ne hx hb dc_L_collector_4 (tgt := 9) (by decide) (fun hc => ?_) (fun hc => ?_)
  · have hF := (if_neg hc).symm.trans hF
    refine lv_aload_n hx hb dc_L_collector_9 rfl (lv_at hl 0 rfl) ?_
    refine lv_iload_n hx hb dc_L_collector_10 rfl (lv_at hl 1 rfl) ?_
    obtain ⟨f2, ef2, hF⟩ := pl_bd hF
    refine pl_put C w hS (ci := 7) in_L rfl (by decide) rty_L_ok rnm_L 5 (by decide) mw_265 rfl rfl rfl ef2 dc_L_collector_11 (fun H locs w hS => ?_)
    refine lv_iconst (v := 1) hx hb dc_L_collector_14 (by decide) ?_
    exact pl_retZw C w hS hF dc_L_collector_15
  · have hF := (if_pos hc).symm.trans hF
    refine lv_iconst (v := 0) hx hb dc_L_collector_7 (by decide) ?_
    exact pl_retZw C w hS hF dc_L_collector_8
set_option maxHeartbeats 4000000 in
set_option maxRecDepth 100000 in
theorem tm_L_collector (l : Launch) (D : va_G) (dA : Nat → ClassId) (tt : Nat → Nat) (b n : Nat) {f : pl_H} {a0 : Nat} {x1 : Int32} {r : Int32} {f' : pl_H} (hF : fn_L_collector f a0 x1 = some (r, f')) : Met l my_L_collector (Cond.code my_L_collector co_L_collector 2 (some .boolean) :: pl_tb) rm_L_collector (va_Pc [.ref a0, .int x1] (pl_pre D dA tt b n f)) (pl_qI D dA tt b n f' r) 0 0 (pl_A b) := by
  refine Met.ofW (cc := co_L_collector) (maxL := 2) (ret := (some .boolean)) (by decide) rfl ?_
  intro p e s m args below meth c s₁ B hml hv
  obtain ⟨rfl, w, hK⟩ := hv
  have C : pl_C p s m _ meth c co_L_collector 2 rn_L (some .boolean) "collector" D dA tt b := ⟨B.exec, B.bytes, hml, B.returns, findClass_of_methodNamed B.named, B.notSynchronized, fun w hw => atoms_spec (ws := Cond.code my_L_collector co_L_collector 2 (some .boolean) :: pl_tb) B.pre w (List.mem_cons_of_mem _ hw), (name_of_methodNamed B.named B.method).1, hK⟩
  have hl := lv_entry ([.ref a0, .int x1]) (n := 2) (Nat.le_of_ble_eq_true rfl)
  rw [lg_entry_eq]
  generalize (lg_sl ([.ref a0, .int x1]) ++ List.replicate (2 - (lg_sl ([.ref a0, .int x1])).length) Slot.unset).toArray = ls at hl ⊢
  have hl : lv_has ls 2 [(0, .ref a0), (1, .int x1)] := hl
  exact tl_L_collector C hF w va_S.rf hl
def rm_L_grant : Room := { frames := 4, cells := 0, slots := 0, locals := 93 }
def fn_L_grant_49 (f : pl_H) (a0 : Nat) (x1 : Int32) (y2 : Int64) : Option (Int32 × pl_H) := (pl_gR f a0 7 0).bind fun v1 => (pl_is f v1 0).bind fun u3 => (fn_B_credit f v1 x1 y2).bind fun q2 => (pl_gR q2 a0 7 2).bind fun v4 => (pl_is q2 v4 5).bind fun u6 => (fn_T_outdate q2 v4).bind fun q5 => (pl_gR q5 a0 7 0).bind fun v7 => (pl_is q5 v7 0).bind fun u9 => (fn_B_count q5 v7).bind fun v8 => some (v8, q5)
def fn_L_grant_21 (f : pl_H) : Option (Int32 × pl_H) := some ((-1), f)
def fn_L_grant (f : pl_H) (a0 : Nat) (x1 : Int32) (y2 : Int64) : Option (Int32 × pl_H) := (fn_L_isAccount f x1).bind fun v1 => if v1 = 0 then fn_L_grant_21 f else if (lg_cmp y2 1) < 0 then fn_L_grant_21 f else if (lg_cmp y2 1000000000000) ≤ 0 then (pl_gR f a0 7 0).bind fun v2 => (pl_is f v2 0).bind fun u4 => (fn_B_has f v2 x1).bind fun v3 => if v3 = 0 then (pl_gR f a0 7 0).bind fun v5 => (pl_is f v5 0).bind fun u7 => (fn_B_count f v5).bind fun v6 => if v6 < 12 then fn_L_grant_49 f a0 x1 y2 else some ((-4), f) else fn_L_grant_49 f a0 x1 y2 else fn_L_grant_21 f
set_option maxHeartbeats 4000000 in
set_option maxRecDepth 100000 in
theorem tl_L_grant_49 {p : Program} {l : Launch} {e : Env} {s : State} {m : MethodId} {args : Array Value} {below : List Frame} {meth : Method} {c : Code} {D : va_G} {dA : Nat → ClassId} {tt : Nat → Nat} {b n : Nat} (C : pl_C p s m args meth c co_L_grant 4 rn_L (some .int) "grant" D dA tt b) {r : Int32} {f' : pl_H} {f : pl_H} {a0 : Nat} {x1 : Int32} {y2 : Int64} {H : Heap} {locs : List Loc} {ls : Array Slot} (hF : fn_L_grant_49 f a0 x1 y2 = some (r, f')) (w : pl_wd D vwCl dA b n f H) (hS : va_S (pl_A b) s.heap H locs) (hl : lv_has ls 4 [(0, .ref a0), (1, .int x1), (2, .long y2)]) : W p l e rm_L_grant s m args below meth c H locs 0 0 (MQ below (pl_qI D dA tt b n f' r) args s 0 0 (pl_A b)) (F0 m 49 ls []) := by
  have hx := C.1
  have hb := C.2.1
  have hown := C.2.2.2.2.1
  have hts := C.2.2.2.2.2.2.1
  unfold fn_L_grant_49 at hF
  refine lv_aload_n hx hb dc_L_grant_49 rfl (lv_at hl 0 rfl) ?_
  obtain ⟨v1, ev1, hF⟩ := pl_bd hF
  refine pl_getR C w (ci := 7) in_L rfl (by decide) 0 (by decide) mw_260 ev1 dc_L_grant_50 ?_
  refine lv_iload_n hx hb dc_L_grant_53 rfl (lv_at hl 1 rfl) ?_
  refine lv_lload_n hx hb dc_L_grant_54 rfl (lv_at hl 2 rfl) ?_
  obtain ⟨u3, eu3, hF⟩ := pl_bd hF
  obtain ⟨q2, eq2, hF⟩ := pl_bd hF
  refine pl_gv (pl_runV (Cn := rn_B) (k := 2) C (tm_B_credit l D dA tt b n eq2) w hS rfl rfl mw_307 mw_308 mw_309 mw_65 mw_310 (by decide +kernel) ⟨by decide, by decide⟩ eu3 rfl (by decide) rfl hl.1 (Nat.le_of_ble_eq_true rfl) ⟨Nat.zero_le _, Nat.zero_le _⟩ rfl dc_L_grant_55) hS (fun H locs w hS => ?_)
  refine lv_aload_n hx hb dc_L_grant_58 rfl (lv_at hl 0 rfl) ?_
  obtain ⟨v4, ev4, hF⟩ := pl_bd hF
  refine pl_getR C w (ci := 7) in_L rfl (by decide) 2 (by decide) mw_262 ev4 dc_L_grant_59 ?_
  obtain ⟨u6, eu6, hF⟩ := pl_bd hF
  obtain ⟨q5, eq5, hF⟩ := pl_bd hF
  refine pl_gv (pl_runV (Cn := rn_T) (k := 0) C (tm_T_outdate l D dA tt b n eq5) w hS rfl rfl mw_335 mw_336 mw_337 mw_67 mw_338 (by decide +kernel) ⟨by decide, by decide⟩ eu6 rfl (by decide) rfl hl.1 (Nat.le_of_ble_eq_true rfl) ⟨Nat.zero_le _, Nat.zero_le _⟩ rfl dc_L_grant_62) hS (fun H locs w hS => ?_)
  refine lv_aload_n hx hb dc_L_grant_65 rfl (lv_at hl 0 rfl) ?_
  obtain ⟨v7, ev7, hF⟩ := pl_bd hF
  refine pl_getR C w (ci := 7) in_L rfl (by decide) 0 (by decide) mw_260 ev7 dc_L_grant_66 ?_
  obtain ⟨u9, eu9, hF⟩ := pl_bd hF
  obtain ⟨v8, ev8, hF⟩ := pl_bd hF
  refine pl_gi (pl_runV (Cn := rn_B) (k := 0) C (tm_B_count l D dA tt b n ev8) w hS rfl rfl mw_303 mw_304 mw_305 mw_65 mw_306 (by decide +kernel) ⟨by decide, by decide⟩ eu9 rfl (by decide) rfl hl.1 (Nat.le_of_ble_eq_true rfl) ⟨Nat.zero_le _, Nat.zero_le _⟩ rfl dc_L_grant_69) hS (fun H locs w hS => ?_)
  exact pl_retIw C w hS hF dc_L_grant_72
set_option maxHeartbeats 4000000 in
set_option maxRecDepth 100000 in
theorem tl_L_grant_21 {p : Program} {l : Launch} {e : Env} {s : State} {m : MethodId} {args : Array Value} {below : List Frame} {meth : Method} {c : Code} {D : va_G} {dA : Nat → ClassId} {tt : Nat → Nat} {b n : Nat} (C : pl_C p s m args meth c co_L_grant 4 rn_L (some .int) "grant" D dA tt b) {r : Int32} {f' : pl_H} {f : pl_H} {H : Heap} {locs : List Loc} {ls : Array Slot} (hF : fn_L_grant_21 f = some (r, f')) (w : pl_wd D vwCl dA b n f H) (hS : va_S (pl_A b) s.heap H locs) (hl : lv_has ls 4 []) : W p l e rm_L_grant s m args below meth c H locs 0 0 (MQ below (pl_qI D dA tt b n f' r) args s 0 0 (pl_A b)) (F0 m 21 ls []) := by
  have hx := C.1
  have hb := C.2.1
  have hown := C.2.2.2.2.1
  have hts := C.2.2.2.2.2.2.1
  unfold fn_L_grant_21 at hF
  refine lv_iconst (v := (-1)) hx hb dc_L_grant_21 (by decide) ?_
  exact pl_retIw C w hS hF dc_L_grant_22
set_option maxHeartbeats 4000000 in
set_option maxRecDepth 100000 in
theorem tl_L_grant {p : Program} {l : Launch} {e : Env} {s : State} {m : MethodId} {args : Array Value} {below : List Frame} {meth : Method} {c : Code} {D : va_G} {dA : Nat → ClassId} {tt : Nat → Nat} {b n : Nat} (C : pl_C p s m args meth c co_L_grant 4 rn_L (some .int) "grant" D dA tt b) {r : Int32} {f' : pl_H} {f : pl_H} {a0 : Nat} {x1 : Int32} {y2 : Int64} {H : Heap} {locs : List Loc} {ls : Array Slot} (hF : fn_L_grant f a0 x1 y2 = some (r, f')) (w : pl_wd D vwCl dA b n f H) (hS : va_S (pl_A b) s.heap H locs) (hl : lv_has ls 4 [(0, .ref a0), (1, .int x1), (2, .long y2)]) : W p l e rm_L_grant s m args below meth c H locs 0 0 (MQ below (pl_qI D dA tt b n f' r) args s 0 0 (pl_A b)) (F0 m 0 ls []) := by
  have hx := C.1
  have hb := C.2.1
  have hown := C.2.2.2.2.1
  have hts := C.2.2.2.2.2.2.1
  unfold fn_L_grant at hF
  refine lv_iload_n hx hb dc_L_grant_0 rfl (lv_at hl 1 rfl) ?_
  obtain ⟨v1, ev1, hF⟩ := pl_bd hF
  refine pl_gi (pl_runS (k := 1) C (tm_L_isAccount l D dA tt b n ev1) w hS rfl rfl mw_286 mw_287 mw_64 mw_288 (by decide +kernel) ⟨by decide, by decide⟩ rfl hl.1 (Nat.le_of_ble_eq_true rfl) ⟨Nat.zero_le _, Nat.zero_le _⟩ rfl dc_L_grant_1) hS (fun H locs w hS => ?_)
  refine lv_if_eq hx hb dc_L_grant_4 (tgt := 21) (by decide) (fun hc => ?_) (fun hc => ?_)
  · have hF := (if_pos hc).symm.trans hF
    exact tl_L_grant_21 C hF w hS (lv_sub hl [] rfl)
  · have hF := (if_neg hc).symm.trans hF
    refine lv_lload_n hx hb dc_L_grant_7 rfl (lv_at hl 2 rfl) ?_
    refine lv_lconst (v := 1) hx hb dc_L_grant_8 (by decide) ?_
    refine W.lcmp hx hb dc_L_grant_9 ?_
    refine lv_if_lt hx hb dc_L_grant_10 (tgt := 21) (by decide) (fun hc => ?_) (fun hc => ?_)
    · have hF := (if_pos hc).symm.trans hF
      exact tl_L_grant_21 C hF w hS (lv_sub hl [] rfl)
    · have hF := (if_neg hc).symm.trans hF
      refine lv_lload_n hx hb dc_L_grant_13 rfl (lv_at hl 2 rfl) ?_
      refine lv_ldc2 (v := 1000000000000) hx hb hown (hts _ mw_294) dc_L_grant_14 ?_
      refine W.lcmp hx hb dc_L_grant_17 ?_
      refine lv_if_le hx hb dc_L_grant_18 (tgt := 23) (by decide) (fun hc => ?_) (fun hc => ?_)
      · have hF := (if_pos hc).symm.trans hF
        refine lv_aload_n hx hb dc_L_grant_23 rfl (lv_at hl 0 rfl) ?_
        obtain ⟨v2, ev2, hF⟩ := pl_bd hF
        refine pl_getR C w (ci := 7) in_L rfl (by decide) 0 (by decide) mw_260 ev2 dc_L_grant_24 ?_
        refine lv_iload_n hx hb dc_L_grant_27 rfl (lv_at hl 1 rfl) ?_
        obtain ⟨u4, eu4, hF⟩ := pl_bd hF
        obtain ⟨v3, ev3, hF⟩ := pl_bd hF
        refine pl_gi (pl_runV (Cn := rn_B) (k := 1) C (tm_B_has l D dA tt b n ev3) w hS rfl rfl mw_295 mw_296 mw_297 mw_65 mw_298 (by decide +kernel) ⟨by decide, by decide⟩ eu4 rfl (by decide) rfl hl.1 (Nat.le_of_ble_eq_true rfl) ⟨Nat.zero_le _, Nat.zero_le _⟩ rfl dc_L_grant_28) hS (fun H locs w hS => ?_)
        refine lv_if_ne hx hb dc_L_grant_31 (tgt := 49) (by decide) (fun hc => ?_) (fun hc => ?_)
        · have hF := (if_neg hc).symm.trans hF
          exact tl_L_grant_49 C hF w hS (lv_sub hl [0, 1, 2] rfl)
        · have hF := (if_pos hc).symm.trans hF
          refine lv_aload_n hx hb dc_L_grant_34 rfl (lv_at hl 0 rfl) ?_
          obtain ⟨v5, ev5, hF⟩ := pl_bd hF
          refine pl_getR C w (ci := 7) in_L rfl (by decide) 0 (by decide) mw_260 ev5 dc_L_grant_35 ?_
          obtain ⟨u7, eu7, hF⟩ := pl_bd hF
          obtain ⟨v6, ev6, hF⟩ := pl_bd hF
          refine pl_gi (pl_runV (Cn := rn_B) (k := 0) C (tm_B_count l D dA tt b n ev6) w hS rfl rfl mw_303 mw_304 mw_305 mw_65 mw_306 (by decide +kernel) ⟨by decide, by decide⟩ eu7 rfl (by decide) rfl hl.1 (Nat.le_of_ble_eq_true rfl) ⟨Nat.zero_le _, Nat.zero_le _⟩ rfl dc_L_grant_38) hS (fun H locs w hS => ?_)
          refine lv_bipush (v := 12) hx hb dc_L_grant_41 (by decide) ?_
          refine lv_icmp_lt hx hb dc_L_grant_43 (tgt := 49) (by decide) (fun hc => ?_) (fun hc => ?_)
          · have hF := (if_pos hc).symm.trans hF
            exact tl_L_grant_49 C hF w hS (lv_sub hl [0, 1, 2] rfl)
          · have hF := (if_neg hc).symm.trans hF
            refine lv_bipush (v := (-4)) hx hb dc_L_grant_46 (by decide) ?_
            exact pl_retIw C w hS hF dc_L_grant_48
      · have hF := (if_neg hc).symm.trans hF
        exact tl_L_grant_21 C hF w hS (lv_sub hl [] rfl)
set_option maxHeartbeats 4000000 in
set_option maxRecDepth 100000 in
theorem tm_L_grant (l : Launch) (D : va_G) (dA : Nat → ClassId) (tt : Nat → Nat) (b n : Nat) {f : pl_H} {a0 : Nat} {x1 : Int32} {y2 : Int64} {r : Int32} {f' : pl_H} (hF : fn_L_grant f a0 x1 y2 = some (r, f')) : Met l my_L_grant (Cond.code my_L_grant co_L_grant 4 (some .int) :: pl_tb) rm_L_grant (va_Pc [.ref a0, .int x1, .long y2] (pl_pre D dA tt b n f)) (pl_qI D dA tt b n f' r) 0 0 (pl_A b) := by
  refine Met.ofW (cc := co_L_grant) (maxL := 4) (ret := (some .int)) (by decide) rfl ?_
  intro p e s m args below meth c s₁ B hml hv
  obtain ⟨rfl, w, hK⟩ := hv
  have C : pl_C p s m _ meth c co_L_grant 4 rn_L (some .int) "grant" D dA tt b := ⟨B.exec, B.bytes, hml, B.returns, findClass_of_methodNamed B.named, B.notSynchronized, fun w hw => atoms_spec (ws := Cond.code my_L_grant co_L_grant 4 (some .int) :: pl_tb) B.pre w (List.mem_cons_of_mem _ hw), (name_of_methodNamed B.named B.method).1, hK⟩
  have hl := lv_entry ([.ref a0, .int x1, .long y2]) (n := 4) (Nat.le_of_ble_eq_true rfl)
  rw [lg_entry_eq]
  generalize (lg_sl ([.ref a0, .int x1, .long y2]) ++ List.replicate (4 - (lg_sl ([.ref a0, .int x1, .long y2])).length) Slot.unset).toArray = ls at hl ⊢
  have hl : lv_has ls 4 [(0, .ref a0), (1, .int x1), (2, .long y2)] := hl
  exact tl_L_grant C hF w va_S.rf hl
def rm_L_newcomers : Room := { frames := 2, cells := 0, slots := 0, locals := 43 }
def fn_L_newcomers_127 (f : pl_H) (sx0 : Int32) (sx1 : Int32) : Option (Int32) := some (sx1 + sx0)
def fn_L_newcomers_116 (f : pl_H) (x9 : Int32) (sx0 : Int32) (sx1 : Int32) : Option (Int32) := if x9 = 0 then fn_L_newcomers_127 f 0 (sx1 + sx0) else fn_L_newcomers_127 f 1 (sx1 + sx0)
def fn_L_newcomers_106 (f : pl_H) (x8 : Int32) (x9 : Int32) (sx0 : Int32) : Option (Int32) := if x8 = 0 then fn_L_newcomers_116 f x9 0 sx0 else fn_L_newcomers_116 f x9 1 sx0
def fn_L_newcomers_94 (f : pl_H) (x7 : Int32) (x8 : Int32) (sx0 : Int32) : Option (Int32) := if x7 = 0 then fn_L_newcomers_106 f x8 sx0 0 else fn_L_newcomers_106 f x8 sx0 1
def fn_L_newcomers_93 (f : pl_H) (x7 : Int32) (x8 : Int32) : Option (Int32) := fn_L_newcomers_94 f x7 x8 0
def fn_L_newcomers_89 (f : pl_H) (x7 : Int32) (x8 : Int32) : Option (Int32) := fn_L_newcomers_94 f x7 x8 1
def fn_L_newcomers_45 (f : pl_H) (a0 : Nat) (x1 : Int32) (x2 : Int32) (y5 : Int64) (x7 : Int32) (sx0 : Int32) : Option (Int32) := if (lg_cmp y5 0) ≤ 0 then fn_L_newcomers_93 f x7 sx0 else (pl_gI f a0 7 5).bind fun v1 => if v1 = x1 then fn_L_newcomers_93 f x7 sx0 else (pl_gR f a0 7 0).bind fun v2 => (pl_gI f a0 7 5).bind fun v3 => (pl_is f v2 0).bind fun u5 => (fn_B_has f v2 v3).bind fun v4 => if v4 = 0 then if sx0 = 0 then fn_L_newcomers_89 f x7 sx0 else (pl_gI f a0 7 5).bind fun v6 => if v6 = x2 then fn_L_newcomers_93 f x7 sx0 else fn_L_newcomers_89 f x7 sx0 else fn_L_newcomers_93 f x7 sx0
def fn_L_newcomers_44 (f : pl_H) (a0 : Nat) (x1 : Int32) (x2 : Int32) (y5 : Int64) (x7 : Int32) : Option (Int32) := fn_L_newcomers_45 f a0 x1 x2 y5 x7 0
def fn_L_newcomers_16 (f : pl_H) (a0 : Nat) (x1 : Int32) (x2 : Int32) (y3 : Int64) (y5 : Int64) (sx0 : Int32) : Option (Int32) := if (lg_cmp y3 0) ≤ 0 then fn_L_newcomers_44 f a0 x1 x2 y5 sx0 else if x2 = x1 then fn_L_newcomers_44 f a0 x1 x2 y5 sx0 else (pl_gR f a0 7 0).bind fun v1 => (pl_is f v1 0).bind fun u3 => (fn_B_has f v1 x2).bind fun v2 => if v2 = 0 then fn_L_newcomers_45 f a0 x1 x2 y5 sx0 1 else fn_L_newcomers_44 f a0 x1 x2 y5 sx0
def fn_L_newcomers (f : pl_H) (a0 : Nat) (x1 : Int32) (x2 : Int32) (y3 : Int64) (y5 : Int64) : Option (Int32) := (pl_gR f a0 7 0).bind fun v1 => (pl_is f v1 0).bind fun u3 => (fn_B_has f v1 x1).bind fun v2 => if v2 = 0 then fn_L_newcomers_16 f a0 x1 x2 y3 y5 1 else fn_L_newcomers_16 f a0 x1 x2 y3 y5 0
set_option maxHeartbeats 4000000 in
set_option maxRecDepth 100000 in
theorem tl_L_newcomers_127 {p : Program} {l : Launch} {e : Env} {s : State} {m : MethodId} {args : Array Value} {below : List Frame} {meth : Method} {c : Code} {D : va_G} {dA : Nat → ClassId} {tt : Nat → Nat} {b n : Nat} (C : pl_C p s m args meth c co_L_newcomers 10 rn_L (some .int) "newcomers" D dA tt b) {r : Int32} {f : pl_H} {sx0 : Int32} {sx1 : Int32} {H : Heap} {locs : List Loc} {ls : Array Slot} (hF : fn_L_newcomers_127 f sx0 sx1 = some r) (w : pl_wd D vwCl dA b n f H) (hS : va_S (pl_A b) s.heap H locs) (hl : lv_has ls 10 []) : W p l e rm_L_newcomers s m args below meth c H locs 0 0 (MQ below (pl_qI D dA tt b n f r) args s 0 0 (pl_A b)) (F0 m 127 ls [.int sx0, .int sx1]) := by
  have hx := C.1
  have hb := C.2.1
  have hown := C.2.2.2.2.1
  have hts := C.2.2.2.2.2.2.1
  unfold fn_L_newcomers_127 at hF
  refine lv_iadd hx hb dc_L_newcomers_127 ?_
  exact pl_retI C w hS hF dc_L_newcomers_128
set_option maxHeartbeats 4000000 in
set_option maxRecDepth 100000 in
theorem tl_L_newcomers_116 {p : Program} {l : Launch} {e : Env} {s : State} {m : MethodId} {args : Array Value} {below : List Frame} {meth : Method} {c : Code} {D : va_G} {dA : Nat → ClassId} {tt : Nat → Nat} {b n : Nat} (C : pl_C p s m args meth c co_L_newcomers 10 rn_L (some .int) "newcomers" D dA tt b) {r : Int32} {f : pl_H} {x9 : Int32} {sx0 : Int32} {sx1 : Int32} {H : Heap} {locs : List Loc} {ls : Array Slot} (hF : fn_L_newcomers_116 f x9 sx0 sx1 = some r) (w : pl_wd D vwCl dA b n f H) (hS : va_S (pl_A b) s.heap H locs) (hl : lv_has ls 10 [(9, .int x9)]) : W p l e rm_L_newcomers s m args below meth c H locs 0 0 (MQ below (pl_qI D dA tt b n f r) args s 0 0 (pl_A b)) (F0 m 116 ls [.int sx0, .int sx1]) := by
  have hx := C.1
  have hb := C.2.1
  have hown := C.2.2.2.2.1
  have hts := C.2.2.2.2.2.2.1
  unfold fn_L_newcomers_116 at hF
  refine lv_iadd hx hb dc_L_newcomers_116 ?_
  refine lv_iload hx hb dc_L_newcomers_117 (lv_at hl 0 rfl) ?_
  refine lv_if_eq hx hb dc_L_newcomers_119 (tgt := 126) (by decide) (fun hc => ?_) (fun hc => ?_)
  · have hF := (if_pos hc).symm.trans hF
    refine lv_iconst (v := 0) hx hb dc_L_newcomers_126 (by decide) ?_
    exact tl_L_newcomers_127 C hF w hS (lv_sub hl [] rfl)
  · have hF := (if_neg hc).symm.trans hF
    refine lv_iconst (v := 1) hx hb dc_L_newcomers_122 (by decide) ?_
    refine lv_goto hx hb dc_L_newcomers_123 (tgt := 127) (by decide) ?_
    exact tl_L_newcomers_127 C hF w hS (lv_sub hl [] rfl)
set_option maxHeartbeats 4000000 in
set_option maxRecDepth 100000 in
theorem tl_L_newcomers_106 {p : Program} {l : Launch} {e : Env} {s : State} {m : MethodId} {args : Array Value} {below : List Frame} {meth : Method} {c : Code} {D : va_G} {dA : Nat → ClassId} {tt : Nat → Nat} {b n : Nat} (C : pl_C p s m args meth c co_L_newcomers 10 rn_L (some .int) "newcomers" D dA tt b) {r : Int32} {f : pl_H} {x8 : Int32} {x9 : Int32} {sx0 : Int32} {H : Heap} {locs : List Loc} {ls : Array Slot} (hF : fn_L_newcomers_106 f x8 x9 sx0 = some r) (w : pl_wd D vwCl dA b n f H) (hS : va_S (pl_A b) s.heap H locs) (hl : lv_has ls 10 [(8, .int x8), (9, .int x9)]) : W p l e rm_L_newcomers s m args below meth c H locs 0 0 (MQ below (pl_qI D dA tt b n f r) args s 0 0 (pl_A b)) (F0 m 106 ls [.int sx0]) := by
  have hx := C.1
  have hb := C.2.1
  have hown := C.2.2.2.2.1
  have hts := C.2.2.2.2.2.2.1
  unfold fn_L_newcomers_106 at hF
  refine lv_iload hx hb dc_L_newcomers_106 (lv_at hl 0 rfl) ?_
  refine lv_if_eq hx hb dc_L_newcomers_108 (tgt := 115) (by decide) (fun hc => ?_) (fun hc => ?_)
  · have hF := (if_pos hc).symm.trans hF
    refine lv_iconst (v := 0) hx hb dc_L_newcomers_115 (by decide) ?_
    exact tl_L_newcomers_116 C hF w hS (lv_sub hl [1] rfl)
  · have hF := (if_neg hc).symm.trans hF
    refine lv_iconst (v := 1) hx hb dc_L_newcomers_111 (by decide) ?_
    refine lv_goto hx hb dc_L_newcomers_112 (tgt := 116) (by decide) ?_
    exact tl_L_newcomers_116 C hF w hS (lv_sub hl [1] rfl)
set_option maxHeartbeats 4000000 in
set_option maxRecDepth 100000 in
theorem tl_L_newcomers_94 {p : Program} {l : Launch} {e : Env} {s : State} {m : MethodId} {args : Array Value} {below : List Frame} {meth : Method} {c : Code} {D : va_G} {dA : Nat → ClassId} {tt : Nat → Nat} {b n : Nat} (C : pl_C p s m args meth c co_L_newcomers 10 rn_L (some .int) "newcomers" D dA tt b) {r : Int32} {f : pl_H} {x7 : Int32} {x8 : Int32} {sx0 : Int32} {H : Heap} {locs : List Loc} {ls : Array Slot} (hF : fn_L_newcomers_94 f x7 x8 sx0 = some r) (w : pl_wd D vwCl dA b n f H) (hS : va_S (pl_A b) s.heap H locs) (hl : lv_has ls 10 [(7, .int x7), (8, .int x8)]) : W p l e rm_L_newcomers s m args below meth c H locs 0 0 (MQ below (pl_qI D dA tt b n f r) args s 0 0 (pl_A b)) (F0 m 94 ls [.int sx0]) := by
  have hx := C.1
  have hb := C.2.1
  have hown := C.2.2.2.2.1
  have hts := C.2.2.2.2.2.2.1
  unfold fn_L_newcomers_94 at hF
  refine lv_istore (lv' := [(9, .int sx0), (7, .int x7), (8, .int x8)]) hx hb dc_L_newcomers_94 hl (by decide) rfl (fun ls hl => ?_)
  refine lv_iload hx hb dc_L_newcomers_96 (lv_at hl 1 rfl) ?_
  refine lv_if_eq hx hb dc_L_newcomers_98 (tgt := 105) (by decide) (fun hc => ?_) (fun hc => ?_)
  · have hF := (if_pos hc).symm.trans hF
    refine lv_iconst (v := 0) hx hb dc_L_newcomers_105 (by decide) ?_
    exact tl_L_newcomers_106 C hF w hS (lv_sub hl [2, 0] rfl)
  · have hF := (if_neg hc).symm.trans hF
    refine lv_iconst (v := 1) hx hb dc_L_newcomers_101 (by decide) ?_
    refine lv_goto hx hb dc_L_newcomers_102 (tgt := 106) (by decide) ?_
    exact tl_L_newcomers_106 C hF w hS (lv_sub hl [2, 0] rfl)
set_option maxHeartbeats 4000000 in
set_option maxRecDepth 100000 in
theorem tl_L_newcomers_93 {p : Program} {l : Launch} {e : Env} {s : State} {m : MethodId} {args : Array Value} {below : List Frame} {meth : Method} {c : Code} {D : va_G} {dA : Nat → ClassId} {tt : Nat → Nat} {b n : Nat} (C : pl_C p s m args meth c co_L_newcomers 10 rn_L (some .int) "newcomers" D dA tt b) {r : Int32} {f : pl_H} {x7 : Int32} {x8 : Int32} {H : Heap} {locs : List Loc} {ls : Array Slot} (hF : fn_L_newcomers_93 f x7 x8 = some r) (w : pl_wd D vwCl dA b n f H) (hS : va_S (pl_A b) s.heap H locs) (hl : lv_has ls 10 [(7, .int x7), (8, .int x8)]) : W p l e rm_L_newcomers s m args below meth c H locs 0 0 (MQ below (pl_qI D dA tt b n f r) args s 0 0 (pl_A b)) (F0 m 93 ls []) := by
  have hx := C.1
  have hb := C.2.1
  have hown := C.2.2.2.2.1
  have hts := C.2.2.2.2.2.2.1
  unfold fn_L_newcomers_93 at hF
  refine lv_iconst (v := 0) hx hb dc_L_newcomers_93 (by decide) ?_
  exact tl_L_newcomers_94 C hF w hS (lv_sub hl [0, 1] rfl)
set_option maxHeartbeats 4000000 in
set_option maxRecDepth 100000 in
theorem tl_L_newcomers_89 {p : Program} {l : Launch} {e : Env} {s : State} {m : MethodId} {args : Array Value} {below : List Frame} {meth : Method} {c : Code} {D : va_G} {dA : Nat → ClassId} {tt : Nat → Nat} {b n : Nat} (C : pl_C p s m args meth c co_L_newcomers 10 rn_L (some .int) "newcomers" D dA tt b) {r : Int32} {f : pl_H} {x7 : Int32} {x8 : Int32} {H : Heap} {locs : List Loc} {ls : Array Slot} (hF : fn_L_newcomers_89 f x7 x8 = some r) (w : pl_wd D vwCl dA b n f H) (hS : va_S (pl_A b) s.heap H locs) (hl : lv_has ls 10 [(7, .int x7), (8, .int x8)]) : W p l e rm_L_newcomers s m args below meth c H locs 0 0 (MQ below (pl_qI D dA tt b n f r) args s 0 0 (pl_A b)) (F0 m 89 ls []) := by
  have hx := C.1
  have hb := C.2.1
  have hown := C.2.2.2.2.1
  have hts := C.2.2.2.2.2.2.1
  unfold fn_L_newcomers_89 at hF
  refine lv_iconst (v := 1) hx hb dc_L_newcomers_89 (by decide) ?_
  refine lv_goto hx hb dc_L_newcomers_90 (tgt := 94) (by decide) ?_
  exact tl_L_newcomers_94 C hF w hS (lv_sub hl [0, 1] rfl)
set_option maxHeartbeats 4000000 in
set_option maxRecDepth 100000 in
theorem tl_L_newcomers_45 {p : Program} {l : Launch} {e : Env} {s : State} {m : MethodId} {args : Array Value} {below : List Frame} {meth : Method} {c : Code} {D : va_G} {dA : Nat → ClassId} {tt : Nat → Nat} {b n : Nat} (C : pl_C p s m args meth c co_L_newcomers 10 rn_L (some .int) "newcomers" D dA tt b) {r : Int32} {f : pl_H} {a0 : Nat} {x1 : Int32} {x2 : Int32} {y5 : Int64} {x7 : Int32} {sx0 : Int32} {H : Heap} {locs : List Loc} {ls : Array Slot} (hF : fn_L_newcomers_45 f a0 x1 x2 y5 x7 sx0 = some r) (w : pl_wd D vwCl dA b n f H) (hS : va_S (pl_A b) s.heap H locs) (hl : lv_has ls 10 [(0, .ref a0), (1, .int x1), (2, .int x2), (5, .long y5), (7, .int x7)]) : W p l e rm_L_newcomers s m args below meth c H locs 0 0 (MQ below (pl_qI D dA tt b n f r) args s 0 0 (pl_A b)) (F0 m 45 ls [.int sx0]) := by
  have hx := C.1
  have hb := C.2.1
  have hown := C.2.2.2.2.1
  have hts := C.2.2.2.2.2.2.1
  unfold fn_L_newcomers_45 at hF
  refine lv_istore (lv' := [(8, .int sx0), (0, .ref a0), (1, .int x1), (2, .int x2), (5, .long y5), (7, .int x7)]) hx hb dc_L_newcomers_45 hl (by decide) rfl (fun ls hl => ?_)
  refine lv_lload hx hb dc_L_newcomers_47 (lv_at hl 4 rfl) ?_
  refine lv_lconst (v := 0) hx hb dc_L_newcomers_49 (by decide) ?_
  refine W.lcmp hx hb dc_L_newcomers_50 ?_
  refine lv_if_le hx hb dc_L_newcomers_51 (tgt := 93) (by decide) (fun hc => ?_) (fun hc => ?_)
  · have hF := (if_pos hc).symm.trans hF
    exact tl_L_newcomers_93 C hF w hS (lv_sub hl [5, 0] rfl)
  · have hF := (if_neg hc).symm.trans hF
    refine lv_aload_n hx hb dc_L_newcomers_54 rfl (lv_at hl 1 rfl) ?_
    obtain ⟨v1, ev1, hF⟩ := pl_bd hF
    refine pl_getI C w (ci := 7) in_L rfl (by decide) 5 (by decide) mw_265 ev1 dc_L_newcomers_55 ?_
    refine lv_iload_n hx hb dc_L_newcomers_58 rfl (lv_at hl 2 rfl) ?_
    refine lv_icmp_eq hx hb dc_L_newcomers_59 (tgt := 93) (by decide) (fun hc => ?_) (fun hc => ?_)
    · have hF := (if_pos hc).symm.trans hF
      exact tl_L_newcomers_93 C hF w hS (lv_sub hl [5, 0] rfl)
    · have hF := (if_neg hc).symm.trans hF
      refine lv_aload_n hx hb dc_L_newcomers_62 rfl (lv_at hl 1 rfl) ?_
      obtain ⟨v2, ev2, hF⟩ := pl_bd hF
      refine pl_getR C w (ci := 7) in_L rfl (by decide) 0 (by decide) mw_260 ev2 dc_L_newcomers_63 ?_
      refine lv_aload_n hx hb dc_L_newcomers_66 rfl (lv_at hl 1 rfl) ?_
      obtain ⟨v3, ev3, hF⟩ := pl_bd hF
      refine pl_getI C w (ci := 7) in_L rfl (by decide) 5 (by decide) mw_265 ev3 dc_L_newcomers_67 ?_
      obtain ⟨u5, eu5, hF⟩ := pl_bd hF
      obtain ⟨v4, ev4, hF⟩ := pl_bd hF
      refine pl_gi (pl_runV (Cn := rn_B) (k := 1) C (tm_B_has l D dA tt b n ev4) w hS rfl rfl mw_295 mw_296 mw_297 mw_65 mw_298 (by decide +kernel) ⟨by decide, by decide⟩ eu5 rfl (by decide) rfl hl.1 (Nat.le_of_ble_eq_true rfl) ⟨Nat.zero_le _, Nat.zero_le _⟩ rfl dc_L_newcomers_70) hS (fun H locs w hS => ?_)
      refine lv_if_ne hx hb dc_L_newcomers_73 (tgt := 93) (by decide) (fun hc => ?_) (fun hc => ?_)
      · have hF := (if_neg hc).symm.trans hF
        exact tl_L_newcomers_93 C hF w hS (lv_sub hl [5, 0] rfl)
      · have hF := (if_pos hc).symm.trans hF
        refine lv_iload hx hb dc_L_newcomers_76 (lv_at hl 0 rfl) ?_
        refine lv_if_eq hx hb dc_L_newcomers_78 (tgt := 89) (by decide) (fun hc => ?_) (fun hc => ?_)
        · have hF := (if_pos hc).symm.trans hF
          exact tl_L_newcomers_89 C hF w hS (lv_sub hl [5, 0] rfl)
        · have hF := (if_neg hc).symm.trans hF
          refine lv_aload_n hx hb dc_L_newcomers_81 rfl (lv_at hl 1 rfl) ?_
          obtain ⟨v6, ev6, hF⟩ := pl_bd hF
          refine pl_getI C w (ci := 7) in_L rfl (by decide) 5 (by decide) mw_265 ev6 dc_L_newcomers_82 ?_
          refine lv_iload_n hx hb dc_L_newcomers_85 rfl (lv_at hl 3 rfl) ?_
          refine lv_icmp_eq hx hb dc_L_newcomers_86 (tgt := 93) (by decide) (fun hc => ?_) (fun hc => ?_)
          · have hF := (if_pos hc).symm.trans hF
            exact tl_L_newcomers_93 C hF w hS (lv_sub hl [5, 0] rfl)
          · have hF := (if_neg hc).symm.trans hF
            exact tl_L_newcomers_89 C hF w hS (lv_sub hl [5, 0] rfl)
set_option maxHeartbeats 4000000 in
set_option maxRecDepth 100000 in
theorem tl_L_newcomers_44 {p : Program} {l : Launch} {e : Env} {s : State} {m : MethodId} {args : Array Value} {below : List Frame} {meth : Method} {c : Code} {D : va_G} {dA : Nat → ClassId} {tt : Nat → Nat} {b n : Nat} (C : pl_C p s m args meth c co_L_newcomers 10 rn_L (some .int) "newcomers" D dA tt b) {r : Int32} {f : pl_H} {a0 : Nat} {x1 : Int32} {x2 : Int32} {y5 : Int64} {x7 : Int32} {H : Heap} {locs : List Loc} {ls : Array Slot} (hF : fn_L_newcomers_44 f a0 x1 x2 y5 x7 = some r) (w : pl_wd D vwCl dA b n f H) (hS : va_S (pl_A b) s.heap H locs) (hl : lv_has ls 10 [(0, .ref a0), (1, .int x1), (2, .int x2), (5, .long y5), (7, .int x7)]) : W p l e rm_L_newcomers s m args below meth c H locs 0 0 (MQ below (pl_qI D dA tt b n f r) args s 0 0 (pl_A b)) (F0 m 44 ls []) := by
  have hx := C.1
  have hb := C.2.1
  have hown := C.2.2.2.2.1
  have hts := C.2.2.2.2.2.2.1
  unfold fn_L_newcomers_44 at hF
  refine lv_iconst (v := 0) hx hb dc_L_newcomers_44 (by decide) ?_
  exact tl_L_newcomers_45 C hF w hS (lv_sub hl [0, 1, 2, 3, 4] rfl)
set_option maxHeartbeats 4000000 in
set_option maxRecDepth 100000 in
theorem tl_L_newcomers_16 {p : Program} {l : Launch} {e : Env} {s : State} {m : MethodId} {args : Array Value} {below : List Frame} {meth : Method} {c : Code} {D : va_G} {dA : Nat → ClassId} {tt : Nat → Nat} {b n : Nat} (C : pl_C p s m args meth c co_L_newcomers 10 rn_L (some .int) "newcomers" D dA tt b) {r : Int32} {f : pl_H} {a0 : Nat} {x1 : Int32} {x2 : Int32} {y3 : Int64} {y5 : Int64} {sx0 : Int32} {H : Heap} {locs : List Loc} {ls : Array Slot} (hF : fn_L_newcomers_16 f a0 x1 x2 y3 y5 sx0 = some r) (w : pl_wd D vwCl dA b n f H) (hS : va_S (pl_A b) s.heap H locs) (hl : lv_has ls 10 [(0, .ref a0), (1, .int x1), (2, .int x2), (3, .long y3), (5, .long y5)]) : W p l e rm_L_newcomers s m args below meth c H locs 0 0 (MQ below (pl_qI D dA tt b n f r) args s 0 0 (pl_A b)) (F0 m 16 ls [.int sx0]) := by
  have hx := C.1
  have hb := C.2.1
  have hown := C.2.2.2.2.1
  have hts := C.2.2.2.2.2.2.1
  unfold fn_L_newcomers_16 at hF
  refine lv_istore (lv' := [(7, .int sx0), (0, .ref a0), (1, .int x1), (2, .int x2), (3, .long y3), (5, .long y5)]) hx hb dc_L_newcomers_16 hl (by decide) rfl (fun ls hl => ?_)
  refine lv_lload_n hx hb dc_L_newcomers_18 rfl (lv_at hl 4 rfl) ?_
  refine lv_lconst (v := 0) hx hb dc_L_newcomers_19 (by decide) ?_
  refine W.lcmp hx hb dc_L_newcomers_20 ?_
  refine lv_if_le hx hb dc_L_newcomers_21 (tgt := 44) (by decide) (fun hc => ?_) (fun hc => ?_)
  · have hF := (if_pos hc).symm.trans hF
    exact tl_L_newcomers_44 C hF w hS (lv_sub hl [1, 2, 3, 5, 0] rfl)
  · have hF := (if_neg hc).symm.trans hF
    refine lv_iload_n hx hb dc_L_newcomers_24 rfl (lv_at hl 3 rfl) ?_
    refine lv_iload_n hx hb dc_L_newcomers_25 rfl (lv_at hl 2 rfl) ?_
    refine lv_icmp_eq hx hb dc_L_newcomers_26 (tgt := 44) (by decide) (fun hc => ?_) (fun hc => ?_)
    · have hF := (if_pos hc).symm.trans hF
      exact tl_L_newcomers_44 C hF w hS (lv_sub hl [1, 2, 3, 5, 0] rfl)
    · have hF := (if_neg hc).symm.trans hF
      refine lv_aload_n hx hb dc_L_newcomers_29 rfl (lv_at hl 1 rfl) ?_
      obtain ⟨v1, ev1, hF⟩ := pl_bd hF
      refine pl_getR C w (ci := 7) in_L rfl (by decide) 0 (by decide) mw_260 ev1 dc_L_newcomers_30 ?_
      refine lv_iload_n hx hb dc_L_newcomers_33 rfl (lv_at hl 3 rfl) ?_
      obtain ⟨u3, eu3, hF⟩ := pl_bd hF
      obtain ⟨v2, ev2, hF⟩ := pl_bd hF
      refine pl_gi (pl_runV (Cn := rn_B) (k := 1) C (tm_B_has l D dA tt b n ev2) w hS rfl rfl mw_295 mw_296 mw_297 mw_65 mw_298 (by decide +kernel) ⟨by decide, by decide⟩ eu3 rfl (by decide) rfl hl.1 (Nat.le_of_ble_eq_true rfl) ⟨Nat.zero_le _, Nat.zero_le _⟩ rfl dc_L_newcomers_34) hS (fun H locs w hS => ?_)
      refine lv_if_ne hx hb dc_L_newcomers_37 (tgt := 44) (by decide) (fun hc => ?_) (fun hc => ?_)
      · have hF := (if_neg hc).symm.trans hF
        exact tl_L_newcomers_44 C hF w hS (lv_sub hl [1, 2, 3, 5, 0] rfl)
      · have hF := (if_pos hc).symm.trans hF
        refine lv_iconst (v := 1) hx hb dc_L_newcomers_40 (by decide) ?_
        refine lv_goto hx hb dc_L_newcomers_41 (tgt := 45) (by decide) ?_
        exact tl_L_newcomers_45 C hF w hS (lv_sub hl [1, 2, 3, 5, 0] rfl)
set_option maxHeartbeats 4000000 in
set_option maxRecDepth 100000 in
theorem tl_L_newcomers {p : Program} {l : Launch} {e : Env} {s : State} {m : MethodId} {args : Array Value} {below : List Frame} {meth : Method} {c : Code} {D : va_G} {dA : Nat → ClassId} {tt : Nat → Nat} {b n : Nat} (C : pl_C p s m args meth c co_L_newcomers 10 rn_L (some .int) "newcomers" D dA tt b) {r : Int32} {f : pl_H} {a0 : Nat} {x1 : Int32} {x2 : Int32} {y3 : Int64} {y5 : Int64} {H : Heap} {locs : List Loc} {ls : Array Slot} (hF : fn_L_newcomers f a0 x1 x2 y3 y5 = some r) (w : pl_wd D vwCl dA b n f H) (hS : va_S (pl_A b) s.heap H locs) (hl : lv_has ls 10 [(0, .ref a0), (1, .int x1), (2, .int x2), (3, .long y3), (5, .long y5)]) : W p l e rm_L_newcomers s m args below meth c H locs 0 0 (MQ below (pl_qI D dA tt b n f r) args s 0 0 (pl_A b)) (F0 m 0 ls []) := by
  have hx := C.1
  have hb := C.2.1
  have hown := C.2.2.2.2.1
  have hts := C.2.2.2.2.2.2.1
  unfold fn_L_newcomers at hF
  refine lv_aload_n hx hb dc_L_newcomers_0 rfl (lv_at hl 0 rfl) ?_
  obtain ⟨v1, ev1, hF⟩ := pl_bd hF
  refine pl_getR C w (ci := 7) in_L rfl (by decide) 0 (by decide) mw_260 ev1 dc_L_newcomers_1 ?_
  refine lv_iload_n hx hb dc_L_newcomers_4 rfl (lv_at hl 1 rfl) ?_
  obtain ⟨u3, eu3, hF⟩ := pl_bd hF
  obtain ⟨v2, ev2, hF⟩ := pl_bd hF
  refine pl_gi (pl_runV (Cn := rn_B) (k := 1) C (tm_B_has l D dA tt b n ev2) w hS rfl rfl mw_295 mw_296 mw_297 mw_65 mw_298 (by decide +kernel) ⟨by decide, by decide⟩ eu3 rfl (by decide) rfl hl.1 (Nat.le_of_ble_eq_true rfl) ⟨Nat.zero_le _, Nat.zero_le _⟩ rfl dc_L_newcomers_5) hS (fun H locs w hS => ?_)
  refine lv_if_ne hx hb dc_L_newcomers_8 (tgt := 15) (by decide) (fun hc => ?_) (fun hc => ?_)
  · have hF := (if_neg hc).symm.trans hF
    refine lv_iconst (v := 0) hx hb dc_L_newcomers_15 (by decide) ?_
    exact tl_L_newcomers_16 C hF w hS (lv_sub hl [0, 1, 2, 3, 4] rfl)
  · have hF := (if_pos hc).symm.trans hF
    refine lv_iconst (v := 1) hx hb dc_L_newcomers_11 (by decide) ?_
    refine lv_goto hx hb dc_L_newcomers_12 (tgt := 16) (by decide) ?_
    exact tl_L_newcomers_16 C hF w hS (lv_sub hl [0, 1, 2, 3, 4] rfl)
set_option maxHeartbeats 4000000 in
set_option maxRecDepth 100000 in
theorem tm_L_newcomers (l : Launch) (D : va_G) (dA : Nat → ClassId) (tt : Nat → Nat) (b n : Nat) {f : pl_H} {a0 : Nat} {x1 : Int32} {x2 : Int32} {y3 : Int64} {y5 : Int64} {r : Int32} (hF : fn_L_newcomers f a0 x1 x2 y3 y5 = some r) : Met l my_L_newcomers (Cond.code my_L_newcomers co_L_newcomers 10 (some .int) :: pl_tb) rm_L_newcomers (va_Pc [.ref a0, .int x1, .int x2, .long y3, .long y5] (pl_pre D dA tt b n f)) (pl_qI D dA tt b n f r) 0 0 (pl_A b) := by
  refine Met.ofW (cc := co_L_newcomers) (maxL := 10) (ret := (some .int)) (by decide) rfl ?_
  intro p e s m args below meth c s₁ B hml hv
  obtain ⟨rfl, w, hK⟩ := hv
  have C : pl_C p s m _ meth c co_L_newcomers 10 rn_L (some .int) "newcomers" D dA tt b := ⟨B.exec, B.bytes, hml, B.returns, findClass_of_methodNamed B.named, B.notSynchronized, fun w hw => atoms_spec (ws := Cond.code my_L_newcomers co_L_newcomers 10 (some .int) :: pl_tb) B.pre w (List.mem_cons_of_mem _ hw), (name_of_methodNamed B.named B.method).1, hK⟩
  have hl := lv_entry ([.ref a0, .int x1, .int x2, .long y3, .long y5]) (n := 10) (Nat.le_of_ble_eq_true rfl)
  rw [lg_entry_eq]
  generalize (lg_sl ([.ref a0, .int x1, .int x2, .long y3, .long y5]) ++ List.replicate (10 - (lg_sl ([.ref a0, .int x1, .int x2, .long y3, .long y5])).length) Slot.unset).toArray = ls at hl ⊢
  have hl : lv_has ls 10 [(0, .ref a0), (1, .int x1), (2, .int x2), (3, .long y3), (5, .long y5)] := hl
  exact tl_L_newcomers C hF w va_S.rf hl
def rm_L_send : Room := { frames := 4, cells := 0, slots := 0, locals := 93 }
def fn_L_send_29 (f : pl_H) : Option (Int32 × pl_H) := some ((-1), f)
def fn_L_send (f : pl_H) (a0 : Nat) (x1 : Int32) (x2 : Int32) (y3 : Int64) (y5 : Int64) (x7 : Int32) : Option (Int32 × pl_H) := (fn_L_isAccount f x1).bind fun v1 => if v1 = 0 then fn_L_send_29 f else (fn_L_isAccount f x2).bind fun v2 => if v2 = 0 then fn_L_send_29 f else (fn_L_isSendable f y3).bind fun v3 => if v3 = 0 then fn_L_send_29 f else (fn_L_isSendable f y5).bind fun v4 => if v4 = 0 then fn_L_send_29 f else (pl_gR f a0 7 0).bind fun v5 => (pl_is f v5 0).bind fun u7 => (fn_B_nonceOf f v5 x1).bind fun v6 => if x7 = v6 then (pl_gR f a0 7 0).bind fun v8 => (pl_is f v8 0).bind fun u10 => (fn_B_balanceOf f v8 x1).bind fun v9 => if (lg_cmp (y3 + y5) v9) ≤ 0 then (pl_gR f a0 7 0).bind fun v11 => (pl_is f v11 0).bind fun u13 => (fn_B_count f v11).bind fun v12 => (pl_is f a0 7).bind fun u15 => (fn_L_newcomers f a0 x1 x2 y3 y5).bind fun v14 => if (v12 + v14) ≤ 12 then (pl_gR f a0 7 0).bind fun v16 => (pl_gR f a0 7 0).bind fun v17 => (pl_is f v17 0).bind fun u19 => (fn_B_balanceOf f v17 x1).bind fun v18 => (pl_is f v16 0).bind fun u21 => (fn_B_put f v16 x1 (x7 + 1) ((v18 - y3) - y5)).bind fun q20 => (pl_gR q20 a0 7 0).bind fun v22 => (pl_is q20 v22 0).bind fun u24 => (fn_B_credit q20 v22 x2 y3).bind fun q23 => (pl_gR q23 a0 7 0).bind fun v25 => (pl_gI q23 a0 7 5).bind fun v26 => (pl_is q23 v25 0).bind fun u28 => (fn_B_credit q23 v25 v26 y5).bind fun q27 => (pl_gR q27 a0 7 2).bind fun v29 => (pl_is q27 v29 5).bind fun u31 => (fn_T_outdate q27 v29).bind fun q30 => (pl_gR q30 a0 7 0).bind fun v32 => (pl_is q30 v32 0).bind fun u34 => (fn_B_count q30 v32).bind fun v33 => some (v33, q30) else some ((-4), f) else some ((-3), f) else some ((-2), f)
set_option maxHeartbeats 4000000 in
set_option maxRecDepth 100000 in
theorem tl_L_send_29 {p : Program} {l : Launch} {e : Env} {s : State} {m : MethodId} {args : Array Value} {below : List Frame} {meth : Method} {c : Code} {D : va_G} {dA : Nat → ClassId} {tt : Nat → Nat} {b n : Nat} (C : pl_C p s m args meth c co_L_send 8 rn_L (some .int) "send" D dA tt b) {r : Int32} {f' : pl_H} {f : pl_H} {H : Heap} {locs : List Loc} {ls : Array Slot} (hF : fn_L_send_29 f = some (r, f')) (w : pl_wd D vwCl dA b n f H) (hS : va_S (pl_A b) s.heap H locs) (hl : lv_has ls 8 []) : W p l e rm_L_send s m args below meth c H locs 0 0 (MQ below (pl_qI D dA tt b n f' r) args s 0 0 (pl_A b)) (F0 m 29 ls []) := by
  have hx := C.1
  have hb := C.2.1
  have hown := C.2.2.2.2.1
  have hts := C.2.2.2.2.2.2.1
  unfold fn_L_send_29 at hF
  refine lv_iconst (v := (-1)) hx hb dc_L_send_29 (by decide) ?_
  exact pl_retIw C w hS hF dc_L_send_30
set_option maxHeartbeats 4000000 in
set_option maxRecDepth 100000 in
theorem tl_L_send {p : Program} {l : Launch} {e : Env} {s : State} {m : MethodId} {args : Array Value} {below : List Frame} {meth : Method} {c : Code} {D : va_G} {dA : Nat → ClassId} {tt : Nat → Nat} {b n : Nat} (C : pl_C p s m args meth c co_L_send 8 rn_L (some .int) "send" D dA tt b) {r : Int32} {f' : pl_H} {f : pl_H} {a0 : Nat} {x1 : Int32} {x2 : Int32} {y3 : Int64} {y5 : Int64} {x7 : Int32} {H : Heap} {locs : List Loc} {ls : Array Slot} (hF : fn_L_send f a0 x1 x2 y3 y5 x7 = some (r, f')) (w : pl_wd D vwCl dA b n f H) (hS : va_S (pl_A b) s.heap H locs) (hl : lv_has ls 8 [(0, .ref a0), (1, .int x1), (2, .int x2), (3, .long y3), (5, .long y5), (7, .int x7)]) : W p l e rm_L_send s m args below meth c H locs 0 0 (MQ below (pl_qI D dA tt b n f' r) args s 0 0 (pl_A b)) (F0 m 0 ls []) := by
  have hx := C.1
  have hb := C.2.1
  have hown := C.2.2.2.2.1
  have hts := C.2.2.2.2.2.2.1
  unfold fn_L_send at hF
  refine lv_iload_n hx hb dc_L_send_0 rfl (lv_at hl 1 rfl) ?_
  obtain ⟨v1, ev1, hF⟩ := pl_bd hF
  refine pl_gi (pl_runS (k := 1) C (tm_L_isAccount l D dA tt b n ev1) w hS rfl rfl mw_286 mw_287 mw_64 mw_288 (by decide +kernel) ⟨by decide, by decide⟩ rfl hl.1 (Nat.le_of_ble_eq_true rfl) ⟨Nat.zero_le _, Nat.zero_le _⟩ rfl dc_L_send_1) hS (fun H locs w hS => ?_)
  refine lv_if_eq hx hb dc_L_send_4 (tgt := 29) (by decide) (fun hc => ?_) (fun hc => ?_)
  · have hF := (if_pos hc).symm.trans hF
    exact tl_L_send_29 C hF w hS (lv_sub hl [] rfl)
  · have hF := (if_neg hc).symm.trans hF
    refine lv_iload_n hx hb dc_L_send_7 rfl (lv_at hl 2 rfl) ?_
    obtain ⟨v2, ev2, hF⟩ := pl_bd hF
    refine pl_gi (pl_runS (k := 1) C (tm_L_isAccount l D dA tt b n ev2) w hS rfl rfl mw_286 mw_287 mw_64 mw_288 (by decide +kernel) ⟨by decide, by decide⟩ rfl hl.1 (Nat.le_of_ble_eq_true rfl) ⟨Nat.zero_le _, Nat.zero_le _⟩ rfl dc_L_send_8) hS (fun H locs w hS => ?_)
    refine lv_if_eq hx hb dc_L_send_11 (tgt := 29) (by decide) (fun hc => ?_) (fun hc => ?_)
    · have hF := (if_pos hc).symm.trans hF
      exact tl_L_send_29 C hF w hS (lv_sub hl [] rfl)
    · have hF := (if_neg hc).symm.trans hF
      refine lv_lload_n hx hb dc_L_send_14 rfl (lv_at hl 3 rfl) ?_
      obtain ⟨v3, ev3, hF⟩ := pl_bd hF
      refine pl_gi (pl_runS (k := 1) C (tm_L_isSendable l D dA tt b n ev3) w hS rfl rfl mw_343 mw_344 mw_64 mw_345 (by decide +kernel) ⟨by decide, by decide⟩ rfl hl.1 (Nat.le_of_ble_eq_true rfl) ⟨Nat.zero_le _, Nat.zero_le _⟩ rfl dc_L_send_15) hS (fun H locs w hS => ?_)
      refine lv_if_eq hx hb dc_L_send_18 (tgt := 29) (by decide) (fun hc => ?_) (fun hc => ?_)
      · have hF := (if_pos hc).symm.trans hF
        exact tl_L_send_29 C hF w hS (lv_sub hl [] rfl)
      · have hF := (if_neg hc).symm.trans hF
        refine lv_lload hx hb dc_L_send_21 (lv_at hl 4 rfl) ?_
        obtain ⟨v4, ev4, hF⟩ := pl_bd hF
        refine pl_gi (pl_runS (k := 1) C (tm_L_isSendable l D dA tt b n ev4) w hS rfl rfl mw_343 mw_344 mw_64 mw_345 (by decide +kernel) ⟨by decide, by decide⟩ rfl hl.1 (Nat.le_of_ble_eq_true rfl) ⟨Nat.zero_le _, Nat.zero_le _⟩ rfl dc_L_send_23) hS (fun H locs w hS => ?_)
        refine lv_if_ne hx hb dc_L_send_26 (tgt := 31) (by decide) (fun hc => ?_) (fun hc => ?_)
        · have hF := (if_neg hc).symm.trans hF
          refine lv_iload hx hb dc_L_send_31 (lv_at hl 5 rfl) ?_
          refine lv_aload_n hx hb dc_L_send_33 rfl (lv_at hl 0 rfl) ?_
          obtain ⟨v5, ev5, hF⟩ := pl_bd hF
          refine pl_getR C w (ci := 7) in_L rfl (by decide) 0 (by decide) mw_260 ev5 dc_L_send_34 ?_
          refine lv_iload_n hx hb dc_L_send_37 rfl (lv_at hl 1 rfl) ?_
          obtain ⟨u7, eu7, hF⟩ := pl_bd hF
          obtain ⟨v6, ev6, hF⟩ := pl_bd hF
          refine pl_gi (pl_runV (Cn := rn_B) (k := 1) C (tm_B_nonceOf l D dA tt b n ev6) w hS rfl rfl mw_346 mw_312 mw_313 mw_65 mw_314 (by decide +kernel) ⟨by decide, by decide⟩ eu7 rfl (by decide) rfl hl.1 (Nat.le_of_ble_eq_true rfl) ⟨Nat.zero_le _, Nat.zero_le _⟩ rfl dc_L_send_38) hS (fun H locs w hS => ?_)
          refine lv_icmp_eq hx hb dc_L_send_41 (tgt := 47) (by decide) (fun hc => ?_) (fun hc => ?_)
          · have hF := (if_pos hc).symm.trans hF
            refine lv_lload_n hx hb dc_L_send_47 rfl (lv_at hl 3 rfl) ?_
            refine lv_lload hx hb dc_L_send_48 (lv_at hl 4 rfl) ?_
            refine lv_ladd hx hb dc_L_send_50 ?_
            refine lv_aload_n hx hb dc_L_send_51 rfl (lv_at hl 0 rfl) ?_
            obtain ⟨v8, ev8, hF⟩ := pl_bd hF
            refine pl_getR C w (ci := 7) in_L rfl (by decide) 0 (by decide) mw_260 ev8 dc_L_send_52 ?_
            refine lv_iload_n hx hb dc_L_send_55 rfl (lv_at hl 1 rfl) ?_
            obtain ⟨u10, eu10, hF⟩ := pl_bd hF
            obtain ⟨v9, ev9, hF⟩ := pl_bd hF
            refine pl_gl (pl_runV (Cn := rn_B) (k := 1) C (tm_B_balanceOf l D dA tt b n ev9) w hS rfl rfl mw_347 mw_316 mw_317 mw_65 mw_318 (by decide +kernel) ⟨by decide, by decide⟩ eu10 rfl (by decide) rfl hl.1 (Nat.le_of_ble_eq_true rfl) ⟨Nat.zero_le _, Nat.zero_le _⟩ rfl dc_L_send_56) hS (fun H locs w hS => ?_)
            refine W.lcmp hx hb dc_L_send_59 ?_
            refine lv_if_le hx hb dc_L_send_60 (tgt := 66) (by decide) (fun hc => ?_) (fun hc => ?_)
            · have hF := (if_pos hc).symm.trans hF
              refine lv_aload_n hx hb dc_L_send_66 rfl (lv_at hl 0 rfl) ?_
              obtain ⟨v11, ev11, hF⟩ := pl_bd hF
              refine pl_getR C w (ci := 7) in_L rfl (by decide) 0 (by decide) mw_260 ev11 dc_L_send_67 ?_
              obtain ⟨u13, eu13, hF⟩ := pl_bd hF
              obtain ⟨v12, ev12, hF⟩ := pl_bd hF
              refine pl_gi (pl_runV (Cn := rn_B) (k := 0) C (tm_B_count l D dA tt b n ev12) w hS rfl rfl mw_303 mw_304 mw_305 mw_65 mw_306 (by decide +kernel) ⟨by decide, by decide⟩ eu13 rfl (by decide) rfl hl.1 (Nat.le_of_ble_eq_true rfl) ⟨Nat.zero_le _, Nat.zero_le _⟩ rfl dc_L_send_70) hS (fun H locs w hS => ?_)
              refine lv_aload_n hx hb dc_L_send_73 rfl (lv_at hl 0 rfl) ?_
              refine lv_iload_n hx hb dc_L_send_74 rfl (lv_at hl 1 rfl) ?_
              refine lv_iload_n hx hb dc_L_send_75 rfl (lv_at hl 2 rfl) ?_
              refine lv_lload_n hx hb dc_L_send_76 rfl (lv_at hl 3 rfl) ?_
              refine lv_lload hx hb dc_L_send_77 (lv_at hl 4 rfl) ?_
              obtain ⟨u15, eu15, hF⟩ := pl_bd hF
              obtain ⟨v14, ev14, hF⟩ := pl_bd hF
              refine pl_gi (pl_runV (Cn := rn_L) (k := 4) C (tm_L_newcomers l D dA tt b n ev14) w hS rfl rfl mw_348 mw_350 mw_4 mw_64 mw_351 (by decide +kernel) ⟨by decide, by decide⟩ eu15 rfl (by decide) rfl hl.1 (Nat.le_of_ble_eq_true rfl) ⟨Nat.zero_le _, Nat.zero_le _⟩ rfl dc_L_send_79) hS (fun H locs w hS => ?_)
              refine lv_iadd hx hb dc_L_send_82 ?_
              refine lv_bipush (v := 12) hx hb dc_L_send_83 (by decide) ?_
              refine lv_icmp_le hx hb dc_L_send_85 (tgt := 91) (by decide) (fun hc => ?_) (fun hc => ?_)
              · have hF := (if_pos hc).symm.trans hF
                refine lv_aload_n hx hb dc_L_send_91 rfl (lv_at hl 0 rfl) ?_
                obtain ⟨v16, ev16, hF⟩ := pl_bd hF
                refine pl_getR C w (ci := 7) in_L rfl (by decide) 0 (by decide) mw_260 ev16 dc_L_send_92 ?_
                refine lv_iload_n hx hb dc_L_send_95 rfl (lv_at hl 1 rfl) ?_
                refine lv_iload hx hb dc_L_send_96 (lv_at hl 5 rfl) ?_
                refine lv_iconst (v := 1) hx hb dc_L_send_98 (by decide) ?_
                refine lv_iadd hx hb dc_L_send_99 ?_
                refine lv_aload_n hx hb dc_L_send_100 rfl (lv_at hl 0 rfl) ?_
                obtain ⟨v17, ev17, hF⟩ := pl_bd hF
                refine pl_getR C w (ci := 7) in_L rfl (by decide) 0 (by decide) mw_260 ev17 dc_L_send_101 ?_
                refine lv_iload_n hx hb dc_L_send_104 rfl (lv_at hl 1 rfl) ?_
                obtain ⟨u19, eu19, hF⟩ := pl_bd hF
                obtain ⟨v18, ev18, hF⟩ := pl_bd hF
                refine pl_gl (pl_runV (Cn := rn_B) (k := 1) C (tm_B_balanceOf l D dA tt b n ev18) w hS rfl rfl mw_347 mw_316 mw_317 mw_65 mw_318 (by decide +kernel) ⟨by decide, by decide⟩ eu19 rfl (by decide) rfl hl.1 (Nat.le_of_ble_eq_true rfl) ⟨Nat.zero_le _, Nat.zero_le _⟩ rfl dc_L_send_105) hS (fun H locs w hS => ?_)
                refine lv_lload_n hx hb dc_L_send_108 rfl (lv_at hl 3 rfl) ?_
                refine lv_lsub hx hb dc_L_send_109 ?_
                refine lv_lload hx hb dc_L_send_110 (lv_at hl 4 rfl) ?_
                refine lv_lsub hx hb dc_L_send_112 ?_
                obtain ⟨u21, eu21, hF⟩ := pl_bd hF
                obtain ⟨q20, eq20, hF⟩ := pl_bd hF
                refine pl_gv (pl_runV (Cn := rn_B) (k := 3) C (tm_B_put l D dA tt b n eq20) w hS rfl rfl mw_352 mw_320 mw_321 mw_65 mw_322 (by decide +kernel) ⟨by decide, by decide⟩ eu21 rfl (by decide) rfl hl.1 (Nat.le_of_ble_eq_true rfl) ⟨Nat.zero_le _, Nat.zero_le _⟩ rfl dc_L_send_113) hS (fun H locs w hS => ?_)
                refine lv_aload_n hx hb dc_L_send_116 rfl (lv_at hl 0 rfl) ?_
                obtain ⟨v22, ev22, hF⟩ := pl_bd hF
                refine pl_getR C w (ci := 7) in_L rfl (by decide) 0 (by decide) mw_260 ev22 dc_L_send_117 ?_
                refine lv_iload_n hx hb dc_L_send_120 rfl (lv_at hl 2 rfl) ?_
                refine lv_lload_n hx hb dc_L_send_121 rfl (lv_at hl 3 rfl) ?_
                obtain ⟨u24, eu24, hF⟩ := pl_bd hF
                obtain ⟨q23, eq23, hF⟩ := pl_bd hF
                refine pl_gv (pl_runV (Cn := rn_B) (k := 2) C (tm_B_credit l D dA tt b n eq23) w hS rfl rfl mw_307 mw_308 mw_309 mw_65 mw_310 (by decide +kernel) ⟨by decide, by decide⟩ eu24 rfl (by decide) rfl hl.1 (Nat.le_of_ble_eq_true rfl) ⟨Nat.zero_le _, Nat.zero_le _⟩ rfl dc_L_send_122) hS (fun H locs w hS => ?_)
                refine lv_aload_n hx hb dc_L_send_125 rfl (lv_at hl 0 rfl) ?_
                obtain ⟨v25, ev25, hF⟩ := pl_bd hF
                refine pl_getR C w (ci := 7) in_L rfl (by decide) 0 (by decide) mw_260 ev25 dc_L_send_126 ?_
                refine lv_aload_n hx hb dc_L_send_129 rfl (lv_at hl 0 rfl) ?_
                obtain ⟨v26, ev26, hF⟩ := pl_bd hF
                refine pl_getI C w (ci := 7) in_L rfl (by decide) 5 (by decide) mw_265 ev26 dc_L_send_130 ?_
                refine lv_lload hx hb dc_L_send_133 (lv_at hl 4 rfl) ?_
                obtain ⟨u28, eu28, hF⟩ := pl_bd hF
                obtain ⟨q27, eq27, hF⟩ := pl_bd hF
                refine pl_gv (pl_runV (Cn := rn_B) (k := 2) C (tm_B_credit l D dA tt b n eq27) w hS rfl rfl mw_307 mw_308 mw_309 mw_65 mw_310 (by decide +kernel) ⟨by decide, by decide⟩ eu28 rfl (by decide) rfl hl.1 (Nat.le_of_ble_eq_true rfl) ⟨Nat.zero_le _, Nat.zero_le _⟩ rfl dc_L_send_135) hS (fun H locs w hS => ?_)
                refine lv_aload_n hx hb dc_L_send_138 rfl (lv_at hl 0 rfl) ?_
                obtain ⟨v29, ev29, hF⟩ := pl_bd hF
                refine pl_getR C w (ci := 7) in_L rfl (by decide) 2 (by decide) mw_262 ev29 dc_L_send_139 ?_
                obtain ⟨u31, eu31, hF⟩ := pl_bd hF
                obtain ⟨q30, eq30, hF⟩ := pl_bd hF
                refine pl_gv (pl_runV (Cn := rn_T) (k := 0) C (tm_T_outdate l D dA tt b n eq30) w hS rfl rfl mw_335 mw_336 mw_337 mw_67 mw_338 (by decide +kernel) ⟨by decide, by decide⟩ eu31 rfl (by decide) rfl hl.1 (Nat.le_of_ble_eq_true rfl) ⟨Nat.zero_le _, Nat.zero_le _⟩ rfl dc_L_send_142) hS (fun H locs w hS => ?_)
                refine lv_aload_n hx hb dc_L_send_145 rfl (lv_at hl 0 rfl) ?_
                obtain ⟨v32, ev32, hF⟩ := pl_bd hF
                refine pl_getR C w (ci := 7) in_L rfl (by decide) 0 (by decide) mw_260 ev32 dc_L_send_146 ?_
                obtain ⟨u34, eu34, hF⟩ := pl_bd hF
                obtain ⟨v33, ev33, hF⟩ := pl_bd hF
                refine pl_gi (pl_runV (Cn := rn_B) (k := 0) C (tm_B_count l D dA tt b n ev33) w hS rfl rfl mw_303 mw_304 mw_305 mw_65 mw_306 (by decide +kernel) ⟨by decide, by decide⟩ eu34 rfl (by decide) rfl hl.1 (Nat.le_of_ble_eq_true rfl) ⟨Nat.zero_le _, Nat.zero_le _⟩ rfl dc_L_send_149) hS (fun H locs w hS => ?_)
                exact pl_retIw C w hS hF dc_L_send_152
              · have hF := (if_neg hc).symm.trans hF
                refine lv_bipush (v := (-4)) hx hb dc_L_send_88 (by decide) ?_
                exact pl_retIw C w hS hF dc_L_send_90
            · have hF := (if_neg hc).symm.trans hF
              refine lv_bipush (v := (-3)) hx hb dc_L_send_63 (by decide) ?_
              exact pl_retIw C w hS hF dc_L_send_65
          · have hF := (if_neg hc).symm.trans hF
            refine lv_bipush (v := (-2)) hx hb dc_L_send_44 (by decide) ?_
            exact pl_retIw C w hS hF dc_L_send_46
        · have hF := (if_pos hc).symm.trans hF
          exact tl_L_send_29 C hF w hS (lv_sub hl [] rfl)
set_option maxHeartbeats 4000000 in
set_option maxRecDepth 100000 in
theorem tm_L_send (l : Launch) (D : va_G) (dA : Nat → ClassId) (tt : Nat → Nat) (b n : Nat) {f : pl_H} {a0 : Nat} {x1 : Int32} {x2 : Int32} {y3 : Int64} {y5 : Int64} {x7 : Int32} {r : Int32} {f' : pl_H} (hF : fn_L_send f a0 x1 x2 y3 y5 x7 = some (r, f')) : Met l my_L_send (Cond.code my_L_send co_L_send 8 (some .int) :: pl_tb) rm_L_send (va_Pc [.ref a0, .int x1, .int x2, .long y3, .long y5, .int x7] (pl_pre D dA tt b n f)) (pl_qI D dA tt b n f' r) 0 0 (pl_A b) := by
  refine Met.ofW (cc := co_L_send) (maxL := 8) (ret := (some .int)) (by decide) rfl ?_
  intro p e s m args below meth c s₁ B hml hv
  obtain ⟨rfl, w, hK⟩ := hv
  have C : pl_C p s m _ meth c co_L_send 8 rn_L (some .int) "send" D dA tt b := ⟨B.exec, B.bytes, hml, B.returns, findClass_of_methodNamed B.named, B.notSynchronized, fun w hw => atoms_spec (ws := Cond.code my_L_send co_L_send 8 (some .int) :: pl_tb) B.pre w (List.mem_cons_of_mem _ hw), (name_of_methodNamed B.named B.method).1, hK⟩
  have hl := lv_entry ([.ref a0, .int x1, .int x2, .long y3, .long y5, .int x7]) (n := 8) (Nat.le_of_ble_eq_true rfl)
  rw [lg_entry_eq]
  generalize (lg_sl ([.ref a0, .int x1, .int x2, .long y3, .long y5, .int x7]) ++ List.replicate (8 - (lg_sl ([.ref a0, .int x1, .int x2, .long y3, .long y5, .int x7])).length) Slot.unset).toArray = ls at hl ⊢
  have hl : lv_has ls 8 [(0, .ref a0), (1, .int x1), (2, .int x2), (3, .long y3), (5, .long y5), (7, .int x7)] := hl
  exact tl_L_send C hF w va_S.rf hl
def rm_L_close : Room := { frames := 3, cells := 0, slots := 0, locals := 70 }
def fn_L_close_18 (f : pl_H) : Option (Int32 × pl_H) := (pl_z 0).bind (fun z => some (z, f))
def fn_L_close (f : pl_H) (a0 : Nat) (x1 : Int32) : Option (Int32 × pl_H) := (fn_L_isAccount f x1).bind fun v1 => if v1 = 0 then fn_L_close_18 f else (pl_gR f a0 7 0).bind fun v2 => (pl_is f v2 0).bind fun u4 => (fn_B_has f v2 x1).bind fun v3 => if v3 = 0 then fn_L_close_18 f else (pl_gR f a0 7 0).bind fun v5 => (pl_is f v5 0).bind fun u7 => (fn_B_put f v5 x1 0 0).bind fun q6 => (pl_gR q6 a0 7 2).bind fun v8 => (pl_is q6 v8 5).bind fun u10 => (fn_T_outdate q6 v8).bind fun q9 => (pl_z 1).bind (fun z => some (z, q9))
set_option maxHeartbeats 4000000 in
set_option maxRecDepth 100000 in
theorem tl_L_close_18 {p : Program} {l : Launch} {e : Env} {s : State} {m : MethodId} {args : Array Value} {below : List Frame} {meth : Method} {c : Code} {D : va_G} {dA : Nat → ClassId} {tt : Nat → Nat} {b n : Nat} (C : pl_C p s m args meth c co_L_close 2 rn_L (some .boolean) "close" D dA tt b) {r : Int32} {f' : pl_H} {f : pl_H} {H : Heap} {locs : List Loc} {ls : Array Slot} (hF : fn_L_close_18 f = some (r, f')) (w : pl_wd D vwCl dA b n f H) (hS : va_S (pl_A b) s.heap H locs) (hl : lv_has ls 2 []) : W p l e rm_L_close s m args below meth c H locs 0 0 (MQ below (pl_qI D dA tt b n f' r) args s 0 0 (pl_A b)) (F0 m 18 ls []) := by
  have hx := C.1
  have hb := C.2.1
  have hown := C.2.2.2.2.1
  have hts := C.2.2.2.2.2.2.1
  unfold fn_L_close_18 at hF
  refine lv_iconst (v := 0) hx hb dc_L_close_18 (by decide) ?_
  exact pl_retZw C w hS hF dc_L_close_19
set_option maxHeartbeats 4000000 in
set_option maxRecDepth 100000 in
theorem tl_L_close {p : Program} {l : Launch} {e : Env} {s : State} {m : MethodId} {args : Array Value} {below : List Frame} {meth : Method} {c : Code} {D : va_G} {dA : Nat → ClassId} {tt : Nat → Nat} {b n : Nat} (C : pl_C p s m args meth c co_L_close 2 rn_L (some .boolean) "close" D dA tt b) {r : Int32} {f' : pl_H} {f : pl_H} {a0 : Nat} {x1 : Int32} {H : Heap} {locs : List Loc} {ls : Array Slot} (hF : fn_L_close f a0 x1 = some (r, f')) (w : pl_wd D vwCl dA b n f H) (hS : va_S (pl_A b) s.heap H locs) (hl : lv_has ls 2 [(0, .ref a0), (1, .int x1)]) : W p l e rm_L_close s m args below meth c H locs 0 0 (MQ below (pl_qI D dA tt b n f' r) args s 0 0 (pl_A b)) (F0 m 0 ls []) := by
  have hx := C.1
  have hb := C.2.1
  have hown := C.2.2.2.2.1
  have hts := C.2.2.2.2.2.2.1
  unfold fn_L_close at hF
  refine lv_iload_n hx hb dc_L_close_0 rfl (lv_at hl 1 rfl) ?_
  obtain ⟨v1, ev1, hF⟩ := pl_bd hF
  refine pl_gi (pl_runS (k := 1) C (tm_L_isAccount l D dA tt b n ev1) w hS rfl rfl mw_286 mw_287 mw_64 mw_288 (by decide +kernel) ⟨by decide, by decide⟩ rfl hl.1 (Nat.le_of_ble_eq_true rfl) ⟨Nat.zero_le _, Nat.zero_le _⟩ rfl dc_L_close_1) hS (fun H locs w hS => ?_)
  refine lv_if_eq hx hb dc_L_close_4 (tgt := 18) (by decide) (fun hc => ?_) (fun hc => ?_)
  · have hF := (if_pos hc).symm.trans hF
    exact tl_L_close_18 C hF w hS (lv_sub hl [] rfl)
  · have hF := (if_neg hc).symm.trans hF
    refine lv_aload_n hx hb dc_L_close_7 rfl (lv_at hl 0 rfl) ?_
    obtain ⟨v2, ev2, hF⟩ := pl_bd hF
    refine pl_getR C w (ci := 7) in_L rfl (by decide) 0 (by decide) mw_260 ev2 dc_L_close_8 ?_
    refine lv_iload_n hx hb dc_L_close_11 rfl (lv_at hl 1 rfl) ?_
    obtain ⟨u4, eu4, hF⟩ := pl_bd hF
    obtain ⟨v3, ev3, hF⟩ := pl_bd hF
    refine pl_gi (pl_runV (Cn := rn_B) (k := 1) C (tm_B_has l D dA tt b n ev3) w hS rfl rfl mw_295 mw_296 mw_297 mw_65 mw_298 (by decide +kernel) ⟨by decide, by decide⟩ eu4 rfl (by decide) rfl hl.1 (Nat.le_of_ble_eq_true rfl) ⟨Nat.zero_le _, Nat.zero_le _⟩ rfl dc_L_close_12) hS (fun H locs w hS => ?_)
    refine lv_if_ne hx hb dc_L_close_15 (tgt := 20) (by decide) (fun hc => ?_) (fun hc => ?_)
    · have hF := (if_neg hc).symm.trans hF
      refine lv_aload_n hx hb dc_L_close_20 rfl (lv_at hl 0 rfl) ?_
      obtain ⟨v5, ev5, hF⟩ := pl_bd hF
      refine pl_getR C w (ci := 7) in_L rfl (by decide) 0 (by decide) mw_260 ev5 dc_L_close_21 ?_
      refine lv_iload_n hx hb dc_L_close_24 rfl (lv_at hl 1 rfl) ?_
      refine lv_iconst (v := 0) hx hb dc_L_close_25 (by decide) ?_
      refine lv_lconst (v := 0) hx hb dc_L_close_26 (by decide) ?_
      obtain ⟨u7, eu7, hF⟩ := pl_bd hF
      obtain ⟨q6, eq6, hF⟩ := pl_bd hF
      refine pl_gv (pl_runV (Cn := rn_B) (k := 3) C (tm_B_put l D dA tt b n eq6) w hS rfl rfl mw_352 mw_320 mw_321 mw_65 mw_322 (by decide +kernel) ⟨by decide, by decide⟩ eu7 rfl (by decide) rfl hl.1 (Nat.le_of_ble_eq_true rfl) ⟨Nat.zero_le _, Nat.zero_le _⟩ rfl dc_L_close_27) hS (fun H locs w hS => ?_)
      refine lv_aload_n hx hb dc_L_close_30 rfl (lv_at hl 0 rfl) ?_
      obtain ⟨v8, ev8, hF⟩ := pl_bd hF
      refine pl_getR C w (ci := 7) in_L rfl (by decide) 2 (by decide) mw_262 ev8 dc_L_close_31 ?_
      obtain ⟨u10, eu10, hF⟩ := pl_bd hF
      obtain ⟨q9, eq9, hF⟩ := pl_bd hF
      refine pl_gv (pl_runV (Cn := rn_T) (k := 0) C (tm_T_outdate l D dA tt b n eq9) w hS rfl rfl mw_335 mw_336 mw_337 mw_67 mw_338 (by decide +kernel) ⟨by decide, by decide⟩ eu10 rfl (by decide) rfl hl.1 (Nat.le_of_ble_eq_true rfl) ⟨Nat.zero_le _, Nat.zero_le _⟩ rfl dc_L_close_34) hS (fun H locs w hS => ?_)
      refine lv_iconst (v := 1) hx hb dc_L_close_37 (by decide) ?_
      exact pl_retZw C w hS hF dc_L_close_38
    · have hF := (if_pos hc).symm.trans hF
      exact tl_L_close_18 C hF w hS (lv_sub hl [] rfl)
set_option maxHeartbeats 4000000 in
set_option maxRecDepth 100000 in
theorem tm_L_close (l : Launch) (D : va_G) (dA : Nat → ClassId) (tt : Nat → Nat) (b n : Nat) {f : pl_H} {a0 : Nat} {x1 : Int32} {r : Int32} {f' : pl_H} (hF : fn_L_close f a0 x1 = some (r, f')) : Met l my_L_close (Cond.code my_L_close co_L_close 2 (some .boolean) :: pl_tb) rm_L_close (va_Pc [.ref a0, .int x1] (pl_pre D dA tt b n f)) (pl_qI D dA tt b n f' r) 0 0 (pl_A b) := by
  refine Met.ofW (cc := co_L_close) (maxL := 2) (ret := (some .boolean)) (by decide) rfl ?_
  intro p e s m args below meth c s₁ B hml hv
  obtain ⟨rfl, w, hK⟩ := hv
  have C : pl_C p s m _ meth c co_L_close 2 rn_L (some .boolean) "close" D dA tt b := ⟨B.exec, B.bytes, hml, B.returns, findClass_of_methodNamed B.named, B.notSynchronized, fun w hw => atoms_spec (ws := Cond.code my_L_close co_L_close 2 (some .boolean) :: pl_tb) B.pre w (List.mem_cons_of_mem _ hw), (name_of_methodNamed B.named B.method).1, hK⟩
  have hl := lv_entry ([.ref a0, .int x1]) (n := 2) (Nat.le_of_ble_eq_true rfl)
  rw [lg_entry_eq]
  generalize (lg_sl ([.ref a0, .int x1]) ++ List.replicate (2 - (lg_sl ([.ref a0, .int x1])).length) Slot.unset).toArray = ls at hl ⊢
  have hl : lv_has ls 2 [(0, .ref a0), (1, .int x1)] := hl
  exact tl_L_close C hF w va_S.rf hl
def rm_L_nonce : Room := { frames := 2, cells := 0, slots := 0, locals := 44 }
def fn_L_nonce (f : pl_H) (a0 : Nat) (x1 : Int32) : Option (Int32) := (pl_gR f a0 7 0).bind fun v1 => (pl_is f v1 0).bind fun u3 => (fn_B_nonceOf f v1 x1).bind fun v2 => some v2
set_option maxHeartbeats 4000000 in
set_option maxRecDepth 100000 in
theorem tl_L_nonce {p : Program} {l : Launch} {e : Env} {s : State} {m : MethodId} {args : Array Value} {below : List Frame} {meth : Method} {c : Code} {D : va_G} {dA : Nat → ClassId} {tt : Nat → Nat} {b n : Nat} (C : pl_C p s m args meth c co_L_nonce 2 rn_L (some .int) "nonce" D dA tt b) {r : Int32} {f : pl_H} {a0 : Nat} {x1 : Int32} {H : Heap} {locs : List Loc} {ls : Array Slot} (hF : fn_L_nonce f a0 x1 = some r) (w : pl_wd D vwCl dA b n f H) (hS : va_S (pl_A b) s.heap H locs) (hl : lv_has ls 2 [(0, .ref a0), (1, .int x1)]) : W p l e rm_L_nonce s m args below meth c H locs 0 0 (MQ below (pl_qI D dA tt b n f r) args s 0 0 (pl_A b)) (F0 m 0 ls []) := by
  have hx := C.1
  have hb := C.2.1
  have hown := C.2.2.2.2.1
  have hts := C.2.2.2.2.2.2.1
  unfold fn_L_nonce at hF
  refine lv_aload_n hx hb dc_L_nonce_0 rfl (lv_at hl 0 rfl) ?_
  obtain ⟨v1, ev1, hF⟩ := pl_bd hF
  refine pl_getR C w (ci := 7) in_L rfl (by decide) 0 (by decide) mw_260 ev1 dc_L_nonce_1 ?_
  refine lv_iload_n hx hb dc_L_nonce_4 rfl (lv_at hl 1 rfl) ?_
  obtain ⟨u3, eu3, hF⟩ := pl_bd hF
  obtain ⟨v2, ev2, hF⟩ := pl_bd hF
  refine pl_gi (pl_runV (Cn := rn_B) (k := 1) C (tm_B_nonceOf l D dA tt b n ev2) w hS rfl rfl mw_346 mw_312 mw_313 mw_65 mw_314 (by decide +kernel) ⟨by decide, by decide⟩ eu3 rfl (by decide) rfl hl.1 (Nat.le_of_ble_eq_true rfl) ⟨Nat.zero_le _, Nat.zero_le _⟩ rfl dc_L_nonce_5) hS (fun H locs w hS => ?_)
  exact pl_retI C w hS hF dc_L_nonce_8
set_option maxHeartbeats 4000000 in
set_option maxRecDepth 100000 in
theorem tm_L_nonce (l : Launch) (D : va_G) (dA : Nat → ClassId) (tt : Nat → Nat) (b n : Nat) {f : pl_H} {a0 : Nat} {x1 : Int32} {r : Int32} (hF : fn_L_nonce f a0 x1 = some r) : Met l my_L_nonce (Cond.code my_L_nonce co_L_nonce 2 (some .int) :: pl_tb) rm_L_nonce (va_Pc [.ref a0, .int x1] (pl_pre D dA tt b n f)) (pl_qI D dA tt b n f r) 0 0 (pl_A b) := by
  refine Met.ofW (cc := co_L_nonce) (maxL := 2) (ret := (some .int)) (by decide) rfl ?_
  intro p e s m args below meth c s₁ B hml hv
  obtain ⟨rfl, w, hK⟩ := hv
  have C : pl_C p s m _ meth c co_L_nonce 2 rn_L (some .int) "nonce" D dA tt b := ⟨B.exec, B.bytes, hml, B.returns, findClass_of_methodNamed B.named, B.notSynchronized, fun w hw => atoms_spec (ws := Cond.code my_L_nonce co_L_nonce 2 (some .int) :: pl_tb) B.pre w (List.mem_cons_of_mem _ hw), (name_of_methodNamed B.named B.method).1, hK⟩
  have hl := lv_entry ([.ref a0, .int x1]) (n := 2) (Nat.le_of_ble_eq_true rfl)
  rw [lg_entry_eq]
  generalize (lg_sl ([.ref a0, .int x1]) ++ List.replicate (2 - (lg_sl ([.ref a0, .int x1])).length) Slot.unset).toArray = ls at hl ⊢
  have hl : lv_has ls 2 [(0, .ref a0), (1, .int x1)] := hl
  exact tl_L_nonce C hF w va_S.rf hl
def rm_L_balance : Room := { frames := 2, cells := 0, slots := 0, locals := 44 }
def fn_L_balance (f : pl_H) (a0 : Nat) (x1 : Int32) : Option (Int64) := (pl_gR f a0 7 0).bind fun v1 => (pl_is f v1 0).bind fun u3 => (fn_B_balanceOf f v1 x1).bind fun v2 => some v2
set_option maxHeartbeats 4000000 in
set_option maxRecDepth 100000 in
theorem tl_L_balance {p : Program} {l : Launch} {e : Env} {s : State} {m : MethodId} {args : Array Value} {below : List Frame} {meth : Method} {c : Code} {D : va_G} {dA : Nat → ClassId} {tt : Nat → Nat} {b n : Nat} (C : pl_C p s m args meth c co_L_balance 2 rn_L (some .long) "balance" D dA tt b) {r : Int64} {f : pl_H} {a0 : Nat} {x1 : Int32} {H : Heap} {locs : List Loc} {ls : Array Slot} (hF : fn_L_balance f a0 x1 = some r) (w : pl_wd D vwCl dA b n f H) (hS : va_S (pl_A b) s.heap H locs) (hl : lv_has ls 2 [(0, .ref a0), (1, .int x1)]) : W p l e rm_L_balance s m args below meth c H locs 0 0 (MQ below (pl_qL D dA tt b n f r) args s 0 0 (pl_A b)) (F0 m 0 ls []) := by
  have hx := C.1
  have hb := C.2.1
  have hown := C.2.2.2.2.1
  have hts := C.2.2.2.2.2.2.1
  unfold fn_L_balance at hF
  refine lv_aload_n hx hb dc_L_balance_0 rfl (lv_at hl 0 rfl) ?_
  obtain ⟨v1, ev1, hF⟩ := pl_bd hF
  refine pl_getR C w (ci := 7) in_L rfl (by decide) 0 (by decide) mw_260 ev1 dc_L_balance_1 ?_
  refine lv_iload_n hx hb dc_L_balance_4 rfl (lv_at hl 1 rfl) ?_
  obtain ⟨u3, eu3, hF⟩ := pl_bd hF
  obtain ⟨v2, ev2, hF⟩ := pl_bd hF
  refine pl_gl (pl_runV (Cn := rn_B) (k := 1) C (tm_B_balanceOf l D dA tt b n ev2) w hS rfl rfl mw_347 mw_316 mw_317 mw_65 mw_318 (by decide +kernel) ⟨by decide, by decide⟩ eu3 rfl (by decide) rfl hl.1 (Nat.le_of_ble_eq_true rfl) ⟨Nat.zero_le _, Nat.zero_le _⟩ rfl dc_L_balance_5) hS (fun H locs w hS => ?_)
  exact pl_retL C w hS hF dc_L_balance_8
set_option maxHeartbeats 4000000 in
set_option maxRecDepth 100000 in
theorem tm_L_balance (l : Launch) (D : va_G) (dA : Nat → ClassId) (tt : Nat → Nat) (b n : Nat) {f : pl_H} {a0 : Nat} {x1 : Int32} {r : Int64} (hF : fn_L_balance f a0 x1 = some r) : Met l my_L_balance (Cond.code my_L_balance co_L_balance 2 (some .long) :: pl_tb) rm_L_balance (va_Pc [.ref a0, .int x1] (pl_pre D dA tt b n f)) (pl_qL D dA tt b n f r) 0 0 (pl_A b) := by
  refine Met.ofW (cc := co_L_balance) (maxL := 2) (ret := (some .long)) (by decide) rfl ?_
  intro p e s m args below meth c s₁ B hml hv
  obtain ⟨rfl, w, hK⟩ := hv
  have C : pl_C p s m _ meth c co_L_balance 2 rn_L (some .long) "balance" D dA tt b := ⟨B.exec, B.bytes, hml, B.returns, findClass_of_methodNamed B.named, B.notSynchronized, fun w hw => atoms_spec (ws := Cond.code my_L_balance co_L_balance 2 (some .long) :: pl_tb) B.pre w (List.mem_cons_of_mem _ hw), (name_of_methodNamed B.named B.method).1, hK⟩
  have hl := lv_entry ([.ref a0, .int x1]) (n := 2) (Nat.le_of_ble_eq_true rfl)
  rw [lg_entry_eq]
  generalize (lg_sl ([.ref a0, .int x1]) ++ List.replicate (2 - (lg_sl ([.ref a0, .int x1])).length) Slot.unset).toArray = ls at hl ⊢
  have hl : lv_has ls 2 [(0, .ref a0), (1, .int x1)] := hl
  exact tl_L_balance C hF w va_S.rf hl
def rm_L_accounts : Room := { frames := 1, cells := 0, slots := 0, locals := 20 }
def fn_L_accounts (f : pl_H) (a0 : Nat) : Option (Int32) := (pl_gR f a0 7 0).bind fun v1 => (pl_is f v1 0).bind fun u3 => (fn_B_count f v1).bind fun v2 => some v2
set_option maxHeartbeats 4000000 in
set_option maxRecDepth 100000 in
theorem tl_L_accounts {p : Program} {l : Launch} {e : Env} {s : State} {m : MethodId} {args : Array Value} {below : List Frame} {meth : Method} {c : Code} {D : va_G} {dA : Nat → ClassId} {tt : Nat → Nat} {b n : Nat} (C : pl_C p s m args meth c co_L_accounts 1 rn_L (some .int) "accounts" D dA tt b) {r : Int32} {f : pl_H} {a0 : Nat} {H : Heap} {locs : List Loc} {ls : Array Slot} (hF : fn_L_accounts f a0 = some r) (w : pl_wd D vwCl dA b n f H) (hS : va_S (pl_A b) s.heap H locs) (hl : lv_has ls 1 [(0, .ref a0)]) : W p l e rm_L_accounts s m args below meth c H locs 0 0 (MQ below (pl_qI D dA tt b n f r) args s 0 0 (pl_A b)) (F0 m 0 ls []) := by
  have hx := C.1
  have hb := C.2.1
  have hown := C.2.2.2.2.1
  have hts := C.2.2.2.2.2.2.1
  unfold fn_L_accounts at hF
  refine lv_aload_n hx hb dc_L_accounts_0 rfl (lv_at hl 0 rfl) ?_
  obtain ⟨v1, ev1, hF⟩ := pl_bd hF
  refine pl_getR C w (ci := 7) in_L rfl (by decide) 0 (by decide) mw_260 ev1 dc_L_accounts_1 ?_
  obtain ⟨u3, eu3, hF⟩ := pl_bd hF
  obtain ⟨v2, ev2, hF⟩ := pl_bd hF
  refine pl_gi (pl_runV (Cn := rn_B) (k := 0) C (tm_B_count l D dA tt b n ev2) w hS rfl rfl mw_303 mw_304 mw_305 mw_65 mw_306 (by decide +kernel) ⟨by decide, by decide⟩ eu3 rfl (by decide) rfl hl.1 (Nat.le_of_ble_eq_true rfl) ⟨Nat.zero_le _, Nat.zero_le _⟩ rfl dc_L_accounts_4) hS (fun H locs w hS => ?_)
  exact pl_retI C w hS hF dc_L_accounts_7
set_option maxHeartbeats 4000000 in
set_option maxRecDepth 100000 in
theorem tm_L_accounts (l : Launch) (D : va_G) (dA : Nat → ClassId) (tt : Nat → Nat) (b n : Nat) {f : pl_H} {a0 : Nat} {r : Int32} (hF : fn_L_accounts f a0 = some r) : Met l my_L_accounts (Cond.code my_L_accounts co_L_accounts 1 (some .int) :: pl_tb) rm_L_accounts (va_Pc [.ref a0] (pl_pre D dA tt b n f)) (pl_qI D dA tt b n f r) 0 0 (pl_A b) := by
  refine Met.ofW (cc := co_L_accounts) (maxL := 1) (ret := (some .int)) (by decide) rfl ?_
  intro p e s m args below meth c s₁ B hml hv
  obtain ⟨rfl, w, hK⟩ := hv
  have C : pl_C p s m _ meth c co_L_accounts 1 rn_L (some .int) "accounts" D dA tt b := ⟨B.exec, B.bytes, hml, B.returns, findClass_of_methodNamed B.named, B.notSynchronized, fun w hw => atoms_spec (ws := Cond.code my_L_accounts co_L_accounts 1 (some .int) :: pl_tb) B.pre w (List.mem_cons_of_mem _ hw), (name_of_methodNamed B.named B.method).1, hK⟩
  have hl := lv_entry ([.ref a0]) (n := 1) (Nat.le_of_ble_eq_true rfl)
  rw [lg_entry_eq]
  generalize (lg_sl ([.ref a0]) ++ List.replicate (1 - (lg_sl ([.ref a0])).length) Slot.unset).toArray = ls at hl ⊢
  have hl : lv_has ls 1 [(0, .ref a0)] := hl
  exact tl_L_accounts C hF w va_S.rf hl
def rm_L_parts : Room := { frames := 1, cells := 0, slots := 0, locals := 20 }
def fn_L_parts (f : pl_H) (a0 : Nat) : Option (Int32) := (pl_gR f a0 7 3).bind fun v1 => (pl_is f v1 4).bind fun u3 => (fn_P_count f v1).bind fun v2 => some v2
set_option maxHeartbeats 4000000 in
set_option maxRecDepth 100000 in
theorem tl_L_parts {p : Program} {l : Launch} {e : Env} {s : State} {m : MethodId} {args : Array Value} {below : List Frame} {meth : Method} {c : Code} {D : va_G} {dA : Nat → ClassId} {tt : Nat → Nat} {b n : Nat} (C : pl_C p s m args meth c co_L_parts 1 rn_L (some .int) "parts" D dA tt b) {r : Int32} {f : pl_H} {a0 : Nat} {H : Heap} {locs : List Loc} {ls : Array Slot} (hF : fn_L_parts f a0 = some r) (w : pl_wd D vwCl dA b n f H) (hS : va_S (pl_A b) s.heap H locs) (hl : lv_has ls 1 [(0, .ref a0)]) : W p l e rm_L_parts s m args below meth c H locs 0 0 (MQ below (pl_qI D dA tt b n f r) args s 0 0 (pl_A b)) (F0 m 0 ls []) := by
  have hx := C.1
  have hb := C.2.1
  have hown := C.2.2.2.2.1
  have hts := C.2.2.2.2.2.2.1
  unfold fn_L_parts at hF
  refine lv_aload_n hx hb dc_L_parts_0 rfl (lv_at hl 0 rfl) ?_
  obtain ⟨v1, ev1, hF⟩ := pl_bd hF
  refine pl_getR C w (ci := 7) in_L rfl (by decide) 3 (by decide) mw_263 ev1 dc_L_parts_1 ?_
  obtain ⟨u3, eu3, hF⟩ := pl_bd hF
  obtain ⟨v2, ev2, hF⟩ := pl_bd hF
  refine pl_gi (pl_runV (Cn := rn_P) (k := 0) C (tm_P_count l D dA tt b n ev2) w hS rfl rfl mw_552 mw_553 mw_554 mw_70 mw_555 (by decide +kernel) ⟨by decide, by decide⟩ eu3 rfl (by decide) rfl hl.1 (Nat.le_of_ble_eq_true rfl) ⟨Nat.zero_le _, Nat.zero_le _⟩ rfl dc_L_parts_4) hS (fun H locs w hS => ?_)
  exact pl_retI C w hS hF dc_L_parts_7
set_option maxHeartbeats 4000000 in
set_option maxRecDepth 100000 in
theorem tm_L_parts (l : Launch) (D : va_G) (dA : Nat → ClassId) (tt : Nat → Nat) (b n : Nat) {f : pl_H} {a0 : Nat} {r : Int32} (hF : fn_L_parts f a0 = some r) : Met l my_L_parts (Cond.code my_L_parts co_L_parts 1 (some .int) :: pl_tb) rm_L_parts (va_Pc [.ref a0] (pl_pre D dA tt b n f)) (pl_qI D dA tt b n f r) 0 0 (pl_A b) := by
  refine Met.ofW (cc := co_L_parts) (maxL := 1) (ret := (some .int)) (by decide) rfl ?_
  intro p e s m args below meth c s₁ B hml hv
  obtain ⟨rfl, w, hK⟩ := hv
  have C : pl_C p s m _ meth c co_L_parts 1 rn_L (some .int) "parts" D dA tt b := ⟨B.exec, B.bytes, hml, B.returns, findClass_of_methodNamed B.named, B.notSynchronized, fun w hw => atoms_spec (ws := Cond.code my_L_parts co_L_parts 1 (some .int) :: pl_tb) B.pre w (List.mem_cons_of_mem _ hw), (name_of_methodNamed B.named B.method).1, hK⟩
  have hl := lv_entry ([.ref a0]) (n := 1) (Nat.le_of_ble_eq_true rfl)
  rw [lg_entry_eq]
  generalize (lg_sl ([.ref a0]) ++ List.replicate (1 - (lg_sl ([.ref a0])).length) Slot.unset).toArray = ls at hl ⊢
  have hl : lv_has ls 1 [(0, .ref a0)] := hl
  exact tl_L_parts C hF w va_S.rf hl
def rm_L_length : Room := { frames := 2, cells := 0, slots := 0, locals := 42 }
def fn_L_length_23 (f : pl_H) (sx0 : Int32) : Option (Int32) := some sx0
def fn_L_length (f : pl_H) (a0 : Nat) (x1 : Int32) : Option (Int32) := (pl_gR f a0 7 3).bind fun v1 => (pl_is f v1 4).bind fun u3 => (fn_P_hasPart f v1 x1).bind fun v2 => if v2 = 0 then fn_L_length_23 f ((-1)) else (pl_gR f a0 7 3).bind fun v4 => (pl_is f v4 4).bind fun u6 => (fn_P_lengthOf f v4 x1).bind fun v5 => fn_L_length_23 f v5
set_option maxHeartbeats 4000000 in
set_option maxRecDepth 100000 in
theorem tl_L_length_23 {p : Program} {l : Launch} {e : Env} {s : State} {m : MethodId} {args : Array Value} {below : List Frame} {meth : Method} {c : Code} {D : va_G} {dA : Nat → ClassId} {tt : Nat → Nat} {b n : Nat} (C : pl_C p s m args meth c co_L_length 2 rn_L (some .int) "length" D dA tt b) {r : Int32} {f : pl_H} {sx0 : Int32} {H : Heap} {locs : List Loc} {ls : Array Slot} (hF : fn_L_length_23 f sx0 = some r) (w : pl_wd D vwCl dA b n f H) (hS : va_S (pl_A b) s.heap H locs) (hl : lv_has ls 2 []) : W p l e rm_L_length s m args below meth c H locs 0 0 (MQ below (pl_qI D dA tt b n f r) args s 0 0 (pl_A b)) (F0 m 23 ls [.int sx0]) := by
  have hx := C.1
  have hb := C.2.1
  have hown := C.2.2.2.2.1
  have hts := C.2.2.2.2.2.2.1
  unfold fn_L_length_23 at hF
  exact pl_retI C w hS hF dc_L_length_23
set_option maxHeartbeats 4000000 in
set_option maxRecDepth 100000 in
theorem tl_L_length {p : Program} {l : Launch} {e : Env} {s : State} {m : MethodId} {args : Array Value} {below : List Frame} {meth : Method} {c : Code} {D : va_G} {dA : Nat → ClassId} {tt : Nat → Nat} {b n : Nat} (C : pl_C p s m args meth c co_L_length 2 rn_L (some .int) "length" D dA tt b) {r : Int32} {f : pl_H} {a0 : Nat} {x1 : Int32} {H : Heap} {locs : List Loc} {ls : Array Slot} (hF : fn_L_length f a0 x1 = some r) (w : pl_wd D vwCl dA b n f H) (hS : va_S (pl_A b) s.heap H locs) (hl : lv_has ls 2 [(0, .ref a0), (1, .int x1)]) : W p l e rm_L_length s m args below meth c H locs 0 0 (MQ below (pl_qI D dA tt b n f r) args s 0 0 (pl_A b)) (F0 m 0 ls []) := by
  have hx := C.1
  have hb := C.2.1
  have hown := C.2.2.2.2.1
  have hts := C.2.2.2.2.2.2.1
  unfold fn_L_length at hF
  refine lv_aload_n hx hb dc_L_length_0 rfl (lv_at hl 0 rfl) ?_
  obtain ⟨v1, ev1, hF⟩ := pl_bd hF
  refine pl_getR C w (ci := 7) in_L rfl (by decide) 3 (by decide) mw_263 ev1 dc_L_length_1 ?_
  refine lv_iload_n hx hb dc_L_length_4 rfl (lv_at hl 1 rfl) ?_
  obtain ⟨u3, eu3, hF⟩ := pl_bd hF
  obtain ⟨v2, ev2, hF⟩ := pl_bd hF
  refine pl_gi (pl_runV (Cn := rn_P) (k := 1) C (tm_P_hasPart l D dA tt b n ev2) w hS rfl rfl mw_564 mw_565 mw_566 mw_70 mw_567 (by decide +kernel) ⟨by decide, by decide⟩ eu3 rfl (by decide) rfl hl.1 (Nat.le_of_ble_eq_true rfl) ⟨Nat.zero_le _, Nat.zero_le _⟩ rfl dc_L_length_5) hS (fun H locs w hS => ?_)
  refine lv_if_eq hx hb dc_L_length_8 (tgt := 22) (by decide) (fun hc => ?_) (fun hc => ?_)
  · have hF := (if_pos hc).symm.trans hF
    refine lv_iconst (v := (-1)) hx hb dc_L_length_22 (by decide) ?_
    exact tl_L_length_23 C hF w hS (lv_sub hl [] rfl)
  · have hF := (if_neg hc).symm.trans hF
    refine lv_aload_n hx hb dc_L_length_11 rfl (lv_at hl 0 rfl) ?_
    obtain ⟨v4, ev4, hF⟩ := pl_bd hF
    refine pl_getR C w (ci := 7) in_L rfl (by decide) 3 (by decide) mw_263 ev4 dc_L_length_12 ?_
    refine lv_iload_n hx hb dc_L_length_15 rfl (lv_at hl 1 rfl) ?_
    obtain ⟨u6, eu6, hF⟩ := pl_bd hF
    obtain ⟨v5, ev5, hF⟩ := pl_bd hF
    refine pl_gi (pl_runV (Cn := rn_P) (k := 1) C (tm_P_lengthOf l D dA tt b n ev5) w hS rfl rfl mw_568 mw_569 mw_570 mw_70 mw_571 (by decide +kernel) ⟨by decide, by decide⟩ eu6 rfl (by decide) rfl hl.1 (Nat.le_of_ble_eq_true rfl) ⟨Nat.zero_le _, Nat.zero_le _⟩ rfl dc_L_length_16) hS (fun H locs w hS => ?_)
    refine lv_goto hx hb dc_L_length_19 (tgt := 23) (by decide) ?_
    exact tl_L_length_23 C hF w hS (lv_sub hl [] rfl)
set_option maxHeartbeats 4000000 in
set_option maxRecDepth 100000 in
theorem tm_L_length (l : Launch) (D : va_G) (dA : Nat → ClassId) (tt : Nat → Nat) (b n : Nat) {f : pl_H} {a0 : Nat} {x1 : Int32} {r : Int32} (hF : fn_L_length f a0 x1 = some r) : Met l my_L_length (Cond.code my_L_length co_L_length 2 (some .int) :: pl_tb) rm_L_length (va_Pc [.ref a0, .int x1] (pl_pre D dA tt b n f)) (pl_qI D dA tt b n f r) 0 0 (pl_A b) := by
  refine Met.ofW (cc := co_L_length) (maxL := 2) (ret := (some .int)) (by decide) rfl ?_
  intro p e s m args below meth c s₁ B hml hv
  obtain ⟨rfl, w, hK⟩ := hv
  have C : pl_C p s m _ meth c co_L_length 2 rn_L (some .int) "length" D dA tt b := ⟨B.exec, B.bytes, hml, B.returns, findClass_of_methodNamed B.named, B.notSynchronized, fun w hw => atoms_spec (ws := Cond.code my_L_length co_L_length 2 (some .int) :: pl_tb) B.pre w (List.mem_cons_of_mem _ hw), (name_of_methodNamed B.named B.method).1, hK⟩
  have hl := lv_entry ([.ref a0, .int x1]) (n := 2) (Nat.le_of_ble_eq_true rfl)
  rw [lg_entry_eq]
  generalize (lg_sl ([.ref a0, .int x1]) ++ List.replicate (2 - (lg_sl ([.ref a0, .int x1])).length) Slot.unset).toArray = ls at hl ⊢
  have hl : lv_has ls 2 [(0, .ref a0), (1, .int x1)] := hl
  exact tl_L_length C hF w va_S.rf hl
def rm_L_part : Room := { frames := 2, cells := 0, slots := 0, locals := 44 }
def fn_L_part_25 (f : pl_H) (sx0 : Int32) : Option (Int32) := some sx0
def fn_L_part (f : pl_H) (a0 : Nat) (x1 : Int32) (x2 : Int32) : Option (Int32) := (pl_gR f a0 7 3).bind fun v1 => (pl_is f v1 4).bind fun u3 => (fn_P_hasByte f v1 x1 x2).bind fun v2 => if v2 = 0 then fn_L_part_25 f ((-1)) else (pl_gR f a0 7 3).bind fun v4 => (pl_is f v4 4).bind fun u6 => (fn_P_byteAt f v4 x1 x2).bind fun v5 => fn_L_part_25 f v5
set_option maxHeartbeats 4000000 in
set_option maxRecDepth 100000 in
theorem tl_L_part_25 {p : Program} {l : Launch} {e : Env} {s : State} {m : MethodId} {args : Array Value} {below : List Frame} {meth : Method} {c : Code} {D : va_G} {dA : Nat → ClassId} {tt : Nat → Nat} {b n : Nat} (C : pl_C p s m args meth c co_L_part 3 rn_L (some .int) "part" D dA tt b) {r : Int32} {f : pl_H} {sx0 : Int32} {H : Heap} {locs : List Loc} {ls : Array Slot} (hF : fn_L_part_25 f sx0 = some r) (w : pl_wd D vwCl dA b n f H) (hS : va_S (pl_A b) s.heap H locs) (hl : lv_has ls 3 []) : W p l e rm_L_part s m args below meth c H locs 0 0 (MQ below (pl_qI D dA tt b n f r) args s 0 0 (pl_A b)) (F0 m 25 ls [.int sx0]) := by
  have hx := C.1
  have hb := C.2.1
  have hown := C.2.2.2.2.1
  have hts := C.2.2.2.2.2.2.1
  unfold fn_L_part_25 at hF
  exact pl_retI C w hS hF dc_L_part_25
set_option maxHeartbeats 4000000 in
set_option maxRecDepth 100000 in
theorem tl_L_part {p : Program} {l : Launch} {e : Env} {s : State} {m : MethodId} {args : Array Value} {below : List Frame} {meth : Method} {c : Code} {D : va_G} {dA : Nat → ClassId} {tt : Nat → Nat} {b n : Nat} (C : pl_C p s m args meth c co_L_part 3 rn_L (some .int) "part" D dA tt b) {r : Int32} {f : pl_H} {a0 : Nat} {x1 : Int32} {x2 : Int32} {H : Heap} {locs : List Loc} {ls : Array Slot} (hF : fn_L_part f a0 x1 x2 = some r) (w : pl_wd D vwCl dA b n f H) (hS : va_S (pl_A b) s.heap H locs) (hl : lv_has ls 3 [(0, .ref a0), (1, .int x1), (2, .int x2)]) : W p l e rm_L_part s m args below meth c H locs 0 0 (MQ below (pl_qI D dA tt b n f r) args s 0 0 (pl_A b)) (F0 m 0 ls []) := by
  have hx := C.1
  have hb := C.2.1
  have hown := C.2.2.2.2.1
  have hts := C.2.2.2.2.2.2.1
  unfold fn_L_part at hF
  refine lv_aload_n hx hb dc_L_part_0 rfl (lv_at hl 0 rfl) ?_
  obtain ⟨v1, ev1, hF⟩ := pl_bd hF
  refine pl_getR C w (ci := 7) in_L rfl (by decide) 3 (by decide) mw_263 ev1 dc_L_part_1 ?_
  refine lv_iload_n hx hb dc_L_part_4 rfl (lv_at hl 1 rfl) ?_
  refine lv_iload_n hx hb dc_L_part_5 rfl (lv_at hl 2 rfl) ?_
  obtain ⟨u3, eu3, hF⟩ := pl_bd hF
  obtain ⟨v2, ev2, hF⟩ := pl_bd hF
  refine pl_gi (pl_runV (Cn := rn_P) (k := 2) C (tm_P_hasByte l D dA tt b n ev2) w hS rfl rfl mw_577 mw_578 mw_579 mw_70 mw_580 (by decide +kernel) ⟨by decide, by decide⟩ eu3 rfl (by decide) rfl hl.1 (Nat.le_of_ble_eq_true rfl) ⟨Nat.zero_le _, Nat.zero_le _⟩ rfl dc_L_part_6) hS (fun H locs w hS => ?_)
  refine lv_if_eq hx hb dc_L_part_9 (tgt := 24) (by decide) (fun hc => ?_) (fun hc => ?_)
  · have hF := (if_pos hc).symm.trans hF
    refine lv_iconst (v := (-1)) hx hb dc_L_part_24 (by decide) ?_
    exact tl_L_part_25 C hF w hS (lv_sub hl [] rfl)
  · have hF := (if_neg hc).symm.trans hF
    refine lv_aload_n hx hb dc_L_part_12 rfl (lv_at hl 0 rfl) ?_
    obtain ⟨v4, ev4, hF⟩ := pl_bd hF
    refine pl_getR C w (ci := 7) in_L rfl (by decide) 3 (by decide) mw_263 ev4 dc_L_part_13 ?_
    refine lv_iload_n hx hb dc_L_part_16 rfl (lv_at hl 1 rfl) ?_
    refine lv_iload_n hx hb dc_L_part_17 rfl (lv_at hl 2 rfl) ?_
    obtain ⟨u6, eu6, hF⟩ := pl_bd hF
    obtain ⟨v5, ev5, hF⟩ := pl_bd hF
    refine pl_gi (pl_runV (Cn := rn_P) (k := 2) C (tm_P_byteAt l D dA tt b n ev5) w hS rfl rfl mw_581 mw_582 mw_583 mw_70 mw_584 (by decide +kernel) ⟨by decide, by decide⟩ eu6 rfl (by decide) rfl hl.1 (Nat.le_of_ble_eq_true rfl) ⟨Nat.zero_le _, Nat.zero_le _⟩ rfl dc_L_part_18) hS (fun H locs w hS => ?_)
    refine lv_goto hx hb dc_L_part_21 (tgt := 25) (by decide) ?_
    exact tl_L_part_25 C hF w hS (lv_sub hl [] rfl)
set_option maxHeartbeats 4000000 in
set_option maxRecDepth 100000 in
theorem tm_L_part (l : Launch) (D : va_G) (dA : Nat → ClassId) (tt : Nat → Nat) (b n : Nat) {f : pl_H} {a0 : Nat} {x1 : Int32} {x2 : Int32} {r : Int32} (hF : fn_L_part f a0 x1 x2 = some r) : Met l my_L_part (Cond.code my_L_part co_L_part 3 (some .int) :: pl_tb) rm_L_part (va_Pc [.ref a0, .int x1, .int x2] (pl_pre D dA tt b n f)) (pl_qI D dA tt b n f r) 0 0 (pl_A b) := by
  refine Met.ofW (cc := co_L_part) (maxL := 3) (ret := (some .int)) (by decide) rfl ?_
  intro p e s m args below meth c s₁ B hml hv
  obtain ⟨rfl, w, hK⟩ := hv
  have C : pl_C p s m _ meth c co_L_part 3 rn_L (some .int) "part" D dA tt b := ⟨B.exec, B.bytes, hml, B.returns, findClass_of_methodNamed B.named, B.notSynchronized, fun w hw => atoms_spec (ws := Cond.code my_L_part co_L_part 3 (some .int) :: pl_tb) B.pre w (List.mem_cons_of_mem _ hw), (name_of_methodNamed B.named B.method).1, hK⟩
  have hl := lv_entry ([.ref a0, .int x1, .int x2]) (n := 3) (Nat.le_of_ble_eq_true rfl)
  rw [lg_entry_eq]
  generalize (lg_sl ([.ref a0, .int x1, .int x2]) ++ List.replicate (3 - (lg_sl ([.ref a0, .int x1, .int x2])).length) Slot.unset).toArray = ls at hl ⊢
  have hl : lv_has ls 3 [(0, .ref a0), (1, .int x1), (2, .int x2)] := hl
  exact tl_L_part C hF w va_S.rf hl
def rm_L_alter : Room := { frames := 2, cells := 0, slots := 0, locals := 45 }
def fn_L_alter_43 (f : pl_H) (a0 : Nat) (x1 : Int32) (x2 : Int32) (x3 : Int32) (sx0 : Int32) : Option (Int32 × pl_H) := (pl_gR f a0 7 3).bind fun v1 => (pl_is f v1 4).bind fun u3 => (fn_P_setByte f v1 x1 x2 x3).bind fun q2 => (pl_z sx0).bind (fun z => some (z, q2))
def fn_L_alter_23 (f : pl_H) : Option (Int32 × pl_H) := (pl_z 0).bind (fun z => some (z, f))
def fn_L_alter (f : pl_H) (a0 : Nat) (x1 : Int32) (x2 : Int32) (x3 : Int32) : Option (Int32 × pl_H) := (pl_gR f a0 7 3).bind fun v1 => (pl_is f v1 4).bind fun u3 => (fn_P_hasByte f v1 x1 x2).bind fun v2 => if v2 = 0 then fn_L_alter_23 f else if x3 < 0 then fn_L_alter_23 f else if x3 ≤ 255 then (pl_gR f a0 7 3).bind fun v4 => (pl_is f v4 4).bind fun u6 => (fn_P_byteAt f v4 x1 x2).bind fun v5 => if v5 = x3 then fn_L_alter_43 f a0 x1 x2 x3 0 else fn_L_alter_43 f a0 x1 x2 x3 1 else fn_L_alter_23 f
set_option maxHeartbeats 4000000 in
set_option maxRecDepth 100000 in
theorem tl_L_alter_43 {p : Program} {l : Launch} {e : Env} {s : State} {m : MethodId} {args : Array Value} {below : List Frame} {meth : Method} {c : Code} {D : va_G} {dA : Nat → ClassId} {tt : Nat → Nat} {b n : Nat} (C : pl_C p s m args meth c co_L_alter 5 rn_L (some .boolean) "alter" D dA tt b) {r : Int32} {f' : pl_H} {f : pl_H} {a0 : Nat} {x1 : Int32} {x2 : Int32} {x3 : Int32} {sx0 : Int32} {H : Heap} {locs : List Loc} {ls : Array Slot} (hF : fn_L_alter_43 f a0 x1 x2 x3 sx0 = some (r, f')) (w : pl_wd D vwCl dA b n f H) (hS : va_S (pl_A b) s.heap H locs) (hl : lv_has ls 5 [(0, .ref a0), (1, .int x1), (2, .int x2), (3, .int x3)]) : W p l e rm_L_alter s m args below meth c H locs 0 0 (MQ below (pl_qI D dA tt b n f' r) args s 0 0 (pl_A b)) (F0 m 43 ls [.int sx0]) := by
  have hx := C.1
  have hb := C.2.1
  have hown := C.2.2.2.2.1
  have hts := C.2.2.2.2.2.2.1
  unfold fn_L_alter_43 at hF
  refine lv_istore (lv' := [(4, .int sx0), (0, .ref a0), (1, .int x1), (2, .int x2), (3, .int x3)]) hx hb dc_L_alter_43 hl (by decide) rfl (fun ls hl => ?_)
  refine lv_aload_n hx hb dc_L_alter_45 rfl (lv_at hl 1 rfl) ?_
  obtain ⟨v1, ev1, hF⟩ := pl_bd hF
  refine pl_getR C w (ci := 7) in_L rfl (by decide) 3 (by decide) mw_263 ev1 dc_L_alter_46 ?_
  refine lv_iload_n hx hb dc_L_alter_49 rfl (lv_at hl 2 rfl) ?_
  refine lv_iload_n hx hb dc_L_alter_50 rfl (lv_at hl 3 rfl) ?_
  refine lv_iload_n hx hb dc_L_alter_51 rfl (lv_at hl 4 rfl) ?_
  obtain ⟨u3, eu3, hF⟩ := pl_bd hF
  obtain ⟨q2, eq2, hF⟩ := pl_bd hF
  refine pl_gv (pl_runV (Cn := rn_P) (k := 3) C (tm_P_setByte l D dA tt b n eq2) w hS rfl rfl mw_590 mw_591 mw_592 mw_70 mw_593 (by decide +kernel) ⟨by decide, by decide⟩ eu3 rfl (by decide) rfl hl.1 (Nat.le_of_ble_eq_true rfl) ⟨Nat.zero_le _, Nat.zero_le _⟩ rfl dc_L_alter_52) hS (fun H locs w hS => ?_)
  refine lv_iload hx hb dc_L_alter_55 (lv_at hl 0 rfl) ?_
  exact pl_retZw C w hS hF dc_L_alter_57
set_option maxHeartbeats 4000000 in
set_option maxRecDepth 100000 in
theorem tl_L_alter_23 {p : Program} {l : Launch} {e : Env} {s : State} {m : MethodId} {args : Array Value} {below : List Frame} {meth : Method} {c : Code} {D : va_G} {dA : Nat → ClassId} {tt : Nat → Nat} {b n : Nat} (C : pl_C p s m args meth c co_L_alter 5 rn_L (some .boolean) "alter" D dA tt b) {r : Int32} {f' : pl_H} {f : pl_H} {H : Heap} {locs : List Loc} {ls : Array Slot} (hF : fn_L_alter_23 f = some (r, f')) (w : pl_wd D vwCl dA b n f H) (hS : va_S (pl_A b) s.heap H locs) (hl : lv_has ls 5 []) : W p l e rm_L_alter s m args below meth c H locs 0 0 (MQ below (pl_qI D dA tt b n f' r) args s 0 0 (pl_A b)) (F0 m 23 ls []) := by
  have hx := C.1
  have hb := C.2.1
  have hown := C.2.2.2.2.1
  have hts := C.2.2.2.2.2.2.1
  unfold fn_L_alter_23 at hF
  refine lv_iconst (v := 0) hx hb dc_L_alter_23 (by decide) ?_
  exact pl_retZw C w hS hF dc_L_alter_24
set_option maxHeartbeats 4000000 in
set_option maxRecDepth 100000 in
theorem tl_L_alter {p : Program} {l : Launch} {e : Env} {s : State} {m : MethodId} {args : Array Value} {below : List Frame} {meth : Method} {c : Code} {D : va_G} {dA : Nat → ClassId} {tt : Nat → Nat} {b n : Nat} (C : pl_C p s m args meth c co_L_alter 5 rn_L (some .boolean) "alter" D dA tt b) {r : Int32} {f' : pl_H} {f : pl_H} {a0 : Nat} {x1 : Int32} {x2 : Int32} {x3 : Int32} {H : Heap} {locs : List Loc} {ls : Array Slot} (hF : fn_L_alter f a0 x1 x2 x3 = some (r, f')) (w : pl_wd D vwCl dA b n f H) (hS : va_S (pl_A b) s.heap H locs) (hl : lv_has ls 5 [(0, .ref a0), (1, .int x1), (2, .int x2), (3, .int x3)]) : W p l e rm_L_alter s m args below meth c H locs 0 0 (MQ below (pl_qI D dA tt b n f' r) args s 0 0 (pl_A b)) (F0 m 0 ls []) := by
  have hx := C.1
  have hb := C.2.1
  have hown := C.2.2.2.2.1
  have hts := C.2.2.2.2.2.2.1
  unfold fn_L_alter at hF
  refine lv_aload_n hx hb dc_L_alter_0 rfl (lv_at hl 0 rfl) ?_
  obtain ⟨v1, ev1, hF⟩ := pl_bd hF
  refine pl_getR C w (ci := 7) in_L rfl (by decide) 3 (by decide) mw_263 ev1 dc_L_alter_1 ?_
  refine lv_iload_n hx hb dc_L_alter_4 rfl (lv_at hl 1 rfl) ?_
  refine lv_iload_n hx hb dc_L_alter_5 rfl (lv_at hl 2 rfl) ?_
  obtain ⟨u3, eu3, hF⟩ := pl_bd hF
  obtain ⟨v2, ev2, hF⟩ := pl_bd hF
  refine pl_gi (pl_runV (Cn := rn_P) (k := 2) C (tm_P_hasByte l D dA tt b n ev2) w hS rfl rfl mw_577 mw_578 mw_579 mw_70 mw_580 (by decide +kernel) ⟨by decide, by decide⟩ eu3 rfl (by decide) rfl hl.1 (Nat.le_of_ble_eq_true rfl) ⟨Nat.zero_le _, Nat.zero_le _⟩ rfl dc_L_alter_6) hS (fun H locs w hS => ?_)
  refine lv_if_eq hx hb dc_L_alter_9 (tgt := 23) (by decide) (fun hc => ?_) (fun hc => ?_)
  · have hF := (if_pos hc).symm.trans hF
    exact tl_L_alter_23 C hF w hS (lv_sub hl [] rfl)
  · have hF := (if_neg hc).symm.trans hF
    refine lv_iload_n hx hb dc_L_alter_12 rfl (lv_at hl 3 rfl) ?_
    refine lv_if_lt hx hb dc_L_alter_13 (tgt := 23) (by decide) (fun hc => ?_) (fun hc => ?_)
    · have hF := (if_pos hc).symm.trans hF
      exact tl_L_alter_23 C hF w hS (lv_sub hl [] rfl)
    · have hF := (if_neg hc).symm.trans hF
      refine lv_iload_n hx hb dc_L_alter_16 rfl (lv_at hl 3 rfl) ?_
      refine lv_sipush (v := 255) hx hb dc_L_alter_17 (by decide) ?_
      refine lv_icmp_le hx hb dc_L_alter_20 (tgt := 25) (by decide) (fun hc => ?_) (fun hc => ?_)
      · have hF := (if_pos hc).symm.trans hF
        refine lv_aload_n hx hb dc_L_alter_25 rfl (lv_at hl 0 rfl) ?_
        obtain ⟨v4, ev4, hF⟩ := pl_bd hF
        refine pl_getR C w (ci := 7) in_L rfl (by decide) 3 (by decide) mw_263 ev4 dc_L_alter_26 ?_
        refine lv_iload_n hx hb dc_L_alter_29 rfl (lv_at hl 1 rfl) ?_
        refine lv_iload_n hx hb dc_L_alter_30 rfl (lv_at hl 2 rfl) ?_
        obtain ⟨u6, eu6, hF⟩ := pl_bd hF
        obtain ⟨v5, ev5, hF⟩ := pl_bd hF
        refine pl_gi (pl_runV (Cn := rn_P) (k := 2) C (tm_P_byteAt l D dA tt b n ev5) w hS rfl rfl mw_581 mw_582 mw_583 mw_70 mw_584 (by decide +kernel) ⟨by decide, by decide⟩ eu6 rfl (by decide) rfl hl.1 (Nat.le_of_ble_eq_true rfl) ⟨Nat.zero_le _, Nat.zero_le _⟩ rfl dc_L_alter_31) hS (fun H locs w hS => ?_)
        refine lv_iload_n hx hb dc_L_alter_34 rfl (lv_at hl 3 rfl) ?_
        refine lv_icmp_eq hx hb dc_L_alter_35 (tgt := 42) (by decide) (fun hc => ?_) (fun hc => ?_)
        · have hF := (if_pos hc).symm.trans hF
          refine lv_iconst (v := 0) hx hb dc_L_alter_42 (by decide) ?_
          exact tl_L_alter_43 C hF w hS (lv_sub hl [0, 1, 2, 3] rfl)
        · have hF := (if_neg hc).symm.trans hF
          refine lv_iconst (v := 1) hx hb dc_L_alter_38 (by decide) ?_
          refine lv_goto hx hb dc_L_alter_39 (tgt := 43) (by decide) ?_
          exact tl_L_alter_43 C hF w hS (lv_sub hl [0, 1, 2, 3] rfl)
      · have hF := (if_neg hc).symm.trans hF
        exact tl_L_alter_23 C hF w hS (lv_sub hl [] rfl)
set_option maxHeartbeats 4000000 in
set_option maxRecDepth 100000 in
theorem tm_L_alter (l : Launch) (D : va_G) (dA : Nat → ClassId) (tt : Nat → Nat) (b n : Nat) {f : pl_H} {a0 : Nat} {x1 : Int32} {x2 : Int32} {x3 : Int32} {r : Int32} {f' : pl_H} (hF : fn_L_alter f a0 x1 x2 x3 = some (r, f')) : Met l my_L_alter (Cond.code my_L_alter co_L_alter 5 (some .boolean) :: pl_tb) rm_L_alter (va_Pc [.ref a0, .int x1, .int x2, .int x3] (pl_pre D dA tt b n f)) (pl_qI D dA tt b n f' r) 0 0 (pl_A b) := by
  refine Met.ofW (cc := co_L_alter) (maxL := 5) (ret := (some .boolean)) (by decide) rfl ?_
  intro p e s m args below meth c s₁ B hml hv
  obtain ⟨rfl, w, hK⟩ := hv
  have C : pl_C p s m _ meth c co_L_alter 5 rn_L (some .boolean) "alter" D dA tt b := ⟨B.exec, B.bytes, hml, B.returns, findClass_of_methodNamed B.named, B.notSynchronized, fun w hw => atoms_spec (ws := Cond.code my_L_alter co_L_alter 5 (some .boolean) :: pl_tb) B.pre w (List.mem_cons_of_mem _ hw), (name_of_methodNamed B.named B.method).1, hK⟩
  have hl := lv_entry ([.ref a0, .int x1, .int x2, .int x3]) (n := 5) (Nat.le_of_ble_eq_true rfl)
  rw [lg_entry_eq]
  generalize (lg_sl ([.ref a0, .int x1, .int x2, .int x3]) ++ List.replicate (5 - (lg_sl ([.ref a0, .int x1, .int x2, .int x3])).length) Slot.unset).toArray = ls at hl ⊢
  have hl : lv_has ls 5 [(0, .ref a0), (1, .int x1), (2, .int x2), (3, .int x3)] := hl
  exact tl_L_alter C hF w va_S.rf hl
def rm_L_shorten : Room := { frames := 1, cells := 0, slots := 0, locals := 20 }
def fn_L_shorten (f : pl_H) (a0 : Nat) : Option (Int32 × pl_H) := (pl_gR f a0 7 3).bind fun v1 => (pl_is f v1 4).bind fun u3 => (fn_P_count f v1).bind fun v2 => if v2 = 0 then some ((-1), f) else (pl_gR f a0 7 3).bind fun v4 => (pl_is f v4 4).bind fun u6 => (fn_P_dropLast f v4).bind fun q5 => (pl_gR q5 a0 7 3).bind fun v7 => (pl_is q5 v7 4).bind fun u9 => (fn_P_count q5 v7).bind fun v8 => some (v8, q5)
set_option maxHeartbeats 4000000 in
set_option maxRecDepth 100000 in
theorem tl_L_shorten {p : Program} {l : Launch} {e : Env} {s : State} {m : MethodId} {args : Array Value} {below : List Frame} {meth : Method} {c : Code} {D : va_G} {dA : Nat → ClassId} {tt : Nat → Nat} {b n : Nat} (C : pl_C p s m args meth c co_L_shorten 1 rn_L (some .int) "shorten" D dA tt b) {r : Int32} {f' : pl_H} {f : pl_H} {a0 : Nat} {H : Heap} {locs : List Loc} {ls : Array Slot} (hF : fn_L_shorten f a0 = some (r, f')) (w : pl_wd D vwCl dA b n f H) (hS : va_S (pl_A b) s.heap H locs) (hl : lv_has ls 1 [(0, .ref a0)]) : W p l e rm_L_shorten s m args below meth c H locs 0 0 (MQ below (pl_qI D dA tt b n f' r) args s 0 0 (pl_A b)) (F0 m 0 ls []) := by
  have hx := C.1
  have hb := C.2.1
  have hown := C.2.2.2.2.1
  have hts := C.2.2.2.2.2.2.1
  unfold fn_L_shorten at hF
  refine lv_aload_n hx hb dc_L_shorten_0 rfl (lv_at hl 0 rfl) ?_
  obtain ⟨v1, ev1, hF⟩ := pl_bd hF
  refine pl_getR C w (ci := 7) in_L rfl (by decide) 3 (by decide) mw_263 ev1 dc_L_shorten_1 ?_
  obtain ⟨u3, eu3, hF⟩ := pl_bd hF
  obtain ⟨v2, ev2, hF⟩ := pl_bd hF
  refine pl_gi (pl_runV (Cn := rn_P) (k := 0) C (tm_P_count l D dA tt b n ev2) w hS rfl rfl mw_552 mw_553 mw_554 mw_70 mw_555 (by decide +kernel) ⟨by decide, by decide⟩ eu3 rfl (by decide) rfl hl.1 (Nat.le_of_ble_eq_true rfl) ⟨Nat.zero_le _, Nat.zero_le _⟩ rfl dc_L_shorten_4) hS (fun H locs w hS => ?_)
  refine lv_if_ne hx hb dc_L_shorten_7 (tgt := 12) (by decide) (fun hc => ?_) (fun hc => ?_)
  · have hF := (if_neg hc).symm.trans hF
    refine lv_aload_n hx hb dc_L_shorten_12 rfl (lv_at hl 0 rfl) ?_
    obtain ⟨v4, ev4, hF⟩ := pl_bd hF
    refine pl_getR C w (ci := 7) in_L rfl (by decide) 3 (by decide) mw_263 ev4 dc_L_shorten_13 ?_
    obtain ⟨u6, eu6, hF⟩ := pl_bd hF
    obtain ⟨q5, eq5, hF⟩ := pl_bd hF
    refine pl_gv (pl_runV (Cn := rn_P) (k := 0) C (tm_P_dropLast l D dA tt b n eq5) w hS rfl rfl mw_598 mw_599 mw_600 mw_70 mw_601 (by decide +kernel) ⟨by decide, by decide⟩ eu6 rfl (by decide) rfl hl.1 (Nat.le_of_ble_eq_true rfl) ⟨Nat.zero_le _, Nat.zero_le _⟩ rfl dc_L_shorten_16) hS (fun H locs w hS => ?_)
    refine lv_aload_n hx hb dc_L_shorten_19 rfl (lv_at hl 0 rfl) ?_
    obtain ⟨v7, ev7, hF⟩ := pl_bd hF
    refine pl_getR C w (ci := 7) in_L rfl (by decide) 3 (by decide) mw_263 ev7 dc_L_shorten_20 ?_
    obtain ⟨u9, eu9, hF⟩ := pl_bd hF
    obtain ⟨v8, ev8, hF⟩ := pl_bd hF
    refine pl_gi (pl_runV (Cn := rn_P) (k := 0) C (tm_P_count l D dA tt b n ev8) w hS rfl rfl mw_552 mw_553 mw_554 mw_70 mw_555 (by decide +kernel) ⟨by decide, by decide⟩ eu9 rfl (by decide) rfl hl.1 (Nat.le_of_ble_eq_true rfl) ⟨Nat.zero_le _, Nat.zero_le _⟩ rfl dc_L_shorten_23) hS (fun H locs w hS => ?_)
    exact pl_retIw C w hS hF dc_L_shorten_26
  · have hF := (if_pos hc).symm.trans hF
    refine lv_iconst (v := (-1)) hx hb dc_L_shorten_10 (by decide) ?_
    exact pl_retIw C w hS hF dc_L_shorten_11
set_option maxHeartbeats 4000000 in
set_option maxRecDepth 100000 in
theorem tm_L_shorten (l : Launch) (D : va_G) (dA : Nat → ClassId) (tt : Nat → Nat) (b n : Nat) {f : pl_H} {a0 : Nat} {r : Int32} {f' : pl_H} (hF : fn_L_shorten f a0 = some (r, f')) : Met l my_L_shorten (Cond.code my_L_shorten co_L_shorten 1 (some .int) :: pl_tb) rm_L_shorten (va_Pc [.ref a0] (pl_pre D dA tt b n f)) (pl_qI D dA tt b n f' r) 0 0 (pl_A b) := by
  refine Met.ofW (cc := co_L_shorten) (maxL := 1) (ret := (some .int)) (by decide) rfl ?_
  intro p e s m args below meth c s₁ B hml hv
  obtain ⟨rfl, w, hK⟩ := hv
  have C : pl_C p s m _ meth c co_L_shorten 1 rn_L (some .int) "shorten" D dA tt b := ⟨B.exec, B.bytes, hml, B.returns, findClass_of_methodNamed B.named, B.notSynchronized, fun w hw => atoms_spec (ws := Cond.code my_L_shorten co_L_shorten 1 (some .int) :: pl_tb) B.pre w (List.mem_cons_of_mem _ hw), (name_of_methodNamed B.named B.method).1, hK⟩
  have hl := lv_entry ([.ref a0]) (n := 1) (Nat.le_of_ble_eq_true rfl)
  rw [lg_entry_eq]
  generalize (lg_sl ([.ref a0]) ++ List.replicate (1 - (lg_sl ([.ref a0])).length) Slot.unset).toArray = ls at hl ⊢
  have hl : lv_has ls 1 [(0, .ref a0)] := hl
  exact tl_L_shorten C hF w va_S.rf hl
def rm_L_proven : Room := { frames := 1, cells := 0, slots := 0, locals := 20 }
def fn_L_proven_38 (f : pl_H) (sy0 : Int64) : Option (Int64) := some sy0
def fn_L_proven (f : pl_H) (a0 : Nat) (x1 : Int32) : Option (Int64) := (pl_gI f a0 7 6).bind fun v1 => if v1 = 1 then if x1 = 0 then (pl_gR f a0 7 4).bind fun v5 => (pl_is f v5 6).bind fun u7 => (fn_W_foundNonce f v5).bind fun v6 => some v6 else if x1 = 1 then (pl_gR f a0 7 4).bind fun v2 => (pl_is f v2 6).bind fun u4 => (fn_W_foundBalance f v2).bind fun v3 => fn_L_proven_38 f v3 else fn_L_proven_38 f 0 else some 0
set_option maxHeartbeats 4000000 in
set_option maxRecDepth 100000 in
theorem tl_L_proven_38 {p : Program} {l : Launch} {e : Env} {s : State} {m : MethodId} {args : Array Value} {below : List Frame} {meth : Method} {c : Code} {D : va_G} {dA : Nat → ClassId} {tt : Nat → Nat} {b n : Nat} (C : pl_C p s m args meth c co_L_proven 2 rn_L (some .long) "proven" D dA tt b) {r : Int64} {f : pl_H} {sy0 : Int64} {H : Heap} {locs : List Loc} {ls : Array Slot} (hF : fn_L_proven_38 f sy0 = some r) (w : pl_wd D vwCl dA b n f H) (hS : va_S (pl_A b) s.heap H locs) (hl : lv_has ls 2 []) : W p l e rm_L_proven s m args below meth c H locs 0 0 (MQ below (pl_qL D dA tt b n f r) args s 0 0 (pl_A b)) (F0 m 38 ls [.long sy0]) := by
  have hx := C.1
  have hb := C.2.1
  have hown := C.2.2.2.2.1
  have hts := C.2.2.2.2.2.2.1
  unfold fn_L_proven_38 at hF
  exact pl_retL C w hS hF dc_L_proven_38
set_option maxHeartbeats 4000000 in
set_option maxRecDepth 100000 in
theorem tl_L_proven {p : Program} {l : Launch} {e : Env} {s : State} {m : MethodId} {args : Array Value} {below : List Frame} {meth : Method} {c : Code} {D : va_G} {dA : Nat → ClassId} {tt : Nat → Nat} {b n : Nat} (C : pl_C p s m args meth c co_L_proven 2 rn_L (some .long) "proven" D dA tt b) {r : Int64} {f : pl_H} {a0 : Nat} {x1 : Int32} {H : Heap} {locs : List Loc} {ls : Array Slot} (hF : fn_L_proven f a0 x1 = some r) (w : pl_wd D vwCl dA b n f H) (hS : va_S (pl_A b) s.heap H locs) (hl : lv_has ls 2 [(0, .ref a0), (1, .int x1)]) : W p l e rm_L_proven s m args below meth c H locs 0 0 (MQ below (pl_qL D dA tt b n f r) args s 0 0 (pl_A b)) (F0 m 0 ls []) := by
  have hx := C.1
  have hb := C.2.1
  have hown := C.2.2.2.2.1
  have hts := C.2.2.2.2.2.2.1
  unfold fn_L_proven at hF
  refine lv_aload_n hx hb dc_L_proven_0 rfl (lv_at hl 0 rfl) ?_
  obtain ⟨v1, ev1, hF⟩ := pl_bd hF
  refine pl_getI C w (ci := 7) in_L rfl (by decide) 6 (by decide) mw_266 ev1 dc_L_proven_1 ?_
  refine lv_iconst (v := 1) hx hb dc_L_proven_4 (by decide) ?_
  refine lv_icmp_eq hx hb dc_L_proven_5 (tgt := 10) (by decide) (fun hc => ?_) (fun hc => ?_)
  · have hF := (if_pos hc).symm.trans hF
    refine lv_iload_n hx hb dc_L_proven_10 rfl (lv_at hl 1 rfl) ?_
    refine lv_if_ne hx hb dc_L_proven_11 (tgt := 22) (by decide) (fun hc => ?_) (fun hc => ?_)
    · have hF := (if_neg hc).symm.trans hF
      refine lv_iload_n hx hb dc_L_proven_22 rfl (lv_at hl 1 rfl) ?_
      refine lv_iconst (v := 1) hx hb dc_L_proven_23 (by decide) ?_
      refine lv_icmp_ne hx hb dc_L_proven_24 (tgt := 37) (by decide) (fun hc => ?_) (fun hc => ?_)
      · have hF := (if_neg hc).symm.trans hF
        refine lv_lconst (v := 0) hx hb dc_L_proven_37 (by decide) ?_
        exact tl_L_proven_38 C hF w hS (lv_sub hl [] rfl)
      · have hF := (if_pos hc).symm.trans hF
        refine lv_aload_n hx hb dc_L_proven_27 rfl (lv_at hl 0 rfl) ?_
        obtain ⟨v2, ev2, hF⟩ := pl_bd hF
        refine pl_getR C w (ci := 7) in_L rfl (by decide) 4 (by decide) mw_264 ev2 dc_L_proven_28 ?_
        obtain ⟨u4, eu4, hF⟩ := pl_bd hF
        obtain ⟨v3, ev3, hF⟩ := pl_bd hF
        refine pl_gl (pl_runV (Cn := rn_W) (k := 0) C (tm_W_foundBalance l D dA tt b n ev3) w hS rfl rfl mw_687 mw_688 mw_689 mw_71 mw_690 (by decide +kernel) ⟨by decide, by decide⟩ eu4 rfl (by decide) rfl hl.1 (Nat.le_of_ble_eq_true rfl) ⟨Nat.zero_le _, Nat.zero_le _⟩ rfl dc_L_proven_31) hS (fun H locs w hS => ?_)
        refine lv_goto hx hb dc_L_proven_34 (tgt := 38) (by decide) ?_
        exact tl_L_proven_38 C hF w hS (lv_sub hl [] rfl)
    · have hF := (if_pos hc).symm.trans hF
      refine lv_aload_n hx hb dc_L_proven_14 rfl (lv_at hl 0 rfl) ?_
      obtain ⟨v5, ev5, hF⟩ := pl_bd hF
      refine pl_getR C w (ci := 7) in_L rfl (by decide) 4 (by decide) mw_264 ev5 dc_L_proven_15 ?_
      obtain ⟨u7, eu7, hF⟩ := pl_bd hF
      obtain ⟨v6, ev6, hF⟩ := pl_bd hF
      refine pl_gl (pl_runV (Cn := rn_W) (k := 0) C (tm_W_foundNonce l D dA tt b n ev6) w hS rfl rfl mw_683 mw_684 mw_685 mw_71 mw_686 (by decide +kernel) ⟨by decide, by decide⟩ eu7 rfl (by decide) rfl hl.1 (Nat.le_of_ble_eq_true rfl) ⟨Nat.zero_le _, Nat.zero_le _⟩ rfl dc_L_proven_18) hS (fun H locs w hS => ?_)
      exact pl_retL C w hS hF dc_L_proven_21
  · have hF := (if_neg hc).symm.trans hF
    refine lv_lconst (v := 0) hx hb dc_L_proven_8 (by decide) ?_
    exact pl_retL C w hS hF dc_L_proven_9
set_option maxHeartbeats 4000000 in
set_option maxRecDepth 100000 in
theorem tm_L_proven (l : Launch) (D : va_G) (dA : Nat → ClassId) (tt : Nat → Nat) (b n : Nat) {f : pl_H} {a0 : Nat} {x1 : Int32} {r : Int64} (hF : fn_L_proven f a0 x1 = some r) : Met l my_L_proven (Cond.code my_L_proven co_L_proven 2 (some .long) :: pl_tb) rm_L_proven (va_Pc [.ref a0, .int x1] (pl_pre D dA tt b n f)) (pl_qL D dA tt b n f r) 0 0 (pl_A b) := by
  refine Met.ofW (cc := co_L_proven) (maxL := 2) (ret := (some .long)) (by decide) rfl ?_
  intro p e s m args below meth c s₁ B hml hv
  obtain ⟨rfl, w, hK⟩ := hv
  have C : pl_C p s m _ meth c co_L_proven 2 rn_L (some .long) "proven" D dA tt b := ⟨B.exec, B.bytes, hml, B.returns, findClass_of_methodNamed B.named, B.notSynchronized, fun w hw => atoms_spec (ws := Cond.code my_L_proven co_L_proven 2 (some .long) :: pl_tb) B.pre w (List.mem_cons_of_mem _ hw), (name_of_methodNamed B.named B.method).1, hK⟩
  have hl := lv_entry ([.ref a0, .int x1]) (n := 2) (Nat.le_of_ble_eq_true rfl)
  rw [lg_entry_eq]
  generalize (lg_sl ([.ref a0, .int x1]) ++ List.replicate (2 - (lg_sl ([.ref a0, .int x1])).length) Slot.unset).toArray = ls at hl ⊢
  have hl : lv_has ls 2 [(0, .ref a0), (1, .int x1)] := hl
  exact tl_L_proven C hF w va_S.rf hl
