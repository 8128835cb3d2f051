def rm_N_become : Room := { frames := 0, cells := 0, slots := 0, locals := 0 }
def fn_N_become_24 : Nat → pl_H → Nat → Int32 → Option (pl_H)
  | 0 => fun _ _ _ => none
  | k + 1 => fun f a0 x5 => if 16 ≤ x5 then some f else (pl_gR f a0 3 0).bind fun v1 => (pl_sQ f 2 3 v1 x5 none).bind fun f2 => fn_N_become_24 k f2 a0 (x5 + 1)
def fn_N_become (f : pl_H) (a0 : Nat) (x1 : Int32) (x2 : Int32) (x3 : Int32) (x4 : Int32) : Option (pl_H) := (pl_pV f a0 3 1 (.int x1)).bind fun f1 => (pl_pV f1 a0 3 2 (.int x2)).bind fun f2 => (pl_pV f2 a0 3 3 (.int x3)).bind fun f3 => (pl_pV f3 a0 3 4 (.int x4)).bind fun f4 => fn_N_become_24 pl_N f4 a0 0
set_option maxHeartbeats 4000000 in
set_option maxRecDepth 100000 in
theorem tl_N_become_24 {p : Program} {l : Launch} {e : Env} {s : State} {m : MethodId} {args : Array Value} {below : List Frame} {meth : Method} {c : Code} {D : va_G} {dA : Nat → ClassId} {tt : Nat → Nat} {b n : Nat} (C : pl_C p s m args meth c co_N_become 6 rn_N none "become" D dA tt b) {f' : pl_H} : ∀ k : Nat, ∀ (f : pl_H) (a0 : Nat) (x5 : Int32) (H : Heap) (locs : List Loc) (ls : Array Slot), fn_N_become_24 k f a0 x5 = some f' → pl_wd D vwCl dA b n f H → va_S (pl_A b) s.heap H locs → lv_has ls 6 [(0, .ref a0), (5, .int x5)] → W p l e rm_N_become s m args below meth c H locs 0 0 (MQ below (pl_qV D dA tt b n f') args s 0 0 (pl_A b)) (F0 m 24 ls []) := by
  have hx := C.1
  have hb := C.2.1
  have hown := C.2.2.2.2.1
  have hts := C.2.2.2.2.2.2.1
  intro k
  induction k with
  | zero =>
    intro f a0 x5 H locs ls hF
    cases hF
  | succ k ih =>
    intro f a0 x5 H locs ls hF w hS hl
    unfold fn_N_become_24 at hF
    refine lv_iload hx hb dc_N_become_24 (lv_at hl 1 rfl) ?_
    refine lv_bipush (v := 16) hx hb dc_N_become_26 (by decide) ?_
    refine lv_icmp_ge hx hb dc_N_become_28 (tgt := 45) (by decide) (fun hc => ?_) (fun hc => ?_)
    · have hF := (if_pos hc).symm.trans hF
      exact pl_retVw C w hS hF dc_N_become_45
    · have hF := (if_neg hc).symm.trans hF
      refine lv_aload_n hx hb dc_N_become_31 rfl (lv_at hl 0 rfl) ?_
      obtain ⟨v1, ev1, hF⟩ := pl_bd hF
      refine pl_getR C w (ci := 3) in_N rfl (by decide) 0 (by decide) mw_147 ev1 dc_N_become_32 ?_
      refine lv_iload hx hb dc_N_become_35 (lv_at hl 1 rfl) ?_
      refine lv_null hx hb dc_N_become_37 ?_
      obtain ⟨f2, ef2, hF⟩ := pl_bd hF
      refine pl_astQ2 (r := none) C w hS ef2 dc_N_become_38 (fun H locs w hS => ?_)
      refine lv_iinc (k := 1) (v := x5 + 1) (lv' := [(5, .int (x5 + 1)), (0, .ref a0)]) hx hb dc_N_become_39 hl rfl rfl (by decide) rfl (fun ls hl => ?_)
      refine lv_goto hx hb dc_N_become_42 (tgt := 24) (by decide) ?_
      exact ih f2 a0 (x5 + 1) _ _ _ hF w hS (lv_sub hl [1, 0] rfl)
set_option maxHeartbeats 4000000 in
set_option maxRecDepth 100000 in
theorem tl_N_become {p : Program} {l : Launch} {e : Env} {s : State} {m : MethodId} {args : Array Value} {below : List Frame} {meth : Method} {c : Code} {D : va_G} {dA : Nat → ClassId} {tt : Nat → Nat} {b n : Nat} (C : pl_C p s m args meth c co_N_become 6 rn_N none "become" D dA tt b) {f' : pl_H} {f : pl_H} {a0 : Nat} {x1 : Int32} {x2 : Int32} {x3 : Int32} {x4 : Int32} {H : Heap} {locs : List Loc} {ls : Array Slot} (hF : fn_N_become f a0 x1 x2 x3 x4 = some f') (w : pl_wd D vwCl dA b n f H) (hS : va_S (pl_A b) s.heap H locs) (hl : lv_has ls 6 [(0, .ref a0), (1, .int x1), (2, .int x2), (3, .int x3), (4, .int x4)]) : W p l e rm_N_become s m args below meth c H locs 0 0 (MQ below (pl_qV D dA tt b n f') args s 0 0 (pl_A b)) (F0 m 0 ls []) := by
  have hx := C.1
  have hb := C.2.1
  have hown := C.2.2.2.2.1
  have hts := C.2.2.2.2.2.2.1
  unfold fn_N_become at hF
  refine lv_aload_n hx hb dc_N_become_0 rfl (lv_at hl 0 rfl) ?_
  refine lv_iload_n hx hb dc_N_become_1 rfl (lv_at hl 1 rfl) ?_
  obtain ⟨f1, ef1, hF⟩ := pl_bd hF
  refine pl_put C w hS (ci := 3) in_N rfl (by decide) rty_N_ok rnm_N 1 (by decide) mw_149 rfl rfl rfl ef1 dc_N_become_2 (fun H locs w hS => ?_)
  refine lv_aload_n hx hb dc_N_become_5 rfl (lv_at hl 0 rfl) ?_
  refine lv_iload_n hx hb dc_N_become_6 rfl (lv_at hl 2 rfl) ?_
  obtain ⟨f2, ef2, hF⟩ := pl_bd hF
  refine pl_put C w hS (ci := 3) in_N rfl (by decide) rty_N_ok rnm_N 2 (by decide) mw_150 rfl rfl rfl ef2 dc_N_become_7 (fun H locs w hS => ?_)
  refine lv_aload_n hx hb dc_N_become_10 rfl (lv_at hl 0 rfl) ?_
  refine lv_iload_n hx hb dc_N_become_11 rfl (lv_at hl 3 rfl) ?_
  obtain ⟨f3, ef3, hF⟩ := pl_bd hF
  refine pl_put C w hS (ci := 3) in_N rfl (by decide) rty_N_ok rnm_N 3 (by decide) mw_151 rfl rfl rfl ef3 dc_N_become_12 (fun H locs w hS => ?_)
  refine lv_aload_n hx hb dc_N_become_15 rfl (lv_at hl 0 rfl) ?_
  refine lv_iload hx hb dc_N_become_16 (lv_at hl 4 rfl) ?_
  obtain ⟨f4, ef4, hF⟩ := pl_bd hF
  refine pl_put C w hS (ci := 3) in_N rfl (by decide) rty_N_ok rnm_N 4 (by decide) mw_152 rfl rfl rfl ef4 dc_N_become_18 (fun H locs w hS => ?_)
  refine lv_iconst (v := 0) hx hb dc_N_become_21 (by decide) ?_
  refine lv_istore (lv' := [(5, .int 0), (0, .ref a0), (1, .int x1), (2, .int x2), (3, .int x3), (4, .int x4)]) hx hb dc_N_become_22 hl (by decide) rfl (fun ls hl => ?_)
  exact tl_N_become_24 C pl_N f4 a0 0 _ _ _ hF w hS (lv_sub hl [1, 0] rfl)
set_option maxHeartbeats 4000000 in
set_option maxRecDepth 100000 in
theorem tm_N_become (l : Launch) (D : va_G) (dA : Nat → ClassId) (tt : Nat → Nat) (b n : Nat) {f : pl_H} {a0 : Nat} {x1 : Int32} {x2 : Int32} {x3 : Int32} {x4 : Int32} {f' : pl_H} (hF : fn_N_become f a0 x1 x2 x3 x4 = some f') : Met l my_N_become (Cond.code my_N_become co_N_become 6 none :: pl_tb) rm_N_become (va_Pc [.ref a0, .int x1, .int x2, .int x3, .int x4] (pl_pre D dA tt b n f)) (pl_qV D dA tt b n f') 0 0 (pl_A b) := by
  refine Met.ofW (cc := co_N_become) (maxL := 6) (ret := none) (by decide) rfl ?_
  intro p e s m args below meth c s₁ B hml hv
  obtain ⟨rfl, w, hK⟩ := hv
  have C : pl_C p s m _ meth c co_N_become 6 rn_N none "become" D dA tt b := ⟨B.exec, B.bytes, hml, B.returns, findClass_of_methodNamed B.named, B.notSynchronized, fun w hw => atoms_spec (ws := Cond.code my_N_become co_N_become 6 none :: pl_tb) B.pre w (List.mem_cons_of_mem _ hw), (name_of_methodNamed B.named B.method).1, hK⟩
  have hl := lv_entry ([.ref a0, .int x1, .int x2, .int x3, .int x4]) (n := 6) (Nat.le_of_ble_eq_true rfl)
  rw [lg_entry_eq]
  generalize (lg_sl ([.ref a0, .int x1, .int x2, .int x3, .int x4]) ++ List.replicate (6 - (lg_sl ([.ref a0, .int x1, .int x2, .int x3, .int x4])).length) Slot.unset).toArray = ls at hl ⊢
  have hl : lv_has ls 6 [(0, .ref a0), (1, .int x1), (2, .int x2), (3, .int x3), (4, .int x4)] := hl
  exact tl_N_become C hF w va_S.rf hl
def rm_N_hasDigitsOf : Room := { frames := 1, cells := 0, slots := 0, locals := 21 }
def fn_N_hasDigitsOf_5 : Nat → pl_H → Nat → Int32 → Int32 → Option (Int32)
  | 0 => fun _ _ _ _ => none
  | k + 1 => fun f a0 x1 x2 => (pl_gI f a0 3 4).bind fun v1 => if v1 ≤ x2 then pl_z 1 else (fn_L_digit f x1 x2).bind fun v2 => (pl_gI f a0 3 2).bind fun v3 => (fn_L_digit f v3 x2).bind fun v4 => if v2 = v4 then fn_N_hasDigitsOf_5 k f a0 x1 (x2 + 1) else pl_z 0
def fn_N_hasDigitsOf (f : pl_H) (a0 : Nat) (x1 : Int32) : Option (Int32) := (pl_gI f a0 3 3).bind fun v1 => fn_N_hasDigitsOf_5 pl_N f a0 x1 v1
set_option maxHeartbeats 4000000 in
set_option maxRecDepth 100000 in
theorem tl_N_hasDigitsOf_5 {p : Program} {l : Launch} {e : Env} {s : State} {m : MethodId} {args : Array Value} {below : List Frame} {meth : Method} {c : Code} {D : va_G} {dA : Nat → ClassId} {tt : Nat → Nat} {b n : Nat} (C : pl_C p s m args meth c co_N_hasDigitsOf 3 rn_N (some .boolean) "hasDigitsOf" D dA tt b) {r : Int32} {f : pl_H} : ∀ k : Nat, ∀ (a0 : Nat) (x1 : Int32) (x2 : Int32) (H : Heap) (locs : List Loc) (ls : Array Slot), fn_N_hasDigitsOf_5 k f a0 x1 x2 = some r → pl_wd D vwCl dA b n f H → va_S (pl_A b) s.heap H locs → lv_has ls 3 [(0, .ref a0), (1, .int x1), (2, .int x2)] → W p l e rm_N_hasDigitsOf s m args below meth c H locs 0 0 (MQ below (pl_qI D dA tt b n f r) args s 0 0 (pl_A b)) (F0 m 5 ls []) := by
  have hx := C.1
  have hb := C.2.1
  have hown := C.2.2.2.2.1
  have hts := C.2.2.2.2.2.2.1
  intro k
  induction k with
  | zero =>
    intro a0 x1 x2 H locs ls hF
    cases hF
  | succ k ih =>
    intro a0 x1 x2 H locs ls hF w hS hl
    unfold fn_N_hasDigitsOf_5 at hF
    refine lv_iload_n hx hb dc_N_hasDigitsOf_5 rfl (lv_at hl 2 rfl) ?_
    refine lv_aload_n hx hb dc_N_hasDigitsOf_6 rfl (lv_at hl 0 rfl) ?_
    obtain ⟨v1, ev1, hF⟩ := pl_bd hF
    refine pl_getI C w (ci := 3) in_N rfl (by decide) 4 (by decide) mw_152 ev1 dc_N_hasDigitsOf_7 ?_
    refine lv_icmp_ge hx hb dc_N_hasDigitsOf_10 (tgt := 37) (by decide) (fun hc => ?_) (fun hc => ?_)
    · have hF := (if_pos hc).symm.trans hF
      refine lv_iconst (v := 1) hx hb dc_N_hasDigitsOf_37 (by decide) ?_
      exact pl_retZ C w hS hF dc_N_hasDigitsOf_38
    · have hF := (if_neg hc).symm.trans hF
      refine lv_iload_n hx hb dc_N_hasDigitsOf_13 rfl (lv_at hl 1 rfl) ?_
      refine lv_iload_n hx hb dc_N_hasDigitsOf_14 rfl (lv_at hl 2 rfl) ?_
      obtain ⟨v2, ev2, hF⟩ := pl_bd hF
      refine pl_gi (pl_runSN (k := 2) C (tm_L_digit l D dA tt b n ev2) w hS rfl rfl C.2.2.2.2.2.2.2.2.2.2.2.2.2.2.2.1 mw_436 mw_64 mw_437 (by decide +kernel) ⟨by decide, by decide⟩ rfl hl.1 (Nat.le_of_ble_eq_true rfl) ⟨Nat.zero_le _, Nat.zero_le _⟩ rfl dc_N_hasDigitsOf_15) hS (fun H locs w hS => ?_)
      refine lv_aload_n hx hb dc_N_hasDigitsOf_18 rfl (lv_at hl 0 rfl) ?_
      obtain ⟨v3, ev3, hF⟩ := pl_bd hF
      refine pl_getI C w (ci := 3) in_N rfl (by decide) 2 (by decide) mw_150 ev3 dc_N_hasDigitsOf_19 ?_
      refine lv_iload_n hx hb dc_N_hasDigitsOf_22 rfl (lv_at hl 2 rfl) ?_
      obtain ⟨v4, ev4, hF⟩ := pl_bd hF
      refine pl_gi (pl_runSN (k := 2) C (tm_L_digit l D dA tt b n ev4) w hS rfl rfl C.2.2.2.2.2.2.2.2.2.2.2.2.2.2.2.1 mw_436 mw_64 mw_437 (by decide +kernel) ⟨by decide, by decide⟩ rfl hl.1 (Nat.le_of_ble_eq_true rfl) ⟨Nat.zero_le _, Nat.zero_le _⟩ rfl dc_N_hasDigitsOf_23) hS (fun H locs w hS => ?_)
      refine lv_icmp_eq hx hb dc_N_hasDigitsOf_26 (tgt := 31) (by decide) (fun hc => ?_) (fun hc => ?_)
      · have hF := (if_pos hc).symm.trans hF
        refine lv_iinc (k := 2) (v := x2 + 1) (lv' := [(2, .int (x2 + 1)), (0, .ref a0), (1, .int x1)]) hx hb dc_N_hasDigitsOf_31 hl rfl rfl (by decide) rfl (fun ls hl => ?_)
        refine lv_goto hx hb dc_N_hasDigitsOf_34 (tgt := 5) (by decide) ?_
        exact ih a0 x1 (x2 + 1) _ _ _ hF w hS (lv_sub hl [1, 2, 0] rfl)
      · have hF := (if_neg hc).symm.trans hF
        refine lv_iconst (v := 0) hx hb dc_N_hasDigitsOf_29 (by decide) ?_
        exact pl_retZ C w hS hF dc_N_hasDigitsOf_30
set_option maxHeartbeats 4000000 in
set_option maxRecDepth 100000 in
theorem tl_N_hasDigitsOf {p : Program} {l : Launch} {e : Env} {s : State} {m : MethodId} {args : Array Value} {below : List Frame} {meth : Method} {c : Code} {D : va_G} {dA : Nat → ClassId} {tt : Nat → Nat} {b n : Nat} (C : pl_C p s m args meth c co_N_hasDigitsOf 3 rn_N (some .boolean) "hasDigitsOf" D dA tt b) {r : Int32} {f : pl_H} {a0 : Nat} {x1 : Int32} {H : Heap} {locs : List Loc} {ls : Array Slot} (hF : fn_N_hasDigitsOf f a0 x1 = some r) (w : pl_wd D vwCl dA b n f H) (hS : va_S (pl_A b) s.heap H locs) (hl : lv_has ls 3 [(0, .ref a0), (1, .int x1)]) : W p l e rm_N_hasDigitsOf s m args below meth c H locs 0 0 (MQ below (pl_qI D dA tt b n f r) args s 0 0 (pl_A b)) (F0 m 0 ls []) := by
  have hx := C.1
  have hb := C.2.1
  have hown := C.2.2.2.2.1
  have hts := C.2.2.2.2.2.2.1
  unfold fn_N_hasDigitsOf at hF
  refine lv_aload_n hx hb dc_N_hasDigitsOf_0 rfl (lv_at hl 0 rfl) ?_
  obtain ⟨v1, ev1, hF⟩ := pl_bd hF
  refine pl_getI C w (ci := 3) in_N rfl (by decide) 3 (by decide) mw_151 ev1 dc_N_hasDigitsOf_1 ?_
  refine lv_istore_n (lv' := [(2, .int v1), (0, .ref a0), (1, .int x1)]) hx hb dc_N_hasDigitsOf_4 rfl hl (by decide) rfl (fun ls hl => ?_)
  exact tl_N_hasDigitsOf_5 C pl_N a0 x1 v1 _ _ _ hF w hS (lv_sub hl [1, 2, 0] rfl)
set_option maxHeartbeats 4000000 in
set_option maxRecDepth 100000 in
theorem tm_N_hasDigitsOf (l : Launch) (D : va_G) (dA : Nat → ClassId) (tt : Nat → Nat) (b n : Nat) {f : pl_H} {a0 : Nat} {x1 : Int32} {r : Int32} (hF : fn_N_hasDigitsOf f a0 x1 = some r) : Met l my_N_hasDigitsOf (Cond.code my_N_hasDigitsOf co_N_hasDigitsOf 3 (some .boolean) :: pl_tb) rm_N_hasDigitsOf (va_Pc [.ref a0, .int x1] (pl_pre D dA tt b n f)) (pl_qI D dA tt b n f r) 0 0 (pl_A b) := by
  refine Met.ofW (cc := co_N_hasDigitsOf) (maxL := 3) (ret := (some .boolean)) (by decide) rfl ?_
  intro p e s m args below meth c s₁ B hml hv
  obtain ⟨rfl, w, hK⟩ := hv
  have C : pl_C p s m _ meth c co_N_hasDigitsOf 3 rn_N (some .boolean) "hasDigitsOf" D dA tt b := ⟨B.exec, B.bytes, hml, B.returns, findClass_of_methodNamed B.named, B.notSynchronized, fun w hw => atoms_spec (ws := Cond.code my_N_hasDigitsOf co_N_hasDigitsOf 3 (some .boolean) :: pl_tb) B.pre w (List.mem_cons_of_mem _ hw), (name_of_methodNamed B.named B.method).1, hK⟩
  have hl := lv_entry ([.ref a0, .int x1]) (n := 3) (Nat.le_of_ble_eq_true rfl)
  rw [lg_entry_eq]
  generalize (lg_sl ([.ref a0, .int x1]) ++ List.replicate (3 - (lg_sl ([.ref a0, .int x1])).length) Slot.unset).toArray = ls at hl ⊢
  have hl : lv_has ls 3 [(0, .ref a0), (1, .int x1)] := hl
  exact tl_N_hasDigitsOf C hF w va_S.rf hl
def rm_N_next : Room := { frames := 2, cells := 0, slots := 0, locals := 43 }
def fn_N_next_48 (f : pl_H) (sr0 : Option Nat) : Option (Option Nat) := some sr0
def fn_N_next_47 (f : pl_H) : Option (Option Nat) := fn_N_next_48 f none
def fn_N_next (f : pl_H) (a0 : Nat) (x1 : Int32) : Option (Option Nat) := (pl_gI f a0 3 1).bind fun v1 => if v1 = 2 then (pl_gR f a0 3 0).bind fun v7 => (pl_gI f a0 3 3).bind fun v8 => (fn_L_digit f x1 v8).bind fun v9 => (pl_aQ f 2 v7 v9).bind fun r10 => some r10 else (pl_gI f a0 3 1).bind fun v2 => if v2 = 1 then (pl_is f a0 3).bind fun u4 => (fn_N_hasDigitsOf f a0 x1).bind fun v3 => if v3 = 0 then fn_N_next_47 f else (pl_gR f a0 3 0).bind fun v5 => (pl_aQ f 2 v5 0).bind fun r6 => fn_N_next_48 f r6 else fn_N_next_47 f
set_option maxHeartbeats 4000000 in
set_option maxRecDepth 100000 in
theorem tl_N_next_48 {p : Program} {l : Launch} {e : Env} {s : State} {m : MethodId} {args : Array Value} {below : List Frame} {meth : Method} {c : Code} {D : va_G} {dA : Nat → ClassId} {tt : Nat → Nat} {b n : Nat} (C : pl_C p s m args meth c co_N_next 2 rn_N (some (.object "ProvenLedger$Node")) "next" D dA tt b) {r : Option Nat} {f : pl_H} {sr0 : Option Nat} {H : Heap} {locs : List Loc} {ls : Array Slot} (hF : fn_N_next_48 f sr0 = some r) (w : pl_wd D vwCl dA b n f H) (hS : va_S (pl_A b) s.heap H locs) (hl : lv_has ls 2 []) : W p l e rm_N_next s m args below meth c H locs 0 0 (MQ below (pl_qQ D dA tt b n f r) args s 0 0 (pl_A b)) (F0 m 48 ls [va_rf sr0]) := by
  have hx := C.1
  have hb := C.2.1
  have hown := C.2.2.2.2.1
  have hts := C.2.2.2.2.2.2.1
  unfold fn_N_next_48 at hF
  exact pl_retQ C w hS hF (by first | exact Or.inl ⟨_, rfl⟩ | exact Or.inr ⟨_, rfl⟩) rfl dc_N_next_48
set_option maxHeartbeats 4000000 in
set_option maxRecDepth 100000 in
theorem tl_N_next_47 {p : Program} {l : Launch} {e : Env} {s : State} {m : MethodId} {args : Array Value} {below : List Frame} {meth : Method} {c : Code} {D : va_G} {dA : Nat → ClassId} {tt : Nat → Nat} {b n : Nat} (C : pl_C p s m args meth c co_N_next 2 rn_N (some (.object "ProvenLedger$Node")) "next" D dA tt b) {r : Option Nat} {f : pl_H} {H : Heap} {locs : List Loc} {ls : Array Slot} (hF : fn_N_next_47 f = some r) (w : pl_wd D vwCl dA b n f H) (hS : va_S (pl_A b) s.heap H locs) (hl : lv_has ls 2 []) : W p l e rm_N_next s m args below meth c H locs 0 0 (MQ below (pl_qQ D dA tt b n f r) args s 0 0 (pl_A b)) (F0 m 47 ls []) := by
  have hx := C.1
  have hb := C.2.1
  have hown := C.2.2.2.2.1
  have hts := C.2.2.2.2.2.2.1
  unfold fn_N_next_47 at hF
  refine lv_null hx hb dc_N_next_47 ?_
  exact tl_N_next_48 C hF w hS (lv_sub hl [] rfl)
set_option maxHeartbeats 4000000 in
set_option maxRecDepth 100000 in
theorem tl_N_next {p : Program} {l : Launch} {e : Env} {s : State} {m : MethodId} {args : Array Value} {below : List Frame} {meth : Method} {c : Code} {D : va_G} {dA : Nat → ClassId} {tt : Nat → Nat} {b n : Nat} (C : pl_C p s m args meth c co_N_next 2 rn_N (some (.object "ProvenLedger$Node")) "next" D dA tt b) {r : Option Nat} {f : pl_H} {a0 : Nat} {x1 : Int32} {H : Heap} {locs : List Loc} {ls : Array Slot} (hF : fn_N_next f a0 x1 = some r) (w : pl_wd D vwCl dA b n f H) (hS : va_S (pl_A b) s.heap H locs) (hl : lv_has ls 2 [(0, .ref a0), (1, .int x1)]) : W p l e rm_N_next s m args below meth c H locs 0 0 (MQ below (pl_qQ D dA tt b n f r) args s 0 0 (pl_A b)) (F0 m 0 ls []) := by
  have hx := C.1
  have hb := C.2.1
  have hown := C.2.2.2.2.1
  have hts := C.2.2.2.2.2.2.1
  unfold fn_N_next at hF
  refine lv_aload_n hx hb dc_N_next_0 rfl (lv_at hl 0 rfl) ?_
  obtain ⟨v1, ev1, hF⟩ := pl_bd hF
  refine pl_getI C w (ci := 3) in_N rfl (by decide) 1 (by decide) mw_149 ev1 dc_N_next_1 ?_
  refine lv_iconst (v := 2) hx hb dc_N_next_4 (by decide) ?_
  refine lv_icmp_ne hx hb dc_N_next_5 (tgt := 22) (by decide) (fun hc => ?_) (fun hc => ?_)
  · have hF := (if_neg hc).symm.trans hF
    refine lv_aload_n hx hb dc_N_next_22 rfl (lv_at hl 0 rfl) ?_
    obtain ⟨v2, ev2, hF⟩ := pl_bd hF
    refine pl_getI C w (ci := 3) in_N rfl (by decide) 1 (by decide) mw_149 ev2 dc_N_next_23 ?_
    refine lv_iconst (v := 1) hx hb dc_N_next_26 (by decide) ?_
    refine lv_icmp_ne hx hb dc_N_next_27 (tgt := 47) (by decide) (fun hc => ?_) (fun hc => ?_)
    · have hF := (if_neg hc).symm.trans hF
      exact tl_N_next_47 C hF w hS (lv_sub hl [] rfl)
    · have hF := (if_pos hc).symm.trans hF
      refine lv_aload_n hx hb dc_N_next_30 rfl (lv_at hl 0 rfl) ?_
      refine lv_iload_n hx hb dc_N_next_31 rfl (lv_at hl 1 rfl) ?_
      obtain ⟨u4, eu4, hF⟩ := pl_bd hF
      obtain ⟨v3, ev3, hF⟩ := pl_bd hF
      refine pl_gi (pl_runV (Cn := rn_N) (k := 1) C (tm_N_hasDigitsOf l D dA tt b n ev3) w hS rfl rfl mw_548 mw_550 mw_18 mw_69 mw_551 (by decide +kernel) ⟨by decide, by decide⟩ eu4 rfl (by decide) rfl hl.1 (Nat.le_of_ble_eq_true rfl) ⟨Nat.zero_le _, Nat.zero_le _⟩ rfl dc_N_next_32) hS (fun H locs w hS => ?_)
      refine lv_if_eq hx hb dc_N_next_35 (tgt := 47) (by decide) (fun hc => ?_) (fun hc => ?_)
      · have hF := (if_pos hc).symm.trans hF
        exact tl_N_next_47 C hF w hS (lv_sub hl [] rfl)
      · have hF := (if_neg hc).symm.trans hF
        refine lv_aload_n hx hb dc_N_next_38 rfl (lv_at hl 0 rfl) ?_
        obtain ⟨v5, ev5, hF⟩ := pl_bd hF
        refine pl_getR C w (ci := 3) in_N rfl (by decide) 0 (by decide) mw_147 ev5 dc_N_next_39 ?_
        refine lv_iconst (v := 0) hx hb dc_N_next_42 (by decide) ?_
        obtain ⟨r6, er6, hF⟩ := pl_bd hF
        refine pl_aldQ2 C w er6 dc_N_next_43 ?_
        refine lv_goto hx hb dc_N_next_44 (tgt := 48) (by decide) ?_
        exact tl_N_next_48 C hF w hS (lv_sub hl [] rfl)
  · have hF := (if_pos hc).symm.trans hF
    refine lv_aload_n hx hb dc_N_next_8 rfl (lv_at hl 0 rfl) ?_
    obtain ⟨v7, ev7, hF⟩ := pl_bd hF
    refine pl_getR C w (ci := 3) in_N rfl (by decide) 0 (by decide) mw_147 ev7 dc_N_next_9 ?_
    refine lv_iload_n hx hb dc_N_next_12 rfl (lv_at hl 1 rfl) ?_
    refine lv_aload_n hx hb dc_N_next_13 rfl (lv_at hl 0 rfl) ?_
    obtain ⟨v8, ev8, hF⟩ := pl_bd hF
    refine pl_getI C w (ci := 3) in_N rfl (by decide) 3 (by decide) mw_151 ev8 dc_N_next_14 ?_
    obtain ⟨v9, ev9, hF⟩ := pl_bd hF
    refine pl_gi (pl_runSN (k := 2) C (tm_L_digit l D dA tt b n ev9) w hS rfl rfl C.2.2.2.2.2.2.2.2.2.2.2.2.2.2.2.1 mw_436 mw_64 mw_437 (by decide +kernel) ⟨by decide, by decide⟩ rfl hl.1 (Nat.le_of_ble_eq_true rfl) ⟨Nat.zero_le _, Nat.zero_le _⟩ rfl dc_N_next_17) hS (fun H locs w hS => ?_)
    obtain ⟨r10, er10, hF⟩ := pl_bd hF
    refine pl_aldQ2 C w er10 dc_N_next_20 ?_
    exact pl_retQ C w hS hF (by first | exact Or.inl ⟨_, rfl⟩ | exact Or.inr ⟨_, rfl⟩) rfl dc_N_next_21
set_option maxHeartbeats 4000000 in
set_option maxRecDepth 100000 in
theorem tm_N_next (l : Launch) (D : va_G) (dA : Nat → ClassId) (tt : Nat → Nat) (b n : Nat) {f : pl_H} {a0 : Nat} {x1 : Int32} {r : Option Nat} (hF : fn_N_next f a0 x1 = some r) : Met l my_N_next (Cond.code my_N_next co_N_next 2 (some (.object "ProvenLedger$Node")) :: pl_tb) rm_N_next (va_Pc [.ref a0, .int x1] (pl_pre D dA tt b n f)) (pl_qQ D dA tt b n f r) 0 0 (pl_A b) := by
  refine Met.ofW (cc := co_N_next) (maxL := 2) (ret := (some (.object "ProvenLedger$Node"))) (by decide) rfl ?_
  intro p e s m args below meth c s₁ B hml hv
  obtain ⟨rfl, w, hK⟩ := hv
  have C : pl_C p s m _ meth c co_N_next 2 rn_N (some (.object "ProvenLedger$Node")) "next" D dA tt b := ⟨B.exec, B.bytes, hml, B.returns, findClass_of_methodNamed B.named, B.notSynchronized, fun w hw => atoms_spec (ws := Cond.code my_N_next co_N_next 2 (some (.object "ProvenLedger$Node")) :: pl_tb) B.pre w (List.mem_cons_of_mem _ hw), (name_of_methodNamed B.named B.method).1, hK⟩
  have hl := lv_entry ([.ref a0, .int x1]) (n := 2) (Nat.le_of_ble_eq_true rfl)
  rw [lg_entry_eq]
  generalize (lg_sl ([.ref a0, .int x1]) ++ List.replicate (2 - (lg_sl ([.ref a0, .int x1])).length) Slot.unset).toArray = ls at hl ⊢
  have hl : lv_has ls 2 [(0, .ref a0), (1, .int x1)] := hl
  exact tl_N_next C hF w va_S.rf hl
