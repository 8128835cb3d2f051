def rm_H_mixColumns : Room := { frames := 0, cells := 0, slots := 0, locals := 0 }
def fn_H_mixColumns_106 (rc66 : pl_H → Nat → Int32 → Option (pl_H)) : Nat → pl_H → Nat → Int32 → Int64 → Int32 → Option (pl_H)
  | 0 => fun _ _ _ _ _ => none
  | k + 1 => fun f a0 x1 y4 x6 => if 25 ≤ x6 then rc66 f a0 (x1 + 1) else (pl_gR f a0 2 0).bind fun v1 => (pl_aL f v1 x6).bind fun v2 => (pl_sL f v1 x6 (v2 ^^^ y4)).bind fun f3 => fn_H_mixColumns_106 rc66 k f3 a0 x1 y4 (x6 + 5)
def fn_H_mixColumns_66 : Nat → pl_H → Nat → Int32 → Option (pl_H)
  | 0 => fun _ _ _ => none
  | k + 1 => fun f a0 x1 => if 5 ≤ x1 then some f else (pl_gR f a0 2 2).bind fun v1 => (pl_aL f v1 ((x1 + 1) - (x1 + 1) / 5 * 5)).bind fun v2 => (pl_gR f a0 2 2).bind fun v3 => (pl_aL f v3 ((x1 + 4) - (x1 + 4) / 5 * 5)).bind fun v4 => fn_H_mixColumns_106 (fn_H_mixColumns_66 k) pl_N f a0 x1 (v4 ^^^ ((v2 <<< ((1 : Int32).toInt64 &&& 63)) ||| ((v2.toUInt64 >>> ((63 : Int32).toInt64.toUInt64 &&& Int64.toUInt64 63)).toInt64))) x1
def fn_H_mixColumns_2 : Nat → pl_H → Nat → Int32 → Option (pl_H)
  | 0 => fun _ _ _ => none
  | k + 1 => fun f a0 x1 => if 5 ≤ x1 then fn_H_mixColumns_66 pl_N f a0 0 else (pl_gR f a0 2 2).bind fun v1 => (pl_gR f a0 2 0).bind fun v2 => (pl_aL f v2 x1).bind fun v3 => (pl_gR f a0 2 0).bind fun v4 => (pl_aL f v4 (x1 + 5)).bind fun v5 => (pl_gR f a0 2 0).bind fun v6 => (pl_aL f v6 (x1 + 10)).bind fun v7 => (pl_gR f a0 2 0).bind fun v8 => (pl_aL f v8 (x1 + 15)).bind fun v9 => (pl_gR f a0 2 0).bind fun v10 => (pl_aL f v10 (x1 + 20)).bind fun v11 => (pl_sL f v1 x1 ((((v3 ^^^ v5) ^^^ v7) ^^^ v9) ^^^ v11)).bind fun f12 => fn_H_mixColumns_2 k f12 a0 (x1 + 1)
def fn_H_mixColumns (f : pl_H) (a0 : Nat) : Option (pl_H) := fn_H_mixColumns_2 pl_N f a0 0
set_option maxHeartbeats 4000000 in
set_option maxRecDepth 100000 in
theorem tl_H_mixColumns_106 {p : Program} {l : Launch} {e : Env} {s : State} {m : MethodId} {args : Array Value} {below : List Frame} {meth : Method} {c : Code} {D : va_G} {dA : Nat → ClassId} {tt : Nat → Nat} {b n : Nat} (C : pl_C p s m args meth c co_H_mixColumns 7 rn_H none "mixColumns" D dA tt b) {f' : pl_H} {rc66 : pl_H → Nat → Int32 → Option (pl_H)} (hr66 : ∀ (f : pl_H) (a0 : Nat) (x1 : Int32) (H : Heap) (locs : List Loc) (ls : Array Slot), rc66 f a0 x1 = some f' → pl_wd D vwCl dA b n f H → va_S (pl_A b) s.heap H locs → lv_has ls 7 [(0, .ref a0), (1, .int x1)] → W p l e rm_H_mixColumns s m args below meth c H locs 0 0 (MQ below (pl_qV D dA tt b n f') args s 0 0 (pl_A b)) (F0 m 66 ls [])) : ∀ k : Nat, ∀ (f : pl_H) (a0 : Nat) (x1 : Int32) (y4 : Int64) (x6 : Int32) (H : Heap) (locs : List Loc) (ls : Array Slot), fn_H_mixColumns_106 rc66 k f a0 x1 y4 x6 = some f' → pl_wd D vwCl dA b n f H → va_S (pl_A b) s.heap H locs → lv_has ls 7 [(0, .ref a0), (1, .int x1), (4, .long y4), (6, .int x6)] → W p l e rm_H_mixColumns s m args below meth c H locs 0 0 (MQ below (pl_qV D dA tt b n f') args s 0 0 (pl_A b)) (F0 m 106 ls []) := by
  have hx := C.1
  have hb := C.2.1
  have hown := C.2.2.2.2.1
  have hts := C.2.2.2.2.2.2.1
  intro k
  induction k with
  | zero =>
    intro f a0 x1 y4 x6 H locs ls hF
    cases hF
  | succ k ih =>
    intro f a0 x1 y4 x6 H locs ls hF w hS hl
    unfold fn_H_mixColumns_106 at hF
    refine lv_iload hx hb dc_H_mixColumns_106 (lv_at hl 3 rfl) ?_
    refine lv_bipush (v := 25) hx hb dc_H_mixColumns_108 (by decide) ?_
    refine lv_icmp_ge hx hb dc_H_mixColumns_110 (tgt := 131) (by decide) (fun hc => ?_) (fun hc => ?_)
    · have hF := (if_pos hc).symm.trans hF
      refine lv_iinc (k := 1) (v := x1 + 1) (lv' := [(1, .int (x1 + 1)), (0, .ref a0), (4, .long y4), (6, .int x6)]) hx hb dc_H_mixColumns_131 hl rfl rfl (by decide) rfl (fun ls hl => ?_)
      refine lv_goto hx hb dc_H_mixColumns_134 (tgt := 66) (by decide) ?_
      exact hr66 f a0 (x1 + 1) _ _ _ hF w hS (lv_sub hl [1, 0] rfl)
    · have hF := (if_neg hc).symm.trans hF
      refine lv_aload_n hx hb dc_H_mixColumns_113 rfl (lv_at hl 0 rfl) ?_
      obtain ⟨v1, ev1, hF⟩ := pl_bd hF
      refine pl_getR C w (ci := 2) in_H rfl (by decide) 0 (by decide) mw_110 ev1 dc_H_mixColumns_114 ?_
      refine lv_iload hx hb dc_H_mixColumns_117 (lv_at hl 3 rfl) ?_
      refine lv_dup2_11 hx hb dc_H_mixColumns_119 rfl rfl ?_
      obtain ⟨v2, ev2, hF⟩ := pl_bd hF
      refine pl_aldL C w ev2 dc_H_mixColumns_120 ?_
      refine lv_lload hx hb dc_H_mixColumns_121 (lv_at hl 2 rfl) ?_
      refine lv_lxor hx hb dc_H_mixColumns_123 ?_
      obtain ⟨f3, ef3, hF⟩ := pl_bd hF
      refine pl_astL C w hS ef3 dc_H_mixColumns_124 (fun H locs w hS => ?_)
      refine lv_iinc (k := 3) (v := x6 + 5) (lv' := [(6, .int (x6 + 5)), (0, .ref a0), (1, .int x1), (4, .long y4)]) hx hb dc_H_mixColumns_125 hl rfl rfl (by decide) rfl (fun ls hl => ?_)
      refine lv_goto hx hb dc_H_mixColumns_128 (tgt := 106) (by decide) ?_
      exact ih f3 a0 x1 y4 (x6 + 5) _ _ _ hF w hS (lv_sub hl [1, 2, 3, 0] rfl)
set_option maxHeartbeats 4000000 in
set_option maxRecDepth 100000 in
theorem tl_H_mixColumns_66 {p : Program} {l : Launch} {e : Env} {s : State} {m : MethodId} {args : Array Value} {below : List Frame} {meth : Method} {c : Code} {D : va_G} {dA : Nat → ClassId} {tt : Nat → Nat} {b n : Nat} (C : pl_C p s m args meth c co_H_mixColumns 7 rn_H none "mixColumns" D dA tt b) {f' : pl_H} : ∀ k : Nat, ∀ (f : pl_H) (a0 : Nat) (x1 : Int32) (H : Heap) (locs : List Loc) (ls : Array Slot), fn_H_mixColumns_66 k f a0 x1 = some f' → pl_wd D vwCl dA b n f H → va_S (pl_A b) s.heap H locs → lv_has ls 7 [(0, .ref a0), (1, .int x1)] → W p l e rm_H_mixColumns s m args below meth c H locs 0 0 (MQ below (pl_qV D dA tt b n f') args s 0 0 (pl_A b)) (F0 m 66 ls []) := by
  have hx := C.1
  have hb := C.2.1
  have hown := C.2.2.2.2.1
  have hts := C.2.2.2.2.2.2.1
  intro k
  induction k with
  | zero =>
    intro f a0 x1 H locs ls hF
    cases hF
  | succ k ih =>
    intro f a0 x1 H locs ls hF w hS hl
    unfold fn_H_mixColumns_66 at hF
    refine lv_iload_n hx hb dc_H_mixColumns_66 rfl (lv_at hl 1 rfl) ?_
    refine lv_iconst (v := 5) hx hb dc_H_mixColumns_67 (by decide) ?_
    refine lv_icmp_ge hx hb dc_H_mixColumns_68 (tgt := 137) (by decide) (fun hc => ?_) (fun hc => ?_)
    · have hF := (if_pos hc).symm.trans hF
      exact pl_retVw C w hS hF dc_H_mixColumns_137
    · have hF := (if_neg hc).symm.trans hF
      refine lv_aload_n hx hb dc_H_mixColumns_71 rfl (lv_at hl 0 rfl) ?_
      obtain ⟨v1, ev1, hF⟩ := pl_bd hF
      refine pl_getR C w (ci := 2) in_H rfl (by decide) 2 (by decide) mw_112 ev1 dc_H_mixColumns_72 ?_
      refine lv_iload_n hx hb dc_H_mixColumns_75 rfl (lv_at hl 1 rfl) ?_
      refine lv_iconst (v := 1) hx hb dc_H_mixColumns_76 (by decide) ?_
      refine lv_iadd hx hb dc_H_mixColumns_77 ?_
      refine lv_iconst (v := 5) hx hb dc_H_mixColumns_78 (by decide) ?_
      refine lv_irem hx hb dc_H_mixColumns_79 (by decide) ?_
      obtain ⟨v2, ev2, hF⟩ := pl_bd hF
      refine pl_aldL C w ev2 dc_H_mixColumns_80 ?_
      refine lv_lstore_n (lv' := [(2, .long v2), (0, .ref a0), (1, .int x1)]) hx hb dc_H_mixColumns_81 rfl hl (by decide) rfl (fun ls hl => ?_)
      refine lv_aload_n hx hb dc_H_mixColumns_82 rfl (lv_at hl 1 rfl) ?_
      obtain ⟨v3, ev3, hF⟩ := pl_bd hF
      refine pl_getR C w (ci := 2) in_H rfl (by decide) 2 (by decide) mw_112 ev3 dc_H_mixColumns_83 ?_
      refine lv_iload_n hx hb dc_H_mixColumns_86 rfl (lv_at hl 2 rfl) ?_
      refine lv_iconst (v := 4) hx hb dc_H_mixColumns_87 (by decide) ?_
      refine lv_iadd hx hb dc_H_mixColumns_88 ?_
      refine lv_iconst (v := 5) hx hb dc_H_mixColumns_89 (by decide) ?_
      refine lv_irem hx hb dc_H_mixColumns_90 (by decide) ?_
      obtain ⟨v4, ev4, hF⟩ := pl_bd hF
      refine pl_aldL C w ev4 dc_H_mixColumns_91 ?_
      refine lv_lload_n hx hb dc_H_mixColumns_92 rfl (lv_at hl 0 rfl) ?_
      refine lv_iconst (v := 1) hx hb dc_H_mixColumns_93 (by decide) ?_
      refine lv_lshl hx hb dc_H_mixColumns_94 rfl ?_
      refine lv_lload_n hx hb dc_H_mixColumns_95 rfl (lv_at hl 0 rfl) ?_
      refine lv_bipush (v := 63) hx hb dc_H_mixColumns_96 (by decide) ?_
      refine lv_lushr hx hb dc_H_mixColumns_98 rfl ?_
      refine lv_lor hx hb dc_H_mixColumns_99 ?_
      refine lv_lxor hx hb dc_H_mixColumns_100 ?_
      refine lv_lstore (lv' := [(4, .long (v4 ^^^ ((v2 <<< ((1 : Int32).toInt64 &&& 63)) ||| ((v2.toUInt64 >>> ((63 : Int32).toInt64.toUInt64 &&& Int64.toUInt64 63)).toInt64)))), (2, .long v2), (0, .ref a0), (1, .int x1)]) hx hb dc_H_mixColumns_101 hl (by decide) rfl (fun ls hl => ?_)
      refine lv_iload_n hx hb dc_H_mixColumns_103 rfl (lv_at hl 3 rfl) ?_
      refine lv_istore (lv' := [(6, .int x1), (4, .long (v4 ^^^ ((v2 <<< ((1 : Int32).toInt64 &&& 63)) ||| ((v2.toUInt64 >>> ((63 : Int32).toInt64.toUInt64 &&& Int64.toUInt64 63)).toInt64)))), (2, .long v2), (0, .ref a0), (1, .int x1)]) hx hb dc_H_mixColumns_104 hl (by decide) rfl (fun ls hl => ?_)
      exact tl_H_mixColumns_106 C ih pl_N f a0 x1 (v4 ^^^ ((v2 <<< ((1 : Int32).toInt64 &&& 63)) ||| ((v2.toUInt64 >>> ((63 : Int32).toInt64.toUInt64 &&& Int64.toUInt64 63)).toInt64))) x1 _ _ _ hF w hS (lv_sub hl [3, 4, 1, 0] rfl)
set_option maxHeartbeats 4000000 in
set_option maxRecDepth 100000 in
theorem tl_H_mixColumns_2 {p : Program} {l : Launch} {e : Env} {s : State} {m : MethodId} {args : Array Value} {below : List Frame} {meth : Method} {c : Code} {D : va_G} {dA : Nat → ClassId} {tt : Nat → Nat} {b n : Nat} (C : pl_C p s m args meth c co_H_mixColumns 7 rn_H none "mixColumns" D dA tt b) {f' : pl_H} : ∀ k : Nat, ∀ (f : pl_H) (a0 : Nat) (x1 : Int32) (H : Heap) (locs : List Loc) (ls : Array Slot), fn_H_mixColumns_2 k f a0 x1 = some f' → pl_wd D vwCl dA b n f H → va_S (pl_A b) s.heap H locs → lv_has ls 7 [(0, .ref a0), (1, .int x1)] → W p l e rm_H_mixColumns s m args below meth c H locs 0 0 (MQ below (pl_qV D dA tt b n f') args s 0 0 (pl_A b)) (F0 m 2 ls []) := by
  have hx := C.1
  have hb := C.2.1
  have hown := C.2.2.2.2.1
  have hts := C.2.2.2.2.2.2.1
  intro k
  induction k with
  | zero =>
    intro f a0 x1 H locs ls hF
    cases hF
  | succ k ih =>
    intro f a0 x1 H locs ls hF w hS hl
    unfold fn_H_mixColumns_2 at hF
    refine lv_iload_n hx hb dc_H_mixColumns_2 rfl (lv_at hl 1 rfl) ?_
    refine lv_iconst (v := 5) hx hb dc_H_mixColumns_3 (by decide) ?_
    refine lv_icmp_ge hx hb dc_H_mixColumns_4 (tgt := 64) (by decide) (fun hc => ?_) (fun hc => ?_)
    · have hF := (if_pos hc).symm.trans hF
      refine lv_iconst (v := 0) hx hb dc_H_mixColumns_64 (by decide) ?_
      refine lv_istore_n (lv' := [(1, .int 0), (0, .ref a0)]) hx hb dc_H_mixColumns_65 rfl hl (by decide) rfl (fun ls hl => ?_)
      exact tl_H_mixColumns_66 C pl_N f a0 0 _ _ _ hF w hS (lv_sub hl [1, 0] rfl)
    · have hF := (if_neg hc).symm.trans hF
      refine lv_aload_n hx hb dc_H_mixColumns_7 rfl (lv_at hl 0 rfl) ?_
      obtain ⟨v1, ev1, hF⟩ := pl_bd hF
      refine pl_getR C w (ci := 2) in_H rfl (by decide) 2 (by decide) mw_112 ev1 dc_H_mixColumns_8 ?_
      refine lv_iload_n hx hb dc_H_mixColumns_11 rfl (lv_at hl 1 rfl) ?_
      refine lv_aload_n hx hb dc_H_mixColumns_12 rfl (lv_at hl 0 rfl) ?_
      obtain ⟨v2, ev2, hF⟩ := pl_bd hF
      refine pl_getR C w (ci := 2) in_H rfl (by decide) 0 (by decide) mw_110 ev2 dc_H_mixColumns_13 ?_
      refine lv_iload_n hx hb dc_H_mixColumns_16 rfl (lv_at hl 1 rfl) ?_
      obtain ⟨v3, ev3, hF⟩ := pl_bd hF
      refine pl_aldL C w ev3 dc_H_mixColumns_17 ?_
      refine lv_aload_n hx hb dc_H_mixColumns_18 rfl (lv_at hl 0 rfl) ?_
      obtain ⟨v4, ev4, hF⟩ := pl_bd hF
      refine pl_getR C w (ci := 2) in_H rfl (by decide) 0 (by decide) mw_110 ev4 dc_H_mixColumns_19 ?_
      refine lv_iload_n hx hb dc_H_mixColumns_22 rfl (lv_at hl 1 rfl) ?_
      refine lv_iconst (v := 5) hx hb dc_H_mixColumns_23 (by decide) ?_
      refine lv_iadd hx hb dc_H_mixColumns_24 ?_
      obtain ⟨v5, ev5, hF⟩ := pl_bd hF
      refine pl_aldL C w ev5 dc_H_mixColumns_25 ?_
      refine lv_lxor hx hb dc_H_mixColumns_26 ?_
      refine lv_aload_n hx hb dc_H_mixColumns_27 rfl (lv_at hl 0 rfl) ?_
      obtain ⟨v6, ev6, hF⟩ := pl_bd hF
      refine pl_getR C w (ci := 2) in_H rfl (by decide) 0 (by decide) mw_110 ev6 dc_H_mixColumns_28 ?_
      refine lv_iload_n hx hb dc_H_mixColumns_31 rfl (lv_at hl 1 rfl) ?_
      refine lv_bipush (v := 10) hx hb dc_H_mixColumns_32 (by decide) ?_
      refine lv_iadd hx hb dc_H_mixColumns_34 ?_
      obtain ⟨v7, ev7, hF⟩ := pl_bd hF
      refine pl_aldL C w ev7 dc_H_mixColumns_35 ?_
      refine lv_lxor hx hb dc_H_mixColumns_36 ?_
      refine lv_aload_n hx hb dc_H_mixColumns_37 rfl (lv_at hl 0 rfl) ?_
      obtain ⟨v8, ev8, hF⟩ := pl_bd hF
      refine pl_getR C w (ci := 2) in_H rfl (by decide) 0 (by decide) mw_110 ev8 dc_H_mixColumns_38 ?_
      refine lv_iload_n hx hb dc_H_mixColumns_41 rfl (lv_at hl 1 rfl) ?_
      refine lv_bipush (v := 15) hx hb dc_H_mixColumns_42 (by decide) ?_
      refine lv_iadd hx hb dc_H_mixColumns_44 ?_
      obtain ⟨v9, ev9, hF⟩ := pl_bd hF
      refine pl_aldL C w ev9 dc_H_mixColumns_45 ?_
      refine lv_lxor hx hb dc_H_mixColumns_46 ?_
      refine lv_aload_n hx hb dc_H_mixColumns_47 rfl (lv_at hl 0 rfl) ?_
      obtain ⟨v10, ev10, hF⟩ := pl_bd hF
      refine pl_getR C w (ci := 2) in_H rfl (by decide) 0 (by decide) mw_110 ev10 dc_H_mixColumns_48 ?_
      refine lv_iload_n hx hb dc_H_mixColumns_51 rfl (lv_at hl 1 rfl) ?_
      refine lv_bipush (v := 20) hx hb dc_H_mixColumns_52 (by decide) ?_
      refine lv_iadd hx hb dc_H_mixColumns_54 ?_
      obtain ⟨v11, ev11, hF⟩ := pl_bd hF
      refine pl_aldL C w ev11 dc_H_mixColumns_55 ?_
      refine lv_lxor hx hb dc_H_mixColumns_56 ?_
      obtain ⟨f12, ef12, hF⟩ := pl_bd hF
      refine pl_astL C w hS ef12 dc_H_mixColumns_57 (fun H locs w hS => ?_)
      refine lv_iinc (k := 1) (v := x1 + 1) (lv' := [(1, .int (x1 + 1)), (0, .ref a0)]) hx hb dc_H_mixColumns_58 hl rfl rfl (by decide) rfl (fun ls hl => ?_)
      refine lv_goto hx hb dc_H_mixColumns_61 (tgt := 2) (by decide) ?_
      exact ih f12 a0 (x1 + 1) _ _ _ hF w hS (lv_sub hl [1, 0] rfl)
set_option maxHeartbeats 4000000 in
set_option maxRecDepth 100000 in
theorem tl_H_mixColumns {p : Program} {l : Launch} {e : Env} {s : State} {m : MethodId} {args : Array Value} {below : List Frame} {meth : Method} {c : Code} {D : va_G} {dA : Nat → ClassId} {tt : Nat → Nat} {b n : Nat} (C : pl_C p s m args meth c co_H_mixColumns 7 rn_H none "mixColumns" D dA tt b) {f' : pl_H} {f : pl_H} {a0 : Nat} {H : Heap} {locs : List Loc} {ls : Array Slot} (hF : fn_H_mixColumns f a0 = some f') (w : pl_wd D vwCl dA b n f H) (hS : va_S (pl_A b) s.heap H locs) (hl : lv_has ls 7 [(0, .ref a0)]) : W p l e rm_H_mixColumns s m args below meth c H locs 0 0 (MQ below (pl_qV D dA tt b n f') args s 0 0 (pl_A b)) (F0 m 0 ls []) := by
  have hx := C.1
  have hb := C.2.1
  have hown := C.2.2.2.2.1
  have hts := C.2.2.2.2.2.2.1
  unfold fn_H_mixColumns at hF
  refine lv_iconst (v := 0) hx hb dc_H_mixColumns_0 (by decide) ?_
  refine lv_istore_n (lv' := [(1, .int 0), (0, .ref a0)]) hx hb dc_H_mixColumns_1 rfl hl (by decide) rfl (fun ls hl => ?_)
  exact tl_H_mixColumns_2 C pl_N f a0 0 _ _ _ hF w hS (lv_sub hl [1, 0] rfl)
set_option maxHeartbeats 4000000 in
set_option maxRecDepth 100000 in
theorem tm_H_mixColumns (l : Launch) (D : va_G) (dA : Nat → ClassId) (tt : Nat → Nat) (b n : Nat) {f : pl_H} {a0 : Nat} {f' : pl_H} (hF : fn_H_mixColumns f a0 = some f') : Met l my_H_mixColumns (Cond.code my_H_mixColumns co_H_mixColumns 7 none :: pl_tb) rm_H_mixColumns (va_Pc [.ref a0] (pl_pre D dA tt b n f)) (pl_qV D dA tt b n f') 0 0 (pl_A b) := by
  refine Met.ofW (cc := co_H_mixColumns) (maxL := 7) (ret := none) (by decide) rfl ?_
  intro p e s m args below meth c s₁ B hml hv
  obtain ⟨rfl, w, hK⟩ := hv
  have C : pl_C p s m _ meth c co_H_mixColumns 7 rn_H none "mixColumns" D dA tt b := ⟨B.exec, B.bytes, hml, B.returns, findClass_of_methodNamed B.named, B.notSynchronized, fun w hw => atoms_spec (ws := Cond.code my_H_mixColumns co_H_mixColumns 7 none :: pl_tb) B.pre w (List.mem_cons_of_mem _ hw), (name_of_methodNamed B.named B.method).1, hK⟩
  have hl := lv_entry ([.ref a0]) (n := 7) (Nat.le_of_ble_eq_true rfl)
  rw [lg_entry_eq]
  generalize (lg_sl ([.ref a0]) ++ List.replicate (7 - (lg_sl ([.ref a0])).length) Slot.unset).toArray = ls at hl ⊢
  have hl : lv_has ls 7 [(0, .ref a0)] := hl
  exact tl_H_mixColumns C hF w va_S.rf hl
def rm_H_turnWords : Room := { frames := 0, cells := 0, slots := 0, locals := 0 }
def fn_H_turnWords_2 : Nat → pl_H → Nat → Int32 → Option (pl_H)
  | 0 => fun _ _ _ => none
  | k + 1 => fun f a0 x1 => if 25 ≤ x1 then some f else (pl_gR f a0 2 0).bind fun v1 => (pl_aL f v1 x1).bind fun v2 => (pl_tb1 x1).bind fun v3 => (pl_gR f a0 2 1).bind fun v4 => (pl_tb0 x1).bind fun v5 => (pl_sL f v4 v5 ((v2 <<< ((v3 : Int32).toInt64 &&& 63)) ||| ((v2.toUInt64 >>> (((64 - v3) : Int32).toInt64.toUInt64 &&& Int64.toUInt64 63)).toInt64))).bind fun f6 => fn_H_turnWords_2 k f6 a0 (x1 + 1)
def fn_H_turnWords (f : pl_H) (a0 : Nat) : Option (pl_H) := fn_H_turnWords_2 pl_N f a0 0
set_option maxHeartbeats 4000000 in
set_option maxRecDepth 100000 in
theorem tl_H_turnWords_2 {p : Program} {l : Launch} {e : Env} {s : State} {m : MethodId} {args : Array Value} {below : List Frame} {meth : Method} {c : Code} {D : va_G} {dA : Nat → ClassId} {tt : Nat → Nat} {b n : Nat} (C : pl_C p s m args meth c co_H_turnWords 5 rn_H none "turnWords" D dA tt b) {f' : pl_H} : ∀ k : Nat, ∀ (f : pl_H) (a0 : Nat) (x1 : Int32) (H : Heap) (locs : List Loc) (ls : Array Slot), fn_H_turnWords_2 k f a0 x1 = some f' → pl_wd D vwCl dA b n f H → va_S (pl_A b) s.heap H locs → lv_has ls 5 [(0, .ref a0), (1, .int x1)] → W p l e rm_H_turnWords s m args below meth c H locs 0 0 (MQ below (pl_qV D dA tt b n f') args s 0 0 (pl_A b)) (F0 m 2 ls []) := by
  have hx := C.1
  have hb := C.2.1
  have hown := C.2.2.2.2.1
  have hts := C.2.2.2.2.2.2.1
  intro k
  induction k with
  | zero =>
    intro f a0 x1 H locs ls hF
    cases hF
  | succ k ih =>
    intro f a0 x1 H locs ls hF w hS hl
    unfold fn_H_turnWords_2 at hF
    refine lv_iload_n hx hb dc_H_turnWords_2 rfl (lv_at hl 1 rfl) ?_
    refine lv_bipush (v := 25) hx hb dc_H_turnWords_3 (by decide) ?_
    refine lv_icmp_ge hx hb dc_H_turnWords_5 (tgt := 50) (by decide) (fun hc => ?_) (fun hc => ?_)
    · have hF := (if_pos hc).symm.trans hF
      exact pl_retVw C w hS hF dc_H_turnWords_50
    · have hF := (if_neg hc).symm.trans hF
      refine lv_aload_n hx hb dc_H_turnWords_8 rfl (lv_at hl 0 rfl) ?_
      obtain ⟨v1, ev1, hF⟩ := pl_bd hF
      refine pl_getR C w (ci := 2) in_H rfl (by decide) 0 (by decide) mw_110 ev1 dc_H_turnWords_9 ?_
      refine lv_iload_n hx hb dc_H_turnWords_12 rfl (lv_at hl 1 rfl) ?_
      obtain ⟨v2, ev2, hF⟩ := pl_bd hF
      refine pl_aldL C w ev2 dc_H_turnWords_13 ?_
      refine lv_lstore_n (lv' := [(2, .long v2), (0, .ref a0), (1, .int x1)]) hx hb dc_H_turnWords_14 rfl hl (by decide) rfl (fun ls hl => ?_)
      refine pl_gets1 C hS mw_483 dc_H_turnWords_15 ?_
      refine lv_iload_n hx hb dc_H_turnWords_18 rfl (lv_at hl 2 rfl) ?_
      obtain ⟨v3, ev3, hF⟩ := pl_bd hF
      refine pl_tld1 C hS ev3 dc_H_turnWords_19 ?_
      refine lv_istore (lv' := [(4, .int v3), (2, .long v2), (0, .ref a0), (1, .int x1)]) hx hb dc_H_turnWords_20 hl (by decide) rfl (fun ls hl => ?_)
      refine lv_aload_n hx hb dc_H_turnWords_22 rfl (lv_at hl 2 rfl) ?_
      obtain ⟨v4, ev4, hF⟩ := pl_bd hF
      refine pl_getR C w (ci := 2) in_H rfl (by decide) 1 (by decide) mw_111 ev4 dc_H_turnWords_23 ?_
      refine pl_gets0 C hS mw_485 dc_H_turnWords_26 ?_
      refine lv_iload_n hx hb dc_H_turnWords_29 rfl (lv_at hl 3 rfl) ?_
      obtain ⟨v5, ev5, hF⟩ := pl_bd hF
      refine pl_tld0 C hS ev5 dc_H_turnWords_30 ?_
      refine lv_lload_n hx hb dc_H_turnWords_31 rfl (lv_at hl 1 rfl) ?_
      refine lv_iload hx hb dc_H_turnWords_32 (lv_at hl 0 rfl) ?_
      refine lv_lshl hx hb dc_H_turnWords_34 rfl ?_
      refine lv_lload_n hx hb dc_H_turnWords_35 rfl (lv_at hl 1 rfl) ?_
      refine lv_bipush (v := 64) hx hb dc_H_turnWords_36 (by decide) ?_
      refine lv_iload hx hb dc_H_turnWords_38 (lv_at hl 0 rfl) ?_
      refine lv_isub hx hb dc_H_turnWords_40 ?_
      refine lv_lushr hx hb dc_H_turnWords_41 rfl ?_
      refine lv_lor hx hb dc_H_turnWords_42 ?_
      obtain ⟨f6, ef6, hF⟩ := pl_bd hF
      refine pl_astL C w hS ef6 dc_H_turnWords_43 (fun H locs w hS => ?_)
      refine lv_iinc (k := 3) (v := x1 + 1) (lv' := [(1, .int (x1 + 1)), (4, .int v3), (2, .long v2), (0, .ref a0)]) hx hb dc_H_turnWords_44 hl rfl rfl (by decide) rfl (fun ls hl => ?_)
      refine lv_goto hx hb dc_H_turnWords_47 (tgt := 2) (by decide) ?_
      exact ih f6 a0 (x1 + 1) _ _ _ hF w hS (lv_sub hl [3, 0] rfl)
set_option maxHeartbeats 4000000 in
set_option maxRecDepth 100000 in
theorem tl_H_turnWords {p : Program} {l : Launch} {e : Env} {s : State} {m : MethodId} {args : Array Value} {below : List Frame} {meth : Method} {c : Code} {D : va_G} {dA : Nat → ClassId} {tt : Nat → Nat} {b n : Nat} (C : pl_C p s m args meth c co_H_turnWords 5 rn_H none "turnWords" D dA tt b) {f' : pl_H} {f : pl_H} {a0 : Nat} {H : Heap} {locs : List Loc} {ls : Array Slot} (hF : fn_H_turnWords f a0 = some f') (w : pl_wd D vwCl dA b n f H) (hS : va_S (pl_A b) s.heap H locs) (hl : lv_has ls 5 [(0, .ref a0)]) : W p l e rm_H_turnWords s m args below meth c H locs 0 0 (MQ below (pl_qV D dA tt b n f') args s 0 0 (pl_A b)) (F0 m 0 ls []) := by
  have hx := C.1
  have hb := C.2.1
  have hown := C.2.2.2.2.1
  have hts := C.2.2.2.2.2.2.1
  unfold fn_H_turnWords at hF
  refine lv_iconst (v := 0) hx hb dc_H_turnWords_0 (by decide) ?_
  refine lv_istore_n (lv' := [(1, .int 0), (0, .ref a0)]) hx hb dc_H_turnWords_1 rfl hl (by decide) rfl (fun ls hl => ?_)
  exact tl_H_turnWords_2 C pl_N f a0 0 _ _ _ hF w hS (lv_sub hl [1, 0] rfl)
set_option maxHeartbeats 4000000 in
set_option maxRecDepth 100000 in
theorem tm_H_turnWords (l : Launch) (D : va_G) (dA : Nat → ClassId) (tt : Nat → Nat) (b n : Nat) {f : pl_H} {a0 : Nat} {f' : pl_H} (hF : fn_H_turnWords f a0 = some f') : Met l my_H_turnWords (Cond.code my_H_turnWords co_H_turnWords 5 none :: pl_tb) rm_H_turnWords (va_Pc [.ref a0] (pl_pre D dA tt b n f)) (pl_qV D dA tt b n f') 0 0 (pl_A b) := by
  refine Met.ofW (cc := co_H_turnWords) (maxL := 5) (ret := none) (by decide) rfl ?_
  intro p e s m args below meth c s₁ B hml hv
  obtain ⟨rfl, w, hK⟩ := hv
  have C : pl_C p s m _ meth c co_H_turnWords 5 rn_H none "turnWords" D dA tt b := ⟨B.exec, B.bytes, hml, B.returns, findClass_of_methodNamed B.named, B.notSynchronized, fun w hw => atoms_spec (ws := Cond.code my_H_turnWords co_H_turnWords 5 none :: pl_tb) B.pre w (List.mem_cons_of_mem _ hw), (name_of_methodNamed B.named B.method).1, hK⟩
  have hl := lv_entry ([.ref a0]) (n := 5) (Nat.le_of_ble_eq_true rfl)
  rw [lg_entry_eq]
  generalize (lg_sl ([.ref a0]) ++ List.replicate (5 - (lg_sl ([.ref a0])).length) Slot.unset).toArray = ls at hl ⊢
  have hl : lv_has ls 5 [(0, .ref a0)] := hl
  exact tl_H_turnWords C hF w va_S.rf hl
def rm_H_mixRows : Room := { frames := 0, cells := 0, slots := 0, locals := 0 }
def fn_H_mixRows_2 : Nat → pl_H → Nat → Int32 → Option (pl_H)
  | 0 => fun _ _ _ => none
  | k + 1 => fun f a0 x1 => if 25 ≤ x1 then some f else (pl_gR f a0 2 1).bind fun v1 => (pl_aL f v1 x1).bind fun v2 => (pl_gR f a0 2 1).bind fun v3 => (pl_aL f v3 (x1 + 1)).bind fun v4 => (pl_gR f a0 2 1).bind fun v5 => (pl_aL f v5 (x1 + 2)).bind fun v6 => (pl_gR f a0 2 1).bind fun v7 => (pl_aL f v7 (x1 + 3)).bind fun v8 => (pl_gR f a0 2 1).bind fun v9 => (pl_aL f v9 (x1 + 4)).bind fun v10 => (pl_gR f a0 2 0).bind fun v11 => (pl_sL f v11 x1 (v2 ^^^ ((v4 ^^^ ((-1))) &&& v6))).bind fun f12 => (pl_gR f12 a0 2 0).bind fun v13 => (pl_sL f12 v13 (x1 + 1) (v4 ^^^ ((v6 ^^^ ((-1))) &&& v8))).bind fun f14 => (pl_gR f14 a0 2 0).bind fun v15 => (pl_sL f14 v15 (x1 + 2) (v6 ^^^ ((v8 ^^^ ((-1))) &&& v10))).bind fun f16 => (pl_gR f16 a0 2 0).bind fun v17 => (pl_sL f16 v17 (x1 + 3) (v8 ^^^ ((v10 ^^^ ((-1))) &&& v2))).bind fun f18 => (pl_gR f18 a0 2 0).bind fun v19 => (pl_sL f18 v19 (x1 + 4) (v10 ^^^ ((v2 ^^^ ((-1))) &&& v4))).bind fun f20 => fn_H_mixRows_2 k f20 a0 (x1 + 5)
def fn_H_mixRows (f : pl_H) (a0 : Nat) : Option (pl_H) := fn_H_mixRows_2 pl_N f a0 0
set_option maxHeartbeats 4000000 in
set_option maxRecDepth 100000 in
theorem tl_H_mixRows_2 {p : Program} {l : Launch} {e : Env} {s : State} {m : MethodId} {args : Array Value} {below : List Frame} {meth : Method} {c : Code} {D : va_G} {dA : Nat → ClassId} {tt : Nat → Nat} {b n : Nat} (C : pl_C p s m args meth c co_H_mixRows 12 rn_H none "mixRows" D dA tt b) {f' : pl_H} : ∀ k : Nat, ∀ (f : pl_H) (a0 : Nat) (x1 : Int32) (H : Heap) (locs : List Loc) (ls : Array Slot), fn_H_mixRows_2 k f a0 x1 = some f' → pl_wd D vwCl dA b n f H → va_S (pl_A b) s.heap H locs → lv_has ls 12 [(0, .ref a0), (1, .int x1)] → W p l e rm_H_mixRows s m args below meth c H locs 0 0 (MQ below (pl_qV D dA tt b n f') args s 0 0 (pl_A b)) (F0 m 2 ls []) := by
  have hx := C.1
  have hb := C.2.1
  have hown := C.2.2.2.2.1
  have hts := C.2.2.2.2.2.2.1
  intro k
  induction k with
  | zero =>
    intro f a0 x1 H locs ls hF
    cases hF
  | succ k ih =>
    intro f a0 x1 H locs ls hF w hS hl
    unfold fn_H_mixRows_2 at hF
    refine lv_iload_n hx hb dc_H_mixRows_2 rfl (lv_at hl 1 rfl) ?_
    refine lv_bipush (v := 25) hx hb dc_H_mixRows_3 (by decide) ?_
    refine lv_icmp_ge hx hb dc_H_mixRows_5 (tgt := 156) (by decide) (fun hc => ?_) (fun hc => ?_)
    · have hF := (if_pos hc).symm.trans hF
      exact pl_retVw C w hS hF dc_H_mixRows_156
    · have hF := (if_neg hc).symm.trans hF
      refine lv_aload_n hx hb dc_H_mixRows_8 rfl (lv_at hl 0 rfl) ?_
      obtain ⟨v1, ev1, hF⟩ := pl_bd hF
      refine pl_getR C w (ci := 2) in_H rfl (by decide) 1 (by decide) mw_111 ev1 dc_H_mixRows_9 ?_
      refine lv_iload_n hx hb dc_H_mixRows_12 rfl (lv_at hl 1 rfl) ?_
      obtain ⟨v2, ev2, hF⟩ := pl_bd hF
      refine pl_aldL C w ev2 dc_H_mixRows_13 ?_
      refine lv_lstore_n (lv' := [(2, .long v2), (0, .ref a0), (1, .int x1)]) hx hb dc_H_mixRows_14 rfl hl (by decide) rfl (fun ls hl => ?_)
      refine lv_aload_n hx hb dc_H_mixRows_15 rfl (lv_at hl 1 rfl) ?_
      obtain ⟨v3, ev3, hF⟩ := pl_bd hF
      refine pl_getR C w (ci := 2) in_H rfl (by decide) 1 (by decide) mw_111 ev3 dc_H_mixRows_16 ?_
      refine lv_iload_n hx hb dc_H_mixRows_19 rfl (lv_at hl 2 rfl) ?_
      refine lv_iconst (v := 1) hx hb dc_H_mixRows_20 (by decide) ?_
      refine lv_iadd hx hb dc_H_mixRows_21 ?_
      obtain ⟨v4, ev4, hF⟩ := pl_bd hF
      refine pl_aldL C w ev4 dc_H_mixRows_22 ?_
      refine lv_lstore (lv' := [(4, .long v4), (2, .long v2), (0, .ref a0), (1, .int x1)]) hx hb dc_H_mixRows_23 hl (by decide) rfl (fun ls hl => ?_)
      refine lv_aload_n hx hb dc_H_mixRows_25 rfl (lv_at hl 2 rfl) ?_
      obtain ⟨v5, ev5, hF⟩ := pl_bd hF
      refine pl_getR C w (ci := 2) in_H rfl (by decide) 1 (by decide) mw_111 ev5 dc_H_mixRows_26 ?_
      refine lv_iload_n hx hb dc_H_mixRows_29 rfl (lv_at hl 3 rfl) ?_
      refine lv_iconst (v := 2) hx hb dc_H_mixRows_30 (by decide) ?_
      refine lv_iadd hx hb dc_H_mixRows_31 ?_
      obtain ⟨v6, ev6, hF⟩ := pl_bd hF
      refine pl_aldL C w ev6 dc_H_mixRows_32 ?_
      refine lv_lstore (lv' := [(6, .long v6), (4, .long v4), (2, .long v2), (0, .ref a0), (1, .int x1)]) hx hb dc_H_mixRows_33 hl (by decide) rfl (fun ls hl => ?_)
      refine lv_aload_n hx hb dc_H_mixRows_35 rfl (lv_at hl 3 rfl) ?_
      obtain ⟨v7, ev7, hF⟩ := pl_bd hF
      refine pl_getR C w (ci := 2) in_H rfl (by decide) 1 (by decide) mw_111 ev7 dc_H_mixRows_36 ?_
      refine lv_iload_n hx hb dc_H_mixRows_39 rfl (lv_at hl 4 rfl) ?_
      refine lv_iconst (v := 3) hx hb dc_H_mixRows_40 (by decide) ?_
      refine lv_iadd hx hb dc_H_mixRows_41 ?_
      obtain ⟨v8, ev8, hF⟩ := pl_bd hF
      refine pl_aldL C w ev8 dc_H_mixRows_42 ?_
      refine lv_lstore (lv' := [(8, .long v8), (6, .long v6), (4, .long v4), (2, .long v2), (0, .ref a0), (1, .int x1)]) hx hb dc_H_mixRows_43 hl (by decide) rfl (fun ls hl => ?_)
      refine lv_aload_n hx hb dc_H_mixRows_45 rfl (lv_at hl 4 rfl) ?_
      obtain ⟨v9, ev9, hF⟩ := pl_bd hF
      refine pl_getR C w (ci := 2) in_H rfl (by decide) 1 (by decide) mw_111 ev9 dc_H_mixRows_46 ?_
      refine lv_iload_n hx hb dc_H_mixRows_49 rfl (lv_at hl 5 rfl) ?_
      refine lv_iconst (v := 4) hx hb dc_H_mixRows_50 (by decide) ?_
      refine lv_iadd hx hb dc_H_mixRows_51 ?_
      obtain ⟨v10, ev10, hF⟩ := pl_bd hF
      refine pl_aldL C w ev10 dc_H_mixRows_52 ?_
      refine lv_lstore (lv' := [(10, .long v10), (8, .long v8), (6, .long v6), (4, .long v4), (2, .long v2), (0, .ref a0), (1, .int x1)]) hx hb dc_H_mixRows_53 hl (by decide) rfl (fun ls hl => ?_)
      refine lv_aload_n hx hb dc_H_mixRows_55 rfl (lv_at hl 5 rfl) ?_
      obtain ⟨v11, ev11, hF⟩ := pl_bd hF
      refine pl_getR C w (ci := 2) in_H rfl (by decide) 0 (by decide) mw_110 ev11 dc_H_mixRows_56 ?_
      refine lv_iload_n hx hb dc_H_mixRows_59 rfl (lv_at hl 6 rfl) ?_
      refine lv_lload_n hx hb dc_H_mixRows_60 rfl (lv_at hl 4 rfl) ?_
      refine lv_lload hx hb dc_H_mixRows_61 (lv_at hl 3 rfl) ?_
      refine lv_ldc2 (v := (-1)) hx hb hown (hts _ mw_491) dc_H_mixRows_63 ?_
      refine lv_lxor hx hb dc_H_mixRows_66 ?_
      refine lv_lload hx hb dc_H_mixRows_67 (lv_at hl 2 rfl) ?_
      refine lv_land hx hb dc_H_mixRows_69 ?_
      refine lv_lxor hx hb dc_H_mixRows_70 ?_
      obtain ⟨f12, ef12, hF⟩ := pl_bd hF
      refine pl_astL C w hS ef12 dc_H_mixRows_71 (fun H locs w hS => ?_)
      refine lv_aload_n hx hb dc_H_mixRows_72 rfl (lv_at hl 5 rfl) ?_
      obtain ⟨v13, ev13, hF⟩ := pl_bd hF
      refine pl_getR C w (ci := 2) in_H rfl (by decide) 0 (by decide) mw_110 ev13 dc_H_mixRows_73 ?_
      refine lv_iload_n hx hb dc_H_mixRows_76 rfl (lv_at hl 6 rfl) ?_
      refine lv_iconst (v := 1) hx hb dc_H_mixRows_77 (by decide) ?_
      refine lv_iadd hx hb dc_H_mixRows_78 ?_
      refine lv_lload hx hb dc_H_mixRows_79 (lv_at hl 3 rfl) ?_
      refine lv_lload hx hb dc_H_mixRows_81 (lv_at hl 2 rfl) ?_
      refine lv_ldc2 (v := (-1)) hx hb hown (hts _ mw_491) dc_H_mixRows_83 ?_
      refine lv_lxor hx hb dc_H_mixRows_86 ?_
      refine lv_lload hx hb dc_H_mixRows_87 (lv_at hl 1 rfl) ?_
      refine lv_land hx hb dc_H_mixRows_89 ?_
      refine lv_lxor hx hb dc_H_mixRows_90 ?_
      obtain ⟨f14, ef14, hF⟩ := pl_bd hF
      refine pl_astL C w hS ef14 dc_H_mixRows_91 (fun H locs w hS => ?_)
      refine lv_aload_n hx hb dc_H_mixRows_92 rfl (lv_at hl 5 rfl) ?_
      obtain ⟨v15, ev15, hF⟩ := pl_bd hF
      refine pl_getR C w (ci := 2) in_H rfl (by decide) 0 (by decide) mw_110 ev15 dc_H_mixRows_93 ?_
      refine lv_iload_n hx hb dc_H_mixRows_96 rfl (lv_at hl 6 rfl) ?_
      refine lv_iconst (v := 2) hx hb dc_H_mixRows_97 (by decide) ?_
      refine lv_iadd hx hb dc_H_mixRows_98 ?_
      refine lv_lload hx hb dc_H_mixRows_99 (lv_at hl 2 rfl) ?_
      refine lv_lload hx hb dc_H_mixRows_101 (lv_at hl 1 rfl) ?_
      refine lv_ldc2 (v := (-1)) hx hb hown (hts _ mw_491) dc_H_mixRows_103 ?_
      refine lv_lxor hx hb dc_H_mixRows_106 ?_
      refine lv_lload hx hb dc_H_mixRows_107 (lv_at hl 0 rfl) ?_
      refine lv_land hx hb dc_H_mixRows_109 ?_
      refine lv_lxor hx hb dc_H_mixRows_110 ?_
      obtain ⟨f16, ef16, hF⟩ := pl_bd hF
      refine pl_astL C w hS ef16 dc_H_mixRows_111 (fun H locs w hS => ?_)
      refine lv_aload_n hx hb dc_H_mixRows_112 rfl (lv_at hl 5 rfl) ?_
      obtain ⟨v17, ev17, hF⟩ := pl_bd hF
      refine pl_getR C w (ci := 2) in_H rfl (by decide) 0 (by decide) mw_110 ev17 dc_H_mixRows_113 ?_
      refine lv_iload_n hx hb dc_H_mixRows_116 rfl (lv_at hl 6 rfl) ?_
      refine lv_iconst (v := 3) hx hb dc_H_mixRows_117 (by decide) ?_
      refine lv_iadd hx hb dc_H_mixRows_118 ?_
      refine lv_lload hx hb dc_H_mixRows_119 (lv_at hl 1 rfl) ?_
      refine lv_lload hx hb dc_H_mixRows_121 (lv_at hl 0 rfl) ?_
      refine lv_ldc2 (v := (-1)) hx hb hown (hts _ mw_491) dc_H_mixRows_123 ?_
      refine lv_lxor hx hb dc_H_mixRows_126 ?_
      refine lv_lload_n hx hb dc_H_mixRows_127 rfl (lv_at hl 4 rfl) ?_
      refine lv_land hx hb dc_H_mixRows_128 ?_
      refine lv_lxor hx hb dc_H_mixRows_129 ?_
      obtain ⟨f18, ef18, hF⟩ := pl_bd hF
      refine pl_astL C w hS ef18 dc_H_mixRows_130 (fun H locs w hS => ?_)
      refine lv_aload_n hx hb dc_H_mixRows_131 rfl (lv_at hl 5 rfl) ?_
      obtain ⟨v19, ev19, hF⟩ := pl_bd hF
      refine pl_getR C w (ci := 2) in_H rfl (by decide) 0 (by decide) mw_110 ev19 dc_H_mixRows_132 ?_
      refine lv_iload_n hx hb dc_H_mixRows_135 rfl (lv_at hl 6 rfl) ?_
      refine lv_iconst (v := 4) hx hb dc_H_mixRows_136 (by decide) ?_
      refine lv_iadd hx hb dc_H_mixRows_137 ?_
      refine lv_lload hx hb dc_H_mixRows_138 (lv_at hl 0 rfl) ?_
      refine lv_lload_n hx hb dc_H_mixRows_140 rfl (lv_at hl 4 rfl) ?_
      refine lv_ldc2 (v := (-1)) hx hb hown (hts _ mw_491) dc_H_mixRows_141 ?_
      refine lv_lxor hx hb dc_H_mixRows_144 ?_
      refine lv_lload hx hb dc_H_mixRows_145 (lv_at hl 3 rfl) ?_
      refine lv_land hx hb dc_H_mixRows_147 ?_
      refine lv_lxor hx hb dc_H_mixRows_148 ?_
      obtain ⟨f20, ef20, hF⟩ := pl_bd hF
      refine pl_astL C w hS ef20 dc_H_mixRows_149 (fun H locs w hS => ?_)
      refine lv_iinc (k := 6) (v := x1 + 5) (lv' := [(1, .int (x1 + 5)), (10, .long v10), (8, .long v8), (6, .long v6), (4, .long v4), (2, .long v2), (0, .ref a0)]) hx hb dc_H_mixRows_150 hl rfl rfl (by decide) rfl (fun ls hl => ?_)
      refine lv_goto hx hb dc_H_mixRows_153 (tgt := 2) (by decide) ?_
      exact ih f20 a0 (x1 + 5) _ _ _ hF w hS (lv_sub hl [6, 0] rfl)
set_option maxHeartbeats 4000000 in
set_option maxRecDepth 100000 in
theorem tl_H_mixRows {p : Program} {l : Launch} {e : Env} {s : State} {m : MethodId} {args : Array Value} {below : List Frame} {meth : Method} {c : Code} {D : va_G} {dA : Nat → ClassId} {tt : Nat → Nat} {b n : Nat} (C : pl_C p s m args meth c co_H_mixRows 12 rn_H none "mixRows" D dA tt b) {f' : pl_H} {f : pl_H} {a0 : Nat} {H : Heap} {locs : List Loc} {ls : Array Slot} (hF : fn_H_mixRows f a0 = some f') (w : pl_wd D vwCl dA b n f H) (hS : va_S (pl_A b) s.heap H locs) (hl : lv_has ls 12 [(0, .ref a0)]) : W p l e rm_H_mixRows s m args below meth c H locs 0 0 (MQ below (pl_qV D dA tt b n f') args s 0 0 (pl_A b)) (F0 m 0 ls []) := by
  have hx := C.1
  have hb := C.2.1
  have hown := C.2.2.2.2.1
  have hts := C.2.2.2.2.2.2.1
  unfold fn_H_mixRows at hF
  refine lv_iconst (v := 0) hx hb dc_H_mixRows_0 (by decide) ?_
  refine lv_istore_n (lv' := [(1, .int 0), (0, .ref a0)]) hx hb dc_H_mixRows_1 rfl hl (by decide) rfl (fun ls hl => ?_)
  exact tl_H_mixRows_2 C pl_N f a0 0 _ _ _ hF w hS (lv_sub hl [1, 0] rfl)
set_option maxHeartbeats 4000000 in
set_option maxRecDepth 100000 in
theorem tm_H_mixRows (l : Launch) (D : va_G) (dA : Nat → ClassId) (tt : Nat → Nat) (b n : Nat) {f : pl_H} {a0 : Nat} {f' : pl_H} (hF : fn_H_mixRows f a0 = some f') : Met l my_H_mixRows (Cond.code my_H_mixRows co_H_mixRows 12 none :: pl_tb) rm_H_mixRows (va_Pc [.ref a0] (pl_pre D dA tt b n f)) (pl_qV D dA tt b n f') 0 0 (pl_A b) := by
  refine Met.ofW (cc := co_H_mixRows) (maxL := 12) (ret := none) (by decide) rfl ?_
  intro p e s m args below meth c s₁ B hml hv
  obtain ⟨rfl, w, hK⟩ := hv
  have C : pl_C p s m _ meth c co_H_mixRows 12 rn_H none "mixRows" D dA tt b := ⟨B.exec, B.bytes, hml, B.returns, findClass_of_methodNamed B.named, B.notSynchronized, fun w hw => atoms_spec (ws := Cond.code my_H_mixRows co_H_mixRows 12 none :: pl_tb) B.pre w (List.mem_cons_of_mem _ hw), (name_of_methodNamed B.named B.method).1, hK⟩
  have hl := lv_entry ([.ref a0]) (n := 12) (Nat.le_of_ble_eq_true rfl)
  rw [lg_entry_eq]
  generalize (lg_sl ([.ref a0]) ++ List.replicate (12 - (lg_sl ([.ref a0])).length) Slot.unset).toArray = ls at hl ⊢
  have hl : lv_has ls 12 [(0, .ref a0)] := hl
  exact tl_H_mixRows C hF w va_S.rf hl
def rm_H_doRounds : Room := { frames := 1, cells := 0, slots := 0, locals := 31 }
def fn_H_doRounds_2 : Nat → pl_H → Nat → Int32 → Option (pl_H)
  | 0 => fun _ _ _ => none
  | k + 1 => fun f a0 x1 => if ((pl_tn2 : Int32)) ≤ x1 then some f else (pl_is f a0 2).bind fun u2 => (fn_H_mixColumns f a0).bind fun q1 => (pl_is q1 a0 2).bind fun u4 => (fn_H_turnWords q1 a0).bind fun q3 => (pl_is q3 a0 2).bind fun u6 => (fn_H_mixRows q3 a0).bind fun q5 => (pl_gR q5 a0 2 0).bind fun v7 => (pl_aL q5 v7 0).bind fun v8 => (pl_tb2 x1).bind fun v9 => (pl_sL q5 v7 0 (v8 ^^^ v9)).bind fun f10 => fn_H_doRounds_2 k f10 a0 (x1 + 1)
def fn_H_doRounds (f : pl_H) (a0 : Nat) : Option (pl_H) := fn_H_doRounds_2 pl_N f a0 0
set_option maxHeartbeats 4000000 in
set_option maxRecDepth 100000 in
theorem tl_H_doRounds_2 {p : Program} {l : Launch} {e : Env} {s : State} {m : MethodId} {args : Array Value} {below : List Frame} {meth : Method} {c : Code} {D : va_G} {dA : Nat → ClassId} {tt : Nat → Nat} {b n : Nat} (C : pl_C p s m args meth c co_H_doRounds 2 rn_H none "doRounds" D dA tt b) {f' : pl_H} : ∀ k : Nat, ∀ (f : pl_H) (a0 : Nat) (x1 : Int32) (H : Heap) (locs : List Loc) (ls : Array Slot), fn_H_doRounds_2 k f a0 x1 = some f' → pl_wd D vwCl dA b n f H → va_S (pl_A b) s.heap H locs → lv_has ls 2 [(0, .ref a0), (1, .int x1)] → W p l e rm_H_doRounds s m args below meth c H locs 0 0 (MQ below (pl_qV D dA tt b n f') args s 0 0 (pl_A b)) (F0 m 2 ls []) := by
  have hx := C.1
  have hb := C.2.1
  have hown := C.2.2.2.2.1
  have hts := C.2.2.2.2.2.2.1
  intro k
  induction k with
  | zero =>
    intro f a0 x1 H locs ls hF
    cases hF
  | succ k ih =>
    intro f a0 x1 H locs ls hF w hS hl
    unfold fn_H_doRounds_2 at hF
    refine lv_iload_n hx hb dc_H_doRounds_2 rfl (lv_at hl 1 rfl) ?_
    refine pl_gets2 C hS mw_473 dc_H_doRounds_3 ?_
    refine pl_tlen2 C hS dc_H_doRounds_6 ?_
    refine lv_icmp_ge hx hb dc_H_doRounds_7 (tgt := 42) (by decide) (fun hc => ?_) (fun hc => ?_)
    · have hF := (if_pos hc).symm.trans hF
      exact pl_retVw C w hS hF dc_H_doRounds_42
    · have hF := (if_neg hc).symm.trans hF
      refine lv_aload_n hx hb dc_H_doRounds_10 rfl (lv_at hl 0 rfl) ?_
      obtain ⟨u2, eu2, hF⟩ := pl_bd hF
      obtain ⟨q1, eq1, hF⟩ := pl_bd hF
      refine pl_gv (pl_runV (Cn := rn_H) (k := 0) C (tm_H_mixColumns l D dA tt b n eq1) w hS rfl rfl mw_475 mw_477 mw_14 mw_66 mw_478 (by decide +kernel) ⟨by decide, by decide⟩ eu2 rfl (by decide) rfl hl.1 (Nat.le_of_ble_eq_true rfl) ⟨Nat.zero_le _, Nat.zero_le _⟩ rfl dc_H_doRounds_11) hS (fun H locs w hS => ?_)
      refine lv_aload_n hx hb dc_H_doRounds_14 rfl (lv_at hl 0 rfl) ?_
      obtain ⟨u4, eu4, hF⟩ := pl_bd hF
      obtain ⟨q3, eq3, hF⟩ := pl_bd hF
      refine pl_gv (pl_runV (Cn := rn_H) (k := 0) C (tm_H_turnWords l D dA tt b n eq3) w hS rfl rfl mw_479 mw_481 mw_15 mw_66 mw_482 (by decide +kernel) ⟨by decide, by decide⟩ eu4 rfl (by decide) rfl hl.1 (Nat.le_of_ble_eq_true rfl) ⟨Nat.zero_le _, Nat.zero_le _⟩ rfl dc_H_doRounds_15) hS (fun H locs w hS => ?_)
      refine lv_aload_n hx hb dc_H_doRounds_18 rfl (lv_at hl 0 rfl) ?_
      obtain ⟨u6, eu6, hF⟩ := pl_bd hF
      obtain ⟨q5, eq5, hF⟩ := pl_bd hF
      refine pl_gv (pl_runV (Cn := rn_H) (k := 0) C (tm_H_mixRows l D dA tt b n eq5) w hS rfl rfl mw_487 mw_489 mw_16 mw_66 mw_490 (by decide +kernel) ⟨by decide, by decide⟩ eu6 rfl (by decide) rfl hl.1 (Nat.le_of_ble_eq_true rfl) ⟨Nat.zero_le _, Nat.zero_le _⟩ rfl dc_H_doRounds_19) hS (fun H locs w hS => ?_)
      refine lv_aload_n hx hb dc_H_doRounds_22 rfl (lv_at hl 0 rfl) ?_
      obtain ⟨v7, ev7, hF⟩ := pl_bd hF
      refine pl_getR C w (ci := 2) in_H rfl (by decide) 0 (by decide) mw_110 ev7 dc_H_doRounds_23 ?_
      refine lv_iconst (v := 0) hx hb dc_H_doRounds_26 (by decide) ?_
      refine lv_dup2_11 hx hb dc_H_doRounds_27 rfl rfl ?_
      obtain ⟨v8, ev8, hF⟩ := pl_bd hF
      refine pl_aldL C w ev8 dc_H_doRounds_28 ?_
      refine pl_gets2 C hS mw_473 dc_H_doRounds_29 ?_
      refine lv_iload_n hx hb dc_H_doRounds_32 rfl (lv_at hl 1 rfl) ?_
      obtain ⟨v9, ev9, hF⟩ := pl_bd hF
      refine pl_tld2 C hS ev9 dc_H_doRounds_33 ?_
      refine lv_lxor hx hb dc_H_doRounds_34 ?_
      obtain ⟨f10, ef10, hF⟩ := pl_bd hF
      refine pl_astL C w hS ef10 dc_H_doRounds_35 (fun H locs w hS => ?_)
      refine lv_iinc (k := 1) (v := x1 + 1) (lv' := [(1, .int (x1 + 1)), (0, .ref a0)]) hx hb dc_H_doRounds_36 hl rfl rfl (by decide) rfl (fun ls hl => ?_)
      refine lv_goto hx hb dc_H_doRounds_39 (tgt := 2) (by decide) ?_
      exact ih f10 a0 (x1 + 1) _ _ _ hF w hS (lv_sub hl [1, 0] rfl)
set_option maxHeartbeats 4000000 in
set_option maxRecDepth 100000 in
theorem tl_H_doRounds {p : Program} {l : Launch} {e : Env} {s : State} {m : MethodId} {args : Array Value} {below : List Frame} {meth : Method} {c : Code} {D : va_G} {dA : Nat → ClassId} {tt : Nat → Nat} {b n : Nat} (C : pl_C p s m args meth c co_H_doRounds 2 rn_H none "doRounds" D dA tt b) {f' : pl_H} {f : pl_H} {a0 : Nat} {H : Heap} {locs : List Loc} {ls : Array Slot} (hF : fn_H_doRounds f a0 = some f') (w : pl_wd D vwCl dA b n f H) (hS : va_S (pl_A b) s.heap H locs) (hl : lv_has ls 2 [(0, .ref a0)]) : W p l e rm_H_doRounds s m args below meth c H locs 0 0 (MQ below (pl_qV D dA tt b n f') args s 0 0 (pl_A b)) (F0 m 0 ls []) := by
  have hx := C.1
  have hb := C.2.1
  have hown := C.2.2.2.2.1
  have hts := C.2.2.2.2.2.2.1
  unfold fn_H_doRounds at hF
  refine lv_iconst (v := 0) hx hb dc_H_doRounds_0 (by decide) ?_
  refine lv_istore_n (lv' := [(1, .int 0), (0, .ref a0)]) hx hb dc_H_doRounds_1 rfl hl (by decide) rfl (fun ls hl => ?_)
  exact tl_H_doRounds_2 C pl_N f a0 0 _ _ _ hF w hS (lv_sub hl [1, 0] rfl)
set_option maxHeartbeats 4000000 in
set_option maxRecDepth 100000 in
theorem tm_H_doRounds (l : Launch) (D : va_G) (dA : Nat → ClassId) (tt : Nat → Nat) (b n : Nat) {f : pl_H} {a0 : Nat} {f' : pl_H} (hF : fn_H_doRounds f a0 = some f') : Met l my_H_doRounds (Cond.code my_H_doRounds co_H_doRounds 2 none :: pl_tb) rm_H_doRounds (va_Pc [.ref a0] (pl_pre D dA tt b n f)) (pl_qV D dA tt b n f') 0 0 (pl_A b) := by
  refine Met.ofW (cc := co_H_doRounds) (maxL := 2) (ret := none) (by decide) rfl ?_
  intro p e s m args below meth c s₁ B hml hv
  obtain ⟨rfl, w, hK⟩ := hv
  have C : pl_C p s m _ meth c co_H_doRounds 2 rn_H none "doRounds" D dA tt b := ⟨B.exec, B.bytes, hml, B.returns, findClass_of_methodNamed B.named, B.notSynchronized, fun w hw => atoms_spec (ws := Cond.code my_H_doRounds co_H_doRounds 2 none :: pl_tb) B.pre w (List.mem_cons_of_mem _ hw), (name_of_methodNamed B.named B.method).1, hK⟩
  have hl := lv_entry ([.ref a0]) (n := 2) (Nat.le_of_ble_eq_true rfl)
  rw [lg_entry_eq]
  generalize (lg_sl ([.ref a0]) ++ List.replicate (2 - (lg_sl ([.ref a0])).length) Slot.unset).toArray = ls at hl ⊢
  have hl : lv_has ls 2 [(0, .ref a0)] := hl
  exact tl_H_doRounds C hF w va_S.rf hl
def rm_H_hash : Room := { frames := 2, cells := 0, slots := 0, locals := 52 }
def fn_H_hash_146 (rc43 : pl_H → Nat → Nat → Int32 → Int32 → Int32 → Int32 → Option (pl_H)) (f : pl_H) (a0 : Nat) (a1 : Nat) (x2 : Int32) (x3 : Int32) (x4 : Int32) (x5 : Int32) : Option (pl_H) := rc43 f a0 a1 x2 x3 x4 (x5 + 1)
def fn_H_hash_101 (rc43 : pl_H → Nat → Nat → Int32 → Int32 → Int32 → Int32 → Option (pl_H)) (f : pl_H) (a0 : Nat) (a1 : Nat) (x2 : Int32) (x3 : Int32) (x4 : Int32) (x5 : Int32) (x6 : Int32) : Option (pl_H) := (pl_gR f a0 2 0).bind fun v1 => (pl_aL f v1 ((x5 - x5 / 136 * 136) / 8)).bind fun v2 => (pl_sL f v1 ((x5 - x5 / 136 * 136) / 8) (v2 ^^^ (((x6 : Int32).toInt64) <<< (((8 * ((x5 - x5 / 136 * 136) - (x5 - x5 / 136 * 136) / 8 * 8)) : Int32).toInt64 &&& 63)))).bind fun f3 => if (x5 - x5 / 136 * 136) = 135 then (pl_is f3 a0 2).bind fun u5 => (fn_H_doRounds f3 a0).bind fun q4 => fn_H_hash_146 rc43 q4 a0 a1 x2 x3 x4 x5 else fn_H_hash_146 rc43 f3 a0 a1 x2 x3 x4 x5
def fn_H_hash_86 (rc43 : pl_H → Nat → Nat → Int32 → Int32 → Int32 → Int32 → Option (pl_H)) (f : pl_H) (a0 : Nat) (a1 : Nat) (x2 : Int32) (x3 : Int32) (x4 : Int32) (x5 : Int32) (x6 : Int32) : Option (pl_H) := if x5 = (x4 - 1) then fn_H_hash_101 rc43 f a0 a1 x2 x3 x4 x5 (x6 + 128) else fn_H_hash_101 rc43 f a0 a1 x2 x3 x4 x5 x6
def fn_H_hash_75 (rc43 : pl_H → Nat → Nat → Int32 → Int32 → Int32 → Int32 → Option (pl_H)) (f : pl_H) (a0 : Nat) (a1 : Nat) (x2 : Int32) (x3 : Int32) (x4 : Int32) (x5 : Int32) (sx0 : Int32) : Option (pl_H) := if x5 = x3 then fn_H_hash_86 rc43 f a0 a1 x2 x3 x4 x5 1 else fn_H_hash_86 rc43 f a0 a1 x2 x3 x4 x5 sx0
def fn_H_hash_74 (rc43 : pl_H → Nat → Nat → Int32 → Int32 → Int32 → Int32 → Option (pl_H)) (f : pl_H) (a0 : Nat) (a1 : Nat) (x2 : Int32) (x3 : Int32) (x4 : Int32) (x5 : Int32) : Option (pl_H) := fn_H_hash_75 rc43 f a0 a1 x2 x3 x4 x5 0
def fn_H_hash_43 : Nat → pl_H → Nat → Nat → Int32 → Int32 → Int32 → Int32 → Option (pl_H)
  | 0 => fun _ _ _ _ _ _ _ => none
  | k + 1 => fun f a0 a1 x2 x3 x4 x5 => if x4 ≤ x5 then some f else if x3 ≤ x5 then fn_H_hash_74 (fn_H_hash_43 k) f a0 a1 x2 x3 x4 x5 else (pl_ln f a1).bind fun v1 => if v1 ≤ (x2 + x5) then fn_H_hash_74 (fn_H_hash_43 k) f a0 a1 x2 x3 x4 x5 else (pl_aI f a1 (x2 + x5)).bind fun v2 => fn_H_hash_75 (fn_H_hash_43 k) f a0 a1 x2 x3 x4 x5 v2
def fn_H_hash_3 : Nat → pl_H → Nat → Nat → Int32 → Int32 → Int32 → Option (pl_H)
  | 0 => fun _ _ _ _ _ _ => none
  | k + 1 => fun f a0 a1 x2 x3 x4 => (pl_gR f a0 2 0).bind fun v1 => (pl_ln f v1).bind fun v2 => if v2 ≤ x4 then fn_H_hash_43 pl_N f a0 a1 x2 x3 (((x3 / 136) + 1) * 136) 0 else (pl_gR f a0 2 0).bind fun v3 => (pl_sL f v3 x4 0).bind fun f4 => fn_H_hash_3 k f4 a0 a1 x2 x3 (x4 + 1)
def fn_H_hash (f : pl_H) (a0 : Nat) (a1 : Nat) (x2 : Int32) (x3 : Int32) : Option (pl_H) := fn_H_hash_3 pl_N f a0 a1 x2 x3 0
set_option maxHeartbeats 4000000 in
set_option maxRecDepth 100000 in
theorem tl_H_hash_146 {p : Program} {l : Launch} {e : Env} {s : State} {m : MethodId} {args : Array Value} {below : List Frame} {meth : Method} {c : Code} {D : va_G} {dA : Nat → ClassId} {tt : Nat → Nat} {b n : Nat} (C : pl_C p s m args meth c co_H_hash 8 rn_H none "hash" D dA tt b) {f' : pl_H} {rc43 : pl_H → Nat → Nat → Int32 → Int32 → Int32 → Int32 → Option (pl_H)} (hr43 : ∀ (f : pl_H) (a0 : Nat) (a1 : Nat) (x2 : Int32) (x3 : Int32) (x4 : Int32) (x5 : Int32) (H : Heap) (locs : List Loc) (ls : Array Slot), rc43 f a0 a1 x2 x3 x4 x5 = some f' → pl_wd D vwCl dA b n f H → va_S (pl_A b) s.heap H locs → lv_has ls 8 [(0, .ref a0), (1, .ref a1), (2, .int x2), (3, .int x3), (4, .int x4), (5, .int x5)] → W p l e rm_H_hash s m args below meth c H locs 0 0 (MQ below (pl_qV D dA tt b n f') args s 0 0 (pl_A b)) (F0 m 43 ls [])) {f : pl_H} {a0 : Nat} {a1 : Nat} {x2 : Int32} {x3 : Int32} {x4 : Int32} {x5 : Int32} {H : Heap} {locs : List Loc} {ls : Array Slot} (hF : fn_H_hash_146 rc43 f a0 a1 x2 x3 x4 x5 = some f') (w : pl_wd D vwCl dA b n f H) (hS : va_S (pl_A b) s.heap H locs) (hl : lv_has ls 8 [(0, .ref a0), (1, .ref a1), (2, .int x2), (3, .int x3), (4, .int x4), (5, .int x5)]) : W p l e rm_H_hash s m args below meth c H locs 0 0 (MQ below (pl_qV D dA tt b n f') args s 0 0 (pl_A b)) (F0 m 146 ls []) := by
  have hx := C.1
  have hb := C.2.1
  have hown := C.2.2.2.2.1
  have hts := C.2.2.2.2.2.2.1
  unfold fn_H_hash_146 at hF
  refine lv_iinc (k := 5) (v := x5 + 1) (lv' := [(5, .int (x5 + 1)), (0, .ref a0), (1, .ref a1), (2, .int x2), (3, .int x3), (4, .int x4)]) hx hb dc_H_hash_146 hl rfl rfl (by decide) rfl (fun ls hl => ?_)
  refine lv_goto hx hb dc_H_hash_149 (tgt := 43) (by decide) ?_
  exact hr43 f a0 a1 x2 x3 x4 (x5 + 1) _ _ _ hF w hS (lv_sub hl [1, 2, 3, 4, 5, 0] rfl)
set_option maxHeartbeats 4000000 in
set_option maxRecDepth 100000 in
theorem tl_H_hash_101 {p : Program} {l : Launch} {e : Env} {s : State} {m : MethodId} {args : Array Value} {below : List Frame} {meth : Method} {c : Code} {D : va_G} {dA : Nat → ClassId} {tt : Nat → Nat} {b n : Nat} (C : pl_C p s m args meth c co_H_hash 8 rn_H none "hash" D dA tt b) {f' : pl_H} {rc43 : pl_H → Nat → Nat → Int32 → Int32 → Int32 → Int32 → Option (pl_H)} (hr43 : ∀ (f : pl_H) (a0 : Nat) (a1 : Nat) (x2 : Int32) (x3 : Int32) (x4 : Int32) (x5 : Int32) (H : Heap) (locs : List Loc) (ls : Array Slot), rc43 f a0 a1 x2 x3 x4 x5 = some f' → pl_wd D vwCl dA b n f H → va_S (pl_A b) s.heap H locs → lv_has ls 8 [(0, .ref a0), (1, .ref a1), (2, .int x2), (3, .int x3), (4, .int x4), (5, .int x5)] → W p l e rm_H_hash s m args below meth c H locs 0 0 (MQ below (pl_qV D dA tt b n f') args s 0 0 (pl_A b)) (F0 m 43 ls [])) {f : pl_H} {a0 : Nat} {a1 : Nat} {x2 : Int32} {x3 : Int32} {x4 : Int32} {x5 : Int32} {x6 : Int32} {H : Heap} {locs : List Loc} {ls : Array Slot} (hF : fn_H_hash_101 rc43 f a0 a1 x2 x3 x4 x5 x6 = some f') (w : pl_wd D vwCl dA b n f H) (hS : va_S (pl_A b) s.heap H locs) (hl : lv_has ls 8 [(0, .ref a0), (1, .ref a1), (2, .int x2), (3, .int x3), (4, .int x4), (5, .int x5), (6, .int x6)]) : W p l e rm_H_hash s m args below meth c H locs 0 0 (MQ below (pl_qV D dA tt b n f') args s 0 0 (pl_A b)) (F0 m 101 ls []) := by
  have hx := C.1
  have hb := C.2.1
  have hown := C.2.2.2.2.1
  have hts := C.2.2.2.2.2.2.1
  unfold fn_H_hash_101 at hF
  refine lv_iload hx hb dc_H_hash_101 (lv_at hl 5 rfl) ?_
  refine lv_sipush (v := 136) hx hb dc_H_hash_103 (by decide) ?_
  refine lv_irem hx hb dc_H_hash_106 (by decide) ?_
  refine lv_istore (lv' := [(7, .int (x5 - x5 / 136 * 136)), (0, .ref a0), (1, .ref a1), (2, .int x2), (3, .int x3), (4, .int x4), (5, .int x5), (6, .int x6)]) hx hb dc_H_hash_107 hl (by decide) rfl (fun ls hl => ?_)
  refine lv_aload_n hx hb dc_H_hash_109 rfl (lv_at hl 1 rfl) ?_
  obtain ⟨v1, ev1, hF⟩ := pl_bd hF
  refine pl_getR C w (ci := 2) in_H rfl (by decide) 0 (by decide) mw_110 ev1 dc_H_hash_110 ?_
  refine lv_iload hx hb dc_H_hash_113 (lv_at hl 0 rfl) ?_
  refine lv_bipush (v := 8) hx hb dc_H_hash_115 (by decide) ?_
  refine lv_idiv hx hb dc_H_hash_117 (by decide) ?_
  refine lv_dup2_11 hx hb dc_H_hash_118 rfl rfl ?_
  obtain ⟨v2, ev2, hF⟩ := pl_bd hF
  refine pl_aldL C w ev2 dc_H_hash_119 ?_
  refine lv_iload hx hb dc_H_hash_120 (lv_at hl 7 rfl) ?_
  refine lv_i2l hx hb dc_H_hash_122 rfl ?_
  refine lv_bipush (v := 8) hx hb dc_H_hash_123 (by decide) ?_
  refine lv_iload hx hb dc_H_hash_125 (lv_at hl 0 rfl) ?_
  refine lv_bipush (v := 8) hx hb dc_H_hash_127 (by decide) ?_
  refine lv_irem hx hb dc_H_hash_129 (by decide) ?_
  refine lv_imul hx hb dc_H_hash_130 ?_
  refine lv_lshl hx hb dc_H_hash_131 rfl ?_
  refine lv_lxor hx hb dc_H_hash_132 ?_
  obtain ⟨f3, ef3, hF⟩ := pl_bd hF
  refine pl_astL C w hS ef3 dc_H_hash_133 (fun H locs w hS => ?_)
  refine lv_iload hx hb dc_H_hash_134 (lv_at hl 0 rfl) ?_
  refine lv_sipush (v := 135) hx hb dc_H_hash_136 (by decide) ?_
  refine lv_icmp_ne hx hb dc_H_hash_139 (tgt := 146) (by decide) (fun hc => ?_) (fun hc => ?_)
  · have hF := (if_neg hc).symm.trans hF
    exact tl_H_hash_146 C hr43 hF w hS (lv_sub hl [1, 2, 3, 4, 5, 6] rfl)
  · have hF := (if_pos hc).symm.trans hF
    refine lv_aload_n hx hb dc_H_hash_142 rfl (lv_at hl 1 rfl) ?_
    obtain ⟨u5, eu5, hF⟩ := pl_bd hF
    obtain ⟨q4, eq4, hF⟩ := pl_bd hF
    refine pl_gv (pl_runV (Cn := rn_H) (k := 0) C (tm_H_doRounds l D dA tt b n eq4) w hS rfl rfl mw_469 mw_471 mw_13 mw_66 mw_472 (by decide +kernel) ⟨by decide, by decide⟩ eu5 rfl (by decide) rfl hl.1 (Nat.le_of_ble_eq_true rfl) ⟨Nat.zero_le _, Nat.zero_le _⟩ rfl dc_H_hash_143) hS (fun H locs w hS => ?_)
    exact tl_H_hash_146 C hr43 hF w hS (lv_sub hl [1, 2, 3, 4, 5, 6] rfl)
set_option maxHeartbeats 4000000 in
set_option maxRecDepth 100000 in
theorem tl_H_hash_86 {p : Program} {l : Launch} {e : Env} {s : State} {m : MethodId} {args : Array Value} {below : List Frame} {meth : Method} {c : Code} {D : va_G} {dA : Nat → ClassId} {tt : Nat → Nat} {b n : Nat} (C : pl_C p s m args meth c co_H_hash 8 rn_H none "hash" D dA tt b) {f' : pl_H} {rc43 : pl_H → Nat → Nat → Int32 → Int32 → Int32 → Int32 → Option (pl_H)} (hr43 : ∀ (f : pl_H) (a0 : Nat) (a1 : Nat) (x2 : Int32) (x3 : Int32) (x4 : Int32) (x5 : Int32) (H : Heap) (locs : List Loc) (ls : Array Slot), rc43 f a0 a1 x2 x3 x4 x5 = some f' → pl_wd D vwCl dA b n f H → va_S (pl_A b) s.heap H locs → lv_has ls 8 [(0, .ref a0), (1, .ref a1), (2, .int x2), (3, .int x3), (4, .int x4), (5, .int x5)] → W p l e rm_H_hash s m args below meth c H locs 0 0 (MQ below (pl_qV D dA tt b n f') args s 0 0 (pl_A b)) (F0 m 43 ls [])) {f : pl_H} {a0 : Nat} {a1 : Nat} {x2 : Int32} {x3 : Int32} {x4 : Int32} {x5 : Int32} {x6 : Int32} {H : Heap} {locs : List Loc} {ls : Array Slot} (hF : fn_H_hash_86 rc43 f a0 a1 x2 x3 x4 x5 x6 = some f') (w : pl_wd D vwCl dA b n f H) (hS : va_S (pl_A b) s.heap H locs) (hl : lv_has ls 8 [(0, .ref a0), (1, .ref a1), (2, .int x2), (3, .int x3), (4, .int x4), (5, .int x5), (6, .int x6)]) : W p l e rm_H_hash s m args below meth c H locs 0 0 (MQ below (pl_qV D dA tt b n f') args s 0 0 (pl_A b)) (F0 m 86 ls []) := by
  have hx := C.1
  have hb := C.2.1
  have hown := C.2.2.2.2.1
  have hts := C.2.2.2.2.2.2.1
  unfold fn_H_hash_86 at hF
  refine lv_iload hx hb dc_H_hash_86 (lv_at hl 5 rfl) ?_
  refine lv_iload hx hb dc_H_hash_88 (lv_at hl 4 rfl) ?_
  refine lv_iconst (v := 1) hx hb dc_H_hash_90 (by decide) ?_
  refine lv_isub hx hb dc_H_hash_91 ?_
  refine lv_icmp_ne hx hb dc_H_hash_92 (tgt := 101) (by decide) (fun hc => ?_) (fun hc => ?_)
  · have hF := (if_neg hc).symm.trans hF
    exact tl_H_hash_101 C hr43 hF w hS (lv_sub hl [0, 1, 2, 3, 4, 5, 6] rfl)
  · have hF := (if_pos hc).symm.trans hF
    refine pl_iinc6 (k := 6) (v := x6 + 128) (lv' := [(6, .int (x6 + 128)), (0, .ref a0), (1, .ref a1), (2, .int x2), (3, .int x3), (4, .int x4), (5, .int x5)]) hx hb dc_H_hash_95 hl rfl rfl (by decide) rfl (fun ls hl => ?_)
    exact tl_H_hash_101 C hr43 hF w hS (lv_sub hl [1, 2, 3, 4, 5, 6, 0] rfl)
set_option maxHeartbeats 4000000 in
set_option maxRecDepth 100000 in
theorem tl_H_hash_75 {p : Program} {l : Launch} {e : Env} {s : State} {m : MethodId} {args : Array Value} {below : List Frame} {meth : Method} {c : Code} {D : va_G} {dA : Nat → ClassId} {tt : Nat → Nat} {b n : Nat} (C : pl_C p s m args meth c co_H_hash 8 rn_H none "hash" D dA tt b) {f' : pl_H} {rc43 : pl_H → Nat → Nat → Int32 → Int32 → Int32 → Int32 → Option (pl_H)} (hr43 : ∀ (f : pl_H) (a0 : Nat) (a1 : Nat) (x2 : Int32) (x3 : Int32) (x4 : Int32) (x5 : Int32) (H : Heap) (locs : List Loc) (ls : Array Slot), rc43 f a0 a1 x2 x3 x4 x5 = some f' → pl_wd D vwCl dA b n f H → va_S (pl_A b) s.heap H locs → lv_has ls 8 [(0, .ref a0), (1, .ref a1), (2, .int x2), (3, .int x3), (4, .int x4), (5, .int x5)] → W p l e rm_H_hash s m args below meth c H locs 0 0 (MQ below (pl_qV D dA tt b n f') args s 0 0 (pl_A b)) (F0 m 43 ls [])) {f : pl_H} {a0 : Nat} {a1 : Nat} {x2 : Int32} {x3 : Int32} {x4 : Int32} {x5 : Int32} {sx0 : Int32} {H : Heap} {locs : List Loc} {ls : Array Slot} (hF : fn_H_hash_75 rc43 f a0 a1 x2 x3 x4 x5 sx0 = some f') (w : pl_wd D vwCl dA b n f H) (hS : va_S (pl_A b) s.heap H locs) (hl : lv_has ls 8 [(0, .ref a0), (1, .ref a1), (2, .int x2), (3, .int x3), (4, .int x4), (5, .int x5)]) : W p l e rm_H_hash s m args below meth c H locs 0 0 (MQ below (pl_qV D dA tt b n f') args s 0 0 (pl_A b)) (F0 m 75 ls [.int sx0]) := by
  have hx := C.1
  have hb := C.2.1
  have hown := C.2.2.2.2.1
  have hts := C.2.2.2.2.2.2.1
  unfold fn_H_hash_75 at hF
  refine lv_istore (lv' := [(6, .int sx0), (0, .ref a0), (1, .ref a1), (2, .int x2), (3, .int x3), (4, .int x4), (5, .int x5)]) hx hb dc_H_hash_75 hl (by decide) rfl (fun ls hl => ?_)
  refine lv_iload hx hb dc_H_hash_77 (lv_at hl 6 rfl) ?_
  refine lv_iload_n hx hb dc_H_hash_79 rfl (lv_at hl 4 rfl) ?_
  refine lv_icmp_ne hx hb dc_H_hash_80 (tgt := 86) (by decide) (fun hc => ?_) (fun hc => ?_)
  · have hF := (if_neg hc).symm.trans hF
    exact tl_H_hash_86 C hr43 hF w hS (lv_sub hl [1, 2, 3, 4, 5, 6, 0] rfl)
  · have hF := (if_pos hc).symm.trans hF
    refine lv_iconst (v := 1) hx hb dc_H_hash_83 (by decide) ?_
    refine lv_istore (lv' := [(6, .int 1), (0, .ref a0), (1, .ref a1), (2, .int x2), (3, .int x3), (4, .int x4), (5, .int x5)]) hx hb dc_H_hash_84 hl (by decide) rfl (fun ls hl => ?_)
    exact tl_H_hash_86 C hr43 hF w hS (lv_sub hl [1, 2, 3, 4, 5, 6, 0] rfl)
set_option maxHeartbeats 4000000 in
set_option maxRecDepth 100000 in
theorem tl_H_hash_74 {p : Program} {l : Launch} {e : Env} {s : State} {m : MethodId} {args : Array Value} {below : List Frame} {meth : Method} {c : Code} {D : va_G} {dA : Nat → ClassId} {tt : Nat → Nat} {b n : Nat} (C : pl_C p s m args meth c co_H_hash 8 rn_H none "hash" D dA tt b) {f' : pl_H} {rc43 : pl_H → Nat → Nat → Int32 → Int32 → Int32 → Int32 → Option (pl_H)} (hr43 : ∀ (f : pl_H) (a0 : Nat) (a1 : Nat) (x2 : Int32) (x3 : Int32) (x4 : Int32) (x5 : Int32) (H : Heap) (locs : List Loc) (ls : Array Slot), rc43 f a0 a1 x2 x3 x4 x5 = some f' → pl_wd D vwCl dA b n f H → va_S (pl_A b) s.heap H locs → lv_has ls 8 [(0, .ref a0), (1, .ref a1), (2, .int x2), (3, .int x3), (4, .int x4), (5, .int x5)] → W p l e rm_H_hash s m args below meth c H locs 0 0 (MQ below (pl_qV D dA tt b n f') args s 0 0 (pl_A b)) (F0 m 43 ls [])) {f : pl_H} {a0 : Nat} {a1 : Nat} {x2 : Int32} {x3 : Int32} {x4 : Int32} {x5 : Int32} {H : Heap} {locs : List Loc} {ls : Array Slot} (hF : fn_H_hash_74 rc43 f a0 a1 x2 x3 x4 x5 = some f') (w : pl_wd D vwCl dA b n f H) (hS : va_S (pl_A b) s.heap H locs) (hl : lv_has ls 8 [(0, .ref a0), (1, .ref a1), (2, .int x2), (3, .int x3), (4, .int x4), (5, .int x5)]) : W p l e rm_H_hash s m args below meth c H locs 0 0 (MQ below (pl_qV D dA tt b n f') args s 0 0 (pl_A b)) (F0 m 74 ls []) := by
  have hx := C.1
  have hb := C.2.1
  have hown := C.2.2.2.2.1
  have hts := C.2.2.2.2.2.2.1
  unfold fn_H_hash_74 at hF
  refine lv_iconst (v := 0) hx hb dc_H_hash_74 (by decide) ?_
  exact tl_H_hash_75 C hr43 hF w hS (lv_sub hl [0, 1, 2, 3, 4, 5] rfl)
set_option maxHeartbeats 4000000 in
set_option maxRecDepth 100000 in
theorem tl_H_hash_43 {p : Program} {l : Launch} {e : Env} {s : State} {m : MethodId} {args : Array Value} {below : List Frame} {meth : Method} {c : Code} {D : va_G} {dA : Nat → ClassId} {tt : Nat → Nat} {b n : Nat} (C : pl_C p s m args meth c co_H_hash 8 rn_H none "hash" D dA tt b) {f' : pl_H} : ∀ k : Nat, ∀ (f : pl_H) (a0 : Nat) (a1 : Nat) (x2 : Int32) (x3 : Int32) (x4 : Int32) (x5 : Int32) (H : Heap) (locs : List Loc) (ls : Array Slot), fn_H_hash_43 k f a0 a1 x2 x3 x4 x5 = some f' → pl_wd D vwCl dA b n f H → va_S (pl_A b) s.heap H locs → lv_has ls 8 [(0, .ref a0), (1, .ref a1), (2, .int x2), (3, .int x3), (4, .int x4), (5, .int x5)] → W p l e rm_H_hash s m args below meth c H locs 0 0 (MQ below (pl_qV D dA tt b n f') args s 0 0 (pl_A b)) (F0 m 43 ls []) := by
  have hx := C.1
  have hb := C.2.1
  have hown := C.2.2.2.2.1
  have hts := C.2.2.2.2.2.2.1
  intro k
  induction k with
  | zero =>
    intro f a0 a1 x2 x3 x4 x5 H locs ls hF
    cases hF
  | succ k ih =>
    intro f a0 a1 x2 x3 x4 x5 H locs ls hF w hS hl
    unfold fn_H_hash_43 at hF
    refine lv_iload hx hb dc_H_hash_43 (lv_at hl 5 rfl) ?_
    refine lv_iload hx hb dc_H_hash_45 (lv_at hl 4 rfl) ?_
    refine lv_icmp_ge hx hb dc_H_hash_47 (tgt := 152) (by decide) (fun hc => ?_) (fun hc => ?_)
    · have hF := (if_pos hc).symm.trans hF
      exact pl_retVw C w hS hF dc_H_hash_152
    · have hF := (if_neg hc).symm.trans hF
      refine lv_iload hx hb dc_H_hash_50 (lv_at hl 5 rfl) ?_
      refine lv_iload_n hx hb dc_H_hash_52 rfl (lv_at hl 3 rfl) ?_
      refine lv_icmp_ge hx hb dc_H_hash_53 (tgt := 74) (by decide) (fun hc => ?_) (fun hc => ?_)
      · have hF := (if_pos hc).symm.trans hF
        exact tl_H_hash_74 C ih hF w hS (lv_sub hl [0, 1, 2, 3, 4, 5] rfl)
      · have hF := (if_neg hc).symm.trans hF
        refine lv_iload_n hx hb dc_H_hash_56 rfl (lv_at hl 2 rfl) ?_
        refine lv_iload hx hb dc_H_hash_57 (lv_at hl 5 rfl) ?_
        refine lv_iadd hx hb dc_H_hash_59 ?_
        refine lv_aload_n hx hb dc_H_hash_60 rfl (lv_at hl 1 rfl) ?_
        obtain ⟨v1, ev1, hF⟩ := pl_bd hF
        refine pl_len C w ev1 dc_H_hash_61 ?_
        refine lv_icmp_ge hx hb dc_H_hash_62 (tgt := 74) (by decide) (fun hc => ?_) (fun hc => ?_)
        · have hF := (if_pos hc).symm.trans hF
          exact tl_H_hash_74 C ih hF w hS (lv_sub hl [0, 1, 2, 3, 4, 5] rfl)
        · have hF := (if_neg hc).symm.trans hF
          refine lv_aload_n hx hb dc_H_hash_65 rfl (lv_at hl 1 rfl) ?_
          refine lv_iload_n hx hb dc_H_hash_66 rfl (lv_at hl 2 rfl) ?_
          refine lv_iload hx hb dc_H_hash_67 (lv_at hl 5 rfl) ?_
          refine lv_iadd hx hb dc_H_hash_69 ?_
          obtain ⟨v2, ev2, hF⟩ := pl_bd hF
          refine pl_aldI C w ev2 dc_H_hash_70 ?_
          refine lv_goto hx hb dc_H_hash_71 (tgt := 75) (by decide) ?_
          exact tl_H_hash_75 C ih hF w hS (lv_sub hl [0, 1, 2, 3, 4, 5] rfl)
set_option maxHeartbeats 4000000 in
set_option maxRecDepth 100000 in
theorem tl_H_hash_3 {p : Program} {l : Launch} {e : Env} {s : State} {m : MethodId} {args : Array Value} {below : List Frame} {meth : Method} {c : Code} {D : va_G} {dA : Nat → ClassId} {tt : Nat → Nat} {b n : Nat} (C : pl_C p s m args meth c co_H_hash 8 rn_H none "hash" D dA tt b) {f' : pl_H} : ∀ k : Nat, ∀ (f : pl_H) (a0 : Nat) (a1 : Nat) (x2 : Int32) (x3 : Int32) (x4 : Int32) (H : Heap) (locs : List Loc) (ls : Array Slot), fn_H_hash_3 k f a0 a1 x2 x3 x4 = some f' → pl_wd D vwCl dA b n f H → va_S (pl_A b) s.heap H locs → lv_has ls 8 [(0, .ref a0), (1, .ref a1), (2, .int x2), (3, .int x3), (4, .int x4)] → W p l e rm_H_hash s m args below meth c H locs 0 0 (MQ below (pl_qV D dA tt b n f') args s 0 0 (pl_A b)) (F0 m 3 ls []) := by
  have hx := C.1
  have hb := C.2.1
  have hown := C.2.2.2.2.1
  have hts := C.2.2.2.2.2.2.1
  intro k
  induction k with
  | zero =>
    intro f a0 a1 x2 x3 x4 H locs ls hF
    cases hF
  | succ k ih =>
    intro f a0 a1 x2 x3 x4 H locs ls hF w hS hl
    unfold fn_H_hash_3 at hF
    refine lv_iload hx hb dc_H_hash_3 (lv_at hl 4 rfl) ?_
    refine lv_aload_n hx hb dc_H_hash_5 rfl (lv_at hl 0 rfl) ?_
    obtain ⟨v1, ev1, hF⟩ := pl_bd hF
    refine pl_getR C w (ci := 2) in_H rfl (by decide) 0 (by decide) mw_110 ev1 dc_H_hash_6 ?_
    obtain ⟨v2, ev2, hF⟩ := pl_bd hF
    refine pl_len C w ev2 dc_H_hash_9 ?_
    refine lv_icmp_ge hx hb dc_H_hash_10 (tgt := 27) (by decide) (fun hc => ?_) (fun hc => ?_)
    · have hF := (if_pos hc).symm.trans hF
      refine lv_iload_n hx hb dc_H_hash_27 rfl (lv_at hl 3 rfl) ?_
      refine lv_sipush (v := 136) hx hb dc_H_hash_28 (by decide) ?_
      refine lv_idiv hx hb dc_H_hash_31 (by decide) ?_
      refine lv_iconst (v := 1) hx hb dc_H_hash_32 (by decide) ?_
      refine lv_iadd hx hb dc_H_hash_33 ?_
      refine lv_sipush (v := 136) hx hb dc_H_hash_34 (by decide) ?_
      refine lv_imul hx hb dc_H_hash_37 ?_
      refine lv_istore (lv' := [(4, .int (((x3 / 136) + 1) * 136)), (0, .ref a0), (1, .ref a1), (2, .int x2), (3, .int x3)]) hx hb dc_H_hash_38 hl (by decide) rfl (fun ls hl => ?_)
      refine lv_iconst (v := 0) hx hb dc_H_hash_40 (by decide) ?_
      refine lv_istore (lv' := [(5, .int 0), (4, .int (((x3 / 136) + 1) * 136)), (0, .ref a0), (1, .ref a1), (2, .int x2), (3, .int x3)]) hx hb dc_H_hash_41 hl (by decide) rfl (fun ls hl => ?_)
      exact tl_H_hash_43 C pl_N f a0 a1 x2 x3 (((x3 / 136) + 1) * 136) 0 _ _ _ hF w hS (lv_sub hl [2, 3, 4, 5, 1, 0] rfl)
    · have hF := (if_neg hc).symm.trans hF
      refine lv_aload_n hx hb dc_H_hash_13 rfl (lv_at hl 0 rfl) ?_
      obtain ⟨v3, ev3, hF⟩ := pl_bd hF
      refine pl_getR C w (ci := 2) in_H rfl (by decide) 0 (by decide) mw_110 ev3 dc_H_hash_14 ?_
      refine lv_iload hx hb dc_H_hash_17 (lv_at hl 4 rfl) ?_
      refine lv_lconst (v := 0) hx hb dc_H_hash_19 (by decide) ?_
      obtain ⟨f4, ef4, hF⟩ := pl_bd hF
      refine pl_astL C w hS ef4 dc_H_hash_20 (fun H locs w hS => ?_)
      refine lv_iinc (k := 4) (v := x4 + 1) (lv' := [(4, .int (x4 + 1)), (0, .ref a0), (1, .ref a1), (2, .int x2), (3, .int x3)]) hx hb dc_H_hash_21 hl rfl rfl (by decide) rfl (fun ls hl => ?_)
      refine lv_goto hx hb dc_H_hash_24 (tgt := 3) (by decide) ?_
      exact ih f4 a0 a1 x2 x3 (x4 + 1) _ _ _ hF w hS (lv_sub hl [1, 2, 3, 4, 0] rfl)
set_option maxHeartbeats 4000000 in
set_option maxRecDepth 100000 in
theorem tl_H_hash {p : Program} {l : Launch} {e : Env} {s : State} {m : MethodId} {args : Array Value} {below : List Frame} {meth : Method} {c : Code} {D : va_G} {dA : Nat → ClassId} {tt : Nat → Nat} {b n : Nat} (C : pl_C p s m args meth c co_H_hash 8 rn_H none "hash" D dA tt b) {f' : pl_H} {f : pl_H} {a0 : Nat} {a1 : Nat} {x2 : Int32} {x3 : Int32} {H : Heap} {locs : List Loc} {ls : Array Slot} (hF : fn_H_hash f a0 a1 x2 x3 = some f') (w : pl_wd D vwCl dA b n f H) (hS : va_S (pl_A b) s.heap H locs) (hl : lv_has ls 8 [(0, .ref a0), (1, .ref a1), (2, .int x2), (3, .int x3)]) : W p l e rm_H_hash s m args below meth c H locs 0 0 (MQ below (pl_qV D dA tt b n f') args s 0 0 (pl_A b)) (F0 m 0 ls []) := by
  have hx := C.1
  have hb := C.2.1
  have hown := C.2.2.2.2.1
  have hts := C.2.2.2.2.2.2.1
  unfold fn_H_hash at hF
  refine lv_iconst (v := 0) hx hb dc_H_hash_0 (by decide) ?_
  refine lv_istore (lv' := [(4, .int 0), (0, .ref a0), (1, .ref a1), (2, .int x2), (3, .int x3)]) hx hb dc_H_hash_1 hl (by decide) rfl (fun ls hl => ?_)
  exact tl_H_hash_3 C pl_N f a0 a1 x2 x3 0 _ _ _ hF w hS (lv_sub hl [1, 2, 3, 4, 0] rfl)
set_option maxHeartbeats 4000000 in
set_option maxRecDepth 100000 in
theorem tm_H_hash (l : Launch) (D : va_G) (dA : Nat → ClassId) (tt : Nat → Nat) (b n : Nat) {f : pl_H} {a0 : Nat} {a1 : Nat} {x2 : Int32} {x3 : Int32} {f' : pl_H} (hF : fn_H_hash f a0 a1 x2 x3 = some f') : Met l my_H_hash (Cond.code my_H_hash co_H_hash 8 none :: pl_tb) rm_H_hash (va_Pc [.ref a0, .ref a1, .int x2, .int x3] (pl_pre D dA tt b n f)) (pl_qV D dA tt b n f') 0 0 (pl_A b) := by
  refine Met.ofW (cc := co_H_hash) (maxL := 8) (ret := none) (by decide) rfl ?_
  intro p e s m args below meth c s₁ B hml hv
  obtain ⟨rfl, w, hK⟩ := hv
  have C : pl_C p s m _ meth c co_H_hash 8 rn_H none "hash" D dA tt b := ⟨B.exec, B.bytes, hml, B.returns, findClass_of_methodNamed B.named, B.notSynchronized, fun w hw => atoms_spec (ws := Cond.code my_H_hash co_H_hash 8 none :: pl_tb) B.pre w (List.mem_cons_of_mem _ hw), (name_of_methodNamed B.named B.method).1, hK⟩
  have hl := lv_entry ([.ref a0, .ref a1, .int x2, .int x3]) (n := 8) (Nat.le_of_ble_eq_true rfl)
  rw [lg_entry_eq]
  generalize (lg_sl ([.ref a0, .ref a1, .int x2, .int x3]) ++ List.replicate (8 - (lg_sl ([.ref a0, .ref a1, .int x2, .int x3])).length) Slot.unset).toArray = ls at hl ⊢
  have hl : lv_has ls 8 [(0, .ref a0), (1, .ref a1), (2, .int x2), (3, .int x3)] := hl
  exact tl_H_hash C hF w va_S.rf hl
def rm_H_hashByte : Room := { frames := 0, cells := 0, slots := 0, locals := 0 }
def fn_H_hashByte_36 (f : pl_H) (sx0 : Int32) : Option (Int32) := some sx0
def fn_H_hashByte_35 (f : pl_H) : Option (Int32) := fn_H_hashByte_36 f 0
def fn_H_hashByte (f : pl_H) (a0 : Nat) (x1 : Int32) : Option (Int32) := if x1 < 0 then fn_H_hashByte_35 f else if 32 ≤ x1 then fn_H_hashByte_35 f else (pl_gR f a0 2 0).bind fun v1 => (pl_aL f v1 (x1 / 8)).bind fun v2 => fn_H_hashByte_36 f (((((v2.toUInt64 >>> (((8 * (x1 - x1 / 8 * 8)) : Int32).toInt64.toUInt64 &&& Int64.toUInt64 63)).toInt64) : Int64).toInt32) &&& 255)
set_option maxHeartbeats 4000000 in
set_option maxRecDepth 100000 in
theorem tl_H_hashByte_36 {p : Program} {l : Launch} {e : Env} {s : State} {m : MethodId} {args : Array Value} {below : List Frame} {meth : Method} {c : Code} {D : va_G} {dA : Nat → ClassId} {tt : Nat → Nat} {b n : Nat} (C : pl_C p s m args meth c co_H_hashByte 2 rn_H (some .int) "hashByte" D dA tt b) {r : Int32} {f : pl_H} {sx0 : Int32} {H : Heap} {locs : List Loc} {ls : Array Slot} (hF : fn_H_hashByte_36 f sx0 = some r) (w : pl_wd D vwCl dA b n f H) (hS : va_S (pl_A b) s.heap H locs) (hl : lv_has ls 2 []) : W p l e rm_H_hashByte s m args below meth c H locs 0 0 (MQ below (pl_qI D dA tt b n f r) args s 0 0 (pl_A b)) (F0 m 36 ls [.int sx0]) := by
  have hx := C.1
  have hb := C.2.1
  have hown := C.2.2.2.2.1
  have hts := C.2.2.2.2.2.2.1
  unfold fn_H_hashByte_36 at hF
  exact pl_retI C w hS hF dc_H_hashByte_36
set_option maxHeartbeats 4000000 in
set_option maxRecDepth 100000 in
theorem tl_H_hashByte_35 {p : Program} {l : Launch} {e : Env} {s : State} {m : MethodId} {args : Array Value} {below : List Frame} {meth : Method} {c : Code} {D : va_G} {dA : Nat → ClassId} {tt : Nat → Nat} {b n : Nat} (C : pl_C p s m args meth c co_H_hashByte 2 rn_H (some .int) "hashByte" D dA tt b) {r : Int32} {f : pl_H} {H : Heap} {locs : List Loc} {ls : Array Slot} (hF : fn_H_hashByte_35 f = some r) (w : pl_wd D vwCl dA b n f H) (hS : va_S (pl_A b) s.heap H locs) (hl : lv_has ls 2 []) : W p l e rm_H_hashByte s m args below meth c H locs 0 0 (MQ below (pl_qI D dA tt b n f r) args s 0 0 (pl_A b)) (F0 m 35 ls []) := by
  have hx := C.1
  have hb := C.2.1
  have hown := C.2.2.2.2.1
  have hts := C.2.2.2.2.2.2.1
  unfold fn_H_hashByte_35 at hF
  refine lv_iconst (v := 0) hx hb dc_H_hashByte_35 (by decide) ?_
  exact tl_H_hashByte_36 C hF w hS (lv_sub hl [] rfl)
set_option maxHeartbeats 4000000 in
set_option maxRecDepth 100000 in
theorem tl_H_hashByte {p : Program} {l : Launch} {e : Env} {s : State} {m : MethodId} {args : Array Value} {below : List Frame} {meth : Method} {c : Code} {D : va_G} {dA : Nat → ClassId} {tt : Nat → Nat} {b n : Nat} (C : pl_C p s m args meth c co_H_hashByte 2 rn_H (some .int) "hashByte" D dA tt b) {r : Int32} {f : pl_H} {a0 : Nat} {x1 : Int32} {H : Heap} {locs : List Loc} {ls : Array Slot} (hF : fn_H_hashByte f a0 x1 = some r) (w : pl_wd D vwCl dA b n f H) (hS : va_S (pl_A b) s.heap H locs) (hl : lv_has ls 2 [(0, .ref a0), (1, .int x1)]) : W p l e rm_H_hashByte s m args below meth c H locs 0 0 (MQ below (pl_qI D dA tt b n f r) args s 0 0 (pl_A b)) (F0 m 0 ls []) := by
  have hx := C.1
  have hb := C.2.1
  have hown := C.2.2.2.2.1
  have hts := C.2.2.2.2.2.2.1
  unfold fn_H_hashByte at hF
  refine lv_iload_n hx hb dc_H_hashByte_0 rfl (lv_at hl 1 rfl) ?_
  refine lv_if_lt hx hb dc_H_hashByte_1 (tgt := 35) (by decide) (fun hc => ?_) (fun hc => ?_)
  · have hF := (if_pos hc).symm.trans hF
    exact tl_H_hashByte_35 C hF w hS (lv_sub hl [] rfl)
  · have hF := (if_neg hc).symm.trans hF
    refine lv_iload_n hx hb dc_H_hashByte_4 rfl (lv_at hl 1 rfl) ?_
    refine lv_bipush (v := 32) hx hb dc_H_hashByte_5 (by decide) ?_
    refine lv_icmp_ge hx hb dc_H_hashByte_7 (tgt := 35) (by decide) (fun hc => ?_) (fun hc => ?_)
    · have hF := (if_pos hc).symm.trans hF
      exact tl_H_hashByte_35 C hF w hS (lv_sub hl [] rfl)
    · have hF := (if_neg hc).symm.trans hF
      refine lv_aload_n hx hb dc_H_hashByte_10 rfl (lv_at hl 0 rfl) ?_
      obtain ⟨v1, ev1, hF⟩ := pl_bd hF
      refine pl_getR C w (ci := 2) in_H rfl (by decide) 0 (by decide) mw_110 ev1 dc_H_hashByte_11 ?_
      refine lv_iload_n hx hb dc_H_hashByte_14 rfl (lv_at hl 1 rfl) ?_
      refine lv_bipush (v := 8) hx hb dc_H_hashByte_15 (by decide) ?_
      refine lv_idiv hx hb dc_H_hashByte_17 (by decide) ?_
      obtain ⟨v2, ev2, hF⟩ := pl_bd hF
      refine pl_aldL C w ev2 dc_H_hashByte_18 ?_
      refine lv_bipush (v := 8) hx hb dc_H_hashByte_19 (by decide) ?_
      refine lv_iload_n hx hb dc_H_hashByte_21 rfl (lv_at hl 1 rfl) ?_
      refine lv_bipush (v := 8) hx hb dc_H_hashByte_22 (by decide) ?_
      refine lv_irem hx hb dc_H_hashByte_24 (by decide) ?_
      refine lv_imul hx hb dc_H_hashByte_25 ?_
      refine lv_lushr hx hb dc_H_hashByte_26 rfl ?_
      refine lv_l2i hx hb dc_H_hashByte_27 rfl ?_
      refine lv_sipush (v := 255) hx hb dc_H_hashByte_28 (by decide) ?_
      refine lv_iand hx hb dc_H_hashByte_31 ?_
      refine lv_goto hx hb dc_H_hashByte_32 (tgt := 36) (by decide) ?_
      exact tl_H_hashByte_36 C hF w hS (lv_sub hl [] rfl)
set_option maxHeartbeats 4000000 in
set_option maxRecDepth 100000 in
theorem tm_H_hashByte (l : Launch) (D : va_G) (dA : Nat → ClassId) (tt : Nat → Nat) (b n : Nat) {f : pl_H} {a0 : Nat} {x1 : Int32} {r : Int32} (hF : fn_H_hashByte f a0 x1 = some r) : Met l my_H_hashByte (Cond.code my_H_hashByte co_H_hashByte 2 (some .int) :: pl_tb) rm_H_hashByte (va_Pc [.ref a0, .int x1] (pl_pre D dA tt b n f)) (pl_qI D dA tt b n f r) 0 0 (pl_A b) := by
  refine Met.ofW (cc := co_H_hashByte) (maxL := 2) (ret := (some .int)) (by decide) rfl ?_
  intro p e s m args below meth c s₁ B hml hv
  obtain ⟨rfl, w, hK⟩ := hv
  have C : pl_C p s m _ meth c co_H_hashByte 2 rn_H (some .int) "hashByte" D dA tt b := ⟨B.exec, B.bytes, hml, B.returns, findClass_of_methodNamed B.named, B.notSynchronized, fun w hw => atoms_spec (ws := Cond.code my_H_hashByte co_H_hashByte 2 (some .int) :: pl_tb) B.pre w (List.mem_cons_of_mem _ hw), (name_of_methodNamed B.named B.method).1, hK⟩
  have hl := lv_entry ([.ref a0, .int x1]) (n := 2) (Nat.le_of_ble_eq_true rfl)
  rw [lg_entry_eq]
  generalize (lg_sl ([.ref a0, .int x1]) ++ List.replicate (2 - (lg_sl ([.ref a0, .int x1])).length) Slot.unset).toArray = ls at hl ⊢
  have hl : lv_has ls 2 [(0, .ref a0), (1, .int x1)] := hl
  exact tl_H_hashByte C hF w va_S.rf hl
def rm_H_standsIn : Room := { frames := 1, cells := 0, slots := 0, locals := 21 }
def fn_H_standsIn_42 (rc3 : pl_H → Nat → Nat → Int32 → Int32 → Int32 → Option (Int32)) (f : pl_H) (a0 : Nat) (a1 : Nat) (x2 : Int32) (x3 : Int32) (x4 : Int32) (sx0 : Int32) : Option (Int32) := (pl_is f a0 2).bind fun u2 => (fn_H_hashByte f a0 x4).bind fun v1 => if v1 = sx0 then rc3 f a0 a1 x2 x3 (x4 + 1) else pl_z 0
def fn_H_standsIn_41 (rc3 : pl_H → Nat → Nat → Int32 → Int32 → Int32 → Option (Int32)) (f : pl_H) (a0 : Nat) (a1 : Nat) (x2 : Int32) (x3 : Int32) (x4 : Int32) : Option (Int32) := fn_H_standsIn_42 rc3 f a0 a1 x2 x3 x4 0
def fn_H_standsIn_3 : Nat → pl_H → Nat → Nat → Int32 → Int32 → Int32 → Option (Int32)
  | 0 => fun _ _ _ _ _ _ => none
  | k + 1 => fun f a0 a1 x2 x3 x4 => if 32 ≤ x4 then pl_z 1 else if (x3 + x4) < 0 then fn_H_standsIn_41 (fn_H_standsIn_3 k) f a0 a1 x2 x3 x4 else if x2 ≤ (x3 + x4) then fn_H_standsIn_41 (fn_H_standsIn_3 k) f a0 a1 x2 x3 x4 else (pl_ln f a1).bind fun v1 => if v1 ≤ (x3 + x4) then fn_H_standsIn_41 (fn_H_standsIn_3 k) f a0 a1 x2 x3 x4 else (pl_aI f a1 (x3 + x4)).bind fun v2 => fn_H_standsIn_42 (fn_H_standsIn_3 k) f a0 a1 x2 x3 x4 v2
def fn_H_standsIn (f : pl_H) (a0 : Nat) (a1 : Nat) (x2 : Int32) (x3 : Int32) : Option (Int32) := fn_H_standsIn_3 pl_N f a0 a1 x2 x3 0
set_option maxHeartbeats 4000000 in
set_option maxRecDepth 100000 in
theorem tl_H_standsIn_42 {p : Program} {l : Launch} {e : Env} {s : State} {m : MethodId} {args : Array Value} {below : List Frame} {meth : Method} {c : Code} {D : va_G} {dA : Nat → ClassId} {tt : Nat → Nat} {b n : Nat} (C : pl_C p s m args meth c co_H_standsIn 7 rn_H (some .boolean) "standsIn" D dA tt b) {r : Int32} {f : pl_H} {rc3 : pl_H → Nat → Nat → Int32 → Int32 → Int32 → Option (Int32)} (hr3 : ∀ (a0 : Nat) (a1 : Nat) (x2 : Int32) (x3 : Int32) (x4 : Int32) (H : Heap) (locs : List Loc) (ls : Array Slot), rc3 f a0 a1 x2 x3 x4 = some r → pl_wd D vwCl dA b n f H → va_S (pl_A b) s.heap H locs → lv_has ls 7 [(0, .ref a0), (1, .ref a1), (2, .int x2), (3, .int x3), (4, .int x4)] → W p l e rm_H_standsIn s m args below meth c H locs 0 0 (MQ below (pl_qI D dA tt b n f r) args s 0 0 (pl_A b)) (F0 m 3 ls [])) {a0 : Nat} {a1 : Nat} {x2 : Int32} {x3 : Int32} {x4 : Int32} {sx0 : Int32} {H : Heap} {locs : List Loc} {ls : Array Slot} (hF : fn_H_standsIn_42 rc3 f a0 a1 x2 x3 x4 sx0 = some r) (w : pl_wd D vwCl dA b n f H) (hS : va_S (pl_A b) s.heap H locs) (hl : lv_has ls 7 [(0, .ref a0), (1, .ref a1), (2, .int x2), (3, .int x3), (4, .int x4)]) : W p l e rm_H_standsIn s m args below meth c H locs 0 0 (MQ below (pl_qI D dA tt b n f r) args s 0 0 (pl_A b)) (F0 m 42 ls [.int sx0]) := by
  have hx := C.1
  have hb := C.2.1
  have hown := C.2.2.2.2.1
  have hts := C.2.2.2.2.2.2.1
  unfold fn_H_standsIn_42 at hF
  refine lv_istore (lv' := [(6, .int sx0), (0, .ref a0), (1, .ref a1), (2, .int x2), (3, .int x3), (4, .int x4)]) hx hb dc_H_standsIn_42 hl (by decide) rfl (fun ls hl => ?_)
  refine lv_aload_n hx hb dc_H_standsIn_44 rfl (lv_at hl 1 rfl) ?_
  refine lv_iload hx hb dc_H_standsIn_45 (lv_at hl 5 rfl) ?_
  obtain ⟨u2, eu2, hF⟩ := pl_bd hF
  obtain ⟨v1, ev1, hF⟩ := pl_bd hF
  refine pl_gi (pl_runV (Cn := rn_H) (k := 1) C (tm_H_hashByte l D dA tt b n ev1) w hS rfl rfl mw_625 mw_493 mw_494 mw_66 mw_495 (by decide +kernel) ⟨by decide, by decide⟩ eu2 rfl (by decide) rfl hl.1 (Nat.le_of_ble_eq_true rfl) ⟨Nat.zero_le _, Nat.zero_le _⟩ rfl dc_H_standsIn_47) hS (fun H locs w hS => ?_)
  refine lv_iload hx hb dc_H_standsIn_50 (lv_at hl 0 rfl) ?_
  refine lv_icmp_eq hx hb dc_H_standsIn_52 (tgt := 57) (by decide) (fun hc => ?_) (fun hc => ?_)
  · have hF := (if_pos hc).symm.trans hF
    refine lv_iinc (k := 5) (v := x4 + 1) (lv' := [(4, .int (x4 + 1)), (6, .int sx0), (0, .ref a0), (1, .ref a1), (2, .int x2), (3, .int x3)]) hx hb dc_H_standsIn_57 hl rfl rfl (by decide) rfl (fun ls hl => ?_)
    refine lv_goto hx hb dc_H_standsIn_60 (tgt := 3) (by decide) ?_
    exact hr3 a0 a1 x2 x3 (x4 + 1) _ _ _ hF w hS (lv_sub hl [2, 3, 4, 5, 0] rfl)
  · have hF := (if_neg hc).symm.trans hF
    refine lv_iconst (v := 0) hx hb dc_H_standsIn_55 (by decide) ?_
    exact pl_retZ C w hS hF dc_H_standsIn_56
set_option maxHeartbeats 4000000 in
set_option maxRecDepth 100000 in
theorem tl_H_standsIn_41 {p : Program} {l : Launch} {e : Env} {s : State} {m : MethodId} {args : Array Value} {below : List Frame} {meth : Method} {c : Code} {D : va_G} {dA : Nat → ClassId} {tt : Nat → Nat} {b n : Nat} (C : pl_C p s m args meth c co_H_standsIn 7 rn_H (some .boolean) "standsIn" D dA tt b) {r : Int32} {f : pl_H} {rc3 : pl_H → Nat → Nat → Int32 → Int32 → Int32 → Option (Int32)} (hr3 : ∀ (a0 : Nat) (a1 : Nat) (x2 : Int32) (x3 : Int32) (x4 : Int32) (H : Heap) (locs : List Loc) (ls : Array Slot), rc3 f a0 a1 x2 x3 x4 = some r → pl_wd D vwCl dA b n f H → va_S (pl_A b) s.heap H locs → lv_has ls 7 [(0, .ref a0), (1, .ref a1), (2, .int x2), (3, .int x3), (4, .int x4)] → W p l e rm_H_standsIn s m args below meth c H locs 0 0 (MQ below (pl_qI D dA tt b n f r) args s 0 0 (pl_A b)) (F0 m 3 ls [])) {a0 : Nat} {a1 : Nat} {x2 : Int32} {x3 : Int32} {x4 : Int32} {H : Heap} {locs : List Loc} {ls : Array Slot} (hF : fn_H_standsIn_41 rc3 f a0 a1 x2 x3 x4 = some r) (w : pl_wd D vwCl dA b n f H) (hS : va_S (pl_A b) s.heap H locs) (hl : lv_has ls 7 [(0, .ref a0), (1, .ref a1), (2, .int x2), (3, .int x3), (4, .int x4)]) : W p l e rm_H_standsIn s m args below meth c H locs 0 0 (MQ below (pl_qI D dA tt b n f r) args s 0 0 (pl_A b)) (F0 m 41 ls []) := by
  have hx := C.1
  have hb := C.2.1
  have hown := C.2.2.2.2.1
  have hts := C.2.2.2.2.2.2.1
  unfold fn_H_standsIn_41 at hF
  refine lv_iconst (v := 0) hx hb dc_H_standsIn_41 (by decide) ?_
  exact tl_H_standsIn_42 C hr3 hF w hS (lv_sub hl [0, 1, 2, 3, 4] rfl)
set_option maxHeartbeats 4000000 in
set_option maxRecDepth 100000 in
theorem tl_H_standsIn_3 {p : Program} {l : Launch} {e : Env} {s : State} {m : MethodId} {args : Array Value} {below : List Frame} {meth : Method} {c : Code} {D : va_G} {dA : Nat → ClassId} {tt : Nat → Nat} {b n : Nat} (C : pl_C p s m args meth c co_H_standsIn 7 rn_H (some .boolean) "standsIn" D dA tt b) {r : Int32} {f : pl_H} : ∀ k : Nat, ∀ (a0 : Nat) (a1 : Nat) (x2 : Int32) (x3 : Int32) (x4 : Int32) (H : Heap) (locs : List Loc) (ls : Array Slot), fn_H_standsIn_3 k f a0 a1 x2 x3 x4 = some r → pl_wd D vwCl dA b n f H → va_S (pl_A b) s.heap H locs → lv_has ls 7 [(0, .ref a0), (1, .ref a1), (2, .int x2), (3, .int x3), (4, .int x4)] → W p l e rm_H_standsIn s m args below meth c H locs 0 0 (MQ below (pl_qI D dA tt b n f r) args s 0 0 (pl_A b)) (F0 m 3 ls []) := by
  have hx := C.1
  have hb := C.2.1
  have hown := C.2.2.2.2.1
  have hts := C.2.2.2.2.2.2.1
  intro k
  induction k with
  | zero =>
    intro a0 a1 x2 x3 x4 H locs ls hF
    cases hF
  | succ k ih =>
    intro a0 a1 x2 x3 x4 H locs ls hF w hS hl
    unfold fn_H_standsIn_3 at hF
    refine lv_iload hx hb dc_H_standsIn_3 (lv_at hl 4 rfl) ?_
    refine lv_bipush (v := 32) hx hb dc_H_standsIn_5 (by decide) ?_
    refine lv_icmp_ge hx hb dc_H_standsIn_7 (tgt := 63) (by decide) (fun hc => ?_) (fun hc => ?_)
    · have hF := (if_pos hc).symm.trans hF
      refine lv_iconst (v := 1) hx hb dc_H_standsIn_63 (by decide) ?_
      exact pl_retZ C w hS hF dc_H_standsIn_64
    · have hF := (if_neg hc).symm.trans hF
      refine lv_iload_n hx hb dc_H_standsIn_10 rfl (lv_at hl 3 rfl) ?_
      refine lv_iload hx hb dc_H_standsIn_11 (lv_at hl 4 rfl) ?_
      refine lv_iadd hx hb dc_H_standsIn_13 ?_
      refine lv_istore (lv' := [(5, .int (x3 + x4)), (0, .ref a0), (1, .ref a1), (2, .int x2), (3, .int x3), (4, .int x4)]) hx hb dc_H_standsIn_14 hl (by decide) rfl (fun ls hl => ?_)
      refine lv_iload hx hb dc_H_standsIn_16 (lv_at hl 0 rfl) ?_
      refine lv_if_lt hx hb dc_H_standsIn_18 (tgt := 41) (by decide) (fun hc => ?_) (fun hc => ?_)
      · have hF := (if_pos hc).symm.trans hF
        exact tl_H_standsIn_41 C ih hF w hS (lv_sub hl [1, 2, 3, 4, 5] rfl)
      · have hF := (if_neg hc).symm.trans hF
        refine lv_iload hx hb dc_H_standsIn_21 (lv_at hl 0 rfl) ?_
        refine lv_iload_n hx hb dc_H_standsIn_23 rfl (lv_at hl 3 rfl) ?_
        refine lv_icmp_ge hx hb dc_H_standsIn_24 (tgt := 41) (by decide) (fun hc => ?_) (fun hc => ?_)
        · have hF := (if_pos hc).symm.trans hF
          exact tl_H_standsIn_41 C ih hF w hS (lv_sub hl [1, 2, 3, 4, 5] rfl)
        · have hF := (if_neg hc).symm.trans hF
          refine lv_iload hx hb dc_H_standsIn_27 (lv_at hl 0 rfl) ?_
          refine lv_aload_n hx hb dc_H_standsIn_29 rfl (lv_at hl 2 rfl) ?_
          obtain ⟨v1, ev1, hF⟩ := pl_bd hF
          refine pl_len C w ev1 dc_H_standsIn_30 ?_
          refine lv_icmp_ge hx hb dc_H_standsIn_31 (tgt := 41) (by decide) (fun hc => ?_) (fun hc => ?_)
          · have hF := (if_pos hc).symm.trans hF
            exact tl_H_standsIn_41 C ih hF w hS (lv_sub hl [1, 2, 3, 4, 5] rfl)
          · have hF := (if_neg hc).symm.trans hF
            refine lv_aload_n hx hb dc_H_standsIn_34 rfl (lv_at hl 2 rfl) ?_
            refine lv_iload hx hb dc_H_standsIn_35 (lv_at hl 0 rfl) ?_
            obtain ⟨v2, ev2, hF⟩ := pl_bd hF
            refine pl_aldI C w ev2 dc_H_standsIn_37 ?_
            refine lv_goto hx hb dc_H_standsIn_38 (tgt := 42) (by decide) ?_
            exact tl_H_standsIn_42 C ih hF w hS (lv_sub hl [1, 2, 3, 4, 5] rfl)
set_option maxHeartbeats 4000000 in
set_option maxRecDepth 100000 in
theorem tl_H_standsIn {p : Program} {l : Launch} {e : Env} {s : State} {m : MethodId} {args : Array Value} {below : List Frame} {meth : Method} {c : Code} {D : va_G} {dA : Nat → ClassId} {tt : Nat → Nat} {b n : Nat} (C : pl_C p s m args meth c co_H_standsIn 7 rn_H (some .boolean) "standsIn" D dA tt b) {r : Int32} {f : pl_H} {a0 : Nat} {a1 : Nat} {x2 : Int32} {x3 : Int32} {H : Heap} {locs : List Loc} {ls : Array Slot} (hF : fn_H_standsIn f a0 a1 x2 x3 = some r) (w : pl_wd D vwCl dA b n f H) (hS : va_S (pl_A b) s.heap H locs) (hl : lv_has ls 7 [(0, .ref a0), (1, .ref a1), (2, .int x2), (3, .int x3)]) : W p l e rm_H_standsIn s m args below meth c H locs 0 0 (MQ below (pl_qI D dA tt b n f r) args s 0 0 (pl_A b)) (F0 m 0 ls []) := by
  have hx := C.1
  have hb := C.2.1
  have hown := C.2.2.2.2.1
  have hts := C.2.2.2.2.2.2.1
  unfold fn_H_standsIn at hF
  refine lv_iconst (v := 0) hx hb dc_H_standsIn_0 (by decide) ?_
  refine lv_istore (lv' := [(4, .int 0), (0, .ref a0), (1, .ref a1), (2, .int x2), (3, .int x3)]) hx hb dc_H_standsIn_1 hl (by decide) rfl (fun ls hl => ?_)
  exact tl_H_standsIn_3 C pl_N a0 a1 x2 x3 0 _ _ _ hF w hS (lv_sub hl [1, 2, 3, 4, 0] rfl)
set_option maxHeartbeats 4000000 in
set_option maxRecDepth 100000 in
theorem tm_H_standsIn (l : Launch) (D : va_G) (dA : Nat → ClassId) (tt : Nat → Nat) (b n : Nat) {f : pl_H} {a0 : Nat} {a1 : Nat} {x2 : Int32} {x3 : Int32} {r : Int32} (hF : fn_H_standsIn f a0 a1 x2 x3 = some r) : Met l my_H_standsIn (Cond.code my_H_standsIn co_H_standsIn 7 (some .boolean) :: pl_tb) rm_H_standsIn (va_Pc [.ref a0, .ref a1, .int x2, .int x3] (pl_pre D dA tt b n f)) (pl_qI D dA tt b n f r) 0 0 (pl_A b) := by
  refine Met.ofW (cc := co_H_standsIn) (maxL := 7) (ret := (some .boolean)) (by decide) rfl ?_
  intro p e s m args below meth c s₁ B hml hv
  obtain ⟨rfl, w, hK⟩ := hv
  have C : pl_C p s m _ meth c co_H_standsIn 7 rn_H (some .boolean) "standsIn" D dA tt b := ⟨B.exec, B.bytes, hml, B.returns, findClass_of_methodNamed B.named, B.notSynchronized, fun w hw => atoms_spec (ws := Cond.code my_H_standsIn co_H_standsIn 7 (some .boolean) :: pl_tb) B.pre w (List.mem_cons_of_mem _ hw), (name_of_methodNamed B.named B.method).1, hK⟩
  have hl := lv_entry ([.ref a0, .ref a1, .int x2, .int x3]) (n := 7) (Nat.le_of_ble_eq_true rfl)
  rw [lg_entry_eq]
  generalize (lg_sl ([.ref a0, .ref a1, .int x2, .int x3]) ++ List.replicate (7 - (lg_sl ([.ref a0, .ref a1, .int x2, .int x3])).length) Slot.unset).toArray = ls at hl ⊢
  have hl : lv_has ls 7 [(0, .ref a0), (1, .ref a1), (2, .int x2), (3, .int x3)] := hl
  exact tl_H_standsIn C hF w va_S.rf hl
