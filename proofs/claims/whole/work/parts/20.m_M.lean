def rm_M_turn : Room := { frames := 0, cells := 0, slots := 0, locals := 0 }
def fn_M_turn_18 (f : pl_H) (sy0 : Int64) : Option (Int64) := some sy0
def fn_M_turn (f : pl_H) (y0 : Int64) (x2 : Int32) : Option (Int64) := if x2 = 0 then fn_M_turn_18 f y0 else fn_M_turn_18 f ((y0 <<< ((x2 : Int32).toInt64 &&& 63)) ||| ((y0.toUInt64 >>> (((64 - x2) : Int32).toInt64.toUInt64 &&& Int64.toUInt64 63)).toInt64))
set_option maxHeartbeats 4000000 in
set_option maxRecDepth 100000 in
theorem tl_M_turn_18 {p : Program} {l : Launch} {e : Env} {s : State} {m : MethodId} {args : Array Value} {below : List Frame} {meth : Method} {c : Code} {D : va_G} {dA : Nat → ClassId} {tt : Nat → Nat} {b n : Nat} (C : pl_C p s m args meth c co_M_turn 3 rn_M (some .long) "turn" D dA tt b) {r : Int64} {f : pl_H} {sy0 : Int64} {H : Heap} {locs : List Loc} {ls : Array Slot} (hF : fn_M_turn_18 f sy0 = some r) (w : pl_wd D vwCl dA b n f H) (hS : va_S (pl_A b) s.heap H locs) (hl : lv_has ls 3 []) : W p l e rm_M_turn s m args below meth c H locs 0 0 (MQ below (pl_qL D dA tt b n f r) args s 0 0 (pl_A b)) (F0 m 18 ls [.long sy0]) := by
  have hx := C.1
  have hb := C.2.1
  have hown := C.2.2.2.2.1
  have hts := C.2.2.2.2.2.2.1
  unfold fn_M_turn_18 at hF
  exact pl_retL C w hS hF dc_M_turn_18
set_option maxHeartbeats 4000000 in
set_option maxRecDepth 100000 in
theorem tl_M_turn {p : Program} {l : Launch} {e : Env} {s : State} {m : MethodId} {args : Array Value} {below : List Frame} {meth : Method} {c : Code} {D : va_G} {dA : Nat → ClassId} {tt : Nat → Nat} {b n : Nat} (C : pl_C p s m args meth c co_M_turn 3 rn_M (some .long) "turn" D dA tt b) {r : Int64} {f : pl_H} {y0 : Int64} {x2 : Int32} {H : Heap} {locs : List Loc} {ls : Array Slot} (hF : fn_M_turn f y0 x2 = some r) (w : pl_wd D vwCl dA b n f H) (hS : va_S (pl_A b) s.heap H locs) (hl : lv_has ls 3 [(0, .long y0), (2, .int x2)]) : W p l e rm_M_turn s m args below meth c H locs 0 0 (MQ below (pl_qL D dA tt b n f r) args s 0 0 (pl_A b)) (F0 m 0 ls []) := by
  have hx := C.1
  have hb := C.2.1
  have hown := C.2.2.2.2.1
  have hts := C.2.2.2.2.2.2.1
  unfold fn_M_turn at hF
  refine lv_iload_n hx hb dc_M_turn_0 rfl (lv_at hl 1 rfl) ?_
  refine lv_if_ne hx hb dc_M_turn_1 (tgt := 8) (by decide) (fun hc => ?_) (fun hc => ?_)
  · have hF := (if_neg hc).symm.trans hF
    refine lv_lload_n hx hb dc_M_turn_8 rfl (lv_at hl 0 rfl) ?_
    refine lv_iload_n hx hb dc_M_turn_9 rfl (lv_at hl 1 rfl) ?_
    refine lv_lshl hx hb dc_M_turn_10 rfl ?_
    refine lv_lload_n hx hb dc_M_turn_11 rfl (lv_at hl 0 rfl) ?_
    refine lv_bipush (v := 64) hx hb dc_M_turn_12 (by decide) ?_
    refine lv_iload_n hx hb dc_M_turn_14 rfl (lv_at hl 1 rfl) ?_
    refine lv_isub hx hb dc_M_turn_15 ?_
    refine lv_lushr hx hb dc_M_turn_16 rfl ?_
    refine lv_lor hx hb dc_M_turn_17 ?_
    exact tl_M_turn_18 C hF w hS (lv_sub hl [] rfl)
  · have hF := (if_pos hc).symm.trans hF
    refine lv_lload_n hx hb dc_M_turn_4 rfl (lv_at hl 0 rfl) ?_
    refine lv_goto hx hb dc_M_turn_5 (tgt := 18) (by decide) ?_
    exact tl_M_turn_18 C hF w hS (lv_sub hl [] rfl)
set_option maxHeartbeats 4000000 in
set_option maxRecDepth 100000 in
theorem tm_M_turn (l : Launch) (D : va_G) (dA : Nat → ClassId) (tt : Nat → Nat) (b n : Nat) {f : pl_H} {y0 : Int64} {x2 : Int32} {r : Int64} (hF : fn_M_turn f y0 x2 = some r) : Met l my_M_turn (Cond.code my_M_turn co_M_turn 3 (some .long) :: pl_tb) rm_M_turn (va_Pc [.long y0, .int x2] (pl_pre D dA tt b n f)) (pl_qL D dA tt b n f r) 0 0 (pl_A b) := by
  refine Met.ofW (cc := co_M_turn) (maxL := 3) (ret := (some .long)) (by decide) rfl ?_
  intro p e s m args below meth c s₁ B hml hv
  obtain ⟨rfl, w, hK⟩ := hv
  have C : pl_C p s m _ meth c co_M_turn 3 rn_M (some .long) "turn" D dA tt b := ⟨B.exec, B.bytes, hml, B.returns, findClass_of_methodNamed B.named, B.notSynchronized, fun w hw => atoms_spec (ws := Cond.code my_M_turn co_M_turn 3 (some .long) :: pl_tb) B.pre w (List.mem_cons_of_mem _ hw), (name_of_methodNamed B.named B.method).1, hK⟩
  have hl := lv_entry ([.long y0, .int x2]) (n := 3) (Nat.le_of_ble_eq_true rfl)
  rw [lg_entry_eq]
  generalize (lg_sl ([.long y0, .int x2]) ++ List.replicate (3 - (lg_sl ([.long y0, .int x2])).length) Slot.unset).toArray = ls at hl ⊢
  have hl : lv_has ls 3 [(0, .long y0), (2, .int x2)] := hl
  exact tl_M_turn C hF w va_S.rf hl
def rm_M_round : Room := { frames := 1, cells := 0, slots := 0, locals := 22 }
def fn_M_round_163 : Nat → pl_H → Nat → Int32 → Int32 → Option (pl_H)
  | 0 => fun _ _ _ _ => none
  | k + 1 => fun f a0 x1 x2 => if 25 ≤ x2 then (pl_gR f a0 8 21).bind fun v1 => (pl_gR f a0 8 21).bind fun v2 => (pl_aL f v2 0).bind fun v3 => (pl_gR f a0 8 25).bind fun v4 => (pl_aL f v4 x1).bind fun v5 => (pl_sL f v1 0 (v3 ^^^ v5)).bind fun f6 => some f6 else (pl_gR f a0 8 21).bind fun v7 => (pl_gR f a0 8 22).bind fun v8 => (pl_aL f v8 x2).bind fun v9 => (pl_gR f a0 8 22).bind fun v10 => (pl_aL f v10 (((x2 / 5) * 5) + ((x2 + 1) - (x2 + 1) / 5 * 5))).bind fun v11 => (pl_gR f a0 8 22).bind fun v12 => (pl_aL f v12 (((x2 / 5) * 5) + ((x2 + 2) - (x2 + 2) / 5 * 5))).bind fun v13 => (pl_sL f v7 x2 (v9 ^^^ ((v11 ^^^ ((-1))) &&& v13))).bind fun f14 => fn_M_round_163 k f14 a0 x1 (x2 + 1)
def fn_M_round_73 (rc66 : pl_H → Nat → Int32 → Int32 → Option (pl_H)) : Nat → pl_H → Nat → Int32 → Int32 → Int32 → Option (pl_H)
  | 0 => fun _ _ _ _ _ => none
  | k + 1 => fun f a0 x1 x2 x3 => if 5 ≤ x3 then rc66 f a0 x1 (x2 + 1) else (pl_gR f a0 8 21).bind fun v1 => (pl_aL f v1 (x2 + (5 * x3))).bind fun v2 => (pl_gR f a0 8 23).bind fun v3 => (pl_aL f v3 ((x2 + 4) - (x2 + 4) / 5 * 5)).bind fun v4 => (pl_gR f a0 8 23).bind fun v5 => (pl_aL f v5 ((x2 + 1) - (x2 + 1) / 5 * 5)).bind fun v6 => (fn_M_turn f v6 1).bind fun v7 => (pl_gR f a0 8 22).bind fun v8 => (pl_gR f a0 8 24).bind fun v9 => (pl_aI f v9 (x2 + (5 * x3))).bind fun v10 => (fn_M_turn f ((v2 ^^^ v4) ^^^ v7) v10).bind fun v11 => (pl_sL f v8 (x3 + (5 * (((2 * x2) + (3 * x3)) - ((2 * x2) + (3 * x3)) / 5 * 5))) v11).bind fun f12 => fn_M_round_73 rc66 k f12 a0 x1 x2 (x3 + 1)
def fn_M_round_66 : Nat → pl_H → Nat → Int32 → Int32 → Option (pl_H)
  | 0 => fun _ _ _ _ => none
  | k + 1 => fun f a0 x1 x2 => if 5 ≤ x2 then fn_M_round_163 pl_N f a0 x1 0 else fn_M_round_73 (fn_M_round_66 k) pl_N f a0 x1 x2 0
def fn_M_round_2 : Nat → pl_H → Nat → Int32 → Int32 → Option (pl_H)
  | 0 => fun _ _ _ _ => none
  | k + 1 => fun f a0 x1 x2 => if 5 ≤ x2 then fn_M_round_66 pl_N f a0 x1 0 else (pl_gR f a0 8 23).bind fun v1 => (pl_gR f a0 8 21).bind fun v2 => (pl_aL f v2 x2).bind fun v3 => (pl_gR f a0 8 21).bind fun v4 => (pl_aL f v4 (x2 + 5)).bind fun v5 => (pl_gR f a0 8 21).bind fun v6 => (pl_aL f v6 (x2 + 10)).bind fun v7 => (pl_gR f a0 8 21).bind fun v8 => (pl_aL f v8 (x2 + 15)).bind fun v9 => (pl_gR f a0 8 21).bind fun v10 => (pl_aL f v10 (x2 + 20)).bind fun v11 => (pl_sL f v1 x2 ((((v3 ^^^ v5) ^^^ v7) ^^^ v9) ^^^ v11)).bind fun f12 => fn_M_round_2 k f12 a0 x1 (x2 + 1)
def fn_M_round (f : pl_H) (a0 : Nat) (x1 : Int32) : Option (pl_H) := fn_M_round_2 pl_N f a0 x1 0
set_option maxHeartbeats 4000000 in
set_option maxRecDepth 100000 in
theorem tl_M_round_163 {p : Program} {l : Launch} {e : Env} {s : State} {m : MethodId} {args : Array Value} {below : List Frame} {meth : Method} {c : Code} {D : va_G} {dA : Nat → ClassId} {tt : Nat → Nat} {b n : Nat} (C : pl_C p s m args meth c co_M_round 6 rn_M none "round" D dA tt b) {f' : pl_H} : ∀ k : Nat, ∀ (f : pl_H) (a0 : Nat) (x1 : Int32) (x2 : Int32) (H : Heap) (locs : List Loc) (ls : Array Slot), fn_M_round_163 k f a0 x1 x2 = some f' → pl_wd D vwCl dA b n f H → va_S (pl_A b) s.heap H locs → lv_has ls 6 [(0, .ref a0), (1, .int x1), (2, .int x2)] → W p l e rm_M_round s m args below meth c H locs 0 0 (MQ below (pl_qV D dA tt b n f') args s 0 0 (pl_A b)) (F0 m 163 ls []) := by
  have hx := C.1
  have hb := C.2.1
  have hown := C.2.2.2.2.1
  have hts := C.2.2.2.2.2.2.1
  intro k
  induction k with
  | zero =>
    intro f a0 x1 x2 H locs ls hF
    cases hF
  | succ k ih =>
    intro f a0 x1 x2 H locs ls hF w hS hl
    unfold fn_M_round_163 at hF
    refine lv_iload_n hx hb dc_M_round_163 rfl (lv_at hl 2 rfl) ?_
    refine lv_bipush (v := 25) hx hb dc_M_round_164 (by decide) ?_
    refine lv_icmp_ge hx hb dc_M_round_166 (tgt := 223) (by decide) (fun hc => ?_) (fun hc => ?_)
    · have hF := (if_pos hc).symm.trans hF
      refine lv_aload_n hx hb dc_M_round_223 rfl (lv_at hl 0 rfl) ?_
      obtain ⟨v1, ev1, hF⟩ := pl_bd hF
      refine pl_getR C w (ci := 8) in_M rfl (by decide) 21 (by decide) mw_718 ev1 dc_M_round_224 ?_
      refine lv_iconst (v := 0) hx hb dc_M_round_227 (by decide) ?_
      refine lv_aload_n hx hb dc_M_round_228 rfl (lv_at hl 0 rfl) ?_
      obtain ⟨v2, ev2, hF⟩ := pl_bd hF
      refine pl_getR C w (ci := 8) in_M rfl (by decide) 21 (by decide) mw_718 ev2 dc_M_round_229 ?_
      refine lv_iconst (v := 0) hx hb dc_M_round_232 (by decide) ?_
      obtain ⟨v3, ev3, hF⟩ := pl_bd hF
      refine pl_aldL C w ev3 dc_M_round_233 ?_
      refine lv_aload_n hx hb dc_M_round_234 rfl (lv_at hl 0 rfl) ?_
      obtain ⟨v4, ev4, hF⟩ := pl_bd hF
      refine pl_getR C w (ci := 8) in_M rfl (by decide) 25 (by decide) mw_722 ev4 dc_M_round_235 ?_
      refine lv_iload_n hx hb dc_M_round_238 rfl (lv_at hl 1 rfl) ?_
      obtain ⟨v5, ev5, hF⟩ := pl_bd hF
      refine pl_aldL C w ev5 dc_M_round_239 ?_
      refine lv_lxor hx hb dc_M_round_240 ?_
      obtain ⟨f6, ef6, hF⟩ := pl_bd hF
      refine pl_astL C w hS ef6 dc_M_round_241 (fun H locs w hS => ?_)
      exact pl_retVw C w hS hF dc_M_round_242
    · have hF := (if_neg hc).symm.trans hF
      refine lv_iload_n hx hb dc_M_round_169 rfl (lv_at hl 2 rfl) ?_
      refine lv_iconst (v := 5) hx hb dc_M_round_170 (by decide) ?_
      refine lv_idiv hx hb dc_M_round_171 (by decide) ?_
      refine lv_iconst (v := 5) hx hb dc_M_round_172 (by decide) ?_
      refine lv_imul hx hb dc_M_round_173 ?_
      refine lv_istore_n (lv' := [(3, .int ((x2 / 5) * 5)), (0, .ref a0), (1, .int x1), (2, .int x2)]) hx hb dc_M_round_174 rfl hl (by decide) rfl (fun ls hl => ?_)
      refine lv_aload_n hx hb dc_M_round_175 rfl (lv_at hl 1 rfl) ?_
      obtain ⟨v7, ev7, hF⟩ := pl_bd hF
      refine pl_getR C w (ci := 8) in_M rfl (by decide) 21 (by decide) mw_718 ev7 dc_M_round_176 ?_
      refine lv_iload_n hx hb dc_M_round_179 rfl (lv_at hl 3 rfl) ?_
      refine lv_aload_n hx hb dc_M_round_180 rfl (lv_at hl 1 rfl) ?_
      obtain ⟨v8, ev8, hF⟩ := pl_bd hF
      refine pl_getR C w (ci := 8) in_M rfl (by decide) 22 (by decide) mw_719 ev8 dc_M_round_181 ?_
      refine lv_iload_n hx hb dc_M_round_184 rfl (lv_at hl 3 rfl) ?_
      obtain ⟨v9, ev9, hF⟩ := pl_bd hF
      refine pl_aldL C w ev9 dc_M_round_185 ?_
      refine lv_aload_n hx hb dc_M_round_186 rfl (lv_at hl 1 rfl) ?_
      obtain ⟨v10, ev10, hF⟩ := pl_bd hF
      refine pl_getR C w (ci := 8) in_M rfl (by decide) 22 (by decide) mw_719 ev10 dc_M_round_187 ?_
      refine lv_iload_n hx hb dc_M_round_190 rfl (lv_at hl 0 rfl) ?_
      refine lv_iload_n hx hb dc_M_round_191 rfl (lv_at hl 3 rfl) ?_
      refine lv_iconst (v := 1) hx hb dc_M_round_192 (by decide) ?_
      refine lv_iadd hx hb dc_M_round_193 ?_
      refine lv_iconst (v := 5) hx hb dc_M_round_194 (by decide) ?_
      refine lv_irem hx hb dc_M_round_195 (by decide) ?_
      refine lv_iadd hx hb dc_M_round_196 ?_
      obtain ⟨v11, ev11, hF⟩ := pl_bd hF
      refine pl_aldL C w ev11 dc_M_round_197 ?_
      refine lv_ldc2 (v := (-1)) hx hb hown (hts _ mw_922) dc_M_round_198 ?_
      refine lv_lxor hx hb dc_M_round_201 ?_
      refine lv_aload_n hx hb dc_M_round_202 rfl (lv_at hl 1 rfl) ?_
      obtain ⟨v12, ev12, hF⟩ := pl_bd hF
      refine pl_getR C w (ci := 8) in_M rfl (by decide) 22 (by decide) mw_719 ev12 dc_M_round_203 ?_
      refine lv_iload_n hx hb dc_M_round_206 rfl (lv_at hl 0 rfl) ?_
      refine lv_iload_n hx hb dc_M_round_207 rfl (lv_at hl 3 rfl) ?_
      refine lv_iconst (v := 2) hx hb dc_M_round_208 (by decide) ?_
      refine lv_iadd hx hb dc_M_round_209 ?_
      refine lv_iconst (v := 5) hx hb dc_M_round_210 (by decide) ?_
      refine lv_irem hx hb dc_M_round_211 (by decide) ?_
      refine lv_iadd hx hb dc_M_round_212 ?_
      obtain ⟨v13, ev13, hF⟩ := pl_bd hF
      refine pl_aldL C w ev13 dc_M_round_213 ?_
      refine lv_land hx hb dc_M_round_214 ?_
      refine lv_lxor hx hb dc_M_round_215 ?_
      obtain ⟨f14, ef14, hF⟩ := pl_bd hF
      refine pl_astL C w hS ef14 dc_M_round_216 (fun H locs w hS => ?_)
      refine lv_iinc (k := 3) (v := x2 + 1) (lv' := [(2, .int (x2 + 1)), (3, .int ((x2 / 5) * 5)), (0, .ref a0), (1, .int x1)]) hx hb dc_M_round_217 hl rfl rfl (by decide) rfl (fun ls hl => ?_)
      refine lv_goto hx hb dc_M_round_220 (tgt := 163) (by decide) ?_
      exact ih f14 a0 x1 (x2 + 1) _ _ _ hF w hS (lv_sub hl [2, 3, 0] rfl)
set_option maxHeartbeats 4000000 in
set_option maxRecDepth 100000 in
theorem tl_M_round_73 {p : Program} {l : Launch} {e : Env} {s : State} {m : MethodId} {args : Array Value} {below : List Frame} {meth : Method} {c : Code} {D : va_G} {dA : Nat → ClassId} {tt : Nat → Nat} {b n : Nat} (C : pl_C p s m args meth c co_M_round 6 rn_M none "round" D dA tt b) {f' : pl_H} {rc66 : pl_H → Nat → Int32 → Int32 → Option (pl_H)} (hr66 : ∀ (f : pl_H) (a0 : Nat) (x1 : Int32) (x2 : Int32) (H : Heap) (locs : List Loc) (ls : Array Slot), rc66 f a0 x1 x2 = some f' → pl_wd D vwCl dA b n f H → va_S (pl_A b) s.heap H locs → lv_has ls 6 [(0, .ref a0), (1, .int x1), (2, .int x2)] → W p l e rm_M_round s m args below meth c H locs 0 0 (MQ below (pl_qV D dA tt b n f') args s 0 0 (pl_A b)) (F0 m 66 ls [])) : ∀ k : Nat, ∀ (f : pl_H) (a0 : Nat) (x1 : Int32) (x2 : Int32) (x3 : Int32) (H : Heap) (locs : List Loc) (ls : Array Slot), fn_M_round_73 rc66 k f a0 x1 x2 x3 = some f' → pl_wd D vwCl dA b n f H → va_S (pl_A b) s.heap H locs → lv_has ls 6 [(0, .ref a0), (1, .int x1), (2, .int x2), (3, .int x3)] → W p l e rm_M_round s m args below meth c H locs 0 0 (MQ below (pl_qV D dA tt b n f') args s 0 0 (pl_A b)) (F0 m 73 ls []) := by
  have hx := C.1
  have hb := C.2.1
  have hown := C.2.2.2.2.1
  have hts := C.2.2.2.2.2.2.1
  intro k
  induction k with
  | zero =>
    intro f a0 x1 x2 x3 H locs ls hF
    cases hF
  | succ k ih =>
    intro f a0 x1 x2 x3 H locs ls hF w hS hl
    unfold fn_M_round_73 at hF
    refine lv_iload_n hx hb dc_M_round_73 rfl (lv_at hl 3 rfl) ?_
    refine lv_iconst (v := 5) hx hb dc_M_round_74 (by decide) ?_
    refine lv_icmp_ge hx hb dc_M_round_75 (tgt := 155) (by decide) (fun hc => ?_) (fun hc => ?_)
    · have hF := (if_pos hc).symm.trans hF
      refine lv_iinc (k := 2) (v := x2 + 1) (lv' := [(2, .int (x2 + 1)), (0, .ref a0), (1, .int x1), (3, .int x3)]) hx hb dc_M_round_155 hl rfl rfl (by decide) rfl (fun ls hl => ?_)
      refine lv_goto hx hb dc_M_round_158 (tgt := 66) (by decide) ?_
      exact hr66 f a0 x1 (x2 + 1) _ _ _ hF w hS (lv_sub hl [1, 2, 0] rfl)
    · have hF := (if_neg hc).symm.trans hF
      refine lv_aload_n hx hb dc_M_round_78 rfl (lv_at hl 0 rfl) ?_
      obtain ⟨v1, ev1, hF⟩ := pl_bd hF
      refine pl_getR C w (ci := 8) in_M rfl (by decide) 21 (by decide) mw_718 ev1 dc_M_round_79 ?_
      refine lv_iload_n hx hb dc_M_round_82 rfl (lv_at hl 2 rfl) ?_
      refine lv_iconst (v := 5) hx hb dc_M_round_83 (by decide) ?_
      refine lv_iload_n hx hb dc_M_round_84 rfl (lv_at hl 3 rfl) ?_
      refine lv_imul hx hb dc_M_round_85 ?_
      refine lv_iadd hx hb dc_M_round_86 ?_
      obtain ⟨v2, ev2, hF⟩ := pl_bd hF
      refine pl_aldL C w ev2 dc_M_round_87 ?_
      refine lv_aload_n hx hb dc_M_round_88 rfl (lv_at hl 0 rfl) ?_
      obtain ⟨v3, ev3, hF⟩ := pl_bd hF
      refine pl_getR C w (ci := 8) in_M rfl (by decide) 23 (by decide) mw_720 ev3 dc_M_round_89 ?_
      refine lv_iload_n hx hb dc_M_round_92 rfl (lv_at hl 2 rfl) ?_
      refine lv_iconst (v := 4) hx hb dc_M_round_93 (by decide) ?_
      refine lv_iadd hx hb dc_M_round_94 ?_
      refine lv_iconst (v := 5) hx hb dc_M_round_95 (by decide) ?_
      refine lv_irem hx hb dc_M_round_96 (by decide) ?_
      obtain ⟨v4, ev4, hF⟩ := pl_bd hF
      refine pl_aldL C w ev4 dc_M_round_97 ?_
      refine lv_lxor hx hb dc_M_round_98 ?_
      refine lv_aload_n hx hb dc_M_round_99 rfl (lv_at hl 0 rfl) ?_
      obtain ⟨v5, ev5, hF⟩ := pl_bd hF
      refine pl_getR C w (ci := 8) in_M rfl (by decide) 23 (by decide) mw_720 ev5 dc_M_round_100 ?_
      refine lv_iload_n hx hb dc_M_round_103 rfl (lv_at hl 2 rfl) ?_
      refine lv_iconst (v := 1) hx hb dc_M_round_104 (by decide) ?_
      refine lv_iadd hx hb dc_M_round_105 ?_
      refine lv_iconst (v := 5) hx hb dc_M_round_106 (by decide) ?_
      refine lv_irem hx hb dc_M_round_107 (by decide) ?_
      obtain ⟨v6, ev6, hF⟩ := pl_bd hF
      refine pl_aldL C w ev6 dc_M_round_108 ?_
      refine lv_iconst (v := 1) hx hb dc_M_round_109 (by decide) ?_
      obtain ⟨v7, ev7, hF⟩ := pl_bd hF
      refine pl_gl (pl_runS (k := 2) C (tm_M_turn l D dA tt b n ev7) w hS rfl rfl mw_919 mw_920 mw_72 mw_921 (by decide +kernel) ⟨by decide, by decide⟩ rfl hl.1 (Nat.le_of_ble_eq_true rfl) ⟨Nat.zero_le _, Nat.zero_le _⟩ rfl dc_M_round_110) hS (fun H locs w hS => ?_)
      refine lv_lxor hx hb dc_M_round_113 ?_
      refine lv_lstore (lv' := [(4, .long ((v2 ^^^ v4) ^^^ v7)), (0, .ref a0), (1, .int x1), (2, .int x2), (3, .int x3)]) hx hb dc_M_round_114 hl (by decide) rfl (fun ls hl => ?_)
      refine lv_aload_n hx hb dc_M_round_116 rfl (lv_at hl 1 rfl) ?_
      obtain ⟨v8, ev8, hF⟩ := pl_bd hF
      refine pl_getR C w (ci := 8) in_M rfl (by decide) 22 (by decide) mw_719 ev8 dc_M_round_117 ?_
      refine lv_iload_n hx hb dc_M_round_120 rfl (lv_at hl 4 rfl) ?_
      refine lv_iconst (v := 5) hx hb dc_M_round_121 (by decide) ?_
      refine lv_iconst (v := 2) hx hb dc_M_round_122 (by decide) ?_
      refine lv_iload_n hx hb dc_M_round_123 rfl (lv_at hl 3 rfl) ?_
      refine lv_imul hx hb dc_M_round_124 ?_
      refine lv_iconst (v := 3) hx hb dc_M_round_125 (by decide) ?_
      refine lv_iload_n hx hb dc_M_round_126 rfl (lv_at hl 4 rfl) ?_
      refine lv_imul hx hb dc_M_round_127 ?_
      refine lv_iadd hx hb dc_M_round_128 ?_
      refine lv_iconst (v := 5) hx hb dc_M_round_129 (by decide) ?_
      refine lv_irem hx hb dc_M_round_130 (by decide) ?_
      refine lv_imul hx hb dc_M_round_131 ?_
      refine lv_iadd hx hb dc_M_round_132 ?_
      refine lv_lload hx hb dc_M_round_133 (lv_at hl 0 rfl) ?_
      refine lv_aload_n hx hb dc_M_round_135 rfl (lv_at hl 1 rfl) ?_
      obtain ⟨v9, ev9, hF⟩ := pl_bd hF
      refine pl_getR C w (ci := 8) in_M rfl (by decide) 24 (by decide) mw_721 ev9 dc_M_round_136 ?_
      refine lv_iload_n hx hb dc_M_round_139 rfl (lv_at hl 3 rfl) ?_
      refine lv_iconst (v := 5) hx hb dc_M_round_140 (by decide) ?_
      refine lv_iload_n hx hb dc_M_round_141 rfl (lv_at hl 4 rfl) ?_
      refine lv_imul hx hb dc_M_round_142 ?_
      refine lv_iadd hx hb dc_M_round_143 ?_
      obtain ⟨v10, ev10, hF⟩ := pl_bd hF
      refine pl_aldI C w ev10 dc_M_round_144 ?_
      obtain ⟨v11, ev11, hF⟩ := pl_bd hF
      refine pl_gl (pl_runS (k := 2) C (tm_M_turn l D dA tt b n ev11) w hS rfl rfl mw_919 mw_920 mw_72 mw_921 (by decide +kernel) ⟨by decide, by decide⟩ rfl hl.1 (Nat.le_of_ble_eq_true rfl) ⟨Nat.zero_le _, Nat.zero_le _⟩ rfl dc_M_round_145) hS (fun H locs w hS => ?_)
      obtain ⟨f12, ef12, hF⟩ := pl_bd hF
      refine pl_astL C w hS ef12 dc_M_round_148 (fun H locs w hS => ?_)
      refine lv_iinc (k := 4) (v := x3 + 1) (lv' := [(3, .int (x3 + 1)), (4, .long ((v2 ^^^ v4) ^^^ v7)), (0, .ref a0), (1, .int x1), (2, .int x2)]) hx hb dc_M_round_149 hl rfl rfl (by decide) rfl (fun ls hl => ?_)
      refine lv_goto hx hb dc_M_round_152 (tgt := 73) (by decide) ?_
      exact ih f12 a0 x1 x2 (x3 + 1) _ _ _ hF w hS (lv_sub hl [2, 3, 4, 0] rfl)
set_option maxHeartbeats 4000000 in
set_option maxRecDepth 100000 in
theorem tl_M_round_66 {p : Program} {l : Launch} {e : Env} {s : State} {m : MethodId} {args : Array Value} {below : List Frame} {meth : Method} {c : Code} {D : va_G} {dA : Nat → ClassId} {tt : Nat → Nat} {b n : Nat} (C : pl_C p s m args meth c co_M_round 6 rn_M none "round" D dA tt b) {f' : pl_H} : ∀ k : Nat, ∀ (f : pl_H) (a0 : Nat) (x1 : Int32) (x2 : Int32) (H : Heap) (locs : List Loc) (ls : Array Slot), fn_M_round_66 k f a0 x1 x2 = some f' → pl_wd D vwCl dA b n f H → va_S (pl_A b) s.heap H locs → lv_has ls 6 [(0, .ref a0), (1, .int x1), (2, .int x2)] → W p l e rm_M_round s m args below meth c H locs 0 0 (MQ below (pl_qV D dA tt b n f') args s 0 0 (pl_A b)) (F0 m 66 ls []) := by
  have hx := C.1
  have hb := C.2.1
  have hown := C.2.2.2.2.1
  have hts := C.2.2.2.2.2.2.1
  intro k
  induction k with
  | zero =>
    intro f a0 x1 x2 H locs ls hF
    cases hF
  | succ k ih =>
    intro f a0 x1 x2 H locs ls hF w hS hl
    unfold fn_M_round_66 at hF
    refine lv_iload_n hx hb dc_M_round_66 rfl (lv_at hl 2 rfl) ?_
    refine lv_iconst (v := 5) hx hb dc_M_round_67 (by decide) ?_
    refine lv_icmp_ge hx hb dc_M_round_68 (tgt := 161) (by decide) (fun hc => ?_) (fun hc => ?_)
    · have hF := (if_pos hc).symm.trans hF
      refine lv_iconst (v := 0) hx hb dc_M_round_161 (by decide) ?_
      refine lv_istore_n (lv' := [(2, .int 0), (0, .ref a0), (1, .int x1)]) hx hb dc_M_round_162 rfl hl (by decide) rfl (fun ls hl => ?_)
      exact tl_M_round_163 C pl_N f a0 x1 0 _ _ _ hF w hS (lv_sub hl [1, 2, 0] rfl)
    · have hF := (if_neg hc).symm.trans hF
      refine lv_iconst (v := 0) hx hb dc_M_round_71 (by decide) ?_
      refine lv_istore_n (lv' := [(3, .int 0), (0, .ref a0), (1, .int x1), (2, .int x2)]) hx hb dc_M_round_72 rfl hl (by decide) rfl (fun ls hl => ?_)
      exact tl_M_round_73 C ih pl_N f a0 x1 x2 0 _ _ _ hF w hS (lv_sub hl [1, 2, 3, 0] rfl)
set_option maxHeartbeats 4000000 in
set_option maxRecDepth 100000 in
theorem tl_M_round_2 {p : Program} {l : Launch} {e : Env} {s : State} {m : MethodId} {args : Array Value} {below : List Frame} {meth : Method} {c : Code} {D : va_G} {dA : Nat → ClassId} {tt : Nat → Nat} {b n : Nat} (C : pl_C p s m args meth c co_M_round 6 rn_M none "round" D dA tt b) {f' : pl_H} : ∀ k : Nat, ∀ (f : pl_H) (a0 : Nat) (x1 : Int32) (x2 : Int32) (H : Heap) (locs : List Loc) (ls : Array Slot), fn_M_round_2 k f a0 x1 x2 = some f' → pl_wd D vwCl dA b n f H → va_S (pl_A b) s.heap H locs → lv_has ls 6 [(0, .ref a0), (1, .int x1), (2, .int x2)] → W p l e rm_M_round s m args below meth c H locs 0 0 (MQ below (pl_qV D dA tt b n f') args s 0 0 (pl_A b)) (F0 m 2 ls []) := by
  have hx := C.1
  have hb := C.2.1
  have hown := C.2.2.2.2.1
  have hts := C.2.2.2.2.2.2.1
  intro k
  induction k with
  | zero =>
    intro f a0 x1 x2 H locs ls hF
    cases hF
  | succ k ih =>
    intro f a0 x1 x2 H locs ls hF w hS hl
    unfold fn_M_round_2 at hF
    refine lv_iload_n hx hb dc_M_round_2 rfl (lv_at hl 2 rfl) ?_
    refine lv_iconst (v := 5) hx hb dc_M_round_3 (by decide) ?_
    refine lv_icmp_ge hx hb dc_M_round_4 (tgt := 64) (by decide) (fun hc => ?_) (fun hc => ?_)
    · have hF := (if_pos hc).symm.trans hF
      refine lv_iconst (v := 0) hx hb dc_M_round_64 (by decide) ?_
      refine lv_istore_n (lv' := [(2, .int 0), (0, .ref a0), (1, .int x1)]) hx hb dc_M_round_65 rfl hl (by decide) rfl (fun ls hl => ?_)
      exact tl_M_round_66 C pl_N f a0 x1 0 _ _ _ hF w hS (lv_sub hl [1, 2, 0] rfl)
    · have hF := (if_neg hc).symm.trans hF
      refine lv_aload_n hx hb dc_M_round_7 rfl (lv_at hl 0 rfl) ?_
      obtain ⟨v1, ev1, hF⟩ := pl_bd hF
      refine pl_getR C w (ci := 8) in_M rfl (by decide) 23 (by decide) mw_720 ev1 dc_M_round_8 ?_
      refine lv_iload_n hx hb dc_M_round_11 rfl (lv_at hl 2 rfl) ?_
      refine lv_aload_n hx hb dc_M_round_12 rfl (lv_at hl 0 rfl) ?_
      obtain ⟨v2, ev2, hF⟩ := pl_bd hF
      refine pl_getR C w (ci := 8) in_M rfl (by decide) 21 (by decide) mw_718 ev2 dc_M_round_13 ?_
      refine lv_iload_n hx hb dc_M_round_16 rfl (lv_at hl 2 rfl) ?_
      obtain ⟨v3, ev3, hF⟩ := pl_bd hF
      refine pl_aldL C w ev3 dc_M_round_17 ?_
      refine lv_aload_n hx hb dc_M_round_18 rfl (lv_at hl 0 rfl) ?_
      obtain ⟨v4, ev4, hF⟩ := pl_bd hF
      refine pl_getR C w (ci := 8) in_M rfl (by decide) 21 (by decide) mw_718 ev4 dc_M_round_19 ?_
      refine lv_iload_n hx hb dc_M_round_22 rfl (lv_at hl 2 rfl) ?_
      refine lv_iconst (v := 5) hx hb dc_M_round_23 (by decide) ?_
      refine lv_iadd hx hb dc_M_round_24 ?_
      obtain ⟨v5, ev5, hF⟩ := pl_bd hF
      refine pl_aldL C w ev5 dc_M_round_25 ?_
      refine lv_lxor hx hb dc_M_round_26 ?_
      refine lv_aload_n hx hb dc_M_round_27 rfl (lv_at hl 0 rfl) ?_
      obtain ⟨v6, ev6, hF⟩ := pl_bd hF
      refine pl_getR C w (ci := 8) in_M rfl (by decide) 21 (by decide) mw_718 ev6 dc_M_round_28 ?_
      refine lv_iload_n hx hb dc_M_round_31 rfl (lv_at hl 2 rfl) ?_
      refine lv_bipush (v := 10) hx hb dc_M_round_32 (by decide) ?_
      refine lv_iadd hx hb dc_M_round_34 ?_
      obtain ⟨v7, ev7, hF⟩ := pl_bd hF
      refine pl_aldL C w ev7 dc_M_round_35 ?_
      refine lv_lxor hx hb dc_M_round_36 ?_
      refine lv_aload_n hx hb dc_M_round_37 rfl (lv_at hl 0 rfl) ?_
      obtain ⟨v8, ev8, hF⟩ := pl_bd hF
      refine pl_getR C w (ci := 8) in_M rfl (by decide) 21 (by decide) mw_718 ev8 dc_M_round_38 ?_
      refine lv_iload_n hx hb dc_M_round_41 rfl (lv_at hl 2 rfl) ?_
      refine lv_bipush (v := 15) hx hb dc_M_round_42 (by decide) ?_
      refine lv_iadd hx hb dc_M_round_44 ?_
      obtain ⟨v9, ev9, hF⟩ := pl_bd hF
      refine pl_aldL C w ev9 dc_M_round_45 ?_
      refine lv_lxor hx hb dc_M_round_46 ?_
      refine lv_aload_n hx hb dc_M_round_47 rfl (lv_at hl 0 rfl) ?_
      obtain ⟨v10, ev10, hF⟩ := pl_bd hF
      refine pl_getR C w (ci := 8) in_M rfl (by decide) 21 (by decide) mw_718 ev10 dc_M_round_48 ?_
      refine lv_iload_n hx hb dc_M_round_51 rfl (lv_at hl 2 rfl) ?_
      refine lv_bipush (v := 20) hx hb dc_M_round_52 (by decide) ?_
      refine lv_iadd hx hb dc_M_round_54 ?_
      obtain ⟨v11, ev11, hF⟩ := pl_bd hF
      refine pl_aldL C w ev11 dc_M_round_55 ?_
      refine lv_lxor hx hb dc_M_round_56 ?_
      obtain ⟨f12, ef12, hF⟩ := pl_bd hF
      refine pl_astL C w hS ef12 dc_M_round_57 (fun H locs w hS => ?_)
      refine lv_iinc (k := 2) (v := x2 + 1) (lv' := [(2, .int (x2 + 1)), (0, .ref a0), (1, .int x1)]) hx hb dc_M_round_58 hl rfl rfl (by decide) rfl (fun ls hl => ?_)
      refine lv_goto hx hb dc_M_round_61 (tgt := 2) (by decide) ?_
      exact ih f12 a0 x1 (x2 + 1) _ _ _ hF w hS (lv_sub hl [1, 2, 0] rfl)
set_option maxHeartbeats 4000000 in
set_option maxRecDepth 100000 in
theorem tl_M_round {p : Program} {l : Launch} {e : Env} {s : State} {m : MethodId} {args : Array Value} {below : List Frame} {meth : Method} {c : Code} {D : va_G} {dA : Nat → ClassId} {tt : Nat → Nat} {b n : Nat} (C : pl_C p s m args meth c co_M_round 6 rn_M none "round" D dA tt b) {f' : pl_H} {f : pl_H} {a0 : Nat} {x1 : Int32} {H : Heap} {locs : List Loc} {ls : Array Slot} (hF : fn_M_round f a0 x1 = some f') (w : pl_wd D vwCl dA b n f H) (hS : va_S (pl_A b) s.heap H locs) (hl : lv_has ls 6 [(0, .ref a0), (1, .int x1)]) : W p l e rm_M_round s m args below meth c H locs 0 0 (MQ below (pl_qV D dA tt b n f') args s 0 0 (pl_A b)) (F0 m 0 ls []) := by
  have hx := C.1
  have hb := C.2.1
  have hown := C.2.2.2.2.1
  have hts := C.2.2.2.2.2.2.1
  unfold fn_M_round at hF
  refine lv_iconst (v := 0) hx hb dc_M_round_0 (by decide) ?_
  refine lv_istore_n (lv' := [(2, .int 0), (0, .ref a0), (1, .int x1)]) hx hb dc_M_round_1 rfl hl (by decide) rfl (fun ls hl => ?_)
  exact tl_M_round_2 C pl_N f a0 x1 0 _ _ _ hF w hS (lv_sub hl [1, 2, 0] rfl)
set_option maxHeartbeats 4000000 in
set_option maxRecDepth 100000 in
theorem tm_M_round (l : Launch) (D : va_G) (dA : Nat → ClassId) (tt : Nat → Nat) (b n : Nat) {f : pl_H} {a0 : Nat} {x1 : Int32} {f' : pl_H} (hF : fn_M_round f a0 x1 = some f') : Met l my_M_round (Cond.code my_M_round co_M_round 6 none :: pl_tb) rm_M_round (va_Pc [.ref a0, .int x1] (pl_pre D dA tt b n f)) (pl_qV D dA tt b n f') 0 0 (pl_A b) := by
  refine Met.ofW (cc := co_M_round) (maxL := 6) (ret := none) (by decide) rfl ?_
  intro p e s m args below meth c s₁ B hml hv
  obtain ⟨rfl, w, hK⟩ := hv
  have C : pl_C p s m _ meth c co_M_round 6 rn_M none "round" D dA tt b := ⟨B.exec, B.bytes, hml, B.returns, findClass_of_methodNamed B.named, B.notSynchronized, fun w hw => atoms_spec (ws := Cond.code my_M_round co_M_round 6 none :: pl_tb) B.pre w (List.mem_cons_of_mem _ hw), (name_of_methodNamed B.named B.method).1, hK⟩
  have hl := lv_entry ([.ref a0, .int x1]) (n := 6) (Nat.le_of_ble_eq_true rfl)
  rw [lg_entry_eq]
  generalize (lg_sl ([.ref a0, .int x1]) ++ List.replicate (6 - (lg_sl ([.ref a0, .int x1])).length) Slot.unset).toArray = ls at hl ⊢
  have hl : lv_has ls 6 [(0, .ref a0), (1, .int x1)] := hl
  exact tl_M_round C hF w va_S.rf hl
def rm_M_hashCodeNow : Room := { frames := 2, cells := 0, slots := 0, locals := 47 }
def fn_M_hashCodeNow_202 : Nat → pl_H → Nat → Int32 → Option (pl_H)
  | 0 => fun _ _ _ => none
  | k + 1 => fun f a0 x2 => if 32 ≤ x2 then some f else (pl_gR f a0 8 27).bind fun v1 => (pl_gR f a0 8 21).bind fun v2 => (pl_aL f v2 (x2 / 8)).bind fun v3 => (pl_sI f v1 x2 ((((v3 >>> (((8 * (x2 - x2 / 8 * 8)) : Int32).toInt64 &&& 63)) &&& 255) : Int64).toInt32)).bind fun f4 => fn_M_hashCodeNow_202 k f4 a0 (x2 + 1)
def fn_M_hashCodeNow_177 (rc115 : pl_H → Nat → Int32 → Int32 → Option (pl_H)) : Nat → pl_H → Nat → Int32 → Int32 → Int32 → Option (pl_H)
  | 0 => fun _ _ _ _ _ => none
  | k + 1 => fun f a0 x1 x2 x3 => if 24 ≤ x3 then rc115 f a0 x1 (x2 + 1) else (pl_is f a0 8).bind fun u2 => (fn_M_round f a0 x3).bind fun q1 => fn_M_hashCodeNow_177 rc115 k q1 a0 x1 x2 (x3 + 1)
def fn_M_hashCodeNow_122 (rc115 : pl_H → Nat → Int32 → Int32 → Option (pl_H)) : Nat → pl_H → Nat → Int32 → Int32 → Int32 → Option (pl_H)
  | 0 => fun _ _ _ _ _ => none
  | k + 1 => fun f a0 x1 x2 x3 => if 136 ≤ x3 then fn_M_hashCodeNow_177 rc115 pl_N f a0 x1 x2 0 else (pl_gR f a0 8 21).bind fun v1 => (pl_gR f a0 8 21).bind fun v2 => (pl_aL f v2 (x3 / 8)).bind fun v3 => (pl_gR f a0 8 26).bind fun v4 => (pl_aI f v4 ((136 * x2) + x3)).bind fun v5 => (pl_sL f v1 (x3 / 8) (v3 ^^^ (((v5 : Int32).toInt64) <<< (((8 * (x3 - x3 / 8 * 8)) : Int32).toInt64 &&& 63)))).bind fun f6 => fn_M_hashCodeNow_122 rc115 k f6 a0 x1 x2 (x3 + 1)
def fn_M_hashCodeNow_115 : Nat → pl_H → Nat → Int32 → Int32 → Option (pl_H)
  | 0 => fun _ _ _ _ => none
  | k + 1 => fun f a0 x1 x2 => if x1 ≤ x2 then fn_M_hashCodeNow_202 pl_N f a0 0 else fn_M_hashCodeNow_122 (fn_M_hashCodeNow_115 k) pl_N f a0 x1 x2 0
def fn_M_hashCodeNow_94 : Nat → pl_H → Nat → Int32 → Int32 → Option (pl_H)
  | 0 => fun _ _ _ _ => none
  | k + 1 => fun f a0 x1 x2 => if 25 ≤ x2 then fn_M_hashCodeNow_115 pl_N f a0 x1 0 else (pl_gR f a0 8 21).bind fun v1 => (pl_sL f v1 x2 0).bind fun f2 => fn_M_hashCodeNow_94 k f2 a0 x1 (x2 + 1)
def fn_M_hashCodeNow_57 (rc13 : pl_H → Nat → Int32 → Int32 → Option (pl_H)) (f : pl_H) (a0 : Nat) (x1 : Int32) (x2 : Int32) (sx0 : Int32) (sx1 : Int32) (sa2 : Nat) : Option (pl_H) := (pl_sI f sa2 sx1 sx0).bind fun f1 => rc13 f1 a0 x1 (x2 + 1)
def fn_M_hashCodeNow_13 : Nat → pl_H → Nat → Int32 → Int32 → Option (pl_H)
  | 0 => fun _ _ _ _ => none
  | k + 1 => fun f a0 x1 x2 => if (136 * x1) ≤ x2 then (pl_gR f a0 8 26).bind fun v1 => (pl_gR f a0 8 26).bind fun v2 => (pl_aI f v2 ((136 * x1) - 1)).bind fun v3 => (pl_sI f v1 ((136 * x1) - 1) (v3 + 128)).bind fun f4 => fn_M_hashCodeNow_94 pl_N f4 a0 x1 0 else (pl_gR f a0 8 26).bind fun v5 => (pl_gI f a0 8 12).bind fun v6 => if v6 ≤ x2 then (pl_gI f a0 8 12).bind fun v7 => if x2 = v7 then fn_M_hashCodeNow_57 (fn_M_hashCodeNow_13 k) f a0 x1 x2 1 x2 v5 else fn_M_hashCodeNow_57 (fn_M_hashCodeNow_13 k) f a0 x1 x2 0 x2 v5 else (pl_gR f a0 8 13).bind fun v8 => (pl_aI f v8 x2).bind fun v9 => fn_M_hashCodeNow_57 (fn_M_hashCodeNow_13 k) f a0 x1 x2 v9 x2 v5
def fn_M_hashCodeNow (f : pl_H) (a0 : Nat) : Option (pl_H) := (pl_gI f a0 8 12).bind fun v1 => fn_M_hashCodeNow_13 pl_N f a0 ((v1 / 136) + 1) 0
set_option maxHeartbeats 4000000 in
set_option maxRecDepth 100000 in
theorem tl_M_hashCodeNow_202 {p : Program} {l : Launch} {e : Env} {s : State} {m : MethodId} {args : Array Value} {below : List Frame} {meth : Method} {c : Code} {D : va_G} {dA : Nat → ClassId} {tt : Nat → Nat} {b n : Nat} (C : pl_C p s m args meth c co_M_hashCodeNow 4 rn_M none "hashCodeNow" D dA tt b) {f' : pl_H} : ∀ k : Nat, ∀ (f : pl_H) (a0 : Nat) (x2 : Int32) (H : Heap) (locs : List Loc) (ls : Array Slot), fn_M_hashCodeNow_202 k f a0 x2 = some f' → pl_wd D vwCl dA b n f H → va_S (pl_A b) s.heap H locs → lv_has ls 4 [(0, .ref a0), (2, .int x2)] → W p l e rm_M_hashCodeNow s m args below meth c H locs 0 0 (MQ below (pl_qV D dA tt b n f') args s 0 0 (pl_A b)) (F0 m 202 ls []) := by
  have hx := C.1
  have hb := C.2.1
  have hown := C.2.2.2.2.1
  have hts := C.2.2.2.2.2.2.1
  intro k
  induction k with
  | zero =>
    intro f a0 x2 H locs ls hF
    cases hF
  | succ k ih =>
    intro f a0 x2 H locs ls hF w hS hl
    unfold fn_M_hashCodeNow_202 at hF
    refine lv_iload_n hx hb dc_M_hashCodeNow_202 rfl (lv_at hl 1 rfl) ?_
    refine lv_bipush (v := 32) hx hb dc_M_hashCodeNow_203 (by decide) ?_
    refine lv_icmp_ge hx hb dc_M_hashCodeNow_205 (tgt := 242) (by decide) (fun hc => ?_) (fun hc => ?_)
    · have hF := (if_pos hc).symm.trans hF
      exact pl_retVw C w hS hF dc_M_hashCodeNow_242
    · have hF := (if_neg hc).symm.trans hF
      refine lv_aload_n hx hb dc_M_hashCodeNow_208 rfl (lv_at hl 0 rfl) ?_
      obtain ⟨v1, ev1, hF⟩ := pl_bd hF
      refine pl_getR C w (ci := 8) in_M rfl (by decide) 27 (by decide) mw_724 ev1 dc_M_hashCodeNow_209 ?_
      refine lv_iload_n hx hb dc_M_hashCodeNow_212 rfl (lv_at hl 1 rfl) ?_
      refine lv_aload_n hx hb dc_M_hashCodeNow_213 rfl (lv_at hl 0 rfl) ?_
      obtain ⟨v2, ev2, hF⟩ := pl_bd hF
      refine pl_getR C w (ci := 8) in_M rfl (by decide) 21 (by decide) mw_718 ev2 dc_M_hashCodeNow_214 ?_
      refine lv_iload_n hx hb dc_M_hashCodeNow_217 rfl (lv_at hl 1 rfl) ?_
      refine lv_bipush (v := 8) hx hb dc_M_hashCodeNow_218 (by decide) ?_
      refine lv_idiv hx hb dc_M_hashCodeNow_220 (by decide) ?_
      obtain ⟨v3, ev3, hF⟩ := pl_bd hF
      refine pl_aldL C w ev3 dc_M_hashCodeNow_221 ?_
      refine lv_bipush (v := 8) hx hb dc_M_hashCodeNow_222 (by decide) ?_
      refine lv_iload_n hx hb dc_M_hashCodeNow_224 rfl (lv_at hl 1 rfl) ?_
      refine lv_bipush (v := 8) hx hb dc_M_hashCodeNow_225 (by decide) ?_
      refine lv_irem hx hb dc_M_hashCodeNow_227 (by decide) ?_
      refine lv_imul hx hb dc_M_hashCodeNow_228 ?_
      refine lv_lshr hx hb dc_M_hashCodeNow_229 rfl ?_
      refine lv_ldc2 (v := 255) hx hb hown (hts _ mw_894) dc_M_hashCodeNow_230 ?_
      refine lv_land hx hb dc_M_hashCodeNow_233 ?_
      refine lv_l2i hx hb dc_M_hashCodeNow_234 rfl ?_
      obtain ⟨f4, ef4, hF⟩ := pl_bd hF
      refine pl_astI C w hS ef4 dc_M_hashCodeNow_235 (fun H locs w hS => ?_)
      refine lv_iinc (k := 1) (v := x2 + 1) (lv' := [(2, .int (x2 + 1)), (0, .ref a0)]) hx hb dc_M_hashCodeNow_236 hl rfl rfl (by decide) rfl (fun ls hl => ?_)
      refine lv_goto hx hb dc_M_hashCodeNow_239 (tgt := 202) (by decide) ?_
      exact ih f4 a0 (x2 + 1) _ _ _ hF w hS (lv_sub hl [1, 0] rfl)
set_option maxHeartbeats 4000000 in
set_option maxRecDepth 100000 in
theorem tl_M_hashCodeNow_177 {p : Program} {l : Launch} {e : Env} {s : State} {m : MethodId} {args : Array Value} {below : List Frame} {meth : Method} {c : Code} {D : va_G} {dA : Nat → ClassId} {tt : Nat → Nat} {b n : Nat} (C : pl_C p s m args meth c co_M_hashCodeNow 4 rn_M none "hashCodeNow" D dA tt b) {f' : pl_H} {rc115 : pl_H → Nat → Int32 → Int32 → Option (pl_H)} (hr115 : ∀ (f : pl_H) (a0 : Nat) (x1 : Int32) (x2 : Int32) (H : Heap) (locs : List Loc) (ls : Array Slot), rc115 f a0 x1 x2 = some f' → pl_wd D vwCl dA b n f H → va_S (pl_A b) s.heap H locs → lv_has ls 4 [(0, .ref a0), (1, .int x1), (2, .int x2)] → W p l e rm_M_hashCodeNow s m args below meth c H locs 0 0 (MQ below (pl_qV D dA tt b n f') args s 0 0 (pl_A b)) (F0 m 115 ls [])) : ∀ k : Nat, ∀ (f : pl_H) (a0 : Nat) (x1 : Int32) (x2 : Int32) (x3 : Int32) (H : Heap) (locs : List Loc) (ls : Array Slot), fn_M_hashCodeNow_177 rc115 k f a0 x1 x2 x3 = some f' → pl_wd D vwCl dA b n f H → va_S (pl_A b) s.heap H locs → lv_has ls 4 [(0, .ref a0), (1, .int x1), (2, .int x2), (3, .int x3)] → W p l e rm_M_hashCodeNow s m args below meth c H locs 0 0 (MQ below (pl_qV D dA tt b n f') args s 0 0 (pl_A b)) (F0 m 177 ls []) := by
  have hx := C.1
  have hb := C.2.1
  have hown := C.2.2.2.2.1
  have hts := C.2.2.2.2.2.2.1
  intro k
  induction k with
  | zero =>
    intro f a0 x1 x2 x3 H locs ls hF
    cases hF
  | succ k ih =>
    intro f a0 x1 x2 x3 H locs ls hF w hS hl
    unfold fn_M_hashCodeNow_177 at hF
    refine lv_iload_n hx hb dc_M_hashCodeNow_177 rfl (lv_at hl 3 rfl) ?_
    refine lv_bipush (v := 24) hx hb dc_M_hashCodeNow_178 (by decide) ?_
    refine lv_icmp_ge hx hb dc_M_hashCodeNow_180 (tgt := 194) (by decide) (fun hc => ?_) (fun hc => ?_)
    · have hF := (if_pos hc).symm.trans hF
      refine lv_iinc (k := 2) (v := x2 + 1) (lv' := [(2, .int (x2 + 1)), (0, .ref a0), (1, .int x1), (3, .int x3)]) hx hb dc_M_hashCodeNow_194 hl rfl rfl (by decide) rfl (fun ls hl => ?_)
      refine lv_goto hx hb dc_M_hashCodeNow_197 (tgt := 115) (by decide) ?_
      exact hr115 f a0 x1 (x2 + 1) _ _ _ hF w hS (lv_sub hl [1, 2, 0] rfl)
    · have hF := (if_neg hc).symm.trans hF
      refine lv_aload_n hx hb dc_M_hashCodeNow_183 rfl (lv_at hl 0 rfl) ?_
      refine lv_iload_n hx hb dc_M_hashCodeNow_184 rfl (lv_at hl 3 rfl) ?_
      obtain ⟨u2, eu2, hF⟩ := pl_bd hF
      obtain ⟨q1, eq1, hF⟩ := pl_bd hF
      refine pl_gv (pl_runV (Cn := rn_M) (k := 1) C (tm_M_round l D dA tt b n eq1) w hS rfl rfl mw_915 mw_917 mw_47 mw_72 mw_918 (by decide +kernel) ⟨by decide, by decide⟩ eu2 rfl (by decide) rfl hl.1 (Nat.le_of_ble_eq_true rfl) ⟨Nat.zero_le _, Nat.zero_le _⟩ rfl dc_M_hashCodeNow_185) hS (fun H locs w hS => ?_)
      refine lv_iinc (k := 3) (v := x3 + 1) (lv' := [(3, .int (x3 + 1)), (0, .ref a0), (1, .int x1), (2, .int x2)]) hx hb dc_M_hashCodeNow_188 hl rfl rfl (by decide) rfl (fun ls hl => ?_)
      refine lv_goto hx hb dc_M_hashCodeNow_191 (tgt := 177) (by decide) ?_
      exact ih q1 a0 x1 x2 (x3 + 1) _ _ _ hF w hS (lv_sub hl [1, 2, 3, 0] rfl)
set_option maxHeartbeats 4000000 in
set_option maxRecDepth 100000 in
theorem tl_M_hashCodeNow_122 {p : Program} {l : Launch} {e : Env} {s : State} {m : MethodId} {args : Array Value} {below : List Frame} {meth : Method} {c : Code} {D : va_G} {dA : Nat → ClassId} {tt : Nat → Nat} {b n : Nat} (C : pl_C p s m args meth c co_M_hashCodeNow 4 rn_M none "hashCodeNow" D dA tt b) {f' : pl_H} {rc115 : pl_H → Nat → Int32 → Int32 → Option (pl_H)} (hr115 : ∀ (f : pl_H) (a0 : Nat) (x1 : Int32) (x2 : Int32) (H : Heap) (locs : List Loc) (ls : Array Slot), rc115 f a0 x1 x2 = some f' → pl_wd D vwCl dA b n f H → va_S (pl_A b) s.heap H locs → lv_has ls 4 [(0, .ref a0), (1, .int x1), (2, .int x2)] → W p l e rm_M_hashCodeNow s m args below meth c H locs 0 0 (MQ below (pl_qV D dA tt b n f') args s 0 0 (pl_A b)) (F0 m 115 ls [])) : ∀ k : Nat, ∀ (f : pl_H) (a0 : Nat) (x1 : Int32) (x2 : Int32) (x3 : Int32) (H : Heap) (locs : List Loc) (ls : Array Slot), fn_M_hashCodeNow_122 rc115 k f a0 x1 x2 x3 = some f' → pl_wd D vwCl dA b n f H → va_S (pl_A b) s.heap H locs → lv_has ls 4 [(0, .ref a0), (1, .int x1), (2, .int x2), (3, .int x3)] → W p l e rm_M_hashCodeNow s m args below meth c H locs 0 0 (MQ below (pl_qV D dA tt b n f') args s 0 0 (pl_A b)) (F0 m 122 ls []) := by
  have hx := C.1
  have hb := C.2.1
  have hown := C.2.2.2.2.1
  have hts := C.2.2.2.2.2.2.1
  intro k
  induction k with
  | zero =>
    intro f a0 x1 x2 x3 H locs ls hF
    cases hF
  | succ k ih =>
    intro f a0 x1 x2 x3 H locs ls hF w hS hl
    unfold fn_M_hashCodeNow_122 at hF
    refine lv_iload_n hx hb dc_M_hashCodeNow_122 rfl (lv_at hl 3 rfl) ?_
    refine lv_sipush (v := 136) hx hb dc_M_hashCodeNow_123 (by decide) ?_
    refine lv_icmp_ge hx hb dc_M_hashCodeNow_126 (tgt := 175) (by decide) (fun hc => ?_) (fun hc => ?_)
    · have hF := (if_pos hc).symm.trans hF
      refine lv_iconst (v := 0) hx hb dc_M_hashCodeNow_175 (by decide) ?_
      refine lv_istore_n (lv' := [(3, .int 0), (0, .ref a0), (1, .int x1), (2, .int x2)]) hx hb dc_M_hashCodeNow_176 rfl hl (by decide) rfl (fun ls hl => ?_)
      exact tl_M_hashCodeNow_177 C hr115 pl_N f a0 x1 x2 0 _ _ _ hF w hS (lv_sub hl [1, 2, 3, 0] rfl)
    · have hF := (if_neg hc).symm.trans hF
      refine lv_aload_n hx hb dc_M_hashCodeNow_129 rfl (lv_at hl 0 rfl) ?_
      obtain ⟨v1, ev1, hF⟩ := pl_bd hF
      refine pl_getR C w (ci := 8) in_M rfl (by decide) 21 (by decide) mw_718 ev1 dc_M_hashCodeNow_130 ?_
      refine lv_iload_n hx hb dc_M_hashCodeNow_133 rfl (lv_at hl 3 rfl) ?_
      refine lv_bipush (v := 8) hx hb dc_M_hashCodeNow_134 (by decide) ?_
      refine lv_idiv hx hb dc_M_hashCodeNow_136 (by decide) ?_
      refine lv_aload_n hx hb dc_M_hashCodeNow_137 rfl (lv_at hl 0 rfl) ?_
      obtain ⟨v2, ev2, hF⟩ := pl_bd hF
      refine pl_getR C w (ci := 8) in_M rfl (by decide) 21 (by decide) mw_718 ev2 dc_M_hashCodeNow_138 ?_
      refine lv_iload_n hx hb dc_M_hashCodeNow_141 rfl (lv_at hl 3 rfl) ?_
      refine lv_bipush (v := 8) hx hb dc_M_hashCodeNow_142 (by decide) ?_
      refine lv_idiv hx hb dc_M_hashCodeNow_144 (by decide) ?_
      obtain ⟨v3, ev3, hF⟩ := pl_bd hF
      refine pl_aldL C w ev3 dc_M_hashCodeNow_145 ?_
      refine lv_aload_n hx hb dc_M_hashCodeNow_146 rfl (lv_at hl 0 rfl) ?_
      obtain ⟨v4, ev4, hF⟩ := pl_bd hF
      refine pl_getR C w (ci := 8) in_M rfl (by decide) 26 (by decide) mw_723 ev4 dc_M_hashCodeNow_147 ?_
      refine lv_sipush (v := 136) hx hb dc_M_hashCodeNow_150 (by decide) ?_
      refine lv_iload_n hx hb dc_M_hashCodeNow_153 rfl (lv_at hl 2 rfl) ?_
      refine lv_imul hx hb dc_M_hashCodeNow_154 ?_
      refine lv_iload_n hx hb dc_M_hashCodeNow_155 rfl (lv_at hl 3 rfl) ?_
      refine lv_iadd hx hb dc_M_hashCodeNow_156 ?_
      obtain ⟨v5, ev5, hF⟩ := pl_bd hF
      refine pl_aldI C w ev5 dc_M_hashCodeNow_157 ?_
      refine lv_i2l hx hb dc_M_hashCodeNow_158 rfl ?_
      refine lv_bipush (v := 8) hx hb dc_M_hashCodeNow_159 (by decide) ?_
      refine lv_iload_n hx hb dc_M_hashCodeNow_161 rfl (lv_at hl 3 rfl) ?_
      refine lv_bipush (v := 8) hx hb dc_M_hashCodeNow_162 (by decide) ?_
      refine lv_irem hx hb dc_M_hashCodeNow_164 (by decide) ?_
      refine lv_imul hx hb dc_M_hashCodeNow_165 ?_
      refine lv_lshl hx hb dc_M_hashCodeNow_166 rfl ?_
      refine lv_lxor hx hb dc_M_hashCodeNow_167 ?_
      obtain ⟨f6, ef6, hF⟩ := pl_bd hF
      refine pl_astL C w hS ef6 dc_M_hashCodeNow_168 (fun H locs w hS => ?_)
      refine lv_iinc (k := 3) (v := x3 + 1) (lv' := [(3, .int (x3 + 1)), (0, .ref a0), (1, .int x1), (2, .int x2)]) hx hb dc_M_hashCodeNow_169 hl rfl rfl (by decide) rfl (fun ls hl => ?_)
      refine lv_goto hx hb dc_M_hashCodeNow_172 (tgt := 122) (by decide) ?_
      exact ih f6 a0 x1 x2 (x3 + 1) _ _ _ hF w hS (lv_sub hl [1, 2, 3, 0] rfl)
set_option maxHeartbeats 4000000 in
set_option maxRecDepth 100000 in
theorem tl_M_hashCodeNow_115 {p : Program} {l : Launch} {e : Env} {s : State} {m : MethodId} {args : Array Value} {below : List Frame} {meth : Method} {c : Code} {D : va_G} {dA : Nat → ClassId} {tt : Nat → Nat} {b n : Nat} (C : pl_C p s m args meth c co_M_hashCodeNow 4 rn_M none "hashCodeNow" D dA tt b) {f' : pl_H} : ∀ k : Nat, ∀ (f : pl_H) (a0 : Nat) (x1 : Int32) (x2 : Int32) (H : Heap) (locs : List Loc) (ls : Array Slot), fn_M_hashCodeNow_115 k f a0 x1 x2 = some f' → pl_wd D vwCl dA b n f H → va_S (pl_A b) s.heap H locs → lv_has ls 4 [(0, .ref a0), (1, .int x1), (2, .int x2)] → W p l e rm_M_hashCodeNow s m args below meth c H locs 0 0 (MQ below (pl_qV D dA tt b n f') args s 0 0 (pl_A b)) (F0 m 115 ls []) := by
  have hx := C.1
  have hb := C.2.1
  have hown := C.2.2.2.2.1
  have hts := C.2.2.2.2.2.2.1
  intro k
  induction k with
  | zero =>
    intro f a0 x1 x2 H locs ls hF
    cases hF
  | succ k ih =>
    intro f a0 x1 x2 H locs ls hF w hS hl
    unfold fn_M_hashCodeNow_115 at hF
    refine lv_iload_n hx hb dc_M_hashCodeNow_115 rfl (lv_at hl 2 rfl) ?_
    refine lv_iload_n hx hb dc_M_hashCodeNow_116 rfl (lv_at hl 1 rfl) ?_
    refine lv_icmp_ge hx hb dc_M_hashCodeNow_117 (tgt := 200) (by decide) (fun hc => ?_) (fun hc => ?_)
    · have hF := (if_pos hc).symm.trans hF
      refine lv_iconst (v := 0) hx hb dc_M_hashCodeNow_200 (by decide) ?_
      refine lv_istore_n (lv' := [(2, .int 0), (0, .ref a0), (1, .int x1)]) hx hb dc_M_hashCodeNow_201 rfl hl (by decide) rfl (fun ls hl => ?_)
      exact tl_M_hashCodeNow_202 C pl_N f a0 0 _ _ _ hF w hS (lv_sub hl [1, 0] rfl)
    · have hF := (if_neg hc).symm.trans hF
      refine lv_iconst (v := 0) hx hb dc_M_hashCodeNow_120 (by decide) ?_
      refine lv_istore_n (lv' := [(3, .int 0), (0, .ref a0), (1, .int x1), (2, .int x2)]) hx hb dc_M_hashCodeNow_121 rfl hl (by decide) rfl (fun ls hl => ?_)
      exact tl_M_hashCodeNow_122 C ih pl_N f a0 x1 x2 0 _ _ _ hF w hS (lv_sub hl [1, 2, 3, 0] rfl)
set_option maxHeartbeats 4000000 in
set_option maxRecDepth 100000 in
theorem tl_M_hashCodeNow_94 {p : Program} {l : Launch} {e : Env} {s : State} {m : MethodId} {args : Array Value} {below : List Frame} {meth : Method} {c : Code} {D : va_G} {dA : Nat → ClassId} {tt : Nat → Nat} {b n : Nat} (C : pl_C p s m args meth c co_M_hashCodeNow 4 rn_M none "hashCodeNow" D dA tt b) {f' : pl_H} : ∀ k : Nat, ∀ (f : pl_H) (a0 : Nat) (x1 : Int32) (x2 : Int32) (H : Heap) (locs : List Loc) (ls : Array Slot), fn_M_hashCodeNow_94 k f a0 x1 x2 = some f' → pl_wd D vwCl dA b n f H → va_S (pl_A b) s.heap H locs → lv_has ls 4 [(0, .ref a0), (1, .int x1), (2, .int x2)] → W p l e rm_M_hashCodeNow s m args below meth c H locs 0 0 (MQ below (pl_qV D dA tt b n f') args s 0 0 (pl_A b)) (F0 m 94 ls []) := by
  have hx := C.1
  have hb := C.2.1
  have hown := C.2.2.2.2.1
  have hts := C.2.2.2.2.2.2.1
  intro k
  induction k with
  | zero =>
    intro f a0 x1 x2 H locs ls hF
    cases hF
  | succ k ih =>
    intro f a0 x1 x2 H locs ls hF w hS hl
    unfold fn_M_hashCodeNow_94 at hF
    refine lv_iload_n hx hb dc_M_hashCodeNow_94 rfl (lv_at hl 2 rfl) ?_
    refine lv_bipush (v := 25) hx hb dc_M_hashCodeNow_95 (by decide) ?_
    refine lv_icmp_ge hx hb dc_M_hashCodeNow_97 (tgt := 113) (by decide) (fun hc => ?_) (fun hc => ?_)
    · have hF := (if_pos hc).symm.trans hF
      refine lv_iconst (v := 0) hx hb dc_M_hashCodeNow_113 (by decide) ?_
      refine lv_istore_n (lv' := [(2, .int 0), (0, .ref a0), (1, .int x1)]) hx hb dc_M_hashCodeNow_114 rfl hl (by decide) rfl (fun ls hl => ?_)
      exact tl_M_hashCodeNow_115 C pl_N f a0 x1 0 _ _ _ hF w hS (lv_sub hl [1, 2, 0] rfl)
    · have hF := (if_neg hc).symm.trans hF
      refine lv_aload_n hx hb dc_M_hashCodeNow_100 rfl (lv_at hl 0 rfl) ?_
      obtain ⟨v1, ev1, hF⟩ := pl_bd hF
      refine pl_getR C w (ci := 8) in_M rfl (by decide) 21 (by decide) mw_718 ev1 dc_M_hashCodeNow_101 ?_
      refine lv_iload_n hx hb dc_M_hashCodeNow_104 rfl (lv_at hl 2 rfl) ?_
      refine lv_lconst (v := 0) hx hb dc_M_hashCodeNow_105 (by decide) ?_
      obtain ⟨f2, ef2, hF⟩ := pl_bd hF
      refine pl_astL C w hS ef2 dc_M_hashCodeNow_106 (fun H locs w hS => ?_)
      refine lv_iinc (k := 2) (v := x2 + 1) (lv' := [(2, .int (x2 + 1)), (0, .ref a0), (1, .int x1)]) hx hb dc_M_hashCodeNow_107 hl rfl rfl (by decide) rfl (fun ls hl => ?_)
      refine lv_goto hx hb dc_M_hashCodeNow_110 (tgt := 94) (by decide) ?_
      exact ih f2 a0 x1 (x2 + 1) _ _ _ hF w hS (lv_sub hl [1, 2, 0] rfl)
set_option maxHeartbeats 4000000 in
set_option maxRecDepth 100000 in
theorem tl_M_hashCodeNow_57 {p : Program} {l : Launch} {e : Env} {s : State} {m : MethodId} {args : Array Value} {below : List Frame} {meth : Method} {c : Code} {D : va_G} {dA : Nat → ClassId} {tt : Nat → Nat} {b n : Nat} (C : pl_C p s m args meth c co_M_hashCodeNow 4 rn_M none "hashCodeNow" D dA tt b) {f' : pl_H} {rc13 : pl_H → Nat → Int32 → Int32 → Option (pl_H)} (hr13 : ∀ (f : pl_H) (a0 : Nat) (x1 : Int32) (x2 : Int32) (H : Heap) (locs : List Loc) (ls : Array Slot), rc13 f a0 x1 x2 = some f' → pl_wd D vwCl dA b n f H → va_S (pl_A b) s.heap H locs → lv_has ls 4 [(0, .ref a0), (1, .int x1), (2, .int x2)] → W p l e rm_M_hashCodeNow s m args below meth c H locs 0 0 (MQ below (pl_qV D dA tt b n f') args s 0 0 (pl_A b)) (F0 m 13 ls [])) {f : pl_H} {a0 : Nat} {x1 : Int32} {x2 : Int32} {sx0 : Int32} {sx1 : Int32} {sa2 : Nat} {H : Heap} {locs : List Loc} {ls : Array Slot} (hF : fn_M_hashCodeNow_57 rc13 f a0 x1 x2 sx0 sx1 sa2 = some f') (w : pl_wd D vwCl dA b n f H) (hS : va_S (pl_A b) s.heap H locs) (hl : lv_has ls 4 [(0, .ref a0), (1, .int x1), (2, .int x2)]) : W p l e rm_M_hashCodeNow s m args below meth c H locs 0 0 (MQ below (pl_qV D dA tt b n f') args s 0 0 (pl_A b)) (F0 m 57 ls [.int sx0, .int sx1, .ref sa2]) := by
  have hx := C.1
  have hb := C.2.1
  have hown := C.2.2.2.2.1
  have hts := C.2.2.2.2.2.2.1
  unfold fn_M_hashCodeNow_57 at hF
  obtain ⟨f1, ef1, hF⟩ := pl_bd hF
  refine pl_astI C w hS ef1 dc_M_hashCodeNow_57 (fun H locs w hS => ?_)
  refine lv_iinc (k := 2) (v := x2 + 1) (lv' := [(2, .int (x2 + 1)), (0, .ref a0), (1, .int x1)]) hx hb dc_M_hashCodeNow_58 hl rfl rfl (by decide) rfl (fun ls hl => ?_)
  refine lv_goto hx hb dc_M_hashCodeNow_61 (tgt := 13) (by decide) ?_
  exact hr13 f1 a0 x1 (x2 + 1) _ _ _ hF w hS (lv_sub hl [1, 2, 0] rfl)
set_option maxHeartbeats 4000000 in
set_option maxRecDepth 100000 in
theorem tl_M_hashCodeNow_13 {p : Program} {l : Launch} {e : Env} {s : State} {m : MethodId} {args : Array Value} {below : List Frame} {meth : Method} {c : Code} {D : va_G} {dA : Nat → ClassId} {tt : Nat → Nat} {b n : Nat} (C : pl_C p s m args meth c co_M_hashCodeNow 4 rn_M none "hashCodeNow" D dA tt b) {f' : pl_H} : ∀ k : Nat, ∀ (f : pl_H) (a0 : Nat) (x1 : Int32) (x2 : Int32) (H : Heap) (locs : List Loc) (ls : Array Slot), fn_M_hashCodeNow_13 k f a0 x1 x2 = some f' → pl_wd D vwCl dA b n f H → va_S (pl_A b) s.heap H locs → lv_has ls 4 [(0, .ref a0), (1, .int x1), (2, .int x2)] → W p l e rm_M_hashCodeNow s m args below meth c H locs 0 0 (MQ below (pl_qV D dA tt b n f') args s 0 0 (pl_A b)) (F0 m 13 ls []) := by
  have hx := C.1
  have hb := C.2.1
  have hown := C.2.2.2.2.1
  have hts := C.2.2.2.2.2.2.1
  intro k
  induction k with
  | zero =>
    intro f a0 x1 x2 H locs ls hF
    cases hF
  | succ k ih =>
    intro f a0 x1 x2 H locs ls hF w hS hl
    unfold fn_M_hashCodeNow_13 at hF
    refine lv_iload_n hx hb dc_M_hashCodeNow_13 rfl (lv_at hl 2 rfl) ?_
    refine lv_sipush (v := 136) hx hb dc_M_hashCodeNow_14 (by decide) ?_
    refine lv_iload_n hx hb dc_M_hashCodeNow_17 rfl (lv_at hl 1 rfl) ?_
    refine lv_imul hx hb dc_M_hashCodeNow_18 ?_
    refine lv_icmp_ge hx hb dc_M_hashCodeNow_19 (tgt := 64) (by decide) (fun hc => ?_) (fun hc => ?_)
    · have hF := (if_pos hc).symm.trans hF
      refine lv_aload_n hx hb dc_M_hashCodeNow_64 rfl (lv_at hl 0 rfl) ?_
      obtain ⟨v1, ev1, hF⟩ := pl_bd hF
      refine pl_getR C w (ci := 8) in_M rfl (by decide) 26 (by decide) mw_723 ev1 dc_M_hashCodeNow_65 ?_
      refine lv_sipush (v := 136) hx hb dc_M_hashCodeNow_68 (by decide) ?_
      refine lv_iload_n hx hb dc_M_hashCodeNow_71 rfl (lv_at hl 1 rfl) ?_
      refine lv_imul hx hb dc_M_hashCodeNow_72 ?_
      refine lv_iconst (v := 1) hx hb dc_M_hashCodeNow_73 (by decide) ?_
      refine lv_isub hx hb dc_M_hashCodeNow_74 ?_
      refine lv_aload_n hx hb dc_M_hashCodeNow_75 rfl (lv_at hl 0 rfl) ?_
      obtain ⟨v2, ev2, hF⟩ := pl_bd hF
      refine pl_getR C w (ci := 8) in_M rfl (by decide) 26 (by decide) mw_723 ev2 dc_M_hashCodeNow_76 ?_
      refine lv_sipush (v := 136) hx hb dc_M_hashCodeNow_79 (by decide) ?_
      refine lv_iload_n hx hb dc_M_hashCodeNow_82 rfl (lv_at hl 1 rfl) ?_
      refine lv_imul hx hb dc_M_hashCodeNow_83 ?_
      refine lv_iconst (v := 1) hx hb dc_M_hashCodeNow_84 (by decide) ?_
      refine lv_isub hx hb dc_M_hashCodeNow_85 ?_
      obtain ⟨v3, ev3, hF⟩ := pl_bd hF
      refine pl_aldI C w ev3 dc_M_hashCodeNow_86 ?_
      refine lv_sipush (v := 128) hx hb dc_M_hashCodeNow_87 (by decide) ?_
      refine lv_iadd hx hb dc_M_hashCodeNow_90 ?_
      obtain ⟨f4, ef4, hF⟩ := pl_bd hF
      refine pl_astI C w hS ef4 dc_M_hashCodeNow_91 (fun H locs w hS => ?_)
      refine lv_iconst (v := 0) hx hb dc_M_hashCodeNow_92 (by decide) ?_
      refine lv_istore_n (lv' := [(2, .int 0), (0, .ref a0), (1, .int x1)]) hx hb dc_M_hashCodeNow_93 rfl hl (by decide) rfl (fun ls hl => ?_)
      exact tl_M_hashCodeNow_94 C pl_N f4 a0 x1 0 _ _ _ hF w hS (lv_sub hl [1, 2, 0] rfl)
    · have hF := (if_neg hc).symm.trans hF
      refine lv_aload_n hx hb dc_M_hashCodeNow_22 rfl (lv_at hl 0 rfl) ?_
      obtain ⟨v5, ev5, hF⟩ := pl_bd hF
      refine pl_getR C w (ci := 8) in_M rfl (by decide) 26 (by decide) mw_723 ev5 dc_M_hashCodeNow_23 ?_
      refine lv_iload_n hx hb dc_M_hashCodeNow_26 rfl (lv_at hl 2 rfl) ?_
      refine lv_iload_n hx hb dc_M_hashCodeNow_27 rfl (lv_at hl 2 rfl) ?_
      refine lv_aload_n hx hb dc_M_hashCodeNow_28 rfl (lv_at hl 0 rfl) ?_
      obtain ⟨v6, ev6, hF⟩ := pl_bd hF
      refine pl_getI C w (ci := 8) in_M rfl (by decide) 12 (by decide) mw_709 ev6 dc_M_hashCodeNow_29 ?_
      refine lv_icmp_ge hx hb dc_M_hashCodeNow_32 (tgt := 44) (by decide) (fun hc => ?_) (fun hc => ?_)
      · have hF := (if_pos hc).symm.trans hF
        refine lv_iload_n hx hb dc_M_hashCodeNow_44 rfl (lv_at hl 2 rfl) ?_
        refine lv_aload_n hx hb dc_M_hashCodeNow_45 rfl (lv_at hl 0 rfl) ?_
        obtain ⟨v7, ev7, hF⟩ := pl_bd hF
        refine pl_getI C w (ci := 8) in_M rfl (by decide) 12 (by decide) mw_709 ev7 dc_M_hashCodeNow_46 ?_
        refine lv_icmp_ne hx hb dc_M_hashCodeNow_49 (tgt := 56) (by decide) (fun hc => ?_) (fun hc => ?_)
        · have hF := (if_neg hc).symm.trans hF
          refine lv_iconst (v := 0) hx hb dc_M_hashCodeNow_56 (by decide) ?_
          exact tl_M_hashCodeNow_57 C ih hF w hS (lv_sub hl [0, 1, 2] rfl)
        · have hF := (if_pos hc).symm.trans hF
          refine lv_iconst (v := 1) hx hb dc_M_hashCodeNow_52 (by decide) ?_
          refine lv_goto hx hb dc_M_hashCodeNow_53 (tgt := 57) (by decide) ?_
          exact tl_M_hashCodeNow_57 C ih hF w hS (lv_sub hl [0, 1, 2] rfl)
      · have hF := (if_neg hc).symm.trans hF
        refine lv_aload_n hx hb dc_M_hashCodeNow_35 rfl (lv_at hl 0 rfl) ?_
        obtain ⟨v8, ev8, hF⟩ := pl_bd hF
        refine pl_getR C w (ci := 8) in_M rfl (by decide) 13 (by decide) mw_710 ev8 dc_M_hashCodeNow_36 ?_
        refine lv_iload_n hx hb dc_M_hashCodeNow_39 rfl (lv_at hl 2 rfl) ?_
        obtain ⟨v9, ev9, hF⟩ := pl_bd hF
        refine pl_aldI C w ev9 dc_M_hashCodeNow_40 ?_
        refine lv_goto hx hb dc_M_hashCodeNow_41 (tgt := 57) (by decide) ?_
        exact tl_M_hashCodeNow_57 C ih hF w hS (lv_sub hl [0, 1, 2] rfl)
set_option maxHeartbeats 4000000 in
set_option maxRecDepth 100000 in
theorem tl_M_hashCodeNow {p : Program} {l : Launch} {e : Env} {s : State} {m : MethodId} {args : Array Value} {below : List Frame} {meth : Method} {c : Code} {D : va_G} {dA : Nat → ClassId} {tt : Nat → Nat} {b n : Nat} (C : pl_C p s m args meth c co_M_hashCodeNow 4 rn_M none "hashCodeNow" D dA tt b) {f' : pl_H} {f : pl_H} {a0 : Nat} {H : Heap} {locs : List Loc} {ls : Array Slot} (hF : fn_M_hashCodeNow f a0 = some f') (w : pl_wd D vwCl dA b n f H) (hS : va_S (pl_A b) s.heap H locs) (hl : lv_has ls 4 [(0, .ref a0)]) : W p l e rm_M_hashCodeNow s m args below meth c H locs 0 0 (MQ below (pl_qV D dA tt b n f') args s 0 0 (pl_A b)) (F0 m 0 ls []) := by
  have hx := C.1
  have hb := C.2.1
  have hown := C.2.2.2.2.1
  have hts := C.2.2.2.2.2.2.1
  unfold fn_M_hashCodeNow at hF
  refine lv_aload_n hx hb dc_M_hashCodeNow_0 rfl (lv_at hl 0 rfl) ?_
  obtain ⟨v1, ev1, hF⟩ := pl_bd hF
  refine pl_getI C w (ci := 8) in_M rfl (by decide) 12 (by decide) mw_709 ev1 dc_M_hashCodeNow_1 ?_
  refine lv_sipush (v := 136) hx hb dc_M_hashCodeNow_4 (by decide) ?_
  refine lv_idiv hx hb dc_M_hashCodeNow_7 (by decide) ?_
  refine lv_iconst (v := 1) hx hb dc_M_hashCodeNow_8 (by decide) ?_
  refine lv_iadd hx hb dc_M_hashCodeNow_9 ?_
  refine lv_istore_n (lv' := [(1, .int ((v1 / 136) + 1)), (0, .ref a0)]) hx hb dc_M_hashCodeNow_10 rfl hl (by decide) rfl (fun ls hl => ?_)
  refine lv_iconst (v := 0) hx hb dc_M_hashCodeNow_11 (by decide) ?_
  refine lv_istore_n (lv' := [(2, .int 0), (1, .int ((v1 / 136) + 1)), (0, .ref a0)]) hx hb dc_M_hashCodeNow_12 rfl hl (by decide) rfl (fun ls hl => ?_)
  exact tl_M_hashCodeNow_13 C pl_N f a0 ((v1 / 136) + 1) 0 _ _ _ hF w hS (lv_sub hl [2, 1, 0] rfl)
set_option maxHeartbeats 4000000 in
set_option maxRecDepth 100000 in
theorem tm_M_hashCodeNow (l : Launch) (D : va_G) (dA : Nat → ClassId) (tt : Nat → Nat) (b n : Nat) {f : pl_H} {a0 : Nat} {f' : pl_H} (hF : fn_M_hashCodeNow f a0 = some f') : Met l my_M_hashCodeNow (Cond.code my_M_hashCodeNow co_M_hashCodeNow 4 none :: pl_tb) rm_M_hashCodeNow (va_Pc [.ref a0] (pl_pre D dA tt b n f)) (pl_qV D dA tt b n f') 0 0 (pl_A b) := by
  refine Met.ofW (cc := co_M_hashCodeNow) (maxL := 4) (ret := none) (by decide) rfl ?_
  intro p e s m args below meth c s₁ B hml hv
  obtain ⟨rfl, w, hK⟩ := hv
  have C : pl_C p s m _ meth c co_M_hashCodeNow 4 rn_M none "hashCodeNow" D dA tt b := ⟨B.exec, B.bytes, hml, B.returns, findClass_of_methodNamed B.named, B.notSynchronized, fun w hw => atoms_spec (ws := Cond.code my_M_hashCodeNow co_M_hashCodeNow 4 none :: pl_tb) B.pre w (List.mem_cons_of_mem _ hw), (name_of_methodNamed B.named B.method).1, hK⟩
  have hl := lv_entry ([.ref a0]) (n := 4) (Nat.le_of_ble_eq_true rfl)
  rw [lg_entry_eq]
  generalize (lg_sl ([.ref a0]) ++ List.replicate (4 - (lg_sl ([.ref a0])).length) Slot.unset).toArray = ls at hl ⊢
  have hl : lv_has ls 4 [(0, .ref a0)] := hl
  exact tl_M_hashCodeNow C hF w va_S.rf hl
def rm_M_put : Room := { frames := 0, cells := 0, slots := 0, locals := 0 }
def fn_M_put (f : pl_H) (a0 : Nat) (x1 : Int32) : Option (pl_H) := (pl_gR f a0 8 11).bind fun v1 => (pl_gI f a0 8 10).bind fun v2 => (pl_sI f v1 v2 x1).bind fun f3 => (pl_gI f3 a0 8 10).bind fun v4 => (pl_pV f3 a0 8 10 (.int (v4 + 1))).bind fun f5 => some f5
set_option maxHeartbeats 4000000 in
set_option maxRecDepth 100000 in
theorem tl_M_put {p : Program} {l : Launch} {e : Env} {s : State} {m : MethodId} {args : Array Value} {below : List Frame} {meth : Method} {c : Code} {D : va_G} {dA : Nat → ClassId} {tt : Nat → Nat} {b n : Nat} (C : pl_C p s m args meth c co_M_put 2 rn_M none "put" D dA tt b) {f' : pl_H} {f : pl_H} {a0 : Nat} {x1 : Int32} {H : Heap} {locs : List Loc} {ls : Array Slot} (hF : fn_M_put f a0 x1 = some f') (w : pl_wd D vwCl dA b n f H) (hS : va_S (pl_A b) s.heap H locs) (hl : lv_has ls 2 [(0, .ref a0), (1, .int x1)]) : W p l e rm_M_put s m args below meth c H locs 0 0 (MQ below (pl_qV D dA tt b n f') args s 0 0 (pl_A b)) (F0 m 0 ls []) := by
  have hx := C.1
  have hb := C.2.1
  have hown := C.2.2.2.2.1
  have hts := C.2.2.2.2.2.2.1
  unfold fn_M_put at hF
  refine lv_aload_n hx hb dc_M_put_0 rfl (lv_at hl 0 rfl) ?_
  obtain ⟨v1, ev1, hF⟩ := pl_bd hF
  refine pl_getR C w (ci := 8) in_M rfl (by decide) 11 (by decide) mw_708 ev1 dc_M_put_1 ?_
  refine lv_aload_n hx hb dc_M_put_4 rfl (lv_at hl 0 rfl) ?_
  obtain ⟨v2, ev2, hF⟩ := pl_bd hF
  refine pl_getI C w (ci := 8) in_M rfl (by decide) 10 (by decide) mw_707 ev2 dc_M_put_5 ?_
  refine lv_iload_n hx hb dc_M_put_8 rfl (lv_at hl 1 rfl) ?_
  obtain ⟨f3, ef3, hF⟩ := pl_bd hF
  refine pl_astI C w hS ef3 dc_M_put_9 (fun H locs w hS => ?_)
  refine lv_aload_n hx hb dc_M_put_10 rfl (lv_at hl 0 rfl) ?_
  refine lv_dup hx hb dc_M_put_11 rfl ?_
  obtain ⟨v4, ev4, hF⟩ := pl_bd hF
  refine pl_getI C w (ci := 8) in_M rfl (by decide) 10 (by decide) mw_707 ev4 dc_M_put_12 ?_
  refine lv_iconst (v := 1) hx hb dc_M_put_15 (by decide) ?_
  refine lv_iadd hx hb dc_M_put_16 ?_
  obtain ⟨f5, ef5, hF⟩ := pl_bd hF
  refine pl_put C w hS (ci := 8) in_M rfl (by decide) rty_M_ok rnm_M 10 (by decide) mw_707 rfl rfl rfl ef5 dc_M_put_17 (fun H locs w hS => ?_)
  exact pl_retVw C w hS hF dc_M_put_20
set_option maxHeartbeats 4000000 in
set_option maxRecDepth 100000 in
theorem tm_M_put (l : Launch) (D : va_G) (dA : Nat → ClassId) (tt : Nat → Nat) (b n : Nat) {f : pl_H} {a0 : Nat} {x1 : Int32} {f' : pl_H} (hF : fn_M_put f a0 x1 = some f') : Met l my_M_put (Cond.code my_M_put co_M_put 2 none :: pl_tb) rm_M_put (va_Pc [.ref a0, .int x1] (pl_pre D dA tt b n f)) (pl_qV D dA tt b n f') 0 0 (pl_A b) := by
  refine Met.ofW (cc := co_M_put) (maxL := 2) (ret := none) (by decide) rfl ?_
  intro p e s m args below meth c s₁ B hml hv
  obtain ⟨rfl, w, hK⟩ := hv
  have C : pl_C p s m _ meth c co_M_put 2 rn_M none "put" D dA tt b := ⟨B.exec, B.bytes, hml, B.returns, findClass_of_methodNamed B.named, B.notSynchronized, fun w hw => atoms_spec (ws := Cond.code my_M_put co_M_put 2 none :: pl_tb) B.pre w (List.mem_cons_of_mem _ hw), (name_of_methodNamed B.named B.method).1, hK⟩
  have hl := lv_entry ([.ref a0, .int x1]) (n := 2) (Nat.le_of_ble_eq_true rfl)
  rw [lg_entry_eq]
  generalize (lg_sl ([.ref a0, .int x1]) ++ List.replicate (2 - (lg_sl ([.ref a0, .int x1])).length) Slot.unset).toArray = ls at hl ⊢
  have hl : lv_has ls 2 [(0, .ref a0), (1, .int x1)] := hl
  exact tl_M_put C hF w va_S.rf hl
def rm_M_putRow : Room := { frames := 1, cells := 0, slots := 0, locals := 21 }
def fn_M_putRow_24 : Nat → pl_H → Nat → Nat → Int32 → Int32 → Option (pl_H)
  | 0 => fun _ _ _ _ _ => none
  | k + 1 => fun f a0 a1 x2 x3 => if x2 ≤ x3 then some f else (pl_aI f a1 x3).bind fun v1 => (pl_is f a0 8).bind fun u3 => (fn_M_put f a0 v1).bind fun q2 => fn_M_putRow_24 k q2 a0 a1 x2 (x3 + 1)
def fn_M_putRow_22 (f : pl_H) (a0 : Nat) (a1 : Nat) (x2 : Int32) : Option (pl_H) := fn_M_putRow_24 pl_N f a0 a1 x2 0
def fn_M_putRow_13 (f : pl_H) (a0 : Nat) (a1 : Nat) (x2 : Int32) : Option (pl_H) := (pl_is f a0 8).bind fun u2 => (fn_M_put f a0 (128 + x2)).bind fun q1 => fn_M_putRow_22 q1 a0 a1 x2
def fn_M_putRow (f : pl_H) (a0 : Nat) (a1 : Nat) (x2 : Int32) : Option (pl_H) := if x2 = 1 then (pl_aI f a1 0).bind fun v1 => if v1 ≤ 127 then fn_M_putRow_22 f a0 a1 x2 else fn_M_putRow_13 f a0 a1 x2 else fn_M_putRow_13 f a0 a1 x2
set_option maxHeartbeats 4000000 in
set_option maxRecDepth 100000 in
theorem tl_M_putRow_24 {p : Program} {l : Launch} {e : Env} {s : State} {m : MethodId} {args : Array Value} {below : List Frame} {meth : Method} {c : Code} {D : va_G} {dA : Nat → ClassId} {tt : Nat → Nat} {b n : Nat} (C : pl_C p s m args meth c co_M_putRow 4 rn_M none "putRow" D dA tt b) {f' : pl_H} : ∀ k : Nat, ∀ (f : pl_H) (a0 : Nat) (a1 : Nat) (x2 : Int32) (x3 : Int32) (H : Heap) (locs : List Loc) (ls : Array Slot), fn_M_putRow_24 k f a0 a1 x2 x3 = some f' → pl_wd D vwCl dA b n f H → va_S (pl_A b) s.heap H locs → lv_has ls 4 [(0, .ref a0), (1, .ref a1), (2, .int x2), (3, .int x3)] → W p l e rm_M_putRow s m args below meth c H locs 0 0 (MQ below (pl_qV D dA tt b n f') args s 0 0 (pl_A b)) (F0 m 24 ls []) := by
  have hx := C.1
  have hb := C.2.1
  have hown := C.2.2.2.2.1
  have hts := C.2.2.2.2.2.2.1
  intro k
  induction k with
  | zero =>
    intro f a0 a1 x2 x3 H locs ls hF
    cases hF
  | succ k ih =>
    intro f a0 a1 x2 x3 H locs ls hF w hS hl
    unfold fn_M_putRow_24 at hF
    refine lv_iload_n hx hb dc_M_putRow_24 rfl (lv_at hl 3 rfl) ?_
    refine lv_iload_n hx hb dc_M_putRow_25 rfl (lv_at hl 2 rfl) ?_
    refine lv_icmp_ge hx hb dc_M_putRow_26 (tgt := 42) (by decide) (fun hc => ?_) (fun hc => ?_)
    · have hF := (if_pos hc).symm.trans hF
      exact pl_retVw C w hS hF dc_M_putRow_42
    · have hF := (if_neg hc).symm.trans hF
      refine lv_aload_n hx hb dc_M_putRow_29 rfl (lv_at hl 0 rfl) ?_
      refine lv_aload_n hx hb dc_M_putRow_30 rfl (lv_at hl 1 rfl) ?_
      refine lv_iload_n hx hb dc_M_putRow_31 rfl (lv_at hl 3 rfl) ?_
      obtain ⟨v1, ev1, hF⟩ := pl_bd hF
      refine pl_aldI C w ev1 dc_M_putRow_32 ?_
      obtain ⟨u3, eu3, hF⟩ := pl_bd hF
      obtain ⟨q2, eq2, hF⟩ := pl_bd hF
      refine pl_gv (pl_runV (Cn := rn_M) (k := 1) C (tm_M_put l D dA tt b n eq2) w hS rfl rfl mw_881 mw_883 mw_40 mw_72 mw_884 (by decide +kernel) ⟨by decide, by decide⟩ eu3 rfl (by decide) rfl hl.1 (Nat.le_of_ble_eq_true rfl) ⟨Nat.zero_le _, Nat.zero_le _⟩ rfl dc_M_putRow_33) hS (fun H locs w hS => ?_)
      refine lv_iinc (k := 3) (v := x3 + 1) (lv' := [(3, .int (x3 + 1)), (0, .ref a0), (1, .ref a1), (2, .int x2)]) hx hb dc_M_putRow_36 hl rfl rfl (by decide) rfl (fun ls hl => ?_)
      refine lv_goto hx hb dc_M_putRow_39 (tgt := 24) (by decide) ?_
      exact ih q2 a0 a1 x2 (x3 + 1) _ _ _ hF w hS (lv_sub hl [1, 2, 3, 0] rfl)
set_option maxHeartbeats 4000000 in
set_option maxRecDepth 100000 in
theorem tl_M_putRow_22 {p : Program} {l : Launch} {e : Env} {s : State} {m : MethodId} {args : Array Value} {below : List Frame} {meth : Method} {c : Code} {D : va_G} {dA : Nat → ClassId} {tt : Nat → Nat} {b n : Nat} (C : pl_C p s m args meth c co_M_putRow 4 rn_M none "putRow" D dA tt b) {f' : pl_H} {f : pl_H} {a0 : Nat} {a1 : Nat} {x2 : Int32} {H : Heap} {locs : List Loc} {ls : Array Slot} (hF : fn_M_putRow_22 f a0 a1 x2 = some f') (w : pl_wd D vwCl dA b n f H) (hS : va_S (pl_A b) s.heap H locs) (hl : lv_has ls 4 [(0, .ref a0), (1, .ref a1), (2, .int x2)]) : W p l e rm_M_putRow s m args below meth c H locs 0 0 (MQ below (pl_qV D dA tt b n f') args s 0 0 (pl_A b)) (F0 m 22 ls []) := by
  have hx := C.1
  have hb := C.2.1
  have hown := C.2.2.2.2.1
  have hts := C.2.2.2.2.2.2.1
  unfold fn_M_putRow_22 at hF
  refine lv_iconst (v := 0) hx hb dc_M_putRow_22 (by decide) ?_
  refine lv_istore_n (lv' := [(3, .int 0), (0, .ref a0), (1, .ref a1), (2, .int x2)]) hx hb dc_M_putRow_23 rfl hl (by decide) rfl (fun ls hl => ?_)
  exact tl_M_putRow_24 C pl_N f a0 a1 x2 0 _ _ _ hF w hS (lv_sub hl [1, 2, 3, 0] rfl)
set_option maxHeartbeats 4000000 in
set_option maxRecDepth 100000 in
theorem tl_M_putRow_13 {p : Program} {l : Launch} {e : Env} {s : State} {m : MethodId} {args : Array Value} {below : List Frame} {meth : Method} {c : Code} {D : va_G} {dA : Nat → ClassId} {tt : Nat → Nat} {b n : Nat} (C : pl_C p s m args meth c co_M_putRow 4 rn_M none "putRow" D dA tt b) {f' : pl_H} {f : pl_H} {a0 : Nat} {a1 : Nat} {x2 : Int32} {H : Heap} {locs : List Loc} {ls : Array Slot} (hF : fn_M_putRow_13 f a0 a1 x2 = some f') (w : pl_wd D vwCl dA b n f H) (hS : va_S (pl_A b) s.heap H locs) (hl : lv_has ls 4 [(0, .ref a0), (1, .ref a1), (2, .int x2)]) : W p l e rm_M_putRow s m args below meth c H locs 0 0 (MQ below (pl_qV D dA tt b n f') args s 0 0 (pl_A b)) (F0 m 13 ls []) := by
  have hx := C.1
  have hb := C.2.1
  have hown := C.2.2.2.2.1
  have hts := C.2.2.2.2.2.2.1
  unfold fn_M_putRow_13 at hF
  refine lv_aload_n hx hb dc_M_putRow_13 rfl (lv_at hl 0 rfl) ?_
  refine lv_sipush (v := 128) hx hb dc_M_putRow_14 (by decide) ?_
  refine lv_iload_n hx hb dc_M_putRow_17 rfl (lv_at hl 2 rfl) ?_
  refine lv_iadd hx hb dc_M_putRow_18 ?_
  obtain ⟨u2, eu2, hF⟩ := pl_bd hF
  obtain ⟨q1, eq1, hF⟩ := pl_bd hF
  refine pl_gv (pl_runV (Cn := rn_M) (k := 1) C (tm_M_put l D dA tt b n eq1) w hS rfl rfl mw_881 mw_883 mw_40 mw_72 mw_884 (by decide +kernel) ⟨by decide, by decide⟩ eu2 rfl (by decide) rfl hl.1 (Nat.le_of_ble_eq_true rfl) ⟨Nat.zero_le _, Nat.zero_le _⟩ rfl dc_M_putRow_19) hS (fun H locs w hS => ?_)
  exact tl_M_putRow_22 C hF w hS (lv_sub hl [0, 1, 2] rfl)
set_option maxHeartbeats 4000000 in
set_option maxRecDepth 100000 in
theorem tl_M_putRow {p : Program} {l : Launch} {e : Env} {s : State} {m : MethodId} {args : Array Value} {below : List Frame} {meth : Method} {c : Code} {D : va_G} {dA : Nat → ClassId} {tt : Nat → Nat} {b n : Nat} (C : pl_C p s m args meth c co_M_putRow 4 rn_M none "putRow" D dA tt b) {f' : pl_H} {f : pl_H} {a0 : Nat} {a1 : Nat} {x2 : Int32} {H : Heap} {locs : List Loc} {ls : Array Slot} (hF : fn_M_putRow f a0 a1 x2 = some f') (w : pl_wd D vwCl dA b n f H) (hS : va_S (pl_A b) s.heap H locs) (hl : lv_has ls 4 [(0, .ref a0), (1, .ref a1), (2, .int x2)]) : W p l e rm_M_putRow s m args below meth c H locs 0 0 (MQ below (pl_qV D dA tt b n f') args s 0 0 (pl_A b)) (F0 m 0 ls []) := by
  have hx := C.1
  have hb := C.2.1
  have hown := C.2.2.2.2.1
  have hts := C.2.2.2.2.2.2.1
  unfold fn_M_putRow at hF
  refine lv_iload_n hx hb dc_M_putRow_0 rfl (lv_at hl 2 rfl) ?_
  refine lv_iconst (v := 1) hx hb dc_M_putRow_1 (by decide) ?_
  refine lv_icmp_ne hx hb dc_M_putRow_2 (tgt := 13) (by decide) (fun hc => ?_) (fun hc => ?_)
  · have hF := (if_neg hc).symm.trans hF
    exact tl_M_putRow_13 C hF w hS (lv_sub hl [0, 1, 2] rfl)
  · have hF := (if_pos hc).symm.trans hF
    refine lv_aload_n hx hb dc_M_putRow_5 rfl (lv_at hl 1 rfl) ?_
    refine lv_iconst (v := 0) hx hb dc_M_putRow_6 (by decide) ?_
    obtain ⟨v1, ev1, hF⟩ := pl_bd hF
    refine pl_aldI C w ev1 dc_M_putRow_7 ?_
    refine lv_bipush (v := 127) hx hb dc_M_putRow_8 (by decide) ?_
    refine lv_icmp_le hx hb dc_M_putRow_10 (tgt := 22) (by decide) (fun hc => ?_) (fun hc => ?_)
    · have hF := (if_pos hc).symm.trans hF
      exact tl_M_putRow_22 C hF w hS (lv_sub hl [0, 1, 2] rfl)
    · have hF := (if_neg hc).symm.trans hF
      exact tl_M_putRow_13 C hF w hS (lv_sub hl [0, 1, 2] rfl)
set_option maxHeartbeats 4000000 in
set_option maxRecDepth 100000 in
theorem tm_M_putRow (l : Launch) (D : va_G) (dA : Nat → ClassId) (tt : Nat → Nat) (b n : Nat) {f : pl_H} {a0 : Nat} {a1 : Nat} {x2 : Int32} {f' : pl_H} (hF : fn_M_putRow f a0 a1 x2 = some f') : Met l my_M_putRow (Cond.code my_M_putRow co_M_putRow 4 none :: pl_tb) rm_M_putRow (va_Pc [.ref a0, .ref a1, .int x2] (pl_pre D dA tt b n f)) (pl_qV D dA tt b n f') 0 0 (pl_A b) := by
  refine Met.ofW (cc := co_M_putRow) (maxL := 4) (ret := none) (by decide) rfl ?_
  intro p e s m args below meth c s₁ B hml hv
  obtain ⟨rfl, w, hK⟩ := hv
  have C : pl_C p s m _ meth c co_M_putRow 4 rn_M none "putRow" D dA tt b := ⟨B.exec, B.bytes, hml, B.returns, findClass_of_methodNamed B.named, B.notSynchronized, fun w hw => atoms_spec (ws := Cond.code my_M_putRow co_M_putRow 4 none :: pl_tb) B.pre w (List.mem_cons_of_mem _ hw), (name_of_methodNamed B.named B.method).1, hK⟩
  have hl := lv_entry ([.ref a0, .ref a1, .int x2]) (n := 4) (Nat.le_of_ble_eq_true rfl)
  rw [lg_entry_eq]
  generalize (lg_sl ([.ref a0, .ref a1, .int x2]) ++ List.replicate (4 - (lg_sl ([.ref a0, .ref a1, .int x2])).length) Slot.unset).toArray = ls at hl ⊢
  have hl : lv_has ls 4 [(0, .ref a0), (1, .ref a1), (2, .int x2)] := hl
  exact tl_M_putRow C hF w va_S.rf hl
def rm_M_finish : Room := { frames := 0, cells := 0, slots := 0, locals := 0 }
def fn_M_finish_117 : Nat → pl_H → Nat → Int32 → Option (pl_H)
  | 0 => fun _ _ _ => none
  | k + 1 => fun f a0 x1 => (pl_gI f a0 8 10).bind fun v1 => if v1 ≤ x1 then (pl_gI f a0 8 12).bind fun v2 => (pl_gI f a0 8 10).bind fun v3 => (pl_pV f a0 8 12 (.int (v2 + v3))).bind fun f4 => some f4 else (pl_gR f a0 8 13).bind fun v5 => (pl_gI f a0 8 12).bind fun v6 => (pl_gR f a0 8 11).bind fun v7 => (pl_aI f v7 x1).bind fun v8 => (pl_sI f v5 (v6 + x1) v8).bind fun f9 => fn_M_finish_117 k f9 a0 (x1 + 1)
def fn_M_finish_115 (f : pl_H) (a0 : Nat) : Option (pl_H) := fn_M_finish_117 pl_N f a0 0
def fn_M_finish (f : pl_H) (a0 : Nat) : Option (pl_H) := (pl_pV f a0 8 12 (.int 0)).bind fun f1 => (pl_gI f1 a0 8 10).bind fun v2 => if 55 < v2 then (pl_gI f1 a0 8 10).bind fun v3 => if 256 ≤ v3 then (pl_gR f1 a0 8 13).bind fun v4 => (pl_sI f1 v4 0 249).bind fun f5 => (pl_gR f5 a0 8 13).bind fun v6 => (pl_gI f5 a0 8 10).bind fun v7 => (pl_sI f5 v6 1 (v7 / 256)).bind fun f8 => (pl_gR f8 a0 8 13).bind fun v9 => (pl_gI f8 a0 8 10).bind fun v10 => (pl_sI f8 v9 2 (v10 - v10 / 256 * 256)).bind fun f11 => (pl_pV f11 a0 8 12 (.int 3)).bind fun f12 => fn_M_finish_115 f12 a0 else (pl_gR f1 a0 8 13).bind fun v13 => (pl_sI f1 v13 0 248).bind fun f14 => (pl_gR f14 a0 8 13).bind fun v15 => (pl_gI f14 a0 8 10).bind fun v16 => (pl_sI f14 v15 1 v16).bind fun f17 => (pl_pV f17 a0 8 12 (.int 2)).bind fun f18 => fn_M_finish_115 f18 a0 else (pl_gR f1 a0 8 13).bind fun v19 => (pl_gI f1 a0 8 10).bind fun v20 => (pl_sI f1 v19 0 (192 + v20)).bind fun f21 => (pl_pV f21 a0 8 12 (.int 1)).bind fun f22 => fn_M_finish_115 f22 a0
set_option maxHeartbeats 4000000 in
set_option maxRecDepth 100000 in
theorem tl_M_finish_117 {p : Program} {l : Launch} {e : Env} {s : State} {m : MethodId} {args : Array Value} {below : List Frame} {meth : Method} {c : Code} {D : va_G} {dA : Nat → ClassId} {tt : Nat → Nat} {b n : Nat} (C : pl_C p s m args meth c co_M_finish 2 rn_M none "finish" D dA tt b) {f' : pl_H} : ∀ k : Nat, ∀ (f : pl_H) (a0 : Nat) (x1 : Int32) (H : Heap) (locs : List Loc) (ls : Array Slot), fn_M_finish_117 k f a0 x1 = some f' → pl_wd D vwCl dA b n f H → va_S (pl_A b) s.heap H locs → lv_has ls 2 [(0, .ref a0), (1, .int x1)] → W p l e rm_M_finish s m args below meth c H locs 0 0 (MQ below (pl_qV D dA tt b n f') args s 0 0 (pl_A b)) (F0 m 117 ls []) := by
  have hx := C.1
  have hb := C.2.1
  have hown := C.2.2.2.2.1
  have hts := C.2.2.2.2.2.2.1
  intro k
  induction k with
  | zero =>
    intro f a0 x1 H locs ls hF
    cases hF
  | succ k ih =>
    intro f a0 x1 H locs ls hF w hS hl
    unfold fn_M_finish_117 at hF
    refine lv_iload_n hx hb dc_M_finish_117 rfl (lv_at hl 1 rfl) ?_
    refine lv_aload_n hx hb dc_M_finish_118 rfl (lv_at hl 0 rfl) ?_
    obtain ⟨v1, ev1, hF⟩ := pl_bd hF
    refine pl_getI C w (ci := 8) in_M rfl (by decide) 10 (by decide) mw_707 ev1 dc_M_finish_119 ?_
    refine lv_icmp_ge hx hb dc_M_finish_122 (tgt := 148) (by decide) (fun hc => ?_) (fun hc => ?_)
    · have hF := (if_pos hc).symm.trans hF
      refine lv_aload_n hx hb dc_M_finish_148 rfl (lv_at hl 0 rfl) ?_
      refine lv_aload_n hx hb dc_M_finish_149 rfl (lv_at hl 0 rfl) ?_
      obtain ⟨v2, ev2, hF⟩ := pl_bd hF
      refine pl_getI C w (ci := 8) in_M rfl (by decide) 12 (by decide) mw_709 ev2 dc_M_finish_150 ?_
      refine lv_aload_n hx hb dc_M_finish_153 rfl (lv_at hl 0 rfl) ?_
      obtain ⟨v3, ev3, hF⟩ := pl_bd hF
      refine pl_getI C w (ci := 8) in_M rfl (by decide) 10 (by decide) mw_707 ev3 dc_M_finish_154 ?_
      refine lv_iadd hx hb dc_M_finish_157 ?_
      obtain ⟨f4, ef4, hF⟩ := pl_bd hF
      refine pl_put C w hS (ci := 8) in_M rfl (by decide) rty_M_ok rnm_M 12 (by decide) mw_709 rfl rfl rfl ef4 dc_M_finish_158 (fun H locs w hS => ?_)
      exact pl_retVw C w hS hF dc_M_finish_161
    · have hF := (if_neg hc).symm.trans hF
      refine lv_aload_n hx hb dc_M_finish_125 rfl (lv_at hl 0 rfl) ?_
      obtain ⟨v5, ev5, hF⟩ := pl_bd hF
      refine pl_getR C w (ci := 8) in_M rfl (by decide) 13 (by decide) mw_710 ev5 dc_M_finish_126 ?_
      refine lv_aload_n hx hb dc_M_finish_129 rfl (lv_at hl 0 rfl) ?_
      obtain ⟨v6, ev6, hF⟩ := pl_bd hF
      refine pl_getI C w (ci := 8) in_M rfl (by decide) 12 (by decide) mw_709 ev6 dc_M_finish_130 ?_
      refine lv_iload_n hx hb dc_M_finish_133 rfl (lv_at hl 1 rfl) ?_
      refine lv_iadd hx hb dc_M_finish_134 ?_
      refine lv_aload_n hx hb dc_M_finish_135 rfl (lv_at hl 0 rfl) ?_
      obtain ⟨v7, ev7, hF⟩ := pl_bd hF
      refine pl_getR C w (ci := 8) in_M rfl (by decide) 11 (by decide) mw_708 ev7 dc_M_finish_136 ?_
      refine lv_iload_n hx hb dc_M_finish_139 rfl (lv_at hl 1 rfl) ?_
      obtain ⟨v8, ev8, hF⟩ := pl_bd hF
      refine pl_aldI C w ev8 dc_M_finish_140 ?_
      obtain ⟨f9, ef9, hF⟩ := pl_bd hF
      refine pl_astI C w hS ef9 dc_M_finish_141 (fun H locs w hS => ?_)
      refine lv_iinc (k := 1) (v := x1 + 1) (lv' := [(1, .int (x1 + 1)), (0, .ref a0)]) hx hb dc_M_finish_142 hl rfl rfl (by decide) rfl (fun ls hl => ?_)
      refine lv_goto hx hb dc_M_finish_145 (tgt := 117) (by decide) ?_
      exact ih f9 a0 (x1 + 1) _ _ _ hF w hS (lv_sub hl [1, 0] rfl)
set_option maxHeartbeats 4000000 in
set_option maxRecDepth 100000 in
theorem tl_M_finish_115 {p : Program} {l : Launch} {e : Env} {s : State} {m : MethodId} {args : Array Value} {below : List Frame} {meth : Method} {c : Code} {D : va_G} {dA : Nat → ClassId} {tt : Nat → Nat} {b n : Nat} (C : pl_C p s m args meth c co_M_finish 2 rn_M none "finish" D dA tt b) {f' : pl_H} {f : pl_H} {a0 : Nat} {H : Heap} {locs : List Loc} {ls : Array Slot} (hF : fn_M_finish_115 f a0 = some f') (w : pl_wd D vwCl dA b n f H) (hS : va_S (pl_A b) s.heap H locs) (hl : lv_has ls 2 [(0, .ref a0)]) : W p l e rm_M_finish s m args below meth c H locs 0 0 (MQ below (pl_qV D dA tt b n f') args s 0 0 (pl_A b)) (F0 m 115 ls []) := by
  have hx := C.1
  have hb := C.2.1
  have hown := C.2.2.2.2.1
  have hts := C.2.2.2.2.2.2.1
  unfold fn_M_finish_115 at hF
  refine lv_iconst (v := 0) hx hb dc_M_finish_115 (by decide) ?_
  refine lv_istore_n (lv' := [(1, .int 0), (0, .ref a0)]) hx hb dc_M_finish_116 rfl hl (by decide) rfl (fun ls hl => ?_)
  exact tl_M_finish_117 C pl_N f a0 0 _ _ _ hF w hS (lv_sub hl [1, 0] rfl)
set_option maxHeartbeats 4000000 in
set_option maxRecDepth 100000 in
theorem tl_M_finish {p : Program} {l : Launch} {e : Env} {s : State} {m : MethodId} {args : Array Value} {below : List Frame} {meth : Method} {c : Code} {D : va_G} {dA : Nat → ClassId} {tt : Nat → Nat} {b n : Nat} (C : pl_C p s m args meth c co_M_finish 2 rn_M none "finish" D dA tt b) {f' : pl_H} {f : pl_H} {a0 : Nat} {H : Heap} {locs : List Loc} {ls : Array Slot} (hF : fn_M_finish f a0 = some f') (w : pl_wd D vwCl dA b n f H) (hS : va_S (pl_A b) s.heap H locs) (hl : lv_has ls 2 [(0, .ref a0)]) : W p l e rm_M_finish s m args below meth c H locs 0 0 (MQ below (pl_qV D dA tt b n f') args s 0 0 (pl_A b)) (F0 m 0 ls []) := by
  have hx := C.1
  have hb := C.2.1
  have hown := C.2.2.2.2.1
  have hts := C.2.2.2.2.2.2.1
  unfold fn_M_finish at hF
  refine lv_aload_n hx hb dc_M_finish_0 rfl (lv_at hl 0 rfl) ?_
  refine lv_iconst (v := 0) hx hb dc_M_finish_1 (by decide) ?_
  obtain ⟨f1, ef1, hF⟩ := pl_bd hF
  refine pl_put C w hS (ci := 8) in_M rfl (by decide) rty_M_ok rnm_M 12 (by decide) mw_709 rfl rfl rfl ef1 dc_M_finish_2 (fun H locs w hS => ?_)
  refine lv_aload_n hx hb dc_M_finish_5 rfl (lv_at hl 0 rfl) ?_
  obtain ⟨v2, ev2, hF⟩ := pl_bd hF
  refine pl_getI C w (ci := 8) in_M rfl (by decide) 10 (by decide) mw_707 ev2 dc_M_finish_6 ?_
  refine lv_bipush (v := 55) hx hb dc_M_finish_9 (by decide) ?_
  refine lv_icmp_gt hx hb dc_M_finish_11 (tgt := 36) (by decide) (fun hc => ?_) (fun hc => ?_)
  · have hF := (if_pos hc).symm.trans hF
    refine lv_aload_n hx hb dc_M_finish_36 rfl (lv_at hl 0 rfl) ?_
    obtain ⟨v3, ev3, hF⟩ := pl_bd hF
    refine pl_getI C w (ci := 8) in_M rfl (by decide) 10 (by decide) mw_707 ev3 dc_M_finish_37 ?_
    refine lv_sipush (v := 256) hx hb dc_M_finish_40 (by decide) ?_
    refine lv_icmp_ge hx hb dc_M_finish_43 (tgt := 73) (by decide) (fun hc => ?_) (fun hc => ?_)
    · have hF := (if_pos hc).symm.trans hF
      refine lv_aload_n hx hb dc_M_finish_73 rfl (lv_at hl 0 rfl) ?_
      obtain ⟨v4, ev4, hF⟩ := pl_bd hF
      refine pl_getR C w (ci := 8) in_M rfl (by decide) 13 (by decide) mw_710 ev4 dc_M_finish_74 ?_
      refine lv_iconst (v := 0) hx hb dc_M_finish_77 (by decide) ?_
      refine lv_sipush (v := 249) hx hb dc_M_finish_78 (by decide) ?_
      obtain ⟨f5, ef5, hF⟩ := pl_bd hF
      refine pl_astI C w hS ef5 dc_M_finish_81 (fun H locs w hS => ?_)
      refine lv_aload_n hx hb dc_M_finish_82 rfl (lv_at hl 0 rfl) ?_
      obtain ⟨v6, ev6, hF⟩ := pl_bd hF
      refine pl_getR C w (ci := 8) in_M rfl (by decide) 13 (by decide) mw_710 ev6 dc_M_finish_83 ?_
      refine lv_iconst (v := 1) hx hb dc_M_finish_86 (by decide) ?_
      refine lv_aload_n hx hb dc_M_finish_87 rfl (lv_at hl 0 rfl) ?_
      obtain ⟨v7, ev7, hF⟩ := pl_bd hF
      refine pl_getI C w (ci := 8) in_M rfl (by decide) 10 (by decide) mw_707 ev7 dc_M_finish_88 ?_
      refine lv_sipush (v := 256) hx hb dc_M_finish_91 (by decide) ?_
      refine lv_idiv hx hb dc_M_finish_94 (by decide) ?_
      obtain ⟨f8, ef8, hF⟩ := pl_bd hF
      refine pl_astI C w hS ef8 dc_M_finish_95 (fun H locs w hS => ?_)
      refine lv_aload_n hx hb dc_M_finish_96 rfl (lv_at hl 0 rfl) ?_
      obtain ⟨v9, ev9, hF⟩ := pl_bd hF
      refine pl_getR C w (ci := 8) in_M rfl (by decide) 13 (by decide) mw_710 ev9 dc_M_finish_97 ?_
      refine lv_iconst (v := 2) hx hb dc_M_finish_100 (by decide) ?_
      refine lv_aload_n hx hb dc_M_finish_101 rfl (lv_at hl 0 rfl) ?_
      obtain ⟨v10, ev10, hF⟩ := pl_bd hF
      refine pl_getI C w (ci := 8) in_M rfl (by decide) 10 (by decide) mw_707 ev10 dc_M_finish_102 ?_
      refine lv_sipush (v := 256) hx hb dc_M_finish_105 (by decide) ?_
      refine lv_irem hx hb dc_M_finish_108 (by decide) ?_
      obtain ⟨f11, ef11, hF⟩ := pl_bd hF
      refine pl_astI C w hS ef11 dc_M_finish_109 (fun H locs w hS => ?_)
      refine lv_aload_n hx hb dc_M_finish_110 rfl (lv_at hl 0 rfl) ?_
      refine lv_iconst (v := 3) hx hb dc_M_finish_111 (by decide) ?_
      obtain ⟨f12, ef12, hF⟩ := pl_bd hF
      refine pl_put C w hS (ci := 8) in_M rfl (by decide) rty_M_ok rnm_M 12 (by decide) mw_709 rfl rfl rfl ef12 dc_M_finish_112 (fun H locs w hS => ?_)
      exact tl_M_finish_115 C hF w hS (lv_sub hl [0] rfl)
    · have hF := (if_neg hc).symm.trans hF
      refine lv_aload_n hx hb dc_M_finish_46 rfl (lv_at hl 0 rfl) ?_
      obtain ⟨v13, ev13, hF⟩ := pl_bd hF
      refine pl_getR C w (ci := 8) in_M rfl (by decide) 13 (by decide) mw_710 ev13 dc_M_finish_47 ?_
      refine lv_iconst (v := 0) hx hb dc_M_finish_50 (by decide) ?_
      refine lv_sipush (v := 248) hx hb dc_M_finish_51 (by decide) ?_
      obtain ⟨f14, ef14, hF⟩ := pl_bd hF
      refine pl_astI C w hS ef14 dc_M_finish_54 (fun H locs w hS => ?_)
      refine lv_aload_n hx hb dc_M_finish_55 rfl (lv_at hl 0 rfl) ?_
      obtain ⟨v15, ev15, hF⟩ := pl_bd hF
      refine pl_getR C w (ci := 8) in_M rfl (by decide) 13 (by decide) mw_710 ev15 dc_M_finish_56 ?_
      refine lv_iconst (v := 1) hx hb dc_M_finish_59 (by decide) ?_
      refine lv_aload_n hx hb dc_M_finish_60 rfl (lv_at hl 0 rfl) ?_
      obtain ⟨v16, ev16, hF⟩ := pl_bd hF
      refine pl_getI C w (ci := 8) in_M rfl (by decide) 10 (by decide) mw_707 ev16 dc_M_finish_61 ?_
      obtain ⟨f17, ef17, hF⟩ := pl_bd hF
      refine pl_astI C w hS ef17 dc_M_finish_64 (fun H locs w hS => ?_)
      refine lv_aload_n hx hb dc_M_finish_65 rfl (lv_at hl 0 rfl) ?_
      refine lv_iconst (v := 2) hx hb dc_M_finish_66 (by decide) ?_
      obtain ⟨f18, ef18, hF⟩ := pl_bd hF
      refine pl_put C w hS (ci := 8) in_M rfl (by decide) rty_M_ok rnm_M 12 (by decide) mw_709 rfl rfl rfl ef18 dc_M_finish_67 (fun H locs w hS => ?_)
      refine lv_goto hx hb dc_M_finish_70 (tgt := 115) (by decide) ?_
      exact tl_M_finish_115 C hF w hS (lv_sub hl [0] rfl)
  · have hF := (if_neg hc).symm.trans hF
    refine lv_aload_n hx hb dc_M_finish_14 rfl (lv_at hl 0 rfl) ?_
    obtain ⟨v19, ev19, hF⟩ := pl_bd hF
    refine pl_getR C w (ci := 8) in_M rfl (by decide) 13 (by decide) mw_710 ev19 dc_M_finish_15 ?_
    refine lv_iconst (v := 0) hx hb dc_M_finish_18 (by decide) ?_
    refine lv_sipush (v := 192) hx hb dc_M_finish_19 (by decide) ?_
    refine lv_aload_n hx hb dc_M_finish_22 rfl (lv_at hl 0 rfl) ?_
    obtain ⟨v20, ev20, hF⟩ := pl_bd hF
    refine pl_getI C w (ci := 8) in_M rfl (by decide) 10 (by decide) mw_707 ev20 dc_M_finish_23 ?_
    refine lv_iadd hx hb dc_M_finish_26 ?_
    obtain ⟨f21, ef21, hF⟩ := pl_bd hF
    refine pl_astI C w hS ef21 dc_M_finish_27 (fun H locs w hS => ?_)
    refine lv_aload_n hx hb dc_M_finish_28 rfl (lv_at hl 0 rfl) ?_
    refine lv_iconst (v := 1) hx hb dc_M_finish_29 (by decide) ?_
    obtain ⟨f22, ef22, hF⟩ := pl_bd hF
    refine pl_put C w hS (ci := 8) in_M rfl (by decide) rty_M_ok rnm_M 12 (by decide) mw_709 rfl rfl rfl ef22 dc_M_finish_30 (fun H locs w hS => ?_)
    refine lv_goto hx hb dc_M_finish_33 (tgt := 115) (by decide) ?_
    exact tl_M_finish_115 C hF w hS (lv_sub hl [0] rfl)
set_option maxHeartbeats 4000000 in
set_option maxRecDepth 100000 in
theorem tm_M_finish (l : Launch) (D : va_G) (dA : Nat → ClassId) (tt : Nat → Nat) (b n : Nat) {f : pl_H} {a0 : Nat} {f' : pl_H} (hF : fn_M_finish f a0 = some f') : Met l my_M_finish (Cond.code my_M_finish co_M_finish 2 none :: pl_tb) rm_M_finish (va_Pc [.ref a0] (pl_pre D dA tt b n f)) (pl_qV D dA tt b n f') 0 0 (pl_A b) := by
  refine Met.ofW (cc := co_M_finish) (maxL := 2) (ret := none) (by decide) rfl ?_
  intro p e s m args below meth c s₁ B hml hv
  obtain ⟨rfl, w, hK⟩ := hv
  have C : pl_C p s m _ meth c co_M_finish 2 rn_M none "finish" D dA tt b := ⟨B.exec, B.bytes, hml, B.returns, findClass_of_methodNamed B.named, B.notSynchronized, fun w hw => atoms_spec (ws := Cond.code my_M_finish co_M_finish 2 none :: pl_tb) B.pre w (List.mem_cons_of_mem _ hw), (name_of_methodNamed B.named B.method).1, hK⟩
  have hl := lv_entry ([.ref a0]) (n := 2) (Nat.le_of_ble_eq_true rfl)
  rw [lg_entry_eq]
  generalize (lg_sl ([.ref a0]) ++ List.replicate (2 - (lg_sl ([.ref a0])).length) Slot.unset).toArray = ls at hl ⊢
  have hl : lv_has ls 2 [(0, .ref a0)] := hl
  exact tl_M_finish C hF w va_S.rf hl
def rm_M_bytesOf : Room := { frames := 0, cells := 0, slots := 0, locals := 0 }
def fn_M_bytesOf_4 : Nat → pl_H → Int32 → Int64 → Option (Int32)
  | 0 => fun _ _ _ => none
  | k + 1 => fun f x2 y3 => if (lg_cmp y3 0) ≤ 0 then some x2 else fn_M_bytesOf_4 k f (x2 + 1) (y3 / 256)
def fn_M_bytesOf (f : pl_H) (y0 : Int64) : Option (Int32) := fn_M_bytesOf_4 pl_N f 0 y0
set_option maxHeartbeats 4000000 in
set_option maxRecDepth 100000 in
theorem tl_M_bytesOf_4 {p : Program} {l : Launch} {e : Env} {s : State} {m : MethodId} {args : Array Value} {below : List Frame} {meth : Method} {c : Code} {D : va_G} {dA : Nat → ClassId} {tt : Nat → Nat} {b n : Nat} (C : pl_C p s m args meth c co_M_bytesOf 5 rn_M (some .int) "bytesOf" D dA tt b) {r : Int32} {f : pl_H} : ∀ k : Nat, ∀ (x2 : Int32) (y3 : Int64) (H : Heap) (locs : List Loc) (ls : Array Slot), fn_M_bytesOf_4 k f x2 y3 = some r → pl_wd D vwCl dA b n f H → va_S (pl_A b) s.heap H locs → lv_has ls 5 [(2, .int x2), (3, .long y3)] → W p l e rm_M_bytesOf s m args below meth c H locs 0 0 (MQ below (pl_qI D dA tt b n f r) args s 0 0 (pl_A b)) (F0 m 4 ls []) := by
  have hx := C.1
  have hb := C.2.1
  have hown := C.2.2.2.2.1
  have hts := C.2.2.2.2.2.2.1
  intro k
  induction k with
  | zero =>
    intro x2 y3 H locs ls hF
    cases hF
  | succ k ih =>
    intro x2 y3 H locs ls hF w hS hl
    unfold fn_M_bytesOf_4 at hF
    refine lv_lload_n hx hb dc_M_bytesOf_4 rfl (lv_at hl 1 rfl) ?_
    refine lv_lconst (v := 0) hx hb dc_M_bytesOf_5 (by decide) ?_
    refine W.lcmp hx hb dc_M_bytesOf_6 ?_
    refine lv_if_le hx hb dc_M_bytesOf_7 (tgt := 22) (by decide) (fun hc => ?_) (fun hc => ?_)
    · have hF := (if_pos hc).symm.trans hF
      refine lv_iload_n hx hb dc_M_bytesOf_22 rfl (lv_at hl 0 rfl) ?_
      exact pl_retI C w hS hF dc_M_bytesOf_23
    · have hF := (if_neg hc).symm.trans hF
      refine lv_iinc (k := 0) (v := x2 + 1) (lv' := [(2, .int (x2 + 1)), (3, .long y3)]) hx hb dc_M_bytesOf_10 hl rfl rfl (by decide) rfl (fun ls hl => ?_)
      refine lv_lload_n hx hb dc_M_bytesOf_13 rfl (lv_at hl 1 rfl) ?_
      refine lv_ldc2 (v := 256) hx hb hown (hts _ mw_892) dc_M_bytesOf_14 ?_
      refine lv_ldiv hx hb dc_M_bytesOf_17 (by decide) ?_
      refine lv_lstore_n (lv' := [(3, .long (y3 / 256)), (2, .int (x2 + 1))]) hx hb dc_M_bytesOf_18 rfl hl (by decide) rfl (fun ls hl => ?_)
      refine lv_goto hx hb dc_M_bytesOf_19 (tgt := 4) (by decide) ?_
      exact ih (x2 + 1) (y3 / 256) _ _ _ hF w hS (lv_sub hl [1, 0] rfl)
set_option maxHeartbeats 4000000 in
set_option maxRecDepth 100000 in
theorem tl_M_bytesOf {p : Program} {l : Launch} {e : Env} {s : State} {m : MethodId} {args : Array Value} {below : List Frame} {meth : Method} {c : Code} {D : va_G} {dA : Nat → ClassId} {tt : Nat → Nat} {b n : Nat} (C : pl_C p s m args meth c co_M_bytesOf 5 rn_M (some .int) "bytesOf" D dA tt b) {r : Int32} {f : pl_H} {y0 : Int64} {H : Heap} {locs : List Loc} {ls : Array Slot} (hF : fn_M_bytesOf f y0 = some r) (w : pl_wd D vwCl dA b n f H) (hS : va_S (pl_A b) s.heap H locs) (hl : lv_has ls 5 [(0, .long y0)]) : W p l e rm_M_bytesOf s m args below meth c H locs 0 0 (MQ below (pl_qI D dA tt b n f r) args s 0 0 (pl_A b)) (F0 m 0 ls []) := by
  have hx := C.1
  have hb := C.2.1
  have hown := C.2.2.2.2.1
  have hts := C.2.2.2.2.2.2.1
  unfold fn_M_bytesOf at hF
  refine lv_iconst (v := 0) hx hb dc_M_bytesOf_0 (by decide) ?_
  refine lv_istore_n (lv' := [(2, .int 0), (0, .long y0)]) hx hb dc_M_bytesOf_1 rfl hl (by decide) rfl (fun ls hl => ?_)
  refine lv_lload_n hx hb dc_M_bytesOf_2 rfl (lv_at hl 1 rfl) ?_
  refine lv_lstore_n (lv' := [(3, .long y0), (2, .int 0), (0, .long y0)]) hx hb dc_M_bytesOf_3 rfl hl (by decide) rfl (fun ls hl => ?_)
  exact tl_M_bytesOf_4 C pl_N 0 y0 _ _ _ hF w hS (lv_sub hl [1, 0] rfl)
set_option maxHeartbeats 4000000 in
set_option maxRecDepth 100000 in
theorem tm_M_bytesOf (l : Launch) (D : va_G) (dA : Nat → ClassId) (tt : Nat → Nat) (b n : Nat) {f : pl_H} {y0 : Int64} {r : Int32} (hF : fn_M_bytesOf f y0 = some r) : Met l my_M_bytesOf (Cond.code my_M_bytesOf co_M_bytesOf 5 (some .int) :: pl_tb) rm_M_bytesOf (va_Pc [.long y0] (pl_pre D dA tt b n f)) (pl_qI D dA tt b n f r) 0 0 (pl_A b) := by
  refine Met.ofW (cc := co_M_bytesOf) (maxL := 5) (ret := (some .int)) (by decide) rfl ?_
  intro p e s m args below meth c s₁ B hml hv
  obtain ⟨rfl, w, hK⟩ := hv
  have C : pl_C p s m _ meth c co_M_bytesOf 5 rn_M (some .int) "bytesOf" D dA tt b := ⟨B.exec, B.bytes, hml, B.returns, findClass_of_methodNamed B.named, B.notSynchronized, fun w hw => atoms_spec (ws := Cond.code my_M_bytesOf co_M_bytesOf 5 (some .int) :: pl_tb) B.pre w (List.mem_cons_of_mem _ hw), (name_of_methodNamed B.named B.method).1, hK⟩
  have hl := lv_entry ([.long y0]) (n := 5) (Nat.le_of_ble_eq_true rfl)
  rw [lg_entry_eq]
  generalize (lg_sl ([.long y0]) ++ List.replicate (5 - (lg_sl ([.long y0])).length) Slot.unset).toArray = ls at hl ⊢
  have hl : lv_has ls 5 [(0, .long y0)] := hl
  exact tl_M_bytesOf C hF w va_S.rf hl
def rm_M_putNumber : Room := { frames := 1, cells := 0, slots := 0, locals := 24 }
def fn_M_putNumber_45 : Nat → pl_H → Nat → Int64 → Int32 → Int32 → Option (Int32 × pl_H)
  | 0 => fun _ _ _ _ _ => none
  | k + 1 => fun f a0 y2 x5 x6 => if x6 < 0 then some (x5, f) else (pl_gR f a0 8 15).bind fun v1 => (pl_sI f v1 x5 ((((y2 >>> (((8 * x6) : Int32).toInt64 &&& 63)) &&& 255) : Int64).toInt32)).bind fun f2 => fn_M_putNumber_45 k f2 a0 y2 (x5 + 1) (x6 + (-1))
def fn_M_putNumber_39 (f : pl_H) (a0 : Nat) (y2 : Int64) (x4 : Int32) (x5 : Int32) : Option (Int32 × pl_H) := fn_M_putNumber_45 pl_N f a0 y2 x5 (x4 - 1)
def fn_M_putNumber_23 (f : pl_H) (a0 : Nat) (y2 : Int64) (x4 : Int32) (x5 : Int32) : Option (Int32 × pl_H) := (pl_gR f a0 8 15).bind fun v1 => (pl_sI f v1 x5 (128 + x4)).bind fun f2 => fn_M_putNumber_39 f2 a0 y2 x4 (x5 + 1)
def fn_M_putNumber (f : pl_H) (a0 : Nat) (x1 : Int32) (y2 : Int64) : Option (Int32 × pl_H) := (fn_M_bytesOf f y2).bind fun v1 => if v1 = 1 then if (lg_cmp y2 127) ≤ 0 then fn_M_putNumber_39 f a0 y2 v1 x1 else fn_M_putNumber_23 f a0 y2 v1 x1 else fn_M_putNumber_23 f a0 y2 v1 x1
set_option maxHeartbeats 4000000 in
set_option maxRecDepth 100000 in
theorem tl_M_putNumber_45 {p : Program} {l : Launch} {e : Env} {s : State} {m : MethodId} {args : Array Value} {below : List Frame} {meth : Method} {c : Code} {D : va_G} {dA : Nat → ClassId} {tt : Nat → Nat} {b n : Nat} (C : pl_C p s m args meth c co_M_putNumber 7 rn_M (some .int) "putNumber" D dA tt b) {r : Int32} {f' : pl_H} : ∀ k : Nat, ∀ (f : pl_H) (a0 : Nat) (y2 : Int64) (x5 : Int32) (x6 : Int32) (H : Heap) (locs : List Loc) (ls : Array Slot), fn_M_putNumber_45 k f a0 y2 x5 x6 = some (r, f') → pl_wd D vwCl dA b n f H → va_S (pl_A b) s.heap H locs → lv_has ls 7 [(0, .ref a0), (2, .long y2), (5, .int x5), (6, .int x6)] → W p l e rm_M_putNumber s m args below meth c H locs 0 0 (MQ below (pl_qI D dA tt b n f' r) args s 0 0 (pl_A b)) (F0 m 45 ls []) := by
  have hx := C.1
  have hb := C.2.1
  have hown := C.2.2.2.2.1
  have hts := C.2.2.2.2.2.2.1
  intro k
  induction k with
  | zero =>
    intro f a0 y2 x5 x6 H locs ls hF
    cases hF
  | succ k ih =>
    intro f a0 y2 x5 x6 H locs ls hF w hS hl
    unfold fn_M_putNumber_45 at hF
    refine lv_iload hx hb dc_M_putNumber_45 (lv_at hl 3 rfl) ?_
    refine lv_if_lt hx hb dc_M_putNumber_47 (tgt := 78) (by decide) (fun hc => ?_) (fun hc => ?_)
    · have hF := (if_pos hc).symm.trans hF
      refine lv_iload hx hb dc_M_putNumber_78 (lv_at hl 2 rfl) ?_
      exact pl_retIw C w hS hF dc_M_putNumber_80
    · have hF := (if_neg hc).symm.trans hF
      refine lv_aload_n hx hb dc_M_putNumber_50 rfl (lv_at hl 0 rfl) ?_
      obtain ⟨v1, ev1, hF⟩ := pl_bd hF
      refine pl_getR C w (ci := 8) in_M rfl (by decide) 15 (by decide) mw_712 ev1 dc_M_putNumber_51 ?_
      refine lv_iload hx hb dc_M_putNumber_54 (lv_at hl 2 rfl) ?_
      refine lv_lload_n hx hb dc_M_putNumber_56 rfl (lv_at hl 1 rfl) ?_
      refine lv_bipush (v := 8) hx hb dc_M_putNumber_57 (by decide) ?_
      refine lv_iload hx hb dc_M_putNumber_59 (lv_at hl 3 rfl) ?_
      refine lv_imul hx hb dc_M_putNumber_61 ?_
      refine lv_lshr hx hb dc_M_putNumber_62 rfl ?_
      refine lv_ldc2 (v := 255) hx hb hown (hts _ mw_894) dc_M_putNumber_63 ?_
      refine lv_land hx hb dc_M_putNumber_66 ?_
      refine lv_l2i hx hb dc_M_putNumber_67 rfl ?_
      obtain ⟨f2, ef2, hF⟩ := pl_bd hF
      refine pl_astI C w hS ef2 dc_M_putNumber_68 (fun H locs w hS => ?_)
      refine lv_iinc (k := 2) (v := x5 + 1) (lv' := [(5, .int (x5 + 1)), (0, .ref a0), (2, .long y2), (6, .int x6)]) hx hb dc_M_putNumber_69 hl rfl rfl (by decide) rfl (fun ls hl => ?_)
      refine lv_iinc (k := 3) (v := x6 + (-1)) (lv' := [(6, .int (x6 + (-1))), (5, .int (x5 + 1)), (0, .ref a0), (2, .long y2)]) hx hb dc_M_putNumber_72 hl rfl rfl (by decide) rfl (fun ls hl => ?_)
      refine lv_goto hx hb dc_M_putNumber_75 (tgt := 45) (by decide) ?_
      exact ih f2 a0 y2 (x5 + 1) (x6 + (-1)) _ _ _ hF w hS (lv_sub hl [2, 3, 1, 0] rfl)
set_option maxHeartbeats 4000000 in
set_option maxRecDepth 100000 in
theorem tl_M_putNumber_39 {p : Program} {l : Launch} {e : Env} {s : State} {m : MethodId} {args : Array Value} {below : List Frame} {meth : Method} {c : Code} {D : va_G} {dA : Nat → ClassId} {tt : Nat → Nat} {b n : Nat} (C : pl_C p s m args meth c co_M_putNumber 7 rn_M (some .int) "putNumber" D dA tt b) {r : Int32} {f' : pl_H} {f : pl_H} {a0 : Nat} {y2 : Int64} {x4 : Int32} {x5 : Int32} {H : Heap} {locs : List Loc} {ls : Array Slot} (hF : fn_M_putNumber_39 f a0 y2 x4 x5 = some (r, f')) (w : pl_wd D vwCl dA b n f H) (hS : va_S (pl_A b) s.heap H locs) (hl : lv_has ls 7 [(0, .ref a0), (2, .long y2), (4, .int x4), (5, .int x5)]) : W p l e rm_M_putNumber s m args below meth c H locs 0 0 (MQ below (pl_qI D dA tt b n f' r) args s 0 0 (pl_A b)) (F0 m 39 ls []) := by
  have hx := C.1
  have hb := C.2.1
  have hown := C.2.2.2.2.1
  have hts := C.2.2.2.2.2.2.1
  unfold fn_M_putNumber_39 at hF
  refine lv_iload hx hb dc_M_putNumber_39 (lv_at hl 2 rfl) ?_
  refine lv_iconst (v := 1) hx hb dc_M_putNumber_41 (by decide) ?_
  refine lv_isub hx hb dc_M_putNumber_42 ?_
  refine lv_istore (lv' := [(6, .int (x4 - 1)), (0, .ref a0), (2, .long y2), (4, .int x4), (5, .int x5)]) hx hb dc_M_putNumber_43 hl (by decide) rfl (fun ls hl => ?_)
  exact tl_M_putNumber_45 C pl_N f a0 y2 x5 (x4 - 1) _ _ _ hF w hS (lv_sub hl [1, 2, 4, 0] rfl)
set_option maxHeartbeats 4000000 in
set_option maxRecDepth 100000 in
theorem tl_M_putNumber_23 {p : Program} {l : Launch} {e : Env} {s : State} {m : MethodId} {args : Array Value} {below : List Frame} {meth : Method} {c : Code} {D : va_G} {dA : Nat → ClassId} {tt : Nat → Nat} {b n : Nat} (C : pl_C p s m args meth c co_M_putNumber 7 rn_M (some .int) "putNumber" D dA tt b) {r : Int32} {f' : pl_H} {f : pl_H} {a0 : Nat} {y2 : Int64} {x4 : Int32} {x5 : Int32} {H : Heap} {locs : List Loc} {ls : Array Slot} (hF : fn_M_putNumber_23 f a0 y2 x4 x5 = some (r, f')) (w : pl_wd D vwCl dA b n f H) (hS : va_S (pl_A b) s.heap H locs) (hl : lv_has ls 7 [(0, .ref a0), (2, .long y2), (4, .int x4), (5, .int x5)]) : W p l e rm_M_putNumber s m args below meth c H locs 0 0 (MQ below (pl_qI D dA tt b n f' r) args s 0 0 (pl_A b)) (F0 m 23 ls []) := by
  have hx := C.1
  have hb := C.2.1
  have hown := C.2.2.2.2.1
  have hts := C.2.2.2.2.2.2.1
  unfold fn_M_putNumber_23 at hF
  refine lv_aload_n hx hb dc_M_putNumber_23 rfl (lv_at hl 0 rfl) ?_
  obtain ⟨v1, ev1, hF⟩ := pl_bd hF
  refine pl_getR C w (ci := 8) in_M rfl (by decide) 15 (by decide) mw_712 ev1 dc_M_putNumber_24 ?_
  refine lv_iload hx hb dc_M_putNumber_27 (lv_at hl 3 rfl) ?_
  refine lv_sipush (v := 128) hx hb dc_M_putNumber_29 (by decide) ?_
  refine lv_iload hx hb dc_M_putNumber_32 (lv_at hl 2 rfl) ?_
  refine lv_iadd hx hb dc_M_putNumber_34 ?_
  obtain ⟨f2, ef2, hF⟩ := pl_bd hF
  refine pl_astI C w hS ef2 dc_M_putNumber_35 (fun H locs w hS => ?_)
  refine lv_iinc (k := 3) (v := x5 + 1) (lv' := [(5, .int (x5 + 1)), (0, .ref a0), (2, .long y2), (4, .int x4)]) hx hb dc_M_putNumber_36 hl rfl rfl (by decide) rfl (fun ls hl => ?_)
  exact tl_M_putNumber_39 C hF w hS (lv_sub hl [1, 2, 3, 0] rfl)
set_option maxHeartbeats 4000000 in
set_option maxRecDepth 100000 in
theorem tl_M_putNumber {p : Program} {l : Launch} {e : Env} {s : State} {m : MethodId} {args : Array Value} {below : List Frame} {meth : Method} {c : Code} {D : va_G} {dA : Nat → ClassId} {tt : Nat → Nat} {b n : Nat} (C : pl_C p s m args meth c co_M_putNumber 7 rn_M (some .int) "putNumber" D dA tt b) {r : Int32} {f' : pl_H} {f : pl_H} {a0 : Nat} {x1 : Int32} {y2 : Int64} {H : Heap} {locs : List Loc} {ls : Array Slot} (hF : fn_M_putNumber f a0 x1 y2 = some (r, f')) (w : pl_wd D vwCl dA b n f H) (hS : va_S (pl_A b) s.heap H locs) (hl : lv_has ls 7 [(0, .ref a0), (1, .int x1), (2, .long y2)]) : W p l e rm_M_putNumber s m args below meth c H locs 0 0 (MQ below (pl_qI D dA tt b n f' r) args s 0 0 (pl_A b)) (F0 m 0 ls []) := by
  have hx := C.1
  have hb := C.2.1
  have hown := C.2.2.2.2.1
  have hts := C.2.2.2.2.2.2.1
  unfold fn_M_putNumber at hF
  refine lv_lload_n hx hb dc_M_putNumber_0 rfl (lv_at hl 2 rfl) ?_
  obtain ⟨v1, ev1, hF⟩ := pl_bd hF
  refine pl_gi (pl_runS (k := 1) C (tm_M_bytesOf l D dA tt b n ev1) w hS rfl rfl mw_889 mw_890 mw_72 mw_891 (by decide +kernel) ⟨by decide, by decide⟩ rfl hl.1 (Nat.le_of_ble_eq_true rfl) ⟨Nat.zero_le _, Nat.zero_le _⟩ rfl dc_M_putNumber_1) hS (fun H locs w hS => ?_)
  refine lv_istore (lv' := [(4, .int v1), (0, .ref a0), (1, .int x1), (2, .long y2)]) hx hb dc_M_putNumber_4 hl (by decide) rfl (fun ls hl => ?_)
  refine lv_iload_n hx hb dc_M_putNumber_6 rfl (lv_at hl 2 rfl) ?_
  refine lv_istore (lv' := [(5, .int x1), (4, .int v1), (0, .ref a0), (1, .int x1), (2, .long y2)]) hx hb dc_M_putNumber_7 hl (by decide) rfl (fun ls hl => ?_)
  refine lv_iload hx hb dc_M_putNumber_9 (lv_at hl 1 rfl) ?_
  refine lv_iconst (v := 1) hx hb dc_M_putNumber_11 (by decide) ?_
  refine lv_icmp_ne hx hb dc_M_putNumber_12 (tgt := 23) (by decide) (fun hc => ?_) (fun hc => ?_)
  · have hF := (if_neg hc).symm.trans hF
    exact tl_M_putNumber_23 C hF w hS (lv_sub hl [2, 4, 1, 0] rfl)
  · have hF := (if_pos hc).symm.trans hF
    refine lv_lload_n hx hb dc_M_putNumber_15 rfl (lv_at hl 4 rfl) ?_
    refine lv_ldc2 (v := 127) hx hb hown (hts _ mw_893) dc_M_putNumber_16 ?_
    refine W.lcmp hx hb dc_M_putNumber_19 ?_
    refine lv_if_le hx hb dc_M_putNumber_20 (tgt := 39) (by decide) (fun hc => ?_) (fun hc => ?_)
    · have hF := (if_pos hc).symm.trans hF
      exact tl_M_putNumber_39 C hF w hS (lv_sub hl [2, 4, 1, 0] rfl)
    · have hF := (if_neg hc).symm.trans hF
      exact tl_M_putNumber_23 C hF w hS (lv_sub hl [2, 4, 1, 0] rfl)
set_option maxHeartbeats 4000000 in
set_option maxRecDepth 100000 in
theorem tm_M_putNumber (l : Launch) (D : va_G) (dA : Nat → ClassId) (tt : Nat → Nat) (b n : Nat) {f : pl_H} {a0 : Nat} {x1 : Int32} {y2 : Int64} {r : Int32} {f' : pl_H} (hF : fn_M_putNumber f a0 x1 y2 = some (r, f')) : Met l my_M_putNumber (Cond.code my_M_putNumber co_M_putNumber 7 (some .int) :: pl_tb) rm_M_putNumber (va_Pc [.ref a0, .int x1, .long y2] (pl_pre D dA tt b n f)) (pl_qI D dA tt b n f' r) 0 0 (pl_A b) := by
  refine Met.ofW (cc := co_M_putNumber) (maxL := 7) (ret := (some .int)) (by decide) rfl ?_
  intro p e s m args below meth c s₁ B hml hv
  obtain ⟨rfl, w, hK⟩ := hv
  have C : pl_C p s m _ meth c co_M_putNumber 7 rn_M (some .int) "putNumber" D dA tt b := ⟨B.exec, B.bytes, hml, B.returns, findClass_of_methodNamed B.named, B.notSynchronized, fun w hw => atoms_spec (ws := Cond.code my_M_putNumber co_M_putNumber 7 (some .int) :: pl_tb) B.pre w (List.mem_cons_of_mem _ hw), (name_of_methodNamed B.named B.method).1, hK⟩
  have hl := lv_entry ([.ref a0, .int x1, .long y2]) (n := 7) (Nat.le_of_ble_eq_true rfl)
  rw [lg_entry_eq]
  generalize (lg_sl ([.ref a0, .int x1, .long y2]) ++ List.replicate (7 - (lg_sl ([.ref a0, .int x1, .long y2])).length) Slot.unset).toArray = ls at hl ⊢
  have hl : lv_has ls 7 [(0, .ref a0), (1, .int x1), (2, .long y2)] := hl
  exact tl_M_putNumber C hF w va_S.rf hl
def rm_M_digit : Room := { frames := 0, cells := 0, slots := 0, locals := 0 }
def fn_M_digit (f : pl_H) (x0 : Int32) (x1 : Int32) : Option (Int32) := some ((x0 >>> ((12 - (4 * x1)) &&& 31)) &&& 15)
set_option maxHeartbeats 4000000 in
set_option maxRecDepth 100000 in
theorem tl_M_digit {p : Program} {l : Launch} {e : Env} {s : State} {m : MethodId} {args : Array Value} {below : List Frame} {meth : Method} {c : Code} {D : va_G} {dA : Nat → ClassId} {tt : Nat → Nat} {b n : Nat} (C : pl_C p s m args meth c co_M_digit 2 rn_M (some .int) "digit" D dA tt b) {r : Int32} {f : pl_H} {x0 : Int32} {x1 : Int32} {H : Heap} {locs : List Loc} {ls : Array Slot} (hF : fn_M_digit f x0 x1 = some r) (w : pl_wd D vwCl dA b n f H) (hS : va_S (pl_A b) s.heap H locs) (hl : lv_has ls 2 [(0, .int x0), (1, .int x1)]) : W p l e rm_M_digit s m args below meth c H locs 0 0 (MQ below (pl_qI D dA tt b n f r) args s 0 0 (pl_A b)) (F0 m 0 ls []) := by
  have hx := C.1
  have hb := C.2.1
  have hown := C.2.2.2.2.1
  have hts := C.2.2.2.2.2.2.1
  unfold fn_M_digit at hF
  refine lv_iload_n hx hb dc_M_digit_0 rfl (lv_at hl 0 rfl) ?_
  refine lv_bipush (v := 12) hx hb dc_M_digit_1 (by decide) ?_
  refine lv_iconst (v := 4) hx hb dc_M_digit_3 (by decide) ?_
  refine lv_iload_n hx hb dc_M_digit_4 rfl (lv_at hl 1 rfl) ?_
  refine lv_imul hx hb dc_M_digit_5 ?_
  refine lv_isub hx hb dc_M_digit_6 ?_
  refine lv_ishr hx hb dc_M_digit_7 ?_
  refine lv_bipush (v := 15) hx hb dc_M_digit_8 (by decide) ?_
  refine lv_iand hx hb dc_M_digit_10 ?_
  exact pl_retI C w hS hF dc_M_digit_11
set_option maxHeartbeats 4000000 in
set_option maxRecDepth 100000 in
theorem tm_M_digit (l : Launch) (D : va_G) (dA : Nat → ClassId) (tt : Nat → Nat) (b n : Nat) {f : pl_H} {x0 : Int32} {x1 : Int32} {r : Int32} (hF : fn_M_digit f x0 x1 = some r) : Met l my_M_digit (Cond.code my_M_digit co_M_digit 2 (some .int) :: pl_tb) rm_M_digit (va_Pc [.int x0, .int x1] (pl_pre D dA tt b n f)) (pl_qI D dA tt b n f r) 0 0 (pl_A b) := by
  refine Met.ofW (cc := co_M_digit) (maxL := 2) (ret := (some .int)) (by decide) rfl ?_
  intro p e s m args below meth c s₁ B hml hv
  obtain ⟨rfl, w, hK⟩ := hv
  have C : pl_C p s m _ meth c co_M_digit 2 rn_M (some .int) "digit" D dA tt b := ⟨B.exec, B.bytes, hml, B.returns, findClass_of_methodNamed B.named, B.notSynchronized, fun w hw => atoms_spec (ws := Cond.code my_M_digit co_M_digit 2 (some .int) :: pl_tb) B.pre w (List.mem_cons_of_mem _ hw), (name_of_methodNamed B.named B.method).1, hK⟩
  have hl := lv_entry ([.int x0, .int x1]) (n := 2) (Nat.le_of_ble_eq_true rfl)
  rw [lg_entry_eq]
  generalize (lg_sl ([.int x0, .int x1]) ++ List.replicate (2 - (lg_sl ([.int x0, .int x1])).length) Slot.unset).toArray = ls at hl ⊢
  have hl : lv_has ls 2 [(0, .int x0), (1, .int x1)] := hl
  exact tl_M_digit C hF w va_S.rf hl
def rm_M_putDigits : Room := { frames := 2, cells := 0, slots := 0, locals := 44 }
def fn_M_putDigits_67 : Nat → pl_H → Nat → Int32 → Int32 → Int32 → Int32 → Option (pl_H)
  | 0 => fun _ _ _ _ _ _ => none
  | k + 1 => fun f a0 x1 x3 x6 x7 => if x3 ≤ x7 then (pl_gR f a0 8 14).bind fun v1 => (pl_is f a0 8).bind fun u3 => (fn_M_putRow f a0 v1 x6).bind fun q2 => some q2 else (pl_gR f a0 8 14).bind fun v4 => (fn_M_digit f x1 x7).bind fun v5 => (fn_M_digit f x1 (x7 + 1)).bind fun v6 => (pl_sI f v4 x6 ((16 * v5) + v6)).bind fun f7 => fn_M_putDigits_67 k f7 a0 x1 x3 (x6 + 1) (x7 + 2)
def fn_M_putDigits_64 (f : pl_H) (a0 : Nat) (x1 : Int32) (x3 : Int32) (x6 : Int32) (x7 : Int32) : Option (pl_H) := fn_M_putDigits_67 pl_N f a0 x1 x3 (x6 + 1) x7
def fn_M_putDigits_10 (f : pl_H) (a0 : Nat) (x1 : Int32) (x2 : Int32) (x3 : Int32) (sx0 : Int32) : Option (pl_H) := if ((x3 - x2) - (x3 - x2) / 2 * 2) = 1 then (pl_gR f a0 8 14).bind fun v3 => (fn_M_digit f x1 x2).bind fun v4 => (pl_sI f v3 0 ((16 * (sx0 + 1)) + v4)).bind fun f5 => fn_M_putDigits_64 f5 a0 x1 x3 0 (x2 + 1) else (pl_gR f a0 8 14).bind fun v1 => (pl_sI f v1 0 (16 * sx0)).bind fun f2 => fn_M_putDigits_64 f2 a0 x1 x3 0 x2
def fn_M_putDigits (f : pl_H) (a0 : Nat) (x1 : Int32) (x2 : Int32) (x3 : Int32) (x4 : Int32) : Option (pl_H) := if x4 = 0 then fn_M_putDigits_10 f a0 x1 x2 x3 0 else fn_M_putDigits_10 f a0 x1 x2 x3 2
set_option maxHeartbeats 4000000 in
set_option maxRecDepth 100000 in
theorem tl_M_putDigits_67 {p : Program} {l : Launch} {e : Env} {s : State} {m : MethodId} {args : Array Value} {below : List Frame} {meth : Method} {c : Code} {D : va_G} {dA : Nat → ClassId} {tt : Nat → Nat} {b n : Nat} (C : pl_C p s m args meth c co_M_putDigits 8 rn_M none "putDigits" D dA tt b) {f' : pl_H} : ∀ k : Nat, ∀ (f : pl_H) (a0 : Nat) (x1 : Int32) (x3 : Int32) (x6 : Int32) (x7 : Int32) (H : Heap) (locs : List Loc) (ls : Array Slot), fn_M_putDigits_67 k f a0 x1 x3 x6 x7 = some f' → pl_wd D vwCl dA b n f H → va_S (pl_A b) s.heap H locs → lv_has ls 8 [(0, .ref a0), (1, .int x1), (3, .int x3), (6, .int x6), (7, .int x7)] → W p l e rm_M_putDigits s m args below meth c H locs 0 0 (MQ below (pl_qV D dA tt b n f') args s 0 0 (pl_A b)) (F0 m 67 ls []) := by
  have hx := C.1
  have hb := C.2.1
  have hown := C.2.2.2.2.1
  have hts := C.2.2.2.2.2.2.1
  intro k
  induction k with
  | zero =>
    intro f a0 x1 x3 x6 x7 H locs ls hF
    cases hF
  | succ k ih =>
    intro f a0 x1 x3 x6 x7 H locs ls hF w hS hl
    unfold fn_M_putDigits_67 at hF
    refine lv_iload hx hb dc_M_putDigits_67 (lv_at hl 4 rfl) ?_
    refine lv_iload_n hx hb dc_M_putDigits_69 rfl (lv_at hl 2 rfl) ?_
    refine lv_icmp_ge hx hb dc_M_putDigits_70 (tgt := 110) (by decide) (fun hc => ?_) (fun hc => ?_)
    · have hF := (if_pos hc).symm.trans hF
      refine lv_aload_n hx hb dc_M_putDigits_110 rfl (lv_at hl 0 rfl) ?_
      refine lv_aload_n hx hb dc_M_putDigits_111 rfl (lv_at hl 0 rfl) ?_
      obtain ⟨v1, ev1, hF⟩ := pl_bd hF
      refine pl_getR C w (ci := 8) in_M rfl (by decide) 14 (by decide) mw_711 ev1 dc_M_putDigits_112 ?_
      refine lv_iload hx hb dc_M_putDigits_115 (lv_at hl 3 rfl) ?_
      obtain ⟨u3, eu3, hF⟩ := pl_bd hF
      obtain ⟨q2, eq2, hF⟩ := pl_bd hF
      refine pl_gv (pl_runV (Cn := rn_M) (k := 2) C (tm_M_putRow l D dA tt b n eq2) w hS rfl rfl mw_877 mw_879 mw_39 mw_72 mw_880 (by decide +kernel) ⟨by decide, by decide⟩ eu3 rfl (by decide) rfl hl.1 (Nat.le_of_ble_eq_true rfl) ⟨Nat.zero_le _, Nat.zero_le _⟩ rfl dc_M_putDigits_117) hS (fun H locs w hS => ?_)
      exact pl_retVw C w hS hF dc_M_putDigits_120
    · have hF := (if_neg hc).symm.trans hF
      refine lv_aload_n hx hb dc_M_putDigits_73 rfl (lv_at hl 0 rfl) ?_
      obtain ⟨v4, ev4, hF⟩ := pl_bd hF
      refine pl_getR C w (ci := 8) in_M rfl (by decide) 14 (by decide) mw_711 ev4 dc_M_putDigits_74 ?_
      refine lv_iload hx hb dc_M_putDigits_77 (lv_at hl 3 rfl) ?_
      refine lv_bipush (v := 16) hx hb dc_M_putDigits_79 (by decide) ?_
      refine lv_iload_n hx hb dc_M_putDigits_81 rfl (lv_at hl 1 rfl) ?_
      refine lv_iload hx hb dc_M_putDigits_82 (lv_at hl 4 rfl) ?_
      obtain ⟨v5, ev5, hF⟩ := pl_bd hF
      refine pl_gi (pl_runS (k := 2) C (tm_M_digit l D dA tt b n ev5) w hS rfl rfl mw_874 mw_875 mw_72 mw_876 (by decide +kernel) ⟨by decide, by decide⟩ rfl hl.1 (Nat.le_of_ble_eq_true rfl) ⟨Nat.zero_le _, Nat.zero_le _⟩ rfl dc_M_putDigits_84) hS (fun H locs w hS => ?_)
      refine lv_imul hx hb dc_M_putDigits_87 ?_
      refine lv_iload_n hx hb dc_M_putDigits_88 rfl (lv_at hl 1 rfl) ?_
      refine lv_iload hx hb dc_M_putDigits_89 (lv_at hl 4 rfl) ?_
      refine lv_iconst (v := 1) hx hb dc_M_putDigits_91 (by decide) ?_
      refine lv_iadd hx hb dc_M_putDigits_92 ?_
      obtain ⟨v6, ev6, hF⟩ := pl_bd hF
      refine pl_gi (pl_runS (k := 2) C (tm_M_digit l D dA tt b n ev6) w hS rfl rfl mw_874 mw_875 mw_72 mw_876 (by decide +kernel) ⟨by decide, by decide⟩ rfl hl.1 (Nat.le_of_ble_eq_true rfl) ⟨Nat.zero_le _, Nat.zero_le _⟩ rfl dc_M_putDigits_93) hS (fun H locs w hS => ?_)
      refine lv_iadd hx hb dc_M_putDigits_96 ?_
      obtain ⟨f7, ef7, hF⟩ := pl_bd hF
      refine pl_astI C w hS ef7 dc_M_putDigits_97 (fun H locs w hS => ?_)
      refine lv_iinc (k := 3) (v := x6 + 1) (lv' := [(6, .int (x6 + 1)), (0, .ref a0), (1, .int x1), (3, .int x3), (7, .int x7)]) hx hb dc_M_putDigits_98 hl rfl rfl (by decide) rfl (fun ls hl => ?_)
      refine lv_iload hx hb dc_M_putDigits_101 (lv_at hl 4 rfl) ?_
      refine lv_iconst (v := 2) hx hb dc_M_putDigits_103 (by decide) ?_
      refine lv_iadd hx hb dc_M_putDigits_104 ?_
      refine lv_istore (lv' := [(7, .int (x7 + 2)), (6, .int (x6 + 1)), (0, .ref a0), (1, .int x1), (3, .int x3)]) hx hb dc_M_putDigits_105 hl (by decide) rfl (fun ls hl => ?_)
      refine lv_goto hx hb dc_M_putDigits_107 (tgt := 67) (by decide) ?_
      exact ih f7 a0 x1 x3 (x6 + 1) (x7 + 2) _ _ _ hF w hS (lv_sub hl [2, 3, 4, 1, 0] rfl)
set_option maxHeartbeats 4000000 in
set_option maxRecDepth 100000 in
theorem tl_M_putDigits_64 {p : Program} {l : Launch} {e : Env} {s : State} {m : MethodId} {args : Array Value} {below : List Frame} {meth : Method} {c : Code} {D : va_G} {dA : Nat → ClassId} {tt : Nat → Nat} {b n : Nat} (C : pl_C p s m args meth c co_M_putDigits 8 rn_M none "putDigits" D dA tt b) {f' : pl_H} {f : pl_H} {a0 : Nat} {x1 : Int32} {x3 : Int32} {x6 : Int32} {x7 : Int32} {H : Heap} {locs : List Loc} {ls : Array Slot} (hF : fn_M_putDigits_64 f a0 x1 x3 x6 x7 = some f') (w : pl_wd D vwCl dA b n f H) (hS : va_S (pl_A b) s.heap H locs) (hl : lv_has ls 8 [(0, .ref a0), (1, .int x1), (3, .int x3), (6, .int x6), (7, .int x7)]) : W p l e rm_M_putDigits s m args below meth c H locs 0 0 (MQ below (pl_qV D dA tt b n f') args s 0 0 (pl_A b)) (F0 m 64 ls []) := by
  have hx := C.1
  have hb := C.2.1
  have hown := C.2.2.2.2.1
  have hts := C.2.2.2.2.2.2.1
  unfold fn_M_putDigits_64 at hF
  refine lv_iinc (k := 3) (v := x6 + 1) (lv' := [(6, .int (x6 + 1)), (0, .ref a0), (1, .int x1), (3, .int x3), (7, .int x7)]) hx hb dc_M_putDigits_64 hl rfl rfl (by decide) rfl (fun ls hl => ?_)
  exact tl_M_putDigits_67 C pl_N f a0 x1 x3 (x6 + 1) x7 _ _ _ hF w hS (lv_sub hl [1, 2, 3, 0, 4] rfl)
set_option maxHeartbeats 4000000 in
set_option maxRecDepth 100000 in
theorem tl_M_putDigits_10 {p : Program} {l : Launch} {e : Env} {s : State} {m : MethodId} {args : Array Value} {below : List Frame} {meth : Method} {c : Code} {D : va_G} {dA : Nat → ClassId} {tt : Nat → Nat} {b n : Nat} (C : pl_C p s m args meth c co_M_putDigits 8 rn_M none "putDigits" D dA tt b) {f' : pl_H} {f : pl_H} {a0 : Nat} {x1 : Int32} {x2 : Int32} {x3 : Int32} {sx0 : Int32} {H : Heap} {locs : List Loc} {ls : Array Slot} (hF : fn_M_putDigits_10 f a0 x1 x2 x3 sx0 = some f') (w : pl_wd D vwCl dA b n f H) (hS : va_S (pl_A b) s.heap H locs) (hl : lv_has ls 8 [(0, .ref a0), (1, .int x1), (2, .int x2), (3, .int x3)]) : W p l e rm_M_putDigits s m args below meth c H locs 0 0 (MQ below (pl_qV D dA tt b n f') args s 0 0 (pl_A b)) (F0 m 10 ls [.int sx0]) := by
  have hx := C.1
  have hb := C.2.1
  have hown := C.2.2.2.2.1
  have hts := C.2.2.2.2.2.2.1
  unfold fn_M_putDigits_10 at hF
  refine lv_istore (lv' := [(5, .int sx0), (0, .ref a0), (1, .int x1), (2, .int x2), (3, .int x3)]) hx hb dc_M_putDigits_10 hl (by decide) rfl (fun ls hl => ?_)
  refine lv_iconst (v := 0) hx hb dc_M_putDigits_12 (by decide) ?_
  refine lv_istore (lv' := [(6, .int 0), (5, .int sx0), (0, .ref a0), (1, .int x1), (2, .int x2), (3, .int x3)]) hx hb dc_M_putDigits_13 hl (by decide) rfl (fun ls hl => ?_)
  refine lv_iload_n hx hb dc_M_putDigits_15 rfl (lv_at hl 4 rfl) ?_
  refine lv_istore (lv' := [(7, .int x2), (6, .int 0), (5, .int sx0), (0, .ref a0), (1, .int x1), (2, .int x2), (3, .int x3)]) hx hb dc_M_putDigits_16 hl (by decide) rfl (fun ls hl => ?_)
  refine lv_iload_n hx hb dc_M_putDigits_18 rfl (lv_at hl 6 rfl) ?_
  refine lv_iload_n hx hb dc_M_putDigits_19 rfl (lv_at hl 5 rfl) ?_
  refine lv_isub hx hb dc_M_putDigits_20 ?_
  refine lv_iconst (v := 2) hx hb dc_M_putDigits_21 (by decide) ?_
  refine lv_irem hx hb dc_M_putDigits_22 (by decide) ?_
  refine lv_iconst (v := 1) hx hb dc_M_putDigits_23 (by decide) ?_
  refine lv_icmp_ne hx hb dc_M_putDigits_24 (tgt := 53) (by decide) (fun hc => ?_) (fun hc => ?_)
  · have hF := (if_neg hc).symm.trans hF
    refine lv_aload_n hx hb dc_M_putDigits_53 rfl (lv_at hl 3 rfl) ?_
    obtain ⟨v1, ev1, hF⟩ := pl_bd hF
    refine pl_getR C w (ci := 8) in_M rfl (by decide) 14 (by decide) mw_711 ev1 dc_M_putDigits_54 ?_
    refine lv_iconst (v := 0) hx hb dc_M_putDigits_57 (by decide) ?_
    refine lv_bipush (v := 16) hx hb dc_M_putDigits_58 (by decide) ?_
    refine lv_iload hx hb dc_M_putDigits_60 (lv_at hl 2 rfl) ?_
    refine lv_imul hx hb dc_M_putDigits_62 ?_
    obtain ⟨f2, ef2, hF⟩ := pl_bd hF
    refine pl_astI C w hS ef2 dc_M_putDigits_63 (fun H locs w hS => ?_)
    exact tl_M_putDigits_64 C hF w hS (lv_sub hl [3, 4, 6, 1, 0] rfl)
  · have hF := (if_pos hc).symm.trans hF
    refine lv_aload_n hx hb dc_M_putDigits_27 rfl (lv_at hl 3 rfl) ?_
    obtain ⟨v3, ev3, hF⟩ := pl_bd hF
    refine pl_getR C w (ci := 8) in_M rfl (by decide) 14 (by decide) mw_711 ev3 dc_M_putDigits_28 ?_
    refine lv_iconst (v := 0) hx hb dc_M_putDigits_31 (by decide) ?_
    refine lv_bipush (v := 16) hx hb dc_M_putDigits_32 (by decide) ?_
    refine lv_iload hx hb dc_M_putDigits_34 (lv_at hl 2 rfl) ?_
    refine lv_iconst (v := 1) hx hb dc_M_putDigits_36 (by decide) ?_
    refine lv_iadd hx hb dc_M_putDigits_37 ?_
    refine lv_imul hx hb dc_M_putDigits_38 ?_
    refine lv_iload_n hx hb dc_M_putDigits_39 rfl (lv_at hl 4 rfl) ?_
    refine lv_iload hx hb dc_M_putDigits_40 (lv_at hl 0 rfl) ?_
    obtain ⟨v4, ev4, hF⟩ := pl_bd hF
    refine pl_gi (pl_runS (k := 2) C (tm_M_digit l D dA tt b n ev4) w hS rfl rfl mw_874 mw_875 mw_72 mw_876 (by decide +kernel) ⟨by decide, by decide⟩ rfl hl.1 (Nat.le_of_ble_eq_true rfl) ⟨Nat.zero_le _, Nat.zero_le _⟩ rfl dc_M_putDigits_42) hS (fun H locs w hS => ?_)
    refine lv_iadd hx hb dc_M_putDigits_45 ?_
    obtain ⟨f5, ef5, hF⟩ := pl_bd hF
    refine pl_astI C w hS ef5 dc_M_putDigits_46 (fun H locs w hS => ?_)
    refine lv_iinc (k := 0) (v := x2 + 1) (lv' := [(7, .int (x2 + 1)), (6, .int 0), (5, .int sx0), (0, .ref a0), (1, .int x1), (2, .int x2), (3, .int x3)]) hx hb dc_M_putDigits_47 hl rfl rfl (by decide) rfl (fun ls hl => ?_)
    refine lv_goto hx hb dc_M_putDigits_50 (tgt := 64) (by decide) ?_
    exact tl_M_putDigits_64 C hF w hS (lv_sub hl [3, 4, 6, 1, 0] rfl)
set_option maxHeartbeats 4000000 in
set_option maxRecDepth 100000 in
theorem tl_M_putDigits {p : Program} {l : Launch} {e : Env} {s : State} {m : MethodId} {args : Array Value} {below : List Frame} {meth : Method} {c : Code} {D : va_G} {dA : Nat → ClassId} {tt : Nat → Nat} {b n : Nat} (C : pl_C p s m args meth c co_M_putDigits 8 rn_M none "putDigits" D dA tt b) {f' : pl_H} {f : pl_H} {a0 : Nat} {x1 : Int32} {x2 : Int32} {x3 : Int32} {x4 : Int32} {H : Heap} {locs : List Loc} {ls : Array Slot} (hF : fn_M_putDigits f a0 x1 x2 x3 x4 = some f') (w : pl_wd D vwCl dA b n f H) (hS : va_S (pl_A b) s.heap H locs) (hl : lv_has ls 8 [(0, .ref a0), (1, .int x1), (2, .int x2), (3, .int x3), (4, .int x4)]) : W p l e rm_M_putDigits s m args below meth c H locs 0 0 (MQ below (pl_qV D dA tt b n f') args s 0 0 (pl_A b)) (F0 m 0 ls []) := by
  have hx := C.1
  have hb := C.2.1
  have hown := C.2.2.2.2.1
  have hts := C.2.2.2.2.2.2.1
  unfold fn_M_putDigits at hF
  refine lv_iload hx hb dc_M_putDigits_0 (lv_at hl 4 rfl) ?_
  refine lv_if_eq hx hb dc_M_putDigits_2 (tgt := 9) (by decide) (fun hc => ?_) (fun hc => ?_)
  · have hF := (if_pos hc).symm.trans hF
    refine lv_iconst (v := 0) hx hb dc_M_putDigits_9 (by decide) ?_
    exact tl_M_putDigits_10 C hF w hS (lv_sub hl [0, 1, 2, 3] rfl)
  · have hF := (if_neg hc).symm.trans hF
    refine lv_iconst (v := 2) hx hb dc_M_putDigits_5 (by decide) ?_
    refine lv_goto hx hb dc_M_putDigits_6 (tgt := 10) (by decide) ?_
    exact tl_M_putDigits_10 C hF w hS (lv_sub hl [0, 1, 2, 3] rfl)
set_option maxHeartbeats 4000000 in
set_option maxRecDepth 100000 in
theorem tm_M_putDigits (l : Launch) (D : va_G) (dA : Nat → ClassId) (tt : Nat → Nat) (b n : Nat) {f : pl_H} {a0 : Nat} {x1 : Int32} {x2 : Int32} {x3 : Int32} {x4 : Int32} {f' : pl_H} (hF : fn_M_putDigits f a0 x1 x2 x3 x4 = some f') : Met l my_M_putDigits (Cond.code my_M_putDigits co_M_putDigits 8 none :: pl_tb) rm_M_putDigits (va_Pc [.ref a0, .int x1, .int x2, .int x3, .int x4] (pl_pre D dA tt b n f)) (pl_qV D dA tt b n f') 0 0 (pl_A b) := by
  refine Met.ofW (cc := co_M_putDigits) (maxL := 8) (ret := none) (by decide) rfl ?_
  intro p e s m args below meth c s₁ B hml hv
  obtain ⟨rfl, w, hK⟩ := hv
  have C : pl_C p s m _ meth c co_M_putDigits 8 rn_M none "putDigits" D dA tt b := ⟨B.exec, B.bytes, hml, B.returns, findClass_of_methodNamed B.named, B.notSynchronized, fun w hw => atoms_spec (ws := Cond.code my_M_putDigits co_M_putDigits 8 none :: pl_tb) B.pre w (List.mem_cons_of_mem _ hw), (name_of_methodNamed B.named B.method).1, hK⟩
  have hl := lv_entry ([.ref a0, .int x1, .int x2, .int x3, .int x4]) (n := 8) (Nat.le_of_ble_eq_true rfl)
  rw [lg_entry_eq]
  generalize (lg_sl ([.ref a0, .int x1, .int x2, .int x3, .int x4]) ++ List.replicate (8 - (lg_sl ([.ref a0, .int x1, .int x2, .int x3, .int x4])).length) Slot.unset).toArray = ls at hl ⊢
  have hl : lv_has ls 8 [(0, .ref a0), (1, .int x1), (2, .int x2), (3, .int x3), (4, .int x4)] := hl
  exact tl_M_putDigits C hF w va_S.rf hl
def rm_M_agree : Room := { frames := 0, cells := 0, slots := 0, locals := 0 }
def fn_M_agree_24 (f : pl_H) (sx0 : Int32) : Option (Int32) := pl_z sx0
def fn_M_agree (f : pl_H) (x0 : Int32) (x1 : Int32) (x2 : Int32) : Option (Int32) := if (x0 >>> ((16 - (4 * x2)) &&& 31)) = (x1 >>> ((16 - (4 * x2)) &&& 31)) then fn_M_agree_24 f 1 else fn_M_agree_24 f 0
set_option maxHeartbeats 4000000 in
set_option maxRecDepth 100000 in
theorem tl_M_agree_24 {p : Program} {l : Launch} {e : Env} {s : State} {m : MethodId} {args : Array Value} {below : List Frame} {meth : Method} {c : Code} {D : va_G} {dA : Nat → ClassId} {tt : Nat → Nat} {b n : Nat} (C : pl_C p s m args meth c co_M_agree 3 rn_M (some .boolean) "agree" D dA tt b) {r : Int32} {f : pl_H} {sx0 : Int32} {H : Heap} {locs : List Loc} {ls : Array Slot} (hF : fn_M_agree_24 f sx0 = some r) (w : pl_wd D vwCl dA b n f H) (hS : va_S (pl_A b) s.heap H locs) (hl : lv_has ls 3 []) : W p l e rm_M_agree s m args below meth c H locs 0 0 (MQ below (pl_qI D dA tt b n f r) args s 0 0 (pl_A b)) (F0 m 24 ls [.int sx0]) := by
  have hx := C.1
  have hb := C.2.1
  have hown := C.2.2.2.2.1
  have hts := C.2.2.2.2.2.2.1
  unfold fn_M_agree_24 at hF
  exact pl_retZ C w hS hF dc_M_agree_24
set_option maxHeartbeats 4000000 in
set_option maxRecDepth 100000 in
theorem tl_M_agree {p : Program} {l : Launch} {e : Env} {s : State} {m : MethodId} {args : Array Value} {below : List Frame} {meth : Method} {c : Code} {D : va_G} {dA : Nat → ClassId} {tt : Nat → Nat} {b n : Nat} (C : pl_C p s m args meth c co_M_agree 3 rn_M (some .boolean) "agree" D dA tt b) {r : Int32} {f : pl_H} {x0 : Int32} {x1 : Int32} {x2 : Int32} {H : Heap} {locs : List Loc} {ls : Array Slot} (hF : fn_M_agree f x0 x1 x2 = some r) (w : pl_wd D vwCl dA b n f H) (hS : va_S (pl_A b) s.heap H locs) (hl : lv_has ls 3 [(0, .int x0), (1, .int x1), (2, .int x2)]) : W p l e rm_M_agree s m args below meth c H locs 0 0 (MQ below (pl_qI D dA tt b n f r) args s 0 0 (pl_A b)) (F0 m 0 ls []) := by
  have hx := C.1
  have hb := C.2.1
  have hown := C.2.2.2.2.1
  have hts := C.2.2.2.2.2.2.1
  unfold fn_M_agree at hF
  refine lv_iload_n hx hb dc_M_agree_0 rfl (lv_at hl 0 rfl) ?_
  refine lv_bipush (v := 16) hx hb dc_M_agree_1 (by decide) ?_
  refine lv_iconst (v := 4) hx hb dc_M_agree_3 (by decide) ?_
  refine lv_iload_n hx hb dc_M_agree_4 rfl (lv_at hl 2 rfl) ?_
  refine lv_imul hx hb dc_M_agree_5 ?_
  refine lv_isub hx hb dc_M_agree_6 ?_
  refine lv_ishr hx hb dc_M_agree_7 ?_
  refine lv_iload_n hx hb dc_M_agree_8 rfl (lv_at hl 1 rfl) ?_
  refine lv_bipush (v := 16) hx hb dc_M_agree_9 (by decide) ?_
  refine lv_iconst (v := 4) hx hb dc_M_agree_11 (by decide) ?_
  refine lv_iload_n hx hb dc_M_agree_12 rfl (lv_at hl 2 rfl) ?_
  refine lv_imul hx hb dc_M_agree_13 ?_
  refine lv_isub hx hb dc_M_agree_14 ?_
  refine lv_ishr hx hb dc_M_agree_15 ?_
  refine lv_icmp_ne hx hb dc_M_agree_16 (tgt := 23) (by decide) (fun hc => ?_) (fun hc => ?_)
  · have hF := (if_neg hc).symm.trans hF
    refine lv_iconst (v := 0) hx hb dc_M_agree_23 (by decide) ?_
    exact tl_M_agree_24 C hF w hS (lv_sub hl [] rfl)
  · have hF := (if_pos hc).symm.trans hF
    refine lv_iconst (v := 1) hx hb dc_M_agree_19 (by decide) ?_
    refine lv_goto hx hb dc_M_agree_20 (tgt := 24) (by decide) ?_
    exact tl_M_agree_24 C hF w hS (lv_sub hl [] rfl)
set_option maxHeartbeats 4000000 in
set_option maxRecDepth 100000 in
theorem tm_M_agree (l : Launch) (D : va_G) (dA : Nat → ClassId) (tt : Nat → Nat) (b n : Nat) {f : pl_H} {x0 : Int32} {x1 : Int32} {x2 : Int32} {r : Int32} (hF : fn_M_agree f x0 x1 x2 = some r) : Met l my_M_agree (Cond.code my_M_agree co_M_agree 3 (some .boolean) :: pl_tb) rm_M_agree (va_Pc [.int x0, .int x1, .int x2] (pl_pre D dA tt b n f)) (pl_qI D dA tt b n f r) 0 0 (pl_A b) := by
  refine Met.ofW (cc := co_M_agree) (maxL := 3) (ret := (some .boolean)) (by decide) rfl ?_
  intro p e s m args below meth c s₁ B hml hv
  obtain ⟨rfl, w, hK⟩ := hv
  have C : pl_C p s m _ meth c co_M_agree 3 rn_M (some .boolean) "agree" D dA tt b := ⟨B.exec, B.bytes, hml, B.returns, findClass_of_methodNamed B.named, B.notSynchronized, fun w hw => atoms_spec (ws := Cond.code my_M_agree co_M_agree 3 (some .boolean) :: pl_tb) B.pre w (List.mem_cons_of_mem _ hw), (name_of_methodNamed B.named B.method).1, hK⟩
  have hl := lv_entry ([.int x0, .int x1, .int x2]) (n := 3) (Nat.le_of_ble_eq_true rfl)
  rw [lg_entry_eq]
  generalize (lg_sl ([.int x0, .int x1, .int x2]) ++ List.replicate (3 - (lg_sl ([.int x0, .int x1, .int x2])).length) Slot.unset).toArray = ls at hl ⊢
  have hl : lv_has ls 3 [(0, .int x0), (1, .int x1), (2, .int x2)] := hl
  exact tl_M_agree C hF w va_S.rf hl
def rm_M_group : Room := { frames := 1, cells := 0, slots := 0, locals := 22 }
def fn_M_group_41 (rc5 : pl_H → Nat → Int32 → Int32 → Int32 → Int32 → Option (Int32)) (f : pl_H) (a0 : Nat) (x1 : Int32) (x2 : Int32) (x4 : Int32) (sx0 : Int32) : Option (Int32) := rc5 f a0 x1 x2 sx0 (x4 + 1)
def fn_M_group_5 : Nat → pl_H → Nat → Int32 → Int32 → Int32 → Int32 → Option (Int32)
  | 0 => fun _ _ _ _ _ _ => none
  | k + 1 => fun f a0 x1 x2 x3 x4 => (pl_gI f a0 8 0).bind fun v1 => if v1 ≤ x4 then some x3 else (pl_gR f a0 8 1).bind fun v2 => (pl_aI f v2 x1).bind fun v3 => (pl_gR f a0 8 1).bind fun v4 => (pl_aI f v4 x4).bind fun v5 => (fn_M_agree f v3 v5 x2).bind fun v6 => if v6 = 0 then fn_M_group_41 (fn_M_group_5 k) f a0 x1 x2 x4 x3 else fn_M_group_41 (fn_M_group_5 k) f a0 x1 x2 x4 (x3 + 1)
def fn_M_group (f : pl_H) (a0 : Nat) (x1 : Int32) (x2 : Int32) : Option (Int32) := fn_M_group_5 pl_N f a0 x1 x2 0 0
set_option maxHeartbeats 4000000 in
set_option maxRecDepth 100000 in
theorem tl_M_group_41 {p : Program} {l : Launch} {e : Env} {s : State} {m : MethodId} {args : Array Value} {below : List Frame} {meth : Method} {c : Code} {D : va_G} {dA : Nat → ClassId} {tt : Nat → Nat} {b n : Nat} (C : pl_C p s m args meth c co_M_group 5 rn_M (some .int) "group" D dA tt b) {r : Int32} {f : pl_H} {rc5 : pl_H → Nat → Int32 → Int32 → Int32 → Int32 → Option (Int32)} (hr5 : ∀ (a0 : Nat) (x1 : Int32) (x2 : Int32) (x3 : Int32) (x4 : Int32) (H : Heap) (locs : List Loc) (ls : Array Slot), rc5 f a0 x1 x2 x3 x4 = some r → pl_wd D vwCl dA b n f H → va_S (pl_A b) s.heap H locs → lv_has ls 5 [(0, .ref a0), (1, .int x1), (2, .int x2), (3, .int x3), (4, .int x4)] → W p l e rm_M_group s m args below meth c H locs 0 0 (MQ below (pl_qI D dA tt b n f r) args s 0 0 (pl_A b)) (F0 m 5 ls [])) {a0 : Nat} {x1 : Int32} {x2 : Int32} {x4 : Int32} {sx0 : Int32} {H : Heap} {locs : List Loc} {ls : Array Slot} (hF : fn_M_group_41 rc5 f a0 x1 x2 x4 sx0 = some r) (w : pl_wd D vwCl dA b n f H) (hS : va_S (pl_A b) s.heap H locs) (hl : lv_has ls 5 [(0, .ref a0), (1, .int x1), (2, .int x2), (4, .int x4)]) : W p l e rm_M_group s m args below meth c H locs 0 0 (MQ below (pl_qI D dA tt b n f r) args s 0 0 (pl_A b)) (F0 m 41 ls [.int sx0]) := by
  have hx := C.1
  have hb := C.2.1
  have hown := C.2.2.2.2.1
  have hts := C.2.2.2.2.2.2.1
  unfold fn_M_group_41 at hF
  refine lv_istore_n (lv' := [(3, .int sx0), (0, .ref a0), (1, .int x1), (2, .int x2), (4, .int x4)]) hx hb dc_M_group_41 rfl hl (by decide) rfl (fun ls hl => ?_)
  refine lv_iinc (k := 4) (v := x4 + 1) (lv' := [(4, .int (x4 + 1)), (3, .int sx0), (0, .ref a0), (1, .int x1), (2, .int x2)]) hx hb dc_M_group_42 hl rfl rfl (by decide) rfl (fun ls hl => ?_)
  refine lv_goto hx hb dc_M_group_45 (tgt := 5) (by decide) ?_
  exact hr5 a0 x1 x2 sx0 (x4 + 1) _ _ _ hF w hS (lv_sub hl [2, 3, 4, 1, 0] rfl)
set_option maxHeartbeats 4000000 in
set_option maxRecDepth 100000 in
theorem tl_M_group_5 {p : Program} {l : Launch} {e : Env} {s : State} {m : MethodId} {args : Array Value} {below : List Frame} {meth : Method} {c : Code} {D : va_G} {dA : Nat → ClassId} {tt : Nat → Nat} {b n : Nat} (C : pl_C p s m args meth c co_M_group 5 rn_M (some .int) "group" D dA tt b) {r : Int32} {f : pl_H} : ∀ k : Nat, ∀ (a0 : Nat) (x1 : Int32) (x2 : Int32) (x3 : Int32) (x4 : Int32) (H : Heap) (locs : List Loc) (ls : Array Slot), fn_M_group_5 k f a0 x1 x2 x3 x4 = some r → pl_wd D vwCl dA b n f H → va_S (pl_A b) s.heap H locs → lv_has ls 5 [(0, .ref a0), (1, .int x1), (2, .int x2), (3, .int x3), (4, .int x4)] → W p l e rm_M_group s m args below meth c H locs 0 0 (MQ below (pl_qI D dA tt b n f r) args s 0 0 (pl_A b)) (F0 m 5 ls []) := by
  have hx := C.1
  have hb := C.2.1
  have hown := C.2.2.2.2.1
  have hts := C.2.2.2.2.2.2.1
  intro k
  induction k with
  | zero =>
    intro a0 x1 x2 x3 x4 H locs ls hF
    cases hF
  | succ k ih =>
    intro a0 x1 x2 x3 x4 H locs ls hF w hS hl
    unfold fn_M_group_5 at hF
    refine lv_iload hx hb dc_M_group_5 (lv_at hl 4 rfl) ?_
    refine lv_aload_n hx hb dc_M_group_7 rfl (lv_at hl 0 rfl) ?_
    obtain ⟨v1, ev1, hF⟩ := pl_bd hF
    refine pl_getI C w (ci := 8) in_M rfl (by decide) 0 (by decide) mw_697 ev1 dc_M_group_8 ?_
    refine lv_icmp_ge hx hb dc_M_group_11 (tgt := 48) (by decide) (fun hc => ?_) (fun hc => ?_)
    · have hF := (if_pos hc).symm.trans hF
      refine lv_iload_n hx hb dc_M_group_48 rfl (lv_at hl 3 rfl) ?_
      exact pl_retI C w hS hF dc_M_group_49
    · have hF := (if_neg hc).symm.trans hF
      refine lv_aload_n hx hb dc_M_group_14 rfl (lv_at hl 0 rfl) ?_
      obtain ⟨v2, ev2, hF⟩ := pl_bd hF
      refine pl_getR C w (ci := 8) in_M rfl (by decide) 1 (by decide) mw_698 ev2 dc_M_group_15 ?_
      refine lv_iload_n hx hb dc_M_group_18 rfl (lv_at hl 1 rfl) ?_
      obtain ⟨v3, ev3, hF⟩ := pl_bd hF
      refine pl_aldI C w ev3 dc_M_group_19 ?_
      refine lv_aload_n hx hb dc_M_group_20 rfl (lv_at hl 0 rfl) ?_
      obtain ⟨v4, ev4, hF⟩ := pl_bd hF
      refine pl_getR C w (ci := 8) in_M rfl (by decide) 1 (by decide) mw_698 ev4 dc_M_group_21 ?_
      refine lv_iload hx hb dc_M_group_24 (lv_at hl 4 rfl) ?_
      obtain ⟨v5, ev5, hF⟩ := pl_bd hF
      refine pl_aldI C w ev5 dc_M_group_26 ?_
      refine lv_iload_n hx hb dc_M_group_27 rfl (lv_at hl 2 rfl) ?_
      obtain ⟨v6, ev6, hF⟩ := pl_bd hF
      refine pl_gi (pl_runS (k := 3) C (tm_M_agree l D dA tt b n ev6) w hS rfl rfl mw_867 mw_868 mw_72 mw_869 (by decide +kernel) ⟨by decide, by decide⟩ rfl hl.1 (Nat.le_of_ble_eq_true rfl) ⟨Nat.zero_le _, Nat.zero_le _⟩ rfl dc_M_group_28) hS (fun H locs w hS => ?_)
      refine lv_if_eq hx hb dc_M_group_31 (tgt := 40) (by decide) (fun hc => ?_) (fun hc => ?_)
      · have hF := (if_pos hc).symm.trans hF
        refine lv_iload_n hx hb dc_M_group_40 rfl (lv_at hl 3 rfl) ?_
        exact tl_M_group_41 C ih hF w hS (lv_sub hl [0, 1, 2, 4] rfl)
      · have hF := (if_neg hc).symm.trans hF
        refine lv_iload_n hx hb dc_M_group_34 rfl (lv_at hl 3 rfl) ?_
        refine lv_iconst (v := 1) hx hb dc_M_group_35 (by decide) ?_
        refine lv_iadd hx hb dc_M_group_36 ?_
        refine lv_goto hx hb dc_M_group_37 (tgt := 41) (by decide) ?_
        exact tl_M_group_41 C ih hF w hS (lv_sub hl [0, 1, 2, 4] rfl)
set_option maxHeartbeats 4000000 in
set_option maxRecDepth 100000 in
theorem tl_M_group {p : Program} {l : Launch} {e : Env} {s : State} {m : MethodId} {args : Array Value} {below : List Frame} {meth : Method} {c : Code} {D : va_G} {dA : Nat → ClassId} {tt : Nat → Nat} {b n : Nat} (C : pl_C p s m args meth c co_M_group 5 rn_M (some .int) "group" D dA tt b) {r : Int32} {f : pl_H} {a0 : Nat} {x1 : Int32} {x2 : Int32} {H : Heap} {locs : List Loc} {ls : Array Slot} (hF : fn_M_group f a0 x1 x2 = some r) (w : pl_wd D vwCl dA b n f H) (hS : va_S (pl_A b) s.heap H locs) (hl : lv_has ls 5 [(0, .ref a0), (1, .int x1), (2, .int x2)]) : W p l e rm_M_group s m args below meth c H locs 0 0 (MQ below (pl_qI D dA tt b n f r) args s 0 0 (pl_A b)) (F0 m 0 ls []) := by
  have hx := C.1
  have hb := C.2.1
  have hown := C.2.2.2.2.1
  have hts := C.2.2.2.2.2.2.1
  unfold fn_M_group at hF
  refine lv_iconst (v := 0) hx hb dc_M_group_0 (by decide) ?_
  refine lv_istore_n (lv' := [(3, .int 0), (0, .ref a0), (1, .int x1), (2, .int x2)]) hx hb dc_M_group_1 rfl hl (by decide) rfl (fun ls hl => ?_)
  refine lv_iconst (v := 0) hx hb dc_M_group_2 (by decide) ?_
  refine lv_istore (lv' := [(4, .int 0), (3, .int 0), (0, .ref a0), (1, .int x1), (2, .int x2)]) hx hb dc_M_group_3 hl (by decide) rfl (fun ls hl => ?_)
  exact tl_M_group_5 C pl_N a0 x1 x2 0 0 _ _ _ hF w hS (lv_sub hl [2, 3, 4, 1, 0] rfl)
set_option maxHeartbeats 4000000 in
set_option maxRecDepth 100000 in
theorem tm_M_group (l : Launch) (D : va_G) (dA : Nat → ClassId) (tt : Nat → Nat) (b n : Nat) {f : pl_H} {a0 : Nat} {x1 : Int32} {x2 : Int32} {r : Int32} (hF : fn_M_group f a0 x1 x2 = some r) : Met l my_M_group (Cond.code my_M_group co_M_group 5 (some .int) :: pl_tb) rm_M_group (va_Pc [.ref a0, .int x1, .int x2] (pl_pre D dA tt b n f)) (pl_qI D dA tt b n f r) 0 0 (pl_A b) := by
  refine Met.ofW (cc := co_M_group) (maxL := 5) (ret := (some .int)) (by decide) rfl ?_
  intro p e s m args below meth c s₁ B hml hv
  obtain ⟨rfl, w, hK⟩ := hv
  have C : pl_C p s m _ meth c co_M_group 5 rn_M (some .int) "group" D dA tt b := ⟨B.exec, B.bytes, hml, B.returns, findClass_of_methodNamed B.named, B.notSynchronized, fun w hw => atoms_spec (ws := Cond.code my_M_group co_M_group 5 (some .int) :: pl_tb) B.pre w (List.mem_cons_of_mem _ hw), (name_of_methodNamed B.named B.method).1, hK⟩
  have hl := lv_entry ([.ref a0, .int x1, .int x2]) (n := 5) (Nat.le_of_ble_eq_true rfl)
  rw [lg_entry_eq]
  generalize (lg_sl ([.ref a0, .int x1, .int x2]) ++ List.replicate (5 - (lg_sl ([.ref a0, .int x1, .int x2])).length) Slot.unset).toArray = ls at hl ⊢
  have hl : lv_has ls 5 [(0, .ref a0), (1, .int x1), (2, .int x2)] := hl
  exact tl_M_group C hF w va_S.rf hl
def rm_M_common : Room := { frames := 2, cells := 0, slots := 0, locals := 46 }
def fn_M_common_34 (f : pl_H) (x3 : Int32) : Option (Int32) := some x3
def fn_M_common_10 : Nat → pl_H → Nat → Int32 → Int32 → Int32 → Option (Int32)
  | 0 => fun _ _ _ _ _ => none
  | k + 1 => fun f a0 x1 x3 x4 => if 4 ≤ x3 then fn_M_common_34 f x3 else (pl_is f a0 8).bind fun u2 => (fn_M_group f a0 x1 (x3 + 1)).bind fun v1 => if v1 = x4 then fn_M_common_10 k f a0 x1 (x3 + 1) x4 else fn_M_common_34 f x3
def fn_M_common (f : pl_H) (a0 : Nat) (x1 : Int32) (x2 : Int32) : Option (Int32) := (pl_is f a0 8).bind fun u2 => (fn_M_group f a0 x1 x2).bind fun v1 => fn_M_common_10 pl_N f a0 x1 x2 v1
set_option maxHeartbeats 4000000 in
set_option maxRecDepth 100000 in
theorem tl_M_common_34 {p : Program} {l : Launch} {e : Env} {s : State} {m : MethodId} {args : Array Value} {below : List Frame} {meth : Method} {c : Code} {D : va_G} {dA : Nat → ClassId} {tt : Nat → Nat} {b n : Nat} (C : pl_C p s m args meth c co_M_common 5 rn_M (some .int) "common" D dA tt b) {r : Int32} {f : pl_H} {x3 : Int32} {H : Heap} {locs : List Loc} {ls : Array Slot} (hF : fn_M_common_34 f x3 = some r) (w : pl_wd D vwCl dA b n f H) (hS : va_S (pl_A b) s.heap H locs) (hl : lv_has ls 5 [(3, .int x3)]) : W p l e rm_M_common s m args below meth c H locs 0 0 (MQ below (pl_qI D dA tt b n f r) args s 0 0 (pl_A b)) (F0 m 34 ls []) := by
  have hx := C.1
  have hb := C.2.1
  have hown := C.2.2.2.2.1
  have hts := C.2.2.2.2.2.2.1
  unfold fn_M_common_34 at hF
  refine lv_iload_n hx hb dc_M_common_34 rfl (lv_at hl 0 rfl) ?_
  exact pl_retI C w hS hF dc_M_common_35
set_option maxHeartbeats 4000000 in
set_option maxRecDepth 100000 in
theorem tl_M_common_10 {p : Program} {l : Launch} {e : Env} {s : State} {m : MethodId} {args : Array Value} {below : List Frame} {meth : Method} {c : Code} {D : va_G} {dA : Nat → ClassId} {tt : Nat → Nat} {b n : Nat} (C : pl_C p s m args meth c co_M_common 5 rn_M (some .int) "common" D dA tt b) {r : Int32} {f : pl_H} : ∀ k : Nat, ∀ (a0 : Nat) (x1 : Int32) (x3 : Int32) (x4 : Int32) (H : Heap) (locs : List Loc) (ls : Array Slot), fn_M_common_10 k f a0 x1 x3 x4 = some r → pl_wd D vwCl dA b n f H → va_S (pl_A b) s.heap H locs → lv_has ls 5 [(0, .ref a0), (1, .int x1), (3, .int x3), (4, .int x4)] → W p l e rm_M_common s m args below meth c H locs 0 0 (MQ below (pl_qI D dA tt b n f r) args s 0 0 (pl_A b)) (F0 m 10 ls []) := by
  have hx := C.1
  have hb := C.2.1
  have hown := C.2.2.2.2.1
  have hts := C.2.2.2.2.2.2.1
  intro k
  induction k with
  | zero =>
    intro a0 x1 x3 x4 H locs ls hF
    cases hF
  | succ k ih =>
    intro a0 x1 x3 x4 H locs ls hF w hS hl
    unfold fn_M_common_10 at hF
    refine lv_iload_n hx hb dc_M_common_10 rfl (lv_at hl 2 rfl) ?_
    refine lv_iconst (v := 4) hx hb dc_M_common_11 (by decide) ?_
    refine lv_icmp_ge hx hb dc_M_common_12 (tgt := 34) (by decide) (fun hc => ?_) (fun hc => ?_)
    · have hF := (if_pos hc).symm.trans hF
      exact tl_M_common_34 C hF w hS (lv_sub hl [2] rfl)
    · have hF := (if_neg hc).symm.trans hF
      refine lv_aload_n hx hb dc_M_common_15 rfl (lv_at hl 0 rfl) ?_
      refine lv_iload_n hx hb dc_M_common_16 rfl (lv_at hl 1 rfl) ?_
      refine lv_iload_n hx hb dc_M_common_17 rfl (lv_at hl 2 rfl) ?_
      refine lv_iconst (v := 1) hx hb dc_M_common_18 (by decide) ?_
      refine lv_iadd hx hb dc_M_common_19 ?_
      obtain ⟨u2, eu2, hF⟩ := pl_bd hF
      obtain ⟨v1, ev1, hF⟩ := pl_bd hF
      refine pl_gi (pl_runV (Cn := rn_M) (k := 2) C (tm_M_group l D dA tt b n ev1) w hS rfl rfl mw_863 mw_865 mw_37 mw_72 mw_866 (by decide +kernel) ⟨by decide, by decide⟩ eu2 rfl (by decide) rfl hl.1 (Nat.le_of_ble_eq_true rfl) ⟨Nat.zero_le _, Nat.zero_le _⟩ rfl dc_M_common_20) hS (fun H locs w hS => ?_)
      refine lv_iload hx hb dc_M_common_23 (lv_at hl 3 rfl) ?_
      refine lv_icmp_ne hx hb dc_M_common_25 (tgt := 34) (by decide) (fun hc => ?_) (fun hc => ?_)
      · have hF := (if_neg hc).symm.trans hF
        exact tl_M_common_34 C hF w hS (lv_sub hl [2] rfl)
      · have hF := (if_pos hc).symm.trans hF
        refine lv_iinc (k := 2) (v := x3 + 1) (lv' := [(3, .int (x3 + 1)), (0, .ref a0), (1, .int x1), (4, .int x4)]) hx hb dc_M_common_28 hl rfl rfl (by decide) rfl (fun ls hl => ?_)
        refine lv_goto hx hb dc_M_common_31 (tgt := 10) (by decide) ?_
        exact ih a0 x1 (x3 + 1) x4 _ _ _ hF w hS (lv_sub hl [1, 2, 0, 3] rfl)
set_option maxHeartbeats 4000000 in
set_option maxRecDepth 100000 in
theorem tl_M_common {p : Program} {l : Launch} {e : Env} {s : State} {m : MethodId} {args : Array Value} {below : List Frame} {meth : Method} {c : Code} {D : va_G} {dA : Nat → ClassId} {tt : Nat → Nat} {b n : Nat} (C : pl_C p s m args meth c co_M_common 5 rn_M (some .int) "common" D dA tt b) {r : Int32} {f : pl_H} {a0 : Nat} {x1 : Int32} {x2 : Int32} {H : Heap} {locs : List Loc} {ls : Array Slot} (hF : fn_M_common f a0 x1 x2 = some r) (w : pl_wd D vwCl dA b n f H) (hS : va_S (pl_A b) s.heap H locs) (hl : lv_has ls 5 [(0, .ref a0), (1, .int x1), (2, .int x2)]) : W p l e rm_M_common s m args below meth c H locs 0 0 (MQ below (pl_qI D dA tt b n f r) args s 0 0 (pl_A b)) (F0 m 0 ls []) := by
  have hx := C.1
  have hb := C.2.1
  have hown := C.2.2.2.2.1
  have hts := C.2.2.2.2.2.2.1
  unfold fn_M_common at hF
  refine lv_iload_n hx hb dc_M_common_0 rfl (lv_at hl 2 rfl) ?_
  refine lv_istore_n (lv' := [(3, .int x2), (0, .ref a0), (1, .int x1), (2, .int x2)]) hx hb dc_M_common_1 rfl hl (by decide) rfl (fun ls hl => ?_)
  refine lv_aload_n hx hb dc_M_common_2 rfl (lv_at hl 1 rfl) ?_
  refine lv_iload_n hx hb dc_M_common_3 rfl (lv_at hl 2 rfl) ?_
  refine lv_iload_n hx hb dc_M_common_4 rfl (lv_at hl 3 rfl) ?_
  obtain ⟨u2, eu2, hF⟩ := pl_bd hF
  obtain ⟨v1, ev1, hF⟩ := pl_bd hF
  refine pl_gi (pl_runV (Cn := rn_M) (k := 2) C (tm_M_group l D dA tt b n ev1) w hS rfl rfl mw_863 mw_865 mw_37 mw_72 mw_866 (by decide +kernel) ⟨by decide, by decide⟩ eu2 rfl (by decide) rfl hl.1 (Nat.le_of_ble_eq_true rfl) ⟨Nat.zero_le _, Nat.zero_le _⟩ rfl dc_M_common_5) hS (fun H locs w hS => ?_)
  refine lv_istore (lv' := [(4, .int v1), (3, .int x2), (0, .ref a0), (1, .int x1), (2, .int x2)]) hx hb dc_M_common_8 hl (by decide) rfl (fun ls hl => ?_)
  exact tl_M_common_10 C pl_N a0 x1 x2 v1 _ _ _ hF w hS (lv_sub hl [2, 3, 1, 0] rfl)
set_option maxHeartbeats 4000000 in
set_option maxRecDepth 100000 in
theorem tm_M_common (l : Launch) (D : va_G) (dA : Nat → ClassId) (tt : Nat → Nat) (b n : Nat) {f : pl_H} {a0 : Nat} {x1 : Int32} {x2 : Int32} {r : Int32} (hF : fn_M_common f a0 x1 x2 = some r) : Met l my_M_common (Cond.code my_M_common co_M_common 5 (some .int) :: pl_tb) rm_M_common (va_Pc [.ref a0, .int x1, .int x2] (pl_pre D dA tt b n f)) (pl_qI D dA tt b n f r) 0 0 (pl_A b) := by
  refine Met.ofW (cc := co_M_common) (maxL := 5) (ret := (some .int)) (by decide) rfl ?_
  intro p e s m args below meth c s₁ B hml hv
  obtain ⟨rfl, w, hK⟩ := hv
  have C : pl_C p s m _ meth c co_M_common 5 rn_M (some .int) "common" D dA tt b := ⟨B.exec, B.bytes, hml, B.returns, findClass_of_methodNamed B.named, B.notSynchronized, fun w hw => atoms_spec (ws := Cond.code my_M_common co_M_common 5 (some .int) :: pl_tb) B.pre w (List.mem_cons_of_mem _ hw), (name_of_methodNamed B.named B.method).1, hK⟩
  have hl := lv_entry ([.ref a0, .int x1, .int x2]) (n := 5) (Nat.le_of_ble_eq_true rfl)
  rw [lg_entry_eq]
  generalize (lg_sl ([.ref a0, .int x1, .int x2]) ++ List.replicate (5 - (lg_sl ([.ref a0, .int x1, .int x2])).length) Slot.unset).toArray = ls at hl ⊢
  have hl : lv_has ls 5 [(0, .ref a0), (1, .int x1), (2, .int x2)] := hl
  exact tl_M_common C hF w va_S.rf hl
def rm_M_first : Room := { frames := 1, cells := 0, slots := 0, locals := 22 }
def fn_M_first_36 (rc10 : pl_H → Nat → Int32 → Int32 → Int32 → Int32 → Option (Int32)) (f : pl_H) (a0 : Nat) (x1 : Int32) (x2 : Int32) (x4 : Int32) (sx0 : Int32) : Option (Int32) := rc10 f a0 x1 x2 sx0 (x4 + (-1))
def fn_M_first_10 : Nat → pl_H → Nat → Int32 → Int32 → Int32 → Int32 → Option (Int32)
  | 0 => fun _ _ _ _ _ _ => none
  | k + 1 => fun f a0 x1 x2 x3 x4 => if x4 < 0 then some x3 else (pl_gR f a0 8 1).bind fun v1 => (pl_aI f v1 x4).bind fun v2 => (fn_M_agree f x1 v2 x2).bind fun v3 => if v3 = 0 then fn_M_first_36 (fn_M_first_10 k) f a0 x1 x2 x4 x3 else fn_M_first_36 (fn_M_first_10 k) f a0 x1 x2 x4 x4
def fn_M_first (f : pl_H) (a0 : Nat) (x1 : Int32) (x2 : Int32) : Option (Int32) := (pl_gI f a0 8 0).bind fun v1 => fn_M_first_10 pl_N f a0 x1 x2 ((-1)) (v1 - 1)
set_option maxHeartbeats 4000000 in
set_option maxRecDepth 100000 in
theorem tl_M_first_36 {p : Program} {l : Launch} {e : Env} {s : State} {m : MethodId} {args : Array Value} {below : List Frame} {meth : Method} {c : Code} {D : va_G} {dA : Nat → ClassId} {tt : Nat → Nat} {b n : Nat} (C : pl_C p s m args meth c co_M_first 5 rn_M (some .int) "first" D dA tt b) {r : Int32} {f : pl_H} {rc10 : pl_H → Nat → Int32 → Int32 → Int32 → Int32 → Option (Int32)} (hr10 : ∀ (a0 : Nat) (x1 : Int32) (x2 : Int32) (x3 : Int32) (x4 : Int32) (H : Heap) (locs : List Loc) (ls : Array Slot), rc10 f a0 x1 x2 x3 x4 = some r → pl_wd D vwCl dA b n f H → va_S (pl_A b) s.heap H locs → lv_has ls 5 [(0, .ref a0), (1, .int x1), (2, .int x2), (3, .int x3), (4, .int x4)] → W p l e rm_M_first s m args below meth c H locs 0 0 (MQ below (pl_qI D dA tt b n f r) args s 0 0 (pl_A b)) (F0 m 10 ls [])) {a0 : Nat} {x1 : Int32} {x2 : Int32} {x4 : Int32} {sx0 : Int32} {H : Heap} {locs : List Loc} {ls : Array Slot} (hF : fn_M_first_36 rc10 f a0 x1 x2 x4 sx0 = some r) (w : pl_wd D vwCl dA b n f H) (hS : va_S (pl_A b) s.heap H locs) (hl : lv_has ls 5 [(0, .ref a0), (1, .int x1), (2, .int x2), (4, .int x4)]) : W p l e rm_M_first s m args below meth c H locs 0 0 (MQ below (pl_qI D dA tt b n f r) args s 0 0 (pl_A b)) (F0 m 36 ls [.int sx0]) := by
  have hx := C.1
  have hb := C.2.1
  have hown := C.2.2.2.2.1
  have hts := C.2.2.2.2.2.2.1
  unfold fn_M_first_36 at hF
  refine lv_istore_n (lv' := [(3, .int sx0), (0, .ref a0), (1, .int x1), (2, .int x2), (4, .int x4)]) hx hb dc_M_first_36 rfl hl (by decide) rfl (fun ls hl => ?_)
  refine lv_iinc (k := 4) (v := x4 + (-1)) (lv' := [(4, .int (x4 + (-1))), (3, .int sx0), (0, .ref a0), (1, .int x1), (2, .int x2)]) hx hb dc_M_first_37 hl rfl rfl (by decide) rfl (fun ls hl => ?_)
  refine lv_goto hx hb dc_M_first_40 (tgt := 10) (by decide) ?_
  exact hr10 a0 x1 x2 sx0 (x4 + (-1)) _ _ _ hF w hS (lv_sub hl [2, 3, 4, 1, 0] rfl)
set_option maxHeartbeats 4000000 in
set_option maxRecDepth 100000 in
theorem tl_M_first_10 {p : Program} {l : Launch} {e : Env} {s : State} {m : MethodId} {args : Array Value} {below : List Frame} {meth : Method} {c : Code} {D : va_G} {dA : Nat → ClassId} {tt : Nat → Nat} {b n : Nat} (C : pl_C p s m args meth c co_M_first 5 rn_M (some .int) "first" D dA tt b) {r : Int32} {f : pl_H} : ∀ k : Nat, ∀ (a0 : Nat) (x1 : Int32) (x2 : Int32) (x3 : Int32) (x4 : Int32) (H : Heap) (locs : List Loc) (ls : Array Slot), fn_M_first_10 k f a0 x1 x2 x3 x4 = some r → pl_wd D vwCl dA b n f H → va_S (pl_A b) s.heap H locs → lv_has ls 5 [(0, .ref a0), (1, .int x1), (2, .int x2), (3, .int x3), (4, .int x4)] → W p l e rm_M_first s m args below meth c H locs 0 0 (MQ below (pl_qI D dA tt b n f r) args s 0 0 (pl_A b)) (F0 m 10 ls []) := by
  have hx := C.1
  have hb := C.2.1
  have hown := C.2.2.2.2.1
  have hts := C.2.2.2.2.2.2.1
  intro k
  induction k with
  | zero =>
    intro a0 x1 x2 x3 x4 H locs ls hF
    cases hF
  | succ k ih =>
    intro a0 x1 x2 x3 x4 H locs ls hF w hS hl
    unfold fn_M_first_10 at hF
    refine lv_iload hx hb dc_M_first_10 (lv_at hl 4 rfl) ?_
    refine lv_if_lt hx hb dc_M_first_12 (tgt := 43) (by decide) (fun hc => ?_) (fun hc => ?_)
    · have hF := (if_pos hc).symm.trans hF
      refine lv_iload_n hx hb dc_M_first_43 rfl (lv_at hl 3 rfl) ?_
      exact pl_retI C w hS hF dc_M_first_44
    · have hF := (if_neg hc).symm.trans hF
      refine lv_iload_n hx hb dc_M_first_15 rfl (lv_at hl 1 rfl) ?_
      refine lv_aload_n hx hb dc_M_first_16 rfl (lv_at hl 0 rfl) ?_
      obtain ⟨v1, ev1, hF⟩ := pl_bd hF
      refine pl_getR C w (ci := 8) in_M rfl (by decide) 1 (by decide) mw_698 ev1 dc_M_first_17 ?_
      refine lv_iload hx hb dc_M_first_20 (lv_at hl 4 rfl) ?_
      obtain ⟨v2, ev2, hF⟩ := pl_bd hF
      refine pl_aldI C w ev2 dc_M_first_22 ?_
      refine lv_iload_n hx hb dc_M_first_23 rfl (lv_at hl 2 rfl) ?_
      obtain ⟨v3, ev3, hF⟩ := pl_bd hF
      refine pl_gi (pl_runS (k := 3) C (tm_M_agree l D dA tt b n ev3) w hS rfl rfl mw_867 mw_868 mw_72 mw_869 (by decide +kernel) ⟨by decide, by decide⟩ rfl hl.1 (Nat.le_of_ble_eq_true rfl) ⟨Nat.zero_le _, Nat.zero_le _⟩ rfl dc_M_first_24) hS (fun H locs w hS => ?_)
      refine lv_if_eq hx hb dc_M_first_27 (tgt := 35) (by decide) (fun hc => ?_) (fun hc => ?_)
      · have hF := (if_pos hc).symm.trans hF
        refine lv_iload_n hx hb dc_M_first_35 rfl (lv_at hl 3 rfl) ?_
        exact tl_M_first_36 C ih hF w hS (lv_sub hl [0, 1, 2, 4] rfl)
      · have hF := (if_neg hc).symm.trans hF
        refine lv_iload hx hb dc_M_first_30 (lv_at hl 4 rfl) ?_
        refine lv_goto hx hb dc_M_first_32 (tgt := 36) (by decide) ?_
        exact tl_M_first_36 C ih hF w hS (lv_sub hl [0, 1, 2, 4] rfl)
set_option maxHeartbeats 4000000 in
set_option maxRecDepth 100000 in
theorem tl_M_first {p : Program} {l : Launch} {e : Env} {s : State} {m : MethodId} {args : Array Value} {below : List Frame} {meth : Method} {c : Code} {D : va_G} {dA : Nat → ClassId} {tt : Nat → Nat} {b n : Nat} (C : pl_C p s m args meth c co_M_first 5 rn_M (some .int) "first" D dA tt b) {r : Int32} {f : pl_H} {a0 : Nat} {x1 : Int32} {x2 : Int32} {H : Heap} {locs : List Loc} {ls : Array Slot} (hF : fn_M_first f a0 x1 x2 = some r) (w : pl_wd D vwCl dA b n f H) (hS : va_S (pl_A b) s.heap H locs) (hl : lv_has ls 5 [(0, .ref a0), (1, .int x1), (2, .int x2)]) : W p l e rm_M_first s m args below meth c H locs 0 0 (MQ below (pl_qI D dA tt b n f r) args s 0 0 (pl_A b)) (F0 m 0 ls []) := by
  have hx := C.1
  have hb := C.2.1
  have hown := C.2.2.2.2.1
  have hts := C.2.2.2.2.2.2.1
  unfold fn_M_first at hF
  refine lv_iconst (v := (-1)) hx hb dc_M_first_0 (by decide) ?_
  refine lv_istore_n (lv' := [(3, .int ((-1))), (0, .ref a0), (1, .int x1), (2, .int x2)]) hx hb dc_M_first_1 rfl hl (by decide) rfl (fun ls hl => ?_)
  refine lv_aload_n hx hb dc_M_first_2 rfl (lv_at hl 1 rfl) ?_
  obtain ⟨v1, ev1, hF⟩ := pl_bd hF
  refine pl_getI C w (ci := 8) in_M rfl (by decide) 0 (by decide) mw_697 ev1 dc_M_first_3 ?_
  refine lv_iconst (v := 1) hx hb dc_M_first_6 (by decide) ?_
  refine lv_isub hx hb dc_M_first_7 ?_
  refine lv_istore (lv' := [(4, .int (v1 - 1)), (3, .int ((-1))), (0, .ref a0), (1, .int x1), (2, .int x2)]) hx hb dc_M_first_8 hl (by decide) rfl (fun ls hl => ?_)
  exact tl_M_first_10 C pl_N a0 x1 x2 ((-1)) (v1 - 1) _ _ _ hF w hS (lv_sub hl [2, 3, 4, 1, 0] rfl)
set_option maxHeartbeats 4000000 in
set_option maxRecDepth 100000 in
theorem tm_M_first (l : Launch) (D : va_G) (dA : Nat → ClassId) (tt : Nat → Nat) (b n : Nat) {f : pl_H} {a0 : Nat} {x1 : Int32} {x2 : Int32} {r : Int32} (hF : fn_M_first f a0 x1 x2 = some r) : Met l my_M_first (Cond.code my_M_first co_M_first 5 (some .int) :: pl_tb) rm_M_first (va_Pc [.ref a0, .int x1, .int x2] (pl_pre D dA tt b n f)) (pl_qI D dA tt b n f r) 0 0 (pl_A b) := by
  refine Met.ofW (cc := co_M_first) (maxL := 5) (ret := (some .int)) (by decide) rfl ?_
  intro p e s m args below meth c s₁ B hml hv
  obtain ⟨rfl, w, hK⟩ := hv
  have C : pl_C p s m _ meth c co_M_first 5 rn_M (some .int) "first" D dA tt b := ⟨B.exec, B.bytes, hml, B.returns, findClass_of_methodNamed B.named, B.notSynchronized, fun w hw => atoms_spec (ws := Cond.code my_M_first co_M_first 5 (some .int) :: pl_tb) B.pre w (List.mem_cons_of_mem _ hw), (name_of_methodNamed B.named B.method).1, hK⟩
  have hl := lv_entry ([.ref a0, .int x1, .int x2]) (n := 5) (Nat.le_of_ble_eq_true rfl)
  rw [lg_entry_eq]
  generalize (lg_sl ([.ref a0, .int x1, .int x2]) ++ List.replicate (5 - (lg_sl ([.ref a0, .int x1, .int x2])).length) Slot.unset).toArray = ls at hl ⊢
  have hl : lv_has ls 5 [(0, .ref a0), (1, .int x1), (2, .int x2)] := hl
  exact tl_M_first C hF w va_S.rf hl
def rm_M_putReference : Room := { frames := 1, cells := 0, slots := 0, locals := 21 }
def fn_M_putReference_10 : Nat → pl_H → Nat → Int32 → Int32 → Option (pl_H)
  | 0 => fun _ _ _ _ => none
  | k + 1 => fun f a0 x3 x4 => (pl_gR f a0 8 7).bind fun v1 => (pl_aI f v1 x3).bind fun v2 => if v2 ≤ x4 then some f else (pl_gR f a0 8 6).bind fun v3 => (pl_aI f v3 ((33 * x3) + x4)).bind fun v4 => (pl_is f a0 8).bind fun u6 => (fn_M_put f a0 v4).bind fun q5 => fn_M_putReference_10 k q5 a0 x3 (x4 + 1)
def fn_M_putReference (f : pl_H) (a0 : Nat) (x1 : Int32) (x2 : Int32) : Option (pl_H) := fn_M_putReference_10 pl_N f a0 ((12 * x2) + x1) 0
set_option maxHeartbeats 4000000 in
set_option maxRecDepth 100000 in
theorem tl_M_putReference_10 {p : Program} {l : Launch} {e : Env} {s : State} {m : MethodId} {args : Array Value} {below : List Frame} {meth : Method} {c : Code} {D : va_G} {dA : Nat → ClassId} {tt : Nat → Nat} {b n : Nat} (C : pl_C p s m args meth c co_M_putReference 5 rn_M none "putReference" D dA tt b) {f' : pl_H} : ∀ k : Nat, ∀ (f : pl_H) (a0 : Nat) (x3 : Int32) (x4 : Int32) (H : Heap) (locs : List Loc) (ls : Array Slot), fn_M_putReference_10 k f a0 x3 x4 = some f' → pl_wd D vwCl dA b n f H → va_S (pl_A b) s.heap H locs → lv_has ls 5 [(0, .ref a0), (3, .int x3), (4, .int x4)] → W p l e rm_M_putReference s m args below meth c H locs 0 0 (MQ below (pl_qV D dA tt b n f') args s 0 0 (pl_A b)) (F0 m 10 ls []) := by
  have hx := C.1
  have hb := C.2.1
  have hown := C.2.2.2.2.1
  have hts := C.2.2.2.2.2.2.1
  intro k
  induction k with
  | zero =>
    intro f a0 x3 x4 H locs ls hF
    cases hF
  | succ k ih =>
    intro f a0 x3 x4 H locs ls hF w hS hl
    unfold fn_M_putReference_10 at hF
    refine lv_iload hx hb dc_M_putReference_10 (lv_at hl 2 rfl) ?_
    refine lv_aload_n hx hb dc_M_putReference_12 rfl (lv_at hl 0 rfl) ?_
    obtain ⟨v1, ev1, hF⟩ := pl_bd hF
    refine pl_getR C w (ci := 8) in_M rfl (by decide) 7 (by decide) mw_704 ev1 dc_M_putReference_13 ?_
    refine lv_iload_n hx hb dc_M_putReference_16 rfl (lv_at hl 1 rfl) ?_
    obtain ⟨v2, ev2, hF⟩ := pl_bd hF
    refine pl_aldI C w ev2 dc_M_putReference_17 ?_
    refine lv_icmp_ge hx hb dc_M_putReference_18 (tgt := 43) (by decide) (fun hc => ?_) (fun hc => ?_)
    · have hF := (if_pos hc).symm.trans hF
      exact pl_retVw C w hS hF dc_M_putReference_43
    · have hF := (if_neg hc).symm.trans hF
      refine lv_aload_n hx hb dc_M_putReference_21 rfl (lv_at hl 0 rfl) ?_
      refine lv_aload_n hx hb dc_M_putReference_22 rfl (lv_at hl 0 rfl) ?_
      obtain ⟨v3, ev3, hF⟩ := pl_bd hF
      refine pl_getR C w (ci := 8) in_M rfl (by decide) 6 (by decide) mw_703 ev3 dc_M_putReference_23 ?_
      refine lv_bipush (v := 33) hx hb dc_M_putReference_26 (by decide) ?_
      refine lv_iload_n hx hb dc_M_putReference_28 rfl (lv_at hl 1 rfl) ?_
      refine lv_imul hx hb dc_M_putReference_29 ?_
      refine lv_iload hx hb dc_M_putReference_30 (lv_at hl 2 rfl) ?_
      refine lv_iadd hx hb dc_M_putReference_32 ?_
      obtain ⟨v4, ev4, hF⟩ := pl_bd hF
      refine pl_aldI C w ev4 dc_M_putReference_33 ?_
      obtain ⟨u6, eu6, hF⟩ := pl_bd hF
      obtain ⟨q5, eq5, hF⟩ := pl_bd hF
      refine pl_gv (pl_runV (Cn := rn_M) (k := 1) C (tm_M_put l D dA tt b n eq5) w hS rfl rfl mw_881 mw_883 mw_40 mw_72 mw_884 (by decide +kernel) ⟨by decide, by decide⟩ eu6 rfl (by decide) rfl hl.1 (Nat.le_of_ble_eq_true rfl) ⟨Nat.zero_le _, Nat.zero_le _⟩ rfl dc_M_putReference_34) hS (fun H locs w hS => ?_)
      refine lv_iinc (k := 2) (v := x4 + 1) (lv' := [(4, .int (x4 + 1)), (0, .ref a0), (3, .int x3)]) hx hb dc_M_putReference_37 hl rfl rfl (by decide) rfl (fun ls hl => ?_)
      refine lv_goto hx hb dc_M_putReference_40 (tgt := 10) (by decide) ?_
      exact ih q5 a0 x3 (x4 + 1) _ _ _ hF w hS (lv_sub hl [1, 2, 0] rfl)
set_option maxHeartbeats 4000000 in
set_option maxRecDepth 100000 in
theorem tl_M_putReference {p : Program} {l : Launch} {e : Env} {s : State} {m : MethodId} {args : Array Value} {below : List Frame} {meth : Method} {c : Code} {D : va_G} {dA : Nat → ClassId} {tt : Nat → Nat} {b n : Nat} (C : pl_C p s m args meth c co_M_putReference 5 rn_M none "putReference" D dA tt b) {f' : pl_H} {f : pl_H} {a0 : Nat} {x1 : Int32} {x2 : Int32} {H : Heap} {locs : List Loc} {ls : Array Slot} (hF : fn_M_putReference f a0 x1 x2 = some f') (w : pl_wd D vwCl dA b n f H) (hS : va_S (pl_A b) s.heap H locs) (hl : lv_has ls 5 [(0, .ref a0), (1, .int x1), (2, .int x2)]) : W p l e rm_M_putReference s m args below meth c H locs 0 0 (MQ below (pl_qV D dA tt b n f') args s 0 0 (pl_A b)) (F0 m 0 ls []) := by
  have hx := C.1
  have hb := C.2.1
  have hown := C.2.2.2.2.1
  have hts := C.2.2.2.2.2.2.1
  unfold fn_M_putReference at hF
  refine lv_bipush (v := 12) hx hb dc_M_putReference_0 (by decide) ?_
  refine lv_iload_n hx hb dc_M_putReference_2 rfl (lv_at hl 2 rfl) ?_
  refine lv_imul hx hb dc_M_putReference_3 ?_
  refine lv_iload_n hx hb dc_M_putReference_4 rfl (lv_at hl 1 rfl) ?_
  refine lv_iadd hx hb dc_M_putReference_5 ?_
  refine lv_istore_n (lv' := [(3, .int ((12 * x2) + x1)), (0, .ref a0), (1, .int x1), (2, .int x2)]) hx hb dc_M_putReference_6 rfl hl (by decide) rfl (fun ls hl => ?_)
  refine lv_iconst (v := 0) hx hb dc_M_putReference_7 (by decide) ?_
  refine lv_istore (lv' := [(4, .int 0), (3, .int ((12 * x2) + x1)), (0, .ref a0), (1, .int x1), (2, .int x2)]) hx hb dc_M_putReference_8 hl (by decide) rfl (fun ls hl => ?_)
  exact tl_M_putReference_10 C pl_N f a0 ((12 * x2) + x1) 0 _ _ _ hF w hS (lv_sub hl [2, 1, 0] rfl)
set_option maxHeartbeats 4000000 in
set_option maxRecDepth 100000 in
theorem tm_M_putReference (l : Launch) (D : va_G) (dA : Nat → ClassId) (tt : Nat → Nat) (b n : Nat) {f : pl_H} {a0 : Nat} {x1 : Int32} {x2 : Int32} {f' : pl_H} (hF : fn_M_putReference f a0 x1 x2 = some f') : Met l my_M_putReference (Cond.code my_M_putReference co_M_putReference 5 none :: pl_tb) rm_M_putReference (va_Pc [.ref a0, .int x1, .int x2] (pl_pre D dA tt b n f)) (pl_qV D dA tt b n f') 0 0 (pl_A b) := by
  refine Met.ofW (cc := co_M_putReference) (maxL := 5) (ret := none) (by decide) rfl ?_
  intro p e s m args below meth c s₁ B hml hv
  obtain ⟨rfl, w, hK⟩ := hv
  have C : pl_C p s m _ meth c co_M_putReference 5 rn_M none "putReference" D dA tt b := ⟨B.exec, B.bytes, hml, B.returns, findClass_of_methodNamed B.named, B.notSynchronized, fun w hw => atoms_spec (ws := Cond.code my_M_putReference co_M_putReference 5 none :: pl_tb) B.pre w (List.mem_cons_of_mem _ hw), (name_of_methodNamed B.named B.method).1, hK⟩
  have hl := lv_entry ([.ref a0, .int x1, .int x2]) (n := 5) (Nat.le_of_ble_eq_true rfl)
  rw [lg_entry_eq]
  generalize (lg_sl ([.ref a0, .int x1, .int x2]) ++ List.replicate (5 - (lg_sl ([.ref a0, .int x1, .int x2])).length) Slot.unset).toArray = ls at hl ⊢
  have hl : lv_has ls 5 [(0, .ref a0), (1, .int x1), (2, .int x2)] := hl
  exact tl_M_putReference C hF w va_S.rf hl
def rm_M_build : Room := { frames := 3, cells := 0, slots := 0, locals := 71 }
def fn_M_build_207 (f : pl_H) (a0 : Nat) : Option (pl_H) := (pl_is f a0 8).bind fun u2 => (fn_M_finish f a0).bind fun q1 => some q1
def fn_M_build_194 (rc142 : pl_H → Nat → Int32 → Int32 → Int32 → Option (pl_H)) (f : pl_H) (a0 : Nat) (x2 : Int32) (x4 : Int32) (x5 : Int32) : Option (pl_H) := rc142 f a0 x2 x4 (x5 + 1)
def fn_M_build_142 : Nat → pl_H → Nat → Int32 → Int32 → Int32 → Option (pl_H)
  | 0 => fun _ _ _ _ _ => none
  | k + 1 => fun f a0 x2 x4 x5 => if 16 ≤ x5 then (pl_is f a0 8).bind fun u2 => (fn_M_put f a0 128).bind fun q1 => fn_M_build_207 q1 a0 else (pl_is f a0 8).bind fun u4 => (fn_M_first f a0 (x4 + (x5 <<< ((12 - (4 * x2)) &&& 31))) (x2 + 1)).bind fun v3 => if 0 ≤ v3 then (pl_is f a0 8).bind fun u6 => (fn_M_putReference f a0 v3 (x2 + 1)).bind fun q5 => fn_M_build_194 (fn_M_build_142 k) q5 a0 x2 x4 x5 else (pl_is f a0 8).bind fun u8 => (fn_M_put f a0 128).bind fun q7 => fn_M_build_194 (fn_M_build_142 k) q7 a0 x2 x4 x5
def fn_M_build (f : pl_H) (a0 : Nat) (x1 : Int32) (x2 : Int32) : Option (pl_H) := (pl_pV f a0 8 10 (.int 0)).bind fun f1 => (pl_is f1 a0 8).bind fun u3 => (fn_M_common f1 a0 x1 x2).bind fun v2 => (pl_is f1 a0 8).bind fun u5 => (fn_M_group f1 a0 x1 x2).bind fun v4 => if v4 = 1 then (pl_gR f1 a0 8 1).bind fun v14 => (pl_aI f1 v14 x1).bind fun v15 => (pl_is f1 a0 8).bind fun u17 => (fn_M_putDigits f1 a0 v15 x2 4 1).bind fun q16 => (pl_gR q16 a0 8 2).bind fun v18 => (pl_aI q16 v18 x1).bind fun v19 => (pl_is q16 a0 8).bind fun u21 => (fn_M_putNumber q16 a0 1 ((v19 : Int32).toInt64)).bind fun q20 => (pl_gR q20.2 a0 8 3).bind fun v22 => (pl_aL q20.2 v22 x1).bind fun v23 => (pl_is q20.2 a0 8).bind fun u25 => (fn_M_putNumber q20.2 a0 q20.1 v23).bind fun q24 => (pl_gR q24.2 a0 8 15).bind fun v26 => (pl_sI q24.2 v26 0 ((192 + q24.1) - 1)).bind fun f27 => (pl_gR f27 a0 8 15).bind fun v28 => (pl_is f27 a0 8).bind fun u30 => (fn_M_putRow f27 a0 v28 q24.1).bind fun q29 => fn_M_build_207 q29 a0 else if v2 ≤ x2 then (pl_gR f1 a0 8 1).bind fun v6 => (pl_aI f1 v6 x1).bind fun v7 => fn_M_build_142 pl_N f1 a0 x2 ((v7 >>> ((16 - (4 * x2)) &&& 31)) <<< ((16 - (4 * x2)) &&& 31)) 0 else (pl_gR f1 a0 8 1).bind fun v8 => (pl_aI f1 v8 x1).bind fun v9 => (pl_is f1 a0 8).bind fun u11 => (fn_M_putDigits f1 a0 v9 x2 v2 0).bind fun q10 => (pl_is q10 a0 8).bind fun u13 => (fn_M_putReference q10 a0 x1 v2).bind fun q12 => fn_M_build_207 q12 a0
set_option maxHeartbeats 4000000 in
set_option maxRecDepth 100000 in
theorem tl_M_build_207 {p : Program} {l : Launch} {e : Env} {s : State} {m : MethodId} {args : Array Value} {below : List Frame} {meth : Method} {c : Code} {D : va_G} {dA : Nat → ClassId} {tt : Nat → Nat} {b n : Nat} (C : pl_C p s m args meth c co_M_build 7 rn_M none "build" D dA tt b) {f' : pl_H} {f : pl_H} {a0 : Nat} {H : Heap} {locs : List Loc} {ls : Array Slot} (hF : fn_M_build_207 f a0 = some f') (w : pl_wd D vwCl dA b n f H) (hS : va_S (pl_A b) s.heap H locs) (hl : lv_has ls 7 [(0, .ref a0)]) : W p l e rm_M_build s m args below meth c H locs 0 0 (MQ below (pl_qV D dA tt b n f') args s 0 0 (pl_A b)) (F0 m 207 ls []) := by
  have hx := C.1
  have hb := C.2.1
  have hown := C.2.2.2.2.1
  have hts := C.2.2.2.2.2.2.1
  unfold fn_M_build_207 at hF
  refine lv_aload_n hx hb dc_M_build_207 rfl (lv_at hl 0 rfl) ?_
  obtain ⟨u2, eu2, hF⟩ := pl_bd hF
  obtain ⟨q1, eq1, hF⟩ := pl_bd hF
  refine pl_gv (pl_runV (Cn := rn_M) (k := 0) C (tm_M_finish l D dA tt b n eq1) w hS rfl rfl mw_903 mw_905 mw_44 mw_72 mw_906 (by decide +kernel) ⟨by decide, by decide⟩ eu2 rfl (by decide) rfl hl.1 (Nat.le_of_ble_eq_true rfl) ⟨Nat.zero_le _, Nat.zero_le _⟩ rfl dc_M_build_208) hS (fun H locs w hS => ?_)
  exact pl_retVw C w hS hF dc_M_build_211
set_option maxHeartbeats 4000000 in
set_option maxRecDepth 100000 in
theorem tl_M_build_194 {p : Program} {l : Launch} {e : Env} {s : State} {m : MethodId} {args : Array Value} {below : List Frame} {meth : Method} {c : Code} {D : va_G} {dA : Nat → ClassId} {tt : Nat → Nat} {b n : Nat} (C : pl_C p s m args meth c co_M_build 7 rn_M none "build" D dA tt b) {f' : pl_H} {rc142 : pl_H → Nat → Int32 → Int32 → Int32 → Option (pl_H)} (hr142 : ∀ (f : pl_H) (a0 : Nat) (x2 : Int32) (x4 : Int32) (x5 : Int32) (H : Heap) (locs : List Loc) (ls : Array Slot), rc142 f a0 x2 x4 x5 = some f' → pl_wd D vwCl dA b n f H → va_S (pl_A b) s.heap H locs → lv_has ls 7 [(0, .ref a0), (2, .int x2), (4, .int x4), (5, .int x5)] → W p l e rm_M_build s m args below meth c H locs 0 0 (MQ below (pl_qV D dA tt b n f') args s 0 0 (pl_A b)) (F0 m 142 ls [])) {f : pl_H} {a0 : Nat} {x2 : Int32} {x4 : Int32} {x5 : Int32} {H : Heap} {locs : List Loc} {ls : Array Slot} (hF : fn_M_build_194 rc142 f a0 x2 x4 x5 = some f') (w : pl_wd D vwCl dA b n f H) (hS : va_S (pl_A b) s.heap H locs) (hl : lv_has ls 7 [(0, .ref a0), (2, .int x2), (4, .int x4), (5, .int x5)]) : W p l e rm_M_build s m args below meth c H locs 0 0 (MQ below (pl_qV D dA tt b n f') args s 0 0 (pl_A b)) (F0 m 194 ls []) := by
  have hx := C.1
  have hb := C.2.1
  have hown := C.2.2.2.2.1
  have hts := C.2.2.2.2.2.2.1
  unfold fn_M_build_194 at hF
  refine lv_iinc (k := 3) (v := x5 + 1) (lv' := [(5, .int (x5 + 1)), (0, .ref a0), (2, .int x2), (4, .int x4)]) hx hb dc_M_build_194 hl rfl rfl (by decide) rfl (fun ls hl => ?_)
  refine lv_goto hx hb dc_M_build_197 (tgt := 142) (by decide) ?_
  exact hr142 f a0 x2 x4 (x5 + 1) _ _ _ hF w hS (lv_sub hl [1, 2, 3, 0] rfl)
set_option maxHeartbeats 4000000 in
set_option maxRecDepth 100000 in
theorem tl_M_build_142 {p : Program} {l : Launch} {e : Env} {s : State} {m : MethodId} {args : Array Value} {below : List Frame} {meth : Method} {c : Code} {D : va_G} {dA : Nat → ClassId} {tt : Nat → Nat} {b n : Nat} (C : pl_C p s m args meth c co_M_build 7 rn_M none "build" D dA tt b) {f' : pl_H} : ∀ k : Nat, ∀ (f : pl_H) (a0 : Nat) (x2 : Int32) (x4 : Int32) (x5 : Int32) (H : Heap) (locs : List Loc) (ls : Array Slot), fn_M_build_142 k f a0 x2 x4 x5 = some f' → pl_wd D vwCl dA b n f H → va_S (pl_A b) s.heap H locs → lv_has ls 7 [(0, .ref a0), (2, .int x2), (4, .int x4), (5, .int x5)] → W p l e rm_M_build s m args below meth c H locs 0 0 (MQ below (pl_qV D dA tt b n f') args s 0 0 (pl_A b)) (F0 m 142 ls []) := by
  have hx := C.1
  have hb := C.2.1
  have hown := C.2.2.2.2.1
  have hts := C.2.2.2.2.2.2.1
  intro k
  induction k with
  | zero =>
    intro f a0 x2 x4 x5 H locs ls hF
    cases hF
  | succ k ih =>
    intro f a0 x2 x4 x5 H locs ls hF w hS hl
    unfold fn_M_build_142 at hF
    refine lv_iload hx hb dc_M_build_142 (lv_at hl 3 rfl) ?_
    refine lv_bipush (v := 16) hx hb dc_M_build_144 (by decide) ?_
    refine lv_icmp_ge hx hb dc_M_build_146 (tgt := 200) (by decide) (fun hc => ?_) (fun hc => ?_)
    · have hF := (if_pos hc).symm.trans hF
      refine lv_aload_n hx hb dc_M_build_200 rfl (lv_at hl 0 rfl) ?_
      refine lv_sipush (v := 128) hx hb dc_M_build_201 (by decide) ?_
      obtain ⟨u2, eu2, hF⟩ := pl_bd hF
      obtain ⟨q1, eq1, hF⟩ := pl_bd hF
      refine pl_gv (pl_runV (Cn := rn_M) (k := 1) C (tm_M_put l D dA tt b n eq1) w hS rfl rfl mw_881 mw_883 mw_40 mw_72 mw_884 (by decide +kernel) ⟨by decide, by decide⟩ eu2 rfl (by decide) rfl hl.1 (Nat.le_of_ble_eq_true rfl) ⟨Nat.zero_le _, Nat.zero_le _⟩ rfl dc_M_build_204) hS (fun H locs w hS => ?_)
      exact tl_M_build_207 C hF w hS (lv_sub hl [0] rfl)
    · have hF := (if_neg hc).symm.trans hF
      refine lv_aload_n hx hb dc_M_build_149 rfl (lv_at hl 0 rfl) ?_
      refine lv_iload hx hb dc_M_build_150 (lv_at hl 2 rfl) ?_
      refine lv_iload hx hb dc_M_build_152 (lv_at hl 3 rfl) ?_
      refine lv_bipush (v := 12) hx hb dc_M_build_154 (by decide) ?_
      refine lv_iconst (v := 4) hx hb dc_M_build_156 (by decide) ?_
      refine lv_iload_n hx hb dc_M_build_157 rfl (lv_at hl 1 rfl) ?_
      refine lv_imul hx hb dc_M_build_158 ?_
      refine lv_isub hx hb dc_M_build_159 ?_
      refine lv_ishl hx hb dc_M_build_160 ?_
      refine lv_iadd hx hb dc_M_build_161 ?_
      refine lv_iload_n hx hb dc_M_build_162 rfl (lv_at hl 1 rfl) ?_
      refine lv_iconst (v := 1) hx hb dc_M_build_163 (by decide) ?_
      refine lv_iadd hx hb dc_M_build_164 ?_
      obtain ⟨u4, eu4, hF⟩ := pl_bd hF
      obtain ⟨v3, ev3, hF⟩ := pl_bd hF
      refine pl_gi (pl_runV (Cn := rn_M) (k := 2) C (tm_M_first l D dA tt b n ev3) w hS rfl rfl mw_899 mw_901 mw_43 mw_72 mw_902 (by decide +kernel) ⟨by decide, by decide⟩ eu4 rfl (by decide) rfl hl.1 (Nat.le_of_ble_eq_true rfl) ⟨Nat.zero_le _, Nat.zero_le _⟩ rfl dc_M_build_165) hS (fun H locs w hS => ?_)
      refine lv_istore (lv' := [(6, .int v3), (0, .ref a0), (2, .int x2), (4, .int x4), (5, .int x5)]) hx hb dc_M_build_168 hl (by decide) rfl (fun ls hl => ?_)
      refine lv_iload hx hb dc_M_build_170 (lv_at hl 0 rfl) ?_
      refine lv_if_ge hx hb dc_M_build_172 (tgt := 185) (by decide) (fun hc => ?_) (fun hc => ?_)
      · have hF := (if_pos hc).symm.trans hF
        refine lv_aload_n hx hb dc_M_build_185 rfl (lv_at hl 1 rfl) ?_
        refine lv_iload hx hb dc_M_build_186 (lv_at hl 0 rfl) ?_
        refine lv_iload_n hx hb dc_M_build_188 rfl (lv_at hl 2 rfl) ?_
        refine lv_iconst (v := 1) hx hb dc_M_build_189 (by decide) ?_
        refine lv_iadd hx hb dc_M_build_190 ?_
        obtain ⟨u6, eu6, hF⟩ := pl_bd hF
        obtain ⟨q5, eq5, hF⟩ := pl_bd hF
        refine pl_gv (pl_runV (Cn := rn_M) (k := 2) C (tm_M_putReference l D dA tt b n eq5) w hS rfl rfl mw_895 mw_897 mw_42 mw_72 mw_898 (by decide +kernel) ⟨by decide, by decide⟩ eu6 rfl (by decide) rfl hl.1 (Nat.le_of_ble_eq_true rfl) ⟨Nat.zero_le _, Nat.zero_le _⟩ rfl dc_M_build_191) hS (fun H locs w hS => ?_)
        exact tl_M_build_194 C ih hF w hS (lv_sub hl [1, 2, 3, 4] rfl)
      · have hF := (if_neg hc).symm.trans hF
        refine lv_aload_n hx hb dc_M_build_175 rfl (lv_at hl 1 rfl) ?_
        refine lv_sipush (v := 128) hx hb dc_M_build_176 (by decide) ?_
        obtain ⟨u8, eu8, hF⟩ := pl_bd hF
        obtain ⟨q7, eq7, hF⟩ := pl_bd hF
        refine pl_gv (pl_runV (Cn := rn_M) (k := 1) C (tm_M_put l D dA tt b n eq7) w hS rfl rfl mw_881 mw_883 mw_40 mw_72 mw_884 (by decide +kernel) ⟨by decide, by decide⟩ eu8 rfl (by decide) rfl hl.1 (Nat.le_of_ble_eq_true rfl) ⟨Nat.zero_le _, Nat.zero_le _⟩ rfl dc_M_build_179) hS (fun H locs w hS => ?_)
        refine lv_goto hx hb dc_M_build_182 (tgt := 194) (by decide) ?_
        exact tl_M_build_194 C ih hF w hS (lv_sub hl [1, 2, 3, 4] rfl)
set_option maxHeartbeats 4000000 in
set_option maxRecDepth 100000 in
theorem tl_M_build {p : Program} {l : Launch} {e : Env} {s : State} {m : MethodId} {args : Array Value} {below : List Frame} {meth : Method} {c : Code} {D : va_G} {dA : Nat → ClassId} {tt : Nat → Nat} {b n : Nat} (C : pl_C p s m args meth c co_M_build 7 rn_M none "build" D dA tt b) {f' : pl_H} {f : pl_H} {a0 : Nat} {x1 : Int32} {x2 : Int32} {H : Heap} {locs : List Loc} {ls : Array Slot} (hF : fn_M_build f a0 x1 x2 = some f') (w : pl_wd D vwCl dA b n f H) (hS : va_S (pl_A b) s.heap H locs) (hl : lv_has ls 7 [(0, .ref a0), (1, .int x1), (2, .int x2)]) : W p l e rm_M_build s m args below meth c H locs 0 0 (MQ below (pl_qV D dA tt b n f') args s 0 0 (pl_A b)) (F0 m 0 ls []) := by
  have hx := C.1
  have hb := C.2.1
  have hown := C.2.2.2.2.1
  have hts := C.2.2.2.2.2.2.1
  unfold fn_M_build at hF
  refine lv_aload_n hx hb dc_M_build_0 rfl (lv_at hl 0 rfl) ?_
  refine lv_iconst (v := 0) hx hb dc_M_build_1 (by decide) ?_
  obtain ⟨f1, ef1, hF⟩ := pl_bd hF
  refine pl_put C w hS (ci := 8) in_M rfl (by decide) rty_M_ok rnm_M 10 (by decide) mw_707 rfl rfl rfl ef1 dc_M_build_2 (fun H locs w hS => ?_)
  refine lv_aload_n hx hb dc_M_build_5 rfl (lv_at hl 0 rfl) ?_
  refine lv_iload_n hx hb dc_M_build_6 rfl (lv_at hl 1 rfl) ?_
  refine lv_iload_n hx hb dc_M_build_7 rfl (lv_at hl 2 rfl) ?_
  obtain ⟨u3, eu3, hF⟩ := pl_bd hF
  obtain ⟨v2, ev2, hF⟩ := pl_bd hF
  refine pl_gi (pl_runV (Cn := rn_M) (k := 2) C (tm_M_common l D dA tt b n ev2) w hS rfl rfl mw_859 mw_861 mw_36 mw_72 mw_862 (by decide +kernel) ⟨by decide, by decide⟩ eu3 rfl (by decide) rfl hl.1 (Nat.le_of_ble_eq_true rfl) ⟨Nat.zero_le _, Nat.zero_le _⟩ rfl dc_M_build_8) hS (fun H locs w hS => ?_)
  refine lv_istore_n (lv' := [(3, .int v2), (0, .ref a0), (1, .int x1), (2, .int x2)]) hx hb dc_M_build_11 rfl hl (by decide) rfl (fun ls hl => ?_)
  refine lv_aload_n hx hb dc_M_build_12 rfl (lv_at hl 1 rfl) ?_
  refine lv_iload_n hx hb dc_M_build_13 rfl (lv_at hl 2 rfl) ?_
  refine lv_iload_n hx hb dc_M_build_14 rfl (lv_at hl 3 rfl) ?_
  obtain ⟨u5, eu5, hF⟩ := pl_bd hF
  obtain ⟨v4, ev4, hF⟩ := pl_bd hF
  refine pl_gi (pl_runV (Cn := rn_M) (k := 2) C (tm_M_group l D dA tt b n ev4) w hS rfl rfl mw_863 mw_865 mw_37 mw_72 mw_866 (by decide +kernel) ⟨by decide, by decide⟩ eu5 rfl (by decide) rfl hl.1 (Nat.le_of_ble_eq_true rfl) ⟨Nat.zero_le _, Nat.zero_le _⟩ rfl dc_M_build_15) hS (fun H locs w hS => ?_)
  refine lv_iconst (v := 1) hx hb dc_M_build_18 (by decide) ?_
  refine lv_icmp_ne hx hb dc_M_build_19 (tgt := 90) (by decide) (fun hc => ?_) (fun hc => ?_)
  · have hF := (if_neg hc).symm.trans hF
    refine lv_iload_n hx hb dc_M_build_90 rfl (lv_at hl 0 rfl) ?_
    refine lv_iload_n hx hb dc_M_build_91 rfl (lv_at hl 3 rfl) ?_
    refine lv_icmp_le hx hb dc_M_build_92 (tgt := 117) (by decide) (fun hc => ?_) (fun hc => ?_)
    · have hF := (if_pos hc).symm.trans hF
      refine lv_aload_n hx hb dc_M_build_117 rfl (lv_at hl 1 rfl) ?_
      obtain ⟨v6, ev6, hF⟩ := pl_bd hF
      refine pl_getR C w (ci := 8) in_M rfl (by decide) 1 (by decide) mw_698 ev6 dc_M_build_118 ?_
      refine lv_iload_n hx hb dc_M_build_121 rfl (lv_at hl 2 rfl) ?_
      obtain ⟨v7, ev7, hF⟩ := pl_bd hF
      refine pl_aldI C w ev7 dc_M_build_122 ?_
      refine lv_bipush (v := 16) hx hb dc_M_build_123 (by decide) ?_
      refine lv_iconst (v := 4) hx hb dc_M_build_125 (by decide) ?_
      refine lv_iload_n hx hb dc_M_build_126 rfl (lv_at hl 3 rfl) ?_
      refine lv_imul hx hb dc_M_build_127 ?_
      refine lv_isub hx hb dc_M_build_128 ?_
      refine lv_ishr hx hb dc_M_build_129 ?_
      refine lv_bipush (v := 16) hx hb dc_M_build_130 (by decide) ?_
      refine lv_iconst (v := 4) hx hb dc_M_build_132 (by decide) ?_
      refine lv_iload_n hx hb dc_M_build_133 rfl (lv_at hl 3 rfl) ?_
      refine lv_imul hx hb dc_M_build_134 ?_
      refine lv_isub hx hb dc_M_build_135 ?_
      refine lv_ishl hx hb dc_M_build_136 ?_
      refine lv_istore (lv' := [(4, .int ((v7 >>> ((16 - (4 * x2)) &&& 31)) <<< ((16 - (4 * x2)) &&& 31))), (3, .int v2), (0, .ref a0), (1, .int x1), (2, .int x2)]) hx hb dc_M_build_137 hl (by decide) rfl (fun ls hl => ?_)
      refine lv_iconst (v := 0) hx hb dc_M_build_139 (by decide) ?_
      refine lv_istore (lv' := [(5, .int 0), (4, .int ((v7 >>> ((16 - (4 * x2)) &&& 31)) <<< ((16 - (4 * x2)) &&& 31))), (3, .int v2), (0, .ref a0), (1, .int x1), (2, .int x2)]) hx hb dc_M_build_140 hl (by decide) rfl (fun ls hl => ?_)
      exact tl_M_build_142 C pl_N f1 a0 x2 ((v7 >>> ((16 - (4 * x2)) &&& 31)) <<< ((16 - (4 * x2)) &&& 31)) 0 _ _ _ hF w hS (lv_sub hl [3, 5, 1, 0] rfl)
    · have hF := (if_neg hc).symm.trans hF
      refine lv_aload_n hx hb dc_M_build_95 rfl (lv_at hl 1 rfl) ?_
      refine lv_aload_n hx hb dc_M_build_96 rfl (lv_at hl 1 rfl) ?_
      obtain ⟨v8, ev8, hF⟩ := pl_bd hF
      refine pl_getR C w (ci := 8) in_M rfl (by decide) 1 (by decide) mw_698 ev8 dc_M_build_97 ?_
      refine lv_iload_n hx hb dc_M_build_100 rfl (lv_at hl 2 rfl) ?_
      obtain ⟨v9, ev9, hF⟩ := pl_bd hF
      refine pl_aldI C w ev9 dc_M_build_101 ?_
      refine lv_iload_n hx hb dc_M_build_102 rfl (lv_at hl 3 rfl) ?_
      refine lv_iload_n hx hb dc_M_build_103 rfl (lv_at hl 0 rfl) ?_
      refine lv_iconst (v := 0) hx hb dc_M_build_104 (by decide) ?_
      obtain ⟨u11, eu11, hF⟩ := pl_bd hF
      obtain ⟨q10, eq10, hF⟩ := pl_bd hF
      refine pl_gv (pl_runV (Cn := rn_M) (k := 4) C (tm_M_putDigits l D dA tt b n eq10) w hS rfl rfl mw_870 mw_872 mw_38 mw_72 mw_873 (by decide +kernel) ⟨by decide, by decide⟩ eu11 rfl (by decide) rfl hl.1 (Nat.le_of_ble_eq_true rfl) ⟨Nat.zero_le _, Nat.zero_le _⟩ rfl dc_M_build_105) hS (fun H locs w hS => ?_)
      refine lv_aload_n hx hb dc_M_build_108 rfl (lv_at hl 1 rfl) ?_
      refine lv_iload_n hx hb dc_M_build_109 rfl (lv_at hl 2 rfl) ?_
      refine lv_iload_n hx hb dc_M_build_110 rfl (lv_at hl 0 rfl) ?_
      obtain ⟨u13, eu13, hF⟩ := pl_bd hF
      obtain ⟨q12, eq12, hF⟩ := pl_bd hF
      refine pl_gv (pl_runV (Cn := rn_M) (k := 2) C (tm_M_putReference l D dA tt b n eq12) w hS rfl rfl mw_895 mw_897 mw_42 mw_72 mw_898 (by decide +kernel) ⟨by decide, by decide⟩ eu13 rfl (by decide) rfl hl.1 (Nat.le_of_ble_eq_true rfl) ⟨Nat.zero_le _, Nat.zero_le _⟩ rfl dc_M_build_111) hS (fun H locs w hS => ?_)
      refine lv_goto hx hb dc_M_build_114 (tgt := 207) (by decide) ?_
      exact tl_M_build_207 C hF w hS (lv_sub hl [1] rfl)
  · have hF := (if_pos hc).symm.trans hF
    refine lv_aload_n hx hb dc_M_build_22 rfl (lv_at hl 1 rfl) ?_
    refine lv_aload_n hx hb dc_M_build_23 rfl (lv_at hl 1 rfl) ?_
    obtain ⟨v14, ev14, hF⟩ := pl_bd hF
    refine pl_getR C w (ci := 8) in_M rfl (by decide) 1 (by decide) mw_698 ev14 dc_M_build_24 ?_
    refine lv_iload_n hx hb dc_M_build_27 rfl (lv_at hl 2 rfl) ?_
    obtain ⟨v15, ev15, hF⟩ := pl_bd hF
    refine pl_aldI C w ev15 dc_M_build_28 ?_
    refine lv_iload_n hx hb dc_M_build_29 rfl (lv_at hl 3 rfl) ?_
    refine lv_iconst (v := 4) hx hb dc_M_build_30 (by decide) ?_
    refine lv_iconst (v := 1) hx hb dc_M_build_31 (by decide) ?_
    obtain ⟨u17, eu17, hF⟩ := pl_bd hF
    obtain ⟨q16, eq16, hF⟩ := pl_bd hF
    refine pl_gv (pl_runV (Cn := rn_M) (k := 4) C (tm_M_putDigits l D dA tt b n eq16) w hS rfl rfl mw_870 mw_872 mw_38 mw_72 mw_873 (by decide +kernel) ⟨by decide, by decide⟩ eu17 rfl (by decide) rfl hl.1 (Nat.le_of_ble_eq_true rfl) ⟨Nat.zero_le _, Nat.zero_le _⟩ rfl dc_M_build_32) hS (fun H locs w hS => ?_)
    refine lv_aload_n hx hb dc_M_build_35 rfl (lv_at hl 1 rfl) ?_
    refine lv_iconst (v := 1) hx hb dc_M_build_36 (by decide) ?_
    refine lv_aload_n hx hb dc_M_build_37 rfl (lv_at hl 1 rfl) ?_
    obtain ⟨v18, ev18, hF⟩ := pl_bd hF
    refine pl_getR C w (ci := 8) in_M rfl (by decide) 2 (by decide) mw_699 ev18 dc_M_build_38 ?_
    refine lv_iload_n hx hb dc_M_build_41 rfl (lv_at hl 2 rfl) ?_
    obtain ⟨v19, ev19, hF⟩ := pl_bd hF
    refine pl_aldI C w ev19 dc_M_build_42 ?_
    refine lv_i2l hx hb dc_M_build_43 rfl ?_
    obtain ⟨u21, eu21, hF⟩ := pl_bd hF
    obtain ⟨q20, eq20, hF⟩ := pl_bd hF
    refine pl_gi (pl_runV (Cn := rn_M) (k := 2) C (tm_M_putNumber l D dA tt b n eq20) w hS rfl rfl mw_885 mw_887 mw_41 mw_72 mw_888 (by decide +kernel) ⟨by decide, by decide⟩ eu21 rfl (by decide) rfl hl.1 (Nat.le_of_ble_eq_true rfl) ⟨Nat.zero_le _, Nat.zero_le _⟩ rfl dc_M_build_44) hS (fun H locs w hS => ?_)
    refine lv_istore (lv' := [(4, .int q20.1), (3, .int v2), (0, .ref a0), (1, .int x1), (2, .int x2)]) hx hb dc_M_build_47 hl (by decide) rfl (fun ls hl => ?_)
    refine lv_aload_n hx hb dc_M_build_49 rfl (lv_at hl 2 rfl) ?_
    refine lv_iload hx hb dc_M_build_50 (lv_at hl 0 rfl) ?_
    refine lv_aload_n hx hb dc_M_build_52 rfl (lv_at hl 2 rfl) ?_
    obtain ⟨v22, ev22, hF⟩ := pl_bd hF
    refine pl_getR C w (ci := 8) in_M rfl (by decide) 3 (by decide) mw_700 ev22 dc_M_build_53 ?_
    refine lv_iload_n hx hb dc_M_build_56 rfl (lv_at hl 3 rfl) ?_
    obtain ⟨v23, ev23, hF⟩ := pl_bd hF
    refine pl_aldL C w ev23 dc_M_build_57 ?_
    obtain ⟨u25, eu25, hF⟩ := pl_bd hF
    obtain ⟨q24, eq24, hF⟩ := pl_bd hF
    refine pl_gi (pl_runV (Cn := rn_M) (k := 2) C (tm_M_putNumber l D dA tt b n eq24) w hS rfl rfl mw_885 mw_887 mw_41 mw_72 mw_888 (by decide +kernel) ⟨by decide, by decide⟩ eu25 rfl (by decide) rfl hl.1 (Nat.le_of_ble_eq_true rfl) ⟨Nat.zero_le _, Nat.zero_le _⟩ rfl dc_M_build_58) hS (fun H locs w hS => ?_)
    refine lv_istore (lv' := [(5, .int q24.1), (4, .int q20.1), (3, .int v2), (0, .ref a0), (1, .int x1), (2, .int x2)]) hx hb dc_M_build_61 hl (by decide) rfl (fun ls hl => ?_)
    refine lv_aload_n hx hb dc_M_build_63 rfl (lv_at hl 3 rfl) ?_
    obtain ⟨v26, ev26, hF⟩ := pl_bd hF
    refine pl_getR C w (ci := 8) in_M rfl (by decide) 15 (by decide) mw_712 ev26 dc_M_build_64 ?_
    refine lv_iconst (v := 0) hx hb dc_M_build_67 (by decide) ?_
    refine lv_sipush (v := 192) hx hb dc_M_build_68 (by decide) ?_
    refine lv_iload hx hb dc_M_build_71 (lv_at hl 0 rfl) ?_
    refine lv_iadd hx hb dc_M_build_73 ?_
    refine lv_iconst (v := 1) hx hb dc_M_build_74 (by decide) ?_
    refine lv_isub hx hb dc_M_build_75 ?_
    obtain ⟨f27, ef27, hF⟩ := pl_bd hF
    refine pl_astI C w hS ef27 dc_M_build_76 (fun H locs w hS => ?_)
    refine lv_aload_n hx hb dc_M_build_77 rfl (lv_at hl 3 rfl) ?_
    refine lv_aload_n hx hb dc_M_build_78 rfl (lv_at hl 3 rfl) ?_
    obtain ⟨v28, ev28, hF⟩ := pl_bd hF
    refine pl_getR C w (ci := 8) in_M rfl (by decide) 15 (by decide) mw_712 ev28 dc_M_build_79 ?_
    refine lv_iload hx hb dc_M_build_82 (lv_at hl 0 rfl) ?_
    obtain ⟨u30, eu30, hF⟩ := pl_bd hF
    obtain ⟨q29, eq29, hF⟩ := pl_bd hF
    refine pl_gv (pl_runV (Cn := rn_M) (k := 2) C (tm_M_putRow l D dA tt b n eq29) w hS rfl rfl mw_877 mw_879 mw_39 mw_72 mw_880 (by decide +kernel) ⟨by decide, by decide⟩ eu30 rfl (by decide) rfl hl.1 (Nat.le_of_ble_eq_true rfl) ⟨Nat.zero_le _, Nat.zero_le _⟩ rfl dc_M_build_84) hS (fun H locs w hS => ?_)
    refine lv_goto hx hb dc_M_build_87 (tgt := 207) (by decide) ?_
    exact tl_M_build_207 C hF w hS (lv_sub hl [3] rfl)
set_option maxHeartbeats 4000000 in
set_option maxRecDepth 100000 in
theorem tm_M_build (l : Launch) (D : va_G) (dA : Nat → ClassId) (tt : Nat → Nat) (b n : Nat) {f : pl_H} {a0 : Nat} {x1 : Int32} {x2 : Int32} {f' : pl_H} (hF : fn_M_build f a0 x1 x2 = some f') : Met l my_M_build (Cond.code my_M_build co_M_build 7 none :: pl_tb) rm_M_build (va_Pc [.ref a0, .int x1, .int x2] (pl_pre D dA tt b n f)) (pl_qV D dA tt b n f') 0 0 (pl_A b) := by
  refine Met.ofW (cc := co_M_build) (maxL := 7) (ret := none) (by decide) rfl ?_
  intro p e s m args below meth c s₁ B hml hv
  obtain ⟨rfl, w, hK⟩ := hv
  have C : pl_C p s m _ meth c co_M_build 7 rn_M none "build" D dA tt b := ⟨B.exec, B.bytes, hml, B.returns, findClass_of_methodNamed B.named, B.notSynchronized, fun w hw => atoms_spec (ws := Cond.code my_M_build co_M_build 7 none :: pl_tb) B.pre w (List.mem_cons_of_mem _ hw), (name_of_methodNamed B.named B.method).1, hK⟩
  have hl := lv_entry ([.ref a0, .int x1, .int x2]) (n := 7) (Nat.le_of_ble_eq_true rfl)
  rw [lg_entry_eq]
  generalize (lg_sl ([.ref a0, .int x1, .int x2]) ++ List.replicate (7 - (lg_sl ([.ref a0, .int x1, .int x2])).length) Slot.unset).toArray = ls at hl ⊢
  have hl : lv_has ls 7 [(0, .ref a0), (1, .int x1), (2, .int x2)] := hl
  exact tl_M_build C hF w va_S.rf hl
def rm_M_note : Room := { frames := 3, cells := 0, slots := 0, locals := 70 }
def fn_M_note_147 (f : pl_H) : Option (pl_H) := some f
def fn_M_note_103 : Nat → pl_H → Nat → Int32 → Int32 → Option (pl_H)
  | 0 => fun _ _ _ _ => none
  | k + 1 => fun f a0 x3 x4 => (pl_gI f a0 8 12).bind fun v1 => if v1 ≤ x4 then (pl_gR f a0 8 7).bind fun v2 => (pl_gI f a0 8 12).bind fun v3 => (pl_sI f v2 x3 v3).bind fun f4 => fn_M_note_147 f4 else (pl_gR f a0 8 6).bind fun v5 => (pl_gR f a0 8 13).bind fun v6 => (pl_aI f v6 x4).bind fun v7 => (pl_sI f v5 ((33 * x3) + x4) v7).bind fun f8 => fn_M_note_103 k f8 a0 x3 (x4 + 1)
def fn_M_note_55 : Nat → pl_H → Nat → Int32 → Int32 → Option (pl_H)
  | 0 => fun _ _ _ _ => none
  | k + 1 => fun f a0 x3 x4 => if 32 ≤ x4 then (pl_gR f a0 8 7).bind fun v1 => (pl_sI f v1 x3 33).bind fun f2 => fn_M_note_147 f2 else (pl_gR f a0 8 6).bind fun v3 => (pl_gR f a0 8 27).bind fun v4 => (pl_aI f v4 x4).bind fun v5 => (pl_sI f v3 (((33 * x3) + 1) + x4) v5).bind fun f6 => fn_M_note_55 k f6 a0 x3 (x4 + 1)
def fn_M_note_26 (f : pl_H) (a0 : Nat) (x3 : Int32) (sx0 : Int32) (sx1 : Int32) (sa2 : Nat) : Option (pl_H) := (pl_sZ f sa2 sx1 sx0).bind fun f1 => (pl_gR f1 a0 8 8).bind fun v2 => (pl_aZ f1 v2 x3).bind fun v3 => if v3 = 0 then fn_M_note_103 pl_N f1 a0 x3 0 else (pl_is f1 a0 8).bind fun u5 => (fn_M_hashCodeNow f1 a0).bind fun q4 => (pl_gR q4 a0 8 6).bind fun v6 => (pl_sI q4 v6 (33 * x3) 160).bind fun f7 => fn_M_note_55 pl_N f7 a0 x3 0
def fn_M_note (f : pl_H) (a0 : Nat) (x1 : Int32) (x2 : Int32) : Option (pl_H) := (pl_gR f a0 8 8).bind fun v1 => (pl_gI f a0 8 12).bind fun v2 => if v2 < 32 then fn_M_note_26 f a0 ((12 * x2) + x1) 0 ((12 * x2) + x1) v1 else fn_M_note_26 f a0 ((12 * x2) + x1) 1 ((12 * x2) + x1) v1
set_option maxHeartbeats 4000000 in
set_option maxRecDepth 100000 in
theorem tl_M_note_147 {p : Program} {l : Launch} {e : Env} {s : State} {m : MethodId} {args : Array Value} {below : List Frame} {meth : Method} {c : Code} {D : va_G} {dA : Nat → ClassId} {tt : Nat → Nat} {b n : Nat} (C : pl_C p s m args meth c co_M_note 5 rn_M none "note" D dA tt b) {f' : pl_H} {f : pl_H} {H : Heap} {locs : List Loc} {ls : Array Slot} (hF : fn_M_note_147 f = some f') (w : pl_wd D vwCl dA b n f H) (hS : va_S (pl_A b) s.heap H locs) (hl : lv_has ls 5 []) : W p l e rm_M_note s m args below meth c H locs 0 0 (MQ below (pl_qV D dA tt b n f') args s 0 0 (pl_A b)) (F0 m 147 ls []) := by
  have hx := C.1
  have hb := C.2.1
  have hown := C.2.2.2.2.1
  have hts := C.2.2.2.2.2.2.1
  unfold fn_M_note_147 at hF
  exact pl_retVw C w hS hF dc_M_note_147
set_option maxHeartbeats 4000000 in
set_option maxRecDepth 100000 in
theorem tl_M_note_103 {p : Program} {l : Launch} {e : Env} {s : State} {m : MethodId} {args : Array Value} {below : List Frame} {meth : Method} {c : Code} {D : va_G} {dA : Nat → ClassId} {tt : Nat → Nat} {b n : Nat} (C : pl_C p s m args meth c co_M_note 5 rn_M none "note" D dA tt b) {f' : pl_H} : ∀ k : Nat, ∀ (f : pl_H) (a0 : Nat) (x3 : Int32) (x4 : Int32) (H : Heap) (locs : List Loc) (ls : Array Slot), fn_M_note_103 k f a0 x3 x4 = some f' → pl_wd D vwCl dA b n f H → va_S (pl_A b) s.heap H locs → lv_has ls 5 [(0, .ref a0), (3, .int x3), (4, .int x4)] → W p l e rm_M_note s m args below meth c H locs 0 0 (MQ below (pl_qV D dA tt b n f') args s 0 0 (pl_A b)) (F0 m 103 ls []) := by
  have hx := C.1
  have hb := C.2.1
  have hown := C.2.2.2.2.1
  have hts := C.2.2.2.2.2.2.1
  intro k
  induction k with
  | zero =>
    intro f a0 x3 x4 H locs ls hF
    cases hF
  | succ k ih =>
    intro f a0 x3 x4 H locs ls hF w hS hl
    unfold fn_M_note_103 at hF
    refine lv_iload hx hb dc_M_note_103 (lv_at hl 2 rfl) ?_
    refine lv_aload_n hx hb dc_M_note_105 rfl (lv_at hl 0 rfl) ?_
    obtain ⟨v1, ev1, hF⟩ := pl_bd hF
    refine pl_getI C w (ci := 8) in_M rfl (by decide) 12 (by decide) mw_709 ev1 dc_M_note_106 ?_
    refine lv_icmp_ge hx hb dc_M_note_109 (tgt := 137) (by decide) (fun hc => ?_) (fun hc => ?_)
    · have hF := (if_pos hc).symm.trans hF
      refine lv_aload_n hx hb dc_M_note_137 rfl (lv_at hl 0 rfl) ?_
      obtain ⟨v2, ev2, hF⟩ := pl_bd hF
      refine pl_getR C w (ci := 8) in_M rfl (by decide) 7 (by decide) mw_704 ev2 dc_M_note_138 ?_
      refine lv_iload_n hx hb dc_M_note_141 rfl (lv_at hl 1 rfl) ?_
      refine lv_aload_n hx hb dc_M_note_142 rfl (lv_at hl 0 rfl) ?_
      obtain ⟨v3, ev3, hF⟩ := pl_bd hF
      refine pl_getI C w (ci := 8) in_M rfl (by decide) 12 (by decide) mw_709 ev3 dc_M_note_143 ?_
      obtain ⟨f4, ef4, hF⟩ := pl_bd hF
      refine pl_astI C w hS ef4 dc_M_note_146 (fun H locs w hS => ?_)
      exact tl_M_note_147 C hF w hS (lv_sub hl [] rfl)
    · have hF := (if_neg hc).symm.trans hF
      refine lv_aload_n hx hb dc_M_note_112 rfl (lv_at hl 0 rfl) ?_
      obtain ⟨v5, ev5, hF⟩ := pl_bd hF
      refine pl_getR C w (ci := 8) in_M rfl (by decide) 6 (by decide) mw_703 ev5 dc_M_note_113 ?_
      refine lv_bipush (v := 33) hx hb dc_M_note_116 (by decide) ?_
      refine lv_iload_n hx hb dc_M_note_118 rfl (lv_at hl 1 rfl) ?_
      refine lv_imul hx hb dc_M_note_119 ?_
      refine lv_iload hx hb dc_M_note_120 (lv_at hl 2 rfl) ?_
      refine lv_iadd hx hb dc_M_note_122 ?_
      refine lv_aload_n hx hb dc_M_note_123 rfl (lv_at hl 0 rfl) ?_
      obtain ⟨v6, ev6, hF⟩ := pl_bd hF
      refine pl_getR C w (ci := 8) in_M rfl (by decide) 13 (by decide) mw_710 ev6 dc_M_note_124 ?_
      refine lv_iload hx hb dc_M_note_127 (lv_at hl 2 rfl) ?_
      obtain ⟨v7, ev7, hF⟩ := pl_bd hF
      refine pl_aldI C w ev7 dc_M_note_129 ?_
      obtain ⟨f8, ef8, hF⟩ := pl_bd hF
      refine pl_astI C w hS ef8 dc_M_note_130 (fun H locs w hS => ?_)
      refine lv_iinc (k := 2) (v := x4 + 1) (lv' := [(4, .int (x4 + 1)), (0, .ref a0), (3, .int x3)]) hx hb dc_M_note_131 hl rfl rfl (by decide) rfl (fun ls hl => ?_)
      refine lv_goto hx hb dc_M_note_134 (tgt := 103) (by decide) ?_
      exact ih f8 a0 x3 (x4 + 1) _ _ _ hF w hS (lv_sub hl [1, 2, 0] rfl)
set_option maxHeartbeats 4000000 in
set_option maxRecDepth 100000 in
theorem tl_M_note_55 {p : Program} {l : Launch} {e : Env} {s : State} {m : MethodId} {args : Array Value} {below : List Frame} {meth : Method} {c : Code} {D : va_G} {dA : Nat → ClassId} {tt : Nat → Nat} {b n : Nat} (C : pl_C p s m args meth c co_M_note 5 rn_M none "note" D dA tt b) {f' : pl_H} : ∀ k : Nat, ∀ (f : pl_H) (a0 : Nat) (x3 : Int32) (x4 : Int32) (H : Heap) (locs : List Loc) (ls : Array Slot), fn_M_note_55 k f a0 x3 x4 = some f' → pl_wd D vwCl dA b n f H → va_S (pl_A b) s.heap H locs → lv_has ls 5 [(0, .ref a0), (3, .int x3), (4, .int x4)] → W p l e rm_M_note s m args below meth c H locs 0 0 (MQ below (pl_qV D dA tt b n f') args s 0 0 (pl_A b)) (F0 m 55 ls []) := by
  have hx := C.1
  have hb := C.2.1
  have hown := C.2.2.2.2.1
  have hts := C.2.2.2.2.2.2.1
  intro k
  induction k with
  | zero =>
    intro f a0 x3 x4 H locs ls hF
    cases hF
  | succ k ih =>
    intro f a0 x3 x4 H locs ls hF w hS hl
    unfold fn_M_note_55 at hF
    refine lv_iload hx hb dc_M_note_55 (lv_at hl 2 rfl) ?_
    refine lv_bipush (v := 32) hx hb dc_M_note_57 (by decide) ?_
    refine lv_icmp_ge hx hb dc_M_note_59 (tgt := 89) (by decide) (fun hc => ?_) (fun hc => ?_)
    · have hF := (if_pos hc).symm.trans hF
      refine lv_aload_n hx hb dc_M_note_89 rfl (lv_at hl 0 rfl) ?_
      obtain ⟨v1, ev1, hF⟩ := pl_bd hF
      refine pl_getR C w (ci := 8) in_M rfl (by decide) 7 (by decide) mw_704 ev1 dc_M_note_90 ?_
      refine lv_iload_n hx hb dc_M_note_93 rfl (lv_at hl 1 rfl) ?_
      refine lv_bipush (v := 33) hx hb dc_M_note_94 (by decide) ?_
      obtain ⟨f2, ef2, hF⟩ := pl_bd hF
      refine pl_astI C w hS ef2 dc_M_note_96 (fun H locs w hS => ?_)
      refine lv_goto hx hb dc_M_note_97 (tgt := 147) (by decide) ?_
      exact tl_M_note_147 C hF w hS (lv_sub hl [] rfl)
    · have hF := (if_neg hc).symm.trans hF
      refine lv_aload_n hx hb dc_M_note_62 rfl (lv_at hl 0 rfl) ?_
      obtain ⟨v3, ev3, hF⟩ := pl_bd hF
      refine pl_getR C w (ci := 8) in_M rfl (by decide) 6 (by decide) mw_703 ev3 dc_M_note_63 ?_
      refine lv_bipush (v := 33) hx hb dc_M_note_66 (by decide) ?_
      refine lv_iload_n hx hb dc_M_note_68 rfl (lv_at hl 1 rfl) ?_
      refine lv_imul hx hb dc_M_note_69 ?_
      refine lv_iconst (v := 1) hx hb dc_M_note_70 (by decide) ?_
      refine lv_iadd hx hb dc_M_note_71 ?_
      refine lv_iload hx hb dc_M_note_72 (lv_at hl 2 rfl) ?_
      refine lv_iadd hx hb dc_M_note_74 ?_
      refine lv_aload_n hx hb dc_M_note_75 rfl (lv_at hl 0 rfl) ?_
      obtain ⟨v4, ev4, hF⟩ := pl_bd hF
      refine pl_getR C w (ci := 8) in_M rfl (by decide) 27 (by decide) mw_724 ev4 dc_M_note_76 ?_
      refine lv_iload hx hb dc_M_note_79 (lv_at hl 2 rfl) ?_
      obtain ⟨v5, ev5, hF⟩ := pl_bd hF
      refine pl_aldI C w ev5 dc_M_note_81 ?_
      obtain ⟨f6, ef6, hF⟩ := pl_bd hF
      refine pl_astI C w hS ef6 dc_M_note_82 (fun H locs w hS => ?_)
      refine lv_iinc (k := 2) (v := x4 + 1) (lv' := [(4, .int (x4 + 1)), (0, .ref a0), (3, .int x3)]) hx hb dc_M_note_83 hl rfl rfl (by decide) rfl (fun ls hl => ?_)
      refine lv_goto hx hb dc_M_note_86 (tgt := 55) (by decide) ?_
      exact ih f6 a0 x3 (x4 + 1) _ _ _ hF w hS (lv_sub hl [1, 2, 0] rfl)
set_option maxHeartbeats 4000000 in
set_option maxRecDepth 100000 in
theorem tl_M_note_26 {p : Program} {l : Launch} {e : Env} {s : State} {m : MethodId} {args : Array Value} {below : List Frame} {meth : Method} {c : Code} {D : va_G} {dA : Nat → ClassId} {tt : Nat → Nat} {b n : Nat} (C : pl_C p s m args meth c co_M_note 5 rn_M none "note" D dA tt b) {f' : pl_H} {f : pl_H} {a0 : Nat} {x3 : Int32} {sx0 : Int32} {sx1 : Int32} {sa2 : Nat} {H : Heap} {locs : List Loc} {ls : Array Slot} (hF : fn_M_note_26 f a0 x3 sx0 sx1 sa2 = some f') (w : pl_wd D vwCl dA b n f H) (hS : va_S (pl_A b) s.heap H locs) (hl : lv_has ls 5 [(0, .ref a0), (3, .int x3)]) : W p l e rm_M_note s m args below meth c H locs 0 0 (MQ below (pl_qV D dA tt b n f') args s 0 0 (pl_A b)) (F0 m 26 ls [.int sx0, .int sx1, .ref sa2]) := by
  have hx := C.1
  have hb := C.2.1
  have hown := C.2.2.2.2.1
  have hts := C.2.2.2.2.2.2.1
  unfold fn_M_note_26 at hF
  obtain ⟨f1, ef1, hF⟩ := pl_bd hF
  refine pl_astZ C w hS ef1 dc_M_note_26 (fun H locs w hS => ?_)
  refine lv_aload_n hx hb dc_M_note_27 rfl (lv_at hl 0 rfl) ?_
  obtain ⟨v2, ev2, hF⟩ := pl_bd hF
  refine pl_getR C w (ci := 8) in_M rfl (by decide) 8 (by decide) mw_705 ev2 dc_M_note_28 ?_
  refine lv_iload_n hx hb dc_M_note_31 rfl (lv_at hl 1 rfl) ?_
  obtain ⟨v3, ev3, hF⟩ := pl_bd hF
  refine pl_aldZ C w ev3 dc_M_note_32 ?_
  refine lv_if_eq hx hb dc_M_note_33 (tgt := 100) (by decide) (fun hc => ?_) (fun hc => ?_)
  · have hF := (if_pos hc).symm.trans hF
    refine lv_iconst (v := 0) hx hb dc_M_note_100 (by decide) ?_
    refine lv_istore (lv' := [(4, .int 0), (0, .ref a0), (3, .int x3)]) hx hb dc_M_note_101 hl (by decide) rfl (fun ls hl => ?_)
    exact tl_M_note_103 C pl_N f1 a0 x3 0 _ _ _ hF w hS (lv_sub hl [1, 2, 0] rfl)
  · have hF := (if_neg hc).symm.trans hF
    refine lv_aload_n hx hb dc_M_note_36 rfl (lv_at hl 0 rfl) ?_
    obtain ⟨u5, eu5, hF⟩ := pl_bd hF
    obtain ⟨q4, eq4, hF⟩ := pl_bd hF
    refine pl_gv (pl_runV (Cn := rn_M) (k := 0) C (tm_M_hashCodeNow l D dA tt b n eq4) w hS rfl rfl mw_911 mw_913 mw_46 mw_72 mw_914 (by decide +kernel) ⟨by decide, by decide⟩ eu5 rfl (by decide) rfl hl.1 (Nat.le_of_ble_eq_true rfl) ⟨Nat.zero_le _, Nat.zero_le _⟩ rfl dc_M_note_37) hS (fun H locs w hS => ?_)
    refine lv_aload_n hx hb dc_M_note_40 rfl (lv_at hl 0 rfl) ?_
    obtain ⟨v6, ev6, hF⟩ := pl_bd hF
    refine pl_getR C w (ci := 8) in_M rfl (by decide) 6 (by decide) mw_703 ev6 dc_M_note_41 ?_
    refine lv_bipush (v := 33) hx hb dc_M_note_44 (by decide) ?_
    refine lv_iload_n hx hb dc_M_note_46 rfl (lv_at hl 1 rfl) ?_
    refine lv_imul hx hb dc_M_note_47 ?_
    refine lv_sipush (v := 160) hx hb dc_M_note_48 (by decide) ?_
    obtain ⟨f7, ef7, hF⟩ := pl_bd hF
    refine pl_astI C w hS ef7 dc_M_note_51 (fun H locs w hS => ?_)
    refine lv_iconst (v := 0) hx hb dc_M_note_52 (by decide) ?_
    refine lv_istore (lv' := [(4, .int 0), (0, .ref a0), (3, .int x3)]) hx hb dc_M_note_53 hl (by decide) rfl (fun ls hl => ?_)
    exact tl_M_note_55 C pl_N f7 a0 x3 0 _ _ _ hF w hS (lv_sub hl [1, 2, 0] rfl)
set_option maxHeartbeats 4000000 in
set_option maxRecDepth 100000 in
theorem tl_M_note {p : Program} {l : Launch} {e : Env} {s : State} {m : MethodId} {args : Array Value} {below : List Frame} {meth : Method} {c : Code} {D : va_G} {dA : Nat → ClassId} {tt : Nat → Nat} {b n : Nat} (C : pl_C p s m args meth c co_M_note 5 rn_M none "note" D dA tt b) {f' : pl_H} {f : pl_H} {a0 : Nat} {x1 : Int32} {x2 : Int32} {H : Heap} {locs : List Loc} {ls : Array Slot} (hF : fn_M_note f a0 x1 x2 = some f') (w : pl_wd D vwCl dA b n f H) (hS : va_S (pl_A b) s.heap H locs) (hl : lv_has ls 5 [(0, .ref a0), (1, .int x1), (2, .int x2)]) : W p l e rm_M_note s m args below meth c H locs 0 0 (MQ below (pl_qV D dA tt b n f') args s 0 0 (pl_A b)) (F0 m 0 ls []) := by
  have hx := C.1
  have hb := C.2.1
  have hown := C.2.2.2.2.1
  have hts := C.2.2.2.2.2.2.1
  unfold fn_M_note at hF
  refine lv_bipush (v := 12) hx hb dc_M_note_0 (by decide) ?_
  refine lv_iload_n hx hb dc_M_note_2 rfl (lv_at hl 2 rfl) ?_
  refine lv_imul hx hb dc_M_note_3 ?_
  refine lv_iload_n hx hb dc_M_note_4 rfl (lv_at hl 1 rfl) ?_
  refine lv_iadd hx hb dc_M_note_5 ?_
  refine lv_istore_n (lv' := [(3, .int ((12 * x2) + x1)), (0, .ref a0), (1, .int x1), (2, .int x2)]) hx hb dc_M_note_6 rfl hl (by decide) rfl (fun ls hl => ?_)
  refine lv_aload_n hx hb dc_M_note_7 rfl (lv_at hl 1 rfl) ?_
  obtain ⟨v1, ev1, hF⟩ := pl_bd hF
  refine pl_getR C w (ci := 8) in_M rfl (by decide) 8 (by decide) mw_705 ev1 dc_M_note_8 ?_
  refine lv_iload_n hx hb dc_M_note_11 rfl (lv_at hl 0 rfl) ?_
  refine lv_aload_n hx hb dc_M_note_12 rfl (lv_at hl 1 rfl) ?_
  obtain ⟨v2, ev2, hF⟩ := pl_bd hF
  refine pl_getI C w (ci := 8) in_M rfl (by decide) 12 (by decide) mw_709 ev2 dc_M_note_13 ?_
  refine lv_bipush (v := 32) hx hb dc_M_note_16 (by decide) ?_
  refine lv_icmp_lt hx hb dc_M_note_18 (tgt := 25) (by decide) (fun hc => ?_) (fun hc => ?_)
  · have hF := (if_pos hc).symm.trans hF
    refine lv_iconst (v := 0) hx hb dc_M_note_25 (by decide) ?_
    exact tl_M_note_26 C hF w hS (lv_sub hl [1, 0] rfl)
  · have hF := (if_neg hc).symm.trans hF
    refine lv_iconst (v := 1) hx hb dc_M_note_21 (by decide) ?_
    refine lv_goto hx hb dc_M_note_22 (tgt := 26) (by decide) ?_
    exact tl_M_note_26 C hF w hS (lv_sub hl [1, 0] rfl)
set_option maxHeartbeats 4000000 in
set_option maxRecDepth 100000 in
theorem tm_M_note (l : Launch) (D : va_G) (dA : Nat → ClassId) (tt : Nat → Nat) (b n : Nat) {f : pl_H} {a0 : Nat} {x1 : Int32} {x2 : Int32} {f' : pl_H} (hF : fn_M_note f a0 x1 x2 = some f') : Met l my_M_note (Cond.code my_M_note co_M_note 5 none :: pl_tb) rm_M_note (va_Pc [.ref a0, .int x1, .int x2] (pl_pre D dA tt b n f)) (pl_qV D dA tt b n f') 0 0 (pl_A b) := by
  refine Met.ofW (cc := co_M_note) (maxL := 5) (ret := none) (by decide) rfl ?_
  intro p e s m args below meth c s₁ B hml hv
  obtain ⟨rfl, w, hK⟩ := hv
  have C : pl_C p s m _ meth c co_M_note 5 rn_M none "note" D dA tt b := ⟨B.exec, B.bytes, hml, B.returns, findClass_of_methodNamed B.named, B.notSynchronized, fun w hw => atoms_spec (ws := Cond.code my_M_note co_M_note 5 none :: pl_tb) B.pre w (List.mem_cons_of_mem _ hw), (name_of_methodNamed B.named B.method).1, hK⟩
  have hl := lv_entry ([.ref a0, .int x1, .int x2]) (n := 5) (Nat.le_of_ble_eq_true rfl)
  rw [lg_entry_eq]
  generalize (lg_sl ([.ref a0, .int x1, .int x2]) ++ List.replicate (5 - (lg_sl ([.ref a0, .int x1, .int x2])).length) Slot.unset).toArray = ls at hl ⊢
  have hl : lv_has ls 5 [(0, .ref a0), (1, .int x1), (2, .int x2)] := hl
  exact tl_M_note C hF w va_S.rf hl
def rm_M_top : Room := { frames := 4, cells := 0, slots := 0, locals := 97 }
def fn_M_top_30 (f : pl_H) : Option (pl_H) := some f
def fn_M_top (f : pl_H) (a0 : Nat) : Option (pl_H) := (pl_gI f a0 8 0).bind fun v1 => if v1 = 0 then (pl_gR f a0 8 13).bind fun v4 => (pl_sI f v4 0 128).bind fun f5 => (pl_pV f5 a0 8 12 (.int 1)).bind fun f6 => fn_M_top_30 f6 else (pl_is f a0 8).bind fun u3 => (fn_M_build f a0 0 0).bind fun q2 => fn_M_top_30 q2
set_option maxHeartbeats 4000000 in
set_option maxRecDepth 100000 in
theorem tl_M_top_30 {p : Program} {l : Launch} {e : Env} {s : State} {m : MethodId} {args : Array Value} {below : List Frame} {meth : Method} {c : Code} {D : va_G} {dA : Nat → ClassId} {tt : Nat → Nat} {b n : Nat} (C : pl_C p s m args meth c co_M_top 1 rn_M none "top" D dA tt b) {f' : pl_H} {f : pl_H} {H : Heap} {locs : List Loc} {ls : Array Slot} (hF : fn_M_top_30 f = some f') (w : pl_wd D vwCl dA b n f H) (hS : va_S (pl_A b) s.heap H locs) (hl : lv_has ls 1 []) : W p l e rm_M_top s m args below meth c H locs 0 0 (MQ below (pl_qV D dA tt b n f') args s 0 0 (pl_A b)) (F0 m 30 ls []) := by
  have hx := C.1
  have hb := C.2.1
  have hown := C.2.2.2.2.1
  have hts := C.2.2.2.2.2.2.1
  unfold fn_M_top_30 at hF
  exact pl_retVw C w hS hF dc_M_top_30
set_option maxHeartbeats 4000000 in
set_option maxRecDepth 100000 in
theorem tl_M_top {p : Program} {l : Launch} {e : Env} {s : State} {m : MethodId} {args : Array Value} {below : List Frame} {meth : Method} {c : Code} {D : va_G} {dA : Nat → ClassId} {tt : Nat → Nat} {b n : Nat} (C : pl_C p s m args meth c co_M_top 1 rn_M none "top" D dA tt b) {f' : pl_H} {f : pl_H} {a0 : Nat} {H : Heap} {locs : List Loc} {ls : Array Slot} (hF : fn_M_top f a0 = some f') (w : pl_wd D vwCl dA b n f H) (hS : va_S (pl_A b) s.heap H locs) (hl : lv_has ls 1 [(0, .ref a0)]) : W p l e rm_M_top s m args below meth c H locs 0 0 (MQ below (pl_qV D dA tt b n f') args s 0 0 (pl_A b)) (F0 m 0 ls []) := by
  have hx := C.1
  have hb := C.2.1
  have hown := C.2.2.2.2.1
  have hts := C.2.2.2.2.2.2.1
  unfold fn_M_top at hF
  refine lv_aload_n hx hb dc_M_top_0 rfl (lv_at hl 0 rfl) ?_
  obtain ⟨v1, ev1, hF⟩ := pl_bd hF
  refine pl_getI C w (ci := 8) in_M rfl (by decide) 0 (by decide) mw_697 ev1 dc_M_top_1 ?_
  refine lv_if_ne hx hb dc_M_top_4 (tgt := 24) (by decide) (fun hc => ?_) (fun hc => ?_)
  · have hF := (if_neg hc).symm.trans hF
    refine lv_aload_n hx hb dc_M_top_24 rfl (lv_at hl 0 rfl) ?_
    refine lv_iconst (v := 0) hx hb dc_M_top_25 (by decide) ?_
    refine lv_iconst (v := 0) hx hb dc_M_top_26 (by decide) ?_
    obtain ⟨u3, eu3, hF⟩ := pl_bd hF
    obtain ⟨q2, eq2, hF⟩ := pl_bd hF
    refine pl_gv (pl_runV (Cn := rn_M) (k := 2) C (tm_M_build l D dA tt b n eq2) w hS rfl rfl mw_855 mw_857 mw_35 mw_72 mw_858 (by decide +kernel) ⟨by decide, by decide⟩ eu3 rfl (by decide) rfl hl.1 (Nat.le_of_ble_eq_true rfl) ⟨Nat.zero_le _, Nat.zero_le _⟩ rfl dc_M_top_27) hS (fun H locs w hS => ?_)
    exact tl_M_top_30 C hF w hS (lv_sub hl [] rfl)
  · have hF := (if_pos hc).symm.trans hF
    refine lv_aload_n hx hb dc_M_top_7 rfl (lv_at hl 0 rfl) ?_
    obtain ⟨v4, ev4, hF⟩ := pl_bd hF
    refine pl_getR C w (ci := 8) in_M rfl (by decide) 13 (by decide) mw_710 ev4 dc_M_top_8 ?_
    refine lv_iconst (v := 0) hx hb dc_M_top_11 (by decide) ?_
    refine lv_sipush (v := 128) hx hb dc_M_top_12 (by decide) ?_
    obtain ⟨f5, ef5, hF⟩ := pl_bd hF
    refine pl_astI C w hS ef5 dc_M_top_15 (fun H locs w hS => ?_)
    refine lv_aload_n hx hb dc_M_top_16 rfl (lv_at hl 0 rfl) ?_
    refine lv_iconst (v := 1) hx hb dc_M_top_17 (by decide) ?_
    obtain ⟨f6, ef6, hF⟩ := pl_bd hF
    refine pl_put C w hS (ci := 8) in_M rfl (by decide) rty_M_ok rnm_M 12 (by decide) mw_709 rfl rfl rfl ef6 dc_M_top_18 (fun H locs w hS => ?_)
    refine lv_goto hx hb dc_M_top_21 (tgt := 30) (by decide) ?_
    exact tl_M_top_30 C hF w hS (lv_sub hl [] rfl)
set_option maxHeartbeats 4000000 in
set_option maxRecDepth 100000 in
theorem tm_M_top (l : Launch) (D : va_G) (dA : Nat → ClassId) (tt : Nat → Nat) (b n : Nat) {f : pl_H} {a0 : Nat} {f' : pl_H} (hF : fn_M_top f a0 = some f') : Met l my_M_top (Cond.code my_M_top co_M_top 1 none :: pl_tb) rm_M_top (va_Pc [.ref a0] (pl_pre D dA tt b n f)) (pl_qV D dA tt b n f') 0 0 (pl_A b) := by
  refine Met.ofW (cc := co_M_top) (maxL := 1) (ret := none) (by decide) rfl ?_
  intro p e s m args below meth c s₁ B hml hv
  obtain ⟨rfl, w, hK⟩ := hv
  have C : pl_C p s m _ meth c co_M_top 1 rn_M none "top" D dA tt b := ⟨B.exec, B.bytes, hml, B.returns, findClass_of_methodNamed B.named, B.notSynchronized, fun w hw => atoms_spec (ws := Cond.code my_M_top co_M_top 1 none :: pl_tb) B.pre w (List.mem_cons_of_mem _ hw), (name_of_methodNamed B.named B.method).1, hK⟩
  have hl := lv_entry ([.ref a0]) (n := 1) (Nat.le_of_ble_eq_true rfl)
  rw [lg_entry_eq]
  generalize (lg_sl ([.ref a0]) ++ List.replicate (1 - (lg_sl ([.ref a0])).length) Slot.unset).toArray = ls at hl ⊢
  have hl : lv_has ls 1 [(0, .ref a0)] := hl
  exact tl_M_top C hF w va_S.rf hl
def rm_M_work : Room := { frames := 5, cells := 0, slots := 0, locals := 117 }
def fn_M_work_63 : Nat → pl_H → Nat → Int32 → Option (pl_H)
  | 0 => fun _ _ _ => none
  | k + 1 => fun f a0 x1 => if 32 ≤ x1 then some f else (pl_gR f a0 8 28).bind fun v1 => (pl_gR f a0 8 27).bind fun v2 => (pl_aI f v2 x1).bind fun v3 => (pl_sI f v1 x1 v3).bind fun f4 => fn_M_work_63 k f4 a0 (x1 + 1)
def fn_M_work_21 (rc15 : pl_H → Nat → Int32 → Option (pl_H)) : Nat → pl_H → Nat → Int32 → Int32 → Option (pl_H)
  | 0 => fun _ _ _ _ => none
  | k + 1 => fun f a0 x1 x2 => (pl_gI f a0 8 0).bind fun v1 => if v1 ≤ x2 then rc15 f a0 (x1 + (-1)) else (pl_is f a0 8).bind fun u3 => (fn_M_build f a0 x2 x1).bind fun q2 => (pl_is q2 a0 8).bind fun u5 => (fn_M_note q2 a0 x2 x1).bind fun q4 => fn_M_work_21 rc15 k q4 a0 x1 (x2 + 1)
def fn_M_work_15 : Nat → pl_H → Nat → Int32 → Option (pl_H)
  | 0 => fun _ _ _ => none
  | k + 1 => fun f a0 x1 => if x1 < 0 then (pl_is f a0 8).bind fun u2 => (fn_M_top f a0).bind fun q1 => (pl_is q1 a0 8).bind fun u4 => (fn_M_hashCodeNow q1 a0).bind fun q3 => fn_M_work_63 pl_N q3 a0 0 else fn_M_work_21 (fn_M_work_15 k) pl_N f a0 x1 0
def fn_M_work (f : pl_H) (a0 : Nat) : Option (pl_H) := (pl_gI f a0 8 5).bind fun v1 => if v1 = 0 then (pl_pV f a0 8 5 (.int 1)).bind fun f2 => fn_M_work_15 pl_N f2 a0 4 else some f
set_option maxHeartbeats 4000000 in
set_option maxRecDepth 100000 in
theorem tl_M_work_63 {p : Program} {l : Launch} {e : Env} {s : State} {m : MethodId} {args : Array Value} {below : List Frame} {meth : Method} {c : Code} {D : va_G} {dA : Nat → ClassId} {tt : Nat → Nat} {b n : Nat} (C : pl_C p s m args meth c co_M_work 3 rn_M none "work" D dA tt b) {f' : pl_H} : ∀ k : Nat, ∀ (f : pl_H) (a0 : Nat) (x1 : Int32) (H : Heap) (locs : List Loc) (ls : Array Slot), fn_M_work_63 k f a0 x1 = some f' → pl_wd D vwCl dA b n f H → va_S (pl_A b) s.heap H locs → lv_has ls 3 [(0, .ref a0), (1, .int x1)] → W p l e rm_M_work s m args below meth c H locs 0 0 (MQ below (pl_qV D dA tt b n f') args s 0 0 (pl_A b)) (F0 m 63 ls []) := by
  have hx := C.1
  have hb := C.2.1
  have hown := C.2.2.2.2.1
  have hts := C.2.2.2.2.2.2.1
  intro k
  induction k with
  | zero =>
    intro f a0 x1 H locs ls hF
    cases hF
  | succ k ih =>
    intro f a0 x1 H locs ls hF w hS hl
    unfold fn_M_work_63 at hF
    refine lv_iload_n hx hb dc_M_work_63 rfl (lv_at hl 1 rfl) ?_
    refine lv_bipush (v := 32) hx hb dc_M_work_64 (by decide) ?_
    refine lv_icmp_ge hx hb dc_M_work_66 (tgt := 87) (by decide) (fun hc => ?_) (fun hc => ?_)
    · have hF := (if_pos hc).symm.trans hF
      exact pl_retVw C w hS hF dc_M_work_87
    · have hF := (if_neg hc).symm.trans hF
      refine lv_aload_n hx hb dc_M_work_69 rfl (lv_at hl 0 rfl) ?_
      obtain ⟨v1, ev1, hF⟩ := pl_bd hF
      refine pl_getR C w (ci := 8) in_M rfl (by decide) 28 (by decide) mw_725 ev1 dc_M_work_70 ?_
      refine lv_iload_n hx hb dc_M_work_73 rfl (lv_at hl 1 rfl) ?_
      refine lv_aload_n hx hb dc_M_work_74 rfl (lv_at hl 0 rfl) ?_
      obtain ⟨v2, ev2, hF⟩ := pl_bd hF
      refine pl_getR C w (ci := 8) in_M rfl (by decide) 27 (by decide) mw_724 ev2 dc_M_work_75 ?_
      refine lv_iload_n hx hb dc_M_work_78 rfl (lv_at hl 1 rfl) ?_
      obtain ⟨v3, ev3, hF⟩ := pl_bd hF
      refine pl_aldI C w ev3 dc_M_work_79 ?_
      obtain ⟨f4, ef4, hF⟩ := pl_bd hF
      refine pl_astI C w hS ef4 dc_M_work_80 (fun H locs w hS => ?_)
      refine lv_iinc (k := 1) (v := x1 + 1) (lv' := [(1, .int (x1 + 1)), (0, .ref a0)]) hx hb dc_M_work_81 hl rfl rfl (by decide) rfl (fun ls hl => ?_)
      refine lv_goto hx hb dc_M_work_84 (tgt := 63) (by decide) ?_
      exact ih f4 a0 (x1 + 1) _ _ _ hF w hS (lv_sub hl [1, 0] rfl)
set_option maxHeartbeats 4000000 in
set_option maxRecDepth 100000 in
theorem tl_M_work_21 {p : Program} {l : Launch} {e : Env} {s : State} {m : MethodId} {args : Array Value} {below : List Frame} {meth : Method} {c : Code} {D : va_G} {dA : Nat → ClassId} {tt : Nat → Nat} {b n : Nat} (C : pl_C p s m args meth c co_M_work 3 rn_M none "work" D dA tt b) {f' : pl_H} {rc15 : pl_H → Nat → Int32 → Option (pl_H)} (hr15 : ∀ (f : pl_H) (a0 : Nat) (x1 : Int32) (H : Heap) (locs : List Loc) (ls : Array Slot), rc15 f a0 x1 = some f' → pl_wd D vwCl dA b n f H → va_S (pl_A b) s.heap H locs → lv_has ls 3 [(0, .ref a0), (1, .int x1)] → W p l e rm_M_work s m args below meth c H locs 0 0 (MQ below (pl_qV D dA tt b n f') args s 0 0 (pl_A b)) (F0 m 15 ls [])) : ∀ k : Nat, ∀ (f : pl_H) (a0 : Nat) (x1 : Int32) (x2 : Int32) (H : Heap) (locs : List Loc) (ls : Array Slot), fn_M_work_21 rc15 k f a0 x1 x2 = some f' → pl_wd D vwCl dA b n f H → va_S (pl_A b) s.heap H locs → lv_has ls 3 [(0, .ref a0), (1, .int x1), (2, .int x2)] → W p l e rm_M_work s m args below meth c H locs 0 0 (MQ below (pl_qV D dA tt b n f') args s 0 0 (pl_A b)) (F0 m 21 ls []) := by
  have hx := C.1
  have hb := C.2.1
  have hown := C.2.2.2.2.1
  have hts := C.2.2.2.2.2.2.1
  intro k
  induction k with
  | zero =>
    intro f a0 x1 x2 H locs ls hF
    cases hF
  | succ k ih =>
    intro f a0 x1 x2 H locs ls hF w hS hl
    unfold fn_M_work_21 at hF
    refine lv_iload_n hx hb dc_M_work_21 rfl (lv_at hl 2 rfl) ?_
    refine lv_aload_n hx hb dc_M_work_22 rfl (lv_at hl 0 rfl) ?_
    obtain ⟨v1, ev1, hF⟩ := pl_bd hF
    refine pl_getI C w (ci := 8) in_M rfl (by decide) 0 (by decide) mw_697 ev1 dc_M_work_23 ?_
    refine lv_icmp_ge hx hb dc_M_work_26 (tgt := 47) (by decide) (fun hc => ?_) (fun hc => ?_)
    · have hF := (if_pos hc).symm.trans hF
      refine lv_iinc (k := 1) (v := x1 + (-1)) (lv' := [(1, .int (x1 + (-1))), (0, .ref a0), (2, .int x2)]) hx hb dc_M_work_47 hl rfl rfl (by decide) rfl (fun ls hl => ?_)
      refine lv_goto hx hb dc_M_work_50 (tgt := 15) (by decide) ?_
      exact hr15 f a0 (x1 + (-1)) _ _ _ hF w hS (lv_sub hl [1, 0] rfl)
    · have hF := (if_neg hc).symm.trans hF
      refine lv_aload_n hx hb dc_M_work_29 rfl (lv_at hl 0 rfl) ?_
      refine lv_iload_n hx hb dc_M_work_30 rfl (lv_at hl 2 rfl) ?_
      refine lv_iload_n hx hb dc_M_work_31 rfl (lv_at hl 1 rfl) ?_
      obtain ⟨u3, eu3, hF⟩ := pl_bd hF
      obtain ⟨q2, eq2, hF⟩ := pl_bd hF
      refine pl_gv (pl_runV (Cn := rn_M) (k := 2) C (tm_M_build l D dA tt b n eq2) w hS rfl rfl mw_855 mw_857 mw_35 mw_72 mw_858 (by decide +kernel) ⟨by decide, by decide⟩ eu3 rfl (by decide) rfl hl.1 (Nat.le_of_ble_eq_true rfl) ⟨Nat.zero_le _, Nat.zero_le _⟩ rfl dc_M_work_32) hS (fun H locs w hS => ?_)
      refine lv_aload_n hx hb dc_M_work_35 rfl (lv_at hl 0 rfl) ?_
      refine lv_iload_n hx hb dc_M_work_36 rfl (lv_at hl 2 rfl) ?_
      refine lv_iload_n hx hb dc_M_work_37 rfl (lv_at hl 1 rfl) ?_
      obtain ⟨u5, eu5, hF⟩ := pl_bd hF
      obtain ⟨q4, eq4, hF⟩ := pl_bd hF
      refine pl_gv (pl_runV (Cn := rn_M) (k := 2) C (tm_M_note l D dA tt b n eq4) w hS rfl rfl mw_907 mw_909 mw_45 mw_72 mw_910 (by decide +kernel) ⟨by decide, by decide⟩ eu5 rfl (by decide) rfl hl.1 (Nat.le_of_ble_eq_true rfl) ⟨Nat.zero_le _, Nat.zero_le _⟩ rfl dc_M_work_38) hS (fun H locs w hS => ?_)
      refine lv_iinc (k := 2) (v := x2 + 1) (lv' := [(2, .int (x2 + 1)), (0, .ref a0), (1, .int x1)]) hx hb dc_M_work_41 hl rfl rfl (by decide) rfl (fun ls hl => ?_)
      refine lv_goto hx hb dc_M_work_44 (tgt := 21) (by decide) ?_
      exact ih q4 a0 x1 (x2 + 1) _ _ _ hF w hS (lv_sub hl [1, 2, 0] rfl)
set_option maxHeartbeats 4000000 in
set_option maxRecDepth 100000 in
theorem tl_M_work_15 {p : Program} {l : Launch} {e : Env} {s : State} {m : MethodId} {args : Array Value} {below : List Frame} {meth : Method} {c : Code} {D : va_G} {dA : Nat → ClassId} {tt : Nat → Nat} {b n : Nat} (C : pl_C p s m args meth c co_M_work 3 rn_M none "work" D dA tt b) {f' : pl_H} : ∀ k : Nat, ∀ (f : pl_H) (a0 : Nat) (x1 : Int32) (H : Heap) (locs : List Loc) (ls : Array Slot), fn_M_work_15 k f a0 x1 = some f' → pl_wd D vwCl dA b n f H → va_S (pl_A b) s.heap H locs → lv_has ls 3 [(0, .ref a0), (1, .int x1)] → W p l e rm_M_work s m args below meth c H locs 0 0 (MQ below (pl_qV D dA tt b n f') args s 0 0 (pl_A b)) (F0 m 15 ls []) := by
  have hx := C.1
  have hb := C.2.1
  have hown := C.2.2.2.2.1
  have hts := C.2.2.2.2.2.2.1
  intro k
  induction k with
  | zero =>
    intro f a0 x1 H locs ls hF
    cases hF
  | succ k ih =>
    intro f a0 x1 H locs ls hF w hS hl
    unfold fn_M_work_15 at hF
    refine lv_iload_n hx hb dc_M_work_15 rfl (lv_at hl 1 rfl) ?_
    refine lv_if_lt hx hb dc_M_work_16 (tgt := 53) (by decide) (fun hc => ?_) (fun hc => ?_)
    · have hF := (if_pos hc).symm.trans hF
      refine lv_aload_n hx hb dc_M_work_53 rfl (lv_at hl 0 rfl) ?_
      obtain ⟨u2, eu2, hF⟩ := pl_bd hF
      obtain ⟨q1, eq1, hF⟩ := pl_bd hF
      refine pl_gv (pl_runV (Cn := rn_M) (k := 0) C (tm_M_top l D dA tt b n eq1) w hS rfl rfl mw_923 mw_925 mw_48 mw_72 mw_926 (by decide +kernel) ⟨by decide, by decide⟩ eu2 rfl (by decide) rfl hl.1 (Nat.le_of_ble_eq_true rfl) ⟨Nat.zero_le _, Nat.zero_le _⟩ rfl dc_M_work_54) hS (fun H locs w hS => ?_)
      refine lv_aload_n hx hb dc_M_work_57 rfl (lv_at hl 0 rfl) ?_
      obtain ⟨u4, eu4, hF⟩ := pl_bd hF
      obtain ⟨q3, eq3, hF⟩ := pl_bd hF
      refine pl_gv (pl_runV (Cn := rn_M) (k := 0) C (tm_M_hashCodeNow l D dA tt b n eq3) w hS rfl rfl mw_911 mw_913 mw_46 mw_72 mw_914 (by decide +kernel) ⟨by decide, by decide⟩ eu4 rfl (by decide) rfl hl.1 (Nat.le_of_ble_eq_true rfl) ⟨Nat.zero_le _, Nat.zero_le _⟩ rfl dc_M_work_58) hS (fun H locs w hS => ?_)
      refine lv_iconst (v := 0) hx hb dc_M_work_61 (by decide) ?_
      refine lv_istore_n (lv' := [(1, .int 0), (0, .ref a0)]) hx hb dc_M_work_62 rfl hl (by decide) rfl (fun ls hl => ?_)
      exact tl_M_work_63 C pl_N q3 a0 0 _ _ _ hF w hS (lv_sub hl [1, 0] rfl)
    · have hF := (if_neg hc).symm.trans hF
      refine lv_iconst (v := 0) hx hb dc_M_work_19 (by decide) ?_
      refine lv_istore_n (lv' := [(2, .int 0), (0, .ref a0), (1, .int x1)]) hx hb dc_M_work_20 rfl hl (by decide) rfl (fun ls hl => ?_)
      exact tl_M_work_21 C ih pl_N f a0 x1 0 _ _ _ hF w hS (lv_sub hl [1, 2, 0] rfl)
set_option maxHeartbeats 4000000 in
set_option maxRecDepth 100000 in
theorem tl_M_work {p : Program} {l : Launch} {e : Env} {s : State} {m : MethodId} {args : Array Value} {below : List Frame} {meth : Method} {c : Code} {D : va_G} {dA : Nat → ClassId} {tt : Nat → Nat} {b n : Nat} (C : pl_C p s m args meth c co_M_work 3 rn_M none "work" D dA tt b) {f' : pl_H} {f : pl_H} {a0 : Nat} {H : Heap} {locs : List Loc} {ls : Array Slot} (hF : fn_M_work f a0 = some f') (w : pl_wd D vwCl dA b n f H) (hS : va_S (pl_A b) s.heap H locs) (hl : lv_has ls 3 [(0, .ref a0)]) : W p l e rm_M_work s m args below meth c H locs 0 0 (MQ below (pl_qV D dA tt b n f') args s 0 0 (pl_A b)) (F0 m 0 ls []) := by
  have hx := C.1
  have hb := C.2.1
  have hown := C.2.2.2.2.1
  have hts := C.2.2.2.2.2.2.1
  unfold fn_M_work at hF
  refine lv_aload_n hx hb dc_M_work_0 rfl (lv_at hl 0 rfl) ?_
  obtain ⟨v1, ev1, hF⟩ := pl_bd hF
  refine pl_getI C w (ci := 8) in_M rfl (by decide) 5 (by decide) mw_702 ev1 dc_M_work_1 ?_
  refine lv_if_eq hx hb dc_M_work_4 (tgt := 8) (by decide) (fun hc => ?_) (fun hc => ?_)
  · have hF := (if_pos hc).symm.trans hF
    refine lv_aload_n hx hb dc_M_work_8 rfl (lv_at hl 0 rfl) ?_
    refine lv_iconst (v := 1) hx hb dc_M_work_9 (by decide) ?_
    obtain ⟨f2, ef2, hF⟩ := pl_bd hF
    refine pl_put C w hS (ci := 8) in_M rfl (by decide) rty_M_ok rnm_M 5 (by decide) mw_702 rfl rfl rfl ef2 dc_M_work_10 (fun H locs w hS => ?_)
    refine lv_iconst (v := 4) hx hb dc_M_work_13 (by decide) ?_
    refine lv_istore_n (lv' := [(1, .int 4), (0, .ref a0)]) hx hb dc_M_work_14 rfl hl (by decide) rfl (fun ls hl => ?_)
    exact tl_M_work_15 C pl_N f2 a0 4 _ _ _ hF w hS (lv_sub hl [1, 0] rfl)
  · have hF := (if_neg hc).symm.trans hF
    exact pl_retVw C w hS hF dc_M_work_7
set_option maxHeartbeats 4000000 in
set_option maxRecDepth 100000 in
theorem tm_M_work (l : Launch) (D : va_G) (dA : Nat → ClassId) (tt : Nat → Nat) (b n : Nat) {f : pl_H} {a0 : Nat} {f' : pl_H} (hF : fn_M_work f a0 = some f') : Met l my_M_work (Cond.code my_M_work co_M_work 3 none :: pl_tb) rm_M_work (va_Pc [.ref a0] (pl_pre D dA tt b n f)) (pl_qV D dA tt b n f') 0 0 (pl_A b) := by
  refine Met.ofW (cc := co_M_work) (maxL := 3) (ret := none) (by decide) rfl ?_
  intro p e s m args below meth c s₁ B hml hv
  obtain ⟨rfl, w, hK⟩ := hv
  have C : pl_C p s m _ meth c co_M_work 3 rn_M none "work" D dA tt b := ⟨B.exec, B.bytes, hml, B.returns, findClass_of_methodNamed B.named, B.notSynchronized, fun w hw => atoms_spec (ws := Cond.code my_M_work co_M_work 3 none :: pl_tb) B.pre w (List.mem_cons_of_mem _ hw), (name_of_methodNamed B.named B.method).1, hK⟩
  have hl := lv_entry ([.ref a0]) (n := 3) (Nat.le_of_ble_eq_true rfl)
  rw [lg_entry_eq]
  generalize (lg_sl ([.ref a0]) ++ List.replicate (3 - (lg_sl ([.ref a0])).length) Slot.unset).toArray = ls at hl ⊢
  have hl : lv_has ls 3 [(0, .ref a0)] := hl
  exact tl_M_work C hF w va_S.rf hl
def rm_M_isAccount : Room := { frames := 0, cells := 0, slots := 0, locals := 0 }
def fn_M_isAccount_15 (f : pl_H) (sx0 : Int32) : Option (Int32) := pl_z sx0
def fn_M_isAccount_14 (f : pl_H) : Option (Int32) := fn_M_isAccount_15 f 0
def fn_M_isAccount (f : pl_H) (x0 : Int32) : Option (Int32) := if x0 < 0 then fn_M_isAccount_14 f else if 65535 < x0 then fn_M_isAccount_14 f else fn_M_isAccount_15 f 1
set_option maxHeartbeats 4000000 in
set_option maxRecDepth 100000 in
theorem tl_M_isAccount_15 {p : Program} {l : Launch} {e : Env} {s : State} {m : MethodId} {args : Array Value} {below : List Frame} {meth : Method} {c : Code} {D : va_G} {dA : Nat → ClassId} {tt : Nat → Nat} {b n : Nat} (C : pl_C p s m args meth c co_M_isAccount 1 rn_M (some .boolean) "isAccount" D dA tt b) {r : Int32} {f : pl_H} {sx0 : Int32} {H : Heap} {locs : List Loc} {ls : Array Slot} (hF : fn_M_isAccount_15 f sx0 = some r) (w : pl_wd D vwCl dA b n f H) (hS : va_S (pl_A b) s.heap H locs) (hl : lv_has ls 1 []) : W p l e rm_M_isAccount s m args below meth c H locs 0 0 (MQ below (pl_qI D dA tt b n f r) args s 0 0 (pl_A b)) (F0 m 15 ls [.int sx0]) := by
  have hx := C.1
  have hb := C.2.1
  have hown := C.2.2.2.2.1
  have hts := C.2.2.2.2.2.2.1
  unfold fn_M_isAccount_15 at hF
  exact pl_retZ C w hS hF dc_M_isAccount_15
set_option maxHeartbeats 4000000 in
set_option maxRecDepth 100000 in
theorem tl_M_isAccount_14 {p : Program} {l : Launch} {e : Env} {s : State} {m : MethodId} {args : Array Value} {below : List Frame} {meth : Method} {c : Code} {D : va_G} {dA : Nat → ClassId} {tt : Nat → Nat} {b n : Nat} (C : pl_C p s m args meth c co_M_isAccount 1 rn_M (some .boolean) "isAccount" D dA tt b) {r : Int32} {f : pl_H} {H : Heap} {locs : List Loc} {ls : Array Slot} (hF : fn_M_isAccount_14 f = some r) (w : pl_wd D vwCl dA b n f H) (hS : va_S (pl_A b) s.heap H locs) (hl : lv_has ls 1 []) : W p l e rm_M_isAccount s m args below meth c H locs 0 0 (MQ below (pl_qI D dA tt b n f r) args s 0 0 (pl_A b)) (F0 m 14 ls []) := by
  have hx := C.1
  have hb := C.2.1
  have hown := C.2.2.2.2.1
  have hts := C.2.2.2.2.2.2.1
  unfold fn_M_isAccount_14 at hF
  refine lv_iconst (v := 0) hx hb dc_M_isAccount_14 (by decide) ?_
  exact tl_M_isAccount_15 C hF w hS (lv_sub hl [] rfl)
set_option maxHeartbeats 4000000 in
set_option maxRecDepth 100000 in
theorem tl_M_isAccount {p : Program} {l : Launch} {e : Env} {s : State} {m : MethodId} {args : Array Value} {below : List Frame} {meth : Method} {c : Code} {D : va_G} {dA : Nat → ClassId} {tt : Nat → Nat} {b n : Nat} (C : pl_C p s m args meth c co_M_isAccount 1 rn_M (some .boolean) "isAccount" D dA tt b) {r : Int32} {f : pl_H} {x0 : Int32} {H : Heap} {locs : List Loc} {ls : Array Slot} (hF : fn_M_isAccount f x0 = some r) (w : pl_wd D vwCl dA b n f H) (hS : va_S (pl_A b) s.heap H locs) (hl : lv_has ls 1 [(0, .int x0)]) : W p l e rm_M_isAccount s m args below meth c H locs 0 0 (MQ below (pl_qI D dA tt b n f r) args s 0 0 (pl_A b)) (F0 m 0 ls []) := by
  have hx := C.1
  have hb := C.2.1
  have hown := C.2.2.2.2.1
  have hts := C.2.2.2.2.2.2.1
  unfold fn_M_isAccount at hF
  refine lv_iload_n hx hb dc_M_isAccount_0 rfl (lv_at hl 0 rfl) ?_
  refine lv_if_lt hx hb dc_M_isAccount_1 (tgt := 14) (by decide) (fun hc => ?_) (fun hc => ?_)
  · have hF := (if_pos hc).symm.trans hF
    exact tl_M_isAccount_14 C hF w hS (lv_sub hl [] rfl)
  · have hF := (if_neg hc).symm.trans hF
    refine lv_iload_n hx hb dc_M_isAccount_4 rfl (lv_at hl 0 rfl) ?_
    refine lv_ldc (v := 65535) hx hb hown (hts _ mw_808) dc_M_isAccount_5 ?_
    refine lv_icmp_gt hx hb dc_M_isAccount_7 (tgt := 14) (by decide) (fun hc => ?_) (fun hc => ?_)
    · have hF := (if_pos hc).symm.trans hF
      exact tl_M_isAccount_14 C hF w hS (lv_sub hl [] rfl)
    · have hF := (if_neg hc).symm.trans hF
      refine lv_iconst (v := 1) hx hb dc_M_isAccount_10 (by decide) ?_
      refine lv_goto hx hb dc_M_isAccount_11 (tgt := 15) (by decide) ?_
      exact tl_M_isAccount_15 C hF w hS (lv_sub hl [] rfl)
set_option maxHeartbeats 4000000 in
set_option maxRecDepth 100000 in
theorem tm_M_isAccount (l : Launch) (D : va_G) (dA : Nat → ClassId) (tt : Nat → Nat) (b n : Nat) {f : pl_H} {x0 : Int32} {r : Int32} (hF : fn_M_isAccount f x0 = some r) : Met l my_M_isAccount (Cond.code my_M_isAccount co_M_isAccount 1 (some .boolean) :: pl_tb) rm_M_isAccount (va_Pc [.int x0] (pl_pre D dA tt b n f)) (pl_qI D dA tt b n f r) 0 0 (pl_A b) := by
  refine Met.ofW (cc := co_M_isAccount) (maxL := 1) (ret := (some .boolean)) (by decide) rfl ?_
  intro p e s m args below meth c s₁ B hml hv
  obtain ⟨rfl, w, hK⟩ := hv
  have C : pl_C p s m _ meth c co_M_isAccount 1 rn_M (some .boolean) "isAccount" D dA tt b := ⟨B.exec, B.bytes, hml, B.returns, findClass_of_methodNamed B.named, B.notSynchronized, fun w hw => atoms_spec (ws := Cond.code my_M_isAccount co_M_isAccount 1 (some .boolean) :: pl_tb) B.pre w (List.mem_cons_of_mem _ hw), (name_of_methodNamed B.named B.method).1, hK⟩
  have hl := lv_entry ([.int x0]) (n := 1) (Nat.le_of_ble_eq_true rfl)
  rw [lg_entry_eq]
  generalize (lg_sl ([.int x0]) ++ List.replicate (1 - (lg_sl ([.int x0])).length) Slot.unset).toArray = ls at hl ⊢
  have hl : lv_has ls 1 [(0, .int x0)] := hl
  exact tl_M_isAccount C hF w va_S.rf hl
def rm_M_find : Room := { frames := 0, cells := 0, slots := 0, locals := 0 }
def fn_M_find_27 (rc4 : pl_H → Nat → Int32 → Int32 → Int32 → Option (Int32)) (f : pl_H) (a0 : Nat) (x1 : Int32) (x3 : Int32) (sx0 : Int32) : Option (Int32) := rc4 f a0 x1 sx0 (x3 + 1)
def fn_M_find_4 : Nat → pl_H → Nat → Int32 → Int32 → Int32 → Option (Int32)
  | 0 => fun _ _ _ _ _ => none
  | k + 1 => fun f a0 x1 x2 x3 => (pl_gI f a0 8 0).bind fun v1 => if v1 ≤ x3 then some x2 else (pl_gR f a0 8 1).bind fun v2 => (pl_aI f v2 x3).bind fun v3 => if v3 = x1 then fn_M_find_27 (fn_M_find_4 k) f a0 x1 x3 x3 else fn_M_find_27 (fn_M_find_4 k) f a0 x1 x3 x2
def fn_M_find (f : pl_H) (a0 : Nat) (x1 : Int32) : Option (Int32) := fn_M_find_4 pl_N f a0 x1 ((-1)) 0
set_option maxHeartbeats 4000000 in
set_option maxRecDepth 100000 in
theorem tl_M_find_27 {p : Program} {l : Launch} {e : Env} {s : State} {m : MethodId} {args : Array Value} {below : List Frame} {meth : Method} {c : Code} {D : va_G} {dA : Nat → ClassId} {tt : Nat → Nat} {b n : Nat} (C : pl_C p s m args meth c co_M_find 4 rn_M (some .int) "find" D dA tt b) {r : Int32} {f : pl_H} {rc4 : pl_H → Nat → Int32 → Int32 → Int32 → Option (Int32)} (hr4 : ∀ (a0 : Nat) (x1 : Int32) (x2 : Int32) (x3 : Int32) (H : Heap) (locs : List Loc) (ls : Array Slot), rc4 f a0 x1 x2 x3 = some r → pl_wd D vwCl dA b n f H → va_S (pl_A b) s.heap H locs → lv_has ls 4 [(0, .ref a0), (1, .int x1), (2, .int x2), (3, .int x3)] → W p l e rm_M_find s m args below meth c H locs 0 0 (MQ below (pl_qI D dA tt b n f r) args s 0 0 (pl_A b)) (F0 m 4 ls [])) {a0 : Nat} {x1 : Int32} {x3 : Int32} {sx0 : Int32} {H : Heap} {locs : List Loc} {ls : Array Slot} (hF : fn_M_find_27 rc4 f a0 x1 x3 sx0 = some r) (w : pl_wd D vwCl dA b n f H) (hS : va_S (pl_A b) s.heap H locs) (hl : lv_has ls 4 [(0, .ref a0), (1, .int x1), (3, .int x3)]) : W p l e rm_M_find s m args below meth c H locs 0 0 (MQ below (pl_qI D dA tt b n f r) args s 0 0 (pl_A b)) (F0 m 27 ls [.int sx0]) := by
  have hx := C.1
  have hb := C.2.1
  have hown := C.2.2.2.2.1
  have hts := C.2.2.2.2.2.2.1
  unfold fn_M_find_27 at hF
  refine lv_istore_n (lv' := [(2, .int sx0), (0, .ref a0), (1, .int x1), (3, .int x3)]) hx hb dc_M_find_27 rfl hl (by decide) rfl (fun ls hl => ?_)
  refine lv_iinc (k := 3) (v := x3 + 1) (lv' := [(3, .int (x3 + 1)), (2, .int sx0), (0, .ref a0), (1, .int x1)]) hx hb dc_M_find_28 hl rfl rfl (by decide) rfl (fun ls hl => ?_)
  refine lv_goto hx hb dc_M_find_31 (tgt := 4) (by decide) ?_
  exact hr4 a0 x1 sx0 (x3 + 1) _ _ _ hF w hS (lv_sub hl [2, 3, 1, 0] rfl)
set_option maxHeartbeats 4000000 in
set_option maxRecDepth 100000 in
theorem tl_M_find_4 {p : Program} {l : Launch} {e : Env} {s : State} {m : MethodId} {args : Array Value} {below : List Frame} {meth : Method} {c : Code} {D : va_G} {dA : Nat → ClassId} {tt : Nat → Nat} {b n : Nat} (C : pl_C p s m args meth c co_M_find 4 rn_M (some .int) "find" D dA tt b) {r : Int32} {f : pl_H} : ∀ k : Nat, ∀ (a0 : Nat) (x1 : Int32) (x2 : Int32) (x3 : Int32) (H : Heap) (locs : List Loc) (ls : Array Slot), fn_M_find_4 k f a0 x1 x2 x3 = some r → pl_wd D vwCl dA b n f H → va_S (pl_A b) s.heap H locs → lv_has ls 4 [(0, .ref a0), (1, .int x1), (2, .int x2), (3, .int x3)] → W p l e rm_M_find s m args below meth c H locs 0 0 (MQ below (pl_qI D dA tt b n f r) args s 0 0 (pl_A b)) (F0 m 4 ls []) := by
  have hx := C.1
  have hb := C.2.1
  have hown := C.2.2.2.2.1
  have hts := C.2.2.2.2.2.2.1
  intro k
  induction k with
  | zero =>
    intro a0 x1 x2 x3 H locs ls hF
    cases hF
  | succ k ih =>
    intro a0 x1 x2 x3 H locs ls hF w hS hl
    unfold fn_M_find_4 at hF
    refine lv_iload_n hx hb dc_M_find_4 rfl (lv_at hl 3 rfl) ?_
    refine lv_aload_n hx hb dc_M_find_5 rfl (lv_at hl 0 rfl) ?_
    obtain ⟨v1, ev1, hF⟩ := pl_bd hF
    refine pl_getI C w (ci := 8) in_M rfl (by decide) 0 (by decide) mw_697 ev1 dc_M_find_6 ?_
    refine lv_icmp_ge hx hb dc_M_find_9 (tgt := 34) (by decide) (fun hc => ?_) (fun hc => ?_)
    · have hF := (if_pos hc).symm.trans hF
      refine lv_iload_n hx hb dc_M_find_34 rfl (lv_at hl 2 rfl) ?_
      exact pl_retI C w hS hF dc_M_find_35
    · have hF := (if_neg hc).symm.trans hF
      refine lv_aload_n hx hb dc_M_find_12 rfl (lv_at hl 0 rfl) ?_
      obtain ⟨v2, ev2, hF⟩ := pl_bd hF
      refine pl_getR C w (ci := 8) in_M rfl (by decide) 1 (by decide) mw_698 ev2 dc_M_find_13 ?_
      refine lv_iload_n hx hb dc_M_find_16 rfl (lv_at hl 3 rfl) ?_
      obtain ⟨v3, ev3, hF⟩ := pl_bd hF
      refine pl_aldI C w ev3 dc_M_find_17 ?_
      refine lv_iload_n hx hb dc_M_find_18 rfl (lv_at hl 1 rfl) ?_
      refine lv_icmp_ne hx hb dc_M_find_19 (tgt := 26) (by decide) (fun hc => ?_) (fun hc => ?_)
      · have hF := (if_neg hc).symm.trans hF
        refine lv_iload_n hx hb dc_M_find_26 rfl (lv_at hl 2 rfl) ?_
        exact tl_M_find_27 C ih hF w hS (lv_sub hl [0, 1, 3] rfl)
      · have hF := (if_pos hc).symm.trans hF
        refine lv_iload_n hx hb dc_M_find_22 rfl (lv_at hl 3 rfl) ?_
        refine lv_goto hx hb dc_M_find_23 (tgt := 27) (by decide) ?_
        exact tl_M_find_27 C ih hF w hS (lv_sub hl [0, 1, 3] rfl)
set_option maxHeartbeats 4000000 in
set_option maxRecDepth 100000 in
theorem tl_M_find {p : Program} {l : Launch} {e : Env} {s : State} {m : MethodId} {args : Array Value} {below : List Frame} {meth : Method} {c : Code} {D : va_G} {dA : Nat → ClassId} {tt : Nat → Nat} {b n : Nat} (C : pl_C p s m args meth c co_M_find 4 rn_M (some .int) "find" D dA tt b) {r : Int32} {f : pl_H} {a0 : Nat} {x1 : Int32} {H : Heap} {locs : List Loc} {ls : Array Slot} (hF : fn_M_find f a0 x1 = some r) (w : pl_wd D vwCl dA b n f H) (hS : va_S (pl_A b) s.heap H locs) (hl : lv_has ls 4 [(0, .ref a0), (1, .int x1)]) : W p l e rm_M_find s m args below meth c H locs 0 0 (MQ below (pl_qI D dA tt b n f r) args s 0 0 (pl_A b)) (F0 m 0 ls []) := by
  have hx := C.1
  have hb := C.2.1
  have hown := C.2.2.2.2.1
  have hts := C.2.2.2.2.2.2.1
  unfold fn_M_find at hF
  refine lv_iconst (v := (-1)) hx hb dc_M_find_0 (by decide) ?_
  refine lv_istore_n (lv' := [(2, .int ((-1))), (0, .ref a0), (1, .int x1)]) hx hb dc_M_find_1 rfl hl (by decide) rfl (fun ls hl => ?_)
  refine lv_iconst (v := 0) hx hb dc_M_find_2 (by decide) ?_
  refine lv_istore_n (lv' := [(3, .int 0), (2, .int ((-1))), (0, .ref a0), (1, .int x1)]) hx hb dc_M_find_3 rfl hl (by decide) rfl (fun ls hl => ?_)
  exact tl_M_find_4 C pl_N a0 x1 ((-1)) 0 _ _ _ hF w hS (lv_sub hl [2, 3, 1, 0] rfl)
set_option maxHeartbeats 4000000 in
set_option maxRecDepth 100000 in
theorem tm_M_find (l : Launch) (D : va_G) (dA : Nat → ClassId) (tt : Nat → Nat) (b n : Nat) {f : pl_H} {a0 : Nat} {x1 : Int32} {r : Int32} (hF : fn_M_find f a0 x1 = some r) : Met l my_M_find (Cond.code my_M_find co_M_find 4 (some .int) :: pl_tb) rm_M_find (va_Pc [.ref a0, .int x1] (pl_pre D dA tt b n f)) (pl_qI D dA tt b n f r) 0 0 (pl_A b) := by
  refine Met.ofW (cc := co_M_find) (maxL := 4) (ret := (some .int)) (by decide) rfl ?_
  intro p e s m args below meth c s₁ B hml hv
  obtain ⟨rfl, w, hK⟩ := hv
  have C : pl_C p s m _ meth c co_M_find 4 rn_M (some .int) "find" D dA tt b := ⟨B.exec, B.bytes, hml, B.returns, findClass_of_methodNamed B.named, B.notSynchronized, fun w hw => atoms_spec (ws := Cond.code my_M_find co_M_find 4 (some .int) :: pl_tb) B.pre w (List.mem_cons_of_mem _ hw), (name_of_methodNamed B.named B.method).1, hK⟩
  have hl := lv_entry ([.ref a0, .int x1]) (n := 4) (Nat.le_of_ble_eq_true rfl)
  rw [lg_entry_eq]
  generalize (lg_sl ([.ref a0, .int x1]) ++ List.replicate (4 - (lg_sl ([.ref a0, .int x1])).length) Slot.unset).toArray = ls at hl ⊢
  have hl : lv_has ls 4 [(0, .ref a0), (1, .int x1)] := hl
  exact tl_M_find C hF w va_S.rf hl
def rm_M_open : Room := { frames := 1, cells := 0, slots := 0, locals := 23 }
def fn_M_open_46 (f : pl_H) (x2 : Int32) : Option (Int32 × pl_H) := some (x2, f)
def fn_M_open (f : pl_H) (a0 : Nat) (x1 : Int32) : Option (Int32 × pl_H) := (pl_is f a0 8).bind fun u2 => (fn_M_find f a0 x1).bind fun v1 => if 0 ≤ v1 then fn_M_open_46 f v1 else (pl_gI f a0 8 0).bind fun v3 => (pl_gR f a0 8 1).bind fun v4 => (pl_sI f v4 v3 x1).bind fun f5 => (pl_gR f5 a0 8 2).bind fun v6 => (pl_sI f5 v6 v3 0).bind fun f7 => (pl_gR f7 a0 8 3).bind fun v8 => (pl_sL f7 v8 v3 0).bind fun f9 => (pl_gI f9 a0 8 0).bind fun v10 => (pl_pV f9 a0 8 0 (.int (v10 + 1))).bind fun f11 => fn_M_open_46 f11 v3
set_option maxHeartbeats 4000000 in
set_option maxRecDepth 100000 in
theorem tl_M_open_46 {p : Program} {l : Launch} {e : Env} {s : State} {m : MethodId} {args : Array Value} {below : List Frame} {meth : Method} {c : Code} {D : va_G} {dA : Nat → ClassId} {tt : Nat → Nat} {b n : Nat} (C : pl_C p s m args meth c co_M_open 3 rn_M (some .int) "open" D dA tt b) {r : Int32} {f' : pl_H} {f : pl_H} {x2 : Int32} {H : Heap} {locs : List Loc} {ls : Array Slot} (hF : fn_M_open_46 f x2 = some (r, f')) (w : pl_wd D vwCl dA b n f H) (hS : va_S (pl_A b) s.heap H locs) (hl : lv_has ls 3 [(2, .int x2)]) : W p l e rm_M_open s m args below meth c H locs 0 0 (MQ below (pl_qI D dA tt b n f' r) args s 0 0 (pl_A b)) (F0 m 46 ls []) := by
  have hx := C.1
  have hb := C.2.1
  have hown := C.2.2.2.2.1
  have hts := C.2.2.2.2.2.2.1
  unfold fn_M_open_46 at hF
  refine lv_iload_n hx hb dc_M_open_46 rfl (lv_at hl 0 rfl) ?_
  exact pl_retIw C w hS hF dc_M_open_47
set_option maxHeartbeats 4000000 in
set_option maxRecDepth 100000 in
theorem tl_M_open {p : Program} {l : Launch} {e : Env} {s : State} {m : MethodId} {args : Array Value} {below : List Frame} {meth : Method} {c : Code} {D : va_G} {dA : Nat → ClassId} {tt : Nat → Nat} {b n : Nat} (C : pl_C p s m args meth c co_M_open 3 rn_M (some .int) "open" D dA tt b) {r : Int32} {f' : pl_H} {f : pl_H} {a0 : Nat} {x1 : Int32} {H : Heap} {locs : List Loc} {ls : Array Slot} (hF : fn_M_open f a0 x1 = some (r, f')) (w : pl_wd D vwCl dA b n f H) (hS : va_S (pl_A b) s.heap H locs) (hl : lv_has ls 3 [(0, .ref a0), (1, .int x1)]) : W p l e rm_M_open s m args below meth c H locs 0 0 (MQ below (pl_qI D dA tt b n f' r) args s 0 0 (pl_A b)) (F0 m 0 ls []) := by
  have hx := C.1
  have hb := C.2.1
  have hown := C.2.2.2.2.1
  have hts := C.2.2.2.2.2.2.1
  unfold fn_M_open at hF
  refine lv_aload_n hx hb dc_M_open_0 rfl (lv_at hl 0 rfl) ?_
  refine lv_iload_n hx hb dc_M_open_1 rfl (lv_at hl 1 rfl) ?_
  obtain ⟨u2, eu2, hF⟩ := pl_bd hF
  obtain ⟨v1, ev1, hF⟩ := pl_bd hF
  refine pl_gi (pl_runV (Cn := rn_M) (k := 1) C (tm_M_find l D dA tt b n ev1) w hS rfl rfl mw_814 mw_816 mw_32 mw_72 mw_817 (by decide +kernel) ⟨by decide, by decide⟩ eu2 rfl (by decide) rfl hl.1 (Nat.le_of_ble_eq_true rfl) ⟨Nat.zero_le _, Nat.zero_le _⟩ rfl dc_M_open_2) hS (fun H locs w hS => ?_)
  refine lv_istore_n (lv' := [(2, .int v1), (0, .ref a0), (1, .int x1)]) hx hb dc_M_open_5 rfl hl (by decide) rfl (fun ls hl => ?_)
  refine lv_iload_n hx hb dc_M_open_6 rfl (lv_at hl 0 rfl) ?_
  refine lv_if_ge hx hb dc_M_open_7 (tgt := 46) (by decide) (fun hc => ?_) (fun hc => ?_)
  · have hF := (if_pos hc).symm.trans hF
    exact tl_M_open_46 C hF w hS (lv_sub hl [0] rfl)
  · have hF := (if_neg hc).symm.trans hF
    refine lv_aload_n hx hb dc_M_open_10 rfl (lv_at hl 1 rfl) ?_
    obtain ⟨v3, ev3, hF⟩ := pl_bd hF
    refine pl_getI C w (ci := 8) in_M rfl (by decide) 0 (by decide) mw_697 ev3 dc_M_open_11 ?_
    refine lv_istore_n (lv' := [(2, .int v3), (0, .ref a0), (1, .int x1)]) hx hb dc_M_open_14 rfl hl (by decide) rfl (fun ls hl => ?_)
    refine lv_aload_n hx hb dc_M_open_15 rfl (lv_at hl 1 rfl) ?_
    obtain ⟨v4, ev4, hF⟩ := pl_bd hF
    refine pl_getR C w (ci := 8) in_M rfl (by decide) 1 (by decide) mw_698 ev4 dc_M_open_16 ?_
    refine lv_iload_n hx hb dc_M_open_19 rfl (lv_at hl 0 rfl) ?_
    refine lv_iload_n hx hb dc_M_open_20 rfl (lv_at hl 2 rfl) ?_
    obtain ⟨f5, ef5, hF⟩ := pl_bd hF
    refine pl_astI C w hS ef5 dc_M_open_21 (fun H locs w hS => ?_)
    refine lv_aload_n hx hb dc_M_open_22 rfl (lv_at hl 1 rfl) ?_
    obtain ⟨v6, ev6, hF⟩ := pl_bd hF
    refine pl_getR C w (ci := 8) in_M rfl (by decide) 2 (by decide) mw_699 ev6 dc_M_open_23 ?_
    refine lv_iload_n hx hb dc_M_open_26 rfl (lv_at hl 0 rfl) ?_
    refine lv_iconst (v := 0) hx hb dc_M_open_27 (by decide) ?_
    obtain ⟨f7, ef7, hF⟩ := pl_bd hF
    refine pl_astI C w hS ef7 dc_M_open_28 (fun H locs w hS => ?_)
    refine lv_aload_n hx hb dc_M_open_29 rfl (lv_at hl 1 rfl) ?_
    obtain ⟨v8, ev8, hF⟩ := pl_bd hF
    refine pl_getR C w (ci := 8) in_M rfl (by decide) 3 (by decide) mw_700 ev8 dc_M_open_30 ?_
    refine lv_iload_n hx hb dc_M_open_33 rfl (lv_at hl 0 rfl) ?_
    refine lv_lconst (v := 0) hx hb dc_M_open_34 (by decide) ?_
    obtain ⟨f9, ef9, hF⟩ := pl_bd hF
    refine pl_astL C w hS ef9 dc_M_open_35 (fun H locs w hS => ?_)
    refine lv_aload_n hx hb dc_M_open_36 rfl (lv_at hl 1 rfl) ?_
    refine lv_dup hx hb dc_M_open_37 rfl ?_
    obtain ⟨v10, ev10, hF⟩ := pl_bd hF
    refine pl_getI C w (ci := 8) in_M rfl (by decide) 0 (by decide) mw_697 ev10 dc_M_open_38 ?_
    refine lv_iconst (v := 1) hx hb dc_M_open_41 (by decide) ?_
    refine lv_iadd hx hb dc_M_open_42 ?_
    obtain ⟨f11, ef11, hF⟩ := pl_bd hF
    refine pl_put C w hS (ci := 8) in_M rfl (by decide) rty_M_ok rnm_M 0 (by decide) mw_697 rfl rfl rfl ef11 dc_M_open_43 (fun H locs w hS => ?_)
    exact tl_M_open_46 C hF w hS (lv_sub hl [0] rfl)
set_option maxHeartbeats 4000000 in
set_option maxRecDepth 100000 in
theorem tm_M_open (l : Launch) (D : va_G) (dA : Nat → ClassId) (tt : Nat → Nat) (b n : Nat) {f : pl_H} {a0 : Nat} {x1 : Int32} {r : Int32} {f' : pl_H} (hF : fn_M_open f a0 x1 = some (r, f')) : Met l my_M_open (Cond.code my_M_open co_M_open 3 (some .int) :: pl_tb) rm_M_open (va_Pc [.ref a0, .int x1] (pl_pre D dA tt b n f)) (pl_qI D dA tt b n f' r) 0 0 (pl_A b) := by
  refine Met.ofW (cc := co_M_open) (maxL := 3) (ret := (some .int)) (by decide) rfl ?_
  intro p e s m args below meth c s₁ B hml hv
  obtain ⟨rfl, w, hK⟩ := hv
  have C : pl_C p s m _ meth c co_M_open 3 rn_M (some .int) "open" D dA tt b := ⟨B.exec, B.bytes, hml, B.returns, findClass_of_methodNamed B.named, B.notSynchronized, fun w hw => atoms_spec (ws := Cond.code my_M_open co_M_open 3 (some .int) :: pl_tb) B.pre w (List.mem_cons_of_mem _ hw), (name_of_methodNamed B.named B.method).1, hK⟩
  have hl := lv_entry ([.ref a0, .int x1]) (n := 3) (Nat.le_of_ble_eq_true rfl)
  rw [lg_entry_eq]
  generalize (lg_sl ([.ref a0, .int x1]) ++ List.replicate (3 - (lg_sl ([.ref a0, .int x1])).length) Slot.unset).toArray = ls at hl ⊢
  have hl : lv_has ls 3 [(0, .ref a0), (1, .int x1)] := hl
  exact tl_M_open C hF w va_S.rf hl
def rm_M_collector : Room := { frames := 1, cells := 0, slots := 0, locals := 20 }
def fn_M_collector (f : pl_H) (a0 : Nat) (x1 : Int32) : Option (Int32 × pl_H) := (fn_M_isAccount f x1).bind fun v1 => if v1 = 0 then (pl_z 0).bind (fun z => some (z, f)) else (pl_pV f a0 8 4 (.int x1)).bind fun f2 => (pl_z 1).bind (fun z => some (z, f2))
set_option maxHeartbeats 4000000 in
set_option maxRecDepth 100000 in
theorem tl_M_collector {p : Program} {l : Launch} {e : Env} {s : State} {m : MethodId} {args : Array Value} {below : List Frame} {meth : Method} {c : Code} {D : va_G} {dA : Nat → ClassId} {tt : Nat → Nat} {b n : Nat} (C : pl_C p s m args meth c co_M_collector 2 rn_M (some .boolean) "collector" D dA tt b) {r : Int32} {f' : pl_H} {f : pl_H} {a0 : Nat} {x1 : Int32} {H : Heap} {locs : List Loc} {ls : Array Slot} (hF : fn_M_collector f a0 x1 = some (r, f')) (w : pl_wd D vwCl dA b n f H) (hS : va_S (pl_A b) s.heap H locs) (hl : lv_has ls 2 [(0, .ref a0), (1, .int x1)]) : W p l e rm_M_collector s m args below meth c H locs 0 0 (MQ below (pl_qI D dA tt b n f' r) args s 0 0 (pl_A b)) (F0 m 0 ls []) := by
  have hx := C.1
  have hb := C.2.1
  have hown := C.2.2.2.2.1
  have hts := C.2.2.2.2.2.2.1
  unfold fn_M_collector at hF
  refine lv_iload_n hx hb dc_M_collector_0 rfl (lv_at hl 1 rfl) ?_
  obtain ⟨v1, ev1, hF⟩ := pl_bd hF
  refine pl_gi (pl_runS (k := 1) C (tm_M_isAccount l D dA tt b n ev1) w hS rfl rfl mw_805 mw_806 mw_72 mw_807 (by decide +kernel) ⟨by decide, by decide⟩ rfl hl.1 (Nat.le_of_ble_eq_true rfl) ⟨Nat.zero_le _, Nat.zero_le _⟩ rfl dc_M_collector_1) hS (fun H locs w hS => ?_)
  refine lv_if_ne hx hb dc_M_collector_4 (tgt := 9) (by decide) (fun hc => ?_) (fun hc => ?_)
  · have hF := (if_neg hc).symm.trans hF
    refine lv_aload_n hx hb dc_M_collector_9 rfl (lv_at hl 0 rfl) ?_
    refine lv_iload_n hx hb dc_M_collector_10 rfl (lv_at hl 1 rfl) ?_
    obtain ⟨f2, ef2, hF⟩ := pl_bd hF
    refine pl_put C w hS (ci := 8) in_M rfl (by decide) rty_M_ok rnm_M 4 (by decide) mw_701 rfl rfl rfl ef2 dc_M_collector_11 (fun H locs w hS => ?_)
    refine lv_iconst (v := 1) hx hb dc_M_collector_14 (by decide) ?_
    exact pl_retZw C w hS hF dc_M_collector_15
  · have hF := (if_pos hc).symm.trans hF
    refine lv_iconst (v := 0) hx hb dc_M_collector_7 (by decide) ?_
    exact pl_retZw C w hS hF dc_M_collector_8
set_option maxHeartbeats 4000000 in
set_option maxRecDepth 100000 in
theorem tm_M_collector (l : Launch) (D : va_G) (dA : Nat → ClassId) (tt : Nat → Nat) (b n : Nat) {f : pl_H} {a0 : Nat} {x1 : Int32} {r : Int32} {f' : pl_H} (hF : fn_M_collector f a0 x1 = some (r, f')) : Met l my_M_collector (Cond.code my_M_collector co_M_collector 2 (some .boolean) :: pl_tb) rm_M_collector (va_Pc [.ref a0, .int x1] (pl_pre D dA tt b n f)) (pl_qI D dA tt b n f' r) 0 0 (pl_A b) := by
  refine Met.ofW (cc := co_M_collector) (maxL := 2) (ret := (some .boolean)) (by decide) rfl ?_
  intro p e s m args below meth c s₁ B hml hv
  obtain ⟨rfl, w, hK⟩ := hv
  have C : pl_C p s m _ meth c co_M_collector 2 rn_M (some .boolean) "collector" D dA tt b := ⟨B.exec, B.bytes, hml, B.returns, findClass_of_methodNamed B.named, B.notSynchronized, fun w hw => atoms_spec (ws := Cond.code my_M_collector co_M_collector 2 (some .boolean) :: pl_tb) B.pre w (List.mem_cons_of_mem _ hw), (name_of_methodNamed B.named B.method).1, hK⟩
  have hl := lv_entry ([.ref a0, .int x1]) (n := 2) (Nat.le_of_ble_eq_true rfl)
  rw [lg_entry_eq]
  generalize (lg_sl ([.ref a0, .int x1]) ++ List.replicate (2 - (lg_sl ([.ref a0, .int x1])).length) Slot.unset).toArray = ls at hl ⊢
  have hl : lv_has ls 2 [(0, .ref a0), (1, .int x1)] := hl
  exact tl_M_collector C hF w va_S.rf hl
def rm_M_grant : Room := { frames := 2, cells := 0, slots := 0, locals := 45 }
def fn_M_grant_43 (f : pl_H) (a0 : Nat) (x1 : Int32) (y2 : Int64) : Option (Int32 × pl_H) := (pl_is f a0 8).bind fun u2 => (fn_M_open f a0 x1).bind fun q1 => (pl_gR q1.2 a0 8 3).bind fun v3 => (pl_gR q1.2 a0 8 3).bind fun v4 => (pl_aL q1.2 v4 q1.1).bind fun v5 => (pl_sL q1.2 v3 q1.1 (v5 + y2)).bind fun f6 => (pl_pV f6 a0 8 5 (.int 0)).bind fun f7 => (pl_gI f7 a0 8 0).bind fun v8 => some (v8, f7)
def fn_M_grant_21 (f : pl_H) : Option (Int32 × pl_H) := some ((-1), f)
def fn_M_grant (f : pl_H) (a0 : Nat) (x1 : Int32) (y2 : Int64) : Option (Int32 × pl_H) := (fn_M_isAccount f x1).bind fun v1 => if v1 = 0 then fn_M_grant_21 f else if (lg_cmp y2 1) < 0 then fn_M_grant_21 f else if (lg_cmp y2 1000000000000) ≤ 0 then (pl_is f a0 8).bind fun u3 => (fn_M_find f a0 x1).bind fun v2 => if 0 ≤ v2 then fn_M_grant_43 f a0 x1 y2 else (pl_gI f a0 8 0).bind fun v4 => if v4 = 12 then some ((-4), f) else fn_M_grant_43 f a0 x1 y2 else fn_M_grant_21 f
set_option maxHeartbeats 4000000 in
set_option maxRecDepth 100000 in
theorem tl_M_grant_43 {p : Program} {l : Launch} {e : Env} {s : State} {m : MethodId} {args : Array Value} {below : List Frame} {meth : Method} {c : Code} {D : va_G} {dA : Nat → ClassId} {tt : Nat → Nat} {b n : Nat} (C : pl_C p s m args meth c co_M_grant 5 rn_M (some .int) "grant" D dA tt b) {r : Int32} {f' : pl_H} {f : pl_H} {a0 : Nat} {x1 : Int32} {y2 : Int64} {H : Heap} {locs : List Loc} {ls : Array Slot} (hF : fn_M_grant_43 f a0 x1 y2 = some (r, f')) (w : pl_wd D vwCl dA b n f H) (hS : va_S (pl_A b) s.heap H locs) (hl : lv_has ls 5 [(0, .ref a0), (1, .int x1), (2, .long y2)]) : W p l e rm_M_grant s m args below meth c H locs 0 0 (MQ below (pl_qI D dA tt b n f' r) args s 0 0 (pl_A b)) (F0 m 43 ls []) := by
  have hx := C.1
  have hb := C.2.1
  have hown := C.2.2.2.2.1
  have hts := C.2.2.2.2.2.2.1
  unfold fn_M_grant_43 at hF
  refine lv_aload_n hx hb dc_M_grant_43 rfl (lv_at hl 0 rfl) ?_
  refine lv_iload_n hx hb dc_M_grant_44 rfl (lv_at hl 1 rfl) ?_
  obtain ⟨u2, eu2, hF⟩ := pl_bd hF
  obtain ⟨q1, eq1, hF⟩ := pl_bd hF
  refine pl_gi (pl_runV (Cn := rn_M) (k := 1) C (tm_M_open l D dA tt b n eq1) w hS rfl rfl mw_818 mw_820 mw_33 mw_72 mw_821 (by decide +kernel) ⟨by decide, by decide⟩ eu2 rfl (by decide) rfl hl.1 (Nat.le_of_ble_eq_true rfl) ⟨Nat.zero_le _, Nat.zero_le _⟩ rfl dc_M_grant_45) hS (fun H locs w hS => ?_)
  refine lv_istore (lv' := [(4, .int q1.1), (0, .ref a0), (1, .int x1), (2, .long y2)]) hx hb dc_M_grant_48 hl (by decide) rfl (fun ls hl => ?_)
  refine lv_aload_n hx hb dc_M_grant_50 rfl (lv_at hl 1 rfl) ?_
  obtain ⟨v3, ev3, hF⟩ := pl_bd hF
  refine pl_getR C w (ci := 8) in_M rfl (by decide) 3 (by decide) mw_700 ev3 dc_M_grant_51 ?_
  refine lv_iload hx hb dc_M_grant_54 (lv_at hl 0 rfl) ?_
  refine lv_aload_n hx hb dc_M_grant_56 rfl (lv_at hl 1 rfl) ?_
  obtain ⟨v4, ev4, hF⟩ := pl_bd hF
  refine pl_getR C w (ci := 8) in_M rfl (by decide) 3 (by decide) mw_700 ev4 dc_M_grant_57 ?_
  refine lv_iload hx hb dc_M_grant_60 (lv_at hl 0 rfl) ?_
  obtain ⟨v5, ev5, hF⟩ := pl_bd hF
  refine pl_aldL C w ev5 dc_M_grant_62 ?_
  refine lv_lload_n hx hb dc_M_grant_63 rfl (lv_at hl 3 rfl) ?_
  refine lv_ladd hx hb dc_M_grant_64 ?_
  obtain ⟨f6, ef6, hF⟩ := pl_bd hF
  refine pl_astL C w hS ef6 dc_M_grant_65 (fun H locs w hS => ?_)
  refine lv_aload_n hx hb dc_M_grant_66 rfl (lv_at hl 1 rfl) ?_
  refine lv_iconst (v := 0) hx hb dc_M_grant_67 (by decide) ?_
  obtain ⟨f7, ef7, hF⟩ := pl_bd hF
  refine pl_put C w hS (ci := 8) in_M rfl (by decide) rty_M_ok rnm_M 5 (by decide) mw_702 rfl rfl rfl ef7 dc_M_grant_68 (fun H locs w hS => ?_)
  refine lv_aload_n hx hb dc_M_grant_71 rfl (lv_at hl 1 rfl) ?_
  obtain ⟨v8, ev8, hF⟩ := pl_bd hF
  refine pl_getI C w (ci := 8) in_M rfl (by decide) 0 (by decide) mw_697 ev8 dc_M_grant_72 ?_
  exact pl_retIw C w hS hF dc_M_grant_75
set_option maxHeartbeats 4000000 in
set_option maxRecDepth 100000 in
theorem tl_M_grant_21 {p : Program} {l : Launch} {e : Env} {s : State} {m : MethodId} {args : Array Value} {below : List Frame} {meth : Method} {c : Code} {D : va_G} {dA : Nat → ClassId} {tt : Nat → Nat} {b n : Nat} (C : pl_C p s m args meth c co_M_grant 5 rn_M (some .int) "grant" D dA tt b) {r : Int32} {f' : pl_H} {f : pl_H} {H : Heap} {locs : List Loc} {ls : Array Slot} (hF : fn_M_grant_21 f = some (r, f')) (w : pl_wd D vwCl dA b n f H) (hS : va_S (pl_A b) s.heap H locs) (hl : lv_has ls 5 []) : W p l e rm_M_grant s m args below meth c H locs 0 0 (MQ below (pl_qI D dA tt b n f' r) args s 0 0 (pl_A b)) (F0 m 21 ls []) := by
  have hx := C.1
  have hb := C.2.1
  have hown := C.2.2.2.2.1
  have hts := C.2.2.2.2.2.2.1
  unfold fn_M_grant_21 at hF
  refine lv_iconst (v := (-1)) hx hb dc_M_grant_21 (by decide) ?_
  exact pl_retIw C w hS hF dc_M_grant_22
set_option maxHeartbeats 4000000 in
set_option maxRecDepth 100000 in
theorem tl_M_grant {p : Program} {l : Launch} {e : Env} {s : State} {m : MethodId} {args : Array Value} {below : List Frame} {meth : Method} {c : Code} {D : va_G} {dA : Nat → ClassId} {tt : Nat → Nat} {b n : Nat} (C : pl_C p s m args meth c co_M_grant 5 rn_M (some .int) "grant" D dA tt b) {r : Int32} {f' : pl_H} {f : pl_H} {a0 : Nat} {x1 : Int32} {y2 : Int64} {H : Heap} {locs : List Loc} {ls : Array Slot} (hF : fn_M_grant f a0 x1 y2 = some (r, f')) (w : pl_wd D vwCl dA b n f H) (hS : va_S (pl_A b) s.heap H locs) (hl : lv_has ls 5 [(0, .ref a0), (1, .int x1), (2, .long y2)]) : W p l e rm_M_grant s m args below meth c H locs 0 0 (MQ below (pl_qI D dA tt b n f' r) args s 0 0 (pl_A b)) (F0 m 0 ls []) := by
  have hx := C.1
  have hb := C.2.1
  have hown := C.2.2.2.2.1
  have hts := C.2.2.2.2.2.2.1
  unfold fn_M_grant at hF
  refine lv_iload_n hx hb dc_M_grant_0 rfl (lv_at hl 1 rfl) ?_
  obtain ⟨v1, ev1, hF⟩ := pl_bd hF
  refine pl_gi (pl_runS (k := 1) C (tm_M_isAccount l D dA tt b n ev1) w hS rfl rfl mw_805 mw_806 mw_72 mw_807 (by decide +kernel) ⟨by decide, by decide⟩ rfl hl.1 (Nat.le_of_ble_eq_true rfl) ⟨Nat.zero_le _, Nat.zero_le _⟩ rfl dc_M_grant_1) hS (fun H locs w hS => ?_)
  refine lv_if_eq hx hb dc_M_grant_4 (tgt := 21) (by decide) (fun hc => ?_) (fun hc => ?_)
  · have hF := (if_pos hc).symm.trans hF
    exact tl_M_grant_21 C hF w hS (lv_sub hl [] rfl)
  · have hF := (if_neg hc).symm.trans hF
    refine lv_lload_n hx hb dc_M_grant_7 rfl (lv_at hl 2 rfl) ?_
    refine lv_lconst (v := 1) hx hb dc_M_grant_8 (by decide) ?_
    refine W.lcmp hx hb dc_M_grant_9 ?_
    refine lv_if_lt hx hb dc_M_grant_10 (tgt := 21) (by decide) (fun hc => ?_) (fun hc => ?_)
    · have hF := (if_pos hc).symm.trans hF
      exact tl_M_grant_21 C hF w hS (lv_sub hl [] rfl)
    · have hF := (if_neg hc).symm.trans hF
      refine lv_lload_n hx hb dc_M_grant_13 rfl (lv_at hl 2 rfl) ?_
      refine lv_ldc2 (v := 1000000000000) hx hb hown (hts _ mw_813) dc_M_grant_14 ?_
      refine W.lcmp hx hb dc_M_grant_17 ?_
      refine lv_if_le hx hb dc_M_grant_18 (tgt := 23) (by decide) (fun hc => ?_) (fun hc => ?_)
      · have hF := (if_pos hc).symm.trans hF
        refine lv_aload_n hx hb dc_M_grant_23 rfl (lv_at hl 0 rfl) ?_
        refine lv_iload_n hx hb dc_M_grant_24 rfl (lv_at hl 1 rfl) ?_
        obtain ⟨u3, eu3, hF⟩ := pl_bd hF
        obtain ⟨v2, ev2, hF⟩ := pl_bd hF
        refine pl_gi (pl_runV (Cn := rn_M) (k := 1) C (tm_M_find l D dA tt b n ev2) w hS rfl rfl mw_814 mw_816 mw_32 mw_72 mw_817 (by decide +kernel) ⟨by decide, by decide⟩ eu3 rfl (by decide) rfl hl.1 (Nat.le_of_ble_eq_true rfl) ⟨Nat.zero_le _, Nat.zero_le _⟩ rfl dc_M_grant_25) hS (fun H locs w hS => ?_)
        refine lv_if_ge hx hb dc_M_grant_28 (tgt := 43) (by decide) (fun hc => ?_) (fun hc => ?_)
        · have hF := (if_pos hc).symm.trans hF
          exact tl_M_grant_43 C hF w hS (lv_sub hl [0, 1, 2] rfl)
        · have hF := (if_neg hc).symm.trans hF
          refine lv_aload_n hx hb dc_M_grant_31 rfl (lv_at hl 0 rfl) ?_
          obtain ⟨v4, ev4, hF⟩ := pl_bd hF
          refine pl_getI C w (ci := 8) in_M rfl (by decide) 0 (by decide) mw_697 ev4 dc_M_grant_32 ?_
          refine lv_bipush (v := 12) hx hb dc_M_grant_35 (by decide) ?_
          refine lv_icmp_ne hx hb dc_M_grant_37 (tgt := 43) (by decide) (fun hc => ?_) (fun hc => ?_)
          · have hF := (if_neg hc).symm.trans hF
            exact tl_M_grant_43 C hF w hS (lv_sub hl [0, 1, 2] rfl)
          · have hF := (if_pos hc).symm.trans hF
            refine lv_bipush (v := (-4)) hx hb dc_M_grant_40 (by decide) ?_
            exact pl_retIw C w hS hF dc_M_grant_42
      · have hF := (if_neg hc).symm.trans hF
        exact tl_M_grant_21 C hF w hS (lv_sub hl [] rfl)
set_option maxHeartbeats 4000000 in
set_option maxRecDepth 100000 in
theorem tm_M_grant (l : Launch) (D : va_G) (dA : Nat → ClassId) (tt : Nat → Nat) (b n : Nat) {f : pl_H} {a0 : Nat} {x1 : Int32} {y2 : Int64} {r : Int32} {f' : pl_H} (hF : fn_M_grant f a0 x1 y2 = some (r, f')) : Met l my_M_grant (Cond.code my_M_grant co_M_grant 5 (some .int) :: pl_tb) rm_M_grant (va_Pc [.ref a0, .int x1, .long y2] (pl_pre D dA tt b n f)) (pl_qI D dA tt b n f' r) 0 0 (pl_A b) := by
  refine Met.ofW (cc := co_M_grant) (maxL := 5) (ret := (some .int)) (by decide) rfl ?_
  intro p e s m args below meth c s₁ B hml hv
  obtain ⟨rfl, w, hK⟩ := hv
  have C : pl_C p s m _ meth c co_M_grant 5 rn_M (some .int) "grant" D dA tt b := ⟨B.exec, B.bytes, hml, B.returns, findClass_of_methodNamed B.named, B.notSynchronized, fun w hw => atoms_spec (ws := Cond.code my_M_grant co_M_grant 5 (some .int) :: pl_tb) B.pre w (List.mem_cons_of_mem _ hw), (name_of_methodNamed B.named B.method).1, hK⟩
  have hl := lv_entry ([.ref a0, .int x1, .long y2]) (n := 5) (Nat.le_of_ble_eq_true rfl)
  rw [lg_entry_eq]
  generalize (lg_sl ([.ref a0, .int x1, .long y2]) ++ List.replicate (5 - (lg_sl ([.ref a0, .int x1, .long y2])).length) Slot.unset).toArray = ls at hl ⊢
  have hl : lv_has ls 5 [(0, .ref a0), (1, .int x1), (2, .long y2)] := hl
  exact tl_M_grant C hF w va_S.rf hl
def rm_M_isAmount : Room := { frames := 0, cells := 0, slots := 0, locals := 0 }
def fn_M_isAmount_19 (f : pl_H) (sx0 : Int32) : Option (Int32) := pl_z sx0
def fn_M_isAmount_18 (f : pl_H) : Option (Int32) := fn_M_isAmount_19 f 0
def fn_M_isAmount (f : pl_H) (y0 : Int64) : Option (Int32) := if (lg_cmp y0 0) < 0 then fn_M_isAmount_18 f else if 0 < (lg_cmp y0 1000000000000) then fn_M_isAmount_18 f else fn_M_isAmount_19 f 1
set_option maxHeartbeats 4000000 in
set_option maxRecDepth 100000 in
theorem tl_M_isAmount_19 {p : Program} {l : Launch} {e : Env} {s : State} {m : MethodId} {args : Array Value} {below : List Frame} {meth : Method} {c : Code} {D : va_G} {dA : Nat → ClassId} {tt : Nat → Nat} {b n : Nat} (C : pl_C p s m args meth c co_M_isAmount 2 rn_M (some .boolean) "isAmount" D dA tt b) {r : Int32} {f : pl_H} {sx0 : Int32} {H : Heap} {locs : List Loc} {ls : Array Slot} (hF : fn_M_isAmount_19 f sx0 = some r) (w : pl_wd D vwCl dA b n f H) (hS : va_S (pl_A b) s.heap H locs) (hl : lv_has ls 2 []) : W p l e rm_M_isAmount s m args below meth c H locs 0 0 (MQ below (pl_qI D dA tt b n f r) args s 0 0 (pl_A b)) (F0 m 19 ls [.int sx0]) := by
  have hx := C.1
  have hb := C.2.1
  have hown := C.2.2.2.2.1
  have hts := C.2.2.2.2.2.2.1
  unfold fn_M_isAmount_19 at hF
  exact pl_retZ C w hS hF dc_M_isAmount_19
set_option maxHeartbeats 4000000 in
set_option maxRecDepth 100000 in
theorem tl_M_isAmount_18 {p : Program} {l : Launch} {e : Env} {s : State} {m : MethodId} {args : Array Value} {below : List Frame} {meth : Method} {c : Code} {D : va_G} {dA : Nat → ClassId} {tt : Nat → Nat} {b n : Nat} (C : pl_C p s m args meth c co_M_isAmount 2 rn_M (some .boolean) "isAmount" D dA tt b) {r : Int32} {f : pl_H} {H : Heap} {locs : List Loc} {ls : Array Slot} (hF : fn_M_isAmount_18 f = some r) (w : pl_wd D vwCl dA b n f H) (hS : va_S (pl_A b) s.heap H locs) (hl : lv_has ls 2 []) : W p l e rm_M_isAmount s m args below meth c H locs 0 0 (MQ below (pl_qI D dA tt b n f r) args s 0 0 (pl_A b)) (F0 m 18 ls []) := by
  have hx := C.1
  have hb := C.2.1
  have hown := C.2.2.2.2.1
  have hts := C.2.2.2.2.2.2.1
  unfold fn_M_isAmount_18 at hF
  refine lv_iconst (v := 0) hx hb dc_M_isAmount_18 (by decide) ?_
  exact tl_M_isAmount_19 C hF w hS (lv_sub hl [] rfl)
set_option maxHeartbeats 4000000 in
set_option maxRecDepth 100000 in
theorem tl_M_isAmount {p : Program} {l : Launch} {e : Env} {s : State} {m : MethodId} {args : Array Value} {below : List Frame} {meth : Method} {c : Code} {D : va_G} {dA : Nat → ClassId} {tt : Nat → Nat} {b n : Nat} (C : pl_C p s m args meth c co_M_isAmount 2 rn_M (some .boolean) "isAmount" D dA tt b) {r : Int32} {f : pl_H} {y0 : Int64} {H : Heap} {locs : List Loc} {ls : Array Slot} (hF : fn_M_isAmount f y0 = some r) (w : pl_wd D vwCl dA b n f H) (hS : va_S (pl_A b) s.heap H locs) (hl : lv_has ls 2 [(0, .long y0)]) : W p l e rm_M_isAmount s m args below meth c H locs 0 0 (MQ below (pl_qI D dA tt b n f r) args s 0 0 (pl_A b)) (F0 m 0 ls []) := by
  have hx := C.1
  have hb := C.2.1
  have hown := C.2.2.2.2.1
  have hts := C.2.2.2.2.2.2.1
  unfold fn_M_isAmount at hF
  refine lv_lload_n hx hb dc_M_isAmount_0 rfl (lv_at hl 0 rfl) ?_
  refine lv_lconst (v := 0) hx hb dc_M_isAmount_1 (by decide) ?_
  refine W.lcmp hx hb dc_M_isAmount_2 ?_
  refine lv_if_lt hx hb dc_M_isAmount_3 (tgt := 18) (by decide) (fun hc => ?_) (fun hc => ?_)
  · have hF := (if_pos hc).symm.trans hF
    exact tl_M_isAmount_18 C hF w hS (lv_sub hl [] rfl)
  · have hF := (if_neg hc).symm.trans hF
    refine lv_lload_n hx hb dc_M_isAmount_6 rfl (lv_at hl 0 rfl) ?_
    refine lv_ldc2 (v := 1000000000000) hx hb hown (hts _ mw_813) dc_M_isAmount_7 ?_
    refine W.lcmp hx hb dc_M_isAmount_10 ?_
    refine lv_if_gt hx hb dc_M_isAmount_11 (tgt := 18) (by decide) (fun hc => ?_) (fun hc => ?_)
    · have hF := (if_pos hc).symm.trans hF
      exact tl_M_isAmount_18 C hF w hS (lv_sub hl [] rfl)
    · have hF := (if_neg hc).symm.trans hF
      refine lv_iconst (v := 1) hx hb dc_M_isAmount_14 (by decide) ?_
      refine lv_goto hx hb dc_M_isAmount_15 (tgt := 19) (by decide) ?_
      exact tl_M_isAmount_19 C hF w hS (lv_sub hl [] rfl)
set_option maxHeartbeats 4000000 in
set_option maxRecDepth 100000 in
theorem tm_M_isAmount (l : Launch) (D : va_G) (dA : Nat → ClassId) (tt : Nat → Nat) (b n : Nat) {f : pl_H} {y0 : Int64} {r : Int32} (hF : fn_M_isAmount f y0 = some r) : Met l my_M_isAmount (Cond.code my_M_isAmount co_M_isAmount 2 (some .boolean) :: pl_tb) rm_M_isAmount (va_Pc [.long y0] (pl_pre D dA tt b n f)) (pl_qI D dA tt b n f r) 0 0 (pl_A b) := by
  refine Met.ofW (cc := co_M_isAmount) (maxL := 2) (ret := (some .boolean)) (by decide) rfl ?_
  intro p e s m args below meth c s₁ B hml hv
  obtain ⟨rfl, w, hK⟩ := hv
  have C : pl_C p s m _ meth c co_M_isAmount 2 rn_M (some .boolean) "isAmount" D dA tt b := ⟨B.exec, B.bytes, hml, B.returns, findClass_of_methodNamed B.named, B.notSynchronized, fun w hw => atoms_spec (ws := Cond.code my_M_isAmount co_M_isAmount 2 (some .boolean) :: pl_tb) B.pre w (List.mem_cons_of_mem _ hw), (name_of_methodNamed B.named B.method).1, hK⟩
  have hl := lv_entry ([.long y0]) (n := 2) (Nat.le_of_ble_eq_true rfl)
  rw [lg_entry_eq]
  generalize (lg_sl ([.long y0]) ++ List.replicate (2 - (lg_sl ([.long y0])).length) Slot.unset).toArray = ls at hl ⊢
  have hl : lv_has ls 2 [(0, .long y0)] := hl
  exact tl_M_isAmount C hF w va_S.rf hl
def rm_M_nonce : Room := { frames := 1, cells := 0, slots := 0, locals := 23 }
def fn_M_nonce_20 (f : pl_H) (sx0 : Int32) : Option (Int32) := some sx0
def fn_M_nonce (f : pl_H) (a0 : Nat) (x1 : Int32) : Option (Int32) := (pl_is f a0 8).bind fun u2 => (fn_M_find f a0 x1).bind fun v1 => if 0 ≤ v1 then (pl_gR f a0 8 2).bind fun v3 => (pl_aI f v3 v1).bind fun v4 => fn_M_nonce_20 f v4 else fn_M_nonce_20 f 0
set_option maxHeartbeats 4000000 in
set_option maxRecDepth 100000 in
theorem tl_M_nonce_20 {p : Program} {l : Launch} {e : Env} {s : State} {m : MethodId} {args : Array Value} {below : List Frame} {meth : Method} {c : Code} {D : va_G} {dA : Nat → ClassId} {tt : Nat → Nat} {b n : Nat} (C : pl_C p s m args meth c co_M_nonce 3 rn_M (some .int) "nonce" D dA tt b) {r : Int32} {f : pl_H} {sx0 : Int32} {H : Heap} {locs : List Loc} {ls : Array Slot} (hF : fn_M_nonce_20 f sx0 = some r) (w : pl_wd D vwCl dA b n f H) (hS : va_S (pl_A b) s.heap H locs) (hl : lv_has ls 3 []) : W p l e rm_M_nonce s m args below meth c H locs 0 0 (MQ below (pl_qI D dA tt b n f r) args s 0 0 (pl_A b)) (F0 m 20 ls [.int sx0]) := by
  have hx := C.1
  have hb := C.2.1
  have hown := C.2.2.2.2.1
  have hts := C.2.2.2.2.2.2.1
  unfold fn_M_nonce_20 at hF
  exact pl_retI C w hS hF dc_M_nonce_20
set_option maxHeartbeats 4000000 in
set_option maxRecDepth 100000 in
theorem tl_M_nonce {p : Program} {l : Launch} {e : Env} {s : State} {m : MethodId} {args : Array Value} {below : List Frame} {meth : Method} {c : Code} {D : va_G} {dA : Nat → ClassId} {tt : Nat → Nat} {b n : Nat} (C : pl_C p s m args meth c co_M_nonce 3 rn_M (some .int) "nonce" D dA tt b) {r : Int32} {f : pl_H} {a0 : Nat} {x1 : Int32} {H : Heap} {locs : List Loc} {ls : Array Slot} (hF : fn_M_nonce f a0 x1 = some r) (w : pl_wd D vwCl dA b n f H) (hS : va_S (pl_A b) s.heap H locs) (hl : lv_has ls 3 [(0, .ref a0), (1, .int x1)]) : W p l e rm_M_nonce s m args below meth c H locs 0 0 (MQ below (pl_qI D dA tt b n f r) args s 0 0 (pl_A b)) (F0 m 0 ls []) := by
  have hx := C.1
  have hb := C.2.1
  have hown := C.2.2.2.2.1
  have hts := C.2.2.2.2.2.2.1
  unfold fn_M_nonce at hF
  refine lv_aload_n hx hb dc_M_nonce_0 rfl (lv_at hl 0 rfl) ?_
  refine lv_iload_n hx hb dc_M_nonce_1 rfl (lv_at hl 1 rfl) ?_
  obtain ⟨u2, eu2, hF⟩ := pl_bd hF
  obtain ⟨v1, ev1, hF⟩ := pl_bd hF
  refine pl_gi (pl_runV (Cn := rn_M) (k := 1) C (tm_M_find l D dA tt b n ev1) w hS rfl rfl mw_814 mw_816 mw_32 mw_72 mw_817 (by decide +kernel) ⟨by decide, by decide⟩ eu2 rfl (by decide) rfl hl.1 (Nat.le_of_ble_eq_true rfl) ⟨Nat.zero_le _, Nat.zero_le _⟩ rfl dc_M_nonce_2) hS (fun H locs w hS => ?_)
  refine lv_istore_n (lv' := [(2, .int v1), (0, .ref a0), (1, .int x1)]) hx hb dc_M_nonce_5 rfl hl (by decide) rfl (fun ls hl => ?_)
  refine lv_iload_n hx hb dc_M_nonce_6 rfl (lv_at hl 0 rfl) ?_
  refine lv_if_ge hx hb dc_M_nonce_7 (tgt := 14) (by decide) (fun hc => ?_) (fun hc => ?_)
  · have hF := (if_pos hc).symm.trans hF
    refine lv_aload_n hx hb dc_M_nonce_14 rfl (lv_at hl 1 rfl) ?_
    obtain ⟨v3, ev3, hF⟩ := pl_bd hF
    refine pl_getR C w (ci := 8) in_M rfl (by decide) 2 (by decide) mw_699 ev3 dc_M_nonce_15 ?_
    refine lv_iload_n hx hb dc_M_nonce_18 rfl (lv_at hl 0 rfl) ?_
    obtain ⟨v4, ev4, hF⟩ := pl_bd hF
    refine pl_aldI C w ev4 dc_M_nonce_19 ?_
    exact tl_M_nonce_20 C hF w hS (lv_sub hl [] rfl)
  · have hF := (if_neg hc).symm.trans hF
    refine lv_iconst (v := 0) hx hb dc_M_nonce_10 (by decide) ?_
    refine lv_goto hx hb dc_M_nonce_11 (tgt := 20) (by decide) ?_
    exact tl_M_nonce_20 C hF w hS (lv_sub hl [] rfl)
set_option maxHeartbeats 4000000 in
set_option maxRecDepth 100000 in
theorem tm_M_nonce (l : Launch) (D : va_G) (dA : Nat → ClassId) (tt : Nat → Nat) (b n : Nat) {f : pl_H} {a0 : Nat} {x1 : Int32} {r : Int32} (hF : fn_M_nonce f a0 x1 = some r) : Met l my_M_nonce (Cond.code my_M_nonce co_M_nonce 3 (some .int) :: pl_tb) rm_M_nonce (va_Pc [.ref a0, .int x1] (pl_pre D dA tt b n f)) (pl_qI D dA tt b n f r) 0 0 (pl_A b) := by
  refine Met.ofW (cc := co_M_nonce) (maxL := 3) (ret := (some .int)) (by decide) rfl ?_
  intro p e s m args below meth c s₁ B hml hv
  obtain ⟨rfl, w, hK⟩ := hv
  have C : pl_C p s m _ meth c co_M_nonce 3 rn_M (some .int) "nonce" D dA tt b := ⟨B.exec, B.bytes, hml, B.returns, findClass_of_methodNamed B.named, B.notSynchronized, fun w hw => atoms_spec (ws := Cond.code my_M_nonce co_M_nonce 3 (some .int) :: pl_tb) B.pre w (List.mem_cons_of_mem _ hw), (name_of_methodNamed B.named B.method).1, hK⟩
  have hl := lv_entry ([.ref a0, .int x1]) (n := 3) (Nat.le_of_ble_eq_true rfl)
  rw [lg_entry_eq]
  generalize (lg_sl ([.ref a0, .int x1]) ++ List.replicate (3 - (lg_sl ([.ref a0, .int x1])).length) Slot.unset).toArray = ls at hl ⊢
  have hl : lv_has ls 3 [(0, .ref a0), (1, .int x1)] := hl
  exact tl_M_nonce C hF w va_S.rf hl
def rm_M_balance : Room := { frames := 1, cells := 0, slots := 0, locals := 23 }
def fn_M_balance_20 (f : pl_H) (sy0 : Int64) : Option (Int64) := some sy0
def fn_M_balance (f : pl_H) (a0 : Nat) (x1 : Int32) : Option (Int64) := (pl_is f a0 8).bind fun u2 => (fn_M_find f a0 x1).bind fun v1 => if 0 ≤ v1 then (pl_gR f a0 8 3).bind fun v3 => (pl_aL f v3 v1).bind fun v4 => fn_M_balance_20 f v4 else fn_M_balance_20 f 0
set_option maxHeartbeats 4000000 in
set_option maxRecDepth 100000 in
theorem tl_M_balance_20 {p : Program} {l : Launch} {e : Env} {s : State} {m : MethodId} {args : Array Value} {below : List Frame} {meth : Method} {c : Code} {D : va_G} {dA : Nat → ClassId} {tt : Nat → Nat} {b n : Nat} (C : pl_C p s m args meth c co_M_balance 3 rn_M (some .long) "balance" D dA tt b) {r : Int64} {f : pl_H} {sy0 : Int64} {H : Heap} {locs : List Loc} {ls : Array Slot} (hF : fn_M_balance_20 f sy0 = some r) (w : pl_wd D vwCl dA b n f H) (hS : va_S (pl_A b) s.heap H locs) (hl : lv_has ls 3 []) : W p l e rm_M_balance s m args below meth c H locs 0 0 (MQ below (pl_qL D dA tt b n f r) args s 0 0 (pl_A b)) (F0 m 20 ls [.long sy0]) := by
  have hx := C.1
  have hb := C.2.1
  have hown := C.2.2.2.2.1
  have hts := C.2.2.2.2.2.2.1
  unfold fn_M_balance_20 at hF
  exact pl_retL C w hS hF dc_M_balance_20
set_option maxHeartbeats 4000000 in
set_option maxRecDepth 100000 in
theorem tl_M_balance {p : Program} {l : Launch} {e : Env} {s : State} {m : MethodId} {args : Array Value} {below : List Frame} {meth : Method} {c : Code} {D : va_G} {dA : Nat → ClassId} {tt : Nat → Nat} {b n : Nat} (C : pl_C p s m args meth c co_M_balance 3 rn_M (some .long) "balance" D dA tt b) {r : Int64} {f : pl_H} {a0 : Nat} {x1 : Int32} {H : Heap} {locs : List Loc} {ls : Array Slot} (hF : fn_M_balance f a0 x1 = some r) (w : pl_wd D vwCl dA b n f H) (hS : va_S (pl_A b) s.heap H locs) (hl : lv_has ls 3 [(0, .ref a0), (1, .int x1)]) : W p l e rm_M_balance s m args below meth c H locs 0 0 (MQ below (pl_qL D dA tt b n f r) args s 0 0 (pl_A b)) (F0 m 0 ls []) := by
  have hx := C.1
  have hb := C.2.1
  have hown := C.2.2.2.2.1
  have hts := C.2.2.2.2.2.2.1
  unfold fn_M_balance at hF
  refine lv_aload_n hx hb dc_M_balance_0 rfl (lv_at hl 0 rfl) ?_
  refine lv_iload_n hx hb dc_M_balance_1 rfl (lv_at hl 1 rfl) ?_
  obtain ⟨u2, eu2, hF⟩ := pl_bd hF
  obtain ⟨v1, ev1, hF⟩ := pl_bd hF
  refine pl_gi (pl_runV (Cn := rn_M) (k := 1) C (tm_M_find l D dA tt b n ev1) w hS rfl rfl mw_814 mw_816 mw_32 mw_72 mw_817 (by decide +kernel) ⟨by decide, by decide⟩ eu2 rfl (by decide) rfl hl.1 (Nat.le_of_ble_eq_true rfl) ⟨Nat.zero_le _, Nat.zero_le _⟩ rfl dc_M_balance_2) hS (fun H locs w hS => ?_)
  refine lv_istore_n (lv' := [(2, .int v1), (0, .ref a0), (1, .int x1)]) hx hb dc_M_balance_5 rfl hl (by decide) rfl (fun ls hl => ?_)
  refine lv_iload_n hx hb dc_M_balance_6 rfl (lv_at hl 0 rfl) ?_
  refine lv_if_ge hx hb dc_M_balance_7 (tgt := 14) (by decide) (fun hc => ?_) (fun hc => ?_)
  · have hF := (if_pos hc).symm.trans hF
    refine lv_aload_n hx hb dc_M_balance_14 rfl (lv_at hl 1 rfl) ?_
    obtain ⟨v3, ev3, hF⟩ := pl_bd hF
    refine pl_getR C w (ci := 8) in_M rfl (by decide) 3 (by decide) mw_700 ev3 dc_M_balance_15 ?_
    refine lv_iload_n hx hb dc_M_balance_18 rfl (lv_at hl 0 rfl) ?_
    obtain ⟨v4, ev4, hF⟩ := pl_bd hF
    refine pl_aldL C w ev4 dc_M_balance_19 ?_
    exact tl_M_balance_20 C hF w hS (lv_sub hl [] rfl)
  · have hF := (if_neg hc).symm.trans hF
    refine lv_lconst (v := 0) hx hb dc_M_balance_10 (by decide) ?_
    refine lv_goto hx hb dc_M_balance_11 (tgt := 20) (by decide) ?_
    exact tl_M_balance_20 C hF w hS (lv_sub hl [] rfl)
set_option maxHeartbeats 4000000 in
set_option maxRecDepth 100000 in
theorem tm_M_balance (l : Launch) (D : va_G) (dA : Nat → ClassId) (tt : Nat → Nat) (b n : Nat) {f : pl_H} {a0 : Nat} {x1 : Int32} {r : Int64} (hF : fn_M_balance f a0 x1 = some r) : Met l my_M_balance (Cond.code my_M_balance co_M_balance 3 (some .long) :: pl_tb) rm_M_balance (va_Pc [.ref a0, .int x1] (pl_pre D dA tt b n f)) (pl_qL D dA tt b n f r) 0 0 (pl_A b) := by
  refine Met.ofW (cc := co_M_balance) (maxL := 3) (ret := (some .long)) (by decide) rfl ?_
  intro p e s m args below meth c s₁ B hml hv
  obtain ⟨rfl, w, hK⟩ := hv
  have C : pl_C p s m _ meth c co_M_balance 3 rn_M (some .long) "balance" D dA tt b := ⟨B.exec, B.bytes, hml, B.returns, findClass_of_methodNamed B.named, B.notSynchronized, fun w hw => atoms_spec (ws := Cond.code my_M_balance co_M_balance 3 (some .long) :: pl_tb) B.pre w (List.mem_cons_of_mem _ hw), (name_of_methodNamed B.named B.method).1, hK⟩
  have hl := lv_entry ([.ref a0, .int x1]) (n := 3) (Nat.le_of_ble_eq_true rfl)
  rw [lg_entry_eq]
  generalize (lg_sl ([.ref a0, .int x1]) ++ List.replicate (3 - (lg_sl ([.ref a0, .int x1])).length) Slot.unset).toArray = ls at hl ⊢
  have hl : lv_has ls 3 [(0, .ref a0), (1, .int x1)] := hl
  exact tl_M_balance C hF w va_S.rf hl
def rm_M_send : Room := { frames := 2, cells := 0, slots := 0, locals := 45 }
def fn_M_send_288 (f : pl_H) (a0 : Nat) : Option (Int32 × pl_H) := (pl_pV f a0 8 5 (.int 0)).bind fun f1 => (pl_gI f1 a0 8 0).bind fun v2 => some (v2, f1)
def fn_M_send_254 (f : pl_H) (a0 : Nat) (y5 : Int64) : Option (Int32 × pl_H) := if (lg_cmp y5 0) ≤ 0 then fn_M_send_288 f a0 else (pl_gI f a0 8 4).bind fun v1 => (pl_is f a0 8).bind fun u3 => (fn_M_open f a0 v1).bind fun q2 => (pl_gR q2.2 a0 8 3).bind fun v4 => (pl_gR q2.2 a0 8 3).bind fun v5 => (pl_aL q2.2 v5 q2.1).bind fun v6 => (pl_sL q2.2 v4 q2.1 (v6 + y5)).bind fun f7 => fn_M_send_288 f7 a0
def fn_M_send_170 (f : pl_H) (a0 : Nat) (x1 : Int32) (x2 : Int32) (y3 : Int64) (y5 : Int64) (sx0 : Int32) (sx1 : Int32) : Option (Int32 × pl_H) := (pl_gI f a0 8 0).bind fun v1 => if (v1 + (sx1 + sx0)) ≤ 12 then (pl_is f a0 8).bind fun u3 => (fn_M_open f a0 x1).bind fun q2 => (pl_gR q2.2 a0 8 2).bind fun v4 => (pl_aI q2.2 v4 q2.1).bind fun v5 => (pl_sI q2.2 v4 q2.1 (v5 + 1)).bind fun f6 => (pl_gR f6 a0 8 3).bind fun v7 => (pl_gR f6 a0 8 3).bind fun v8 => (pl_aL f6 v8 q2.1).bind fun v9 => (pl_sL f6 v7 q2.1 ((v9 - y3) - y5)).bind fun f10 => if (lg_cmp y3 0) ≤ 0 then fn_M_send_254 f10 a0 y5 else (pl_is f10 a0 8).bind fun u12 => (fn_M_open f10 a0 x2).bind fun q11 => (pl_gR q11.2 a0 8 3).bind fun v13 => (pl_gR q11.2 a0 8 3).bind fun v14 => (pl_aL q11.2 v14 q11.1).bind fun v15 => (pl_sL q11.2 v13 q11.1 (v15 + y3)).bind fun f16 => fn_M_send_254 f16 a0 y5 else some ((-4), f)
def fn_M_send_159 (f : pl_H) (a0 : Nat) (x1 : Int32) (x2 : Int32) (y3 : Int64) (y5 : Int64) (x10 : Int32) (sx0 : Int32) (sx1 : Int32) : Option (Int32 × pl_H) := if x10 = 0 then fn_M_send_170 f a0 x1 x2 y3 y5 0 (sx1 + sx0) else fn_M_send_170 f a0 x1 x2 y3 y5 1 (sx1 + sx0)
def fn_M_send_145 (f : pl_H) (a0 : Nat) (x1 : Int32) (x2 : Int32) (y3 : Int64) (y5 : Int64) (x8 : Int32) (x9 : Int32) (sx0 : Int32) : Option (Int32 × pl_H) := if x9 = 0 then fn_M_send_159 f a0 x1 x2 y3 y5 sx0 0 x8 else fn_M_send_159 f a0 x1 x2 y3 y5 sx0 1 x8
def fn_M_send_144 (f : pl_H) (a0 : Nat) (x1 : Int32) (x2 : Int32) (y3 : Int64) (y5 : Int64) (x8 : Int32) (x9 : Int32) : Option (Int32 × pl_H) := fn_M_send_145 f a0 x1 x2 y3 y5 x8 x9 0
def fn_M_send_140 (f : pl_H) (a0 : Nat) (x1 : Int32) (x2 : Int32) (y3 : Int64) (y5 : Int64) (x8 : Int32) (x9 : Int32) : Option (Int32 × pl_H) := fn_M_send_145 f a0 x1 x2 y3 y5 x8 x9 1
def fn_M_send_99 (f : pl_H) (a0 : Nat) (x1 : Int32) (x2 : Int32) (y3 : Int64) (y5 : Int64) (x8 : Int32) (sx0 : Int32) : Option (Int32 × pl_H) := if (lg_cmp y5 0) ≤ 0 then fn_M_send_144 f a0 x1 x2 y3 y5 x8 sx0 else (pl_gI f a0 8 4).bind fun v1 => if v1 = x1 then fn_M_send_144 f a0 x1 x2 y3 y5 x8 sx0 else (pl_gI f a0 8 4).bind fun v2 => (pl_is f a0 8).bind fun u4 => (fn_M_find f a0 v2).bind fun v3 => if 0 ≤ v3 then fn_M_send_144 f a0 x1 x2 y3 y5 x8 sx0 else if sx0 = 0 then fn_M_send_140 f a0 x1 x2 y3 y5 x8 sx0 else (pl_gI f a0 8 4).bind fun v5 => if v5 = x2 then fn_M_send_144 f a0 x1 x2 y3 y5 x8 sx0 else fn_M_send_140 f a0 x1 x2 y3 y5 x8 sx0
def fn_M_send_98 (f : pl_H) (a0 : Nat) (x1 : Int32) (x2 : Int32) (y3 : Int64) (y5 : Int64) (x8 : Int32) : Option (Int32 × pl_H) := fn_M_send_99 f a0 x1 x2 y3 y5 x8 0
def fn_M_send_73 (f : pl_H) (a0 : Nat) (x1 : Int32) (x2 : Int32) (y3 : Int64) (y5 : Int64) (sx0 : Int32) : Option (Int32 × pl_H) := if (lg_cmp y3 0) ≤ 0 then fn_M_send_98 f a0 x1 x2 y3 y5 sx0 else if x2 = x1 then fn_M_send_98 f a0 x1 x2 y3 y5 sx0 else (pl_is f a0 8).bind fun u2 => (fn_M_find f a0 x2).bind fun v1 => if 0 ≤ v1 then fn_M_send_98 f a0 x1 x2 y3 y5 sx0 else fn_M_send_99 f a0 x1 x2 y3 y5 sx0 1
def fn_M_send_29 (f : pl_H) : Option (Int32 × pl_H) := some ((-1), f)
def fn_M_send (f : pl_H) (a0 : Nat) (x1 : Int32) (x2 : Int32) (y3 : Int64) (y5 : Int64) (x7 : Int32) : Option (Int32 × pl_H) := (fn_M_isAccount f x1).bind fun v1 => if v1 = 0 then fn_M_send_29 f else (fn_M_isAccount f x2).bind fun v2 => if v2 = 0 then fn_M_send_29 f else (fn_M_isAmount f y3).bind fun v3 => if v3 = 0 then fn_M_send_29 f else (fn_M_isAmount f y5).bind fun v4 => if v4 = 0 then fn_M_send_29 f else (pl_is f a0 8).bind fun u6 => (fn_M_nonce f a0 x1).bind fun v5 => if x7 = v5 then (pl_is f a0 8).bind fun u8 => (fn_M_balance f a0 x1).bind fun v7 => if (lg_cmp (y3 + y5) v7) ≤ 0 then (pl_is f a0 8).bind fun u10 => (fn_M_find f a0 x1).bind fun v9 => if 0 ≤ v9 then fn_M_send_73 f a0 x1 x2 y3 y5 0 else fn_M_send_73 f a0 x1 x2 y3 y5 1 else some ((-3), f) else some ((-2), f)
set_option maxHeartbeats 4000000 in
set_option maxRecDepth 100000 in
theorem tl_M_send_288 {p : Program} {l : Launch} {e : Env} {s : State} {m : MethodId} {args : Array Value} {below : List Frame} {meth : Method} {c : Code} {D : va_G} {dA : Nat → ClassId} {tt : Nat → Nat} {b n : Nat} (C : pl_C p s m args meth c co_M_send 13 rn_M (some .int) "send" D dA tt b) {r : Int32} {f' : pl_H} {f : pl_H} {a0 : Nat} {H : Heap} {locs : List Loc} {ls : Array Slot} (hF : fn_M_send_288 f a0 = some (r, f')) (w : pl_wd D vwCl dA b n f H) (hS : va_S (pl_A b) s.heap H locs) (hl : lv_has ls 13 [(0, .ref a0)]) : W p l e rm_M_send s m args below meth c H locs 0 0 (MQ below (pl_qI D dA tt b n f' r) args s 0 0 (pl_A b)) (F0 m 288 ls []) := by
  have hx := C.1
  have hb := C.2.1
  have hown := C.2.2.2.2.1
  have hts := C.2.2.2.2.2.2.1
  unfold fn_M_send_288 at hF
  refine lv_aload_n hx hb dc_M_send_288 rfl (lv_at hl 0 rfl) ?_
  refine lv_iconst (v := 0) hx hb dc_M_send_289 (by decide) ?_
  obtain ⟨f1, ef1, hF⟩ := pl_bd hF
  refine pl_put C w hS (ci := 8) in_M rfl (by decide) rty_M_ok rnm_M 5 (by decide) mw_702 rfl rfl rfl ef1 dc_M_send_290 (fun H locs w hS => ?_)
  refine lv_aload_n hx hb dc_M_send_293 rfl (lv_at hl 0 rfl) ?_
  obtain ⟨v2, ev2, hF⟩ := pl_bd hF
  refine pl_getI C w (ci := 8) in_M rfl (by decide) 0 (by decide) mw_697 ev2 dc_M_send_294 ?_
  exact pl_retIw C w hS hF dc_M_send_297
set_option maxHeartbeats 4000000 in
set_option maxRecDepth 100000 in
theorem tl_M_send_254 {p : Program} {l : Launch} {e : Env} {s : State} {m : MethodId} {args : Array Value} {below : List Frame} {meth : Method} {c : Code} {D : va_G} {dA : Nat → ClassId} {tt : Nat → Nat} {b n : Nat} (C : pl_C p s m args meth c co_M_send 13 rn_M (some .int) "send" D dA tt b) {r : Int32} {f' : pl_H} {f : pl_H} {a0 : Nat} {y5 : Int64} {H : Heap} {locs : List Loc} {ls : Array Slot} (hF : fn_M_send_254 f a0 y5 = some (r, f')) (w : pl_wd D vwCl dA b n f H) (hS : va_S (pl_A b) s.heap H locs) (hl : lv_has ls 13 [(0, .ref a0), (5, .long y5)]) : W p l e rm_M_send s m args below meth c H locs 0 0 (MQ below (pl_qI D dA tt b n f' r) args s 0 0 (pl_A b)) (F0 m 254 ls []) := by
  have hx := C.1
  have hb := C.2.1
  have hown := C.2.2.2.2.1
  have hts := C.2.2.2.2.2.2.1
  unfold fn_M_send_254 at hF
  refine lv_lload hx hb dc_M_send_254 (lv_at hl 1 rfl) ?_
  refine lv_lconst (v := 0) hx hb dc_M_send_256 (by decide) ?_
  refine W.lcmp hx hb dc_M_send_257 ?_
  refine lv_if_le hx hb dc_M_send_258 (tgt := 288) (by decide) (fun hc => ?_) (fun hc => ?_)
  · have hF := (if_pos hc).symm.trans hF
    exact tl_M_send_288 C hF w hS (lv_sub hl [0] rfl)
  · have hF := (if_neg hc).symm.trans hF
    refine lv_aload_n hx hb dc_M_send_261 rfl (lv_at hl 0 rfl) ?_
    refine lv_aload_n hx hb dc_M_send_262 rfl (lv_at hl 0 rfl) ?_
    obtain ⟨v1, ev1, hF⟩ := pl_bd hF
    refine pl_getI C w (ci := 8) in_M rfl (by decide) 4 (by decide) mw_701 ev1 dc_M_send_263 ?_
    obtain ⟨u3, eu3, hF⟩ := pl_bd hF
    obtain ⟨q2, eq2, hF⟩ := pl_bd hF
    refine pl_gi (pl_runV (Cn := rn_M) (k := 1) C (tm_M_open l D dA tt b n eq2) w hS rfl rfl mw_818 mw_820 mw_33 mw_72 mw_821 (by decide +kernel) ⟨by decide, by decide⟩ eu3 rfl (by decide) rfl hl.1 (Nat.le_of_ble_eq_true rfl) ⟨Nat.zero_le _, Nat.zero_le _⟩ rfl dc_M_send_266) hS (fun H locs w hS => ?_)
    refine lv_istore (lv' := [(12, .int q2.1), (0, .ref a0), (5, .long y5)]) hx hb dc_M_send_269 hl (by decide) rfl (fun ls hl => ?_)
    refine lv_aload_n hx hb dc_M_send_271 rfl (lv_at hl 1 rfl) ?_
    obtain ⟨v4, ev4, hF⟩ := pl_bd hF
    refine pl_getR C w (ci := 8) in_M rfl (by decide) 3 (by decide) mw_700 ev4 dc_M_send_272 ?_
    refine lv_iload hx hb dc_M_send_275 (lv_at hl 0 rfl) ?_
    refine lv_aload_n hx hb dc_M_send_277 rfl (lv_at hl 1 rfl) ?_
    obtain ⟨v5, ev5, hF⟩ := pl_bd hF
    refine pl_getR C w (ci := 8) in_M rfl (by decide) 3 (by decide) mw_700 ev5 dc_M_send_278 ?_
    refine lv_iload hx hb dc_M_send_281 (lv_at hl 0 rfl) ?_
    obtain ⟨v6, ev6, hF⟩ := pl_bd hF
    refine pl_aldL C w ev6 dc_M_send_283 ?_
    refine lv_lload hx hb dc_M_send_284 (lv_at hl 2 rfl) ?_
    refine lv_ladd hx hb dc_M_send_286 ?_
    obtain ⟨f7, ef7, hF⟩ := pl_bd hF
    refine pl_astL C w hS ef7 dc_M_send_287 (fun H locs w hS => ?_)
    exact tl_M_send_288 C hF w hS (lv_sub hl [1] rfl)
set_option maxHeartbeats 4000000 in
set_option maxRecDepth 100000 in
theorem tl_M_send_170 {p : Program} {l : Launch} {e : Env} {s : State} {m : MethodId} {args : Array Value} {below : List Frame} {meth : Method} {c : Code} {D : va_G} {dA : Nat → ClassId} {tt : Nat → Nat} {b n : Nat} (C : pl_C p s m args meth c co_M_send 13 rn_M (some .int) "send" D dA tt b) {r : Int32} {f' : pl_H} {f : pl_H} {a0 : Nat} {x1 : Int32} {x2 : Int32} {y3 : Int64} {y5 : Int64} {sx0 : Int32} {sx1 : Int32} {H : Heap} {locs : List Loc} {ls : Array Slot} (hF : fn_M_send_170 f a0 x1 x2 y3 y5 sx0 sx1 = some (r, f')) (w : pl_wd D vwCl dA b n f H) (hS : va_S (pl_A b) s.heap H locs) (hl : lv_has ls 13 [(0, .ref a0), (1, .int x1), (2, .int x2), (3, .long y3), (5, .long y5)]) : W p l e rm_M_send s m args below meth c H locs 0 0 (MQ below (pl_qI D dA tt b n f' r) args s 0 0 (pl_A b)) (F0 m 170 ls [.int sx0, .int sx1]) := by
  have hx := C.1
  have hb := C.2.1
  have hown := C.2.2.2.2.1
  have hts := C.2.2.2.2.2.2.1
  unfold fn_M_send_170 at hF
  refine lv_iadd hx hb dc_M_send_170 ?_
  refine lv_istore (lv' := [(8, .int (sx1 + sx0)), (0, .ref a0), (1, .int x1), (2, .int x2), (3, .long y3), (5, .long y5)]) hx hb dc_M_send_171 hl (by decide) rfl (fun ls hl => ?_)
  refine lv_aload_n hx hb dc_M_send_173 rfl (lv_at hl 1 rfl) ?_
  obtain ⟨v1, ev1, hF⟩ := pl_bd hF
  refine pl_getI C w (ci := 8) in_M rfl (by decide) 0 (by decide) mw_697 ev1 dc_M_send_174 ?_
  refine lv_iload hx hb dc_M_send_177 (lv_at hl 0 rfl) ?_
  refine lv_iadd hx hb dc_M_send_179 ?_
  refine lv_bipush (v := 12) hx hb dc_M_send_180 (by decide) ?_
  refine lv_icmp_le hx hb dc_M_send_182 (tgt := 188) (by decide) (fun hc => ?_) (fun hc => ?_)
  · have hF := (if_pos hc).symm.trans hF
    refine lv_aload_n hx hb dc_M_send_188 rfl (lv_at hl 1 rfl) ?_
    refine lv_iload_n hx hb dc_M_send_189 rfl (lv_at hl 2 rfl) ?_
    obtain ⟨u3, eu3, hF⟩ := pl_bd hF
    obtain ⟨q2, eq2, hF⟩ := pl_bd hF
    refine pl_gi (pl_runV (Cn := rn_M) (k := 1) C (tm_M_open l D dA tt b n eq2) w hS rfl rfl mw_818 mw_820 mw_33 mw_72 mw_821 (by decide +kernel) ⟨by decide, by decide⟩ eu3 rfl (by decide) rfl hl.1 (Nat.le_of_ble_eq_true rfl) ⟨Nat.zero_le _, Nat.zero_le _⟩ rfl dc_M_send_190) hS (fun H locs w hS => ?_)
    refine lv_istore (lv' := [(11, .int q2.1), (8, .int (sx1 + sx0)), (0, .ref a0), (1, .int x1), (2, .int x2), (3, .long y3), (5, .long y5)]) hx hb dc_M_send_193 hl (by decide) rfl (fun ls hl => ?_)
    refine lv_aload_n hx hb dc_M_send_195 rfl (lv_at hl 2 rfl) ?_
    obtain ⟨v4, ev4, hF⟩ := pl_bd hF
    refine pl_getR C w (ci := 8) in_M rfl (by decide) 2 (by decide) mw_699 ev4 dc_M_send_196 ?_
    refine lv_iload hx hb dc_M_send_199 (lv_at hl 0 rfl) ?_
    refine lv_dup2_11 hx hb dc_M_send_201 rfl rfl ?_
    obtain ⟨v5, ev5, hF⟩ := pl_bd hF
    refine pl_aldI C w ev5 dc_M_send_202 ?_
    refine lv_iconst (v := 1) hx hb dc_M_send_203 (by decide) ?_
    refine lv_iadd hx hb dc_M_send_204 ?_
    obtain ⟨f6, ef6, hF⟩ := pl_bd hF
    refine pl_astI C w hS ef6 dc_M_send_205 (fun H locs w hS => ?_)
    refine lv_aload_n hx hb dc_M_send_206 rfl (lv_at hl 2 rfl) ?_
    obtain ⟨v7, ev7, hF⟩ := pl_bd hF
    refine pl_getR C w (ci := 8) in_M rfl (by decide) 3 (by decide) mw_700 ev7 dc_M_send_207 ?_
    refine lv_iload hx hb dc_M_send_210 (lv_at hl 0 rfl) ?_
    refine lv_aload_n hx hb dc_M_send_212 rfl (lv_at hl 2 rfl) ?_
    obtain ⟨v8, ev8, hF⟩ := pl_bd hF
    refine pl_getR C w (ci := 8) in_M rfl (by decide) 3 (by decide) mw_700 ev8 dc_M_send_213 ?_
    refine lv_iload hx hb dc_M_send_216 (lv_at hl 0 rfl) ?_
    obtain ⟨v9, ev9, hF⟩ := pl_bd hF
    refine pl_aldL C w ev9 dc_M_send_218 ?_
    refine lv_lload_n hx hb dc_M_send_219 rfl (lv_at hl 5 rfl) ?_
    refine lv_lsub hx hb dc_M_send_220 ?_
    refine lv_lload hx hb dc_M_send_221 (lv_at hl 6 rfl) ?_
    refine lv_lsub hx hb dc_M_send_223 ?_
    obtain ⟨f10, ef10, hF⟩ := pl_bd hF
    refine pl_astL C w hS ef10 dc_M_send_224 (fun H locs w hS => ?_)
    refine lv_lload_n hx hb dc_M_send_225 rfl (lv_at hl 5 rfl) ?_
    refine lv_lconst (v := 0) hx hb dc_M_send_226 (by decide) ?_
    refine W.lcmp hx hb dc_M_send_227 ?_
    refine lv_if_le hx hb dc_M_send_228 (tgt := 254) (by decide) (fun hc => ?_) (fun hc => ?_)
    · have hF := (if_pos hc).symm.trans hF
      exact tl_M_send_254 C hF w hS (lv_sub hl [2, 6] rfl)
    · have hF := (if_neg hc).symm.trans hF
      refine lv_aload_n hx hb dc_M_send_231 rfl (lv_at hl 2 rfl) ?_
      refine lv_iload_n hx hb dc_M_send_232 rfl (lv_at hl 4 rfl) ?_
      obtain ⟨u12, eu12, hF⟩ := pl_bd hF
      obtain ⟨q11, eq11, hF⟩ := pl_bd hF
      refine pl_gi (pl_runV (Cn := rn_M) (k := 1) C (tm_M_open l D dA tt b n eq11) w hS rfl rfl mw_818 mw_820 mw_33 mw_72 mw_821 (by decide +kernel) ⟨by decide, by decide⟩ eu12 rfl (by decide) rfl hl.1 (Nat.le_of_ble_eq_true rfl) ⟨Nat.zero_le _, Nat.zero_le _⟩ rfl dc_M_send_233) hS (fun H locs w hS => ?_)
      refine lv_istore (lv' := [(12, .int q11.1), (11, .int q2.1), (8, .int (sx1 + sx0)), (0, .ref a0), (1, .int x1), (2, .int x2), (3, .long y3), (5, .long y5)]) hx hb dc_M_send_236 hl (by decide) rfl (fun ls hl => ?_)
      refine lv_aload_n hx hb dc_M_send_238 rfl (lv_at hl 3 rfl) ?_
      obtain ⟨v13, ev13, hF⟩ := pl_bd hF
      refine pl_getR C w (ci := 8) in_M rfl (by decide) 3 (by decide) mw_700 ev13 dc_M_send_239 ?_
      refine lv_iload hx hb dc_M_send_242 (lv_at hl 0 rfl) ?_
      refine lv_aload_n hx hb dc_M_send_244 rfl (lv_at hl 3 rfl) ?_
      obtain ⟨v14, ev14, hF⟩ := pl_bd hF
      refine pl_getR C w (ci := 8) in_M rfl (by decide) 3 (by decide) mw_700 ev14 dc_M_send_245 ?_
      refine lv_iload hx hb dc_M_send_248 (lv_at hl 0 rfl) ?_
      obtain ⟨v15, ev15, hF⟩ := pl_bd hF
      refine pl_aldL C w ev15 dc_M_send_250 ?_
      refine lv_lload_n hx hb dc_M_send_251 rfl (lv_at hl 6 rfl) ?_
      refine lv_ladd hx hb dc_M_send_252 ?_
      obtain ⟨f16, ef16, hF⟩ := pl_bd hF
      refine pl_astL C w hS ef16 dc_M_send_253 (fun H locs w hS => ?_)
      exact tl_M_send_254 C hF w hS (lv_sub hl [3, 7] rfl)
  · have hF := (if_neg hc).symm.trans hF
    refine lv_bipush (v := (-4)) hx hb dc_M_send_185 (by decide) ?_
    exact pl_retIw C w hS hF dc_M_send_187
set_option maxHeartbeats 4000000 in
set_option maxRecDepth 100000 in
theorem tl_M_send_159 {p : Program} {l : Launch} {e : Env} {s : State} {m : MethodId} {args : Array Value} {below : List Frame} {meth : Method} {c : Code} {D : va_G} {dA : Nat → ClassId} {tt : Nat → Nat} {b n : Nat} (C : pl_C p s m args meth c co_M_send 13 rn_M (some .int) "send" D dA tt b) {r : Int32} {f' : pl_H} {f : pl_H} {a0 : Nat} {x1 : Int32} {x2 : Int32} {y3 : Int64} {y5 : Int64} {x10 : Int32} {sx0 : Int32} {sx1 : Int32} {H : Heap} {locs : List Loc} {ls : Array Slot} (hF : fn_M_send_159 f a0 x1 x2 y3 y5 x10 sx0 sx1 = some (r, f')) (w : pl_wd D vwCl dA b n f H) (hS : va_S (pl_A b) s.heap H locs) (hl : lv_has ls 13 [(0, .ref a0), (1, .int x1), (2, .int x2), (3, .long y3), (5, .long y5), (10, .int x10)]) : W p l e rm_M_send s m args below meth c H locs 0 0 (MQ below (pl_qI D dA tt b n f' r) args s 0 0 (pl_A b)) (F0 m 159 ls [.int sx0, .int sx1]) := by
  have hx := C.1
  have hb := C.2.1
  have hown := C.2.2.2.2.1
  have hts := C.2.2.2.2.2.2.1
  unfold fn_M_send_159 at hF
  refine lv_iadd hx hb dc_M_send_159 ?_
  refine lv_iload hx hb dc_M_send_160 (lv_at hl 5 rfl) ?_
  refine lv_if_eq hx hb dc_M_send_162 (tgt := 169) (by decide) (fun hc => ?_) (fun hc => ?_)
  · have hF := (if_pos hc).symm.trans hF
    refine lv_iconst (v := 0) hx hb dc_M_send_169 (by decide) ?_
    exact tl_M_send_170 C hF w hS (lv_sub hl [0, 1, 2, 3, 4] rfl)
  · have hF := (if_neg hc).symm.trans hF
    refine lv_iconst (v := 1) hx hb dc_M_send_165 (by decide) ?_
    refine lv_goto hx hb dc_M_send_166 (tgt := 170) (by decide) ?_
    exact tl_M_send_170 C hF w hS (lv_sub hl [0, 1, 2, 3, 4] rfl)
set_option maxHeartbeats 4000000 in
set_option maxRecDepth 100000 in
theorem tl_M_send_145 {p : Program} {l : Launch} {e : Env} {s : State} {m : MethodId} {args : Array Value} {below : List Frame} {meth : Method} {c : Code} {D : va_G} {dA : Nat → ClassId} {tt : Nat → Nat} {b n : Nat} (C : pl_C p s m args meth c co_M_send 13 rn_M (some .int) "send" D dA tt b) {r : Int32} {f' : pl_H} {f : pl_H} {a0 : Nat} {x1 : Int32} {x2 : Int32} {y3 : Int64} {y5 : Int64} {x8 : Int32} {x9 : Int32} {sx0 : Int32} {H : Heap} {locs : List Loc} {ls : Array Slot} (hF : fn_M_send_145 f a0 x1 x2 y3 y5 x8 x9 sx0 = some (r, f')) (w : pl_wd D vwCl dA b n f H) (hS : va_S (pl_A b) s.heap H locs) (hl : lv_has ls 13 [(0, .ref a0), (1, .int x1), (2, .int x2), (3, .long y3), (5, .long y5), (8, .int x8), (9, .int x9)]) : W p l e rm_M_send s m args below meth c H locs 0 0 (MQ below (pl_qI D dA tt b n f' r) args s 0 0 (pl_A b)) (F0 m 145 ls [.int sx0]) := by
  have hx := C.1
  have hb := C.2.1
  have hown := C.2.2.2.2.1
  have hts := C.2.2.2.2.2.2.1
  unfold fn_M_send_145 at hF
  refine lv_istore (lv' := [(10, .int sx0), (0, .ref a0), (1, .int x1), (2, .int x2), (3, .long y3), (5, .long y5), (8, .int x8), (9, .int x9)]) hx hb dc_M_send_145 hl (by decide) rfl (fun ls hl => ?_)
  refine lv_iload hx hb dc_M_send_147 (lv_at hl 6 rfl) ?_
  refine lv_iload hx hb dc_M_send_149 (lv_at hl 7 rfl) ?_
  refine lv_if_eq hx hb dc_M_send_151 (tgt := 158) (by decide) (fun hc => ?_) (fun hc => ?_)
  · have hF := (if_pos hc).symm.trans hF
    refine lv_iconst (v := 0) hx hb dc_M_send_158 (by decide) ?_
    exact tl_M_send_159 C hF w hS (lv_sub hl [1, 2, 3, 4, 5, 0] rfl)
  · have hF := (if_neg hc).symm.trans hF
    refine lv_iconst (v := 1) hx hb dc_M_send_154 (by decide) ?_
    refine lv_goto hx hb dc_M_send_155 (tgt := 159) (by decide) ?_
    exact tl_M_send_159 C hF w hS (lv_sub hl [1, 2, 3, 4, 5, 0] rfl)
set_option maxHeartbeats 4000000 in
set_option maxRecDepth 100000 in
theorem tl_M_send_144 {p : Program} {l : Launch} {e : Env} {s : State} {m : MethodId} {args : Array Value} {below : List Frame} {meth : Method} {c : Code} {D : va_G} {dA : Nat → ClassId} {tt : Nat → Nat} {b n : Nat} (C : pl_C p s m args meth c co_M_send 13 rn_M (some .int) "send" D dA tt b) {r : Int32} {f' : pl_H} {f : pl_H} {a0 : Nat} {x1 : Int32} {x2 : Int32} {y3 : Int64} {y5 : Int64} {x8 : Int32} {x9 : Int32} {H : Heap} {locs : List Loc} {ls : Array Slot} (hF : fn_M_send_144 f a0 x1 x2 y3 y5 x8 x9 = some (r, f')) (w : pl_wd D vwCl dA b n f H) (hS : va_S (pl_A b) s.heap H locs) (hl : lv_has ls 13 [(0, .ref a0), (1, .int x1), (2, .int x2), (3, .long y3), (5, .long y5), (8, .int x8), (9, .int x9)]) : W p l e rm_M_send s m args below meth c H locs 0 0 (MQ below (pl_qI D dA tt b n f' r) args s 0 0 (pl_A b)) (F0 m 144 ls []) := by
  have hx := C.1
  have hb := C.2.1
  have hown := C.2.2.2.2.1
  have hts := C.2.2.2.2.2.2.1
  unfold fn_M_send_144 at hF
  refine lv_iconst (v := 0) hx hb dc_M_send_144 (by decide) ?_
  exact tl_M_send_145 C hF w hS (lv_sub hl [0, 1, 2, 3, 4, 5, 6] rfl)
set_option maxHeartbeats 4000000 in
set_option maxRecDepth 100000 in
theorem tl_M_send_140 {p : Program} {l : Launch} {e : Env} {s : State} {m : MethodId} {args : Array Value} {below : List Frame} {meth : Method} {c : Code} {D : va_G} {dA : Nat → ClassId} {tt : Nat → Nat} {b n : Nat} (C : pl_C p s m args meth c co_M_send 13 rn_M (some .int) "send" D dA tt b) {r : Int32} {f' : pl_H} {f : pl_H} {a0 : Nat} {x1 : Int32} {x2 : Int32} {y3 : Int64} {y5 : Int64} {x8 : Int32} {x9 : Int32} {H : Heap} {locs : List Loc} {ls : Array Slot} (hF : fn_M_send_140 f a0 x1 x2 y3 y5 x8 x9 = some (r, f')) (w : pl_wd D vwCl dA b n f H) (hS : va_S (pl_A b) s.heap H locs) (hl : lv_has ls 13 [(0, .ref a0), (1, .int x1), (2, .int x2), (3, .long y3), (5, .long y5), (8, .int x8), (9, .int x9)]) : W p l e rm_M_send s m args below meth c H locs 0 0 (MQ below (pl_qI D dA tt b n f' r) args s 0 0 (pl_A b)) (F0 m 140 ls []) := by
  have hx := C.1
  have hb := C.2.1
  have hown := C.2.2.2.2.1
  have hts := C.2.2.2.2.2.2.1
  unfold fn_M_send_140 at hF
  refine lv_iconst (v := 1) hx hb dc_M_send_140 (by decide) ?_
  refine lv_goto hx hb dc_M_send_141 (tgt := 145) (by decide) ?_
  exact tl_M_send_145 C hF w hS (lv_sub hl [0, 1, 2, 3, 4, 5, 6] rfl)
set_option maxHeartbeats 4000000 in
set_option maxRecDepth 100000 in
theorem tl_M_send_99 {p : Program} {l : Launch} {e : Env} {s : State} {m : MethodId} {args : Array Value} {below : List Frame} {meth : Method} {c : Code} {D : va_G} {dA : Nat → ClassId} {tt : Nat → Nat} {b n : Nat} (C : pl_C p s m args meth c co_M_send 13 rn_M (some .int) "send" D dA tt b) {r : Int32} {f' : pl_H} {f : pl_H} {a0 : Nat} {x1 : Int32} {x2 : Int32} {y3 : Int64} {y5 : Int64} {x8 : Int32} {sx0 : Int32} {H : Heap} {locs : List Loc} {ls : Array Slot} (hF : fn_M_send_99 f a0 x1 x2 y3 y5 x8 sx0 = some (r, f')) (w : pl_wd D vwCl dA b n f H) (hS : va_S (pl_A b) s.heap H locs) (hl : lv_has ls 13 [(0, .ref a0), (1, .int x1), (2, .int x2), (3, .long y3), (5, .long y5), (8, .int x8)]) : W p l e rm_M_send s m args below meth c H locs 0 0 (MQ below (pl_qI D dA tt b n f' r) args s 0 0 (pl_A b)) (F0 m 99 ls [.int sx0]) := by
  have hx := C.1
  have hb := C.2.1
  have hown := C.2.2.2.2.1
  have hts := C.2.2.2.2.2.2.1
  unfold fn_M_send_99 at hF
  refine lv_istore (lv' := [(9, .int sx0), (0, .ref a0), (1, .int x1), (2, .int x2), (3, .long y3), (5, .long y5), (8, .int x8)]) hx hb dc_M_send_99 hl (by decide) rfl (fun ls hl => ?_)
  refine lv_lload hx hb dc_M_send_101 (lv_at hl 5 rfl) ?_
  refine lv_lconst (v := 0) hx hb dc_M_send_103 (by decide) ?_
  refine W.lcmp hx hb dc_M_send_104 ?_
  refine lv_if_le hx hb dc_M_send_105 (tgt := 144) (by decide) (fun hc => ?_) (fun hc => ?_)
  · have hF := (if_pos hc).symm.trans hF
    exact tl_M_send_144 C hF w hS (lv_sub hl [1, 2, 3, 4, 5, 6, 0] rfl)
  · have hF := (if_neg hc).symm.trans hF
    refine lv_aload_n hx hb dc_M_send_108 rfl (lv_at hl 1 rfl) ?_
    obtain ⟨v1, ev1, hF⟩ := pl_bd hF
    refine pl_getI C w (ci := 8) in_M rfl (by decide) 4 (by decide) mw_701 ev1 dc_M_send_109 ?_
    refine lv_iload_n hx hb dc_M_send_112 rfl (lv_at hl 2 rfl) ?_
    refine lv_icmp_eq hx hb dc_M_send_113 (tgt := 144) (by decide) (fun hc => ?_) (fun hc => ?_)
    · have hF := (if_pos hc).symm.trans hF
      exact tl_M_send_144 C hF w hS (lv_sub hl [1, 2, 3, 4, 5, 6, 0] rfl)
    · have hF := (if_neg hc).symm.trans hF
      refine lv_aload_n hx hb dc_M_send_116 rfl (lv_at hl 1 rfl) ?_
      refine lv_aload_n hx hb dc_M_send_117 rfl (lv_at hl 1 rfl) ?_
      obtain ⟨v2, ev2, hF⟩ := pl_bd hF
      refine pl_getI C w (ci := 8) in_M rfl (by decide) 4 (by decide) mw_701 ev2 dc_M_send_118 ?_
      obtain ⟨u4, eu4, hF⟩ := pl_bd hF
      obtain ⟨v3, ev3, hF⟩ := pl_bd hF
      refine pl_gi (pl_runV (Cn := rn_M) (k := 1) C (tm_M_find l D dA tt b n ev3) w hS rfl rfl mw_814 mw_816 mw_32 mw_72 mw_817 (by decide +kernel) ⟨by decide, by decide⟩ eu4 rfl (by decide) rfl hl.1 (Nat.le_of_ble_eq_true rfl) ⟨Nat.zero_le _, Nat.zero_le _⟩ rfl dc_M_send_121) hS (fun H locs w hS => ?_)
      refine lv_if_ge hx hb dc_M_send_124 (tgt := 144) (by decide) (fun hc => ?_) (fun hc => ?_)
      · have hF := (if_pos hc).symm.trans hF
        exact tl_M_send_144 C hF w hS (lv_sub hl [1, 2, 3, 4, 5, 6, 0] rfl)
      · have hF := (if_neg hc).symm.trans hF
        refine lv_iload hx hb dc_M_send_127 (lv_at hl 0 rfl) ?_
        refine lv_if_eq hx hb dc_M_send_129 (tgt := 140) (by decide) (fun hc => ?_) (fun hc => ?_)
        · have hF := (if_pos hc).symm.trans hF
          exact tl_M_send_140 C hF w hS (lv_sub hl [1, 2, 3, 4, 5, 6, 0] rfl)
        · have hF := (if_neg hc).symm.trans hF
          refine lv_aload_n hx hb dc_M_send_132 rfl (lv_at hl 1 rfl) ?_
          obtain ⟨v5, ev5, hF⟩ := pl_bd hF
          refine pl_getI C w (ci := 8) in_M rfl (by decide) 4 (by decide) mw_701 ev5 dc_M_send_133 ?_
          refine lv_iload_n hx hb dc_M_send_136 rfl (lv_at hl 3 rfl) ?_
          refine lv_icmp_eq hx hb dc_M_send_137 (tgt := 144) (by decide) (fun hc => ?_) (fun hc => ?_)
          · have hF := (if_pos hc).symm.trans hF
            exact tl_M_send_144 C hF w hS (lv_sub hl [1, 2, 3, 4, 5, 6, 0] rfl)
          · have hF := (if_neg hc).symm.trans hF
            exact tl_M_send_140 C hF w hS (lv_sub hl [1, 2, 3, 4, 5, 6, 0] rfl)
set_option maxHeartbeats 4000000 in
set_option maxRecDepth 100000 in
theorem tl_M_send_98 {p : Program} {l : Launch} {e : Env} {s : State} {m : MethodId} {args : Array Value} {below : List Frame} {meth : Method} {c : Code} {D : va_G} {dA : Nat → ClassId} {tt : Nat → Nat} {b n : Nat} (C : pl_C p s m args meth c co_M_send 13 rn_M (some .int) "send" D dA tt b) {r : Int32} {f' : pl_H} {f : pl_H} {a0 : Nat} {x1 : Int32} {x2 : Int32} {y3 : Int64} {y5 : Int64} {x8 : Int32} {H : Heap} {locs : List Loc} {ls : Array Slot} (hF : fn_M_send_98 f a0 x1 x2 y3 y5 x8 = some (r, f')) (w : pl_wd D vwCl dA b n f H) (hS : va_S (pl_A b) s.heap H locs) (hl : lv_has ls 13 [(0, .ref a0), (1, .int x1), (2, .int x2), (3, .long y3), (5, .long y5), (8, .int x8)]) : W p l e rm_M_send s m args below meth c H locs 0 0 (MQ below (pl_qI D dA tt b n f' r) args s 0 0 (pl_A b)) (F0 m 98 ls []) := by
  have hx := C.1
  have hb := C.2.1
  have hown := C.2.2.2.2.1
  have hts := C.2.2.2.2.2.2.1
  unfold fn_M_send_98 at hF
  refine lv_iconst (v := 0) hx hb dc_M_send_98 (by decide) ?_
  exact tl_M_send_99 C hF w hS (lv_sub hl [0, 1, 2, 3, 4, 5] rfl)
set_option maxHeartbeats 4000000 in
set_option maxRecDepth 100000 in
theorem tl_M_send_73 {p : Program} {l : Launch} {e : Env} {s : State} {m : MethodId} {args : Array Value} {below : List Frame} {meth : Method} {c : Code} {D : va_G} {dA : Nat → ClassId} {tt : Nat → Nat} {b n : Nat} (C : pl_C p s m args meth c co_M_send 13 rn_M (some .int) "send" D dA tt b) {r : Int32} {f' : pl_H} {f : pl_H} {a0 : Nat} {x1 : Int32} {x2 : Int32} {y3 : Int64} {y5 : Int64} {sx0 : Int32} {H : Heap} {locs : List Loc} {ls : Array Slot} (hF : fn_M_send_73 f a0 x1 x2 y3 y5 sx0 = some (r, f')) (w : pl_wd D vwCl dA b n f H) (hS : va_S (pl_A b) s.heap H locs) (hl : lv_has ls 13 [(0, .ref a0), (1, .int x1), (2, .int x2), (3, .long y3), (5, .long y5)]) : W p l e rm_M_send s m args below meth c H locs 0 0 (MQ below (pl_qI D dA tt b n f' r) args s 0 0 (pl_A b)) (F0 m 73 ls [.int sx0]) := by
  have hx := C.1
  have hb := C.2.1
  have hown := C.2.2.2.2.1
  have hts := C.2.2.2.2.2.2.1
  unfold fn_M_send_73 at hF
  refine lv_istore (lv' := [(8, .int sx0), (0, .ref a0), (1, .int x1), (2, .int x2), (3, .long y3), (5, .long y5)]) hx hb dc_M_send_73 hl (by decide) rfl (fun ls hl => ?_)
  refine lv_lload_n hx hb dc_M_send_75 rfl (lv_at hl 4 rfl) ?_
  refine lv_lconst (v := 0) hx hb dc_M_send_76 (by decide) ?_
  refine W.lcmp hx hb dc_M_send_77 ?_
  refine lv_if_le hx hb dc_M_send_78 (tgt := 98) (by decide) (fun hc => ?_) (fun hc => ?_)
  · have hF := (if_pos hc).symm.trans hF
    exact tl_M_send_98 C hF w hS (lv_sub hl [1, 2, 3, 4, 5, 0] rfl)
  · have hF := (if_neg hc).symm.trans hF
    refine lv_iload_n hx hb dc_M_send_81 rfl (lv_at hl 3 rfl) ?_
    refine lv_iload_n hx hb dc_M_send_82 rfl (lv_at hl 2 rfl) ?_
    refine lv_icmp_eq hx hb dc_M_send_83 (tgt := 98) (by decide) (fun hc => ?_) (fun hc => ?_)
    · have hF := (if_pos hc).symm.trans hF
      exact tl_M_send_98 C hF w hS (lv_sub hl [1, 2, 3, 4, 5, 0] rfl)
    · have hF := (if_neg hc).symm.trans hF
      refine lv_aload_n hx hb dc_M_send_86 rfl (lv_at hl 1 rfl) ?_
      refine lv_iload_n hx hb dc_M_send_87 rfl (lv_at hl 3 rfl) ?_
      obtain ⟨u2, eu2, hF⟩ := pl_bd hF
      obtain ⟨v1, ev1, hF⟩ := pl_bd hF
      refine pl_gi (pl_runV (Cn := rn_M) (k := 1) C (tm_M_find l D dA tt b n ev1) w hS rfl rfl mw_814 mw_816 mw_32 mw_72 mw_817 (by decide +kernel) ⟨by decide, by decide⟩ eu2 rfl (by decide) rfl hl.1 (Nat.le_of_ble_eq_true rfl) ⟨Nat.zero_le _, Nat.zero_le _⟩ rfl dc_M_send_88) hS (fun H locs w hS => ?_)
      refine lv_if_ge hx hb dc_M_send_91 (tgt := 98) (by decide) (fun hc => ?_) (fun hc => ?_)
      · have hF := (if_pos hc).symm.trans hF
        exact tl_M_send_98 C hF w hS (lv_sub hl [1, 2, 3, 4, 5, 0] rfl)
      · have hF := (if_neg hc).symm.trans hF
        refine lv_iconst (v := 1) hx hb dc_M_send_94 (by decide) ?_
        refine lv_goto hx hb dc_M_send_95 (tgt := 99) (by decide) ?_
        exact tl_M_send_99 C hF w hS (lv_sub hl [1, 2, 3, 4, 5, 0] rfl)
set_option maxHeartbeats 4000000 in
set_option maxRecDepth 100000 in
theorem tl_M_send_29 {p : Program} {l : Launch} {e : Env} {s : State} {m : MethodId} {args : Array Value} {below : List Frame} {meth : Method} {c : Code} {D : va_G} {dA : Nat → ClassId} {tt : Nat → Nat} {b n : Nat} (C : pl_C p s m args meth c co_M_send 13 rn_M (some .int) "send" D dA tt b) {r : Int32} {f' : pl_H} {f : pl_H} {H : Heap} {locs : List Loc} {ls : Array Slot} (hF : fn_M_send_29 f = some (r, f')) (w : pl_wd D vwCl dA b n f H) (hS : va_S (pl_A b) s.heap H locs) (hl : lv_has ls 13 []) : W p l e rm_M_send s m args below meth c H locs 0 0 (MQ below (pl_qI D dA tt b n f' r) args s 0 0 (pl_A b)) (F0 m 29 ls []) := by
  have hx := C.1
  have hb := C.2.1
  have hown := C.2.2.2.2.1
  have hts := C.2.2.2.2.2.2.1
  unfold fn_M_send_29 at hF
  refine lv_iconst (v := (-1)) hx hb dc_M_send_29 (by decide) ?_
  exact pl_retIw C w hS hF dc_M_send_30
set_option maxHeartbeats 4000000 in
set_option maxRecDepth 100000 in
theorem tl_M_send {p : Program} {l : Launch} {e : Env} {s : State} {m : MethodId} {args : Array Value} {below : List Frame} {meth : Method} {c : Code} {D : va_G} {dA : Nat → ClassId} {tt : Nat → Nat} {b n : Nat} (C : pl_C p s m args meth c co_M_send 13 rn_M (some .int) "send" D dA tt b) {r : Int32} {f' : pl_H} {f : pl_H} {a0 : Nat} {x1 : Int32} {x2 : Int32} {y3 : Int64} {y5 : Int64} {x7 : Int32} {H : Heap} {locs : List Loc} {ls : Array Slot} (hF : fn_M_send f a0 x1 x2 y3 y5 x7 = some (r, f')) (w : pl_wd D vwCl dA b n f H) (hS : va_S (pl_A b) s.heap H locs) (hl : lv_has ls 13 [(0, .ref a0), (1, .int x1), (2, .int x2), (3, .long y3), (5, .long y5), (7, .int x7)]) : W p l e rm_M_send s m args below meth c H locs 0 0 (MQ below (pl_qI D dA tt b n f' r) args s 0 0 (pl_A b)) (F0 m 0 ls []) := by
  have hx := C.1
  have hb := C.2.1
  have hown := C.2.2.2.2.1
  have hts := C.2.2.2.2.2.2.1
  unfold fn_M_send at hF
  refine lv_iload_n hx hb dc_M_send_0 rfl (lv_at hl 1 rfl) ?_
  obtain ⟨v1, ev1, hF⟩ := pl_bd hF
  refine pl_gi (pl_runS (k := 1) C (tm_M_isAccount l D dA tt b n ev1) w hS rfl rfl mw_805 mw_806 mw_72 mw_807 (by decide +kernel) ⟨by decide, by decide⟩ rfl hl.1 (Nat.le_of_ble_eq_true rfl) ⟨Nat.zero_le _, Nat.zero_le _⟩ rfl dc_M_send_1) hS (fun H locs w hS => ?_)
  refine lv_if_eq hx hb dc_M_send_4 (tgt := 29) (by decide) (fun hc => ?_) (fun hc => ?_)
  · have hF := (if_pos hc).symm.trans hF
    exact tl_M_send_29 C hF w hS (lv_sub hl [] rfl)
  · have hF := (if_neg hc).symm.trans hF
    refine lv_iload_n hx hb dc_M_send_7 rfl (lv_at hl 2 rfl) ?_
    obtain ⟨v2, ev2, hF⟩ := pl_bd hF
    refine pl_gi (pl_runS (k := 1) C (tm_M_isAccount l D dA tt b n ev2) w hS rfl rfl mw_805 mw_806 mw_72 mw_807 (by decide +kernel) ⟨by decide, by decide⟩ rfl hl.1 (Nat.le_of_ble_eq_true rfl) ⟨Nat.zero_le _, Nat.zero_le _⟩ rfl dc_M_send_8) hS (fun H locs w hS => ?_)
    refine lv_if_eq hx hb dc_M_send_11 (tgt := 29) (by decide) (fun hc => ?_) (fun hc => ?_)
    · have hF := (if_pos hc).symm.trans hF
      exact tl_M_send_29 C hF w hS (lv_sub hl [] rfl)
    · have hF := (if_neg hc).symm.trans hF
      refine lv_lload_n hx hb dc_M_send_14 rfl (lv_at hl 3 rfl) ?_
      obtain ⟨v3, ev3, hF⟩ := pl_bd hF
      refine pl_gi (pl_runS (k := 1) C (tm_M_isAmount l D dA tt b n ev3) w hS rfl rfl mw_826 mw_827 mw_72 mw_828 (by decide +kernel) ⟨by decide, by decide⟩ rfl hl.1 (Nat.le_of_ble_eq_true rfl) ⟨Nat.zero_le _, Nat.zero_le _⟩ rfl dc_M_send_15) hS (fun H locs w hS => ?_)
      refine lv_if_eq hx hb dc_M_send_18 (tgt := 29) (by decide) (fun hc => ?_) (fun hc => ?_)
      · have hF := (if_pos hc).symm.trans hF
        exact tl_M_send_29 C hF w hS (lv_sub hl [] rfl)
      · have hF := (if_neg hc).symm.trans hF
        refine lv_lload hx hb dc_M_send_21 (lv_at hl 4 rfl) ?_
        obtain ⟨v4, ev4, hF⟩ := pl_bd hF
        refine pl_gi (pl_runS (k := 1) C (tm_M_isAmount l D dA tt b n ev4) w hS rfl rfl mw_826 mw_827 mw_72 mw_828 (by decide +kernel) ⟨by decide, by decide⟩ rfl hl.1 (Nat.le_of_ble_eq_true rfl) ⟨Nat.zero_le _, Nat.zero_le _⟩ rfl dc_M_send_23) hS (fun H locs w hS => ?_)
        refine lv_if_ne hx hb dc_M_send_26 (tgt := 31) (by decide) (fun hc => ?_) (fun hc => ?_)
        · have hF := (if_neg hc).symm.trans hF
          refine lv_iload hx hb dc_M_send_31 (lv_at hl 5 rfl) ?_
          refine lv_aload_n hx hb dc_M_send_33 rfl (lv_at hl 0 rfl) ?_
          refine lv_iload_n hx hb dc_M_send_34 rfl (lv_at hl 1 rfl) ?_
          obtain ⟨u6, eu6, hF⟩ := pl_bd hF
          obtain ⟨v5, ev5, hF⟩ := pl_bd hF
          refine pl_gi (pl_runV (Cn := rn_M) (k := 1) C (tm_M_nonce l D dA tt b n ev5) w hS rfl rfl mw_829 mw_830 mw_831 mw_72 mw_832 (by decide +kernel) ⟨by decide, by decide⟩ eu6 rfl (by decide) rfl hl.1 (Nat.le_of_ble_eq_true rfl) ⟨Nat.zero_le _, Nat.zero_le _⟩ rfl dc_M_send_35) hS (fun H locs w hS => ?_)
          refine lv_icmp_eq hx hb dc_M_send_38 (tgt := 44) (by decide) (fun hc => ?_) (fun hc => ?_)
          · have hF := (if_pos hc).symm.trans hF
            refine lv_lload_n hx hb dc_M_send_44 rfl (lv_at hl 3 rfl) ?_
            refine lv_lload hx hb dc_M_send_45 (lv_at hl 4 rfl) ?_
            refine lv_ladd hx hb dc_M_send_47 ?_
            refine lv_aload_n hx hb dc_M_send_48 rfl (lv_at hl 0 rfl) ?_
            refine lv_iload_n hx hb dc_M_send_49 rfl (lv_at hl 1 rfl) ?_
            obtain ⟨u8, eu8, hF⟩ := pl_bd hF
            obtain ⟨v7, ev7, hF⟩ := pl_bd hF
            refine pl_gl (pl_runV (Cn := rn_M) (k := 1) C (tm_M_balance l D dA tt b n ev7) w hS rfl rfl mw_833 mw_834 mw_835 mw_72 mw_836 (by decide +kernel) ⟨by decide, by decide⟩ eu8 rfl (by decide) rfl hl.1 (Nat.le_of_ble_eq_true rfl) ⟨Nat.zero_le _, Nat.zero_le _⟩ rfl dc_M_send_50) hS (fun H locs w hS => ?_)
            refine W.lcmp hx hb dc_M_send_53 ?_
            refine lv_if_le hx hb dc_M_send_54 (tgt := 60) (by decide) (fun hc => ?_) (fun hc => ?_)
            · have hF := (if_pos hc).symm.trans hF
              refine lv_aload_n hx hb dc_M_send_60 rfl (lv_at hl 0 rfl) ?_
              refine lv_iload_n hx hb dc_M_send_61 rfl (lv_at hl 1 rfl) ?_
              obtain ⟨u10, eu10, hF⟩ := pl_bd hF
              obtain ⟨v9, ev9, hF⟩ := pl_bd hF
              refine pl_gi (pl_runV (Cn := rn_M) (k := 1) C (tm_M_find l D dA tt b n ev9) w hS rfl rfl mw_814 mw_816 mw_32 mw_72 mw_817 (by decide +kernel) ⟨by decide, by decide⟩ eu10 rfl (by decide) rfl hl.1 (Nat.le_of_ble_eq_true rfl) ⟨Nat.zero_le _, Nat.zero_le _⟩ rfl dc_M_send_62) hS (fun H locs w hS => ?_)
              refine lv_if_ge hx hb dc_M_send_65 (tgt := 72) (by decide) (fun hc => ?_) (fun hc => ?_)
              · have hF := (if_pos hc).symm.trans hF
                refine lv_iconst (v := 0) hx hb dc_M_send_72 (by decide) ?_
                exact tl_M_send_73 C hF w hS (lv_sub hl [0, 1, 2, 3, 4] rfl)
              · have hF := (if_neg hc).symm.trans hF
                refine lv_iconst (v := 1) hx hb dc_M_send_68 (by decide) ?_
                refine lv_goto hx hb dc_M_send_69 (tgt := 73) (by decide) ?_
                exact tl_M_send_73 C hF w hS (lv_sub hl [0, 1, 2, 3, 4] rfl)
            · have hF := (if_neg hc).symm.trans hF
              refine lv_bipush (v := (-3)) hx hb dc_M_send_57 (by decide) ?_
              exact pl_retIw C w hS hF dc_M_send_59
          · have hF := (if_neg hc).symm.trans hF
            refine lv_bipush (v := (-2)) hx hb dc_M_send_41 (by decide) ?_
            exact pl_retIw C w hS hF dc_M_send_43
        · have hF := (if_pos hc).symm.trans hF
          exact tl_M_send_29 C hF w hS (lv_sub hl [] rfl)
set_option maxHeartbeats 4000000 in
set_option maxRecDepth 100000 in
theorem tm_M_send (l : Launch) (D : va_G) (dA : Nat → ClassId) (tt : Nat → Nat) (b n : Nat) {f : pl_H} {a0 : Nat} {x1 : Int32} {x2 : Int32} {y3 : Int64} {y5 : Int64} {x7 : Int32} {r : Int32} {f' : pl_H} (hF : fn_M_send f a0 x1 x2 y3 y5 x7 = some (r, f')) : Met l my_M_send (Cond.code my_M_send co_M_send 13 (some .int) :: pl_tb) rm_M_send (va_Pc [.ref a0, .int x1, .int x2, .long y3, .long y5, .int x7] (pl_pre D dA tt b n f)) (pl_qI D dA tt b n f' r) 0 0 (pl_A b) := by
  refine Met.ofW (cc := co_M_send) (maxL := 13) (ret := (some .int)) (by decide) rfl ?_
  intro p e s m args below meth c s₁ B hml hv
  obtain ⟨rfl, w, hK⟩ := hv
  have C : pl_C p s m _ meth c co_M_send 13 rn_M (some .int) "send" D dA tt b := ⟨B.exec, B.bytes, hml, B.returns, findClass_of_methodNamed B.named, B.notSynchronized, fun w hw => atoms_spec (ws := Cond.code my_M_send co_M_send 13 (some .int) :: pl_tb) B.pre w (List.mem_cons_of_mem _ hw), (name_of_methodNamed B.named B.method).1, hK⟩
  have hl := lv_entry ([.ref a0, .int x1, .int x2, .long y3, .long y5, .int x7]) (n := 13) (Nat.le_of_ble_eq_true rfl)
  rw [lg_entry_eq]
  generalize (lg_sl ([.ref a0, .int x1, .int x2, .long y3, .long y5, .int x7]) ++ List.replicate (13 - (lg_sl ([.ref a0, .int x1, .int x2, .long y3, .long y5, .int x7])).length) Slot.unset).toArray = ls at hl ⊢
  have hl : lv_has ls 13 [(0, .ref a0), (1, .int x1), (2, .int x2), (3, .long y3), (5, .long y5), (7, .int x7)] := hl
  exact tl_M_send C hF w va_S.rf hl
def rm_M_close : Room := { frames := 1, cells := 0, slots := 0, locals := 23 }
def fn_M_close_35 : Nat → pl_H → Nat → Int32 → Option (Int32 × pl_H)
  | 0 => fun _ _ _ => none
  | k + 1 => fun f a0 x3 => (pl_gI f a0 8 0).bind fun v1 => if v1 ≤ x3 then (pl_pV f a0 8 5 (.int 0)).bind fun f2 => (pl_z 1).bind (fun z => some (z, f2)) else (pl_gR f a0 8 1).bind fun v3 => (pl_gR f a0 8 1).bind fun v4 => (pl_aI f v4 (x3 + 1)).bind fun v5 => (pl_sI f v3 x3 v5).bind fun f6 => (pl_gR f6 a0 8 2).bind fun v7 => (pl_gR f6 a0 8 2).bind fun v8 => (pl_aI f6 v8 (x3 + 1)).bind fun v9 => (pl_sI f6 v7 x3 v9).bind fun f10 => (pl_gR f10 a0 8 3).bind fun v11 => (pl_gR f10 a0 8 3).bind fun v12 => (pl_aL f10 v12 (x3 + 1)).bind fun v13 => (pl_sL f10 v11 x3 v13).bind fun f14 => fn_M_close_35 k f14 a0 (x3 + 1)
def fn_M_close_16 (f : pl_H) (a0 : Nat) (sx0 : Int32) : Option (Int32 × pl_H) := if 0 ≤ sx0 then (pl_gI f a0 8 0).bind fun v1 => (pl_pV f a0 8 0 (.int (v1 - 1))).bind fun f2 => fn_M_close_35 pl_N f2 a0 sx0 else (pl_z 0).bind (fun z => some (z, f))
def fn_M_close (f : pl_H) (a0 : Nat) (x1 : Int32) : Option (Int32 × pl_H) := (fn_M_isAccount f x1).bind fun v1 => if v1 = 0 then fn_M_close_16 f a0 ((-1)) else (pl_is f a0 8).bind fun u3 => (fn_M_find f a0 x1).bind fun v2 => fn_M_close_16 f a0 v2
set_option maxHeartbeats 4000000 in
set_option maxRecDepth 100000 in
theorem tl_M_close_35 {p : Program} {l : Launch} {e : Env} {s : State} {m : MethodId} {args : Array Value} {below : List Frame} {meth : Method} {c : Code} {D : va_G} {dA : Nat → ClassId} {tt : Nat → Nat} {b n : Nat} (C : pl_C p s m args meth c co_M_close 4 rn_M (some .boolean) "close" D dA tt b) {r : Int32} {f' : pl_H} : ∀ k : Nat, ∀ (f : pl_H) (a0 : Nat) (x3 : Int32) (H : Heap) (locs : List Loc) (ls : Array Slot), fn_M_close_35 k f a0 x3 = some (r, f') → pl_wd D vwCl dA b n f H → va_S (pl_A b) s.heap H locs → lv_has ls 4 [(0, .ref a0), (3, .int x3)] → W p l e rm_M_close s m args below meth c H locs 0 0 (MQ below (pl_qI D dA tt b n f' r) args s 0 0 (pl_A b)) (F0 m 35 ls []) := by
  have hx := C.1
  have hb := C.2.1
  have hown := C.2.2.2.2.1
  have hts := C.2.2.2.2.2.2.1
  intro k
  induction k with
  | zero =>
    intro f a0 x3 H locs ls hF
    cases hF
  | succ k ih =>
    intro f a0 x3 H locs ls hF w hS hl
    unfold fn_M_close_35 at hF
    refine lv_iload_n hx hb dc_M_close_35 rfl (lv_at hl 1 rfl) ?_
    refine lv_aload_n hx hb dc_M_close_36 rfl (lv_at hl 0 rfl) ?_
    obtain ⟨v1, ev1, hF⟩ := pl_bd hF
    refine pl_getI C w (ci := 8) in_M rfl (by decide) 0 (by decide) mw_697 ev1 dc_M_close_37 ?_
    refine lv_icmp_ge hx hb dc_M_close_40 (tgt := 91) (by decide) (fun hc => ?_) (fun hc => ?_)
    · have hF := (if_pos hc).symm.trans hF
      refine lv_aload_n hx hb dc_M_close_91 rfl (lv_at hl 0 rfl) ?_
      refine lv_iconst (v := 0) hx hb dc_M_close_92 (by decide) ?_
      obtain ⟨f2, ef2, hF⟩ := pl_bd hF
      refine pl_put C w hS (ci := 8) in_M rfl (by decide) rty_M_ok rnm_M 5 (by decide) mw_702 rfl rfl rfl ef2 dc_M_close_93 (fun H locs w hS => ?_)
      refine lv_iconst (v := 1) hx hb dc_M_close_96 (by decide) ?_
      exact pl_retZw C w hS hF dc_M_close_97
    · have hF := (if_neg hc).symm.trans hF
      refine lv_aload_n hx hb dc_M_close_43 rfl (lv_at hl 0 rfl) ?_
      obtain ⟨v3, ev3, hF⟩ := pl_bd hF
      refine pl_getR C w (ci := 8) in_M rfl (by decide) 1 (by decide) mw_698 ev3 dc_M_close_44 ?_
      refine lv_iload_n hx hb dc_M_close_47 rfl (lv_at hl 1 rfl) ?_
      refine lv_aload_n hx hb dc_M_close_48 rfl (lv_at hl 0 rfl) ?_
      obtain ⟨v4, ev4, hF⟩ := pl_bd hF
      refine pl_getR C w (ci := 8) in_M rfl (by decide) 1 (by decide) mw_698 ev4 dc_M_close_49 ?_
      refine lv_iload_n hx hb dc_M_close_52 rfl (lv_at hl 1 rfl) ?_
      refine lv_iconst (v := 1) hx hb dc_M_close_53 (by decide) ?_
      refine lv_iadd hx hb dc_M_close_54 ?_
      obtain ⟨v5, ev5, hF⟩ := pl_bd hF
      refine pl_aldI C w ev5 dc_M_close_55 ?_
      obtain ⟨f6, ef6, hF⟩ := pl_bd hF
      refine pl_astI C w hS ef6 dc_M_close_56 (fun H locs w hS => ?_)
      refine lv_aload_n hx hb dc_M_close_57 rfl (lv_at hl 0 rfl) ?_
      obtain ⟨v7, ev7, hF⟩ := pl_bd hF
      refine pl_getR C w (ci := 8) in_M rfl (by decide) 2 (by decide) mw_699 ev7 dc_M_close_58 ?_
      refine lv_iload_n hx hb dc_M_close_61 rfl (lv_at hl 1 rfl) ?_
      refine lv_aload_n hx hb dc_M_close_62 rfl (lv_at hl 0 rfl) ?_
      obtain ⟨v8, ev8, hF⟩ := pl_bd hF
      refine pl_getR C w (ci := 8) in_M rfl (by decide) 2 (by decide) mw_699 ev8 dc_M_close_63 ?_
      refine lv_iload_n hx hb dc_M_close_66 rfl (lv_at hl 1 rfl) ?_
      refine lv_iconst (v := 1) hx hb dc_M_close_67 (by decide) ?_
      refine lv_iadd hx hb dc_M_close_68 ?_
      obtain ⟨v9, ev9, hF⟩ := pl_bd hF
      refine pl_aldI C w ev9 dc_M_close_69 ?_
      obtain ⟨f10, ef10, hF⟩ := pl_bd hF
      refine pl_astI C w hS ef10 dc_M_close_70 (fun H locs w hS => ?_)
      refine lv_aload_n hx hb dc_M_close_71 rfl (lv_at hl 0 rfl) ?_
      obtain ⟨v11, ev11, hF⟩ := pl_bd hF
      refine pl_getR C w (ci := 8) in_M rfl (by decide) 3 (by decide) mw_700 ev11 dc_M_close_72 ?_
      refine lv_iload_n hx hb dc_M_close_75 rfl (lv_at hl 1 rfl) ?_
      refine lv_aload_n hx hb dc_M_close_76 rfl (lv_at hl 0 rfl) ?_
      obtain ⟨v12, ev12, hF⟩ := pl_bd hF
      refine pl_getR C w (ci := 8) in_M rfl (by decide) 3 (by decide) mw_700 ev12 dc_M_close_77 ?_
      refine lv_iload_n hx hb dc_M_close_80 rfl (lv_at hl 1 rfl) ?_
      refine lv_iconst (v := 1) hx hb dc_M_close_81 (by decide) ?_
      refine lv_iadd hx hb dc_M_close_82 ?_
      obtain ⟨v13, ev13, hF⟩ := pl_bd hF
      refine pl_aldL C w ev13 dc_M_close_83 ?_
      obtain ⟨f14, ef14, hF⟩ := pl_bd hF
      refine pl_astL C w hS ef14 dc_M_close_84 (fun H locs w hS => ?_)
      refine lv_iinc (k := 1) (v := x3 + 1) (lv' := [(3, .int (x3 + 1)), (0, .ref a0)]) hx hb dc_M_close_85 hl rfl rfl (by decide) rfl (fun ls hl => ?_)
      refine lv_goto hx hb dc_M_close_88 (tgt := 35) (by decide) ?_
      exact ih f14 a0 (x3 + 1) _ _ _ hF w hS (lv_sub hl [1, 0] rfl)
set_option maxHeartbeats 4000000 in
set_option maxRecDepth 100000 in
theorem tl_M_close_16 {p : Program} {l : Launch} {e : Env} {s : State} {m : MethodId} {args : Array Value} {below : List Frame} {meth : Method} {c : Code} {D : va_G} {dA : Nat → ClassId} {tt : Nat → Nat} {b n : Nat} (C : pl_C p s m args meth c co_M_close 4 rn_M (some .boolean) "close" D dA tt b) {r : Int32} {f' : pl_H} {f : pl_H} {a0 : Nat} {sx0 : Int32} {H : Heap} {locs : List Loc} {ls : Array Slot} (hF : fn_M_close_16 f a0 sx0 = some (r, f')) (w : pl_wd D vwCl dA b n f H) (hS : va_S (pl_A b) s.heap H locs) (hl : lv_has ls 4 [(0, .ref a0)]) : W p l e rm_M_close s m args below meth c H locs 0 0 (MQ below (pl_qI D dA tt b n f' r) args s 0 0 (pl_A b)) (F0 m 16 ls [.int sx0]) := by
  have hx := C.1
  have hb := C.2.1
  have hown := C.2.2.2.2.1
  have hts := C.2.2.2.2.2.2.1
  unfold fn_M_close_16 at hF
  refine lv_istore_n (lv' := [(2, .int sx0), (0, .ref a0)]) hx hb dc_M_close_16 rfl hl (by decide) rfl (fun ls hl => ?_)
  refine lv_iload_n hx hb dc_M_close_17 rfl (lv_at hl 0 rfl) ?_
  refine lv_if_ge hx hb dc_M_close_18 (tgt := 23) (by decide) (fun hc => ?_) (fun hc => ?_)
  · have hF := (if_pos hc).symm.trans hF
    refine lv_aload_n hx hb dc_M_close_23 rfl (lv_at hl 1 rfl) ?_
    refine lv_dup hx hb dc_M_close_24 rfl ?_
    obtain ⟨v1, ev1, hF⟩ := pl_bd hF
    refine pl_getI C w (ci := 8) in_M rfl (by decide) 0 (by decide) mw_697 ev1 dc_M_close_25 ?_
    refine lv_iconst (v := 1) hx hb dc_M_close_28 (by decide) ?_
    refine lv_isub hx hb dc_M_close_29 ?_
    obtain ⟨f2, ef2, hF⟩ := pl_bd hF
    refine pl_put C w hS (ci := 8) in_M rfl (by decide) rty_M_ok rnm_M 0 (by decide) mw_697 rfl rfl rfl ef2 dc_M_close_30 (fun H locs w hS => ?_)
    refine lv_iload_n hx hb dc_M_close_33 rfl (lv_at hl 0 rfl) ?_
    refine lv_istore_n (lv' := [(3, .int sx0), (2, .int sx0), (0, .ref a0)]) hx hb dc_M_close_34 rfl hl (by decide) rfl (fun ls hl => ?_)
    exact tl_M_close_35 C pl_N f2 a0 sx0 _ _ _ hF w hS (lv_sub hl [2, 0] rfl)
  · have hF := (if_neg hc).symm.trans hF
    refine lv_iconst (v := 0) hx hb dc_M_close_21 (by decide) ?_
    exact pl_retZw C w hS hF dc_M_close_22
set_option maxHeartbeats 4000000 in
set_option maxRecDepth 100000 in
theorem tl_M_close {p : Program} {l : Launch} {e : Env} {s : State} {m : MethodId} {args : Array Value} {below : List Frame} {meth : Method} {c : Code} {D : va_G} {dA : Nat → ClassId} {tt : Nat → Nat} {b n : Nat} (C : pl_C p s m args meth c co_M_close 4 rn_M (some .boolean) "close" D dA tt b) {r : Int32} {f' : pl_H} {f : pl_H} {a0 : Nat} {x1 : Int32} {H : Heap} {locs : List Loc} {ls : Array Slot} (hF : fn_M_close f a0 x1 = some (r, f')) (w : pl_wd D vwCl dA b n f H) (hS : va_S (pl_A b) s.heap H locs) (hl : lv_has ls 4 [(0, .ref a0), (1, .int x1)]) : W p l e rm_M_close s m args below meth c H locs 0 0 (MQ below (pl_qI D dA tt b n f' r) args s 0 0 (pl_A b)) (F0 m 0 ls []) := by
  have hx := C.1
  have hb := C.2.1
  have hown := C.2.2.2.2.1
  have hts := C.2.2.2.2.2.2.1
  unfold fn_M_close at hF
  refine lv_iload_n hx hb dc_M_close_0 rfl (lv_at hl 1 rfl) ?_
  obtain ⟨v1, ev1, hF⟩ := pl_bd hF
  refine pl_gi (pl_runS (k := 1) C (tm_M_isAccount l D dA tt b n ev1) w hS rfl rfl mw_805 mw_806 mw_72 mw_807 (by decide +kernel) ⟨by decide, by decide⟩ rfl hl.1 (Nat.le_of_ble_eq_true rfl) ⟨Nat.zero_le _, Nat.zero_le _⟩ rfl dc_M_close_1) hS (fun H locs w hS => ?_)
  refine lv_if_eq hx hb dc_M_close_4 (tgt := 15) (by decide) (fun hc => ?_) (fun hc => ?_)
  · have hF := (if_pos hc).symm.trans hF
    refine lv_iconst (v := (-1)) hx hb dc_M_close_15 (by decide) ?_
    exact tl_M_close_16 C hF w hS (lv_sub hl [0] rfl)
  · have hF := (if_neg hc).symm.trans hF
    refine lv_aload_n hx hb dc_M_close_7 rfl (lv_at hl 0 rfl) ?_
    refine lv_iload_n hx hb dc_M_close_8 rfl (lv_at hl 1 rfl) ?_
    obtain ⟨u3, eu3, hF⟩ := pl_bd hF
    obtain ⟨v2, ev2, hF⟩ := pl_bd hF
    refine pl_gi (pl_runV (Cn := rn_M) (k := 1) C (tm_M_find l D dA tt b n ev2) w hS rfl rfl mw_814 mw_816 mw_32 mw_72 mw_817 (by decide +kernel) ⟨by decide, by decide⟩ eu3 rfl (by decide) rfl hl.1 (Nat.le_of_ble_eq_true rfl) ⟨Nat.zero_le _, Nat.zero_le _⟩ rfl dc_M_close_9) hS (fun H locs w hS => ?_)
    refine lv_goto hx hb dc_M_close_12 (tgt := 16) (by decide) ?_
    exact tl_M_close_16 C hF w hS (lv_sub hl [0] rfl)
set_option maxHeartbeats 4000000 in
set_option maxRecDepth 100000 in
theorem tm_M_close (l : Launch) (D : va_G) (dA : Nat → ClassId) (tt : Nat → Nat) (b n : Nat) {f : pl_H} {a0 : Nat} {x1 : Int32} {r : Int32} {f' : pl_H} (hF : fn_M_close f a0 x1 = some (r, f')) : Met l my_M_close (Cond.code my_M_close co_M_close 4 (some .boolean) :: pl_tb) rm_M_close (va_Pc [.ref a0, .int x1] (pl_pre D dA tt b n f)) (pl_qI D dA tt b n f' r) 0 0 (pl_A b) := by
  refine Met.ofW (cc := co_M_close) (maxL := 4) (ret := (some .boolean)) (by decide) rfl ?_
  intro p e s m args below meth c s₁ B hml hv
  obtain ⟨rfl, w, hK⟩ := hv
  have C : pl_C p s m _ meth c co_M_close 4 rn_M (some .boolean) "close" D dA tt b := ⟨B.exec, B.bytes, hml, B.returns, findClass_of_methodNamed B.named, B.notSynchronized, fun w hw => atoms_spec (ws := Cond.code my_M_close co_M_close 4 (some .boolean) :: pl_tb) B.pre w (List.mem_cons_of_mem _ hw), (name_of_methodNamed B.named B.method).1, hK⟩
  have hl := lv_entry ([.ref a0, .int x1]) (n := 4) (Nat.le_of_ble_eq_true rfl)
  rw [lg_entry_eq]
  generalize (lg_sl ([.ref a0, .int x1]) ++ List.replicate (4 - (lg_sl ([.ref a0, .int x1])).length) Slot.unset).toArray = ls at hl ⊢
  have hl : lv_has ls 4 [(0, .ref a0), (1, .int x1)] := hl
  exact tl_M_close C hF w va_S.rf hl
def rm_M_accounts : Room := { frames := 0, cells := 0, slots := 0, locals := 0 }
def fn_M_accounts (f : pl_H) (a0 : Nat) : Option (Int32) := (pl_gI f a0 8 0).bind fun v1 => some v1
set_option maxHeartbeats 4000000 in
set_option maxRecDepth 100000 in
theorem tl_M_accounts {p : Program} {l : Launch} {e : Env} {s : State} {m : MethodId} {args : Array Value} {below : List Frame} {meth : Method} {c : Code} {D : va_G} {dA : Nat → ClassId} {tt : Nat → Nat} {b n : Nat} (C : pl_C p s m args meth c co_M_accounts 1 rn_M (some .int) "accounts" D dA tt b) {r : Int32} {f : pl_H} {a0 : Nat} {H : Heap} {locs : List Loc} {ls : Array Slot} (hF : fn_M_accounts f a0 = some r) (w : pl_wd D vwCl dA b n f H) (hS : va_S (pl_A b) s.heap H locs) (hl : lv_has ls 1 [(0, .ref a0)]) : W p l e rm_M_accounts s m args below meth c H locs 0 0 (MQ below (pl_qI D dA tt b n f r) args s 0 0 (pl_A b)) (F0 m 0 ls []) := by
  have hx := C.1
  have hb := C.2.1
  have hown := C.2.2.2.2.1
  have hts := C.2.2.2.2.2.2.1
  unfold fn_M_accounts at hF
  refine lv_aload_n hx hb dc_M_accounts_0 rfl (lv_at hl 0 rfl) ?_
  obtain ⟨v1, ev1, hF⟩ := pl_bd hF
  refine pl_getI C w (ci := 8) in_M rfl (by decide) 0 (by decide) mw_697 ev1 dc_M_accounts_1 ?_
  exact pl_retI C w hS hF dc_M_accounts_4
set_option maxHeartbeats 4000000 in
set_option maxRecDepth 100000 in
theorem tm_M_accounts (l : Launch) (D : va_G) (dA : Nat → ClassId) (tt : Nat → Nat) (b n : Nat) {f : pl_H} {a0 : Nat} {r : Int32} (hF : fn_M_accounts f a0 = some r) : Met l my_M_accounts (Cond.code my_M_accounts co_M_accounts 1 (some .int) :: pl_tb) rm_M_accounts (va_Pc [.ref a0] (pl_pre D dA tt b n f)) (pl_qI D dA tt b n f r) 0 0 (pl_A b) := by
  refine Met.ofW (cc := co_M_accounts) (maxL := 1) (ret := (some .int)) (by decide) rfl ?_
  intro p e s m args below meth c s₁ B hml hv
  obtain ⟨rfl, w, hK⟩ := hv
  have C : pl_C p s m _ meth c co_M_accounts 1 rn_M (some .int) "accounts" D dA tt b := ⟨B.exec, B.bytes, hml, B.returns, findClass_of_methodNamed B.named, B.notSynchronized, fun w hw => atoms_spec (ws := Cond.code my_M_accounts co_M_accounts 1 (some .int) :: pl_tb) B.pre w (List.mem_cons_of_mem _ hw), (name_of_methodNamed B.named B.method).1, hK⟩
  have hl := lv_entry ([.ref a0]) (n := 1) (Nat.le_of_ble_eq_true rfl)
  rw [lg_entry_eq]
  generalize (lg_sl ([.ref a0]) ++ List.replicate (1 - (lg_sl ([.ref a0])).length) Slot.unset).toArray = ls at hl ⊢
  have hl : lv_has ls 1 [(0, .ref a0)] := hl
  exact tl_M_accounts C hF w va_S.rf hl
def rm_M_root : Room := { frames := 6, cells := 0, slots := 0, locals := 139 }
def fn_M_root_20 : Nat → pl_H → Nat → Int32 → Int64 → Int32 → Option (Int64 × pl_H)
  | 0 => fun _ _ _ _ _ => none
  | k + 1 => fun f a0 x1 y2 x4 => if 8 ≤ x4 then some (y2, f) else (pl_gR f a0 8 28).bind fun v1 => (pl_aI f v1 ((8 * x1) + x4)).bind fun v2 => fn_M_root_20 k f a0 x1 ((y2 <<< ((8 : Int32).toInt64 &&& 63)) ||| ((v2 : Int32).toInt64)) (x4 + 1)
def fn_M_root_9 (f : pl_H) : Option (Int64 × pl_H) := some (0, f)
def fn_M_root (f : pl_H) (a0 : Nat) (x1 : Int32) : Option (Int64 × pl_H) := if x1 < 0 then fn_M_root_9 f else if x1 ≤ 3 then (pl_is f a0 8).bind fun u2 => (fn_M_work f a0).bind fun q1 => fn_M_root_20 pl_N q1 a0 x1 0 0 else fn_M_root_9 f
set_option maxHeartbeats 4000000 in
set_option maxRecDepth 100000 in
theorem tl_M_root_20 {p : Program} {l : Launch} {e : Env} {s : State} {m : MethodId} {args : Array Value} {below : List Frame} {meth : Method} {c : Code} {D : va_G} {dA : Nat → ClassId} {tt : Nat → Nat} {b n : Nat} (C : pl_C p s m args meth c co_M_root 5 rn_M (some .long) "root" D dA tt b) {r : Int64} {f' : pl_H} : ∀ k : Nat, ∀ (f : pl_H) (a0 : Nat) (x1 : Int32) (y2 : Int64) (x4 : Int32) (H : Heap) (locs : List Loc) (ls : Array Slot), fn_M_root_20 k f a0 x1 y2 x4 = some (r, f') → pl_wd D vwCl dA b n f H → va_S (pl_A b) s.heap H locs → lv_has ls 5 [(0, .ref a0), (1, .int x1), (2, .long y2), (4, .int x4)] → W p l e rm_M_root s m args below meth c H locs 0 0 (MQ below (pl_qL D dA tt b n f' r) args s 0 0 (pl_A b)) (F0 m 20 ls []) := by
  have hx := C.1
  have hb := C.2.1
  have hown := C.2.2.2.2.1
  have hts := C.2.2.2.2.2.2.1
  intro k
  induction k with
  | zero =>
    intro f a0 x1 y2 x4 H locs ls hF
    cases hF
  | succ k ih =>
    intro f a0 x1 y2 x4 H locs ls hF w hS hl
    unfold fn_M_root_20 at hF
    refine lv_iload hx hb dc_M_root_20 (lv_at hl 3 rfl) ?_
    refine lv_bipush (v := 8) hx hb dc_M_root_22 (by decide) ?_
    refine lv_icmp_ge hx hb dc_M_root_24 (tgt := 52) (by decide) (fun hc => ?_) (fun hc => ?_)
    · have hF := (if_pos hc).symm.trans hF
      refine lv_lload_n hx hb dc_M_root_52 rfl (lv_at hl 2 rfl) ?_
      exact pl_retLw C w hS hF dc_M_root_53
    · have hF := (if_neg hc).symm.trans hF
      refine lv_lload_n hx hb dc_M_root_27 rfl (lv_at hl 2 rfl) ?_
      refine lv_bipush (v := 8) hx hb dc_M_root_28 (by decide) ?_
      refine lv_lshl hx hb dc_M_root_30 rfl ?_
      refine lv_aload_n hx hb dc_M_root_31 rfl (lv_at hl 0 rfl) ?_
      obtain ⟨v1, ev1, hF⟩ := pl_bd hF
      refine pl_getR C w (ci := 8) in_M rfl (by decide) 28 (by decide) mw_725 ev1 dc_M_root_32 ?_
      refine lv_bipush (v := 8) hx hb dc_M_root_35 (by decide) ?_
      refine lv_iload_n hx hb dc_M_root_37 rfl (lv_at hl 1 rfl) ?_
      refine lv_imul hx hb dc_M_root_38 ?_
      refine lv_iload hx hb dc_M_root_39 (lv_at hl 3 rfl) ?_
      refine lv_iadd hx hb dc_M_root_41 ?_
      obtain ⟨v2, ev2, hF⟩ := pl_bd hF
      refine pl_aldI C w ev2 dc_M_root_42 ?_
      refine lv_i2l hx hb dc_M_root_43 rfl ?_
      refine lv_lor hx hb dc_M_root_44 ?_
      refine lv_lstore_n (lv' := [(2, .long ((y2 <<< ((8 : Int32).toInt64 &&& 63)) ||| ((v2 : Int32).toInt64))), (0, .ref a0), (1, .int x1), (4, .int x4)]) hx hb dc_M_root_45 rfl hl (by decide) rfl (fun ls hl => ?_)
      refine lv_iinc (k := 3) (v := x4 + 1) (lv' := [(4, .int (x4 + 1)), (2, .long ((y2 <<< ((8 : Int32).toInt64 &&& 63)) ||| ((v2 : Int32).toInt64))), (0, .ref a0), (1, .int x1)]) hx hb dc_M_root_46 hl rfl rfl (by decide) rfl (fun ls hl => ?_)
      refine lv_goto hx hb dc_M_root_49 (tgt := 20) (by decide) ?_
      exact ih f a0 x1 ((y2 <<< ((8 : Int32).toInt64 &&& 63)) ||| ((v2 : Int32).toInt64)) (x4 + 1) _ _ _ hF w hS (lv_sub hl [2, 3, 1, 0] rfl)
set_option maxHeartbeats 4000000 in
set_option maxRecDepth 100000 in
theorem tl_M_root_9 {p : Program} {l : Launch} {e : Env} {s : State} {m : MethodId} {args : Array Value} {below : List Frame} {meth : Method} {c : Code} {D : va_G} {dA : Nat → ClassId} {tt : Nat → Nat} {b n : Nat} (C : pl_C p s m args meth c co_M_root 5 rn_M (some .long) "root" D dA tt b) {r : Int64} {f' : pl_H} {f : pl_H} {H : Heap} {locs : List Loc} {ls : Array Slot} (hF : fn_M_root_9 f = some (r, f')) (w : pl_wd D vwCl dA b n f H) (hS : va_S (pl_A b) s.heap H locs) (hl : lv_has ls 5 []) : W p l e rm_M_root s m args below meth c H locs 0 0 (MQ below (pl_qL D dA tt b n f' r) args s 0 0 (pl_A b)) (F0 m 9 ls []) := by
  have hx := C.1
  have hb := C.2.1
  have hown := C.2.2.2.2.1
  have hts := C.2.2.2.2.2.2.1
  unfold fn_M_root_9 at hF
  refine lv_lconst (v := 0) hx hb dc_M_root_9 (by decide) ?_
  exact pl_retLw C w hS hF dc_M_root_10
set_option maxHeartbeats 4000000 in
set_option maxRecDepth 100000 in
theorem tl_M_root {p : Program} {l : Launch} {e : Env} {s : State} {m : MethodId} {args : Array Value} {below : List Frame} {meth : Method} {c : Code} {D : va_G} {dA : Nat → ClassId} {tt : Nat → Nat} {b n : Nat} (C : pl_C p s m args meth c co_M_root 5 rn_M (some .long) "root" D dA tt b) {r : Int64} {f' : pl_H} {f : pl_H} {a0 : Nat} {x1 : Int32} {H : Heap} {locs : List Loc} {ls : Array Slot} (hF : fn_M_root f a0 x1 = some (r, f')) (w : pl_wd D vwCl dA b n f H) (hS : va_S (pl_A b) s.heap H locs) (hl : lv_has ls 5 [(0, .ref a0), (1, .int x1)]) : W p l e rm_M_root s m args below meth c H locs 0 0 (MQ below (pl_qL D dA tt b n f' r) args s 0 0 (pl_A b)) (F0 m 0 ls []) := by
  have hx := C.1
  have hb := C.2.1
  have hown := C.2.2.2.2.1
  have hts := C.2.2.2.2.2.2.1
  unfold fn_M_root at hF
  refine lv_iload_n hx hb dc_M_root_0 rfl (lv_at hl 1 rfl) ?_
  refine lv_if_lt hx hb dc_M_root_1 (tgt := 9) (by decide) (fun hc => ?_) (fun hc => ?_)
  · have hF := (if_pos hc).symm.trans hF
    exact tl_M_root_9 C hF w hS (lv_sub hl [] rfl)
  · have hF := (if_neg hc).symm.trans hF
    refine lv_iload_n hx hb dc_M_root_4 rfl (lv_at hl 1 rfl) ?_
    refine lv_iconst (v := 3) hx hb dc_M_root_5 (by decide) ?_
    refine lv_icmp_le hx hb dc_M_root_6 (tgt := 11) (by decide) (fun hc => ?_) (fun hc => ?_)
    · have hF := (if_pos hc).symm.trans hF
      refine lv_aload_n hx hb dc_M_root_11 rfl (lv_at hl 0 rfl) ?_
      obtain ⟨u2, eu2, hF⟩ := pl_bd hF
      obtain ⟨q1, eq1, hF⟩ := pl_bd hF
      refine pl_gv (pl_runV (Cn := rn_M) (k := 0) C (tm_M_work l D dA tt b n eq1) w hS rfl rfl mw_851 mw_853 mw_34 mw_72 mw_854 (by decide +kernel) ⟨by decide, by decide⟩ eu2 rfl (by decide) rfl hl.1 (Nat.le_of_ble_eq_true rfl) ⟨Nat.zero_le _, Nat.zero_le _⟩ rfl dc_M_root_12) hS (fun H locs w hS => ?_)
      refine lv_lconst (v := 0) hx hb dc_M_root_15 (by decide) ?_
      refine lv_lstore_n (lv' := [(2, .long 0), (0, .ref a0), (1, .int x1)]) hx hb dc_M_root_16 rfl hl (by decide) rfl (fun ls hl => ?_)
      refine lv_iconst (v := 0) hx hb dc_M_root_17 (by decide) ?_
      refine lv_istore (lv' := [(4, .int 0), (2, .long 0), (0, .ref a0), (1, .int x1)]) hx hb dc_M_root_18 hl (by decide) rfl (fun ls hl => ?_)
      exact tl_M_root_20 C pl_N q1 a0 x1 0 0 _ _ _ hF w hS (lv_sub hl [2, 3, 1, 0] rfl)
    · have hF := (if_neg hc).symm.trans hF
      exact tl_M_root_9 C hF w hS (lv_sub hl [] rfl)
set_option maxHeartbeats 4000000 in
set_option maxRecDepth 100000 in
theorem tm_M_root (l : Launch) (D : va_G) (dA : Nat → ClassId) (tt : Nat → Nat) (b n : Nat) {f : pl_H} {a0 : Nat} {x1 : Int32} {r : Int64} {f' : pl_H} (hF : fn_M_root f a0 x1 = some (r, f')) : Met l my_M_root (Cond.code my_M_root co_M_root 5 (some .long) :: pl_tb) rm_M_root (va_Pc [.ref a0, .int x1] (pl_pre D dA tt b n f)) (pl_qL D dA tt b n f' r) 0 0 (pl_A b) := by
  refine Met.ofW (cc := co_M_root) (maxL := 5) (ret := (some .long)) (by decide) rfl ?_
  intro p e s m args below meth c s₁ B hml hv
  obtain ⟨rfl, w, hK⟩ := hv
  have C : pl_C p s m _ meth c co_M_root 5 rn_M (some .long) "root" D dA tt b := ⟨B.exec, B.bytes, hml, B.returns, findClass_of_methodNamed B.named, B.notSynchronized, fun w hw => atoms_spec (ws := Cond.code my_M_root co_M_root 5 (some .long) :: pl_tb) B.pre w (List.mem_cons_of_mem _ hw), (name_of_methodNamed B.named B.method).1, hK⟩
  have hl := lv_entry ([.ref a0, .int x1]) (n := 5) (Nat.le_of_ble_eq_true rfl)
  rw [lg_entry_eq]
  generalize (lg_sl ([.ref a0, .int x1]) ++ List.replicate (5 - (lg_sl ([.ref a0, .int x1])).length) Slot.unset).toArray = ls at hl ⊢
  have hl : lv_has ls 5 [(0, .ref a0), (1, .int x1)] := hl
  exact tl_M_root C hF w va_S.rf hl
def rm_M_markBelow : Room := { frames := 3, cells := 0, slots := 0, locals := 70 }
def fn_M_markBelow_154 (f : pl_H) : Option (pl_H) := some f
def fn_M_markBelow_147 (rc50 : pl_H → Nat → Int32 → Int32 → Int32 → Option (pl_H)) (f : pl_H) (a0 : Nat) (x1 : Int32) (x2 : Int32) (x4 : Int32) (sx0 : Int32) (sx1 : Int32) (sa2 : Nat) : Option (pl_H) := (pl_sZ f sa2 sx1 sx0).bind fun f1 => rc50 f1 a0 x1 x2 (x4 + 1)
def fn_M_markBelow_142 (rc50 : pl_H → Nat → Int32 → Int32 → Int32 → Option (pl_H)) (f : pl_H) (a0 : Nat) (x1 : Int32) (x2 : Int32) (x4 : Int32) (sx0 : Int32) (sa1 : Nat) : Option (pl_H) := fn_M_markBelow_147 rc50 f a0 x1 x2 x4 1 sx0 sa1
def fn_M_markBelow_103 (rc50 : pl_H → Nat → Int32 → Int32 → Int32 → Option (pl_H)) (f : pl_H) (a0 : Nat) (x1 : Int32) (x2 : Int32) (x4 : Int32) (sx0 : Int32) : Option (pl_H) := (pl_gR f a0 8 9).bind fun v1 => (pl_gR f a0 8 9).bind fun v2 => (pl_aZ f v2 (((12 * x2) + 12) + x4)).bind fun v3 => if v3 = 0 then if sx0 = 0 then fn_M_markBelow_147 rc50 f a0 x1 x2 x4 0 (((12 * x2) + 12) + x4) v1 else fn_M_markBelow_142 rc50 f a0 x1 x2 x4 (((12 * x2) + 12) + x4) v1 else fn_M_markBelow_142 rc50 f a0 x1 x2 x4 (((12 * x2) + 12) + x4) v1
def fn_M_markBelow_102 (rc50 : pl_H → Nat → Int32 → Int32 → Int32 → Option (pl_H)) (f : pl_H) (a0 : Nat) (x1 : Int32) (x2 : Int32) (x4 : Int32) : Option (pl_H) := fn_M_markBelow_103 rc50 f a0 x1 x2 x4 0
def fn_M_markBelow_50 : Nat → pl_H → Nat → Int32 → Int32 → Int32 → Option (pl_H)
  | 0 => fun _ _ _ _ _ => none
  | k + 1 => fun f a0 x1 x2 x4 => (pl_gI f a0 8 0).bind fun v1 => if v1 ≤ x4 then fn_M_markBelow_154 f else (pl_gR f a0 8 1).bind fun v2 => (pl_aI f v2 x1).bind fun v3 => (pl_gR f a0 8 1).bind fun v4 => (pl_aI f v4 x4).bind fun v5 => (fn_M_agree f v3 v5 x2).bind fun v6 => if v6 = 0 then fn_M_markBelow_102 (fn_M_markBelow_50 k) f a0 x1 x2 x4 else (pl_gR f a0 8 1).bind fun v7 => (pl_aI f v7 x4).bind fun v8 => (pl_is f a0 8).bind fun u10 => (fn_M_first f a0 v8 (x2 + 1)).bind fun v9 => if v9 = x4 then fn_M_markBelow_103 (fn_M_markBelow_50 k) f a0 x1 x2 x4 1 else fn_M_markBelow_102 (fn_M_markBelow_50 k) f a0 x1 x2 x4
def fn_M_markBelow_37 (f : pl_H) (a0 : Nat) (x1 : Int32) (x2 : Int32) : Option (pl_H) := (pl_is f a0 8).bind fun u2 => (fn_M_group f a0 x1 x2).bind fun v1 => if v1 ≤ 1 then fn_M_markBelow_154 f else fn_M_markBelow_50 pl_N f a0 x1 x2 0
def fn_M_markBelow (f : pl_H) (a0 : Nat) (x1 : Int32) (x2 : Int32) : Option (pl_H) := (pl_is f a0 8).bind fun u2 => (fn_M_common f a0 x1 x2).bind fun v1 => (pl_is f a0 8).bind fun u4 => (fn_M_group f a0 x1 x2).bind fun v3 => if v3 ≤ 1 then fn_M_markBelow_37 f a0 x1 x2 else if v1 ≤ x2 then fn_M_markBelow_37 f a0 x1 x2 else (pl_gR f a0 8 9).bind fun v5 => (pl_sZ f v5 ((12 * v1) + x1) 1).bind fun f6 => fn_M_markBelow_154 f6
set_option maxHeartbeats 4000000 in
set_option maxRecDepth 100000 in
theorem tl_M_markBelow_154 {p : Program} {l : Launch} {e : Env} {s : State} {m : MethodId} {args : Array Value} {below : List Frame} {meth : Method} {c : Code} {D : va_G} {dA : Nat → ClassId} {tt : Nat → Nat} {b n : Nat} (C : pl_C p s m args meth c co_M_markBelow 6 rn_M none "markBelow" D dA tt b) {f' : pl_H} {f : pl_H} {H : Heap} {locs : List Loc} {ls : Array Slot} (hF : fn_M_markBelow_154 f = some f') (w : pl_wd D vwCl dA b n f H) (hS : va_S (pl_A b) s.heap H locs) (hl : lv_has ls 6 []) : W p l e rm_M_markBelow s m args below meth c H locs 0 0 (MQ below (pl_qV D dA tt b n f') args s 0 0 (pl_A b)) (F0 m 154 ls []) := by
  have hx := C.1
  have hb := C.2.1
  have hown := C.2.2.2.2.1
  have hts := C.2.2.2.2.2.2.1
  unfold fn_M_markBelow_154 at hF
  exact pl_retVw C w hS hF dc_M_markBelow_154
set_option maxHeartbeats 4000000 in
set_option maxRecDepth 100000 in
theorem tl_M_markBelow_147 {p : Program} {l : Launch} {e : Env} {s : State} {m : MethodId} {args : Array Value} {below : List Frame} {meth : Method} {c : Code} {D : va_G} {dA : Nat → ClassId} {tt : Nat → Nat} {b n : Nat} (C : pl_C p s m args meth c co_M_markBelow 6 rn_M none "markBelow" D dA tt b) {f' : pl_H} {rc50 : pl_H → Nat → Int32 → Int32 → Int32 → Option (pl_H)} (hr50 : ∀ (f : pl_H) (a0 : Nat) (x1 : Int32) (x2 : Int32) (x4 : Int32) (H : Heap) (locs : List Loc) (ls : Array Slot), rc50 f a0 x1 x2 x4 = some f' → pl_wd D vwCl dA b n f H → va_S (pl_A b) s.heap H locs → lv_has ls 6 [(0, .ref a0), (1, .int x1), (2, .int x2), (4, .int x4)] → W p l e rm_M_markBelow s m args below meth c H locs 0 0 (MQ below (pl_qV D dA tt b n f') args s 0 0 (pl_A b)) (F0 m 50 ls [])) {f : pl_H} {a0 : Nat} {x1 : Int32} {x2 : Int32} {x4 : Int32} {sx0 : Int32} {sx1 : Int32} {sa2 : Nat} {H : Heap} {locs : List Loc} {ls : Array Slot} (hF : fn_M_markBelow_147 rc50 f a0 x1 x2 x4 sx0 sx1 sa2 = some f') (w : pl_wd D vwCl dA b n f H) (hS : va_S (pl_A b) s.heap H locs) (hl : lv_has ls 6 [(0, .ref a0), (1, .int x1), (2, .int x2), (4, .int x4)]) : W p l e rm_M_markBelow s m args below meth c H locs 0 0 (MQ below (pl_qV D dA tt b n f') args s 0 0 (pl_A b)) (F0 m 147 ls [.int sx0, .int sx1, .ref sa2]) := by
  have hx := C.1
  have hb := C.2.1
  have hown := C.2.2.2.2.1
  have hts := C.2.2.2.2.2.2.1
  unfold fn_M_markBelow_147 at hF
  obtain ⟨f1, ef1, hF⟩ := pl_bd hF
  refine pl_astZ C w hS ef1 dc_M_markBelow_147 (fun H locs w hS => ?_)
  refine lv_iinc (k := 3) (v := x4 + 1) (lv' := [(4, .int (x4 + 1)), (0, .ref a0), (1, .int x1), (2, .int x2)]) hx hb dc_M_markBelow_148 hl rfl rfl (by decide) rfl (fun ls hl => ?_)
  refine lv_goto hx hb dc_M_markBelow_151 (tgt := 50) (by decide) ?_
  exact hr50 f1 a0 x1 x2 (x4 + 1) _ _ _ hF w hS (lv_sub hl [1, 2, 3, 0] rfl)
set_option maxHeartbeats 4000000 in
set_option maxRecDepth 100000 in
theorem tl_M_markBelow_142 {p : Program} {l : Launch} {e : Env} {s : State} {m : MethodId} {args : Array Value} {below : List Frame} {meth : Method} {c : Code} {D : va_G} {dA : Nat → ClassId} {tt : Nat → Nat} {b n : Nat} (C : pl_C p s m args meth c co_M_markBelow 6 rn_M none "markBelow" D dA tt b) {f' : pl_H} {rc50 : pl_H → Nat → Int32 → Int32 → Int32 → Option (pl_H)} (hr50 : ∀ (f : pl_H) (a0 : Nat) (x1 : Int32) (x2 : Int32) (x4 : Int32) (H : Heap) (locs : List Loc) (ls : Array Slot), rc50 f a0 x1 x2 x4 = some f' → pl_wd D vwCl dA b n f H → va_S (pl_A b) s.heap H locs → lv_has ls 6 [(0, .ref a0), (1, .int x1), (2, .int x2), (4, .int x4)] → W p l e rm_M_markBelow s m args below meth c H locs 0 0 (MQ below (pl_qV D dA tt b n f') args s 0 0 (pl_A b)) (F0 m 50 ls [])) {f : pl_H} {a0 : Nat} {x1 : Int32} {x2 : Int32} {x4 : Int32} {sx0 : Int32} {sa1 : Nat} {H : Heap} {locs : List Loc} {ls : Array Slot} (hF : fn_M_markBelow_142 rc50 f a0 x1 x2 x4 sx0 sa1 = some f') (w : pl_wd D vwCl dA b n f H) (hS : va_S (pl_A b) s.heap H locs) (hl : lv_has ls 6 [(0, .ref a0), (1, .int x1), (2, .int x2), (4, .int x4)]) : W p l e rm_M_markBelow s m args below meth c H locs 0 0 (MQ below (pl_qV D dA tt b n f') args s 0 0 (pl_A b)) (F0 m 142 ls [.int sx0, .ref sa1]) := by
  have hx := C.1
  have hb := C.2.1
  have hown := C.2.2.2.2.1
  have hts := C.2.2.2.2.2.2.1
  unfold fn_M_markBelow_142 at hF
  refine lv_iconst (v := 1) hx hb dc_M_markBelow_142 (by decide) ?_
  refine lv_goto hx hb dc_M_markBelow_143 (tgt := 147) (by decide) ?_
  exact tl_M_markBelow_147 C hr50 hF w hS (lv_sub hl [0, 1, 2, 3] rfl)
set_option maxHeartbeats 4000000 in
set_option maxRecDepth 100000 in
theorem tl_M_markBelow_103 {p : Program} {l : Launch} {e : Env} {s : State} {m : MethodId} {args : Array Value} {below : List Frame} {meth : Method} {c : Code} {D : va_G} {dA : Nat → ClassId} {tt : Nat → Nat} {b n : Nat} (C : pl_C p s m args meth c co_M_markBelow 6 rn_M none "markBelow" D dA tt b) {f' : pl_H} {rc50 : pl_H → Nat → Int32 → Int32 → Int32 → Option (pl_H)} (hr50 : ∀ (f : pl_H) (a0 : Nat) (x1 : Int32) (x2 : Int32) (x4 : Int32) (H : Heap) (locs : List Loc) (ls : Array Slot), rc50 f a0 x1 x2 x4 = some f' → pl_wd D vwCl dA b n f H → va_S (pl_A b) s.heap H locs → lv_has ls 6 [(0, .ref a0), (1, .int x1), (2, .int x2), (4, .int x4)] → W p l e rm_M_markBelow s m args below meth c H locs 0 0 (MQ below (pl_qV D dA tt b n f') args s 0 0 (pl_A b)) (F0 m 50 ls [])) {f : pl_H} {a0 : Nat} {x1 : Int32} {x2 : Int32} {x4 : Int32} {sx0 : Int32} {H : Heap} {locs : List Loc} {ls : Array Slot} (hF : fn_M_markBelow_103 rc50 f a0 x1 x2 x4 sx0 = some f') (w : pl_wd D vwCl dA b n f H) (hS : va_S (pl_A b) s.heap H locs) (hl : lv_has ls 6 [(0, .ref a0), (1, .int x1), (2, .int x2), (4, .int x4)]) : W p l e rm_M_markBelow s m args below meth c H locs 0 0 (MQ below (pl_qV D dA tt b n f') args s 0 0 (pl_A b)) (F0 m 103 ls [.int sx0]) := by
  have hx := C.1
  have hb := C.2.1
  have hown := C.2.2.2.2.1
  have hts := C.2.2.2.2.2.2.1
  unfold fn_M_markBelow_103 at hF
  refine lv_istore (lv' := [(5, .int sx0), (0, .ref a0), (1, .int x1), (2, .int x2), (4, .int x4)]) hx hb dc_M_markBelow_103 hl (by decide) rfl (fun ls hl => ?_)
  refine lv_aload_n hx hb dc_M_markBelow_105 rfl (lv_at hl 1 rfl) ?_
  obtain ⟨v1, ev1, hF⟩ := pl_bd hF
  refine pl_getR C w (ci := 8) in_M rfl (by decide) 9 (by decide) mw_706 ev1 dc_M_markBelow_106 ?_
  refine lv_bipush (v := 12) hx hb dc_M_markBelow_109 (by decide) ?_
  refine lv_iload_n hx hb dc_M_markBelow_111 rfl (lv_at hl 3 rfl) ?_
  refine lv_imul hx hb dc_M_markBelow_112 ?_
  refine lv_bipush (v := 12) hx hb dc_M_markBelow_113 (by decide) ?_
  refine lv_iadd hx hb dc_M_markBelow_115 ?_
  refine lv_iload hx hb dc_M_markBelow_116 (lv_at hl 4 rfl) ?_
  refine lv_iadd hx hb dc_M_markBelow_118 ?_
  refine lv_aload_n hx hb dc_M_markBelow_119 rfl (lv_at hl 1 rfl) ?_
  obtain ⟨v2, ev2, hF⟩ := pl_bd hF
  refine pl_getR C w (ci := 8) in_M rfl (by decide) 9 (by decide) mw_706 ev2 dc_M_markBelow_120 ?_
  refine lv_bipush (v := 12) hx hb dc_M_markBelow_123 (by decide) ?_
  refine lv_iload_n hx hb dc_M_markBelow_125 rfl (lv_at hl 3 rfl) ?_
  refine lv_imul hx hb dc_M_markBelow_126 ?_
  refine lv_bipush (v := 12) hx hb dc_M_markBelow_127 (by decide) ?_
  refine lv_iadd hx hb dc_M_markBelow_129 ?_
  refine lv_iload hx hb dc_M_markBelow_130 (lv_at hl 4 rfl) ?_
  refine lv_iadd hx hb dc_M_markBelow_132 ?_
  obtain ⟨v3, ev3, hF⟩ := pl_bd hF
  refine pl_aldZ C w ev3 dc_M_markBelow_133 ?_
  refine lv_if_ne hx hb dc_M_markBelow_134 (tgt := 142) (by decide) (fun hc => ?_) (fun hc => ?_)
  · have hF := (if_neg hc).symm.trans hF
    exact tl_M_markBelow_142 C hr50 hF w hS (lv_sub hl [1, 2, 3, 4] rfl)
  · have hF := (if_pos hc).symm.trans hF
    refine lv_iload hx hb dc_M_markBelow_137 (lv_at hl 0 rfl) ?_
    refine lv_if_eq hx hb dc_M_markBelow_139 (tgt := 146) (by decide) (fun hc => ?_) (fun hc => ?_)
    · have hF := (if_pos hc).symm.trans hF
      refine lv_iconst (v := 0) hx hb dc_M_markBelow_146 (by decide) ?_
      exact tl_M_markBelow_147 C hr50 hF w hS (lv_sub hl [1, 2, 3, 4] rfl)
    · have hF := (if_neg hc).symm.trans hF
      exact tl_M_markBelow_142 C hr50 hF w hS (lv_sub hl [1, 2, 3, 4] rfl)
set_option maxHeartbeats 4000000 in
set_option maxRecDepth 100000 in
theorem tl_M_markBelow_102 {p : Program} {l : Launch} {e : Env} {s : State} {m : MethodId} {args : Array Value} {below : List Frame} {meth : Method} {c : Code} {D : va_G} {dA : Nat → ClassId} {tt : Nat → Nat} {b n : Nat} (C : pl_C p s m args meth c co_M_markBelow 6 rn_M none "markBelow" D dA tt b) {f' : pl_H} {rc50 : pl_H → Nat → Int32 → Int32 → Int32 → Option (pl_H)} (hr50 : ∀ (f : pl_H) (a0 : Nat) (x1 : Int32) (x2 : Int32) (x4 : Int32) (H : Heap) (locs : List Loc) (ls : Array Slot), rc50 f a0 x1 x2 x4 = some f' → pl_wd D vwCl dA b n f H → va_S (pl_A b) s.heap H locs → lv_has ls 6 [(0, .ref a0), (1, .int x1), (2, .int x2), (4, .int x4)] → W p l e rm_M_markBelow s m args below meth c H locs 0 0 (MQ below (pl_qV D dA tt b n f') args s 0 0 (pl_A b)) (F0 m 50 ls [])) {f : pl_H} {a0 : Nat} {x1 : Int32} {x2 : Int32} {x4 : Int32} {H : Heap} {locs : List Loc} {ls : Array Slot} (hF : fn_M_markBelow_102 rc50 f a0 x1 x2 x4 = some f') (w : pl_wd D vwCl dA b n f H) (hS : va_S (pl_A b) s.heap H locs) (hl : lv_has ls 6 [(0, .ref a0), (1, .int x1), (2, .int x2), (4, .int x4)]) : W p l e rm_M_markBelow s m args below meth c H locs 0 0 (MQ below (pl_qV D dA tt b n f') args s 0 0 (pl_A b)) (F0 m 102 ls []) := by
  have hx := C.1
  have hb := C.2.1
  have hown := C.2.2.2.2.1
  have hts := C.2.2.2.2.2.2.1
  unfold fn_M_markBelow_102 at hF
  refine lv_iconst (v := 0) hx hb dc_M_markBelow_102 (by decide) ?_
  exact tl_M_markBelow_103 C hr50 hF w hS (lv_sub hl [0, 1, 2, 3] rfl)
set_option maxHeartbeats 4000000 in
set_option maxRecDepth 100000 in
theorem tl_M_markBelow_50 {p : Program} {l : Launch} {e : Env} {s : State} {m : MethodId} {args : Array Value} {below : List Frame} {meth : Method} {c : Code} {D : va_G} {dA : Nat → ClassId} {tt : Nat → Nat} {b n : Nat} (C : pl_C p s m args meth c co_M_markBelow 6 rn_M none "markBelow" D dA tt b) {f' : pl_H} : ∀ k : Nat, ∀ (f : pl_H) (a0 : Nat) (x1 : Int32) (x2 : Int32) (x4 : Int32) (H : Heap) (locs : List Loc) (ls : Array Slot), fn_M_markBelow_50 k f a0 x1 x2 x4 = some f' → pl_wd D vwCl dA b n f H → va_S (pl_A b) s.heap H locs → lv_has ls 6 [(0, .ref a0), (1, .int x1), (2, .int x2), (4, .int x4)] → W p l e rm_M_markBelow s m args below meth c H locs 0 0 (MQ below (pl_qV D dA tt b n f') args s 0 0 (pl_A b)) (F0 m 50 ls []) := by
  have hx := C.1
  have hb := C.2.1
  have hown := C.2.2.2.2.1
  have hts := C.2.2.2.2.2.2.1
  intro k
  induction k with
  | zero =>
    intro f a0 x1 x2 x4 H locs ls hF
    cases hF
  | succ k ih =>
    intro f a0 x1 x2 x4 H locs ls hF w hS hl
    unfold fn_M_markBelow_50 at hF
    refine lv_iload hx hb dc_M_markBelow_50 (lv_at hl 3 rfl) ?_
    refine lv_aload_n hx hb dc_M_markBelow_52 rfl (lv_at hl 0 rfl) ?_
    obtain ⟨v1, ev1, hF⟩ := pl_bd hF
    refine pl_getI C w (ci := 8) in_M rfl (by decide) 0 (by decide) mw_697 ev1 dc_M_markBelow_53 ?_
    refine lv_icmp_ge hx hb dc_M_markBelow_56 (tgt := 154) (by decide) (fun hc => ?_) (fun hc => ?_)
    · have hF := (if_pos hc).symm.trans hF
      exact tl_M_markBelow_154 C hF w hS (lv_sub hl [] rfl)
    · have hF := (if_neg hc).symm.trans hF
      refine lv_aload_n hx hb dc_M_markBelow_59 rfl (lv_at hl 0 rfl) ?_
      obtain ⟨v2, ev2, hF⟩ := pl_bd hF
      refine pl_getR C w (ci := 8) in_M rfl (by decide) 1 (by decide) mw_698 ev2 dc_M_markBelow_60 ?_
      refine lv_iload_n hx hb dc_M_markBelow_63 rfl (lv_at hl 1 rfl) ?_
      obtain ⟨v3, ev3, hF⟩ := pl_bd hF
      refine pl_aldI C w ev3 dc_M_markBelow_64 ?_
      refine lv_aload_n hx hb dc_M_markBelow_65 rfl (lv_at hl 0 rfl) ?_
      obtain ⟨v4, ev4, hF⟩ := pl_bd hF
      refine pl_getR C w (ci := 8) in_M rfl (by decide) 1 (by decide) mw_698 ev4 dc_M_markBelow_66 ?_
      refine lv_iload hx hb dc_M_markBelow_69 (lv_at hl 3 rfl) ?_
      obtain ⟨v5, ev5, hF⟩ := pl_bd hF
      refine pl_aldI C w ev5 dc_M_markBelow_71 ?_
      refine lv_iload_n hx hb dc_M_markBelow_72 rfl (lv_at hl 2 rfl) ?_
      obtain ⟨v6, ev6, hF⟩ := pl_bd hF
      refine pl_gi (pl_runS (k := 3) C (tm_M_agree l D dA tt b n ev6) w hS rfl rfl mw_867 mw_868 mw_72 mw_869 (by decide +kernel) ⟨by decide, by decide⟩ rfl hl.1 (Nat.le_of_ble_eq_true rfl) ⟨Nat.zero_le _, Nat.zero_le _⟩ rfl dc_M_markBelow_73) hS (fun H locs w hS => ?_)
      refine lv_if_eq hx hb dc_M_markBelow_76 (tgt := 102) (by decide) (fun hc => ?_) (fun hc => ?_)
      · have hF := (if_pos hc).symm.trans hF
        exact tl_M_markBelow_102 C ih hF w hS (lv_sub hl [0, 1, 2, 3] rfl)
      · have hF := (if_neg hc).symm.trans hF
        refine lv_aload_n hx hb dc_M_markBelow_79 rfl (lv_at hl 0 rfl) ?_
        refine lv_aload_n hx hb dc_M_markBelow_80 rfl (lv_at hl 0 rfl) ?_
        obtain ⟨v7, ev7, hF⟩ := pl_bd hF
        refine pl_getR C w (ci := 8) in_M rfl (by decide) 1 (by decide) mw_698 ev7 dc_M_markBelow_81 ?_
        refine lv_iload hx hb dc_M_markBelow_84 (lv_at hl 3 rfl) ?_
        obtain ⟨v8, ev8, hF⟩ := pl_bd hF
        refine pl_aldI C w ev8 dc_M_markBelow_86 ?_
        refine lv_iload_n hx hb dc_M_markBelow_87 rfl (lv_at hl 2 rfl) ?_
        refine lv_iconst (v := 1) hx hb dc_M_markBelow_88 (by decide) ?_
        refine lv_iadd hx hb dc_M_markBelow_89 ?_
        obtain ⟨u10, eu10, hF⟩ := pl_bd hF
        obtain ⟨v9, ev9, hF⟩ := pl_bd hF
        refine pl_gi (pl_runV (Cn := rn_M) (k := 2) C (tm_M_first l D dA tt b n ev9) w hS rfl rfl mw_899 mw_901 mw_43 mw_72 mw_902 (by decide +kernel) ⟨by decide, by decide⟩ eu10 rfl (by decide) rfl hl.1 (Nat.le_of_ble_eq_true rfl) ⟨Nat.zero_le _, Nat.zero_le _⟩ rfl dc_M_markBelow_90) hS (fun H locs w hS => ?_)
        refine lv_iload hx hb dc_M_markBelow_93 (lv_at hl 3 rfl) ?_
        refine lv_icmp_ne hx hb dc_M_markBelow_95 (tgt := 102) (by decide) (fun hc => ?_) (fun hc => ?_)
        · have hF := (if_neg hc).symm.trans hF
          exact tl_M_markBelow_102 C ih hF w hS (lv_sub hl [0, 1, 2, 3] rfl)
        · have hF := (if_pos hc).symm.trans hF
          refine lv_iconst (v := 1) hx hb dc_M_markBelow_98 (by decide) ?_
          refine lv_goto hx hb dc_M_markBelow_99 (tgt := 103) (by decide) ?_
          exact tl_M_markBelow_103 C ih hF w hS (lv_sub hl [0, 1, 2, 3] rfl)
set_option maxHeartbeats 4000000 in
set_option maxRecDepth 100000 in
theorem tl_M_markBelow_37 {p : Program} {l : Launch} {e : Env} {s : State} {m : MethodId} {args : Array Value} {below : List Frame} {meth : Method} {c : Code} {D : va_G} {dA : Nat → ClassId} {tt : Nat → Nat} {b n : Nat} (C : pl_C p s m args meth c co_M_markBelow 6 rn_M none "markBelow" D dA tt b) {f' : pl_H} {f : pl_H} {a0 : Nat} {x1 : Int32} {x2 : Int32} {H : Heap} {locs : List Loc} {ls : Array Slot} (hF : fn_M_markBelow_37 f a0 x1 x2 = some f') (w : pl_wd D vwCl dA b n f H) (hS : va_S (pl_A b) s.heap H locs) (hl : lv_has ls 6 [(0, .ref a0), (1, .int x1), (2, .int x2)]) : W p l e rm_M_markBelow s m args below meth c H locs 0 0 (MQ below (pl_qV D dA tt b n f') args s 0 0 (pl_A b)) (F0 m 37 ls []) := by
  have hx := C.1
  have hb := C.2.1
  have hown := C.2.2.2.2.1
  have hts := C.2.2.2.2.2.2.1
  unfold fn_M_markBelow_37 at hF
  refine lv_aload_n hx hb dc_M_markBelow_37 rfl (lv_at hl 0 rfl) ?_
  refine lv_iload_n hx hb dc_M_markBelow_38 rfl (lv_at hl 1 rfl) ?_
  refine lv_iload_n hx hb dc_M_markBelow_39 rfl (lv_at hl 2 rfl) ?_
  obtain ⟨u2, eu2, hF⟩ := pl_bd hF
  obtain ⟨v1, ev1, hF⟩ := pl_bd hF
  refine pl_gi (pl_runV (Cn := rn_M) (k := 2) C (tm_M_group l D dA tt b n ev1) w hS rfl rfl mw_863 mw_865 mw_37 mw_72 mw_866 (by decide +kernel) ⟨by decide, by decide⟩ eu2 rfl (by decide) rfl hl.1 (Nat.le_of_ble_eq_true rfl) ⟨Nat.zero_le _, Nat.zero_le _⟩ rfl dc_M_markBelow_40) hS (fun H locs w hS => ?_)
  refine lv_iconst (v := 1) hx hb dc_M_markBelow_43 (by decide) ?_
  refine lv_icmp_le hx hb dc_M_markBelow_44 (tgt := 154) (by decide) (fun hc => ?_) (fun hc => ?_)
  · have hF := (if_pos hc).symm.trans hF
    exact tl_M_markBelow_154 C hF w hS (lv_sub hl [] rfl)
  · have hF := (if_neg hc).symm.trans hF
    refine lv_iconst (v := 0) hx hb dc_M_markBelow_47 (by decide) ?_
    refine lv_istore (lv' := [(4, .int 0), (0, .ref a0), (1, .int x1), (2, .int x2)]) hx hb dc_M_markBelow_48 hl (by decide) rfl (fun ls hl => ?_)
    exact tl_M_markBelow_50 C pl_N f a0 x1 x2 0 _ _ _ hF w hS (lv_sub hl [1, 2, 3, 0] rfl)
set_option maxHeartbeats 4000000 in
set_option maxRecDepth 100000 in
theorem tl_M_markBelow {p : Program} {l : Launch} {e : Env} {s : State} {m : MethodId} {args : Array Value} {below : List Frame} {meth : Method} {c : Code} {D : va_G} {dA : Nat → ClassId} {tt : Nat → Nat} {b n : Nat} (C : pl_C p s m args meth c co_M_markBelow 6 rn_M none "markBelow" D dA tt b) {f' : pl_H} {f : pl_H} {a0 : Nat} {x1 : Int32} {x2 : Int32} {H : Heap} {locs : List Loc} {ls : Array Slot} (hF : fn_M_markBelow f a0 x1 x2 = some f') (w : pl_wd D vwCl dA b n f H) (hS : va_S (pl_A b) s.heap H locs) (hl : lv_has ls 6 [(0, .ref a0), (1, .int x1), (2, .int x2)]) : W p l e rm_M_markBelow s m args below meth c H locs 0 0 (MQ below (pl_qV D dA tt b n f') args s 0 0 (pl_A b)) (F0 m 0 ls []) := by
  have hx := C.1
  have hb := C.2.1
  have hown := C.2.2.2.2.1
  have hts := C.2.2.2.2.2.2.1
  unfold fn_M_markBelow at hF
  refine lv_aload_n hx hb dc_M_markBelow_0 rfl (lv_at hl 0 rfl) ?_
  refine lv_iload_n hx hb dc_M_markBelow_1 rfl (lv_at hl 1 rfl) ?_
  refine lv_iload_n hx hb dc_M_markBelow_2 rfl (lv_at hl 2 rfl) ?_
  obtain ⟨u2, eu2, hF⟩ := pl_bd hF
  obtain ⟨v1, ev1, hF⟩ := pl_bd hF
  refine pl_gi (pl_runV (Cn := rn_M) (k := 2) C (tm_M_common l D dA tt b n ev1) w hS rfl rfl mw_859 mw_861 mw_36 mw_72 mw_862 (by decide +kernel) ⟨by decide, by decide⟩ eu2 rfl (by decide) rfl hl.1 (Nat.le_of_ble_eq_true rfl) ⟨Nat.zero_le _, Nat.zero_le _⟩ rfl dc_M_markBelow_3) hS (fun H locs w hS => ?_)
  refine lv_istore_n (lv' := [(3, .int v1), (0, .ref a0), (1, .int x1), (2, .int x2)]) hx hb dc_M_markBelow_6 rfl hl (by decide) rfl (fun ls hl => ?_)
  refine lv_aload_n hx hb dc_M_markBelow_7 rfl (lv_at hl 1 rfl) ?_
  refine lv_iload_n hx hb dc_M_markBelow_8 rfl (lv_at hl 2 rfl) ?_
  refine lv_iload_n hx hb dc_M_markBelow_9 rfl (lv_at hl 3 rfl) ?_
  obtain ⟨u4, eu4, hF⟩ := pl_bd hF
  obtain ⟨v3, ev3, hF⟩ := pl_bd hF
  refine pl_gi (pl_runV (Cn := rn_M) (k := 2) C (tm_M_group l D dA tt b n ev3) w hS rfl rfl mw_863 mw_865 mw_37 mw_72 mw_866 (by decide +kernel) ⟨by decide, by decide⟩ eu4 rfl (by decide) rfl hl.1 (Nat.le_of_ble_eq_true rfl) ⟨Nat.zero_le _, Nat.zero_le _⟩ rfl dc_M_markBelow_10) hS (fun H locs w hS => ?_)
  refine lv_iconst (v := 1) hx hb dc_M_markBelow_13 (by decide) ?_
  refine lv_icmp_le hx hb dc_M_markBelow_14 (tgt := 37) (by decide) (fun hc => ?_) (fun hc => ?_)
  · have hF := (if_pos hc).symm.trans hF
    exact tl_M_markBelow_37 C hF w hS (lv_sub hl [1, 2, 3] rfl)
  · have hF := (if_neg hc).symm.trans hF
    refine lv_iload_n hx hb dc_M_markBelow_17 rfl (lv_at hl 0 rfl) ?_
    refine lv_iload_n hx hb dc_M_markBelow_18 rfl (lv_at hl 3 rfl) ?_
    refine lv_icmp_le hx hb dc_M_markBelow_19 (tgt := 37) (by decide) (fun hc => ?_) (fun hc => ?_)
    · have hF := (if_pos hc).symm.trans hF
      exact tl_M_markBelow_37 C hF w hS (lv_sub hl [1, 2, 3] rfl)
    · have hF := (if_neg hc).symm.trans hF
      refine lv_aload_n hx hb dc_M_markBelow_22 rfl (lv_at hl 1 rfl) ?_
      obtain ⟨v5, ev5, hF⟩ := pl_bd hF
      refine pl_getR C w (ci := 8) in_M rfl (by decide) 9 (by decide) mw_706 ev5 dc_M_markBelow_23 ?_
      refine lv_bipush (v := 12) hx hb dc_M_markBelow_26 (by decide) ?_
      refine lv_iload_n hx hb dc_M_markBelow_28 rfl (lv_at hl 0 rfl) ?_
      refine lv_imul hx hb dc_M_markBelow_29 ?_
      refine lv_iload_n hx hb dc_M_markBelow_30 rfl (lv_at hl 2 rfl) ?_
      refine lv_iadd hx hb dc_M_markBelow_31 ?_
      refine lv_iconst (v := 1) hx hb dc_M_markBelow_32 (by decide) ?_
      obtain ⟨f6, ef6, hF⟩ := pl_bd hF
      refine pl_astZ C w hS ef6 dc_M_markBelow_33 (fun H locs w hS => ?_)
      refine lv_goto hx hb dc_M_markBelow_34 (tgt := 154) (by decide) ?_
      exact tl_M_markBelow_154 C hF w hS (lv_sub hl [] rfl)
set_option maxHeartbeats 4000000 in
set_option maxRecDepth 100000 in
theorem tm_M_markBelow (l : Launch) (D : va_G) (dA : Nat → ClassId) (tt : Nat → Nat) (b n : Nat) {f : pl_H} {a0 : Nat} {x1 : Int32} {x2 : Int32} {f' : pl_H} (hF : fn_M_markBelow f a0 x1 x2 = some f') : Met l my_M_markBelow (Cond.code my_M_markBelow co_M_markBelow 6 none :: pl_tb) rm_M_markBelow (va_Pc [.ref a0, .int x1, .int x2] (pl_pre D dA tt b n f)) (pl_qV D dA tt b n f') 0 0 (pl_A b) := by
  refine Met.ofW (cc := co_M_markBelow) (maxL := 6) (ret := none) (by decide) rfl ?_
  intro p e s m args below meth c s₁ B hml hv
  obtain ⟨rfl, w, hK⟩ := hv
  have C : pl_C p s m _ meth c co_M_markBelow 6 rn_M none "markBelow" D dA tt b := ⟨B.exec, B.bytes, hml, B.returns, findClass_of_methodNamed B.named, B.notSynchronized, fun w hw => atoms_spec (ws := Cond.code my_M_markBelow co_M_markBelow 6 none :: pl_tb) B.pre w (List.mem_cons_of_mem _ hw), (name_of_methodNamed B.named B.method).1, hK⟩
  have hl := lv_entry ([.ref a0, .int x1, .int x2]) (n := 6) (Nat.le_of_ble_eq_true rfl)
  rw [lg_entry_eq]
  generalize (lg_sl ([.ref a0, .int x1, .int x2]) ++ List.replicate (6 - (lg_sl ([.ref a0, .int x1, .int x2])).length) Slot.unset).toArray = ls at hl ⊢
  have hl : lv_has ls 6 [(0, .ref a0), (1, .int x1), (2, .int x2)] := hl
  exact tl_M_markBelow C hF w va_S.rf hl
def rm_M_nodes : Room := { frames := 4, cells := 0, slots := 0, locals := 95 }
def fn_M_nodes_137 (rc51 : pl_H → Nat → Int32 → Int32 → Int32 → Option (Int32 × pl_H)) (rc59 : pl_H → Nat → Int32 → Int32 → Int32 → Int32 → Option (Int32 × pl_H)) (f : pl_H) (a0 : Nat) (x1 : Int32) (x2 : Int32) (x3 : Int32) (x4 : Int32) : Option (Int32 × pl_H) := rc59 f a0 x1 x2 x3 (x4 + 1)
def fn_M_nodes_129 (rc51 : pl_H → Nat → Int32 → Int32 → Int32 → Option (Int32 × pl_H)) (rc59 : pl_H → Nat → Int32 → Int32 → Int32 → Int32 → Option (Int32 × pl_H)) (f : pl_H) (a0 : Nat) (x1 : Int32) (x3 : Int32) (x4 : Int32) (sx0 : Int32) : Option (Int32 × pl_H) := (pl_is f a0 8).bind fun u2 => (fn_M_markBelow f a0 x4 x3).bind fun q1 => fn_M_nodes_137 rc51 rc59 q1 a0 x1 sx0 x3 x4
def fn_M_nodes_114 (rc51 : pl_H → Nat → Int32 → Int32 → Int32 → Option (Int32 × pl_H)) (rc59 : pl_H → Nat → Int32 → Int32 → Int32 → Int32 → Option (Int32 × pl_H)) (f : pl_H) (a0 : Nat) (x1 : Int32) (x2 : Int32) (x3 : Int32) (x4 : Int32) (sx0 : Int32) : Option (Int32 × pl_H) := if sx0 = x1 then fn_M_nodes_129 rc51 rc59 f a0 x1 x3 x4 (x2 + 1) else fn_M_nodes_129 rc51 rc59 f a0 x1 x3 x4 x2
def fn_M_nodes_59 (rc51 : pl_H → Nat → Int32 → Int32 → Int32 → Option (Int32 × pl_H)) : Nat → pl_H → Nat → Int32 → Int32 → Int32 → Int32 → Option (Int32 × pl_H)
  | 0 => fun _ _ _ _ _ _ => none
  | k + 1 => fun f a0 x1 x2 x3 x4 => (pl_gI f a0 8 0).bind fun v1 => if v1 ≤ x4 then rc51 f a0 x1 x2 (x3 + 1) else (pl_gR f a0 8 9).bind fun v2 => (pl_aZ f v2 ((12 * x3) + x4)).bind fun v3 => if v3 = 0 then fn_M_nodes_137 rc51 (fn_M_nodes_59 rc51 k) f a0 x1 x2 x3 x4 else (pl_is f a0 8).bind fun u5 => (fn_M_group f a0 x4 x3).bind fun v4 => if v4 = 1 then fn_M_nodes_114 rc51 (fn_M_nodes_59 rc51 k) f a0 x1 x2 x3 x4 0 else (pl_is f a0 8).bind fun u7 => (fn_M_common f a0 x4 x3).bind fun v6 => if v6 ≤ x3 then fn_M_nodes_114 rc51 (fn_M_nodes_59 rc51 k) f a0 x1 x2 x3 x4 2 else fn_M_nodes_114 rc51 (fn_M_nodes_59 rc51 k) f a0 x1 x2 x3 x4 1
def fn_M_nodes_51 : Nat → pl_H → Nat → Int32 → Int32 → Int32 → Option (Int32 × pl_H)
  | 0 => fun _ _ _ _ _ => none
  | k + 1 => fun f a0 x1 x2 x3 => if 5 ≤ x3 then some (x2, f) else fn_M_nodes_59 (fn_M_nodes_51 k) pl_N f a0 x1 x2 x3 0
def fn_M_nodes_40 (rc13 : pl_H → Nat → Int32 → Int32 → Option (Int32 × pl_H)) (f : pl_H) (a0 : Nat) (x1 : Int32) (x2 : Int32) (sx0 : Int32) (sx1 : Int32) (sa2 : Nat) : Option (Int32 × pl_H) := (pl_sZ f sa2 sx1 sx0).bind fun f1 => rc13 f1 a0 x1 (x2 + 1)
def fn_M_nodes_39 (rc13 : pl_H → Nat → Int32 → Int32 → Option (Int32 × pl_H)) (f : pl_H) (a0 : Nat) (x1 : Int32) (x2 : Int32) (sx0 : Int32) (sa1 : Nat) : Option (Int32 × pl_H) := fn_M_nodes_40 rc13 f a0 x1 x2 0 sx0 sa1
def fn_M_nodes_13 : Nat → pl_H → Nat → Int32 → Int32 → Option (Int32 × pl_H)
  | 0 => fun _ _ _ _ => none
  | k + 1 => fun f a0 x1 x2 => if 60 ≤ x2 then fn_M_nodes_51 pl_N f a0 x1 0 0 else (pl_gR f a0 8 9).bind fun v1 => if x2 = 0 then (pl_gI f a0 8 0).bind fun v2 => if v2 ≤ 0 then fn_M_nodes_39 (fn_M_nodes_13 k) f a0 x1 x2 x2 v1 else fn_M_nodes_40 (fn_M_nodes_13 k) f a0 x1 x2 1 x2 v1 else fn_M_nodes_39 (fn_M_nodes_13 k) f a0 x1 x2 x2 v1
def fn_M_nodes_9 (f : pl_H) : Option (Int32 × pl_H) := some ((-1), f)
def fn_M_nodes (f : pl_H) (a0 : Nat) (x1 : Int32) : Option (Int32 × pl_H) := if x1 < 0 then fn_M_nodes_9 f else if x1 ≤ 2 then fn_M_nodes_13 pl_N f a0 x1 0 else fn_M_nodes_9 f
set_option maxHeartbeats 4000000 in
set_option maxRecDepth 100000 in
theorem tl_M_nodes_137 {p : Program} {l : Launch} {e : Env} {s : State} {m : MethodId} {args : Array Value} {below : List Frame} {meth : Method} {c : Code} {D : va_G} {dA : Nat → ClassId} {tt : Nat → Nat} {b n : Nat} (C : pl_C p s m args meth c co_M_nodes 6 rn_M (some .int) "nodes" D dA tt b) {r : Int32} {f' : pl_H} {rc51 : pl_H → Nat → Int32 → Int32 → Int32 → Option (Int32 × pl_H)} (hr51 : ∀ (f : pl_H) (a0 : Nat) (x1 : Int32) (x2 : Int32) (x3 : Int32) (H : Heap) (locs : List Loc) (ls : Array Slot), rc51 f a0 x1 x2 x3 = some (r, f') → pl_wd D vwCl dA b n f H → va_S (pl_A b) s.heap H locs → lv_has ls 6 [(0, .ref a0), (1, .int x1), (2, .int x2), (3, .int x3)] → W p l e rm_M_nodes s m args below meth c H locs 0 0 (MQ below (pl_qI D dA tt b n f' r) args s 0 0 (pl_A b)) (F0 m 51 ls [])) {rc59 : pl_H → Nat → Int32 → Int32 → Int32 → Int32 → Option (Int32 × pl_H)} (hr59 : ∀ (f : pl_H) (a0 : Nat) (x1 : Int32) (x2 : Int32) (x3 : Int32) (x4 : Int32) (H : Heap) (locs : List Loc) (ls : Array Slot), rc59 f a0 x1 x2 x3 x4 = some (r, f') → pl_wd D vwCl dA b n f H → va_S (pl_A b) s.heap H locs → lv_has ls 6 [(0, .ref a0), (1, .int x1), (2, .int x2), (3, .int x3), (4, .int x4)] → W p l e rm_M_nodes s m args below meth c H locs 0 0 (MQ below (pl_qI D dA tt b n f' r) args s 0 0 (pl_A b)) (F0 m 59 ls [])) {f : pl_H} {a0 : Nat} {x1 : Int32} {x2 : Int32} {x3 : Int32} {x4 : Int32} {H : Heap} {locs : List Loc} {ls : Array Slot} (hF : fn_M_nodes_137 rc51 rc59 f a0 x1 x2 x3 x4 = some (r, f')) (w : pl_wd D vwCl dA b n f H) (hS : va_S (pl_A b) s.heap H locs) (hl : lv_has ls 6 [(0, .ref a0), (1, .int x1), (2, .int x2), (3, .int x3), (4, .int x4)]) : W p l e rm_M_nodes s m args below meth c H locs 0 0 (MQ below (pl_qI D dA tt b n f' r) args s 0 0 (pl_A b)) (F0 m 137 ls []) := by
  have hx := C.1
  have hb := C.2.1
  have hown := C.2.2.2.2.1
  have hts := C.2.2.2.2.2.2.1
  unfold fn_M_nodes_137 at hF
  refine lv_iinc (k := 4) (v := x4 + 1) (lv' := [(4, .int (x4 + 1)), (0, .ref a0), (1, .int x1), (2, .int x2), (3, .int x3)]) hx hb dc_M_nodes_137 hl rfl rfl (by decide) rfl (fun ls hl => ?_)
  refine lv_goto hx hb dc_M_nodes_140 (tgt := 59) (by decide) ?_
  exact hr59 f a0 x1 x2 x3 (x4 + 1) _ _ _ hF w hS (lv_sub hl [1, 2, 3, 4, 0] rfl)
set_option maxHeartbeats 4000000 in
set_option maxRecDepth 100000 in
theorem tl_M_nodes_129 {p : Program} {l : Launch} {e : Env} {s : State} {m : MethodId} {args : Array Value} {below : List Frame} {meth : Method} {c : Code} {D : va_G} {dA : Nat → ClassId} {tt : Nat → Nat} {b n : Nat} (C : pl_C p s m args meth c co_M_nodes 6 rn_M (some .int) "nodes" D dA tt b) {r : Int32} {f' : pl_H} {rc51 : pl_H → Nat → Int32 → Int32 → Int32 → Option (Int32 × pl_H)} (hr51 : ∀ (f : pl_H) (a0 : Nat) (x1 : Int32) (x2 : Int32) (x3 : Int32) (H : Heap) (locs : List Loc) (ls : Array Slot), rc51 f a0 x1 x2 x3 = some (r, f') → pl_wd D vwCl dA b n f H → va_S (pl_A b) s.heap H locs → lv_has ls 6 [(0, .ref a0), (1, .int x1), (2, .int x2), (3, .int x3)] → W p l e rm_M_nodes s m args below meth c H locs 0 0 (MQ below (pl_qI D dA tt b n f' r) args s 0 0 (pl_A b)) (F0 m 51 ls [])) {rc59 : pl_H → Nat → Int32 → Int32 → Int32 → Int32 → Option (Int32 × pl_H)} (hr59 : ∀ (f : pl_H) (a0 : Nat) (x1 : Int32) (x2 : Int32) (x3 : Int32) (x4 : Int32) (H : Heap) (locs : List Loc) (ls : Array Slot), rc59 f a0 x1 x2 x3 x4 = some (r, f') → pl_wd D vwCl dA b n f H → va_S (pl_A b) s.heap H locs → lv_has ls 6 [(0, .ref a0), (1, .int x1), (2, .int x2), (3, .int x3), (4, .int x4)] → W p l e rm_M_nodes s m args below meth c H locs 0 0 (MQ below (pl_qI D dA tt b n f' r) args s 0 0 (pl_A b)) (F0 m 59 ls [])) {f : pl_H} {a0 : Nat} {x1 : Int32} {x3 : Int32} {x4 : Int32} {sx0 : Int32} {H : Heap} {locs : List Loc} {ls : Array Slot} (hF : fn_M_nodes_129 rc51 rc59 f a0 x1 x3 x4 sx0 = some (r, f')) (w : pl_wd D vwCl dA b n f H) (hS : va_S (pl_A b) s.heap H locs) (hl : lv_has ls 6 [(0, .ref a0), (1, .int x1), (3, .int x3), (4, .int x4)]) : W p l e rm_M_nodes s m args below meth c H locs 0 0 (MQ below (pl_qI D dA tt b n f' r) args s 0 0 (pl_A b)) (F0 m 129 ls [.int sx0]) := by
  have hx := C.1
  have hb := C.2.1
  have hown := C.2.2.2.2.1
  have hts := C.2.2.2.2.2.2.1
  unfold fn_M_nodes_129 at hF
  refine lv_istore_n (lv' := [(2, .int sx0), (0, .ref a0), (1, .int x1), (3, .int x3), (4, .int x4)]) hx hb dc_M_nodes_129 rfl hl (by decide) rfl (fun ls hl => ?_)
  refine lv_aload_n hx hb dc_M_nodes_130 rfl (lv_at hl 1 rfl) ?_
  refine lv_iload hx hb dc_M_nodes_131 (lv_at hl 4 rfl) ?_
  refine lv_iload_n hx hb dc_M_nodes_133 rfl (lv_at hl 3 rfl) ?_
  obtain ⟨u2, eu2, hF⟩ := pl_bd hF
  obtain ⟨q1, eq1, hF⟩ := pl_bd hF
  refine pl_gv (pl_runV (Cn := rn_M) (k := 2) C (tm_M_markBelow l D dA tt b n eq1) w hS rfl rfl mw_931 mw_933 mw_49 mw_72 mw_934 (by decide +kernel) ⟨by decide, by decide⟩ eu2 rfl (by decide) rfl hl.1 (Nat.le_of_ble_eq_true rfl) ⟨Nat.zero_le _, Nat.zero_le _⟩ rfl dc_M_nodes_134) hS (fun H locs w hS => ?_)
  exact tl_M_nodes_137 C hr51 hr59 hF w hS (lv_sub hl [1, 2, 0, 3, 4] rfl)
set_option maxHeartbeats 4000000 in
set_option maxRecDepth 100000 in
theorem tl_M_nodes_114 {p : Program} {l : Launch} {e : Env} {s : State} {m : MethodId} {args : Array Value} {below : List Frame} {meth : Method} {c : Code} {D : va_G} {dA : Nat → ClassId} {tt : Nat → Nat} {b n : Nat} (C : pl_C p s m args meth c co_M_nodes 6 rn_M (some .int) "nodes" D dA tt b) {r : Int32} {f' : pl_H} {rc51 : pl_H → Nat → Int32 → Int32 → Int32 → Option (Int32 × pl_H)} (hr51 : ∀ (f : pl_H) (a0 : Nat) (x1 : Int32) (x2 : Int32) (x3 : Int32) (H : Heap) (locs : List Loc) (ls : Array Slot), rc51 f a0 x1 x2 x3 = some (r, f') → pl_wd D vwCl dA b n f H → va_S (pl_A b) s.heap H locs → lv_has ls 6 [(0, .ref a0), (1, .int x1), (2, .int x2), (3, .int x3)] → W p l e rm_M_nodes s m args below meth c H locs 0 0 (MQ below (pl_qI D dA tt b n f' r) args s 0 0 (pl_A b)) (F0 m 51 ls [])) {rc59 : pl_H → Nat → Int32 → Int32 → Int32 → Int32 → Option (Int32 × pl_H)} (hr59 : ∀ (f : pl_H) (a0 : Nat) (x1 : Int32) (x2 : Int32) (x3 : Int32) (x4 : Int32) (H : Heap) (locs : List Loc) (ls : Array Slot), rc59 f a0 x1 x2 x3 x4 = some (r, f') → pl_wd D vwCl dA b n f H → va_S (pl_A b) s.heap H locs → lv_has ls 6 [(0, .ref a0), (1, .int x1), (2, .int x2), (3, .int x3), (4, .int x4)] → W p l e rm_M_nodes s m args below meth c H locs 0 0 (MQ below (pl_qI D dA tt b n f' r) args s 0 0 (pl_A b)) (F0 m 59 ls [])) {f : pl_H} {a0 : Nat} {x1 : Int32} {x2 : Int32} {x3 : Int32} {x4 : Int32} {sx0 : Int32} {H : Heap} {locs : List Loc} {ls : Array Slot} (hF : fn_M_nodes_114 rc51 rc59 f a0 x1 x2 x3 x4 sx0 = some (r, f')) (w : pl_wd D vwCl dA b n f H) (hS : va_S (pl_A b) s.heap H locs) (hl : lv_has ls 6 [(0, .ref a0), (1, .int x1), (2, .int x2), (3, .int x3), (4, .int x4)]) : W p l e rm_M_nodes s m args below meth c H locs 0 0 (MQ below (pl_qI D dA tt b n f' r) args s 0 0 (pl_A b)) (F0 m 114 ls [.int sx0]) := by
  have hx := C.1
  have hb := C.2.1
  have hown := C.2.2.2.2.1
  have hts := C.2.2.2.2.2.2.1
  unfold fn_M_nodes_114 at hF
  refine lv_istore (lv' := [(5, .int sx0), (0, .ref a0), (1, .int x1), (2, .int x2), (3, .int x3), (4, .int x4)]) hx hb dc_M_nodes_114 hl (by decide) rfl (fun ls hl => ?_)
  refine lv_iload hx hb dc_M_nodes_116 (lv_at hl 0 rfl) ?_
  refine lv_iload_n hx hb dc_M_nodes_118 rfl (lv_at hl 2 rfl) ?_
  refine lv_icmp_ne hx hb dc_M_nodes_119 (tgt := 128) (by decide) (fun hc => ?_) (fun hc => ?_)
  · have hF := (if_neg hc).symm.trans hF
    refine lv_iload_n hx hb dc_M_nodes_128 rfl (lv_at hl 3 rfl) ?_
    exact tl_M_nodes_129 C hr51 hr59 hF w hS (lv_sub hl [1, 2, 4, 5] rfl)
  · have hF := (if_pos hc).symm.trans hF
    refine lv_iload_n hx hb dc_M_nodes_122 rfl (lv_at hl 3 rfl) ?_
    refine lv_iconst (v := 1) hx hb dc_M_nodes_123 (by decide) ?_
    refine lv_iadd hx hb dc_M_nodes_124 ?_
    refine lv_goto hx hb dc_M_nodes_125 (tgt := 129) (by decide) ?_
    exact tl_M_nodes_129 C hr51 hr59 hF w hS (lv_sub hl [1, 2, 4, 5] rfl)
set_option maxHeartbeats 4000000 in
set_option maxRecDepth 100000 in
theorem tl_M_nodes_59 {p : Program} {l : Launch} {e : Env} {s : State} {m : MethodId} {args : Array Value} {below : List Frame} {meth : Method} {c : Code} {D : va_G} {dA : Nat → ClassId} {tt : Nat → Nat} {b n : Nat} (C : pl_C p s m args meth c co_M_nodes 6 rn_M (some .int) "nodes" D dA tt b) {r : Int32} {f' : pl_H} {rc51 : pl_H → Nat → Int32 → Int32 → Int32 → Option (Int32 × pl_H)} (hr51 : ∀ (f : pl_H) (a0 : Nat) (x1 : Int32) (x2 : Int32) (x3 : Int32) (H : Heap) (locs : List Loc) (ls : Array Slot), rc51 f a0 x1 x2 x3 = some (r, f') → pl_wd D vwCl dA b n f H → va_S (pl_A b) s.heap H locs → lv_has ls 6 [(0, .ref a0), (1, .int x1), (2, .int x2), (3, .int x3)] → W p l e rm_M_nodes s m args below meth c H locs 0 0 (MQ below (pl_qI D dA tt b n f' r) args s 0 0 (pl_A b)) (F0 m 51 ls [])) : ∀ k : Nat, ∀ (f : pl_H) (a0 : Nat) (x1 : Int32) (x2 : Int32) (x3 : Int32) (x4 : Int32) (H : Heap) (locs : List Loc) (ls : Array Slot), fn_M_nodes_59 rc51 k f a0 x1 x2 x3 x4 = some (r, f') → pl_wd D vwCl dA b n f H → va_S (pl_A b) s.heap H locs → lv_has ls 6 [(0, .ref a0), (1, .int x1), (2, .int x2), (3, .int x3), (4, .int x4)] → W p l e rm_M_nodes s m args below meth c H locs 0 0 (MQ below (pl_qI D dA tt b n f' r) args s 0 0 (pl_A b)) (F0 m 59 ls []) := by
  have hx := C.1
  have hb := C.2.1
  have hown := C.2.2.2.2.1
  have hts := C.2.2.2.2.2.2.1
  intro k
  induction k with
  | zero =>
    intro f a0 x1 x2 x3 x4 H locs ls hF
    cases hF
  | succ k ih =>
    intro f a0 x1 x2 x3 x4 H locs ls hF w hS hl
    unfold fn_M_nodes_59 at hF
    refine lv_iload hx hb dc_M_nodes_59 (lv_at hl 4 rfl) ?_
    refine lv_aload_n hx hb dc_M_nodes_61 rfl (lv_at hl 0 rfl) ?_
    obtain ⟨v1, ev1, hF⟩ := pl_bd hF
    refine pl_getI C w (ci := 8) in_M rfl (by decide) 0 (by decide) mw_697 ev1 dc_M_nodes_62 ?_
    refine lv_icmp_ge hx hb dc_M_nodes_65 (tgt := 143) (by decide) (fun hc => ?_) (fun hc => ?_)
    · have hF := (if_pos hc).symm.trans hF
      refine lv_iinc (k := 3) (v := x3 + 1) (lv' := [(3, .int (x3 + 1)), (0, .ref a0), (1, .int x1), (2, .int x2), (4, .int x4)]) hx hb dc_M_nodes_143 hl rfl rfl (by decide) rfl (fun ls hl => ?_)
      refine lv_goto hx hb dc_M_nodes_146 (tgt := 51) (by decide) ?_
      exact hr51 f a0 x1 x2 (x3 + 1) _ _ _ hF w hS (lv_sub hl [1, 2, 3, 0] rfl)
    · have hF := (if_neg hc).symm.trans hF
      refine lv_aload_n hx hb dc_M_nodes_68 rfl (lv_at hl 0 rfl) ?_
      obtain ⟨v2, ev2, hF⟩ := pl_bd hF
      refine pl_getR C w (ci := 8) in_M rfl (by decide) 9 (by decide) mw_706 ev2 dc_M_nodes_69 ?_
      refine lv_bipush (v := 12) hx hb dc_M_nodes_72 (by decide) ?_
      refine lv_iload_n hx hb dc_M_nodes_74 rfl (lv_at hl 3 rfl) ?_
      refine lv_imul hx hb dc_M_nodes_75 ?_
      refine lv_iload hx hb dc_M_nodes_76 (lv_at hl 4 rfl) ?_
      refine lv_iadd hx hb dc_M_nodes_78 ?_
      obtain ⟨v3, ev3, hF⟩ := pl_bd hF
      refine pl_aldZ C w ev3 dc_M_nodes_79 ?_
      refine lv_if_eq hx hb dc_M_nodes_80 (tgt := 137) (by decide) (fun hc => ?_) (fun hc => ?_)
      · have hF := (if_pos hc).symm.trans hF
        exact tl_M_nodes_137 C hr51 ih hF w hS (lv_sub hl [0, 1, 2, 3, 4] rfl)
      · have hF := (if_neg hc).symm.trans hF
        refine lv_aload_n hx hb dc_M_nodes_83 rfl (lv_at hl 0 rfl) ?_
        refine lv_iload hx hb dc_M_nodes_84 (lv_at hl 4 rfl) ?_
        refine lv_iload_n hx hb dc_M_nodes_86 rfl (lv_at hl 3 rfl) ?_
        obtain ⟨u5, eu5, hF⟩ := pl_bd hF
        obtain ⟨v4, ev4, hF⟩ := pl_bd hF
        refine pl_gi (pl_runV (Cn := rn_M) (k := 2) C (tm_M_group l D dA tt b n ev4) w hS rfl rfl mw_863 mw_865 mw_37 mw_72 mw_866 (by decide +kernel) ⟨by decide, by decide⟩ eu5 rfl (by decide) rfl hl.1 (Nat.le_of_ble_eq_true rfl) ⟨Nat.zero_le _, Nat.zero_le _⟩ rfl dc_M_nodes_87) hS (fun H locs w hS => ?_)
        refine lv_iconst (v := 1) hx hb dc_M_nodes_90 (by decide) ?_
        refine lv_icmp_ne hx hb dc_M_nodes_91 (tgt := 98) (by decide) (fun hc => ?_) (fun hc => ?_)
        · have hF := (if_neg hc).symm.trans hF
          refine lv_aload_n hx hb dc_M_nodes_98 rfl (lv_at hl 0 rfl) ?_
          refine lv_iload hx hb dc_M_nodes_99 (lv_at hl 4 rfl) ?_
          refine lv_iload_n hx hb dc_M_nodes_101 rfl (lv_at hl 3 rfl) ?_
          obtain ⟨u7, eu7, hF⟩ := pl_bd hF
          obtain ⟨v6, ev6, hF⟩ := pl_bd hF
          refine pl_gi (pl_runV (Cn := rn_M) (k := 2) C (tm_M_common l D dA tt b n ev6) w hS rfl rfl mw_859 mw_861 mw_36 mw_72 mw_862 (by decide +kernel) ⟨by decide, by decide⟩ eu7 rfl (by decide) rfl hl.1 (Nat.le_of_ble_eq_true rfl) ⟨Nat.zero_le _, Nat.zero_le _⟩ rfl dc_M_nodes_102) hS (fun H locs w hS => ?_)
          refine lv_iload_n hx hb dc_M_nodes_105 rfl (lv_at hl 3 rfl) ?_
          refine lv_icmp_le hx hb dc_M_nodes_106 (tgt := 113) (by decide) (fun hc => ?_) (fun hc => ?_)
          · have hF := (if_pos hc).symm.trans hF
            refine lv_iconst (v := 2) hx hb dc_M_nodes_113 (by decide) ?_
            exact tl_M_nodes_114 C hr51 ih hF w hS (lv_sub hl [0, 1, 2, 3, 4] rfl)
          · have hF := (if_neg hc).symm.trans hF
            refine lv_iconst (v := 1) hx hb dc_M_nodes_109 (by decide) ?_
            refine lv_goto hx hb dc_M_nodes_110 (tgt := 114) (by decide) ?_
            exact tl_M_nodes_114 C hr51 ih hF w hS (lv_sub hl [0, 1, 2, 3, 4] rfl)
        · have hF := (if_pos hc).symm.trans hF
          refine lv_iconst (v := 0) hx hb dc_M_nodes_94 (by decide) ?_
          refine lv_goto hx hb dc_M_nodes_95 (tgt := 114) (by decide) ?_
          exact tl_M_nodes_114 C hr51 ih hF w hS (lv_sub hl [0, 1, 2, 3, 4] rfl)
set_option maxHeartbeats 4000000 in
set_option maxRecDepth 100000 in
theorem tl_M_nodes_51 {p : Program} {l : Launch} {e : Env} {s : State} {m : MethodId} {args : Array Value} {below : List Frame} {meth : Method} {c : Code} {D : va_G} {dA : Nat → ClassId} {tt : Nat → Nat} {b n : Nat} (C : pl_C p s m args meth c co_M_nodes 6 rn_M (some .int) "nodes" D dA tt b) {r : Int32} {f' : pl_H} : ∀ k : Nat, ∀ (f : pl_H) (a0 : Nat) (x1 : Int32) (x2 : Int32) (x3 : Int32) (H : Heap) (locs : List Loc) (ls : Array Slot), fn_M_nodes_51 k f a0 x1 x2 x3 = some (r, f') → pl_wd D vwCl dA b n f H → va_S (pl_A b) s.heap H locs → lv_has ls 6 [(0, .ref a0), (1, .int x1), (2, .int x2), (3, .int x3)] → W p l e rm_M_nodes s m args below meth c H locs 0 0 (MQ below (pl_qI D dA tt b n f' r) args s 0 0 (pl_A b)) (F0 m 51 ls []) := by
  have hx := C.1
  have hb := C.2.1
  have hown := C.2.2.2.2.1
  have hts := C.2.2.2.2.2.2.1
  intro k
  induction k with
  | zero =>
    intro f a0 x1 x2 x3 H locs ls hF
    cases hF
  | succ k ih =>
    intro f a0 x1 x2 x3 H locs ls hF w hS hl
    unfold fn_M_nodes_51 at hF
    refine lv_iload_n hx hb dc_M_nodes_51 rfl (lv_at hl 3 rfl) ?_
    refine lv_iconst (v := 5) hx hb dc_M_nodes_52 (by decide) ?_
    refine lv_icmp_ge hx hb dc_M_nodes_53 (tgt := 149) (by decide) (fun hc => ?_) (fun hc => ?_)
    · have hF := (if_pos hc).symm.trans hF
      refine lv_iload_n hx hb dc_M_nodes_149 rfl (lv_at hl 2 rfl) ?_
      exact pl_retIw C w hS hF dc_M_nodes_150
    · have hF := (if_neg hc).symm.trans hF
      refine lv_iconst (v := 0) hx hb dc_M_nodes_56 (by decide) ?_
      refine lv_istore (lv' := [(4, .int 0), (0, .ref a0), (1, .int x1), (2, .int x2), (3, .int x3)]) hx hb dc_M_nodes_57 hl (by decide) rfl (fun ls hl => ?_)
      exact tl_M_nodes_59 C ih pl_N f a0 x1 x2 x3 0 _ _ _ hF w hS (lv_sub hl [1, 2, 3, 4, 0] rfl)
set_option maxHeartbeats 4000000 in
set_option maxRecDepth 100000 in
theorem tl_M_nodes_40 {p : Program} {l : Launch} {e : Env} {s : State} {m : MethodId} {args : Array Value} {below : List Frame} {meth : Method} {c : Code} {D : va_G} {dA : Nat → ClassId} {tt : Nat → Nat} {b n : Nat} (C : pl_C p s m args meth c co_M_nodes 6 rn_M (some .int) "nodes" D dA tt b) {r : Int32} {f' : pl_H} {rc13 : pl_H → Nat → Int32 → Int32 → Option (Int32 × pl_H)} (hr13 : ∀ (f : pl_H) (a0 : Nat) (x1 : Int32) (x2 : Int32) (H : Heap) (locs : List Loc) (ls : Array Slot), rc13 f a0 x1 x2 = some (r, f') → pl_wd D vwCl dA b n f H → va_S (pl_A b) s.heap H locs → lv_has ls 6 [(0, .ref a0), (1, .int x1), (2, .int x2)] → W p l e rm_M_nodes s m args below meth c H locs 0 0 (MQ below (pl_qI D dA tt b n f' r) args s 0 0 (pl_A b)) (F0 m 13 ls [])) {f : pl_H} {a0 : Nat} {x1 : Int32} {x2 : Int32} {sx0 : Int32} {sx1 : Int32} {sa2 : Nat} {H : Heap} {locs : List Loc} {ls : Array Slot} (hF : fn_M_nodes_40 rc13 f a0 x1 x2 sx0 sx1 sa2 = some (r, f')) (w : pl_wd D vwCl dA b n f H) (hS : va_S (pl_A b) s.heap H locs) (hl : lv_has ls 6 [(0, .ref a0), (1, .int x1), (2, .int x2)]) : W p l e rm_M_nodes s m args below meth c H locs 0 0 (MQ below (pl_qI D dA tt b n f' r) args s 0 0 (pl_A b)) (F0 m 40 ls [.int sx0, .int sx1, .ref sa2]) := by
  have hx := C.1
  have hb := C.2.1
  have hown := C.2.2.2.2.1
  have hts := C.2.2.2.2.2.2.1
  unfold fn_M_nodes_40 at hF
  obtain ⟨f1, ef1, hF⟩ := pl_bd hF
  refine pl_astZ C w hS ef1 dc_M_nodes_40 (fun H locs w hS => ?_)
  refine lv_iinc (k := 2) (v := x2 + 1) (lv' := [(2, .int (x2 + 1)), (0, .ref a0), (1, .int x1)]) hx hb dc_M_nodes_41 hl rfl rfl (by decide) rfl (fun ls hl => ?_)
  refine lv_goto hx hb dc_M_nodes_44 (tgt := 13) (by decide) ?_
  exact hr13 f1 a0 x1 (x2 + 1) _ _ _ hF w hS (lv_sub hl [1, 2, 0] rfl)
set_option maxHeartbeats 4000000 in
set_option maxRecDepth 100000 in
theorem tl_M_nodes_39 {p : Program} {l : Launch} {e : Env} {s : State} {m : MethodId} {args : Array Value} {below : List Frame} {meth : Method} {c : Code} {D : va_G} {dA : Nat → ClassId} {tt : Nat → Nat} {b n : Nat} (C : pl_C p s m args meth c co_M_nodes 6 rn_M (some .int) "nodes" D dA tt b) {r : Int32} {f' : pl_H} {rc13 : pl_H → Nat → Int32 → Int32 → Option (Int32 × pl_H)} (hr13 : ∀ (f : pl_H) (a0 : Nat) (x1 : Int32) (x2 : Int32) (H : Heap) (locs : List Loc) (ls : Array Slot), rc13 f a0 x1 x2 = some (r, f') → pl_wd D vwCl dA b n f H → va_S (pl_A b) s.heap H locs → lv_has ls 6 [(0, .ref a0), (1, .int x1), (2, .int x2)] → W p l e rm_M_nodes s m args below meth c H locs 0 0 (MQ below (pl_qI D dA tt b n f' r) args s 0 0 (pl_A b)) (F0 m 13 ls [])) {f : pl_H} {a0 : Nat} {x1 : Int32} {x2 : Int32} {sx0 : Int32} {sa1 : Nat} {H : Heap} {locs : List Loc} {ls : Array Slot} (hF : fn_M_nodes_39 rc13 f a0 x1 x2 sx0 sa1 = some (r, f')) (w : pl_wd D vwCl dA b n f H) (hS : va_S (pl_A b) s.heap H locs) (hl : lv_has ls 6 [(0, .ref a0), (1, .int x1), (2, .int x2)]) : W p l e rm_M_nodes s m args below meth c H locs 0 0 (MQ below (pl_qI D dA tt b n f' r) args s 0 0 (pl_A b)) (F0 m 39 ls [.int sx0, .ref sa1]) := by
  have hx := C.1
  have hb := C.2.1
  have hown := C.2.2.2.2.1
  have hts := C.2.2.2.2.2.2.1
  unfold fn_M_nodes_39 at hF
  refine lv_iconst (v := 0) hx hb dc_M_nodes_39 (by decide) ?_
  exact tl_M_nodes_40 C hr13 hF w hS (lv_sub hl [0, 1, 2] rfl)
set_option maxHeartbeats 4000000 in
set_option maxRecDepth 100000 in
theorem tl_M_nodes_13 {p : Program} {l : Launch} {e : Env} {s : State} {m : MethodId} {args : Array Value} {below : List Frame} {meth : Method} {c : Code} {D : va_G} {dA : Nat → ClassId} {tt : Nat → Nat} {b n : Nat} (C : pl_C p s m args meth c co_M_nodes 6 rn_M (some .int) "nodes" D dA tt b) {r : Int32} {f' : pl_H} : ∀ k : Nat, ∀ (f : pl_H) (a0 : Nat) (x1 : Int32) (x2 : Int32) (H : Heap) (locs : List Loc) (ls : Array Slot), fn_M_nodes_13 k f a0 x1 x2 = some (r, f') → pl_wd D vwCl dA b n f H → va_S (pl_A b) s.heap H locs → lv_has ls 6 [(0, .ref a0), (1, .int x1), (2, .int x2)] → W p l e rm_M_nodes s m args below meth c H locs 0 0 (MQ below (pl_qI D dA tt b n f' r) args s 0 0 (pl_A b)) (F0 m 13 ls []) := by
  have hx := C.1
  have hb := C.2.1
  have hown := C.2.2.2.2.1
  have hts := C.2.2.2.2.2.2.1
  intro k
  induction k with
  | zero =>
    intro f a0 x1 x2 H locs ls hF
    cases hF
  | succ k ih =>
    intro f a0 x1 x2 H locs ls hF w hS hl
    unfold fn_M_nodes_13 at hF
    refine lv_iload_n hx hb dc_M_nodes_13 rfl (lv_at hl 2 rfl) ?_
    refine lv_bipush (v := 60) hx hb dc_M_nodes_14 (by decide) ?_
    refine lv_icmp_ge hx hb dc_M_nodes_16 (tgt := 47) (by decide) (fun hc => ?_) (fun hc => ?_)
    · have hF := (if_pos hc).symm.trans hF
      refine lv_iconst (v := 0) hx hb dc_M_nodes_47 (by decide) ?_
      refine lv_istore_n (lv' := [(2, .int 0), (0, .ref a0), (1, .int x1)]) hx hb dc_M_nodes_48 rfl hl (by decide) rfl (fun ls hl => ?_)
      refine lv_iconst (v := 0) hx hb dc_M_nodes_49 (by decide) ?_
      refine lv_istore_n (lv' := [(3, .int 0), (2, .int 0), (0, .ref a0), (1, .int x1)]) hx hb dc_M_nodes_50 rfl hl (by decide) rfl (fun ls hl => ?_)
      exact tl_M_nodes_51 C pl_N f a0 x1 0 0 _ _ _ hF w hS (lv_sub hl [2, 3, 1, 0] rfl)
    · have hF := (if_neg hc).symm.trans hF
      refine lv_aload_n hx hb dc_M_nodes_19 rfl (lv_at hl 0 rfl) ?_
      obtain ⟨v1, ev1, hF⟩ := pl_bd hF
      refine pl_getR C w (ci := 8) in_M rfl (by decide) 9 (by decide) mw_706 ev1 dc_M_nodes_20 ?_
      refine lv_iload_n hx hb dc_M_nodes_23 rfl (lv_at hl 2 rfl) ?_
      refine lv_iload_n hx hb dc_M_nodes_24 rfl (lv_at hl 2 rfl) ?_
      refine lv_if_ne hx hb dc_M_nodes_25 (tgt := 39) (by decide) (fun hc => ?_) (fun hc => ?_)
      · have hF := (if_neg hc).symm.trans hF
        exact tl_M_nodes_39 C ih hF w hS (lv_sub hl [0, 1, 2] rfl)
      · have hF := (if_pos hc).symm.trans hF
        refine lv_aload_n hx hb dc_M_nodes_28 rfl (lv_at hl 0 rfl) ?_
        obtain ⟨v2, ev2, hF⟩ := pl_bd hF
        refine pl_getI C w (ci := 8) in_M rfl (by decide) 0 (by decide) mw_697 ev2 dc_M_nodes_29 ?_
        refine lv_if_le hx hb dc_M_nodes_32 (tgt := 39) (by decide) (fun hc => ?_) (fun hc => ?_)
        · have hF := (if_pos hc).symm.trans hF
          exact tl_M_nodes_39 C ih hF w hS (lv_sub hl [0, 1, 2] rfl)
        · have hF := (if_neg hc).symm.trans hF
          refine lv_iconst (v := 1) hx hb dc_M_nodes_35 (by decide) ?_
          refine lv_goto hx hb dc_M_nodes_36 (tgt := 40) (by decide) ?_
          exact tl_M_nodes_40 C ih hF w hS (lv_sub hl [0, 1, 2] rfl)
set_option maxHeartbeats 4000000 in
set_option maxRecDepth 100000 in
theorem tl_M_nodes_9 {p : Program} {l : Launch} {e : Env} {s : State} {m : MethodId} {args : Array Value} {below : List Frame} {meth : Method} {c : Code} {D : va_G} {dA : Nat → ClassId} {tt : Nat → Nat} {b n : Nat} (C : pl_C p s m args meth c co_M_nodes 6 rn_M (some .int) "nodes" D dA tt b) {r : Int32} {f' : pl_H} {f : pl_H} {H : Heap} {locs : List Loc} {ls : Array Slot} (hF : fn_M_nodes_9 f = some (r, f')) (w : pl_wd D vwCl dA b n f H) (hS : va_S (pl_A b) s.heap H locs) (hl : lv_has ls 6 []) : W p l e rm_M_nodes s m args below meth c H locs 0 0 (MQ below (pl_qI D dA tt b n f' r) args s 0 0 (pl_A b)) (F0 m 9 ls []) := by
  have hx := C.1
  have hb := C.2.1
  have hown := C.2.2.2.2.1
  have hts := C.2.2.2.2.2.2.1
  unfold fn_M_nodes_9 at hF
  refine lv_iconst (v := (-1)) hx hb dc_M_nodes_9 (by decide) ?_
  exact pl_retIw C w hS hF dc_M_nodes_10
set_option maxHeartbeats 4000000 in
set_option maxRecDepth 100000 in
theorem tl_M_nodes {p : Program} {l : Launch} {e : Env} {s : State} {m : MethodId} {args : Array Value} {below : List Frame} {meth : Method} {c : Code} {D : va_G} {dA : Nat → ClassId} {tt : Nat → Nat} {b n : Nat} (C : pl_C p s m args meth c co_M_nodes 6 rn_M (some .int) "nodes" D dA tt b) {r : Int32} {f' : pl_H} {f : pl_H} {a0 : Nat} {x1 : Int32} {H : Heap} {locs : List Loc} {ls : Array Slot} (hF : fn_M_nodes f a0 x1 = some (r, f')) (w : pl_wd D vwCl dA b n f H) (hS : va_S (pl_A b) s.heap H locs) (hl : lv_has ls 6 [(0, .ref a0), (1, .int x1)]) : W p l e rm_M_nodes s m args below meth c H locs 0 0 (MQ below (pl_qI D dA tt b n f' r) args s 0 0 (pl_A b)) (F0 m 0 ls []) := by
  have hx := C.1
  have hb := C.2.1
  have hown := C.2.2.2.2.1
  have hts := C.2.2.2.2.2.2.1
  unfold fn_M_nodes at hF
  refine lv_iload_n hx hb dc_M_nodes_0 rfl (lv_at hl 1 rfl) ?_
  refine lv_if_lt hx hb dc_M_nodes_1 (tgt := 9) (by decide) (fun hc => ?_) (fun hc => ?_)
  · have hF := (if_pos hc).symm.trans hF
    exact tl_M_nodes_9 C hF w hS (lv_sub hl [] rfl)
  · have hF := (if_neg hc).symm.trans hF
    refine lv_iload_n hx hb dc_M_nodes_4 rfl (lv_at hl 1 rfl) ?_
    refine lv_iconst (v := 2) hx hb dc_M_nodes_5 (by decide) ?_
    refine lv_icmp_le hx hb dc_M_nodes_6 (tgt := 11) (by decide) (fun hc => ?_) (fun hc => ?_)
    · have hF := (if_pos hc).symm.trans hF
      refine lv_iconst (v := 0) hx hb dc_M_nodes_11 (by decide) ?_
      refine lv_istore_n (lv' := [(2, .int 0), (0, .ref a0), (1, .int x1)]) hx hb dc_M_nodes_12 rfl hl (by decide) rfl (fun ls hl => ?_)
      exact tl_M_nodes_13 C pl_N f a0 x1 0 _ _ _ hF w hS (lv_sub hl [1, 2, 0] rfl)
    · have hF := (if_neg hc).symm.trans hF
      exact tl_M_nodes_9 C hF w hS (lv_sub hl [] rfl)
set_option maxHeartbeats 4000000 in
set_option maxRecDepth 100000 in
theorem tm_M_nodes (l : Launch) (D : va_G) (dA : Nat → ClassId) (tt : Nat → Nat) (b n : Nat) {f : pl_H} {a0 : Nat} {x1 : Int32} {r : Int32} {f' : pl_H} (hF : fn_M_nodes f a0 x1 = some (r, f')) : Met l my_M_nodes (Cond.code my_M_nodes co_M_nodes 6 (some .int) :: pl_tb) rm_M_nodes (va_Pc [.ref a0, .int x1] (pl_pre D dA tt b n f)) (pl_qI D dA tt b n f' r) 0 0 (pl_A b) := by
  refine Met.ofW (cc := co_M_nodes) (maxL := 6) (ret := (some .int)) (by decide) rfl ?_
  intro p e s m args below meth c s₁ B hml hv
  obtain ⟨rfl, w, hK⟩ := hv
  have C : pl_C p s m _ meth c co_M_nodes 6 rn_M (some .int) "nodes" D dA tt b := ⟨B.exec, B.bytes, hml, B.returns, findClass_of_methodNamed B.named, B.notSynchronized, fun w hw => atoms_spec (ws := Cond.code my_M_nodes co_M_nodes 6 (some .int) :: pl_tb) B.pre w (List.mem_cons_of_mem _ hw), (name_of_methodNamed B.named B.method).1, hK⟩
  have hl := lv_entry ([.ref a0, .int x1]) (n := 6) (Nat.le_of_ble_eq_true rfl)
  rw [lg_entry_eq]
  generalize (lg_sl ([.ref a0, .int x1]) ++ List.replicate (6 - (lg_sl ([.ref a0, .int x1])).length) Slot.unset).toArray = ls at hl ⊢
  have hl : lv_has ls 6 [(0, .ref a0), (1, .int x1)] := hl
  exact tl_M_nodes C hF w va_S.rf hl
def rm_M_size : Room := { frames := 6, cells := 0, slots := 0, locals := 139 }
def fn_M_size (f : pl_H) (a0 : Nat) : Option (Int32 × pl_H) := (pl_is f a0 8).bind fun u2 => (fn_M_work f a0).bind fun q1 => (pl_is q1 a0 8).bind fun u4 => (fn_M_top q1 a0).bind fun q3 => (pl_gI q3 a0 8 12).bind fun v5 => some (v5, q3)
set_option maxHeartbeats 4000000 in
set_option maxRecDepth 100000 in
theorem tl_M_size {p : Program} {l : Launch} {e : Env} {s : State} {m : MethodId} {args : Array Value} {below : List Frame} {meth : Method} {c : Code} {D : va_G} {dA : Nat → ClassId} {tt : Nat → Nat} {b n : Nat} (C : pl_C p s m args meth c co_M_size 1 rn_M (some .int) "size" D dA tt b) {r : Int32} {f' : pl_H} {f : pl_H} {a0 : Nat} {H : Heap} {locs : List Loc} {ls : Array Slot} (hF : fn_M_size f a0 = some (r, f')) (w : pl_wd D vwCl dA b n f H) (hS : va_S (pl_A b) s.heap H locs) (hl : lv_has ls 1 [(0, .ref a0)]) : W p l e rm_M_size s m args below meth c H locs 0 0 (MQ below (pl_qI D dA tt b n f' r) args s 0 0 (pl_A b)) (F0 m 0 ls []) := by
  have hx := C.1
  have hb := C.2.1
  have hown := C.2.2.2.2.1
  have hts := C.2.2.2.2.2.2.1
  unfold fn_M_size at hF
  refine lv_aload_n hx hb dc_M_size_0 rfl (lv_at hl 0 rfl) ?_
  obtain ⟨u2, eu2, hF⟩ := pl_bd hF
  obtain ⟨q1, eq1, hF⟩ := pl_bd hF
  refine pl_gv (pl_runV (Cn := rn_M) (k := 0) C (tm_M_work l D dA tt b n eq1) w hS rfl rfl mw_851 mw_853 mw_34 mw_72 mw_854 (by decide +kernel) ⟨by decide, by decide⟩ eu2 rfl (by decide) rfl hl.1 (Nat.le_of_ble_eq_true rfl) ⟨Nat.zero_le _, Nat.zero_le _⟩ rfl dc_M_size_1) hS (fun H locs w hS => ?_)
  refine lv_aload_n hx hb dc_M_size_4 rfl (lv_at hl 0 rfl) ?_
  obtain ⟨u4, eu4, hF⟩ := pl_bd hF
  obtain ⟨q3, eq3, hF⟩ := pl_bd hF
  refine pl_gv (pl_runV (Cn := rn_M) (k := 0) C (tm_M_top l D dA tt b n eq3) w hS rfl rfl mw_923 mw_925 mw_48 mw_72 mw_926 (by decide +kernel) ⟨by decide, by decide⟩ eu4 rfl (by decide) rfl hl.1 (Nat.le_of_ble_eq_true rfl) ⟨Nat.zero_le _, Nat.zero_le _⟩ rfl dc_M_size_5) hS (fun H locs w hS => ?_)
  refine lv_aload_n hx hb dc_M_size_8 rfl (lv_at hl 0 rfl) ?_
  obtain ⟨v5, ev5, hF⟩ := pl_bd hF
  refine pl_getI C w (ci := 8) in_M rfl (by decide) 12 (by decide) mw_709 ev5 dc_M_size_9 ?_
  exact pl_retIw C w hS hF dc_M_size_12
set_option maxHeartbeats 4000000 in
set_option maxRecDepth 100000 in
theorem tm_M_size (l : Launch) (D : va_G) (dA : Nat → ClassId) (tt : Nat → Nat) (b n : Nat) {f : pl_H} {a0 : Nat} {r : Int32} {f' : pl_H} (hF : fn_M_size f a0 = some (r, f')) : Met l my_M_size (Cond.code my_M_size co_M_size 1 (some .int) :: pl_tb) rm_M_size (va_Pc [.ref a0] (pl_pre D dA tt b n f)) (pl_qI D dA tt b n f' r) 0 0 (pl_A b) := by
  refine Met.ofW (cc := co_M_size) (maxL := 1) (ret := (some .int)) (by decide) rfl ?_
  intro p e s m args below meth c s₁ B hml hv
  obtain ⟨rfl, w, hK⟩ := hv
  have C : pl_C p s m _ meth c co_M_size 1 rn_M (some .int) "size" D dA tt b := ⟨B.exec, B.bytes, hml, B.returns, findClass_of_methodNamed B.named, B.notSynchronized, fun w hw => atoms_spec (ws := Cond.code my_M_size co_M_size 1 (some .int) :: pl_tb) B.pre w (List.mem_cons_of_mem _ hw), (name_of_methodNamed B.named B.method).1, hK⟩
  have hl := lv_entry ([.ref a0]) (n := 1) (Nat.le_of_ble_eq_true rfl)
  rw [lg_entry_eq]
  generalize (lg_sl ([.ref a0]) ++ List.replicate (1 - (lg_sl ([.ref a0])).length) Slot.unset).toArray = ls at hl ⊢
  have hl : lv_has ls 1 [(0, .ref a0)] := hl
  exact tl_M_size C hF w va_S.rf hl
def rm_M_keepPart : Room := { frames := 0, cells := 0, slots := 0, locals := 0 }
def fn_M_keepPart_2 : Nat → pl_H → Nat → Int32 → Option (pl_H)
  | 0 => fun _ _ _ => none
  | k + 1 => fun f a0 x1 => (pl_gI f a0 8 12).bind fun v1 => if v1 ≤ x1 then (pl_gR f a0 8 17).bind fun v2 => (pl_gI f a0 8 16).bind fun v3 => (pl_gI f a0 8 12).bind fun v4 => (pl_sI f v2 v3 v4).bind fun f5 => (pl_gI f5 a0 8 16).bind fun v6 => (pl_pV f5 a0 8 16 (.int (v6 + 1))).bind fun f7 => some f7 else (pl_gR f a0 8 18).bind fun v8 => (pl_gI f a0 8 16).bind fun v9 => (pl_gR f a0 8 13).bind fun v10 => (pl_aI f v10 x1).bind fun v11 => (pl_sI f v8 ((600 * v9) + x1) v11).bind fun f12 => fn_M_keepPart_2 k f12 a0 (x1 + 1)
def fn_M_keepPart (f : pl_H) (a0 : Nat) : Option (pl_H) := fn_M_keepPart_2 pl_N f a0 0
set_option maxHeartbeats 4000000 in
set_option maxRecDepth 100000 in
theorem tl_M_keepPart_2 {p : Program} {l : Launch} {e : Env} {s : State} {m : MethodId} {args : Array Value} {below : List Frame} {meth : Method} {c : Code} {D : va_G} {dA : Nat → ClassId} {tt : Nat → Nat} {b n : Nat} (C : pl_C p s m args meth c co_M_keepPart 2 rn_M none "keepPart" D dA tt b) {f' : pl_H} : ∀ k : Nat, ∀ (f : pl_H) (a0 : Nat) (x1 : Int32) (H : Heap) (locs : List Loc) (ls : Array Slot), fn_M_keepPart_2 k f a0 x1 = some f' → pl_wd D vwCl dA b n f H → va_S (pl_A b) s.heap H locs → lv_has ls 2 [(0, .ref a0), (1, .int x1)] → W p l e rm_M_keepPart s m args below meth c H locs 0 0 (MQ below (pl_qV D dA tt b n f') args s 0 0 (pl_A b)) (F0 m 2 ls []) := by
  have hx := C.1
  have hb := C.2.1
  have hown := C.2.2.2.2.1
  have hts := C.2.2.2.2.2.2.1
  intro k
  induction k with
  | zero =>
    intro f a0 x1 H locs ls hF
    cases hF
  | succ k ih =>
    intro f a0 x1 H locs ls hF w hS hl
    unfold fn_M_keepPart_2 at hF
    refine lv_iload_n hx hb dc_M_keepPart_2 rfl (lv_at hl 1 rfl) ?_
    refine lv_aload_n hx hb dc_M_keepPart_3 rfl (lv_at hl 0 rfl) ?_
    obtain ⟨v1, ev1, hF⟩ := pl_bd hF
    refine pl_getI C w (ci := 8) in_M rfl (by decide) 12 (by decide) mw_709 ev1 dc_M_keepPart_4 ?_
    refine lv_icmp_ge hx hb dc_M_keepPart_7 (tgt := 37) (by decide) (fun hc => ?_) (fun hc => ?_)
    · have hF := (if_pos hc).symm.trans hF
      refine lv_aload_n hx hb dc_M_keepPart_37 rfl (lv_at hl 0 rfl) ?_
      obtain ⟨v2, ev2, hF⟩ := pl_bd hF
      refine pl_getR C w (ci := 8) in_M rfl (by decide) 17 (by decide) mw_714 ev2 dc_M_keepPart_38 ?_
      refine lv_aload_n hx hb dc_M_keepPart_41 rfl (lv_at hl 0 rfl) ?_
      obtain ⟨v3, ev3, hF⟩ := pl_bd hF
      refine pl_getI C w (ci := 8) in_M rfl (by decide) 16 (by decide) mw_713 ev3 dc_M_keepPart_42 ?_
      refine lv_aload_n hx hb dc_M_keepPart_45 rfl (lv_at hl 0 rfl) ?_
      obtain ⟨v4, ev4, hF⟩ := pl_bd hF
      refine pl_getI C w (ci := 8) in_M rfl (by decide) 12 (by decide) mw_709 ev4 dc_M_keepPart_46 ?_
      obtain ⟨f5, ef5, hF⟩ := pl_bd hF
      refine pl_astI C w hS ef5 dc_M_keepPart_49 (fun H locs w hS => ?_)
      refine lv_aload_n hx hb dc_M_keepPart_50 rfl (lv_at hl 0 rfl) ?_
      refine lv_dup hx hb dc_M_keepPart_51 rfl ?_
      obtain ⟨v6, ev6, hF⟩ := pl_bd hF
      refine pl_getI C w (ci := 8) in_M rfl (by decide) 16 (by decide) mw_713 ev6 dc_M_keepPart_52 ?_
      refine lv_iconst (v := 1) hx hb dc_M_keepPart_55 (by decide) ?_
      refine lv_iadd hx hb dc_M_keepPart_56 ?_
      obtain ⟨f7, ef7, hF⟩ := pl_bd hF
      refine pl_put C w hS (ci := 8) in_M rfl (by decide) rty_M_ok rnm_M 16 (by decide) mw_713 rfl rfl rfl ef7 dc_M_keepPart_57 (fun H locs w hS => ?_)
      exact pl_retVw C w hS hF dc_M_keepPart_60
    · have hF := (if_neg hc).symm.trans hF
      refine lv_aload_n hx hb dc_M_keepPart_10 rfl (lv_at hl 0 rfl) ?_
      obtain ⟨v8, ev8, hF⟩ := pl_bd hF
      refine pl_getR C w (ci := 8) in_M rfl (by decide) 18 (by decide) mw_715 ev8 dc_M_keepPart_11 ?_
      refine lv_sipush (v := 600) hx hb dc_M_keepPart_14 (by decide) ?_
      refine lv_aload_n hx hb dc_M_keepPart_17 rfl (lv_at hl 0 rfl) ?_
      obtain ⟨v9, ev9, hF⟩ := pl_bd hF
      refine pl_getI C w (ci := 8) in_M rfl (by decide) 16 (by decide) mw_713 ev9 dc_M_keepPart_18 ?_
      refine lv_imul hx hb dc_M_keepPart_21 ?_
      refine lv_iload_n hx hb dc_M_keepPart_22 rfl (lv_at hl 1 rfl) ?_
      refine lv_iadd hx hb dc_M_keepPart_23 ?_
      refine lv_aload_n hx hb dc_M_keepPart_24 rfl (lv_at hl 0 rfl) ?_
      obtain ⟨v10, ev10, hF⟩ := pl_bd hF
      refine pl_getR C w (ci := 8) in_M rfl (by decide) 13 (by decide) mw_710 ev10 dc_M_keepPart_25 ?_
      refine lv_iload_n hx hb dc_M_keepPart_28 rfl (lv_at hl 1 rfl) ?_
      obtain ⟨v11, ev11, hF⟩ := pl_bd hF
      refine pl_aldI C w ev11 dc_M_keepPart_29 ?_
      obtain ⟨f12, ef12, hF⟩ := pl_bd hF
      refine pl_astI C w hS ef12 dc_M_keepPart_30 (fun H locs w hS => ?_)
      refine lv_iinc (k := 1) (v := x1 + 1) (lv' := [(1, .int (x1 + 1)), (0, .ref a0)]) hx hb dc_M_keepPart_31 hl rfl rfl (by decide) rfl (fun ls hl => ?_)
      refine lv_goto hx hb dc_M_keepPart_34 (tgt := 2) (by decide) ?_
      exact ih f12 a0 (x1 + 1) _ _ _ hF w hS (lv_sub hl [1, 0] rfl)
set_option maxHeartbeats 4000000 in
set_option maxRecDepth 100000 in
theorem tl_M_keepPart {p : Program} {l : Launch} {e : Env} {s : State} {m : MethodId} {args : Array Value} {below : List Frame} {meth : Method} {c : Code} {D : va_G} {dA : Nat → ClassId} {tt : Nat → Nat} {b n : Nat} (C : pl_C p s m args meth c co_M_keepPart 2 rn_M none "keepPart" D dA tt b) {f' : pl_H} {f : pl_H} {a0 : Nat} {H : Heap} {locs : List Loc} {ls : Array Slot} (hF : fn_M_keepPart f a0 = some f') (w : pl_wd D vwCl dA b n f H) (hS : va_S (pl_A b) s.heap H locs) (hl : lv_has ls 2 [(0, .ref a0)]) : W p l e rm_M_keepPart s m args below meth c H locs 0 0 (MQ below (pl_qV D dA tt b n f') args s 0 0 (pl_A b)) (F0 m 0 ls []) := by
  have hx := C.1
  have hb := C.2.1
  have hown := C.2.2.2.2.1
  have hts := C.2.2.2.2.2.2.1
  unfold fn_M_keepPart at hF
  refine lv_iconst (v := 0) hx hb dc_M_keepPart_0 (by decide) ?_
  refine lv_istore_n (lv' := [(1, .int 0), (0, .ref a0)]) hx hb dc_M_keepPart_1 rfl hl (by decide) rfl (fun ls hl => ?_)
  exact tl_M_keepPart_2 C pl_N f a0 0 _ _ _ hF w hS (lv_sub hl [1, 0] rfl)
set_option maxHeartbeats 4000000 in
set_option maxRecDepth 100000 in
theorem tm_M_keepPart (l : Launch) (D : va_G) (dA : Nat → ClassId) (tt : Nat → Nat) (b n : Nat) {f : pl_H} {a0 : Nat} {f' : pl_H} (hF : fn_M_keepPart f a0 = some f') : Met l my_M_keepPart (Cond.code my_M_keepPart co_M_keepPart 2 none :: pl_tb) rm_M_keepPart (va_Pc [.ref a0] (pl_pre D dA tt b n f)) (pl_qV D dA tt b n f') 0 0 (pl_A b) := by
  refine Met.ofW (cc := co_M_keepPart) (maxL := 2) (ret := none) (by decide) rfl ?_
  intro p e s m args below meth c s₁ B hml hv
  obtain ⟨rfl, w, hK⟩ := hv
  have C : pl_C p s m _ meth c co_M_keepPart 2 rn_M none "keepPart" D dA tt b := ⟨B.exec, B.bytes, hml, B.returns, findClass_of_methodNamed B.named, B.notSynchronized, fun w hw => atoms_spec (ws := Cond.code my_M_keepPart co_M_keepPart 2 none :: pl_tb) B.pre w (List.mem_cons_of_mem _ hw), (name_of_methodNamed B.named B.method).1, hK⟩
  have hl := lv_entry ([.ref a0]) (n := 2) (Nat.le_of_ble_eq_true rfl)
  rw [lg_entry_eq]
  generalize (lg_sl ([.ref a0]) ++ List.replicate (2 - (lg_sl ([.ref a0])).length) Slot.unset).toArray = ls at hl ⊢
  have hl : lv_has ls 2 [(0, .ref a0)] := hl
  exact tl_M_keepPart C hF w va_S.rf hl
def rm_M_prove : Room := { frames := 6, cells := 0, slots := 0, locals := 139 }
def fn_M_prove_118 (rc41 : pl_H → Nat → Int32 → Int32 → Int32 → Option (Int32 × pl_H)) (f : pl_H) (a0 : Nat) (x1 : Int32) (x2 : Int32) (x3 : Int32) : Option (Int32 × pl_H) := rc41 f a0 x1 x2 x3
def fn_M_prove_82 (rc41 : pl_H → Nat → Int32 → Int32 → Int32 → Option (Int32 × pl_H)) (f : pl_H) (a0 : Nat) (x1 : Int32) (sx0 : Int32) : Option (Int32 × pl_H) := (pl_is f a0 8).bind fun u2 => (fn_M_first f a0 x1 sx0).bind fun v1 => if v1 < 0 then fn_M_prove_118 rc41 f a0 x1 v1 sx0 else (pl_gR f a0 8 8).bind fun v3 => (pl_aZ f v3 ((12 * sx0) + v1)).bind fun v4 => if v4 = 0 then fn_M_prove_118 rc41 f a0 x1 v1 sx0 else (pl_is f a0 8).bind fun u6 => (fn_M_build f a0 v1 sx0).bind fun q5 => (pl_is q5 a0 8).bind fun u8 => (fn_M_keepPart q5 a0).bind fun q7 => fn_M_prove_118 rc41 q7 a0 x1 v1 sx0
def fn_M_prove_41 : Nat → pl_H → Nat → Int32 → Int32 → Int32 → Option (Int32 × pl_H)
  | 0 => fun _ _ _ _ _ => none
  | k + 1 => fun f a0 x1 x2 x3 => if x2 < 0 then (pl_gI f a0 8 16).bind fun v1 => some (v1, f) else (pl_is f a0 8).bind fun u3 => (fn_M_common f a0 x2 x3).bind fun v2 => (pl_is f a0 8).bind fun u5 => (fn_M_group f a0 x2 x3).bind fun v4 => if v4 = 1 then fn_M_prove_118 (fn_M_prove_41 k) f a0 x1 ((-1)) x3 else if v2 ≤ x3 then fn_M_prove_82 (fn_M_prove_41 k) f a0 x1 (x3 + 1) else fn_M_prove_82 (fn_M_prove_41 k) f a0 x1 v2
def fn_M_prove_38 (f : pl_H) (a0 : Nat) (x1 : Int32) (sx0 : Int32) : Option (Int32 × pl_H) := fn_M_prove_41 pl_N f a0 x1 sx0 0
def fn_M_prove (f : pl_H) (a0 : Nat) (x1 : Int32) : Option (Int32 × pl_H) := (fn_M_isAccount f x1).bind fun v1 => if v1 = 0 then some ((-1), f) else (pl_is f a0 8).bind fun u3 => (fn_M_work f a0).bind fun q2 => (pl_pV q2 a0 8 16 (.int 0)).bind fun f4 => (pl_is f4 a0 8).bind fun u6 => (fn_M_top f4 a0).bind fun q5 => (pl_is q5 a0 8).bind fun u8 => (fn_M_keepPart q5 a0).bind fun q7 => (pl_gI q7 a0 8 0).bind fun v9 => if v9 ≤ 0 then fn_M_prove_38 q7 a0 x1 ((-1)) else fn_M_prove_38 q7 a0 x1 0
set_option maxHeartbeats 4000000 in
set_option maxRecDepth 100000 in
theorem tl_M_prove_118 {p : Program} {l : Launch} {e : Env} {s : State} {m : MethodId} {args : Array Value} {below : List Frame} {meth : Method} {c : Code} {D : va_G} {dA : Nat → ClassId} {tt : Nat → Nat} {b n : Nat} (C : pl_C p s m args meth c co_M_prove 5 rn_M (some .int) "prove" D dA tt b) {r : Int32} {f' : pl_H} {rc41 : pl_H → Nat → Int32 → Int32 → Int32 → Option (Int32 × pl_H)} (hr41 : ∀ (f : pl_H) (a0 : Nat) (x1 : Int32) (x2 : Int32) (x3 : Int32) (H : Heap) (locs : List Loc) (ls : Array Slot), rc41 f a0 x1 x2 x3 = some (r, f') → pl_wd D vwCl dA b n f H → va_S (pl_A b) s.heap H locs → lv_has ls 5 [(0, .ref a0), (1, .int x1), (2, .int x2), (3, .int x3)] → W p l e rm_M_prove s m args below meth c H locs 0 0 (MQ below (pl_qI D dA tt b n f' r) args s 0 0 (pl_A b)) (F0 m 41 ls [])) {f : pl_H} {a0 : Nat} {x1 : Int32} {x2 : Int32} {x3 : Int32} {H : Heap} {locs : List Loc} {ls : Array Slot} (hF : fn_M_prove_118 rc41 f a0 x1 x2 x3 = some (r, f')) (w : pl_wd D vwCl dA b n f H) (hS : va_S (pl_A b) s.heap H locs) (hl : lv_has ls 5 [(0, .ref a0), (1, .int x1), (2, .int x2), (3, .int x3)]) : W p l e rm_M_prove s m args below meth c H locs 0 0 (MQ below (pl_qI D dA tt b n f' r) args s 0 0 (pl_A b)) (F0 m 118 ls []) := by
  have hx := C.1
  have hb := C.2.1
  have hown := C.2.2.2.2.1
  have hts := C.2.2.2.2.2.2.1
  unfold fn_M_prove_118 at hF
  refine lv_goto hx hb dc_M_prove_118 (tgt := 41) (by decide) ?_
  exact hr41 f a0 x1 x2 x3 _ _ _ hF w hS (lv_sub hl [0, 1, 2, 3] rfl)
set_option maxHeartbeats 4000000 in
set_option maxRecDepth 100000 in
theorem tl_M_prove_82 {p : Program} {l : Launch} {e : Env} {s : State} {m : MethodId} {args : Array Value} {below : List Frame} {meth : Method} {c : Code} {D : va_G} {dA : Nat → ClassId} {tt : Nat → Nat} {b n : Nat} (C : pl_C p s m args meth c co_M_prove 5 rn_M (some .int) "prove" D dA tt b) {r : Int32} {f' : pl_H} {rc41 : pl_H → Nat → Int32 → Int32 → Int32 → Option (Int32 × pl_H)} (hr41 : ∀ (f : pl_H) (a0 : Nat) (x1 : Int32) (x2 : Int32) (x3 : Int32) (H : Heap) (locs : List Loc) (ls : Array Slot), rc41 f a0 x1 x2 x3 = some (r, f') → pl_wd D vwCl dA b n f H → va_S (pl_A b) s.heap H locs → lv_has ls 5 [(0, .ref a0), (1, .int x1), (2, .int x2), (3, .int x3)] → W p l e rm_M_prove s m args below meth c H locs 0 0 (MQ below (pl_qI D dA tt b n f' r) args s 0 0 (pl_A b)) (F0 m 41 ls [])) {f : pl_H} {a0 : Nat} {x1 : Int32} {sx0 : Int32} {H : Heap} {locs : List Loc} {ls : Array Slot} (hF : fn_M_prove_82 rc41 f a0 x1 sx0 = some (r, f')) (w : pl_wd D vwCl dA b n f H) (hS : va_S (pl_A b) s.heap H locs) (hl : lv_has ls 5 [(0, .ref a0), (1, .int x1)]) : W p l e rm_M_prove s m args below meth c H locs 0 0 (MQ below (pl_qI D dA tt b n f' r) args s 0 0 (pl_A b)) (F0 m 82 ls [.int sx0]) := by
  have hx := C.1
  have hb := C.2.1
  have hown := C.2.2.2.2.1
  have hts := C.2.2.2.2.2.2.1
  unfold fn_M_prove_82 at hF
  refine lv_istore_n (lv' := [(3, .int sx0), (0, .ref a0), (1, .int x1)]) hx hb dc_M_prove_82 rfl hl (by decide) rfl (fun ls hl => ?_)
  refine lv_aload_n hx hb dc_M_prove_83 rfl (lv_at hl 1 rfl) ?_
  refine lv_iload_n hx hb dc_M_prove_84 rfl (lv_at hl 2 rfl) ?_
  refine lv_iload_n hx hb dc_M_prove_85 rfl (lv_at hl 0 rfl) ?_
  obtain ⟨u2, eu2, hF⟩ := pl_bd hF
  obtain ⟨v1, ev1, hF⟩ := pl_bd hF
  refine pl_gi (pl_runV (Cn := rn_M) (k := 2) C (tm_M_first l D dA tt b n ev1) w hS rfl rfl mw_899 mw_901 mw_43 mw_72 mw_902 (by decide +kernel) ⟨by decide, by decide⟩ eu2 rfl (by decide) rfl hl.1 (Nat.le_of_ble_eq_true rfl) ⟨Nat.zero_le _, Nat.zero_le _⟩ rfl dc_M_prove_86) hS (fun H locs w hS => ?_)
  refine lv_istore_n (lv' := [(2, .int v1), (3, .int sx0), (0, .ref a0), (1, .int x1)]) hx hb dc_M_prove_89 rfl hl (by decide) rfl (fun ls hl => ?_)
  refine lv_iload_n hx hb dc_M_prove_90 rfl (lv_at hl 0 rfl) ?_
  refine lv_if_lt hx hb dc_M_prove_91 (tgt := 118) (by decide) (fun hc => ?_) (fun hc => ?_)
  · have hF := (if_pos hc).symm.trans hF
    exact tl_M_prove_118 C hr41 hF w hS (lv_sub hl [2, 3, 0, 1] rfl)
  · have hF := (if_neg hc).symm.trans hF
    refine lv_aload_n hx hb dc_M_prove_94 rfl (lv_at hl 2 rfl) ?_
    obtain ⟨v3, ev3, hF⟩ := pl_bd hF
    refine pl_getR C w (ci := 8) in_M rfl (by decide) 8 (by decide) mw_705 ev3 dc_M_prove_95 ?_
    refine lv_bipush (v := 12) hx hb dc_M_prove_98 (by decide) ?_
    refine lv_iload_n hx hb dc_M_prove_100 rfl (lv_at hl 1 rfl) ?_
    refine lv_imul hx hb dc_M_prove_101 ?_
    refine lv_iload_n hx hb dc_M_prove_102 rfl (lv_at hl 0 rfl) ?_
    refine lv_iadd hx hb dc_M_prove_103 ?_
    obtain ⟨v4, ev4, hF⟩ := pl_bd hF
    refine pl_aldZ C w ev4 dc_M_prove_104 ?_
    refine lv_if_eq hx hb dc_M_prove_105 (tgt := 118) (by decide) (fun hc => ?_) (fun hc => ?_)
    · have hF := (if_pos hc).symm.trans hF
      exact tl_M_prove_118 C hr41 hF w hS (lv_sub hl [2, 3, 0, 1] rfl)
    · have hF := (if_neg hc).symm.trans hF
      refine lv_aload_n hx hb dc_M_prove_108 rfl (lv_at hl 2 rfl) ?_
      refine lv_iload_n hx hb dc_M_prove_109 rfl (lv_at hl 0 rfl) ?_
      refine lv_iload_n hx hb dc_M_prove_110 rfl (lv_at hl 1 rfl) ?_
      obtain ⟨u6, eu6, hF⟩ := pl_bd hF
      obtain ⟨q5, eq5, hF⟩ := pl_bd hF
      refine pl_gv (pl_runV (Cn := rn_M) (k := 2) C (tm_M_build l D dA tt b n eq5) w hS rfl rfl mw_855 mw_857 mw_35 mw_72 mw_858 (by decide +kernel) ⟨by decide, by decide⟩ eu6 rfl (by decide) rfl hl.1 (Nat.le_of_ble_eq_true rfl) ⟨Nat.zero_le _, Nat.zero_le _⟩ rfl dc_M_prove_111) hS (fun H locs w hS => ?_)
      refine lv_aload_n hx hb dc_M_prove_114 rfl (lv_at hl 2 rfl) ?_
      obtain ⟨u8, eu8, hF⟩ := pl_bd hF
      obtain ⟨q7, eq7, hF⟩ := pl_bd hF
      refine pl_gv (pl_runV (Cn := rn_M) (k := 0) C (tm_M_keepPart l D dA tt b n eq7) w hS rfl rfl mw_943 mw_945 mw_50 mw_72 mw_946 (by decide +kernel) ⟨by decide, by decide⟩ eu8 rfl (by decide) rfl hl.1 (Nat.le_of_ble_eq_true rfl) ⟨Nat.zero_le _, Nat.zero_le _⟩ rfl dc_M_prove_115) hS (fun H locs w hS => ?_)
      exact tl_M_prove_118 C hr41 hF w hS (lv_sub hl [2, 3, 0, 1] rfl)
set_option maxHeartbeats 4000000 in
set_option maxRecDepth 100000 in
theorem tl_M_prove_41 {p : Program} {l : Launch} {e : Env} {s : State} {m : MethodId} {args : Array Value} {below : List Frame} {meth : Method} {c : Code} {D : va_G} {dA : Nat → ClassId} {tt : Nat → Nat} {b n : Nat} (C : pl_C p s m args meth c co_M_prove 5 rn_M (some .int) "prove" D dA tt b) {r : Int32} {f' : pl_H} : ∀ k : Nat, ∀ (f : pl_H) (a0 : Nat) (x1 : Int32) (x2 : Int32) (x3 : Int32) (H : Heap) (locs : List Loc) (ls : Array Slot), fn_M_prove_41 k f a0 x1 x2 x3 = some (r, f') → pl_wd D vwCl dA b n f H → va_S (pl_A b) s.heap H locs → lv_has ls 5 [(0, .ref a0), (1, .int x1), (2, .int x2), (3, .int x3)] → W p l e rm_M_prove s m args below meth c H locs 0 0 (MQ below (pl_qI D dA tt b n f' r) args s 0 0 (pl_A b)) (F0 m 41 ls []) := by
  have hx := C.1
  have hb := C.2.1
  have hown := C.2.2.2.2.1
  have hts := C.2.2.2.2.2.2.1
  intro k
  induction k with
  | zero =>
    intro f a0 x1 x2 x3 H locs ls hF
    cases hF
  | succ k ih =>
    intro f a0 x1 x2 x3 H locs ls hF w hS hl
    unfold fn_M_prove_41 at hF
    refine lv_iload_n hx hb dc_M_prove_41 rfl (lv_at hl 2 rfl) ?_
    refine lv_if_lt hx hb dc_M_prove_42 (tgt := 121) (by decide) (fun hc => ?_) (fun hc => ?_)
    · have hF := (if_pos hc).symm.trans hF
      refine lv_aload_n hx hb dc_M_prove_121 rfl (lv_at hl 0 rfl) ?_
      obtain ⟨v1, ev1, hF⟩ := pl_bd hF
      refine pl_getI C w (ci := 8) in_M rfl (by decide) 16 (by decide) mw_713 ev1 dc_M_prove_122 ?_
      exact pl_retIw C w hS hF dc_M_prove_125
    · have hF := (if_neg hc).symm.trans hF
      refine lv_aload_n hx hb dc_M_prove_45 rfl (lv_at hl 0 rfl) ?_
      refine lv_iload_n hx hb dc_M_prove_46 rfl (lv_at hl 2 rfl) ?_
      refine lv_iload_n hx hb dc_M_prove_47 rfl (lv_at hl 3 rfl) ?_
      obtain ⟨u3, eu3, hF⟩ := pl_bd hF
      obtain ⟨v2, ev2, hF⟩ := pl_bd hF
      refine pl_gi (pl_runV (Cn := rn_M) (k := 2) C (tm_M_common l D dA tt b n ev2) w hS rfl rfl mw_859 mw_861 mw_36 mw_72 mw_862 (by decide +kernel) ⟨by decide, by decide⟩ eu3 rfl (by decide) rfl hl.1 (Nat.le_of_ble_eq_true rfl) ⟨Nat.zero_le _, Nat.zero_le _⟩ rfl dc_M_prove_48) hS (fun H locs w hS => ?_)
      refine lv_istore (lv' := [(4, .int v2), (0, .ref a0), (1, .int x1), (2, .int x2), (3, .int x3)]) hx hb dc_M_prove_51 hl (by decide) rfl (fun ls hl => ?_)
      refine lv_aload_n hx hb dc_M_prove_53 rfl (lv_at hl 1 rfl) ?_
      refine lv_iload_n hx hb dc_M_prove_54 rfl (lv_at hl 3 rfl) ?_
      refine lv_iload_n hx hb dc_M_prove_55 rfl (lv_at hl 4 rfl) ?_
      obtain ⟨u5, eu5, hF⟩ := pl_bd hF
      obtain ⟨v4, ev4, hF⟩ := pl_bd hF
      refine pl_gi (pl_runV (Cn := rn_M) (k := 2) C (tm_M_group l D dA tt b n ev4) w hS rfl rfl mw_863 mw_865 mw_37 mw_72 mw_866 (by decide +kernel) ⟨by decide, by decide⟩ eu5 rfl (by decide) rfl hl.1 (Nat.le_of_ble_eq_true rfl) ⟨Nat.zero_le _, Nat.zero_le _⟩ rfl dc_M_prove_56) hS (fun H locs w hS => ?_)
      refine lv_iconst (v := 1) hx hb dc_M_prove_59 (by decide) ?_
      refine lv_icmp_ne hx hb dc_M_prove_60 (tgt := 68) (by decide) (fun hc => ?_) (fun hc => ?_)
      · have hF := (if_neg hc).symm.trans hF
        refine lv_iload hx hb dc_M_prove_68 (lv_at hl 0 rfl) ?_
        refine lv_iload_n hx hb dc_M_prove_70 rfl (lv_at hl 4 rfl) ?_
        refine lv_icmp_le hx hb dc_M_prove_71 (tgt := 79) (by decide) (fun hc => ?_) (fun hc => ?_)
        · have hF := (if_pos hc).symm.trans hF
          refine lv_iload_n hx hb dc_M_prove_79 rfl (lv_at hl 4 rfl) ?_
          refine lv_iconst (v := 1) hx hb dc_M_prove_80 (by decide) ?_
          refine lv_iadd hx hb dc_M_prove_81 ?_
          exact tl_M_prove_82 C ih hF w hS (lv_sub hl [1, 2] rfl)
        · have hF := (if_neg hc).symm.trans hF
          refine lv_iload hx hb dc_M_prove_74 (lv_at hl 0 rfl) ?_
          refine lv_goto hx hb dc_M_prove_76 (tgt := 82) (by decide) ?_
          exact tl_M_prove_82 C ih hF w hS (lv_sub hl [1, 2] rfl)
      · have hF := (if_pos hc).symm.trans hF
        refine lv_iconst (v := (-1)) hx hb dc_M_prove_63 (by decide) ?_
        refine lv_istore_n (lv' := [(2, .int ((-1))), (4, .int v2), (0, .ref a0), (1, .int x1), (3, .int x3)]) hx hb dc_M_prove_64 rfl hl (by decide) rfl (fun ls hl => ?_)
        refine lv_goto hx hb dc_M_prove_65 (tgt := 118) (by decide) ?_
        exact tl_M_prove_118 C ih hF w hS (lv_sub hl [2, 3, 0, 4] rfl)
set_option maxHeartbeats 4000000 in
set_option maxRecDepth 100000 in
theorem tl_M_prove_38 {p : Program} {l : Launch} {e : Env} {s : State} {m : MethodId} {args : Array Value} {below : List Frame} {meth : Method} {c : Code} {D : va_G} {dA : Nat → ClassId} {tt : Nat → Nat} {b n : Nat} (C : pl_C p s m args meth c co_M_prove 5 rn_M (some .int) "prove" D dA tt b) {r : Int32} {f' : pl_H} {f : pl_H} {a0 : Nat} {x1 : Int32} {sx0 : Int32} {H : Heap} {locs : List Loc} {ls : Array Slot} (hF : fn_M_prove_38 f a0 x1 sx0 = some (r, f')) (w : pl_wd D vwCl dA b n f H) (hS : va_S (pl_A b) s.heap H locs) (hl : lv_has ls 5 [(0, .ref a0), (1, .int x1)]) : W p l e rm_M_prove s m args below meth c H locs 0 0 (MQ below (pl_qI D dA tt b n f' r) args s 0 0 (pl_A b)) (F0 m 38 ls [.int sx0]) := by
  have hx := C.1
  have hb := C.2.1
  have hown := C.2.2.2.2.1
  have hts := C.2.2.2.2.2.2.1
  unfold fn_M_prove_38 at hF
  refine lv_istore_n (lv' := [(2, .int sx0), (0, .ref a0), (1, .int x1)]) hx hb dc_M_prove_38 rfl hl (by decide) rfl (fun ls hl => ?_)
  refine lv_iconst (v := 0) hx hb dc_M_prove_39 (by decide) ?_
  refine lv_istore_n (lv' := [(3, .int 0), (2, .int sx0), (0, .ref a0), (1, .int x1)]) hx hb dc_M_prove_40 rfl hl (by decide) rfl (fun ls hl => ?_)
  exact tl_M_prove_41 C pl_N f a0 x1 sx0 0 _ _ _ hF w hS (lv_sub hl [2, 3, 1, 0] rfl)
set_option maxHeartbeats 4000000 in
set_option maxRecDepth 100000 in
theorem tl_M_prove {p : Program} {l : Launch} {e : Env} {s : State} {m : MethodId} {args : Array Value} {below : List Frame} {meth : Method} {c : Code} {D : va_G} {dA : Nat → ClassId} {tt : Nat → Nat} {b n : Nat} (C : pl_C p s m args meth c co_M_prove 5 rn_M (some .int) "prove" D dA tt b) {r : Int32} {f' : pl_H} {f : pl_H} {a0 : Nat} {x1 : Int32} {H : Heap} {locs : List Loc} {ls : Array Slot} (hF : fn_M_prove f a0 x1 = some (r, f')) (w : pl_wd D vwCl dA b n f H) (hS : va_S (pl_A b) s.heap H locs) (hl : lv_has ls 5 [(0, .ref a0), (1, .int x1)]) : W p l e rm_M_prove s m args below meth c H locs 0 0 (MQ below (pl_qI D dA tt b n f' r) args s 0 0 (pl_A b)) (F0 m 0 ls []) := by
  have hx := C.1
  have hb := C.2.1
  have hown := C.2.2.2.2.1
  have hts := C.2.2.2.2.2.2.1
  unfold fn_M_prove at hF
  refine lv_iload_n hx hb dc_M_prove_0 rfl (lv_at hl 1 rfl) ?_
  obtain ⟨v1, ev1, hF⟩ := pl_bd hF
  refine pl_gi (pl_runS (k := 1) C (tm_M_isAccount l D dA tt b n ev1) w hS rfl rfl mw_805 mw_806 mw_72 mw_807 (by decide +kernel) ⟨by decide, by decide⟩ rfl hl.1 (Nat.le_of_ble_eq_true rfl) ⟨Nat.zero_le _, Nat.zero_le _⟩ rfl dc_M_prove_1) hS (fun H locs w hS => ?_)
  refine lv_if_ne hx hb dc_M_prove_4 (tgt := 9) (by decide) (fun hc => ?_) (fun hc => ?_)
  · have hF := (if_neg hc).symm.trans hF
    refine lv_aload_n hx hb dc_M_prove_9 rfl (lv_at hl 0 rfl) ?_
    obtain ⟨u3, eu3, hF⟩ := pl_bd hF
    obtain ⟨q2, eq2, hF⟩ := pl_bd hF
    refine pl_gv (pl_runV (Cn := rn_M) (k := 0) C (tm_M_work l D dA tt b n eq2) w hS rfl rfl mw_851 mw_853 mw_34 mw_72 mw_854 (by decide +kernel) ⟨by decide, by decide⟩ eu3 rfl (by decide) rfl hl.1 (Nat.le_of_ble_eq_true rfl) ⟨Nat.zero_le _, Nat.zero_le _⟩ rfl dc_M_prove_10) hS (fun H locs w hS => ?_)
    refine lv_aload_n hx hb dc_M_prove_13 rfl (lv_at hl 0 rfl) ?_
    refine lv_iconst (v := 0) hx hb dc_M_prove_14 (by decide) ?_
    obtain ⟨f4, ef4, hF⟩ := pl_bd hF
    refine pl_put C w hS (ci := 8) in_M rfl (by decide) rty_M_ok rnm_M 16 (by decide) mw_713 rfl rfl rfl ef4 dc_M_prove_15 (fun H locs w hS => ?_)
    refine lv_aload_n hx hb dc_M_prove_18 rfl (lv_at hl 0 rfl) ?_
    obtain ⟨u6, eu6, hF⟩ := pl_bd hF
    obtain ⟨q5, eq5, hF⟩ := pl_bd hF
    refine pl_gv (pl_runV (Cn := rn_M) (k := 0) C (tm_M_top l D dA tt b n eq5) w hS rfl rfl mw_923 mw_925 mw_48 mw_72 mw_926 (by decide +kernel) ⟨by decide, by decide⟩ eu6 rfl (by decide) rfl hl.1 (Nat.le_of_ble_eq_true rfl) ⟨Nat.zero_le _, Nat.zero_le _⟩ rfl dc_M_prove_19) hS (fun H locs w hS => ?_)
    refine lv_aload_n hx hb dc_M_prove_22 rfl (lv_at hl 0 rfl) ?_
    obtain ⟨u8, eu8, hF⟩ := pl_bd hF
    obtain ⟨q7, eq7, hF⟩ := pl_bd hF
    refine pl_gv (pl_runV (Cn := rn_M) (k := 0) C (tm_M_keepPart l D dA tt b n eq7) w hS rfl rfl mw_943 mw_945 mw_50 mw_72 mw_946 (by decide +kernel) ⟨by decide, by decide⟩ eu8 rfl (by decide) rfl hl.1 (Nat.le_of_ble_eq_true rfl) ⟨Nat.zero_le _, Nat.zero_le _⟩ rfl dc_M_prove_23) hS (fun H locs w hS => ?_)
    refine lv_aload_n hx hb dc_M_prove_26 rfl (lv_at hl 0 rfl) ?_
    obtain ⟨v9, ev9, hF⟩ := pl_bd hF
    refine pl_getI C w (ci := 8) in_M rfl (by decide) 0 (by decide) mw_697 ev9 dc_M_prove_27 ?_
    refine lv_if_le hx hb dc_M_prove_30 (tgt := 37) (by decide) (fun hc => ?_) (fun hc => ?_)
    · have hF := (if_pos hc).symm.trans hF
      refine lv_iconst (v := (-1)) hx hb dc_M_prove_37 (by decide) ?_
      exact tl_M_prove_38 C hF w hS (lv_sub hl [0, 1] rfl)
    · have hF := (if_neg hc).symm.trans hF
      refine lv_iconst (v := 0) hx hb dc_M_prove_33 (by decide) ?_
      refine lv_goto hx hb dc_M_prove_34 (tgt := 38) (by decide) ?_
      exact tl_M_prove_38 C hF w hS (lv_sub hl [0, 1] rfl)
  · have hF := (if_pos hc).symm.trans hF
    refine lv_iconst (v := (-1)) hx hb dc_M_prove_7 (by decide) ?_
    exact pl_retIw C w hS hF dc_M_prove_8
set_option maxHeartbeats 4000000 in
set_option maxRecDepth 100000 in
theorem tm_M_prove (l : Launch) (D : va_G) (dA : Nat → ClassId) (tt : Nat → Nat) (b n : Nat) {f : pl_H} {a0 : Nat} {x1 : Int32} {r : Int32} {f' : pl_H} (hF : fn_M_prove f a0 x1 = some (r, f')) : Met l my_M_prove (Cond.code my_M_prove co_M_prove 5 (some .int) :: pl_tb) rm_M_prove (va_Pc [.ref a0, .int x1] (pl_pre D dA tt b n f)) (pl_qI D dA tt b n f' r) 0 0 (pl_A b) := by
  refine Met.ofW (cc := co_M_prove) (maxL := 5) (ret := (some .int)) (by decide) rfl ?_
  intro p e s m args below meth c s₁ B hml hv
  obtain ⟨rfl, w, hK⟩ := hv
  have C : pl_C p s m _ meth c co_M_prove 5 rn_M (some .int) "prove" D dA tt b := ⟨B.exec, B.bytes, hml, B.returns, findClass_of_methodNamed B.named, B.notSynchronized, fun w hw => atoms_spec (ws := Cond.code my_M_prove co_M_prove 5 (some .int) :: pl_tb) B.pre w (List.mem_cons_of_mem _ hw), (name_of_methodNamed B.named B.method).1, hK⟩
  have hl := lv_entry ([.ref a0, .int x1]) (n := 5) (Nat.le_of_ble_eq_true rfl)
  rw [lg_entry_eq]
  generalize (lg_sl ([.ref a0, .int x1]) ++ List.replicate (5 - (lg_sl ([.ref a0, .int x1])).length) Slot.unset).toArray = ls at hl ⊢
  have hl : lv_has ls 5 [(0, .ref a0), (1, .int x1)] := hl
  exact tl_M_prove C hF w va_S.rf hl
def rm_M_parts : Room := { frames := 0, cells := 0, slots := 0, locals := 0 }
def fn_M_parts (f : pl_H) (a0 : Nat) : Option (Int32) := (pl_gI f a0 8 16).bind fun v1 => some v1
set_option maxHeartbeats 4000000 in
set_option maxRecDepth 100000 in
theorem tl_M_parts {p : Program} {l : Launch} {e : Env} {s : State} {m : MethodId} {args : Array Value} {below : List Frame} {meth : Method} {c : Code} {D : va_G} {dA : Nat → ClassId} {tt : Nat → Nat} {b n : Nat} (C : pl_C p s m args meth c co_M_parts 1 rn_M (some .int) "parts" D dA tt b) {r : Int32} {f : pl_H} {a0 : Nat} {H : Heap} {locs : List Loc} {ls : Array Slot} (hF : fn_M_parts f a0 = some r) (w : pl_wd D vwCl dA b n f H) (hS : va_S (pl_A b) s.heap H locs) (hl : lv_has ls 1 [(0, .ref a0)]) : W p l e rm_M_parts s m args below meth c H locs 0 0 (MQ below (pl_qI D dA tt b n f r) args s 0 0 (pl_A b)) (F0 m 0 ls []) := by
  have hx := C.1
  have hb := C.2.1
  have hown := C.2.2.2.2.1
  have hts := C.2.2.2.2.2.2.1
  unfold fn_M_parts at hF
  refine lv_aload_n hx hb dc_M_parts_0 rfl (lv_at hl 0 rfl) ?_
  obtain ⟨v1, ev1, hF⟩ := pl_bd hF
  refine pl_getI C w (ci := 8) in_M rfl (by decide) 16 (by decide) mw_713 ev1 dc_M_parts_1 ?_
  exact pl_retI C w hS hF dc_M_parts_4
set_option maxHeartbeats 4000000 in
set_option maxRecDepth 100000 in
theorem tm_M_parts (l : Launch) (D : va_G) (dA : Nat → ClassId) (tt : Nat → Nat) (b n : Nat) {f : pl_H} {a0 : Nat} {r : Int32} (hF : fn_M_parts f a0 = some r) : Met l my_M_parts (Cond.code my_M_parts co_M_parts 1 (some .int) :: pl_tb) rm_M_parts (va_Pc [.ref a0] (pl_pre D dA tt b n f)) (pl_qI D dA tt b n f r) 0 0 (pl_A b) := by
  refine Met.ofW (cc := co_M_parts) (maxL := 1) (ret := (some .int)) (by decide) rfl ?_
  intro p e s m args below meth c s₁ B hml hv
  obtain ⟨rfl, w, hK⟩ := hv
  have C : pl_C p s m _ meth c co_M_parts 1 rn_M (some .int) "parts" D dA tt b := ⟨B.exec, B.bytes, hml, B.returns, findClass_of_methodNamed B.named, B.notSynchronized, fun w hw => atoms_spec (ws := Cond.code my_M_parts co_M_parts 1 (some .int) :: pl_tb) B.pre w (List.mem_cons_of_mem _ hw), (name_of_methodNamed B.named B.method).1, hK⟩
  have hl := lv_entry ([.ref a0]) (n := 1) (Nat.le_of_ble_eq_true rfl)
  rw [lg_entry_eq]
  generalize (lg_sl ([.ref a0]) ++ List.replicate (1 - (lg_sl ([.ref a0])).length) Slot.unset).toArray = ls at hl ⊢
  have hl : lv_has ls 1 [(0, .ref a0)] := hl
  exact tl_M_parts C hF w va_S.rf hl
def rm_M_isByte : Room := { frames := 0, cells := 0, slots := 0, locals := 0 }
def fn_M_isByte_31 (f : pl_H) (sx0 : Int32) : Option (Int32) := pl_z sx0
def fn_M_isByte_30 (f : pl_H) : Option (Int32) := fn_M_isByte_31 f 0
def fn_M_isByte (f : pl_H) (a0 : Nat) (x1 : Int32) (x2 : Int32) : Option (Int32) := if x1 < 0 then fn_M_isByte_30 f else (pl_gI f a0 8 16).bind fun v1 => if v1 ≤ x1 then fn_M_isByte_30 f else if x2 < 0 then fn_M_isByte_30 f else (pl_gR f a0 8 17).bind fun v2 => (pl_aI f v2 x1).bind fun v3 => if v3 ≤ x2 then fn_M_isByte_30 f else fn_M_isByte_31 f 1
set_option maxHeartbeats 4000000 in
set_option maxRecDepth 100000 in
theorem tl_M_isByte_31 {p : Program} {l : Launch} {e : Env} {s : State} {m : MethodId} {args : Array Value} {below : List Frame} {meth : Method} {c : Code} {D : va_G} {dA : Nat → ClassId} {tt : Nat → Nat} {b n : Nat} (C : pl_C p s m args meth c co_M_isByte 3 rn_M (some .boolean) "isByte" D dA tt b) {r : Int32} {f : pl_H} {sx0 : Int32} {H : Heap} {locs : List Loc} {ls : Array Slot} (hF : fn_M_isByte_31 f sx0 = some r) (w : pl_wd D vwCl dA b n f H) (hS : va_S (pl_A b) s.heap H locs) (hl : lv_has ls 3 []) : W p l e rm_M_isByte s m args below meth c H locs 0 0 (MQ below (pl_qI D dA tt b n f r) args s 0 0 (pl_A b)) (F0 m 31 ls [.int sx0]) := by
  have hx := C.1
  have hb := C.2.1
  have hown := C.2.2.2.2.1
  have hts := C.2.2.2.2.2.2.1
  unfold fn_M_isByte_31 at hF
  exact pl_retZ C w hS hF dc_M_isByte_31
set_option maxHeartbeats 4000000 in
set_option maxRecDepth 100000 in
theorem tl_M_isByte_30 {p : Program} {l : Launch} {e : Env} {s : State} {m : MethodId} {args : Array Value} {below : List Frame} {meth : Method} {c : Code} {D : va_G} {dA : Nat → ClassId} {tt : Nat → Nat} {b n : Nat} (C : pl_C p s m args meth c co_M_isByte 3 rn_M (some .boolean) "isByte" D dA tt b) {r : Int32} {f : pl_H} {H : Heap} {locs : List Loc} {ls : Array Slot} (hF : fn_M_isByte_30 f = some r) (w : pl_wd D vwCl dA b n f H) (hS : va_S (pl_A b) s.heap H locs) (hl : lv_has ls 3 []) : W p l e rm_M_isByte s m args below meth c H locs 0 0 (MQ below (pl_qI D dA tt b n f r) args s 0 0 (pl_A b)) (F0 m 30 ls []) := by
  have hx := C.1
  have hb := C.2.1
  have hown := C.2.2.2.2.1
  have hts := C.2.2.2.2.2.2.1
  unfold fn_M_isByte_30 at hF
  refine lv_iconst (v := 0) hx hb dc_M_isByte_30 (by decide) ?_
  exact tl_M_isByte_31 C hF w hS (lv_sub hl [] rfl)
set_option maxHeartbeats 4000000 in
set_option maxRecDepth 100000 in
theorem tl_M_isByte {p : Program} {l : Launch} {e : Env} {s : State} {m : MethodId} {args : Array Value} {below : List Frame} {meth : Method} {c : Code} {D : va_G} {dA : Nat → ClassId} {tt : Nat → Nat} {b n : Nat} (C : pl_C p s m args meth c co_M_isByte 3 rn_M (some .boolean) "isByte" D dA tt b) {r : Int32} {f : pl_H} {a0 : Nat} {x1 : Int32} {x2 : Int32} {H : Heap} {locs : List Loc} {ls : Array Slot} (hF : fn_M_isByte f a0 x1 x2 = some r) (w : pl_wd D vwCl dA b n f H) (hS : va_S (pl_A b) s.heap H locs) (hl : lv_has ls 3 [(0, .ref a0), (1, .int x1), (2, .int x2)]) : W p l e rm_M_isByte s m args below meth c H locs 0 0 (MQ below (pl_qI D dA tt b n f r) args s 0 0 (pl_A b)) (F0 m 0 ls []) := by
  have hx := C.1
  have hb := C.2.1
  have hown := C.2.2.2.2.1
  have hts := C.2.2.2.2.2.2.1
  unfold fn_M_isByte at hF
  refine lv_iload_n hx hb dc_M_isByte_0 rfl (lv_at hl 1 rfl) ?_
  refine lv_if_lt hx hb dc_M_isByte_1 (tgt := 30) (by decide) (fun hc => ?_) (fun hc => ?_)
  · have hF := (if_pos hc).symm.trans hF
    exact tl_M_isByte_30 C hF w hS (lv_sub hl [] rfl)
  · have hF := (if_neg hc).symm.trans hF
    refine lv_iload_n hx hb dc_M_isByte_4 rfl (lv_at hl 1 rfl) ?_
    refine lv_aload_n hx hb dc_M_isByte_5 rfl (lv_at hl 0 rfl) ?_
    obtain ⟨v1, ev1, hF⟩ := pl_bd hF
    refine pl_getI C w (ci := 8) in_M rfl (by decide) 16 (by decide) mw_713 ev1 dc_M_isByte_6 ?_
    refine lv_icmp_ge hx hb dc_M_isByte_9 (tgt := 30) (by decide) (fun hc => ?_) (fun hc => ?_)
    · have hF := (if_pos hc).symm.trans hF
      exact tl_M_isByte_30 C hF w hS (lv_sub hl [] rfl)
    · have hF := (if_neg hc).symm.trans hF
      refine lv_iload_n hx hb dc_M_isByte_12 rfl (lv_at hl 2 rfl) ?_
      refine lv_if_lt hx hb dc_M_isByte_13 (tgt := 30) (by decide) (fun hc => ?_) (fun hc => ?_)
      · have hF := (if_pos hc).symm.trans hF
        exact tl_M_isByte_30 C hF w hS (lv_sub hl [] rfl)
      · have hF := (if_neg hc).symm.trans hF
        refine lv_iload_n hx hb dc_M_isByte_16 rfl (lv_at hl 2 rfl) ?_
        refine lv_aload_n hx hb dc_M_isByte_17 rfl (lv_at hl 0 rfl) ?_
        obtain ⟨v2, ev2, hF⟩ := pl_bd hF
        refine pl_getR C w (ci := 8) in_M rfl (by decide) 17 (by decide) mw_714 ev2 dc_M_isByte_18 ?_
        refine lv_iload_n hx hb dc_M_isByte_21 rfl (lv_at hl 1 rfl) ?_
        obtain ⟨v3, ev3, hF⟩ := pl_bd hF
        refine pl_aldI C w ev3 dc_M_isByte_22 ?_
        refine lv_icmp_ge hx hb dc_M_isByte_23 (tgt := 30) (by decide) (fun hc => ?_) (fun hc => ?_)
        · have hF := (if_pos hc).symm.trans hF
          exact tl_M_isByte_30 C hF w hS (lv_sub hl [] rfl)
        · have hF := (if_neg hc).symm.trans hF
          refine lv_iconst (v := 1) hx hb dc_M_isByte_26 (by decide) ?_
          refine lv_goto hx hb dc_M_isByte_27 (tgt := 31) (by decide) ?_
          exact tl_M_isByte_31 C hF w hS (lv_sub hl [] rfl)
set_option maxHeartbeats 4000000 in
set_option maxRecDepth 100000 in
theorem tm_M_isByte (l : Launch) (D : va_G) (dA : Nat → ClassId) (tt : Nat → Nat) (b n : Nat) {f : pl_H} {a0 : Nat} {x1 : Int32} {x2 : Int32} {r : Int32} (hF : fn_M_isByte f a0 x1 x2 = some r) : Met l my_M_isByte (Cond.code my_M_isByte co_M_isByte 3 (some .boolean) :: pl_tb) rm_M_isByte (va_Pc [.ref a0, .int x1, .int x2] (pl_pre D dA tt b n f)) (pl_qI D dA tt b n f r) 0 0 (pl_A b) := by
  refine Met.ofW (cc := co_M_isByte) (maxL := 3) (ret := (some .boolean)) (by decide) rfl ?_
  intro p e s m args below meth c s₁ B hml hv
  obtain ⟨rfl, w, hK⟩ := hv
  have C : pl_C p s m _ meth c co_M_isByte 3 rn_M (some .boolean) "isByte" D dA tt b := ⟨B.exec, B.bytes, hml, B.returns, findClass_of_methodNamed B.named, B.notSynchronized, fun w hw => atoms_spec (ws := Cond.code my_M_isByte co_M_isByte 3 (some .boolean) :: pl_tb) B.pre w (List.mem_cons_of_mem _ hw), (name_of_methodNamed B.named B.method).1, hK⟩
  have hl := lv_entry ([.ref a0, .int x1, .int x2]) (n := 3) (Nat.le_of_ble_eq_true rfl)
  rw [lg_entry_eq]
  generalize (lg_sl ([.ref a0, .int x1, .int x2]) ++ List.replicate (3 - (lg_sl ([.ref a0, .int x1, .int x2])).length) Slot.unset).toArray = ls at hl ⊢
  have hl : lv_has ls 3 [(0, .ref a0), (1, .int x1), (2, .int x2)] := hl
  exact tl_M_isByte C hF w va_S.rf hl
def rm_M_length : Room := { frames := 0, cells := 0, slots := 0, locals := 0 }
def fn_M_length_22 (f : pl_H) (sx0 : Int32) : Option (Int32) := some sx0
def fn_M_length_21 (f : pl_H) : Option (Int32) := fn_M_length_22 f ((-1))
def fn_M_length (f : pl_H) (a0 : Nat) (x1 : Int32) : Option (Int32) := if x1 < 0 then fn_M_length_21 f else (pl_gI f a0 8 16).bind fun v1 => if v1 ≤ x1 then fn_M_length_21 f else (pl_gR f a0 8 17).bind fun v2 => (pl_aI f v2 x1).bind fun v3 => fn_M_length_22 f v3
set_option maxHeartbeats 4000000 in
set_option maxRecDepth 100000 in
theorem tl_M_length_22 {p : Program} {l : Launch} {e : Env} {s : State} {m : MethodId} {args : Array Value} {below : List Frame} {meth : Method} {c : Code} {D : va_G} {dA : Nat → ClassId} {tt : Nat → Nat} {b n : Nat} (C : pl_C p s m args meth c co_M_length 2 rn_M (some .int) "length" D dA tt b) {r : Int32} {f : pl_H} {sx0 : Int32} {H : Heap} {locs : List Loc} {ls : Array Slot} (hF : fn_M_length_22 f sx0 = some r) (w : pl_wd D vwCl dA b n f H) (hS : va_S (pl_A b) s.heap H locs) (hl : lv_has ls 2 []) : W p l e rm_M_length s m args below meth c H locs 0 0 (MQ below (pl_qI D dA tt b n f r) args s 0 0 (pl_A b)) (F0 m 22 ls [.int sx0]) := by
  have hx := C.1
  have hb := C.2.1
  have hown := C.2.2.2.2.1
  have hts := C.2.2.2.2.2.2.1
  unfold fn_M_length_22 at hF
  exact pl_retI C w hS hF dc_M_length_22
set_option maxHeartbeats 4000000 in
set_option maxRecDepth 100000 in
theorem tl_M_length_21 {p : Program} {l : Launch} {e : Env} {s : State} {m : MethodId} {args : Array Value} {below : List Frame} {meth : Method} {c : Code} {D : va_G} {dA : Nat → ClassId} {tt : Nat → Nat} {b n : Nat} (C : pl_C p s m args meth c co_M_length 2 rn_M (some .int) "length" D dA tt b) {r : Int32} {f : pl_H} {H : Heap} {locs : List Loc} {ls : Array Slot} (hF : fn_M_length_21 f = some r) (w : pl_wd D vwCl dA b n f H) (hS : va_S (pl_A b) s.heap H locs) (hl : lv_has ls 2 []) : W p l e rm_M_length s m args below meth c H locs 0 0 (MQ below (pl_qI D dA tt b n f r) args s 0 0 (pl_A b)) (F0 m 21 ls []) := by
  have hx := C.1
  have hb := C.2.1
  have hown := C.2.2.2.2.1
  have hts := C.2.2.2.2.2.2.1
  unfold fn_M_length_21 at hF
  refine lv_iconst (v := (-1)) hx hb dc_M_length_21 (by decide) ?_
  exact tl_M_length_22 C hF w hS (lv_sub hl [] rfl)
set_option maxHeartbeats 4000000 in
set_option maxRecDepth 100000 in
theorem tl_M_length {p : Program} {l : Launch} {e : Env} {s : State} {m : MethodId} {args : Array Value} {below : List Frame} {meth : Method} {c : Code} {D : va_G} {dA : Nat → ClassId} {tt : Nat → Nat} {b n : Nat} (C : pl_C p s m args meth c co_M_length 2 rn_M (some .int) "length" D dA tt b) {r : Int32} {f : pl_H} {a0 : Nat} {x1 : Int32} {H : Heap} {locs : List Loc} {ls : Array Slot} (hF : fn_M_length f a0 x1 = some r) (w : pl_wd D vwCl dA b n f H) (hS : va_S (pl_A b) s.heap H locs) (hl : lv_has ls 2 [(0, .ref a0), (1, .int x1)]) : W p l e rm_M_length s m args below meth c H locs 0 0 (MQ below (pl_qI D dA tt b n f r) args s 0 0 (pl_A b)) (F0 m 0 ls []) := by
  have hx := C.1
  have hb := C.2.1
  have hown := C.2.2.2.2.1
  have hts := C.2.2.2.2.2.2.1
  unfold fn_M_length at hF
  refine lv_iload_n hx hb dc_M_length_0 rfl (lv_at hl 1 rfl) ?_
  refine lv_if_lt hx hb dc_M_length_1 (tgt := 21) (by decide) (fun hc => ?_) (fun hc => ?_)
  · have hF := (if_pos hc).symm.trans hF
    exact tl_M_length_21 C hF w hS (lv_sub hl [] rfl)
  · have hF := (if_neg hc).symm.trans hF
    refine lv_iload_n hx hb dc_M_length_4 rfl (lv_at hl 1 rfl) ?_
    refine lv_aload_n hx hb dc_M_length_5 rfl (lv_at hl 0 rfl) ?_
    obtain ⟨v1, ev1, hF⟩ := pl_bd hF
    refine pl_getI C w (ci := 8) in_M rfl (by decide) 16 (by decide) mw_713 ev1 dc_M_length_6 ?_
    refine lv_icmp_ge hx hb dc_M_length_9 (tgt := 21) (by decide) (fun hc => ?_) (fun hc => ?_)
    · have hF := (if_pos hc).symm.trans hF
      exact tl_M_length_21 C hF w hS (lv_sub hl [] rfl)
    · have hF := (if_neg hc).symm.trans hF
      refine lv_aload_n hx hb dc_M_length_12 rfl (lv_at hl 0 rfl) ?_
      obtain ⟨v2, ev2, hF⟩ := pl_bd hF
      refine pl_getR C w (ci := 8) in_M rfl (by decide) 17 (by decide) mw_714 ev2 dc_M_length_13 ?_
      refine lv_iload_n hx hb dc_M_length_16 rfl (lv_at hl 1 rfl) ?_
      obtain ⟨v3, ev3, hF⟩ := pl_bd hF
      refine pl_aldI C w ev3 dc_M_length_17 ?_
      refine lv_goto hx hb dc_M_length_18 (tgt := 22) (by decide) ?_
      exact tl_M_length_22 C hF w hS (lv_sub hl [] rfl)
set_option maxHeartbeats 4000000 in
set_option maxRecDepth 100000 in
theorem tm_M_length (l : Launch) (D : va_G) (dA : Nat → ClassId) (tt : Nat → Nat) (b n : Nat) {f : pl_H} {a0 : Nat} {x1 : Int32} {r : Int32} (hF : fn_M_length f a0 x1 = some r) : Met l my_M_length (Cond.code my_M_length co_M_length 2 (some .int) :: pl_tb) rm_M_length (va_Pc [.ref a0, .int x1] (pl_pre D dA tt b n f)) (pl_qI D dA tt b n f r) 0 0 (pl_A b) := by
  refine Met.ofW (cc := co_M_length) (maxL := 2) (ret := (some .int)) (by decide) rfl ?_
  intro p e s m args below meth c s₁ B hml hv
  obtain ⟨rfl, w, hK⟩ := hv
  have C : pl_C p s m _ meth c co_M_length 2 rn_M (some .int) "length" D dA tt b := ⟨B.exec, B.bytes, hml, B.returns, findClass_of_methodNamed B.named, B.notSynchronized, fun w hw => atoms_spec (ws := Cond.code my_M_length co_M_length 2 (some .int) :: pl_tb) B.pre w (List.mem_cons_of_mem _ hw), (name_of_methodNamed B.named B.method).1, hK⟩
  have hl := lv_entry ([.ref a0, .int x1]) (n := 2) (Nat.le_of_ble_eq_true rfl)
  rw [lg_entry_eq]
  generalize (lg_sl ([.ref a0, .int x1]) ++ List.replicate (2 - (lg_sl ([.ref a0, .int x1])).length) Slot.unset).toArray = ls at hl ⊢
  have hl : lv_has ls 2 [(0, .ref a0), (1, .int x1)] := hl
  exact tl_M_length C hF w va_S.rf hl
def rm_M_part : Room := { frames := 1, cells := 0, slots := 0, locals := 22 }
def fn_M_part_25 (f : pl_H) (sx0 : Int32) : Option (Int32) := some sx0
def fn_M_part (f : pl_H) (a0 : Nat) (x1 : Int32) (x2 : Int32) : Option (Int32) := (pl_is f a0 8).bind fun u2 => (fn_M_isByte f a0 x1 x2).bind fun v1 => if v1 = 0 then fn_M_part_25 f ((-1)) else (pl_gR f a0 8 18).bind fun v3 => (pl_aI f v3 ((600 * x1) + x2)).bind fun v4 => fn_M_part_25 f v4
set_option maxHeartbeats 4000000 in
set_option maxRecDepth 100000 in
theorem tl_M_part_25 {p : Program} {l : Launch} {e : Env} {s : State} {m : MethodId} {args : Array Value} {below : List Frame} {meth : Method} {c : Code} {D : va_G} {dA : Nat → ClassId} {tt : Nat → Nat} {b n : Nat} (C : pl_C p s m args meth c co_M_part 3 rn_M (some .int) "part" D dA tt b) {r : Int32} {f : pl_H} {sx0 : Int32} {H : Heap} {locs : List Loc} {ls : Array Slot} (hF : fn_M_part_25 f sx0 = some r) (w : pl_wd D vwCl dA b n f H) (hS : va_S (pl_A b) s.heap H locs) (hl : lv_has ls 3 []) : W p l e rm_M_part s m args below meth c H locs 0 0 (MQ below (pl_qI D dA tt b n f r) args s 0 0 (pl_A b)) (F0 m 25 ls [.int sx0]) := by
  have hx := C.1
  have hb := C.2.1
  have hown := C.2.2.2.2.1
  have hts := C.2.2.2.2.2.2.1
  unfold fn_M_part_25 at hF
  exact pl_retI C w hS hF dc_M_part_25
set_option maxHeartbeats 4000000 in
set_option maxRecDepth 100000 in
theorem tl_M_part {p : Program} {l : Launch} {e : Env} {s : State} {m : MethodId} {args : Array Value} {below : List Frame} {meth : Method} {c : Code} {D : va_G} {dA : Nat → ClassId} {tt : Nat → Nat} {b n : Nat} (C : pl_C p s m args meth c co_M_part 3 rn_M (some .int) "part" D dA tt b) {r : Int32} {f : pl_H} {a0 : Nat} {x1 : Int32} {x2 : Int32} {H : Heap} {locs : List Loc} {ls : Array Slot} (hF : fn_M_part f a0 x1 x2 = some r) (w : pl_wd D vwCl dA b n f H) (hS : va_S (pl_A b) s.heap H locs) (hl : lv_has ls 3 [(0, .ref a0), (1, .int x1), (2, .int x2)]) : W p l e rm_M_part s m args below meth c H locs 0 0 (MQ below (pl_qI D dA tt b n f r) args s 0 0 (pl_A b)) (F0 m 0 ls []) := by
  have hx := C.1
  have hb := C.2.1
  have hown := C.2.2.2.2.1
  have hts := C.2.2.2.2.2.2.1
  unfold fn_M_part at hF
  refine lv_aload_n hx hb dc_M_part_0 rfl (lv_at hl 0 rfl) ?_
  refine lv_iload_n hx hb dc_M_part_1 rfl (lv_at hl 1 rfl) ?_
  refine lv_iload_n hx hb dc_M_part_2 rfl (lv_at hl 2 rfl) ?_
  obtain ⟨u2, eu2, hF⟩ := pl_bd hF
  obtain ⟨v1, ev1, hF⟩ := pl_bd hF
  refine pl_gi (pl_runV (Cn := rn_M) (k := 2) C (tm_M_isByte l D dA tt b n ev1) w hS rfl rfl mw_959 mw_961 mw_51 mw_72 mw_962 (by decide +kernel) ⟨by decide, by decide⟩ eu2 rfl (by decide) rfl hl.1 (Nat.le_of_ble_eq_true rfl) ⟨Nat.zero_le _, Nat.zero_le _⟩ rfl dc_M_part_3) hS (fun H locs w hS => ?_)
  refine lv_if_eq hx hb dc_M_part_6 (tgt := 24) (by decide) (fun hc => ?_) (fun hc => ?_)
  · have hF := (if_pos hc).symm.trans hF
    refine lv_iconst (v := (-1)) hx hb dc_M_part_24 (by decide) ?_
    exact tl_M_part_25 C hF w hS (lv_sub hl [] rfl)
  · have hF := (if_neg hc).symm.trans hF
    refine lv_aload_n hx hb dc_M_part_9 rfl (lv_at hl 0 rfl) ?_
    obtain ⟨v3, ev3, hF⟩ := pl_bd hF
    refine pl_getR C w (ci := 8) in_M rfl (by decide) 18 (by decide) mw_715 ev3 dc_M_part_10 ?_
    refine lv_sipush (v := 600) hx hb dc_M_part_13 (by decide) ?_
    refine lv_iload_n hx hb dc_M_part_16 rfl (lv_at hl 1 rfl) ?_
    refine lv_imul hx hb dc_M_part_17 ?_
    refine lv_iload_n hx hb dc_M_part_18 rfl (lv_at hl 2 rfl) ?_
    refine lv_iadd hx hb dc_M_part_19 ?_
    obtain ⟨v4, ev4, hF⟩ := pl_bd hF
    refine pl_aldI C w ev4 dc_M_part_20 ?_
    refine lv_goto hx hb dc_M_part_21 (tgt := 25) (by decide) ?_
    exact tl_M_part_25 C hF w hS (lv_sub hl [] rfl)
set_option maxHeartbeats 4000000 in
set_option maxRecDepth 100000 in
theorem tm_M_part (l : Launch) (D : va_G) (dA : Nat → ClassId) (tt : Nat → Nat) (b n : Nat) {f : pl_H} {a0 : Nat} {x1 : Int32} {x2 : Int32} {r : Int32} (hF : fn_M_part f a0 x1 x2 = some r) : Met l my_M_part (Cond.code my_M_part co_M_part 3 (some .int) :: pl_tb) rm_M_part (va_Pc [.ref a0, .int x1, .int x2] (pl_pre D dA tt b n f)) (pl_qI D dA tt b n f r) 0 0 (pl_A b) := by
  refine Met.ofW (cc := co_M_part) (maxL := 3) (ret := (some .int)) (by decide) rfl ?_
  intro p e s m args below meth c s₁ B hml hv
  obtain ⟨rfl, w, hK⟩ := hv
  have C : pl_C p s m _ meth c co_M_part 3 rn_M (some .int) "part" D dA tt b := ⟨B.exec, B.bytes, hml, B.returns, findClass_of_methodNamed B.named, B.notSynchronized, fun w hw => atoms_spec (ws := Cond.code my_M_part co_M_part 3 (some .int) :: pl_tb) B.pre w (List.mem_cons_of_mem _ hw), (name_of_methodNamed B.named B.method).1, hK⟩
  have hl := lv_entry ([.ref a0, .int x1, .int x2]) (n := 3) (Nat.le_of_ble_eq_true rfl)
  rw [lg_entry_eq]
  generalize (lg_sl ([.ref a0, .int x1, .int x2]) ++ List.replicate (3 - (lg_sl ([.ref a0, .int x1, .int x2])).length) Slot.unset).toArray = ls at hl ⊢
  have hl : lv_has ls 3 [(0, .ref a0), (1, .int x1), (2, .int x2)] := hl
  exact tl_M_part C hF w va_S.rf hl
def rm_M_alter : Room := { frames := 1, cells := 0, slots := 0, locals := 22 }
def fn_M_alter_43 (f : pl_H) (a0 : Nat) (x1 : Int32) (x2 : Int32) (x3 : Int32) (sx0 : Int32) : Option (Int32 × pl_H) := (pl_gR f a0 8 18).bind fun v1 => (pl_sI f v1 ((600 * x1) + x2) x3).bind fun f2 => (pl_z sx0).bind (fun z => some (z, f2))
def fn_M_alter_20 (f : pl_H) : Option (Int32 × pl_H) := (pl_z 0).bind (fun z => some (z, f))
def fn_M_alter (f : pl_H) (a0 : Nat) (x1 : Int32) (x2 : Int32) (x3 : Int32) : Option (Int32 × pl_H) := (pl_is f a0 8).bind fun u2 => (fn_M_isByte f a0 x1 x2).bind fun v1 => if v1 = 0 then fn_M_alter_20 f else if x3 < 0 then fn_M_alter_20 f else if x3 ≤ 255 then (pl_gR f a0 8 18).bind fun v3 => (pl_aI f v3 ((600 * x1) + x2)).bind fun v4 => if v4 = x3 then fn_M_alter_43 f a0 x1 x2 x3 0 else fn_M_alter_43 f a0 x1 x2 x3 1 else fn_M_alter_20 f
set_option maxHeartbeats 4000000 in
set_option maxRecDepth 100000 in
theorem tl_M_alter_43 {p : Program} {l : Launch} {e : Env} {s : State} {m : MethodId} {args : Array Value} {below : List Frame} {meth : Method} {c : Code} {D : va_G} {dA : Nat → ClassId} {tt : Nat → Nat} {b n : Nat} (C : pl_C p s m args meth c co_M_alter 5 rn_M (some .boolean) "alter" D dA tt b) {r : Int32} {f' : pl_H} {f : pl_H} {a0 : Nat} {x1 : Int32} {x2 : Int32} {x3 : Int32} {sx0 : Int32} {H : Heap} {locs : List Loc} {ls : Array Slot} (hF : fn_M_alter_43 f a0 x1 x2 x3 sx0 = some (r, f')) (w : pl_wd D vwCl dA b n f H) (hS : va_S (pl_A b) s.heap H locs) (hl : lv_has ls 5 [(0, .ref a0), (1, .int x1), (2, .int x2), (3, .int x3)]) : W p l e rm_M_alter s m args below meth c H locs 0 0 (MQ below (pl_qI D dA tt b n f' r) args s 0 0 (pl_A b)) (F0 m 43 ls [.int sx0]) := by
  have hx := C.1
  have hb := C.2.1
  have hown := C.2.2.2.2.1
  have hts := C.2.2.2.2.2.2.1
  unfold fn_M_alter_43 at hF
  refine lv_istore (lv' := [(4, .int sx0), (0, .ref a0), (1, .int x1), (2, .int x2), (3, .int x3)]) hx hb dc_M_alter_43 hl (by decide) rfl (fun ls hl => ?_)
  refine lv_aload_n hx hb dc_M_alter_45 rfl (lv_at hl 1 rfl) ?_
  obtain ⟨v1, ev1, hF⟩ := pl_bd hF
  refine pl_getR C w (ci := 8) in_M rfl (by decide) 18 (by decide) mw_715 ev1 dc_M_alter_46 ?_
  refine lv_sipush (v := 600) hx hb dc_M_alter_49 (by decide) ?_
  refine lv_iload_n hx hb dc_M_alter_52 rfl (lv_at hl 2 rfl) ?_
  refine lv_imul hx hb dc_M_alter_53 ?_
  refine lv_iload_n hx hb dc_M_alter_54 rfl (lv_at hl 3 rfl) ?_
  refine lv_iadd hx hb dc_M_alter_55 ?_
  refine lv_iload_n hx hb dc_M_alter_56 rfl (lv_at hl 4 rfl) ?_
  obtain ⟨f2, ef2, hF⟩ := pl_bd hF
  refine pl_astI C w hS ef2 dc_M_alter_57 (fun H locs w hS => ?_)
  refine lv_iload hx hb dc_M_alter_58 (lv_at hl 0 rfl) ?_
  exact pl_retZw C w hS hF dc_M_alter_60
set_option maxHeartbeats 4000000 in
set_option maxRecDepth 100000 in
theorem tl_M_alter_20 {p : Program} {l : Launch} {e : Env} {s : State} {m : MethodId} {args : Array Value} {below : List Frame} {meth : Method} {c : Code} {D : va_G} {dA : Nat → ClassId} {tt : Nat → Nat} {b n : Nat} (C : pl_C p s m args meth c co_M_alter 5 rn_M (some .boolean) "alter" D dA tt b) {r : Int32} {f' : pl_H} {f : pl_H} {H : Heap} {locs : List Loc} {ls : Array Slot} (hF : fn_M_alter_20 f = some (r, f')) (w : pl_wd D vwCl dA b n f H) (hS : va_S (pl_A b) s.heap H locs) (hl : lv_has ls 5 []) : W p l e rm_M_alter s m args below meth c H locs 0 0 (MQ below (pl_qI D dA tt b n f' r) args s 0 0 (pl_A b)) (F0 m 20 ls []) := by
  have hx := C.1
  have hb := C.2.1
  have hown := C.2.2.2.2.1
  have hts := C.2.2.2.2.2.2.1
  unfold fn_M_alter_20 at hF
  refine lv_iconst (v := 0) hx hb dc_M_alter_20 (by decide) ?_
  exact pl_retZw C w hS hF dc_M_alter_21
set_option maxHeartbeats 4000000 in
set_option maxRecDepth 100000 in
theorem tl_M_alter {p : Program} {l : Launch} {e : Env} {s : State} {m : MethodId} {args : Array Value} {below : List Frame} {meth : Method} {c : Code} {D : va_G} {dA : Nat → ClassId} {tt : Nat → Nat} {b n : Nat} (C : pl_C p s m args meth c co_M_alter 5 rn_M (some .boolean) "alter" D dA tt b) {r : Int32} {f' : pl_H} {f : pl_H} {a0 : Nat} {x1 : Int32} {x2 : Int32} {x3 : Int32} {H : Heap} {locs : List Loc} {ls : Array Slot} (hF : fn_M_alter f a0 x1 x2 x3 = some (r, f')) (w : pl_wd D vwCl dA b n f H) (hS : va_S (pl_A b) s.heap H locs) (hl : lv_has ls 5 [(0, .ref a0), (1, .int x1), (2, .int x2), (3, .int x3)]) : W p l e rm_M_alter s m args below meth c H locs 0 0 (MQ below (pl_qI D dA tt b n f' r) args s 0 0 (pl_A b)) (F0 m 0 ls []) := by
  have hx := C.1
  have hb := C.2.1
  have hown := C.2.2.2.2.1
  have hts := C.2.2.2.2.2.2.1
  unfold fn_M_alter at hF
  refine lv_aload_n hx hb dc_M_alter_0 rfl (lv_at hl 0 rfl) ?_
  refine lv_iload_n hx hb dc_M_alter_1 rfl (lv_at hl 1 rfl) ?_
  refine lv_iload_n hx hb dc_M_alter_2 rfl (lv_at hl 2 rfl) ?_
  obtain ⟨u2, eu2, hF⟩ := pl_bd hF
  obtain ⟨v1, ev1, hF⟩ := pl_bd hF
  refine pl_gi (pl_runV (Cn := rn_M) (k := 2) C (tm_M_isByte l D dA tt b n ev1) w hS rfl rfl mw_959 mw_961 mw_51 mw_72 mw_962 (by decide +kernel) ⟨by decide, by decide⟩ eu2 rfl (by decide) rfl hl.1 (Nat.le_of_ble_eq_true rfl) ⟨Nat.zero_le _, Nat.zero_le _⟩ rfl dc_M_alter_3) hS (fun H locs w hS => ?_)
  refine lv_if_eq hx hb dc_M_alter_6 (tgt := 20) (by decide) (fun hc => ?_) (fun hc => ?_)
  · have hF := (if_pos hc).symm.trans hF
    exact tl_M_alter_20 C hF w hS (lv_sub hl [] rfl)
  · have hF := (if_neg hc).symm.trans hF
    refine lv_iload_n hx hb dc_M_alter_9 rfl (lv_at hl 3 rfl) ?_
    refine lv_if_lt hx hb dc_M_alter_10 (tgt := 20) (by decide) (fun hc => ?_) (fun hc => ?_)
    · have hF := (if_pos hc).symm.trans hF
      exact tl_M_alter_20 C hF w hS (lv_sub hl [] rfl)
    · have hF := (if_neg hc).symm.trans hF
      refine lv_iload_n hx hb dc_M_alter_13 rfl (lv_at hl 3 rfl) ?_
      refine lv_sipush (v := 255) hx hb dc_M_alter_14 (by decide) ?_
      refine lv_icmp_le hx hb dc_M_alter_17 (tgt := 22) (by decide) (fun hc => ?_) (fun hc => ?_)
      · have hF := (if_pos hc).symm.trans hF
        refine lv_aload_n hx hb dc_M_alter_22 rfl (lv_at hl 0 rfl) ?_
        obtain ⟨v3, ev3, hF⟩ := pl_bd hF
        refine pl_getR C w (ci := 8) in_M rfl (by decide) 18 (by decide) mw_715 ev3 dc_M_alter_23 ?_
        refine lv_sipush (v := 600) hx hb dc_M_alter_26 (by decide) ?_
        refine lv_iload_n hx hb dc_M_alter_29 rfl (lv_at hl 1 rfl) ?_
        refine lv_imul hx hb dc_M_alter_30 ?_
        refine lv_iload_n hx hb dc_M_alter_31 rfl (lv_at hl 2 rfl) ?_
        refine lv_iadd hx hb dc_M_alter_32 ?_
        obtain ⟨v4, ev4, hF⟩ := pl_bd hF
        refine pl_aldI C w ev4 dc_M_alter_33 ?_
        refine lv_iload_n hx hb dc_M_alter_34 rfl (lv_at hl 3 rfl) ?_
        refine lv_icmp_eq hx hb dc_M_alter_35 (tgt := 42) (by decide) (fun hc => ?_) (fun hc => ?_)
        · have hF := (if_pos hc).symm.trans hF
          refine lv_iconst (v := 0) hx hb dc_M_alter_42 (by decide) ?_
          exact tl_M_alter_43 C hF w hS (lv_sub hl [0, 1, 2, 3] rfl)
        · have hF := (if_neg hc).symm.trans hF
          refine lv_iconst (v := 1) hx hb dc_M_alter_38 (by decide) ?_
          refine lv_goto hx hb dc_M_alter_39 (tgt := 43) (by decide) ?_
          exact tl_M_alter_43 C hF w hS (lv_sub hl [0, 1, 2, 3] rfl)
      · have hF := (if_neg hc).symm.trans hF
        exact tl_M_alter_20 C hF w hS (lv_sub hl [] rfl)
set_option maxHeartbeats 4000000 in
set_option maxRecDepth 100000 in
theorem tm_M_alter (l : Launch) (D : va_G) (dA : Nat → ClassId) (tt : Nat → Nat) (b n : Nat) {f : pl_H} {a0 : Nat} {x1 : Int32} {x2 : Int32} {x3 : Int32} {r : Int32} {f' : pl_H} (hF : fn_M_alter f a0 x1 x2 x3 = some (r, f')) : Met l my_M_alter (Cond.code my_M_alter co_M_alter 5 (some .boolean) :: pl_tb) rm_M_alter (va_Pc [.ref a0, .int x1, .int x2, .int x3] (pl_pre D dA tt b n f)) (pl_qI D dA tt b n f' r) 0 0 (pl_A b) := by
  refine Met.ofW (cc := co_M_alter) (maxL := 5) (ret := (some .boolean)) (by decide) rfl ?_
  intro p e s m args below meth c s₁ B hml hv
  obtain ⟨rfl, w, hK⟩ := hv
  have C : pl_C p s m _ meth c co_M_alter 5 rn_M (some .boolean) "alter" D dA tt b := ⟨B.exec, B.bytes, hml, B.returns, findClass_of_methodNamed B.named, B.notSynchronized, fun w hw => atoms_spec (ws := Cond.code my_M_alter co_M_alter 5 (some .boolean) :: pl_tb) B.pre w (List.mem_cons_of_mem _ hw), (name_of_methodNamed B.named B.method).1, hK⟩
  have hl := lv_entry ([.ref a0, .int x1, .int x2, .int x3]) (n := 5) (Nat.le_of_ble_eq_true rfl)
  rw [lg_entry_eq]
  generalize (lg_sl ([.ref a0, .int x1, .int x2, .int x3]) ++ List.replicate (5 - (lg_sl ([.ref a0, .int x1, .int x2, .int x3])).length) Slot.unset).toArray = ls at hl ⊢
  have hl : lv_has ls 5 [(0, .ref a0), (1, .int x1), (2, .int x2), (3, .int x3)] := hl
  exact tl_M_alter C hF w va_S.rf hl
def rm_M_shorten : Room := { frames := 0, cells := 0, slots := 0, locals := 0 }
def fn_M_shorten (f : pl_H) (a0 : Nat) : Option (Int32 × pl_H) := (pl_gI f a0 8 16).bind fun v1 => if v1 = 0 then some ((-1), f) else (pl_gI f a0 8 16).bind fun v2 => (pl_pV f a0 8 16 (.int (v2 - 1))).bind fun f3 => (pl_gI f3 a0 8 16).bind fun v4 => some (v4, f3)
set_option maxHeartbeats 4000000 in
set_option maxRecDepth 100000 in
theorem tl_M_shorten {p : Program} {l : Launch} {e : Env} {s : State} {m : MethodId} {args : Array Value} {below : List Frame} {meth : Method} {c : Code} {D : va_G} {dA : Nat → ClassId} {tt : Nat → Nat} {b n : Nat} (C : pl_C p s m args meth c co_M_shorten 1 rn_M (some .int) "shorten" D dA tt b) {r : Int32} {f' : pl_H} {f : pl_H} {a0 : Nat} {H : Heap} {locs : List Loc} {ls : Array Slot} (hF : fn_M_shorten f a0 = some (r, f')) (w : pl_wd D vwCl dA b n f H) (hS : va_S (pl_A b) s.heap H locs) (hl : lv_has ls 1 [(0, .ref a0)]) : W p l e rm_M_shorten s m args below meth c H locs 0 0 (MQ below (pl_qI D dA tt b n f' r) args s 0 0 (pl_A b)) (F0 m 0 ls []) := by
  have hx := C.1
  have hb := C.2.1
  have hown := C.2.2.2.2.1
  have hts := C.2.2.2.2.2.2.1
  unfold fn_M_shorten at hF
  refine lv_aload_n hx hb dc_M_shorten_0 rfl (lv_at hl 0 rfl) ?_
  obtain ⟨v1, ev1, hF⟩ := pl_bd hF
  refine pl_getI C w (ci := 8) in_M rfl (by decide) 16 (by decide) mw_713 ev1 dc_M_shorten_1 ?_
  refine lv_if_ne hx hb dc_M_shorten_4 (tgt := 9) (by decide) (fun hc => ?_) (fun hc => ?_)
  · have hF := (if_neg hc).symm.trans hF
    refine lv_aload_n hx hb dc_M_shorten_9 rfl (lv_at hl 0 rfl) ?_
    refine lv_dup hx hb dc_M_shorten_10 rfl ?_
    obtain ⟨v2, ev2, hF⟩ := pl_bd hF
    refine pl_getI C w (ci := 8) in_M rfl (by decide) 16 (by decide) mw_713 ev2 dc_M_shorten_11 ?_
    refine lv_iconst (v := 1) hx hb dc_M_shorten_14 (by decide) ?_
    refine lv_isub hx hb dc_M_shorten_15 ?_
    obtain ⟨f3, ef3, hF⟩ := pl_bd hF
    refine pl_put C w hS (ci := 8) in_M rfl (by decide) rty_M_ok rnm_M 16 (by decide) mw_713 rfl rfl rfl ef3 dc_M_shorten_16 (fun H locs w hS => ?_)
    refine lv_aload_n hx hb dc_M_shorten_19 rfl (lv_at hl 0 rfl) ?_
    obtain ⟨v4, ev4, hF⟩ := pl_bd hF
    refine pl_getI C w (ci := 8) in_M rfl (by decide) 16 (by decide) mw_713 ev4 dc_M_shorten_20 ?_
    exact pl_retIw C w hS hF dc_M_shorten_23
  · have hF := (if_pos hc).symm.trans hF
    refine lv_iconst (v := (-1)) hx hb dc_M_shorten_7 (by decide) ?_
    exact pl_retIw C w hS hF dc_M_shorten_8
set_option maxHeartbeats 4000000 in
set_option maxRecDepth 100000 in
theorem tm_M_shorten (l : Launch) (D : va_G) (dA : Nat → ClassId) (tt : Nat → Nat) (b n : Nat) {f : pl_H} {a0 : Nat} {r : Int32} {f' : pl_H} (hF : fn_M_shorten f a0 = some (r, f')) : Met l my_M_shorten (Cond.code my_M_shorten co_M_shorten 1 (some .int) :: pl_tb) rm_M_shorten (va_Pc [.ref a0] (pl_pre D dA tt b n f)) (pl_qI D dA tt b n f' r) 0 0 (pl_A b) := by
  refine Met.ofW (cc := co_M_shorten) (maxL := 1) (ret := (some .int)) (by decide) rfl ?_
  intro p e s m args below meth c s₁ B hml hv
  obtain ⟨rfl, w, hK⟩ := hv
  have C : pl_C p s m _ meth c co_M_shorten 1 rn_M (some .int) "shorten" D dA tt b := ⟨B.exec, B.bytes, hml, B.returns, findClass_of_methodNamed B.named, B.notSynchronized, fun w hw => atoms_spec (ws := Cond.code my_M_shorten co_M_shorten 1 (some .int) :: pl_tb) B.pre w (List.mem_cons_of_mem _ hw), (name_of_methodNamed B.named B.method).1, hK⟩
  have hl := lv_entry ([.ref a0]) (n := 1) (Nat.le_of_ble_eq_true rfl)
  rw [lg_entry_eq]
  generalize (lg_sl ([.ref a0]) ++ List.replicate (1 - (lg_sl ([.ref a0])).length) Slot.unset).toArray = ls at hl ⊢
  have hl : lv_has ls 1 [(0, .ref a0)] := hl
  exact tl_M_shorten C hF w va_S.rf hl
def rm_M_byteOf : Room := { frames := 0, cells := 0, slots := 0, locals := 0 }
def fn_M_byteOf_26 (f : pl_H) (sx0 : Int32) : Option (Int32) := some sx0
def fn_M_byteOf (f : pl_H) (a0 : Nat) (x1 : Int32) (x2 : Int32) : Option (Int32) := (pl_gR f a0 8 17).bind fun v1 => (pl_aI f v1 x1).bind fun v2 => if v2 ≤ x2 then fn_M_byteOf_26 f 0 else (pl_gR f a0 8 18).bind fun v3 => (pl_aI f v3 ((600 * x1) + x2)).bind fun v4 => fn_M_byteOf_26 f v4
set_option maxHeartbeats 4000000 in
set_option maxRecDepth 100000 in
theorem tl_M_byteOf_26 {p : Program} {l : Launch} {e : Env} {s : State} {m : MethodId} {args : Array Value} {below : List Frame} {meth : Method} {c : Code} {D : va_G} {dA : Nat → ClassId} {tt : Nat → Nat} {b n : Nat} (C : pl_C p s m args meth c co_M_byteOf 3 rn_M (some .int) "byteOf" D dA tt b) {r : Int32} {f : pl_H} {sx0 : Int32} {H : Heap} {locs : List Loc} {ls : Array Slot} (hF : fn_M_byteOf_26 f sx0 = some r) (w : pl_wd D vwCl dA b n f H) (hS : va_S (pl_A b) s.heap H locs) (hl : lv_has ls 3 []) : W p l e rm_M_byteOf s m args below meth c H locs 0 0 (MQ below (pl_qI D dA tt b n f r) args s 0 0 (pl_A b)) (F0 m 26 ls [.int sx0]) := by
  have hx := C.1
  have hb := C.2.1
  have hown := C.2.2.2.2.1
  have hts := C.2.2.2.2.2.2.1
  unfold fn_M_byteOf_26 at hF
  exact pl_retI C w hS hF dc_M_byteOf_26
set_option maxHeartbeats 4000000 in
set_option maxRecDepth 100000 in
theorem tl_M_byteOf {p : Program} {l : Launch} {e : Env} {s : State} {m : MethodId} {args : Array Value} {below : List Frame} {meth : Method} {c : Code} {D : va_G} {dA : Nat → ClassId} {tt : Nat → Nat} {b n : Nat} (C : pl_C p s m args meth c co_M_byteOf 3 rn_M (some .int) "byteOf" D dA tt b) {r : Int32} {f : pl_H} {a0 : Nat} {x1 : Int32} {x2 : Int32} {H : Heap} {locs : List Loc} {ls : Array Slot} (hF : fn_M_byteOf f a0 x1 x2 = some r) (w : pl_wd D vwCl dA b n f H) (hS : va_S (pl_A b) s.heap H locs) (hl : lv_has ls 3 [(0, .ref a0), (1, .int x1), (2, .int x2)]) : W p l e rm_M_byteOf s m args below meth c H locs 0 0 (MQ below (pl_qI D dA tt b n f r) args s 0 0 (pl_A b)) (F0 m 0 ls []) := by
  have hx := C.1
  have hb := C.2.1
  have hown := C.2.2.2.2.1
  have hts := C.2.2.2.2.2.2.1
  unfold fn_M_byteOf at hF
  refine lv_iload_n hx hb dc_M_byteOf_0 rfl (lv_at hl 2 rfl) ?_
  refine lv_aload_n hx hb dc_M_byteOf_1 rfl (lv_at hl 0 rfl) ?_
  obtain ⟨v1, ev1, hF⟩ := pl_bd hF
  refine pl_getR C w (ci := 8) in_M rfl (by decide) 17 (by decide) mw_714 ev1 dc_M_byteOf_2 ?_
  refine lv_iload_n hx hb dc_M_byteOf_5 rfl (lv_at hl 1 rfl) ?_
  obtain ⟨v2, ev2, hF⟩ := pl_bd hF
  refine pl_aldI C w ev2 dc_M_byteOf_6 ?_
  refine lv_icmp_ge hx hb dc_M_byteOf_7 (tgt := 25) (by decide) (fun hc => ?_) (fun hc => ?_)
  · have hF := (if_pos hc).symm.trans hF
    refine lv_iconst (v := 0) hx hb dc_M_byteOf_25 (by decide) ?_
    exact tl_M_byteOf_26 C hF w hS (lv_sub hl [] rfl)
  · have hF := (if_neg hc).symm.trans hF
    refine lv_aload_n hx hb dc_M_byteOf_10 rfl (lv_at hl 0 rfl) ?_
    obtain ⟨v3, ev3, hF⟩ := pl_bd hF
    refine pl_getR C w (ci := 8) in_M rfl (by decide) 18 (by decide) mw_715 ev3 dc_M_byteOf_11 ?_
    refine lv_sipush (v := 600) hx hb dc_M_byteOf_14 (by decide) ?_
    refine lv_iload_n hx hb dc_M_byteOf_17 rfl (lv_at hl 1 rfl) ?_
    refine lv_imul hx hb dc_M_byteOf_18 ?_
    refine lv_iload_n hx hb dc_M_byteOf_19 rfl (lv_at hl 2 rfl) ?_
    refine lv_iadd hx hb dc_M_byteOf_20 ?_
    obtain ⟨v4, ev4, hF⟩ := pl_bd hF
    refine pl_aldI C w ev4 dc_M_byteOf_21 ?_
    refine lv_goto hx hb dc_M_byteOf_22 (tgt := 26) (by decide) ?_
    exact tl_M_byteOf_26 C hF w hS (lv_sub hl [] rfl)
set_option maxHeartbeats 4000000 in
set_option maxRecDepth 100000 in
theorem tm_M_byteOf (l : Launch) (D : va_G) (dA : Nat → ClassId) (tt : Nat → Nat) (b n : Nat) {f : pl_H} {a0 : Nat} {x1 : Int32} {x2 : Int32} {r : Int32} (hF : fn_M_byteOf f a0 x1 x2 = some r) : Met l my_M_byteOf (Cond.code my_M_byteOf co_M_byteOf 3 (some .int) :: pl_tb) rm_M_byteOf (va_Pc [.ref a0, .int x1, .int x2] (pl_pre D dA tt b n f)) (pl_qI D dA tt b n f r) 0 0 (pl_A b) := by
  refine Met.ofW (cc := co_M_byteOf) (maxL := 3) (ret := (some .int)) (by decide) rfl ?_
  intro p e s m args below meth c s₁ B hml hv
  obtain ⟨rfl, w, hK⟩ := hv
  have C : pl_C p s m _ meth c co_M_byteOf 3 rn_M (some .int) "byteOf" D dA tt b := ⟨B.exec, B.bytes, hml, B.returns, findClass_of_methodNamed B.named, B.notSynchronized, fun w hw => atoms_spec (ws := Cond.code my_M_byteOf co_M_byteOf 3 (some .int) :: pl_tb) B.pre w (List.mem_cons_of_mem _ hw), (name_of_methodNamed B.named B.method).1, hK⟩
  have hl := lv_entry ([.ref a0, .int x1, .int x2]) (n := 3) (Nat.le_of_ble_eq_true rfl)
  rw [lg_entry_eq]
  generalize (lg_sl ([.ref a0, .int x1, .int x2]) ++ List.replicate (3 - (lg_sl ([.ref a0, .int x1, .int x2])).length) Slot.unset).toArray = ls at hl ⊢
  have hl : lv_has ls 3 [(0, .ref a0), (1, .int x1), (2, .int x2)] := hl
  exact tl_M_byteOf C hF w va_S.rf hl
def rm_M_itemEnd : Room := { frames := 1, cells := 0, slots := 0, locals := 22 }
def fn_M_itemEnd_73 (f : pl_H) (sx0 : Int32) : Option (Int32) := some sx0
def fn_M_itemEnd_56 (f : pl_H) (x2 : Int32) (sx0 : Int32) : Option (Int32) := if 0 ≤ sx0 then fn_M_itemEnd_73 f ((x2 + 1) + sx0) else fn_M_itemEnd_73 f ((-1))
def fn_M_itemEnd_55 (f : pl_H) (x2 : Int32) : Option (Int32) := fn_M_itemEnd_56 f x2 ((-1))
def fn_M_itemEnd (f : pl_H) (a0 : Nat) (x1 : Int32) (x2 : Int32) : Option (Int32) := (pl_is f a0 8).bind fun u2 => (fn_M_byteOf f a0 x1 x2).bind fun v1 => if 128 ≤ v1 then if 184 ≤ v1 then if v1 ≤ 191 then fn_M_itemEnd_55 f x2 else if 248 ≤ v1 then fn_M_itemEnd_55 f x2 else fn_M_itemEnd_56 f x2 (v1 - 192) else fn_M_itemEnd_56 f x2 (v1 - 128) else fn_M_itemEnd_56 f x2 0
set_option maxHeartbeats 4000000 in
set_option maxRecDepth 100000 in
theorem tl_M_itemEnd_73 {p : Program} {l : Launch} {e : Env} {s : State} {m : MethodId} {args : Array Value} {below : List Frame} {meth : Method} {c : Code} {D : va_G} {dA : Nat → ClassId} {tt : Nat → Nat} {b n : Nat} (C : pl_C p s m args meth c co_M_itemEnd 5 rn_M (some .int) "itemEnd" D dA tt b) {r : Int32} {f : pl_H} {sx0 : Int32} {H : Heap} {locs : List Loc} {ls : Array Slot} (hF : fn_M_itemEnd_73 f sx0 = some r) (w : pl_wd D vwCl dA b n f H) (hS : va_S (pl_A b) s.heap H locs) (hl : lv_has ls 5 []) : W p l e rm_M_itemEnd s m args below meth c H locs 0 0 (MQ below (pl_qI D dA tt b n f r) args s 0 0 (pl_A b)) (F0 m 73 ls [.int sx0]) := by
  have hx := C.1
  have hb := C.2.1
  have hown := C.2.2.2.2.1
  have hts := C.2.2.2.2.2.2.1
  unfold fn_M_itemEnd_73 at hF
  exact pl_retI C w hS hF dc_M_itemEnd_73
set_option maxHeartbeats 4000000 in
set_option maxRecDepth 100000 in
theorem tl_M_itemEnd_56 {p : Program} {l : Launch} {e : Env} {s : State} {m : MethodId} {args : Array Value} {below : List Frame} {meth : Method} {c : Code} {D : va_G} {dA : Nat → ClassId} {tt : Nat → Nat} {b n : Nat} (C : pl_C p s m args meth c co_M_itemEnd 5 rn_M (some .int) "itemEnd" D dA tt b) {r : Int32} {f : pl_H} {x2 : Int32} {sx0 : Int32} {H : Heap} {locs : List Loc} {ls : Array Slot} (hF : fn_M_itemEnd_56 f x2 sx0 = some r) (w : pl_wd D vwCl dA b n f H) (hS : va_S (pl_A b) s.heap H locs) (hl : lv_has ls 5 [(2, .int x2)]) : W p l e rm_M_itemEnd s m args below meth c H locs 0 0 (MQ below (pl_qI D dA tt b n f r) args s 0 0 (pl_A b)) (F0 m 56 ls [.int sx0]) := by
  have hx := C.1
  have hb := C.2.1
  have hown := C.2.2.2.2.1
  have hts := C.2.2.2.2.2.2.1
  unfold fn_M_itemEnd_56 at hF
  refine lv_istore (lv' := [(4, .int sx0), (2, .int x2)]) hx hb dc_M_itemEnd_56 hl (by decide) rfl (fun ls hl => ?_)
  refine lv_iload hx hb dc_M_itemEnd_58 (lv_at hl 0 rfl) ?_
  refine lv_if_ge hx hb dc_M_itemEnd_60 (tgt := 67) (by decide) (fun hc => ?_) (fun hc => ?_)
  · have hF := (if_pos hc).symm.trans hF
    refine lv_iload_n hx hb dc_M_itemEnd_67 rfl (lv_at hl 1 rfl) ?_
    refine lv_iconst (v := 1) hx hb dc_M_itemEnd_68 (by decide) ?_
    refine lv_iadd hx hb dc_M_itemEnd_69 ?_
    refine lv_iload hx hb dc_M_itemEnd_70 (lv_at hl 0 rfl) ?_
    refine lv_iadd hx hb dc_M_itemEnd_72 ?_
    exact tl_M_itemEnd_73 C hF w hS (lv_sub hl [] rfl)
  · have hF := (if_neg hc).symm.trans hF
    refine lv_iconst (v := (-1)) hx hb dc_M_itemEnd_63 (by decide) ?_
    refine lv_goto hx hb dc_M_itemEnd_64 (tgt := 73) (by decide) ?_
    exact tl_M_itemEnd_73 C hF w hS (lv_sub hl [] rfl)
set_option maxHeartbeats 4000000 in
set_option maxRecDepth 100000 in
theorem tl_M_itemEnd_55 {p : Program} {l : Launch} {e : Env} {s : State} {m : MethodId} {args : Array Value} {below : List Frame} {meth : Method} {c : Code} {D : va_G} {dA : Nat → ClassId} {tt : Nat → Nat} {b n : Nat} (C : pl_C p s m args meth c co_M_itemEnd 5 rn_M (some .int) "itemEnd" D dA tt b) {r : Int32} {f : pl_H} {x2 : Int32} {H : Heap} {locs : List Loc} {ls : Array Slot} (hF : fn_M_itemEnd_55 f x2 = some r) (w : pl_wd D vwCl dA b n f H) (hS : va_S (pl_A b) s.heap H locs) (hl : lv_has ls 5 [(2, .int x2)]) : W p l e rm_M_itemEnd s m args below meth c H locs 0 0 (MQ below (pl_qI D dA tt b n f r) args s 0 0 (pl_A b)) (F0 m 55 ls []) := by
  have hx := C.1
  have hb := C.2.1
  have hown := C.2.2.2.2.1
  have hts := C.2.2.2.2.2.2.1
  unfold fn_M_itemEnd_55 at hF
  refine lv_iconst (v := (-1)) hx hb dc_M_itemEnd_55 (by decide) ?_
  exact tl_M_itemEnd_56 C hF w hS (lv_sub hl [0] rfl)
set_option maxHeartbeats 4000000 in
set_option maxRecDepth 100000 in
theorem tl_M_itemEnd {p : Program} {l : Launch} {e : Env} {s : State} {m : MethodId} {args : Array Value} {below : List Frame} {meth : Method} {c : Code} {D : va_G} {dA : Nat → ClassId} {tt : Nat → Nat} {b n : Nat} (C : pl_C p s m args meth c co_M_itemEnd 5 rn_M (some .int) "itemEnd" D dA tt b) {r : Int32} {f : pl_H} {a0 : Nat} {x1 : Int32} {x2 : Int32} {H : Heap} {locs : List Loc} {ls : Array Slot} (hF : fn_M_itemEnd f a0 x1 x2 = some r) (w : pl_wd D vwCl dA b n f H) (hS : va_S (pl_A b) s.heap H locs) (hl : lv_has ls 5 [(0, .ref a0), (1, .int x1), (2, .int x2)]) : W p l e rm_M_itemEnd s m args below meth c H locs 0 0 (MQ below (pl_qI D dA tt b n f r) args s 0 0 (pl_A b)) (F0 m 0 ls []) := by
  have hx := C.1
  have hb := C.2.1
  have hown := C.2.2.2.2.1
  have hts := C.2.2.2.2.2.2.1
  unfold fn_M_itemEnd at hF
  refine lv_aload_n hx hb dc_M_itemEnd_0 rfl (lv_at hl 0 rfl) ?_
  refine lv_iload_n hx hb dc_M_itemEnd_1 rfl (lv_at hl 1 rfl) ?_
  refine lv_iload_n hx hb dc_M_itemEnd_2 rfl (lv_at hl 2 rfl) ?_
  obtain ⟨u2, eu2, hF⟩ := pl_bd hF
  obtain ⟨v1, ev1, hF⟩ := pl_bd hF
  refine pl_gi (pl_runV (Cn := rn_M) (k := 2) C (tm_M_byteOf l D dA tt b n ev1) w hS rfl rfl mw_987 mw_989 mw_55 mw_72 mw_990 (by decide +kernel) ⟨by decide, by decide⟩ eu2 rfl (by decide) rfl hl.1 (Nat.le_of_ble_eq_true rfl) ⟨Nat.zero_le _, Nat.zero_le _⟩ rfl dc_M_itemEnd_3) hS (fun H locs w hS => ?_)
  refine lv_istore_n (lv' := [(3, .int v1), (0, .ref a0), (1, .int x1), (2, .int x2)]) hx hb dc_M_itemEnd_6 rfl hl (by decide) rfl (fun ls hl => ?_)
  refine lv_iload_n hx hb dc_M_itemEnd_7 rfl (lv_at hl 0 rfl) ?_
  refine lv_sipush (v := 128) hx hb dc_M_itemEnd_8 (by decide) ?_
  refine lv_icmp_ge hx hb dc_M_itemEnd_11 (tgt := 18) (by decide) (fun hc => ?_) (fun hc => ?_)
  · have hF := (if_pos hc).symm.trans hF
    refine lv_iload_n hx hb dc_M_itemEnd_18 rfl (lv_at hl 0 rfl) ?_
    refine lv_sipush (v := 184) hx hb dc_M_itemEnd_19 (by decide) ?_
    refine lv_icmp_ge hx hb dc_M_itemEnd_22 (tgt := 33) (by decide) (fun hc => ?_) (fun hc => ?_)
    · have hF := (if_pos hc).symm.trans hF
      refine lv_iload_n hx hb dc_M_itemEnd_33 rfl (lv_at hl 0 rfl) ?_
      refine lv_sipush (v := 191) hx hb dc_M_itemEnd_34 (by decide) ?_
      refine lv_icmp_le hx hb dc_M_itemEnd_37 (tgt := 55) (by decide) (fun hc => ?_) (fun hc => ?_)
      · have hF := (if_pos hc).symm.trans hF
        exact tl_M_itemEnd_55 C hF w hS (lv_sub hl [3] rfl)
      · have hF := (if_neg hc).symm.trans hF
        refine lv_iload_n hx hb dc_M_itemEnd_40 rfl (lv_at hl 0 rfl) ?_
        refine lv_sipush (v := 248) hx hb dc_M_itemEnd_41 (by decide) ?_
        refine lv_icmp_ge hx hb dc_M_itemEnd_44 (tgt := 55) (by decide) (fun hc => ?_) (fun hc => ?_)
        · have hF := (if_pos hc).symm.trans hF
          exact tl_M_itemEnd_55 C hF w hS (lv_sub hl [3] rfl)
        · have hF := (if_neg hc).symm.trans hF
          refine lv_iload_n hx hb dc_M_itemEnd_47 rfl (lv_at hl 0 rfl) ?_
          refine lv_sipush (v := 192) hx hb dc_M_itemEnd_48 (by decide) ?_
          refine lv_isub hx hb dc_M_itemEnd_51 ?_
          refine lv_goto hx hb dc_M_itemEnd_52 (tgt := 56) (by decide) ?_
          exact tl_M_itemEnd_56 C hF w hS (lv_sub hl [3] rfl)
    · have hF := (if_neg hc).symm.trans hF
      refine lv_iload_n hx hb dc_M_itemEnd_25 rfl (lv_at hl 0 rfl) ?_
      refine lv_sipush (v := 128) hx hb dc_M_itemEnd_26 (by decide) ?_
      refine lv_isub hx hb dc_M_itemEnd_29 ?_
      refine lv_goto hx hb dc_M_itemEnd_30 (tgt := 56) (by decide) ?_
      exact tl_M_itemEnd_56 C hF w hS (lv_sub hl [3] rfl)
  · have hF := (if_neg hc).symm.trans hF
    refine lv_iconst (v := 0) hx hb dc_M_itemEnd_14 (by decide) ?_
    refine lv_goto hx hb dc_M_itemEnd_15 (tgt := 56) (by decide) ?_
    exact tl_M_itemEnd_56 C hF w hS (lv_sub hl [3] rfl)
set_option maxHeartbeats 4000000 in
set_option maxRecDepth 100000 in
theorem tm_M_itemEnd (l : Launch) (D : va_G) (dA : Nat → ClassId) (tt : Nat → Nat) (b n : Nat) {f : pl_H} {a0 : Nat} {x1 : Int32} {x2 : Int32} {r : Int32} (hF : fn_M_itemEnd f a0 x1 x2 = some r) : Met l my_M_itemEnd (Cond.code my_M_itemEnd co_M_itemEnd 5 (some .int) :: pl_tb) rm_M_itemEnd (va_Pc [.ref a0, .int x1, .int x2] (pl_pre D dA tt b n f)) (pl_qI D dA tt b n f r) 0 0 (pl_A b) := by
  refine Met.ofW (cc := co_M_itemEnd) (maxL := 5) (ret := (some .int)) (by decide) rfl ?_
  intro p e s m args below meth c s₁ B hml hv
  obtain ⟨rfl, w, hK⟩ := hv
  have C : pl_C p s m _ meth c co_M_itemEnd 5 rn_M (some .int) "itemEnd" D dA tt b := ⟨B.exec, B.bytes, hml, B.returns, findClass_of_methodNamed B.named, B.notSynchronized, fun w hw => atoms_spec (ws := Cond.code my_M_itemEnd co_M_itemEnd 5 (some .int) :: pl_tb) B.pre w (List.mem_cons_of_mem _ hw), (name_of_methodNamed B.named B.method).1, hK⟩
  have hl := lv_entry ([.ref a0, .int x1, .int x2]) (n := 5) (Nat.le_of_ble_eq_true rfl)
  rw [lg_entry_eq]
  generalize (lg_sl ([.ref a0, .int x1, .int x2]) ++ List.replicate (5 - (lg_sl ([.ref a0, .int x1, .int x2])).length) Slot.unset).toArray = ls at hl ⊢
  have hl : lv_has ls 5 [(0, .ref a0), (1, .int x1), (2, .int x2)] := hl
  exact tl_M_itemEnd C hF w va_S.rf hl
def rm_M_itemBytes : Room := { frames := 1, cells := 0, slots := 0, locals := 22 }
def fn_M_itemBytes_19 (f : pl_H) (sx0 : Int32) : Option (Int32) := some sx0
def fn_M_itemBytes (f : pl_H) (a0 : Nat) (x1 : Int32) (x2 : Int32) : Option (Int32) := (pl_is f a0 8).bind fun u2 => (fn_M_byteOf f a0 x1 x2).bind fun v1 => if 128 ≤ v1 then fn_M_itemBytes_19 f (x2 + 1) else fn_M_itemBytes_19 f x2
set_option maxHeartbeats 4000000 in
set_option maxRecDepth 100000 in
theorem tl_M_itemBytes_19 {p : Program} {l : Launch} {e : Env} {s : State} {m : MethodId} {args : Array Value} {below : List Frame} {meth : Method} {c : Code} {D : va_G} {dA : Nat → ClassId} {tt : Nat → Nat} {b n : Nat} (C : pl_C p s m args meth c co_M_itemBytes 3 rn_M (some .int) "itemBytes" D dA tt b) {r : Int32} {f : pl_H} {sx0 : Int32} {H : Heap} {locs : List Loc} {ls : Array Slot} (hF : fn_M_itemBytes_19 f sx0 = some r) (w : pl_wd D vwCl dA b n f H) (hS : va_S (pl_A b) s.heap H locs) (hl : lv_has ls 3 []) : W p l e rm_M_itemBytes s m args below meth c H locs 0 0 (MQ below (pl_qI D dA tt b n f r) args s 0 0 (pl_A b)) (F0 m 19 ls [.int sx0]) := by
  have hx := C.1
  have hb := C.2.1
  have hown := C.2.2.2.2.1
  have hts := C.2.2.2.2.2.2.1
  unfold fn_M_itemBytes_19 at hF
  exact pl_retI C w hS hF dc_M_itemBytes_19
set_option maxHeartbeats 4000000 in
set_option maxRecDepth 100000 in
theorem tl_M_itemBytes {p : Program} {l : Launch} {e : Env} {s : State} {m : MethodId} {args : Array Value} {below : List Frame} {meth : Method} {c : Code} {D : va_G} {dA : Nat → ClassId} {tt : Nat → Nat} {b n : Nat} (C : pl_C p s m args meth c co_M_itemBytes 3 rn_M (some .int) "itemBytes" D dA tt b) {r : Int32} {f : pl_H} {a0 : Nat} {x1 : Int32} {x2 : Int32} {H : Heap} {locs : List Loc} {ls : Array Slot} (hF : fn_M_itemBytes f a0 x1 x2 = some r) (w : pl_wd D vwCl dA b n f H) (hS : va_S (pl_A b) s.heap H locs) (hl : lv_has ls 3 [(0, .ref a0), (1, .int x1), (2, .int x2)]) : W p l e rm_M_itemBytes s m args below meth c H locs 0 0 (MQ below (pl_qI D dA tt b n f r) args s 0 0 (pl_A b)) (F0 m 0 ls []) := by
  have hx := C.1
  have hb := C.2.1
  have hown := C.2.2.2.2.1
  have hts := C.2.2.2.2.2.2.1
  unfold fn_M_itemBytes at hF
  refine lv_aload_n hx hb dc_M_itemBytes_0 rfl (lv_at hl 0 rfl) ?_
  refine lv_iload_n hx hb dc_M_itemBytes_1 rfl (lv_at hl 1 rfl) ?_
  refine lv_iload_n hx hb dc_M_itemBytes_2 rfl (lv_at hl 2 rfl) ?_
  obtain ⟨u2, eu2, hF⟩ := pl_bd hF
  obtain ⟨v1, ev1, hF⟩ := pl_bd hF
  refine pl_gi (pl_runV (Cn := rn_M) (k := 2) C (tm_M_byteOf l D dA tt b n ev1) w hS rfl rfl mw_987 mw_989 mw_55 mw_72 mw_990 (by decide +kernel) ⟨by decide, by decide⟩ eu2 rfl (by decide) rfl hl.1 (Nat.le_of_ble_eq_true rfl) ⟨Nat.zero_le _, Nat.zero_le _⟩ rfl dc_M_itemBytes_3) hS (fun H locs w hS => ?_)
  refine lv_sipush (v := 128) hx hb dc_M_itemBytes_6 (by decide) ?_
  refine lv_icmp_ge hx hb dc_M_itemBytes_9 (tgt := 16) (by decide) (fun hc => ?_) (fun hc => ?_)
  · have hF := (if_pos hc).symm.trans hF
    refine lv_iload_n hx hb dc_M_itemBytes_16 rfl (lv_at hl 2 rfl) ?_
    refine lv_iconst (v := 1) hx hb dc_M_itemBytes_17 (by decide) ?_
    refine lv_iadd hx hb dc_M_itemBytes_18 ?_
    exact tl_M_itemBytes_19 C hF w hS (lv_sub hl [] rfl)
  · have hF := (if_neg hc).symm.trans hF
    refine lv_iload_n hx hb dc_M_itemBytes_12 rfl (lv_at hl 2 rfl) ?_
    refine lv_goto hx hb dc_M_itemBytes_13 (tgt := 19) (by decide) ?_
    exact tl_M_itemBytes_19 C hF w hS (lv_sub hl [] rfl)
set_option maxHeartbeats 4000000 in
set_option maxRecDepth 100000 in
theorem tm_M_itemBytes (l : Launch) (D : va_G) (dA : Nat → ClassId) (tt : Nat → Nat) (b n : Nat) {f : pl_H} {a0 : Nat} {x1 : Int32} {x2 : Int32} {r : Int32} (hF : fn_M_itemBytes f a0 x1 x2 = some r) : Met l my_M_itemBytes (Cond.code my_M_itemBytes co_M_itemBytes 3 (some .int) :: pl_tb) rm_M_itemBytes (va_Pc [.ref a0, .int x1, .int x2] (pl_pre D dA tt b n f)) (pl_qI D dA tt b n f r) 0 0 (pl_A b) := by
  refine Met.ofW (cc := co_M_itemBytes) (maxL := 3) (ret := (some .int)) (by decide) rfl ?_
  intro p e s m args below meth c s₁ B hml hv
  obtain ⟨rfl, w, hK⟩ := hv
  have C : pl_C p s m _ meth c co_M_itemBytes 3 rn_M (some .int) "itemBytes" D dA tt b := ⟨B.exec, B.bytes, hml, B.returns, findClass_of_methodNamed B.named, B.notSynchronized, fun w hw => atoms_spec (ws := Cond.code my_M_itemBytes co_M_itemBytes 3 (some .int) :: pl_tb) B.pre w (List.mem_cons_of_mem _ hw), (name_of_methodNamed B.named B.method).1, hK⟩
  have hl := lv_entry ([.ref a0, .int x1, .int x2]) (n := 3) (Nat.le_of_ble_eq_true rfl)
  rw [lg_entry_eq]
  generalize (lg_sl ([.ref a0, .int x1, .int x2]) ++ List.replicate (3 - (lg_sl ([.ref a0, .int x1, .int x2])).length) Slot.unset).toArray = ls at hl ⊢
  have hl : lv_has ls 3 [(0, .ref a0), (1, .int x1), (2, .int x2)] := hl
  exact tl_M_itemBytes C hF w va_S.rf hl
def rm_M_nodeItems : Room := { frames := 1, cells := 0, slots := 0, locals := 22 }
def fn_M_nodeItems_54 (f : pl_H) (sx0 : Int32) : Option (Int32) := some sx0
def fn_M_nodeItems_21 (f : pl_H) : Option (Int32) := fn_M_nodeItems_54 f ((-1))
def fn_M_nodeItems (f : pl_H) (a0 : Nat) (x1 : Int32) (x2 : Int32) : Option (Int32) := (pl_is f a0 8).bind fun u2 => (fn_M_byteOf f a0 x1 x2).bind fun v1 => if v1 < 192 then fn_M_nodeItems_21 f else if v1 ≤ 249 then if v1 = 249 then fn_M_nodeItems_54 f (x2 + 3) else if v1 = 248 then fn_M_nodeItems_54 f (x2 + 2) else fn_M_nodeItems_54 f (x2 + 1) else fn_M_nodeItems_21 f
set_option maxHeartbeats 4000000 in
set_option maxRecDepth 100000 in
theorem tl_M_nodeItems_54 {p : Program} {l : Launch} {e : Env} {s : State} {m : MethodId} {args : Array Value} {below : List Frame} {meth : Method} {c : Code} {D : va_G} {dA : Nat → ClassId} {tt : Nat → Nat} {b n : Nat} (C : pl_C p s m args meth c co_M_nodeItems 4 rn_M (some .int) "nodeItems" D dA tt b) {r : Int32} {f : pl_H} {sx0 : Int32} {H : Heap} {locs : List Loc} {ls : Array Slot} (hF : fn_M_nodeItems_54 f sx0 = some r) (w : pl_wd D vwCl dA b n f H) (hS : va_S (pl_A b) s.heap H locs) (hl : lv_has ls 4 []) : W p l e rm_M_nodeItems s m args below meth c H locs 0 0 (MQ below (pl_qI D dA tt b n f r) args s 0 0 (pl_A b)) (F0 m 54 ls [.int sx0]) := by
  have hx := C.1
  have hb := C.2.1
  have hown := C.2.2.2.2.1
  have hts := C.2.2.2.2.2.2.1
  unfold fn_M_nodeItems_54 at hF
  exact pl_retI C w hS hF dc_M_nodeItems_54
set_option maxHeartbeats 4000000 in
set_option maxRecDepth 100000 in
theorem tl_M_nodeItems_21 {p : Program} {l : Launch} {e : Env} {s : State} {m : MethodId} {args : Array Value} {below : List Frame} {meth : Method} {c : Code} {D : va_G} {dA : Nat → ClassId} {tt : Nat → Nat} {b n : Nat} (C : pl_C p s m args meth c co_M_nodeItems 4 rn_M (some .int) "nodeItems" D dA tt b) {r : Int32} {f : pl_H} {H : Heap} {locs : List Loc} {ls : Array Slot} (hF : fn_M_nodeItems_21 f = some r) (w : pl_wd D vwCl dA b n f H) (hS : va_S (pl_A b) s.heap H locs) (hl : lv_has ls 4 []) : W p l e rm_M_nodeItems s m args below meth c H locs 0 0 (MQ below (pl_qI D dA tt b n f r) args s 0 0 (pl_A b)) (F0 m 21 ls []) := by
  have hx := C.1
  have hb := C.2.1
  have hown := C.2.2.2.2.1
  have hts := C.2.2.2.2.2.2.1
  unfold fn_M_nodeItems_21 at hF
  refine lv_iconst (v := (-1)) hx hb dc_M_nodeItems_21 (by decide) ?_
  refine lv_goto hx hb dc_M_nodeItems_22 (tgt := 54) (by decide) ?_
  exact tl_M_nodeItems_54 C hF w hS (lv_sub hl [] rfl)
set_option maxHeartbeats 4000000 in
set_option maxRecDepth 100000 in
theorem tl_M_nodeItems {p : Program} {l : Launch} {e : Env} {s : State} {m : MethodId} {args : Array Value} {below : List Frame} {meth : Method} {c : Code} {D : va_G} {dA : Nat → ClassId} {tt : Nat → Nat} {b n : Nat} (C : pl_C p s m args meth c co_M_nodeItems 4 rn_M (some .int) "nodeItems" D dA tt b) {r : Int32} {f : pl_H} {a0 : Nat} {x1 : Int32} {x2 : Int32} {H : Heap} {locs : List Loc} {ls : Array Slot} (hF : fn_M_nodeItems f a0 x1 x2 = some r) (w : pl_wd D vwCl dA b n f H) (hS : va_S (pl_A b) s.heap H locs) (hl : lv_has ls 4 [(0, .ref a0), (1, .int x1), (2, .int x2)]) : W p l e rm_M_nodeItems s m args below meth c H locs 0 0 (MQ below (pl_qI D dA tt b n f r) args s 0 0 (pl_A b)) (F0 m 0 ls []) := by
  have hx := C.1
  have hb := C.2.1
  have hown := C.2.2.2.2.1
  have hts := C.2.2.2.2.2.2.1
  unfold fn_M_nodeItems at hF
  refine lv_aload_n hx hb dc_M_nodeItems_0 rfl (lv_at hl 0 rfl) ?_
  refine lv_iload_n hx hb dc_M_nodeItems_1 rfl (lv_at hl 1 rfl) ?_
  refine lv_iload_n hx hb dc_M_nodeItems_2 rfl (lv_at hl 2 rfl) ?_
  obtain ⟨u2, eu2, hF⟩ := pl_bd hF
  obtain ⟨v1, ev1, hF⟩ := pl_bd hF
  refine pl_gi (pl_runV (Cn := rn_M) (k := 2) C (tm_M_byteOf l D dA tt b n ev1) w hS rfl rfl mw_987 mw_989 mw_55 mw_72 mw_990 (by decide +kernel) ⟨by decide, by decide⟩ eu2 rfl (by decide) rfl hl.1 (Nat.le_of_ble_eq_true rfl) ⟨Nat.zero_le _, Nat.zero_le _⟩ rfl dc_M_nodeItems_3) hS (fun H locs w hS => ?_)
  refine lv_istore_n (lv' := [(3, .int v1), (0, .ref a0), (1, .int x1), (2, .int x2)]) hx hb dc_M_nodeItems_6 rfl hl (by decide) rfl (fun ls hl => ?_)
  refine lv_iload_n hx hb dc_M_nodeItems_7 rfl (lv_at hl 0 rfl) ?_
  refine lv_sipush (v := 192) hx hb dc_M_nodeItems_8 (by decide) ?_
  refine lv_icmp_lt hx hb dc_M_nodeItems_11 (tgt := 21) (by decide) (fun hc => ?_) (fun hc => ?_)
  · have hF := (if_pos hc).symm.trans hF
    exact tl_M_nodeItems_21 C hF w hS (lv_sub hl [] rfl)
  · have hF := (if_neg hc).symm.trans hF
    refine lv_iload_n hx hb dc_M_nodeItems_14 rfl (lv_at hl 0 rfl) ?_
    refine lv_sipush (v := 249) hx hb dc_M_nodeItems_15 (by decide) ?_
    refine lv_icmp_le hx hb dc_M_nodeItems_18 (tgt := 25) (by decide) (fun hc => ?_) (fun hc => ?_)
    · have hF := (if_pos hc).symm.trans hF
      refine lv_iload_n hx hb dc_M_nodeItems_25 rfl (lv_at hl 0 rfl) ?_
      refine lv_sipush (v := 249) hx hb dc_M_nodeItems_26 (by decide) ?_
      refine lv_icmp_ne hx hb dc_M_nodeItems_29 (tgt := 38) (by decide) (fun hc => ?_) (fun hc => ?_)
      · have hF := (if_neg hc).symm.trans hF
        refine lv_iload_n hx hb dc_M_nodeItems_38 rfl (lv_at hl 0 rfl) ?_
        refine lv_sipush (v := 248) hx hb dc_M_nodeItems_39 (by decide) ?_
        refine lv_icmp_ne hx hb dc_M_nodeItems_42 (tgt := 51) (by decide) (fun hc => ?_) (fun hc => ?_)
        · have hF := (if_neg hc).symm.trans hF
          refine lv_iload_n hx hb dc_M_nodeItems_51 rfl (lv_at hl 3 rfl) ?_
          refine lv_iconst (v := 1) hx hb dc_M_nodeItems_52 (by decide) ?_
          refine lv_iadd hx hb dc_M_nodeItems_53 ?_
          exact tl_M_nodeItems_54 C hF w hS (lv_sub hl [] rfl)
        · have hF := (if_pos hc).symm.trans hF
          refine lv_iload_n hx hb dc_M_nodeItems_45 rfl (lv_at hl 3 rfl) ?_
          refine lv_iconst (v := 2) hx hb dc_M_nodeItems_46 (by decide) ?_
          refine lv_iadd hx hb dc_M_nodeItems_47 ?_
          refine lv_goto hx hb dc_M_nodeItems_48 (tgt := 54) (by decide) ?_
          exact tl_M_nodeItems_54 C hF w hS (lv_sub hl [] rfl)
      · have hF := (if_pos hc).symm.trans hF
        refine lv_iload_n hx hb dc_M_nodeItems_32 rfl (lv_at hl 3 rfl) ?_
        refine lv_iconst (v := 3) hx hb dc_M_nodeItems_33 (by decide) ?_
        refine lv_iadd hx hb dc_M_nodeItems_34 ?_
        refine lv_goto hx hb dc_M_nodeItems_35 (tgt := 54) (by decide) ?_
        exact tl_M_nodeItems_54 C hF w hS (lv_sub hl [] rfl)
    · have hF := (if_neg hc).symm.trans hF
      exact tl_M_nodeItems_21 C hF w hS (lv_sub hl [] rfl)
set_option maxHeartbeats 4000000 in
set_option maxRecDepth 100000 in
theorem tm_M_nodeItems (l : Launch) (D : va_G) (dA : Nat → ClassId) (tt : Nat → Nat) (b n : Nat) {f : pl_H} {a0 : Nat} {x1 : Int32} {x2 : Int32} {r : Int32} (hF : fn_M_nodeItems f a0 x1 x2 = some r) : Met l my_M_nodeItems (Cond.code my_M_nodeItems co_M_nodeItems 4 (some .int) :: pl_tb) rm_M_nodeItems (va_Pc [.ref a0, .int x1, .int x2] (pl_pre D dA tt b n f)) (pl_qI D dA tt b n f r) 0 0 (pl_A b) := by
  refine Met.ofW (cc := co_M_nodeItems) (maxL := 4) (ret := (some .int)) (by decide) rfl ?_
  intro p e s m args below meth c s₁ B hml hv
  obtain ⟨rfl, w, hK⟩ := hv
  have C : pl_C p s m _ meth c co_M_nodeItems 4 rn_M (some .int) "nodeItems" D dA tt b := ⟨B.exec, B.bytes, hml, B.returns, findClass_of_methodNamed B.named, B.notSynchronized, fun w hw => atoms_spec (ws := Cond.code my_M_nodeItems co_M_nodeItems 4 (some .int) :: pl_tb) B.pre w (List.mem_cons_of_mem _ hw), (name_of_methodNamed B.named B.method).1, hK⟩
  have hl := lv_entry ([.ref a0, .int x1, .int x2]) (n := 4) (Nat.le_of_ble_eq_true rfl)
  rw [lg_entry_eq]
  generalize (lg_sl ([.ref a0, .int x1, .int x2]) ++ List.replicate (4 - (lg_sl ([.ref a0, .int x1, .int x2])).length) Slot.unset).toArray = ls at hl ⊢
  have hl : lv_has ls 4 [(0, .ref a0), (1, .int x1), (2, .int x2)] := hl
  exact tl_M_nodeItems C hF w va_S.rf hl
def rm_M_nodeBytes : Room := { frames := 1, cells := 0, slots := 0, locals := 22 }
def fn_M_nodeBytes_61 (f : pl_H) (sx0 : Int32) : Option (Int32) := some sx0
def fn_M_nodeBytes (f : pl_H) (a0 : Nat) (x1 : Int32) (x2 : Int32) : Option (Int32) := (pl_is f a0 8).bind fun u2 => (fn_M_byteOf f a0 x1 x2).bind fun v1 => if v1 = 249 then (pl_is f a0 8).bind fun u6 => (fn_M_byteOf f a0 x1 (x2 + 1)).bind fun v5 => (pl_is f a0 8).bind fun u8 => (fn_M_byteOf f a0 x1 (x2 + 2)).bind fun v7 => fn_M_nodeBytes_61 f ((256 * v5) + v7) else if v1 = 248 then (pl_is f a0 8).bind fun u4 => (fn_M_byteOf f a0 x1 (x2 + 1)).bind fun v3 => fn_M_nodeBytes_61 f v3 else fn_M_nodeBytes_61 f (v1 - 192)
set_option maxHeartbeats 4000000 in
set_option maxRecDepth 100000 in
theorem tl_M_nodeBytes_61 {p : Program} {l : Launch} {e : Env} {s : State} {m : MethodId} {args : Array Value} {below : List Frame} {meth : Method} {c : Code} {D : va_G} {dA : Nat → ClassId} {tt : Nat → Nat} {b n : Nat} (C : pl_C p s m args meth c co_M_nodeBytes 4 rn_M (some .int) "nodeBytes" D dA tt b) {r : Int32} {f : pl_H} {sx0 : Int32} {H : Heap} {locs : List Loc} {ls : Array Slot} (hF : fn_M_nodeBytes_61 f sx0 = some r) (w : pl_wd D vwCl dA b n f H) (hS : va_S (pl_A b) s.heap H locs) (hl : lv_has ls 4 []) : W p l e rm_M_nodeBytes s m args below meth c H locs 0 0 (MQ below (pl_qI D dA tt b n f r) args s 0 0 (pl_A b)) (F0 m 61 ls [.int sx0]) := by
  have hx := C.1
  have hb := C.2.1
  have hown := C.2.2.2.2.1
  have hts := C.2.2.2.2.2.2.1
  unfold fn_M_nodeBytes_61 at hF
  exact pl_retI C w hS hF dc_M_nodeBytes_61
set_option maxHeartbeats 4000000 in
set_option maxRecDepth 100000 in
theorem tl_M_nodeBytes {p : Program} {l : Launch} {e : Env} {s : State} {m : MethodId} {args : Array Value} {below : List Frame} {meth : Method} {c : Code} {D : va_G} {dA : Nat → ClassId} {tt : Nat → Nat} {b n : Nat} (C : pl_C p s m args meth c co_M_nodeBytes 4 rn_M (some .int) "nodeBytes" D dA tt b) {r : Int32} {f : pl_H} {a0 : Nat} {x1 : Int32} {x2 : Int32} {H : Heap} {locs : List Loc} {ls : Array Slot} (hF : fn_M_nodeBytes f a0 x1 x2 = some r) (w : pl_wd D vwCl dA b n f H) (hS : va_S (pl_A b) s.heap H locs) (hl : lv_has ls 4 [(0, .ref a0), (1, .int x1), (2, .int x2)]) : W p l e rm_M_nodeBytes s m args below meth c H locs 0 0 (MQ below (pl_qI D dA tt b n f r) args s 0 0 (pl_A b)) (F0 m 0 ls []) := by
  have hx := C.1
  have hb := C.2.1
  have hown := C.2.2.2.2.1
  have hts := C.2.2.2.2.2.2.1
  unfold fn_M_nodeBytes at hF
  refine lv_aload_n hx hb dc_M_nodeBytes_0 rfl (lv_at hl 0 rfl) ?_
  refine lv_iload_n hx hb dc_M_nodeBytes_1 rfl (lv_at hl 1 rfl) ?_
  refine lv_iload_n hx hb dc_M_nodeBytes_2 rfl (lv_at hl 2 rfl) ?_
  obtain ⟨u2, eu2, hF⟩ := pl_bd hF
  obtain ⟨v1, ev1, hF⟩ := pl_bd hF
  refine pl_gi (pl_runV (Cn := rn_M) (k := 2) C (tm_M_byteOf l D dA tt b n ev1) w hS rfl rfl mw_987 mw_989 mw_55 mw_72 mw_990 (by decide +kernel) ⟨by decide, by decide⟩ eu2 rfl (by decide) rfl hl.1 (Nat.le_of_ble_eq_true rfl) ⟨Nat.zero_le _, Nat.zero_le _⟩ rfl dc_M_nodeBytes_3) hS (fun H locs w hS => ?_)
  refine lv_istore_n (lv' := [(3, .int v1), (0, .ref a0), (1, .int x1), (2, .int x2)]) hx hb dc_M_nodeBytes_6 rfl hl (by decide) rfl (fun ls hl => ?_)
  refine lv_iload_n hx hb dc_M_nodeBytes_7 rfl (lv_at hl 0 rfl) ?_
  refine lv_sipush (v := 249) hx hb dc_M_nodeBytes_8 (by decide) ?_
  refine lv_icmp_ne hx hb dc_M_nodeBytes_11 (tgt := 38) (by decide) (fun hc => ?_) (fun hc => ?_)
  · have hF := (if_neg hc).symm.trans hF
    refine lv_iload_n hx hb dc_M_nodeBytes_38 rfl (lv_at hl 0 rfl) ?_
    refine lv_sipush (v := 248) hx hb dc_M_nodeBytes_39 (by decide) ?_
    refine lv_icmp_ne hx hb dc_M_nodeBytes_42 (tgt := 56) (by decide) (fun hc => ?_) (fun hc => ?_)
    · have hF := (if_neg hc).symm.trans hF
      refine lv_iload_n hx hb dc_M_nodeBytes_56 rfl (lv_at hl 0 rfl) ?_
      refine lv_sipush (v := 192) hx hb dc_M_nodeBytes_57 (by decide) ?_
      refine lv_isub hx hb dc_M_nodeBytes_60 ?_
      exact tl_M_nodeBytes_61 C hF w hS (lv_sub hl [] rfl)
    · have hF := (if_pos hc).symm.trans hF
      refine lv_aload_n hx hb dc_M_nodeBytes_45 rfl (lv_at hl 1 rfl) ?_
      refine lv_iload_n hx hb dc_M_nodeBytes_46 rfl (lv_at hl 2 rfl) ?_
      refine lv_iload_n hx hb dc_M_nodeBytes_47 rfl (lv_at hl 3 rfl) ?_
      refine lv_iconst (v := 1) hx hb dc_M_nodeBytes_48 (by decide) ?_
      refine lv_iadd hx hb dc_M_nodeBytes_49 ?_
      obtain ⟨u4, eu4, hF⟩ := pl_bd hF
      obtain ⟨v3, ev3, hF⟩ := pl_bd hF
      refine pl_gi (pl_runV (Cn := rn_M) (k := 2) C (tm_M_byteOf l D dA tt b n ev3) w hS rfl rfl mw_987 mw_989 mw_55 mw_72 mw_990 (by decide +kernel) ⟨by decide, by decide⟩ eu4 rfl (by decide) rfl hl.1 (Nat.le_of_ble_eq_true rfl) ⟨Nat.zero_le _, Nat.zero_le _⟩ rfl dc_M_nodeBytes_50) hS (fun H locs w hS => ?_)
      refine lv_goto hx hb dc_M_nodeBytes_53 (tgt := 61) (by decide) ?_
      exact tl_M_nodeBytes_61 C hF w hS (lv_sub hl [] rfl)
  · have hF := (if_pos hc).symm.trans hF
    refine lv_sipush (v := 256) hx hb dc_M_nodeBytes_14 (by decide) ?_
    refine lv_aload_n hx hb dc_M_nodeBytes_17 rfl (lv_at hl 1 rfl) ?_
    refine lv_iload_n hx hb dc_M_nodeBytes_18 rfl (lv_at hl 2 rfl) ?_
    refine lv_iload_n hx hb dc_M_nodeBytes_19 rfl (lv_at hl 3 rfl) ?_
    refine lv_iconst (v := 1) hx hb dc_M_nodeBytes_20 (by decide) ?_
    refine lv_iadd hx hb dc_M_nodeBytes_21 ?_
    obtain ⟨u6, eu6, hF⟩ := pl_bd hF
    obtain ⟨v5, ev5, hF⟩ := pl_bd hF
    refine pl_gi (pl_runV (Cn := rn_M) (k := 2) C (tm_M_byteOf l D dA tt b n ev5) w hS rfl rfl mw_987 mw_989 mw_55 mw_72 mw_990 (by decide +kernel) ⟨by decide, by decide⟩ eu6 rfl (by decide) rfl hl.1 (Nat.le_of_ble_eq_true rfl) ⟨Nat.zero_le _, Nat.zero_le _⟩ rfl dc_M_nodeBytes_22) hS (fun H locs w hS => ?_)
    refine lv_imul hx hb dc_M_nodeBytes_25 ?_
    refine lv_aload_n hx hb dc_M_nodeBytes_26 rfl (lv_at hl 1 rfl) ?_
    refine lv_iload_n hx hb dc_M_nodeBytes_27 rfl (lv_at hl 2 rfl) ?_
    refine lv_iload_n hx hb dc_M_nodeBytes_28 rfl (lv_at hl 3 rfl) ?_
    refine lv_iconst (v := 2) hx hb dc_M_nodeBytes_29 (by decide) ?_
    refine lv_iadd hx hb dc_M_nodeBytes_30 ?_
    obtain ⟨u8, eu8, hF⟩ := pl_bd hF
    obtain ⟨v7, ev7, hF⟩ := pl_bd hF
    refine pl_gi (pl_runV (Cn := rn_M) (k := 2) C (tm_M_byteOf l D dA tt b n ev7) w hS rfl rfl mw_987 mw_989 mw_55 mw_72 mw_990 (by decide +kernel) ⟨by decide, by decide⟩ eu8 rfl (by decide) rfl hl.1 (Nat.le_of_ble_eq_true rfl) ⟨Nat.zero_le _, Nat.zero_le _⟩ rfl dc_M_nodeBytes_31) hS (fun H locs w hS => ?_)
    refine lv_iadd hx hb dc_M_nodeBytes_34 ?_
    refine lv_goto hx hb dc_M_nodeBytes_35 (tgt := 61) (by decide) ?_
    exact tl_M_nodeBytes_61 C hF w hS (lv_sub hl [] rfl)
set_option maxHeartbeats 4000000 in
set_option maxRecDepth 100000 in
theorem tm_M_nodeBytes (l : Launch) (D : va_G) (dA : Nat → ClassId) (tt : Nat → Nat) (b n : Nat) {f : pl_H} {a0 : Nat} {x1 : Int32} {x2 : Int32} {r : Int32} (hF : fn_M_nodeBytes f a0 x1 x2 = some r) : Met l my_M_nodeBytes (Cond.code my_M_nodeBytes co_M_nodeBytes 4 (some .int) :: pl_tb) rm_M_nodeBytes (va_Pc [.ref a0, .int x1, .int x2] (pl_pre D dA tt b n f)) (pl_qI D dA tt b n f r) 0 0 (pl_A b) := by
  refine Met.ofW (cc := co_M_nodeBytes) (maxL := 4) (ret := (some .int)) (by decide) rfl ?_
  intro p e s m args below meth c s₁ B hml hv
  obtain ⟨rfl, w, hK⟩ := hv
  have C : pl_C p s m _ meth c co_M_nodeBytes 4 rn_M (some .int) "nodeBytes" D dA tt b := ⟨B.exec, B.bytes, hml, B.returns, findClass_of_methodNamed B.named, B.notSynchronized, fun w hw => atoms_spec (ws := Cond.code my_M_nodeBytes co_M_nodeBytes 4 (some .int) :: pl_tb) B.pre w (List.mem_cons_of_mem _ hw), (name_of_methodNamed B.named B.method).1, hK⟩
  have hl := lv_entry ([.ref a0, .int x1, .int x2]) (n := 4) (Nat.le_of_ble_eq_true rfl)
  rw [lg_entry_eq]
  generalize (lg_sl ([.ref a0, .int x1, .int x2]) ++ List.replicate (4 - (lg_sl ([.ref a0, .int x1, .int x2])).length) Slot.unset).toArray = ls at hl ⊢
  have hl : lv_has ls 4 [(0, .ref a0), (1, .int x1), (2, .int x2)] := hl
  exact tl_M_nodeBytes C hF w va_S.rf hl
def rm_M_itemNumber : Room := { frames := 2, cells := 0, slots := 0, locals := 46 }
def fn_M_itemNumber_59 (f : pl_H) (y3 : Int64) : Option (Int64) := some y3
def fn_M_itemNumber_31 : Nat → pl_H → Nat → Int32 → Int64 → Int32 → Int32 → Option (Int64)
  | 0 => fun _ _ _ _ _ _ => none
  | k + 1 => fun f a0 x1 y3 x5 x6 => if x5 ≤ x6 then fn_M_itemNumber_59 f y3 else (pl_is f a0 8).bind fun u2 => (fn_M_byteOf f a0 x1 x6).bind fun v1 => fn_M_itemNumber_31 k f a0 x1 ((256 * y3) + ((v1 : Int32).toInt64)) x5 (x6 + 1)
def fn_M_itemNumber_16 (f : pl_H) (a0 : Nat) (x1 : Int32) (x2 : Int32) (y3 : Int64) (sx0 : Int32) : Option (Int64) := if sx0 < 0 then fn_M_itemNumber_59 f y3 else (pl_is f a0 8).bind fun u2 => (fn_M_itemBytes f a0 x1 x2).bind fun v1 => fn_M_itemNumber_31 pl_N f a0 x1 y3 sx0 v1
def fn_M_itemNumber (f : pl_H) (a0 : Nat) (x1 : Int32) (x2 : Int32) : Option (Int64) := if 0 ≤ x2 then (pl_is f a0 8).bind fun u2 => (fn_M_itemEnd f a0 x1 x2).bind fun v1 => fn_M_itemNumber_16 f a0 x1 x2 0 v1 else fn_M_itemNumber_16 f a0 x1 x2 0 ((-1))
set_option maxHeartbeats 4000000 in
set_option maxRecDepth 100000 in
theorem tl_M_itemNumber_59 {p : Program} {l : Launch} {e : Env} {s : State} {m : MethodId} {args : Array Value} {below : List Frame} {meth : Method} {c : Code} {D : va_G} {dA : Nat → ClassId} {tt : Nat → Nat} {b n : Nat} (C : pl_C p s m args meth c co_M_itemNumber 7 rn_M (some .long) "itemNumber" D dA tt b) {r : Int64} {f : pl_H} {y3 : Int64} {H : Heap} {locs : List Loc} {ls : Array Slot} (hF : fn_M_itemNumber_59 f y3 = some r) (w : pl_wd D vwCl dA b n f H) (hS : va_S (pl_A b) s.heap H locs) (hl : lv_has ls 7 [(3, .long y3)]) : W p l e rm_M_itemNumber s m args below meth c H locs 0 0 (MQ below (pl_qL D dA tt b n f r) args s 0 0 (pl_A b)) (F0 m 59 ls []) := by
  have hx := C.1
  have hb := C.2.1
  have hown := C.2.2.2.2.1
  have hts := C.2.2.2.2.2.2.1
  unfold fn_M_itemNumber_59 at hF
  refine lv_lload_n hx hb dc_M_itemNumber_59 rfl (lv_at hl 0 rfl) ?_
  exact pl_retL C w hS hF dc_M_itemNumber_60
set_option maxHeartbeats 4000000 in
set_option maxRecDepth 100000 in
theorem tl_M_itemNumber_31 {p : Program} {l : Launch} {e : Env} {s : State} {m : MethodId} {args : Array Value} {below : List Frame} {meth : Method} {c : Code} {D : va_G} {dA : Nat → ClassId} {tt : Nat → Nat} {b n : Nat} (C : pl_C p s m args meth c co_M_itemNumber 7 rn_M (some .long) "itemNumber" D dA tt b) {r : Int64} {f : pl_H} : ∀ k : Nat, ∀ (a0 : Nat) (x1 : Int32) (y3 : Int64) (x5 : Int32) (x6 : Int32) (H : Heap) (locs : List Loc) (ls : Array Slot), fn_M_itemNumber_31 k f a0 x1 y3 x5 x6 = some r → pl_wd D vwCl dA b n f H → va_S (pl_A b) s.heap H locs → lv_has ls 7 [(0, .ref a0), (1, .int x1), (3, .long y3), (5, .int x5), (6, .int x6)] → W p l e rm_M_itemNumber s m args below meth c H locs 0 0 (MQ below (pl_qL D dA tt b n f r) args s 0 0 (pl_A b)) (F0 m 31 ls []) := by
  have hx := C.1
  have hb := C.2.1
  have hown := C.2.2.2.2.1
  have hts := C.2.2.2.2.2.2.1
  intro k
  induction k with
  | zero =>
    intro a0 x1 y3 x5 x6 H locs ls hF
    cases hF
  | succ k ih =>
    intro a0 x1 y3 x5 x6 H locs ls hF w hS hl
    unfold fn_M_itemNumber_31 at hF
    refine lv_iload hx hb dc_M_itemNumber_31 (lv_at hl 4 rfl) ?_
    refine lv_iload hx hb dc_M_itemNumber_33 (lv_at hl 3 rfl) ?_
    refine lv_icmp_ge hx hb dc_M_itemNumber_35 (tgt := 59) (by decide) (fun hc => ?_) (fun hc => ?_)
    · have hF := (if_pos hc).symm.trans hF
      exact tl_M_itemNumber_59 C hF w hS (lv_sub hl [2] rfl)
    · have hF := (if_neg hc).symm.trans hF
      refine lv_ldc2 (v := 256) hx hb hown (hts _ mw_892) dc_M_itemNumber_38 ?_
      refine lv_lload_n hx hb dc_M_itemNumber_41 rfl (lv_at hl 2 rfl) ?_
      refine lv_lmul hx hb dc_M_itemNumber_42 ?_
      refine lv_aload_n hx hb dc_M_itemNumber_43 rfl (lv_at hl 0 rfl) ?_
      refine lv_iload_n hx hb dc_M_itemNumber_44 rfl (lv_at hl 1 rfl) ?_
      refine lv_iload hx hb dc_M_itemNumber_45 (lv_at hl 4 rfl) ?_
      obtain ⟨u2, eu2, hF⟩ := pl_bd hF
      obtain ⟨v1, ev1, hF⟩ := pl_bd hF
      refine pl_gi (pl_runV (Cn := rn_M) (k := 2) C (tm_M_byteOf l D dA tt b n ev1) w hS rfl rfl mw_987 mw_989 mw_55 mw_72 mw_990 (by decide +kernel) ⟨by decide, by decide⟩ eu2 rfl (by decide) rfl hl.1 (Nat.le_of_ble_eq_true rfl) ⟨Nat.zero_le _, Nat.zero_le _⟩ rfl dc_M_itemNumber_47) hS (fun H locs w hS => ?_)
      refine lv_i2l hx hb dc_M_itemNumber_50 rfl ?_
      refine lv_ladd hx hb dc_M_itemNumber_51 ?_
      refine lv_lstore_n (lv' := [(3, .long ((256 * y3) + ((v1 : Int32).toInt64))), (0, .ref a0), (1, .int x1), (5, .int x5), (6, .int x6)]) hx hb dc_M_itemNumber_52 rfl hl (by decide) rfl (fun ls hl => ?_)
      refine lv_iinc (k := 4) (v := x6 + 1) (lv' := [(6, .int (x6 + 1)), (3, .long ((256 * y3) + ((v1 : Int32).toInt64))), (0, .ref a0), (1, .int x1), (5, .int x5)]) hx hb dc_M_itemNumber_53 hl rfl rfl (by decide) rfl (fun ls hl => ?_)
      refine lv_goto hx hb dc_M_itemNumber_56 (tgt := 31) (by decide) ?_
      exact ih a0 x1 ((256 * y3) + ((v1 : Int32).toInt64)) x5 (x6 + 1) _ _ _ hF w hS (lv_sub hl [2, 3, 1, 4, 0] rfl)
set_option maxHeartbeats 4000000 in
set_option maxRecDepth 100000 in
theorem tl_M_itemNumber_16 {p : Program} {l : Launch} {e : Env} {s : State} {m : MethodId} {args : Array Value} {below : List Frame} {meth : Method} {c : Code} {D : va_G} {dA : Nat → ClassId} {tt : Nat → Nat} {b n : Nat} (C : pl_C p s m args meth c co_M_itemNumber 7 rn_M (some .long) "itemNumber" D dA tt b) {r : Int64} {f : pl_H} {a0 : Nat} {x1 : Int32} {x2 : Int32} {y3 : Int64} {sx0 : Int32} {H : Heap} {locs : List Loc} {ls : Array Slot} (hF : fn_M_itemNumber_16 f a0 x1 x2 y3 sx0 = some r) (w : pl_wd D vwCl dA b n f H) (hS : va_S (pl_A b) s.heap H locs) (hl : lv_has ls 7 [(0, .ref a0), (1, .int x1), (2, .int x2), (3, .long y3)]) : W p l e rm_M_itemNumber s m args below meth c H locs 0 0 (MQ below (pl_qL D dA tt b n f r) args s 0 0 (pl_A b)) (F0 m 16 ls [.int sx0]) := by
  have hx := C.1
  have hb := C.2.1
  have hown := C.2.2.2.2.1
  have hts := C.2.2.2.2.2.2.1
  unfold fn_M_itemNumber_16 at hF
  refine lv_istore (lv' := [(5, .int sx0), (0, .ref a0), (1, .int x1), (2, .int x2), (3, .long y3)]) hx hb dc_M_itemNumber_16 hl (by decide) rfl (fun ls hl => ?_)
  refine lv_iload hx hb dc_M_itemNumber_18 (lv_at hl 0 rfl) ?_
  refine lv_if_lt hx hb dc_M_itemNumber_20 (tgt := 59) (by decide) (fun hc => ?_) (fun hc => ?_)
  · have hF := (if_pos hc).symm.trans hF
    exact tl_M_itemNumber_59 C hF w hS (lv_sub hl [4] rfl)
  · have hF := (if_neg hc).symm.trans hF
    refine lv_aload_n hx hb dc_M_itemNumber_23 rfl (lv_at hl 1 rfl) ?_
    refine lv_iload_n hx hb dc_M_itemNumber_24 rfl (lv_at hl 2 rfl) ?_
    refine lv_iload_n hx hb dc_M_itemNumber_25 rfl (lv_at hl 3 rfl) ?_
    obtain ⟨u2, eu2, hF⟩ := pl_bd hF
    obtain ⟨v1, ev1, hF⟩ := pl_bd hF
    refine pl_gi (pl_runV (Cn := rn_M) (k := 2) C (tm_M_itemBytes l D dA tt b n ev1) w hS rfl rfl mw_1003 mw_1005 mw_59 mw_72 mw_1006 (by decide +kernel) ⟨by decide, by decide⟩ eu2 rfl (by decide) rfl hl.1 (Nat.le_of_ble_eq_true rfl) ⟨Nat.zero_le _, Nat.zero_le _⟩ rfl dc_M_itemNumber_26) hS (fun H locs w hS => ?_)
    refine lv_istore (lv' := [(6, .int v1), (5, .int sx0), (0, .ref a0), (1, .int x1), (2, .int x2), (3, .long y3)]) hx hb dc_M_itemNumber_29 hl (by decide) rfl (fun ls hl => ?_)
    exact tl_M_itemNumber_31 C pl_N a0 x1 y3 sx0 v1 _ _ _ hF w hS (lv_sub hl [2, 3, 5, 1, 0] rfl)
set_option maxHeartbeats 4000000 in
set_option maxRecDepth 100000 in
theorem tl_M_itemNumber {p : Program} {l : Launch} {e : Env} {s : State} {m : MethodId} {args : Array Value} {below : List Frame} {meth : Method} {c : Code} {D : va_G} {dA : Nat → ClassId} {tt : Nat → Nat} {b n : Nat} (C : pl_C p s m args meth c co_M_itemNumber 7 rn_M (some .long) "itemNumber" D dA tt b) {r : Int64} {f : pl_H} {a0 : Nat} {x1 : Int32} {x2 : Int32} {H : Heap} {locs : List Loc} {ls : Array Slot} (hF : fn_M_itemNumber f a0 x1 x2 = some r) (w : pl_wd D vwCl dA b n f H) (hS : va_S (pl_A b) s.heap H locs) (hl : lv_has ls 7 [(0, .ref a0), (1, .int x1), (2, .int x2)]) : W p l e rm_M_itemNumber s m args below meth c H locs 0 0 (MQ below (pl_qL D dA tt b n f r) args s 0 0 (pl_A b)) (F0 m 0 ls []) := by
  have hx := C.1
  have hb := C.2.1
  have hown := C.2.2.2.2.1
  have hts := C.2.2.2.2.2.2.1
  unfold fn_M_itemNumber at hF
  refine lv_lconst (v := 0) hx hb dc_M_itemNumber_0 (by decide) ?_
  refine lv_lstore_n (lv' := [(3, .long 0), (0, .ref a0), (1, .int x1), (2, .int x2)]) hx hb dc_M_itemNumber_1 rfl hl (by decide) rfl (fun ls hl => ?_)
  refine lv_iload_n hx hb dc_M_itemNumber_2 rfl (lv_at hl 3 rfl) ?_
  refine lv_if_ge hx hb dc_M_itemNumber_3 (tgt := 10) (by decide) (fun hc => ?_) (fun hc => ?_)
  · have hF := (if_pos hc).symm.trans hF
    refine lv_aload_n hx hb dc_M_itemNumber_10 rfl (lv_at hl 1 rfl) ?_
    refine lv_iload_n hx hb dc_M_itemNumber_11 rfl (lv_at hl 2 rfl) ?_
    refine lv_iload_n hx hb dc_M_itemNumber_12 rfl (lv_at hl 3 rfl) ?_
    obtain ⟨u2, eu2, hF⟩ := pl_bd hF
    obtain ⟨v1, ev1, hF⟩ := pl_bd hF
    refine pl_gi (pl_runV (Cn := rn_M) (k := 2) C (tm_M_itemEnd l D dA tt b n ev1) w hS rfl rfl mw_991 mw_993 mw_56 mw_72 mw_994 (by decide +kernel) ⟨by decide, by decide⟩ eu2 rfl (by decide) rfl hl.1 (Nat.le_of_ble_eq_true rfl) ⟨Nat.zero_le _, Nat.zero_le _⟩ rfl dc_M_itemNumber_13) hS (fun H locs w hS => ?_)
    exact tl_M_itemNumber_16 C hF w hS (lv_sub hl [1, 2, 3, 0] rfl)
  · have hF := (if_neg hc).symm.trans hF
    refine lv_iconst (v := (-1)) hx hb dc_M_itemNumber_6 (by decide) ?_
    refine lv_goto hx hb dc_M_itemNumber_7 (tgt := 16) (by decide) ?_
    exact tl_M_itemNumber_16 C hF w hS (lv_sub hl [1, 2, 3, 0] rfl)
set_option maxHeartbeats 4000000 in
set_option maxRecDepth 100000 in
theorem tm_M_itemNumber (l : Launch) (D : va_G) (dA : Nat → ClassId) (tt : Nat → Nat) (b n : Nat) {f : pl_H} {a0 : Nat} {x1 : Int32} {x2 : Int32} {r : Int64} (hF : fn_M_itemNumber f a0 x1 x2 = some r) : Met l my_M_itemNumber (Cond.code my_M_itemNumber co_M_itemNumber 7 (some .long) :: pl_tb) rm_M_itemNumber (va_Pc [.ref a0, .int x1, .int x2] (pl_pre D dA tt b n f)) (pl_qL D dA tt b n f r) 0 0 (pl_A b) := by
  refine Met.ofW (cc := co_M_itemNumber) (maxL := 7) (ret := (some .long)) (by decide) rfl ?_
  intro p e s m args below meth c s₁ B hml hv
  obtain ⟨rfl, w, hK⟩ := hv
  have C : pl_C p s m _ meth c co_M_itemNumber 7 rn_M (some .long) "itemNumber" D dA tt b := ⟨B.exec, B.bytes, hml, B.returns, findClass_of_methodNamed B.named, B.notSynchronized, fun w hw => atoms_spec (ws := Cond.code my_M_itemNumber co_M_itemNumber 7 (some .long) :: pl_tb) B.pre w (List.mem_cons_of_mem _ hw), (name_of_methodNamed B.named B.method).1, hK⟩
  have hl := lv_entry ([.ref a0, .int x1, .int x2]) (n := 7) (Nat.le_of_ble_eq_true rfl)
  rw [lg_entry_eq]
  generalize (lg_sl ([.ref a0, .int x1, .int x2]) ++ List.replicate (7 - (lg_sl ([.ref a0, .int x1, .int x2])).length) Slot.unset).toArray = ls at hl ⊢
  have hl : lv_has ls 7 [(0, .ref a0), (1, .int x1), (2, .int x2)] := hl
  exact tl_M_itemNumber C hF w va_S.rf hl
def rm_M_hashPart : Room := { frames := 3, cells := 0, slots := 0, locals := 70 }
def fn_M_hashPart_12 : Nat → pl_H → Nat → Int32 → Int32 → Option (pl_H)
  | 0 => fun _ _ _ _ => none
  | k + 1 => fun f a0 x1 x2 => (pl_gI f a0 8 12).bind fun v1 => if v1 ≤ x2 then (pl_is f a0 8).bind fun u3 => (fn_M_hashCodeNow f a0).bind fun q2 => some q2 else (pl_gR f a0 8 13).bind fun v4 => (pl_gR f a0 8 18).bind fun v5 => (pl_aI f v5 ((600 * x1) + x2)).bind fun v6 => (pl_sI f v4 x2 v6).bind fun f7 => fn_M_hashPart_12 k f7 a0 x1 (x2 + 1)
def fn_M_hashPart (f : pl_H) (a0 : Nat) (x1 : Int32) : Option (pl_H) := (pl_gR f a0 8 17).bind fun v1 => (pl_aI f v1 x1).bind fun v2 => (pl_pV f a0 8 12 (.int v2)).bind fun f3 => fn_M_hashPart_12 pl_N f3 a0 x1 0
set_option maxHeartbeats 4000000 in
set_option maxRecDepth 100000 in
theorem tl_M_hashPart_12 {p : Program} {l : Launch} {e : Env} {s : State} {m : MethodId} {args : Array Value} {below : List Frame} {meth : Method} {c : Code} {D : va_G} {dA : Nat → ClassId} {tt : Nat → Nat} {b n : Nat} (C : pl_C p s m args meth c co_M_hashPart 3 rn_M none "hashPart" D dA tt b) {f' : pl_H} : ∀ k : Nat, ∀ (f : pl_H) (a0 : Nat) (x1 : Int32) (x2 : Int32) (H : Heap) (locs : List Loc) (ls : Array Slot), fn_M_hashPart_12 k f a0 x1 x2 = some f' → pl_wd D vwCl dA b n f H → va_S (pl_A b) s.heap H locs → lv_has ls 3 [(0, .ref a0), (1, .int x1), (2, .int x2)] → W p l e rm_M_hashPart s m args below meth c H locs 0 0 (MQ below (pl_qV D dA tt b n f') args s 0 0 (pl_A b)) (F0 m 12 ls []) := by
  have hx := C.1
  have hb := C.2.1
  have hown := C.2.2.2.2.1
  have hts := C.2.2.2.2.2.2.1
  intro k
  induction k with
  | zero =>
    intro f a0 x1 x2 H locs ls hF
    cases hF
  | succ k ih =>
    intro f a0 x1 x2 H locs ls hF w hS hl
    unfold fn_M_hashPart_12 at hF
    refine lv_iload_n hx hb dc_M_hashPart_12 rfl (lv_at hl 2 rfl) ?_
    refine lv_aload_n hx hb dc_M_hashPart_13 rfl (lv_at hl 0 rfl) ?_
    obtain ⟨v1, ev1, hF⟩ := pl_bd hF
    refine pl_getI C w (ci := 8) in_M rfl (by decide) 12 (by decide) mw_709 ev1 dc_M_hashPart_14 ?_
    refine lv_icmp_ge hx hb dc_M_hashPart_17 (tgt := 44) (by decide) (fun hc => ?_) (fun hc => ?_)
    · have hF := (if_pos hc).symm.trans hF
      refine lv_aload_n hx hb dc_M_hashPart_44 rfl (lv_at hl 0 rfl) ?_
      obtain ⟨u3, eu3, hF⟩ := pl_bd hF
      obtain ⟨q2, eq2, hF⟩ := pl_bd hF
      refine pl_gv (pl_runV (Cn := rn_M) (k := 0) C (tm_M_hashCodeNow l D dA tt b n eq2) w hS rfl rfl mw_911 mw_913 mw_46 mw_72 mw_914 (by decide +kernel) ⟨by decide, by decide⟩ eu3 rfl (by decide) rfl hl.1 (Nat.le_of_ble_eq_true rfl) ⟨Nat.zero_le _, Nat.zero_le _⟩ rfl dc_M_hashPart_45) hS (fun H locs w hS => ?_)
      exact pl_retVw C w hS hF dc_M_hashPart_48
    · have hF := (if_neg hc).symm.trans hF
      refine lv_aload_n hx hb dc_M_hashPart_20 rfl (lv_at hl 0 rfl) ?_
      obtain ⟨v4, ev4, hF⟩ := pl_bd hF
      refine pl_getR C w (ci := 8) in_M rfl (by decide) 13 (by decide) mw_710 ev4 dc_M_hashPart_21 ?_
      refine lv_iload_n hx hb dc_M_hashPart_24 rfl (lv_at hl 2 rfl) ?_
      refine lv_aload_n hx hb dc_M_hashPart_25 rfl (lv_at hl 0 rfl) ?_
      obtain ⟨v5, ev5, hF⟩ := pl_bd hF
      refine pl_getR C w (ci := 8) in_M rfl (by decide) 18 (by decide) mw_715 ev5 dc_M_hashPart_26 ?_
      refine lv_sipush (v := 600) hx hb dc_M_hashPart_29 (by decide) ?_
      refine lv_iload_n hx hb dc_M_hashPart_32 rfl (lv_at hl 1 rfl) ?_
      refine lv_imul hx hb dc_M_hashPart_33 ?_
      refine lv_iload_n hx hb dc_M_hashPart_34 rfl (lv_at hl 2 rfl) ?_
      refine lv_iadd hx hb dc_M_hashPart_35 ?_
      obtain ⟨v6, ev6, hF⟩ := pl_bd hF
      refine pl_aldI C w ev6 dc_M_hashPart_36 ?_
      obtain ⟨f7, ef7, hF⟩ := pl_bd hF
      refine pl_astI C w hS ef7 dc_M_hashPart_37 (fun H locs w hS => ?_)
      refine lv_iinc (k := 2) (v := x2 + 1) (lv' := [(2, .int (x2 + 1)), (0, .ref a0), (1, .int x1)]) hx hb dc_M_hashPart_38 hl rfl rfl (by decide) rfl (fun ls hl => ?_)
      refine lv_goto hx hb dc_M_hashPart_41 (tgt := 12) (by decide) ?_
      exact ih f7 a0 x1 (x2 + 1) _ _ _ hF w hS (lv_sub hl [1, 2, 0] rfl)
set_option maxHeartbeats 4000000 in
set_option maxRecDepth 100000 in
theorem tl_M_hashPart {p : Program} {l : Launch} {e : Env} {s : State} {m : MethodId} {args : Array Value} {below : List Frame} {meth : Method} {c : Code} {D : va_G} {dA : Nat → ClassId} {tt : Nat → Nat} {b n : Nat} (C : pl_C p s m args meth c co_M_hashPart 3 rn_M none "hashPart" D dA tt b) {f' : pl_H} {f : pl_H} {a0 : Nat} {x1 : Int32} {H : Heap} {locs : List Loc} {ls : Array Slot} (hF : fn_M_hashPart f a0 x1 = some f') (w : pl_wd D vwCl dA b n f H) (hS : va_S (pl_A b) s.heap H locs) (hl : lv_has ls 3 [(0, .ref a0), (1, .int x1)]) : W p l e rm_M_hashPart s m args below meth c H locs 0 0 (MQ below (pl_qV D dA tt b n f') args s 0 0 (pl_A b)) (F0 m 0 ls []) := by
  have hx := C.1
  have hb := C.2.1
  have hown := C.2.2.2.2.1
  have hts := C.2.2.2.2.2.2.1
  unfold fn_M_hashPart at hF
  refine lv_aload_n hx hb dc_M_hashPart_0 rfl (lv_at hl 0 rfl) ?_
  refine lv_aload_n hx hb dc_M_hashPart_1 rfl (lv_at hl 0 rfl) ?_
  obtain ⟨v1, ev1, hF⟩ := pl_bd hF
  refine pl_getR C w (ci := 8) in_M rfl (by decide) 17 (by decide) mw_714 ev1 dc_M_hashPart_2 ?_
  refine lv_iload_n hx hb dc_M_hashPart_5 rfl (lv_at hl 1 rfl) ?_
  obtain ⟨v2, ev2, hF⟩ := pl_bd hF
  refine pl_aldI C w ev2 dc_M_hashPart_6 ?_
  obtain ⟨f3, ef3, hF⟩ := pl_bd hF
  refine pl_put C w hS (ci := 8) in_M rfl (by decide) rty_M_ok rnm_M 12 (by decide) mw_709 rfl rfl rfl ef3 dc_M_hashPart_7 (fun H locs w hS => ?_)
  refine lv_iconst (v := 0) hx hb dc_M_hashPart_10 (by decide) ?_
  refine lv_istore_n (lv' := [(2, .int 0), (0, .ref a0), (1, .int x1)]) hx hb dc_M_hashPart_11 rfl hl (by decide) rfl (fun ls hl => ?_)
  exact tl_M_hashPart_12 C pl_N f3 a0 x1 0 _ _ _ hF w hS (lv_sub hl [1, 2, 0] rfl)
set_option maxHeartbeats 4000000 in
set_option maxRecDepth 100000 in
theorem tm_M_hashPart (l : Launch) (D : va_G) (dA : Nat → ClassId) (tt : Nat → Nat) (b n : Nat) {f : pl_H} {a0 : Nat} {x1 : Int32} {f' : pl_H} (hF : fn_M_hashPart f a0 x1 = some f') : Met l my_M_hashPart (Cond.code my_M_hashPart co_M_hashPart 3 none :: pl_tb) rm_M_hashPart (va_Pc [.ref a0, .int x1] (pl_pre D dA tt b n f)) (pl_qV D dA tt b n f') 0 0 (pl_A b) := by
  refine Met.ofW (cc := co_M_hashPart) (maxL := 3) (ret := none) (by decide) rfl ?_
  intro p e s m args below meth c s₁ B hml hv
  obtain ⟨rfl, w, hK⟩ := hv
  have C : pl_C p s m _ meth c co_M_hashPart 3 rn_M none "hashPart" D dA tt b := ⟨B.exec, B.bytes, hml, B.returns, findClass_of_methodNamed B.named, B.notSynchronized, fun w hw => atoms_spec (ws := Cond.code my_M_hashPart co_M_hashPart 3 none :: pl_tb) B.pre w (List.mem_cons_of_mem _ hw), (name_of_methodNamed B.named B.method).1, hK⟩
  have hl := lv_entry ([.ref a0, .int x1]) (n := 3) (Nat.le_of_ble_eq_true rfl)
  rw [lg_entry_eq]
  generalize (lg_sl ([.ref a0, .int x1]) ++ List.replicate (3 - (lg_sl ([.ref a0, .int x1])).length) Slot.unset).toArray = ls at hl ⊢
  have hl : lv_has ls 3 [(0, .ref a0), (1, .int x1)] := hl
  exact tl_M_hashPart C hF w va_S.rf hl
def rm_M_half : Room := { frames := 1, cells := 0, slots := 0, locals := 22 }
def fn_M_half_31 (f : pl_H) (sx0 : Int32) : Option (Int32) := some sx0
def fn_M_half (f : pl_H) (a0 : Nat) (x1 : Int32) (x2 : Int32) (x3 : Int32) : Option (Int32) := (pl_is f a0 8).bind fun u2 => (fn_M_byteOf f a0 x1 (x2 + (x3 / 2))).bind fun v1 => if (x3 - x3 / 2 * 2) = 0 then fn_M_half_31 f (v1 / 16) else fn_M_half_31 f (v1 - v1 / 16 * 16)
set_option maxHeartbeats 4000000 in
set_option maxRecDepth 100000 in
theorem tl_M_half_31 {p : Program} {l : Launch} {e : Env} {s : State} {m : MethodId} {args : Array Value} {below : List Frame} {meth : Method} {c : Code} {D : va_G} {dA : Nat → ClassId} {tt : Nat → Nat} {b n : Nat} (C : pl_C p s m args meth c co_M_half 5 rn_M (some .int) "half" D dA tt b) {r : Int32} {f : pl_H} {sx0 : Int32} {H : Heap} {locs : List Loc} {ls : Array Slot} (hF : fn_M_half_31 f sx0 = some r) (w : pl_wd D vwCl dA b n f H) (hS : va_S (pl_A b) s.heap H locs) (hl : lv_has ls 5 []) : W p l e rm_M_half s m args below meth c H locs 0 0 (MQ below (pl_qI D dA tt b n f r) args s 0 0 (pl_A b)) (F0 m 31 ls [.int sx0]) := by
  have hx := C.1
  have hb := C.2.1
  have hown := C.2.2.2.2.1
  have hts := C.2.2.2.2.2.2.1
  unfold fn_M_half_31 at hF
  exact pl_retI C w hS hF dc_M_half_31
set_option maxHeartbeats 4000000 in
set_option maxRecDepth 100000 in
theorem tl_M_half {p : Program} {l : Launch} {e : Env} {s : State} {m : MethodId} {args : Array Value} {below : List Frame} {meth : Method} {c : Code} {D : va_G} {dA : Nat → ClassId} {tt : Nat → Nat} {b n : Nat} (C : pl_C p s m args meth c co_M_half 5 rn_M (some .int) "half" D dA tt b) {r : Int32} {f : pl_H} {a0 : Nat} {x1 : Int32} {x2 : Int32} {x3 : Int32} {H : Heap} {locs : List Loc} {ls : Array Slot} (hF : fn_M_half f a0 x1 x2 x3 = some r) (w : pl_wd D vwCl dA b n f H) (hS : va_S (pl_A b) s.heap H locs) (hl : lv_has ls 5 [(0, .ref a0), (1, .int x1), (2, .int x2), (3, .int x3)]) : W p l e rm_M_half s m args below meth c H locs 0 0 (MQ below (pl_qI D dA tt b n f r) args s 0 0 (pl_A b)) (F0 m 0 ls []) := by
  have hx := C.1
  have hb := C.2.1
  have hown := C.2.2.2.2.1
  have hts := C.2.2.2.2.2.2.1
  unfold fn_M_half at hF
  refine lv_aload_n hx hb dc_M_half_0 rfl (lv_at hl 0 rfl) ?_
  refine lv_iload_n hx hb dc_M_half_1 rfl (lv_at hl 1 rfl) ?_
  refine lv_iload_n hx hb dc_M_half_2 rfl (lv_at hl 2 rfl) ?_
  refine lv_iload_n hx hb dc_M_half_3 rfl (lv_at hl 3 rfl) ?_
  refine lv_iconst (v := 2) hx hb dc_M_half_4 (by decide) ?_
  refine lv_idiv hx hb dc_M_half_5 (by decide) ?_
  refine lv_iadd hx hb dc_M_half_6 ?_
  obtain ⟨u2, eu2, hF⟩ := pl_bd hF
  obtain ⟨v1, ev1, hF⟩ := pl_bd hF
  refine pl_gi (pl_runV (Cn := rn_M) (k := 2) C (tm_M_byteOf l D dA tt b n ev1) w hS rfl rfl mw_987 mw_989 mw_55 mw_72 mw_990 (by decide +kernel) ⟨by decide, by decide⟩ eu2 rfl (by decide) rfl hl.1 (Nat.le_of_ble_eq_true rfl) ⟨Nat.zero_le _, Nat.zero_le _⟩ rfl dc_M_half_7) hS (fun H locs w hS => ?_)
  refine lv_istore (lv' := [(4, .int v1), (0, .ref a0), (1, .int x1), (2, .int x2), (3, .int x3)]) hx hb dc_M_half_10 hl (by decide) rfl (fun ls hl => ?_)
  refine lv_iload_n hx hb dc_M_half_12 rfl (lv_at hl 4 rfl) ?_
  refine lv_iconst (v := 2) hx hb dc_M_half_13 (by decide) ?_
  refine lv_irem hx hb dc_M_half_14 (by decide) ?_
  refine lv_if_ne hx hb dc_M_half_15 (tgt := 26) (by decide) (fun hc => ?_) (fun hc => ?_)
  · have hF := (if_neg hc).symm.trans hF
    refine lv_iload hx hb dc_M_half_26 (lv_at hl 0 rfl) ?_
    refine lv_bipush (v := 16) hx hb dc_M_half_28 (by decide) ?_
    refine lv_irem hx hb dc_M_half_30 (by decide) ?_
    exact tl_M_half_31 C hF w hS (lv_sub hl [] rfl)
  · have hF := (if_pos hc).symm.trans hF
    refine lv_iload hx hb dc_M_half_18 (lv_at hl 0 rfl) ?_
    refine lv_bipush (v := 16) hx hb dc_M_half_20 (by decide) ?_
    refine lv_idiv hx hb dc_M_half_22 (by decide) ?_
    refine lv_goto hx hb dc_M_half_23 (tgt := 31) (by decide) ?_
    exact tl_M_half_31 C hF w hS (lv_sub hl [] rfl)
set_option maxHeartbeats 4000000 in
set_option maxRecDepth 100000 in
theorem tm_M_half (l : Launch) (D : va_G) (dA : Nat → ClassId) (tt : Nat → Nat) (b n : Nat) {f : pl_H} {a0 : Nat} {x1 : Int32} {x2 : Int32} {x3 : Int32} {r : Int32} (hF : fn_M_half f a0 x1 x2 x3 = some r) : Met l my_M_half (Cond.code my_M_half co_M_half 5 (some .int) :: pl_tb) rm_M_half (va_Pc [.ref a0, .int x1, .int x2, .int x3] (pl_pre D dA tt b n f)) (pl_qI D dA tt b n f r) 0 0 (pl_A b) := by
  refine Met.ofW (cc := co_M_half) (maxL := 5) (ret := (some .int)) (by decide) rfl ?_
  intro p e s m args below meth c s₁ B hml hv
  obtain ⟨rfl, w, hK⟩ := hv
  have C : pl_C p s m _ meth c co_M_half 5 rn_M (some .int) "half" D dA tt b := ⟨B.exec, B.bytes, hml, B.returns, findClass_of_methodNamed B.named, B.notSynchronized, fun w hw => atoms_spec (ws := Cond.code my_M_half co_M_half 5 (some .int) :: pl_tb) B.pre w (List.mem_cons_of_mem _ hw), (name_of_methodNamed B.named B.method).1, hK⟩
  have hl := lv_entry ([.ref a0, .int x1, .int x2, .int x3]) (n := 5) (Nat.le_of_ble_eq_true rfl)
  rw [lg_entry_eq]
  generalize (lg_sl ([.ref a0, .int x1, .int x2, .int x3]) ++ List.replicate (5 - (lg_sl ([.ref a0, .int x1, .int x2, .int x3])).length) Slot.unset).toArray = ls at hl ⊢
  have hl : lv_has ls 5 [(0, .ref a0), (1, .int x1), (2, .int x2), (3, .int x3)] := hl
  exact tl_M_half C hF w va_S.rf hl
def rm_M_digitsOf : Room := { frames := 2, cells := 0, slots := 0, locals := 46 }
def fn_M_digitsOf_110 (rc83 : pl_H → Nat → Int32 → Int32 → Int32 → Int32 → Int32 → Int32 → Int32 → Option (Int32)) (f : pl_H) (a0 : Nat) (x1 : Int32) (x3 : Int32) (x4 : Int32) (x5 : Int32) (x7 : Int32) (x8 : Int32) (x9 : Int32) (sx0 : Int32) (sx1 : Int32) (sx2 : Int32) (sa3 : Nat) : Option (Int32) := (pl_is f sa3 8).bind fun u2 => (fn_M_half f sa3 sx2 sx1 sx0).bind fun v1 => (fn_M_digit f x3 (x4 + x9)).bind fun v3 => if v1 = v3 then rc83 f a0 x1 x3 x4 x5 x7 x8 (x9 + 1) else some ((-1))
def fn_M_digitsOf_83 : Nat → pl_H → Nat → Int32 → Int32 → Int32 → Int32 → Int32 → Int32 → Int32 → Option (Int32)
  | 0 => fun _ _ _ _ _ _ _ _ _ => none
  | k + 1 => fun f a0 x1 x3 x4 x5 x7 x8 x9 => if x8 ≤ x9 then some x8 else if x7 = 0 then fn_M_digitsOf_110 (fn_M_digitsOf_83 k) f a0 x1 x3 x4 x5 x7 x8 x9 (x9 + 2) x5 x1 a0 else fn_M_digitsOf_110 (fn_M_digitsOf_83 k) f a0 x1 x3 x4 x5 x7 x8 x9 (x9 + 1) x5 x1 a0
def fn_M_digitsOf_67 (f : pl_H) (a0 : Nat) (x1 : Int32) (x3 : Int32) (x4 : Int32) (x5 : Int32) (x7 : Int32) (sx0 : Int32) : Option (Int32) := if (x4 + sx0) ≤ 4 then fn_M_digitsOf_83 pl_N f a0 x1 x3 x4 x5 x7 sx0 0 else some ((-1))
def fn_M_digitsOf_45 (f : pl_H) (a0 : Nat) (x1 : Int32) (x3 : Int32) (x4 : Int32) (x5 : Int32) (x6 : Int32) (sx0 : Int32) : Option (Int32) := if sx0 = 0 then fn_M_digitsOf_67 f a0 x1 x3 x4 x5 sx0 ((2 * x6) - 2) else fn_M_digitsOf_67 f a0 x1 x3 x4 x5 sx0 ((2 * x6) - 1)
def fn_M_digitsOf (f : pl_H) (a0 : Nat) (x1 : Int32) (x2 : Int32) (x3 : Int32) (x4 : Int32) : Option (Int32) := (pl_is f a0 8).bind fun u2 => (fn_M_itemBytes f a0 x1 x2).bind fun v1 => (pl_is f a0 8).bind fun u4 => (fn_M_itemEnd f a0 x1 x2).bind fun v3 => if (v3 - v1) = 0 then some ((-1)) else (pl_is f a0 8).bind fun u6 => (fn_M_half f a0 x1 v1 0).bind fun v5 => if (v5 - v5 / 2 * 2) = 1 then fn_M_digitsOf_45 f a0 x1 x3 x4 v1 (v3 - v1) 1 else fn_M_digitsOf_45 f a0 x1 x3 x4 v1 (v3 - v1) 0
set_option maxHeartbeats 4000000 in
set_option maxRecDepth 100000 in
theorem tl_M_digitsOf_110 {p : Program} {l : Launch} {e : Env} {s : State} {m : MethodId} {args : Array Value} {below : List Frame} {meth : Method} {c : Code} {D : va_G} {dA : Nat → ClassId} {tt : Nat → Nat} {b n : Nat} (C : pl_C p s m args meth c co_M_digitsOf 10 rn_M (some .int) "digitsOf" D dA tt b) {r : Int32} {f : pl_H} {rc83 : pl_H → Nat → Int32 → Int32 → Int32 → Int32 → Int32 → Int32 → Int32 → Option (Int32)} (hr83 : ∀ (a0 : Nat) (x1 : Int32) (x3 : Int32) (x4 : Int32) (x5 : Int32) (x7 : Int32) (x8 : Int32) (x9 : Int32) (H : Heap) (locs : List Loc) (ls : Array Slot), rc83 f a0 x1 x3 x4 x5 x7 x8 x9 = some r → pl_wd D vwCl dA b n f H → va_S (pl_A b) s.heap H locs → lv_has ls 10 [(0, .ref a0), (1, .int x1), (3, .int x3), (4, .int x4), (5, .int x5), (7, .int x7), (8, .int x8), (9, .int x9)] → W p l e rm_M_digitsOf s m args below meth c H locs 0 0 (MQ below (pl_qI D dA tt b n f r) args s 0 0 (pl_A b)) (F0 m 83 ls [])) {a0 : Nat} {x1 : Int32} {x3 : Int32} {x4 : Int32} {x5 : Int32} {x7 : Int32} {x8 : Int32} {x9 : Int32} {sx0 : Int32} {sx1 : Int32} {sx2 : Int32} {sa3 : Nat} {H : Heap} {locs : List Loc} {ls : Array Slot} (hF : fn_M_digitsOf_110 rc83 f a0 x1 x3 x4 x5 x7 x8 x9 sx0 sx1 sx2 sa3 = some r) (w : pl_wd D vwCl dA b n f H) (hS : va_S (pl_A b) s.heap H locs) (hl : lv_has ls 10 [(0, .ref a0), (1, .int x1), (3, .int x3), (4, .int x4), (5, .int x5), (7, .int x7), (8, .int x8), (9, .int x9)]) : W p l e rm_M_digitsOf s m args below meth c H locs 0 0 (MQ below (pl_qI D dA tt b n f r) args s 0 0 (pl_A b)) (F0 m 110 ls [.int sx0, .int sx1, .int sx2, .ref sa3]) := by
  have hx := C.1
  have hb := C.2.1
  have hown := C.2.2.2.2.1
  have hts := C.2.2.2.2.2.2.1
  unfold fn_M_digitsOf_110 at hF
  obtain ⟨u2, eu2, hF⟩ := pl_bd hF
  obtain ⟨v1, ev1, hF⟩ := pl_bd hF
  refine pl_gi (pl_runV (Cn := rn_M) (k := 3) C (tm_M_half l D dA tt b n ev1) w hS rfl rfl mw_1007 mw_1009 mw_60 mw_72 mw_1010 (by decide +kernel) ⟨by decide, by decide⟩ eu2 rfl (by decide) rfl hl.1 (Nat.le_of_ble_eq_true rfl) ⟨Nat.zero_le _, Nat.zero_le _⟩ rfl dc_M_digitsOf_110) hS (fun H locs w hS => ?_)
  refine lv_iload_n hx hb dc_M_digitsOf_113 rfl (lv_at hl 2 rfl) ?_
  refine lv_iload hx hb dc_M_digitsOf_114 (lv_at hl 3 rfl) ?_
  refine lv_iload hx hb dc_M_digitsOf_116 (lv_at hl 7 rfl) ?_
  refine lv_iadd hx hb dc_M_digitsOf_118 ?_
  obtain ⟨v3, ev3, hF⟩ := pl_bd hF
  refine pl_gi (pl_runS (k := 2) C (tm_M_digit l D dA tt b n ev3) w hS rfl rfl mw_874 mw_875 mw_72 mw_876 (by decide +kernel) ⟨by decide, by decide⟩ rfl hl.1 (Nat.le_of_ble_eq_true rfl) ⟨Nat.zero_le _, Nat.zero_le _⟩ rfl dc_M_digitsOf_119) hS (fun H locs w hS => ?_)
  refine lv_icmp_eq hx hb dc_M_digitsOf_122 (tgt := 127) (by decide) (fun hc => ?_) (fun hc => ?_)
  · have hF := (if_pos hc).symm.trans hF
    refine lv_iinc (k := 7) (v := x9 + 1) (lv' := [(9, .int (x9 + 1)), (0, .ref a0), (1, .int x1), (3, .int x3), (4, .int x4), (5, .int x5), (7, .int x7), (8, .int x8)]) hx hb dc_M_digitsOf_127 hl rfl rfl (by decide) rfl (fun ls hl => ?_)
    refine lv_goto hx hb dc_M_digitsOf_130 (tgt := 83) (by decide) ?_
    exact hr83 a0 x1 x3 x4 x5 x7 x8 (x9 + 1) _ _ _ hF w hS (lv_sub hl [1, 2, 3, 4, 5, 6, 7, 0] rfl)
  · have hF := (if_neg hc).symm.trans hF
    refine lv_iconst (v := (-1)) hx hb dc_M_digitsOf_125 (by decide) ?_
    exact pl_retI C w hS hF dc_M_digitsOf_126
set_option maxHeartbeats 4000000 in
set_option maxRecDepth 100000 in
theorem tl_M_digitsOf_83 {p : Program} {l : Launch} {e : Env} {s : State} {m : MethodId} {args : Array Value} {below : List Frame} {meth : Method} {c : Code} {D : va_G} {dA : Nat → ClassId} {tt : Nat → Nat} {b n : Nat} (C : pl_C p s m args meth c co_M_digitsOf 10 rn_M (some .int) "digitsOf" D dA tt b) {r : Int32} {f : pl_H} : ∀ k : Nat, ∀ (a0 : Nat) (x1 : Int32) (x3 : Int32) (x4 : Int32) (x5 : Int32) (x7 : Int32) (x8 : Int32) (x9 : Int32) (H : Heap) (locs : List Loc) (ls : Array Slot), fn_M_digitsOf_83 k f a0 x1 x3 x4 x5 x7 x8 x9 = some r → pl_wd D vwCl dA b n f H → va_S (pl_A b) s.heap H locs → lv_has ls 10 [(0, .ref a0), (1, .int x1), (3, .int x3), (4, .int x4), (5, .int x5), (7, .int x7), (8, .int x8), (9, .int x9)] → W p l e rm_M_digitsOf s m args below meth c H locs 0 0 (MQ below (pl_qI D dA tt b n f r) args s 0 0 (pl_A b)) (F0 m 83 ls []) := by
  have hx := C.1
  have hb := C.2.1
  have hown := C.2.2.2.2.1
  have hts := C.2.2.2.2.2.2.1
  intro k
  induction k with
  | zero =>
    intro a0 x1 x3 x4 x5 x7 x8 x9 H locs ls hF
    cases hF
  | succ k ih =>
    intro a0 x1 x3 x4 x5 x7 x8 x9 H locs ls hF w hS hl
    unfold fn_M_digitsOf_83 at hF
    refine lv_iload hx hb dc_M_digitsOf_83 (lv_at hl 7 rfl) ?_
    refine lv_iload hx hb dc_M_digitsOf_85 (lv_at hl 6 rfl) ?_
    refine lv_icmp_ge hx hb dc_M_digitsOf_87 (tgt := 133) (by decide) (fun hc => ?_) (fun hc => ?_)
    · have hF := (if_pos hc).symm.trans hF
      refine lv_iload hx hb dc_M_digitsOf_133 (lv_at hl 6 rfl) ?_
      exact pl_retI C w hS hF dc_M_digitsOf_135
    · have hF := (if_neg hc).symm.trans hF
      refine lv_aload_n hx hb dc_M_digitsOf_90 rfl (lv_at hl 0 rfl) ?_
      refine lv_iload_n hx hb dc_M_digitsOf_91 rfl (lv_at hl 1 rfl) ?_
      refine lv_iload hx hb dc_M_digitsOf_92 (lv_at hl 4 rfl) ?_
      refine lv_iload hx hb dc_M_digitsOf_94 (lv_at hl 5 rfl) ?_
      refine lv_if_eq hx hb dc_M_digitsOf_96 (tgt := 106) (by decide) (fun hc => ?_) (fun hc => ?_)
      · have hF := (if_pos hc).symm.trans hF
        refine lv_iload hx hb dc_M_digitsOf_106 (lv_at hl 7 rfl) ?_
        refine lv_iconst (v := 2) hx hb dc_M_digitsOf_108 (by decide) ?_
        refine lv_iadd hx hb dc_M_digitsOf_109 ?_
        exact tl_M_digitsOf_110 C ih hF w hS (lv_sub hl [0, 1, 2, 3, 4, 5, 6, 7] rfl)
      · have hF := (if_neg hc).symm.trans hF
        refine lv_iload hx hb dc_M_digitsOf_99 (lv_at hl 7 rfl) ?_
        refine lv_iconst (v := 1) hx hb dc_M_digitsOf_101 (by decide) ?_
        refine lv_iadd hx hb dc_M_digitsOf_102 ?_
        refine lv_goto hx hb dc_M_digitsOf_103 (tgt := 110) (by decide) ?_
        exact tl_M_digitsOf_110 C ih hF w hS (lv_sub hl [0, 1, 2, 3, 4, 5, 6, 7] rfl)
set_option maxHeartbeats 4000000 in
set_option maxRecDepth 100000 in
theorem tl_M_digitsOf_67 {p : Program} {l : Launch} {e : Env} {s : State} {m : MethodId} {args : Array Value} {below : List Frame} {meth : Method} {c : Code} {D : va_G} {dA : Nat → ClassId} {tt : Nat → Nat} {b n : Nat} (C : pl_C p s m args meth c co_M_digitsOf 10 rn_M (some .int) "digitsOf" D dA tt b) {r : Int32} {f : pl_H} {a0 : Nat} {x1 : Int32} {x3 : Int32} {x4 : Int32} {x5 : Int32} {x7 : Int32} {sx0 : Int32} {H : Heap} {locs : List Loc} {ls : Array Slot} (hF : fn_M_digitsOf_67 f a0 x1 x3 x4 x5 x7 sx0 = some r) (w : pl_wd D vwCl dA b n f H) (hS : va_S (pl_A b) s.heap H locs) (hl : lv_has ls 10 [(0, .ref a0), (1, .int x1), (3, .int x3), (4, .int x4), (5, .int x5), (7, .int x7)]) : W p l e rm_M_digitsOf s m args below meth c H locs 0 0 (MQ below (pl_qI D dA tt b n f r) args s 0 0 (pl_A b)) (F0 m 67 ls [.int sx0]) := by
  have hx := C.1
  have hb := C.2.1
  have hown := C.2.2.2.2.1
  have hts := C.2.2.2.2.2.2.1
  unfold fn_M_digitsOf_67 at hF
  refine lv_istore (lv' := [(8, .int sx0), (0, .ref a0), (1, .int x1), (3, .int x3), (4, .int x4), (5, .int x5), (7, .int x7)]) hx hb dc_M_digitsOf_67 hl (by decide) rfl (fun ls hl => ?_)
  refine lv_iload hx hb dc_M_digitsOf_69 (lv_at hl 4 rfl) ?_
  refine lv_iload hx hb dc_M_digitsOf_71 (lv_at hl 0 rfl) ?_
  refine lv_iadd hx hb dc_M_digitsOf_73 ?_
  refine lv_iconst (v := 4) hx hb dc_M_digitsOf_74 (by decide) ?_
  refine lv_icmp_le hx hb dc_M_digitsOf_75 (tgt := 80) (by decide) (fun hc => ?_) (fun hc => ?_)
  · have hF := (if_pos hc).symm.trans hF
    refine lv_iconst (v := 0) hx hb dc_M_digitsOf_80 (by decide) ?_
    refine lv_istore (lv' := [(9, .int 0), (8, .int sx0), (0, .ref a0), (1, .int x1), (3, .int x3), (4, .int x4), (5, .int x5), (7, .int x7)]) hx hb dc_M_digitsOf_81 hl (by decide) rfl (fun ls hl => ?_)
    exact tl_M_digitsOf_83 C pl_N a0 x1 x3 x4 x5 x7 sx0 0 _ _ _ hF w hS (lv_sub hl [2, 3, 4, 5, 6, 7, 1, 0] rfl)
  · have hF := (if_neg hc).symm.trans hF
    refine lv_iconst (v := (-1)) hx hb dc_M_digitsOf_78 (by decide) ?_
    exact pl_retI C w hS hF dc_M_digitsOf_79
set_option maxHeartbeats 4000000 in
set_option maxRecDepth 100000 in
theorem tl_M_digitsOf_45 {p : Program} {l : Launch} {e : Env} {s : State} {m : MethodId} {args : Array Value} {below : List Frame} {meth : Method} {c : Code} {D : va_G} {dA : Nat → ClassId} {tt : Nat → Nat} {b n : Nat} (C : pl_C p s m args meth c co_M_digitsOf 10 rn_M (some .int) "digitsOf" D dA tt b) {r : Int32} {f : pl_H} {a0 : Nat} {x1 : Int32} {x3 : Int32} {x4 : Int32} {x5 : Int32} {x6 : Int32} {sx0 : Int32} {H : Heap} {locs : List Loc} {ls : Array Slot} (hF : fn_M_digitsOf_45 f a0 x1 x3 x4 x5 x6 sx0 = some r) (w : pl_wd D vwCl dA b n f H) (hS : va_S (pl_A b) s.heap H locs) (hl : lv_has ls 10 [(0, .ref a0), (1, .int x1), (3, .int x3), (4, .int x4), (5, .int x5), (6, .int x6)]) : W p l e rm_M_digitsOf s m args below meth c H locs 0 0 (MQ below (pl_qI D dA tt b n f r) args s 0 0 (pl_A b)) (F0 m 45 ls [.int sx0]) := by
  have hx := C.1
  have hb := C.2.1
  have hown := C.2.2.2.2.1
  have hts := C.2.2.2.2.2.2.1
  unfold fn_M_digitsOf_45 at hF
  refine lv_istore (lv' := [(7, .int sx0), (0, .ref a0), (1, .int x1), (3, .int x3), (4, .int x4), (5, .int x5), (6, .int x6)]) hx hb dc_M_digitsOf_45 hl (by decide) rfl (fun ls hl => ?_)
  refine lv_iload hx hb dc_M_digitsOf_47 (lv_at hl 0 rfl) ?_
  refine lv_if_eq hx hb dc_M_digitsOf_49 (tgt := 61) (by decide) (fun hc => ?_) (fun hc => ?_)
  · have hF := (if_pos hc).symm.trans hF
    refine lv_iconst (v := 2) hx hb dc_M_digitsOf_61 (by decide) ?_
    refine lv_iload hx hb dc_M_digitsOf_62 (lv_at hl 6 rfl) ?_
    refine lv_imul hx hb dc_M_digitsOf_64 ?_
    refine lv_iconst (v := 2) hx hb dc_M_digitsOf_65 (by decide) ?_
    refine lv_isub hx hb dc_M_digitsOf_66 ?_
    exact tl_M_digitsOf_67 C hF w hS (lv_sub hl [1, 2, 3, 4, 5, 0] rfl)
  · have hF := (if_neg hc).symm.trans hF
    refine lv_iconst (v := 2) hx hb dc_M_digitsOf_52 (by decide) ?_
    refine lv_iload hx hb dc_M_digitsOf_53 (lv_at hl 6 rfl) ?_
    refine lv_imul hx hb dc_M_digitsOf_55 ?_
    refine lv_iconst (v := 1) hx hb dc_M_digitsOf_56 (by decide) ?_
    refine lv_isub hx hb dc_M_digitsOf_57 ?_
    refine lv_goto hx hb dc_M_digitsOf_58 (tgt := 67) (by decide) ?_
    exact tl_M_digitsOf_67 C hF w hS (lv_sub hl [1, 2, 3, 4, 5, 0] rfl)
set_option maxHeartbeats 4000000 in
set_option maxRecDepth 100000 in
theorem tl_M_digitsOf {p : Program} {l : Launch} {e : Env} {s : State} {m : MethodId} {args : Array Value} {below : List Frame} {meth : Method} {c : Code} {D : va_G} {dA : Nat → ClassId} {tt : Nat → Nat} {b n : Nat} (C : pl_C p s m args meth c co_M_digitsOf 10 rn_M (some .int) "digitsOf" D dA tt b) {r : Int32} {f : pl_H} {a0 : Nat} {x1 : Int32} {x2 : Int32} {x3 : Int32} {x4 : Int32} {H : Heap} {locs : List Loc} {ls : Array Slot} (hF : fn_M_digitsOf f a0 x1 x2 x3 x4 = some r) (w : pl_wd D vwCl dA b n f H) (hS : va_S (pl_A b) s.heap H locs) (hl : lv_has ls 10 [(0, .ref a0), (1, .int x1), (2, .int x2), (3, .int x3), (4, .int x4)]) : W p l e rm_M_digitsOf s m args below meth c H locs 0 0 (MQ below (pl_qI D dA tt b n f r) args s 0 0 (pl_A b)) (F0 m 0 ls []) := by
  have hx := C.1
  have hb := C.2.1
  have hown := C.2.2.2.2.1
  have hts := C.2.2.2.2.2.2.1
  unfold fn_M_digitsOf at hF
  refine lv_aload_n hx hb dc_M_digitsOf_0 rfl (lv_at hl 0 rfl) ?_
  refine lv_iload_n hx hb dc_M_digitsOf_1 rfl (lv_at hl 1 rfl) ?_
  refine lv_iload_n hx hb dc_M_digitsOf_2 rfl (lv_at hl 2 rfl) ?_
  obtain ⟨u2, eu2, hF⟩ := pl_bd hF
  obtain ⟨v1, ev1, hF⟩ := pl_bd hF
  refine pl_gi (pl_runV (Cn := rn_M) (k := 2) C (tm_M_itemBytes l D dA tt b n ev1) w hS rfl rfl mw_1003 mw_1005 mw_59 mw_72 mw_1006 (by decide +kernel) ⟨by decide, by decide⟩ eu2 rfl (by decide) rfl hl.1 (Nat.le_of_ble_eq_true rfl) ⟨Nat.zero_le _, Nat.zero_le _⟩ rfl dc_M_digitsOf_3) hS (fun H locs w hS => ?_)
  refine lv_istore (lv' := [(5, .int v1), (0, .ref a0), (1, .int x1), (2, .int x2), (3, .int x3), (4, .int x4)]) hx hb dc_M_digitsOf_6 hl (by decide) rfl (fun ls hl => ?_)
  refine lv_aload_n hx hb dc_M_digitsOf_8 rfl (lv_at hl 1 rfl) ?_
  refine lv_iload_n hx hb dc_M_digitsOf_9 rfl (lv_at hl 2 rfl) ?_
  refine lv_iload_n hx hb dc_M_digitsOf_10 rfl (lv_at hl 3 rfl) ?_
  obtain ⟨u4, eu4, hF⟩ := pl_bd hF
  obtain ⟨v3, ev3, hF⟩ := pl_bd hF
  refine pl_gi (pl_runV (Cn := rn_M) (k := 2) C (tm_M_itemEnd l D dA tt b n ev3) w hS rfl rfl mw_991 mw_993 mw_56 mw_72 mw_994 (by decide +kernel) ⟨by decide, by decide⟩ eu4 rfl (by decide) rfl hl.1 (Nat.le_of_ble_eq_true rfl) ⟨Nat.zero_le _, Nat.zero_le _⟩ rfl dc_M_digitsOf_11) hS (fun H locs w hS => ?_)
  refine lv_iload hx hb dc_M_digitsOf_14 (lv_at hl 0 rfl) ?_
  refine lv_isub hx hb dc_M_digitsOf_16 ?_
  refine lv_istore (lv' := [(6, .int (v3 - v1)), (5, .int v1), (0, .ref a0), (1, .int x1), (2, .int x2), (3, .int x3), (4, .int x4)]) hx hb dc_M_digitsOf_17 hl (by decide) rfl (fun ls hl => ?_)
  refine lv_iload hx hb dc_M_digitsOf_19 (lv_at hl 0 rfl) ?_
  refine lv_if_ne hx hb dc_M_digitsOf_21 (tgt := 26) (by decide) (fun hc => ?_) (fun hc => ?_)
  · have hF := (if_neg hc).symm.trans hF
    refine lv_aload_n hx hb dc_M_digitsOf_26 rfl (lv_at hl 2 rfl) ?_
    refine lv_iload_n hx hb dc_M_digitsOf_27 rfl (lv_at hl 3 rfl) ?_
    refine lv_iload hx hb dc_M_digitsOf_28 (lv_at hl 1 rfl) ?_
    refine lv_iconst (v := 0) hx hb dc_M_digitsOf_30 (by decide) ?_
    obtain ⟨u6, eu6, hF⟩ := pl_bd hF
    obtain ⟨v5, ev5, hF⟩ := pl_bd hF
    refine pl_gi (pl_runV (Cn := rn_M) (k := 3) C (tm_M_half l D dA tt b n ev5) w hS rfl rfl mw_1007 mw_1009 mw_60 mw_72 mw_1010 (by decide +kernel) ⟨by decide, by decide⟩ eu6 rfl (by decide) rfl hl.1 (Nat.le_of_ble_eq_true rfl) ⟨Nat.zero_le _, Nat.zero_le _⟩ rfl dc_M_digitsOf_31) hS (fun H locs w hS => ?_)
    refine lv_iconst (v := 2) hx hb dc_M_digitsOf_34 (by decide) ?_
    refine lv_irem hx hb dc_M_digitsOf_35 (by decide) ?_
    refine lv_iconst (v := 1) hx hb dc_M_digitsOf_36 (by decide) ?_
    refine lv_icmp_ne hx hb dc_M_digitsOf_37 (tgt := 44) (by decide) (fun hc => ?_) (fun hc => ?_)
    · have hF := (if_neg hc).symm.trans hF
      refine lv_iconst (v := 0) hx hb dc_M_digitsOf_44 (by decide) ?_
      exact tl_M_digitsOf_45 C hF w hS (lv_sub hl [2, 3, 5, 6, 1, 0] rfl)
    · have hF := (if_pos hc).symm.trans hF
      refine lv_iconst (v := 1) hx hb dc_M_digitsOf_40 (by decide) ?_
      refine lv_goto hx hb dc_M_digitsOf_41 (tgt := 45) (by decide) ?_
      exact tl_M_digitsOf_45 C hF w hS (lv_sub hl [2, 3, 5, 6, 1, 0] rfl)
  · have hF := (if_pos hc).symm.trans hF
    refine lv_iconst (v := (-1)) hx hb dc_M_digitsOf_24 (by decide) ?_
    exact pl_retI C w hS hF dc_M_digitsOf_25
set_option maxHeartbeats 4000000 in
set_option maxRecDepth 100000 in
theorem tm_M_digitsOf (l : Launch) (D : va_G) (dA : Nat → ClassId) (tt : Nat → Nat) (b n : Nat) {f : pl_H} {a0 : Nat} {x1 : Int32} {x2 : Int32} {x3 : Int32} {x4 : Int32} {r : Int32} (hF : fn_M_digitsOf f a0 x1 x2 x3 x4 = some r) : Met l my_M_digitsOf (Cond.code my_M_digitsOf co_M_digitsOf 10 (some .int) :: pl_tb) rm_M_digitsOf (va_Pc [.ref a0, .int x1, .int x2, .int x3, .int x4] (pl_pre D dA tt b n f)) (pl_qI D dA tt b n f r) 0 0 (pl_A b) := by
  refine Met.ofW (cc := co_M_digitsOf) (maxL := 10) (ret := (some .int)) (by decide) rfl ?_
  intro p e s m args below meth c s₁ B hml hv
  obtain ⟨rfl, w, hK⟩ := hv
  have C : pl_C p s m _ meth c co_M_digitsOf 10 rn_M (some .int) "digitsOf" D dA tt b := ⟨B.exec, B.bytes, hml, B.returns, findClass_of_methodNamed B.named, B.notSynchronized, fun w hw => atoms_spec (ws := Cond.code my_M_digitsOf co_M_digitsOf 10 (some .int) :: pl_tb) B.pre w (List.mem_cons_of_mem _ hw), (name_of_methodNamed B.named B.method).1, hK⟩
  have hl := lv_entry ([.ref a0, .int x1, .int x2, .int x3, .int x4]) (n := 10) (Nat.le_of_ble_eq_true rfl)
  rw [lg_entry_eq]
  generalize (lg_sl ([.ref a0, .int x1, .int x2, .int x3, .int x4]) ++ List.replicate (10 - (lg_sl ([.ref a0, .int x1, .int x2, .int x3, .int x4])).length) Slot.unset).toArray = ls at hl ⊢
  have hl : lv_has ls 10 [(0, .ref a0), (1, .int x1), (2, .int x2), (3, .int x3), (4, .int x4)] := hl
  exact tl_M_digitsOf C hF w va_S.rf hl
def rm_M_goOn : Room := { frames := 4, cells := 0, slots := 0, locals := 92 }
def fn_M_goOn_139 (f : pl_H) : Option (pl_H) := some f
def fn_M_goOn_118 (rc77 : pl_H → Nat → Int32 → Int32 → Int32 → Option (pl_H)) (f : pl_H) (a0 : Nat) (x1 : Int32) (x2 : Int32) (x4 : Int32) (sx0 : Int32) (sa1 : Nat) : Option (pl_H) := (pl_pZ f sa1 8 32 sx0).bind fun f1 => rc77 f1 a0 x1 x2 (x4 + 1)
def fn_M_goOn_113 (rc77 : pl_H → Nat → Int32 → Int32 → Int32 → Option (pl_H)) (f : pl_H) (a0 : Nat) (x1 : Int32) (x2 : Int32) (x4 : Int32) (sa0 : Nat) : Option (pl_H) := fn_M_goOn_118 rc77 f a0 x1 x2 x4 1 sa0
def fn_M_goOn_77 : Nat → pl_H → Nat → Int32 → Int32 → Int32 → Option (pl_H)
  | 0 => fun _ _ _ _ _ => none
  | k + 1 => fun f a0 x1 x2 x4 => if 32 ≤ x4 then (pl_pV f a0 8 29 (.int (x2 + 1))).bind fun f1 => (pl_pV f1 a0 8 30 (.int 0)).bind fun f2 => fn_M_goOn_139 f2 else (pl_gI f a0 8 32).bind fun v3 => if v3 = 0 then (pl_gR f a0 8 27).bind fun v4 => (pl_aI f v4 x4).bind fun v5 => (pl_is f a0 8).bind fun u7 => (fn_M_byteOf f a0 x2 ((x1 + 1) + x4)).bind fun v6 => if v5 = v6 then fn_M_goOn_118 (fn_M_goOn_77 k) f a0 x1 x2 x4 0 a0 else fn_M_goOn_113 (fn_M_goOn_77 k) f a0 x1 x2 x4 a0 else fn_M_goOn_113 (fn_M_goOn_77 k) f a0 x1 x2 x4 a0
def fn_M_goOn_57 (f : pl_H) (a0 : Nat) (x1 : Int32) (x2 : Int32) (sx0 : Int32) (sa1 : Nat) : Option (pl_H) := (pl_pZ f sa1 8 32 sx0).bind fun f1 => (pl_gI f1 a0 8 32).bind fun v2 => if v2 = 0 then (pl_is f1 a0 8).bind fun u4 => (fn_M_hashPart f1 a0 (x2 + 1)).bind fun q3 => fn_M_goOn_77 pl_N q3 a0 x1 x2 0 else fn_M_goOn_139 f1
def fn_M_goOn_34 (f : pl_H) (a0 : Nat) (x1 : Int32) (x2 : Int32) (x3 : Int32) : Option (pl_H) := if x3 = 160 then (pl_gI f a0 8 16).bind fun v1 => if (x2 + 1) < v1 then fn_M_goOn_57 f a0 x1 x2 0 a0 else fn_M_goOn_57 f a0 x1 x2 1 a0 else fn_M_goOn_139 f
def fn_M_goOn (f : pl_H) (a0 : Nat) (x1 : Int32) : Option (pl_H) := (pl_gI f a0 8 29).bind fun v1 => (pl_pV f a0 8 30 (.int ((-1)))).bind fun f2 => if 0 ≤ x1 then (pl_is f2 a0 8).bind fun u4 => (fn_M_byteOf f2 a0 v1 x1).bind fun v3 => if v3 < 192 then fn_M_goOn_34 f2 a0 x1 v1 v3 else (pl_pV f2 a0 8 30 (.int x1)).bind fun f5 => fn_M_goOn_34 f5 a0 x1 v1 v3 else some f2
set_option maxHeartbeats 4000000 in
set_option maxRecDepth 100000 in
theorem tl_M_goOn_139 {p : Program} {l : Launch} {e : Env} {s : State} {m : MethodId} {args : Array Value} {below : List Frame} {meth : Method} {c : Code} {D : va_G} {dA : Nat → ClassId} {tt : Nat → Nat} {b n : Nat} (C : pl_C p s m args meth c co_M_goOn 5 rn_M none "goOn" D dA tt b) {f' : pl_H} {f : pl_H} {H : Heap} {locs : List Loc} {ls : Array Slot} (hF : fn_M_goOn_139 f = some f') (w : pl_wd D vwCl dA b n f H) (hS : va_S (pl_A b) s.heap H locs) (hl : lv_has ls 5 []) : W p l e rm_M_goOn s m args below meth c H locs 0 0 (MQ below (pl_qV D dA tt b n f') args s 0 0 (pl_A b)) (F0 m 139 ls []) := by
  have hx := C.1
  have hb := C.2.1
  have hown := C.2.2.2.2.1
  have hts := C.2.2.2.2.2.2.1
  unfold fn_M_goOn_139 at hF
  exact pl_retVw C w hS hF dc_M_goOn_139
set_option maxHeartbeats 4000000 in
set_option maxRecDepth 100000 in
theorem tl_M_goOn_118 {p : Program} {l : Launch} {e : Env} {s : State} {m : MethodId} {args : Array Value} {below : List Frame} {meth : Method} {c : Code} {D : va_G} {dA : Nat → ClassId} {tt : Nat → Nat} {b n : Nat} (C : pl_C p s m args meth c co_M_goOn 5 rn_M none "goOn" D dA tt b) {f' : pl_H} {rc77 : pl_H → Nat → Int32 → Int32 → Int32 → Option (pl_H)} (hr77 : ∀ (f : pl_H) (a0 : Nat) (x1 : Int32) (x2 : Int32) (x4 : Int32) (H : Heap) (locs : List Loc) (ls : Array Slot), rc77 f a0 x1 x2 x4 = some f' → pl_wd D vwCl dA b n f H → va_S (pl_A b) s.heap H locs → lv_has ls 5 [(0, .ref a0), (1, .int x1), (2, .int x2), (4, .int x4)] → W p l e rm_M_goOn s m args below meth c H locs 0 0 (MQ below (pl_qV D dA tt b n f') args s 0 0 (pl_A b)) (F0 m 77 ls [])) {f : pl_H} {a0 : Nat} {x1 : Int32} {x2 : Int32} {x4 : Int32} {sx0 : Int32} {sa1 : Nat} {H : Heap} {locs : List Loc} {ls : Array Slot} (hF : fn_M_goOn_118 rc77 f a0 x1 x2 x4 sx0 sa1 = some f') (w : pl_wd D vwCl dA b n f H) (hS : va_S (pl_A b) s.heap H locs) (hl : lv_has ls 5 [(0, .ref a0), (1, .int x1), (2, .int x2), (4, .int x4)]) : W p l e rm_M_goOn s m args below meth c H locs 0 0 (MQ below (pl_qV D dA tt b n f') args s 0 0 (pl_A b)) (F0 m 118 ls [.int sx0, .ref sa1]) := by
  have hx := C.1
  have hb := C.2.1
  have hown := C.2.2.2.2.1
  have hts := C.2.2.2.2.2.2.1
  unfold fn_M_goOn_118 at hF
  obtain ⟨f1, ef1, hF⟩ := pl_bd hF
  refine pl_putZ C w hS (ci := 8) in_M rfl (by decide) rty_M_ok rnm_M 32 (by decide) mw_729 rfl rfl ef1 dc_M_goOn_118 (fun H locs w hS => ?_)
  refine lv_iinc (k := 3) (v := x4 + 1) (lv' := [(4, .int (x4 + 1)), (0, .ref a0), (1, .int x1), (2, .int x2)]) hx hb dc_M_goOn_121 hl rfl rfl (by decide) rfl (fun ls hl => ?_)
  refine lv_goto hx hb dc_M_goOn_124 (tgt := 77) (by decide) ?_
  exact hr77 f1 a0 x1 x2 (x4 + 1) _ _ _ hF w hS (lv_sub hl [1, 2, 3, 0] rfl)
set_option maxHeartbeats 4000000 in
set_option maxRecDepth 100000 in
theorem tl_M_goOn_113 {p : Program} {l : Launch} {e : Env} {s : State} {m : MethodId} {args : Array Value} {below : List Frame} {meth : Method} {c : Code} {D : va_G} {dA : Nat → ClassId} {tt : Nat → Nat} {b n : Nat} (C : pl_C p s m args meth c co_M_goOn 5 rn_M none "goOn" D dA tt b) {f' : pl_H} {rc77 : pl_H → Nat → Int32 → Int32 → Int32 → Option (pl_H)} (hr77 : ∀ (f : pl_H) (a0 : Nat) (x1 : Int32) (x2 : Int32) (x4 : Int32) (H : Heap) (locs : List Loc) (ls : Array Slot), rc77 f a0 x1 x2 x4 = some f' → pl_wd D vwCl dA b n f H → va_S (pl_A b) s.heap H locs → lv_has ls 5 [(0, .ref a0), (1, .int x1), (2, .int x2), (4, .int x4)] → W p l e rm_M_goOn s m args below meth c H locs 0 0 (MQ below (pl_qV D dA tt b n f') args s 0 0 (pl_A b)) (F0 m 77 ls [])) {f : pl_H} {a0 : Nat} {x1 : Int32} {x2 : Int32} {x4 : Int32} {sa0 : Nat} {H : Heap} {locs : List Loc} {ls : Array Slot} (hF : fn_M_goOn_113 rc77 f a0 x1 x2 x4 sa0 = some f') (w : pl_wd D vwCl dA b n f H) (hS : va_S (pl_A b) s.heap H locs) (hl : lv_has ls 5 [(0, .ref a0), (1, .int x1), (2, .int x2), (4, .int x4)]) : W p l e rm_M_goOn s m args below meth c H locs 0 0 (MQ below (pl_qV D dA tt b n f') args s 0 0 (pl_A b)) (F0 m 113 ls [.ref sa0]) := by
  have hx := C.1
  have hb := C.2.1
  have hown := C.2.2.2.2.1
  have hts := C.2.2.2.2.2.2.1
  unfold fn_M_goOn_113 at hF
  refine lv_iconst (v := 1) hx hb dc_M_goOn_113 (by decide) ?_
  refine lv_goto hx hb dc_M_goOn_114 (tgt := 118) (by decide) ?_
  exact tl_M_goOn_118 C hr77 hF w hS (lv_sub hl [0, 1, 2, 3] rfl)
set_option maxHeartbeats 4000000 in
set_option maxRecDepth 100000 in
theorem tl_M_goOn_77 {p : Program} {l : Launch} {e : Env} {s : State} {m : MethodId} {args : Array Value} {below : List Frame} {meth : Method} {c : Code} {D : va_G} {dA : Nat → ClassId} {tt : Nat → Nat} {b n : Nat} (C : pl_C p s m args meth c co_M_goOn 5 rn_M none "goOn" D dA tt b) {f' : pl_H} : ∀ k : Nat, ∀ (f : pl_H) (a0 : Nat) (x1 : Int32) (x2 : Int32) (x4 : Int32) (H : Heap) (locs : List Loc) (ls : Array Slot), fn_M_goOn_77 k f a0 x1 x2 x4 = some f' → pl_wd D vwCl dA b n f H → va_S (pl_A b) s.heap H locs → lv_has ls 5 [(0, .ref a0), (1, .int x1), (2, .int x2), (4, .int x4)] → W p l e rm_M_goOn s m args below meth c H locs 0 0 (MQ below (pl_qV D dA tt b n f') args s 0 0 (pl_A b)) (F0 m 77 ls []) := by
  have hx := C.1
  have hb := C.2.1
  have hown := C.2.2.2.2.1
  have hts := C.2.2.2.2.2.2.1
  intro k
  induction k with
  | zero =>
    intro f a0 x1 x2 x4 H locs ls hF
    cases hF
  | succ k ih =>
    intro f a0 x1 x2 x4 H locs ls hF w hS hl
    unfold fn_M_goOn_77 at hF
    refine lv_iload hx hb dc_M_goOn_77 (lv_at hl 3 rfl) ?_
    refine lv_bipush (v := 32) hx hb dc_M_goOn_79 (by decide) ?_
    refine lv_icmp_ge hx hb dc_M_goOn_81 (tgt := 127) (by decide) (fun hc => ?_) (fun hc => ?_)
    · have hF := (if_pos hc).symm.trans hF
      refine lv_aload_n hx hb dc_M_goOn_127 rfl (lv_at hl 0 rfl) ?_
      refine lv_iload_n hx hb dc_M_goOn_128 rfl (lv_at hl 2 rfl) ?_
      refine lv_iconst (v := 1) hx hb dc_M_goOn_129 (by decide) ?_
      refine lv_iadd hx hb dc_M_goOn_130 ?_
      obtain ⟨f1, ef1, hF⟩ := pl_bd hF
      refine pl_put C w hS (ci := 8) in_M rfl (by decide) rty_M_ok rnm_M 29 (by decide) mw_726 rfl rfl rfl ef1 dc_M_goOn_131 (fun H locs w hS => ?_)
      refine lv_aload_n hx hb dc_M_goOn_134 rfl (lv_at hl 0 rfl) ?_
      refine lv_iconst (v := 0) hx hb dc_M_goOn_135 (by decide) ?_
      obtain ⟨f2, ef2, hF⟩ := pl_bd hF
      refine pl_put C w hS (ci := 8) in_M rfl (by decide) rty_M_ok rnm_M 30 (by decide) mw_727 rfl rfl rfl ef2 dc_M_goOn_136 (fun H locs w hS => ?_)
      exact tl_M_goOn_139 C hF w hS (lv_sub hl [] rfl)
    · have hF := (if_neg hc).symm.trans hF
      refine lv_aload_n hx hb dc_M_goOn_84 rfl (lv_at hl 0 rfl) ?_
      refine lv_aload_n hx hb dc_M_goOn_85 rfl (lv_at hl 0 rfl) ?_
      obtain ⟨v3, ev3, hF⟩ := pl_bd hF
      refine pl_getI C w (ci := 8) in_M rfl (by decide) 32 (by decide) mw_729 ev3 dc_M_goOn_86 ?_
      refine lv_if_ne hx hb dc_M_goOn_89 (tgt := 113) (by decide) (fun hc => ?_) (fun hc => ?_)
      · have hF := (if_neg hc).symm.trans hF
        exact tl_M_goOn_113 C ih hF w hS (lv_sub hl [0, 1, 2, 3] rfl)
      · have hF := (if_pos hc).symm.trans hF
        refine lv_aload_n hx hb dc_M_goOn_92 rfl (lv_at hl 0 rfl) ?_
        obtain ⟨v4, ev4, hF⟩ := pl_bd hF
        refine pl_getR C w (ci := 8) in_M rfl (by decide) 27 (by decide) mw_724 ev4 dc_M_goOn_93 ?_
        refine lv_iload hx hb dc_M_goOn_96 (lv_at hl 3 rfl) ?_
        obtain ⟨v5, ev5, hF⟩ := pl_bd hF
        refine pl_aldI C w ev5 dc_M_goOn_98 ?_
        refine lv_aload_n hx hb dc_M_goOn_99 rfl (lv_at hl 0 rfl) ?_
        refine lv_iload_n hx hb dc_M_goOn_100 rfl (lv_at hl 2 rfl) ?_
        refine lv_iload_n hx hb dc_M_goOn_101 rfl (lv_at hl 1 rfl) ?_
        refine lv_iconst (v := 1) hx hb dc_M_goOn_102 (by decide) ?_
        refine lv_iadd hx hb dc_M_goOn_103 ?_
        refine lv_iload hx hb dc_M_goOn_104 (lv_at hl 3 rfl) ?_
        refine lv_iadd hx hb dc_M_goOn_106 ?_
        obtain ⟨u7, eu7, hF⟩ := pl_bd hF
        obtain ⟨v6, ev6, hF⟩ := pl_bd hF
        refine pl_gi (pl_runV (Cn := rn_M) (k := 2) C (tm_M_byteOf l D dA tt b n ev6) w hS rfl rfl mw_987 mw_989 mw_55 mw_72 mw_990 (by decide +kernel) ⟨by decide, by decide⟩ eu7 rfl (by decide) rfl hl.1 (Nat.le_of_ble_eq_true rfl) ⟨Nat.zero_le _, Nat.zero_le _⟩ rfl dc_M_goOn_107) hS (fun H locs w hS => ?_)
        refine lv_icmp_eq hx hb dc_M_goOn_110 (tgt := 117) (by decide) (fun hc => ?_) (fun hc => ?_)
        · have hF := (if_pos hc).symm.trans hF
          refine lv_iconst (v := 0) hx hb dc_M_goOn_117 (by decide) ?_
          exact tl_M_goOn_118 C ih hF w hS (lv_sub hl [0, 1, 2, 3] rfl)
        · have hF := (if_neg hc).symm.trans hF
          exact tl_M_goOn_113 C ih hF w hS (lv_sub hl [0, 1, 2, 3] rfl)
set_option maxHeartbeats 4000000 in
set_option maxRecDepth 100000 in
theorem tl_M_goOn_57 {p : Program} {l : Launch} {e : Env} {s : State} {m : MethodId} {args : Array Value} {below : List Frame} {meth : Method} {c : Code} {D : va_G} {dA : Nat → ClassId} {tt : Nat → Nat} {b n : Nat} (C : pl_C p s m args meth c co_M_goOn 5 rn_M none "goOn" D dA tt b) {f' : pl_H} {f : pl_H} {a0 : Nat} {x1 : Int32} {x2 : Int32} {sx0 : Int32} {sa1 : Nat} {H : Heap} {locs : List Loc} {ls : Array Slot} (hF : fn_M_goOn_57 f a0 x1 x2 sx0 sa1 = some f') (w : pl_wd D vwCl dA b n f H) (hS : va_S (pl_A b) s.heap H locs) (hl : lv_has ls 5 [(0, .ref a0), (1, .int x1), (2, .int x2)]) : W p l e rm_M_goOn s m args below meth c H locs 0 0 (MQ below (pl_qV D dA tt b n f') args s 0 0 (pl_A b)) (F0 m 57 ls [.int sx0, .ref sa1]) := by
  have hx := C.1
  have hb := C.2.1
  have hown := C.2.2.2.2.1
  have hts := C.2.2.2.2.2.2.1
  unfold fn_M_goOn_57 at hF
  obtain ⟨f1, ef1, hF⟩ := pl_bd hF
  refine pl_putZ C w hS (ci := 8) in_M rfl (by decide) rty_M_ok rnm_M 32 (by decide) mw_729 rfl rfl ef1 dc_M_goOn_57 (fun H locs w hS => ?_)
  refine lv_aload_n hx hb dc_M_goOn_60 rfl (lv_at hl 0 rfl) ?_
  obtain ⟨v2, ev2, hF⟩ := pl_bd hF
  refine pl_getI C w (ci := 8) in_M rfl (by decide) 32 (by decide) mw_729 ev2 dc_M_goOn_61 ?_
  refine lv_if_ne hx hb dc_M_goOn_64 (tgt := 139) (by decide) (fun hc => ?_) (fun hc => ?_)
  · have hF := (if_neg hc).symm.trans hF
    exact tl_M_goOn_139 C hF w hS (lv_sub hl [] rfl)
  · have hF := (if_pos hc).symm.trans hF
    refine lv_aload_n hx hb dc_M_goOn_67 rfl (lv_at hl 0 rfl) ?_
    refine lv_iload_n hx hb dc_M_goOn_68 rfl (lv_at hl 2 rfl) ?_
    refine lv_iconst (v := 1) hx hb dc_M_goOn_69 (by decide) ?_
    refine lv_iadd hx hb dc_M_goOn_70 ?_
    obtain ⟨u4, eu4, hF⟩ := pl_bd hF
    obtain ⟨q3, eq3, hF⟩ := pl_bd hF
    refine pl_gv (pl_runV (Cn := rn_M) (k := 1) C (tm_M_hashPart l D dA tt b n eq3) w hS rfl rfl mw_975 mw_977 mw_52 mw_72 mw_978 (by decide +kernel) ⟨by decide, by decide⟩ eu4 rfl (by decide) rfl hl.1 (Nat.le_of_ble_eq_true rfl) ⟨Nat.zero_le _, Nat.zero_le _⟩ rfl dc_M_goOn_71) hS (fun H locs w hS => ?_)
    refine lv_iconst (v := 0) hx hb dc_M_goOn_74 (by decide) ?_
    refine lv_istore (lv' := [(4, .int 0), (0, .ref a0), (1, .int x1), (2, .int x2)]) hx hb dc_M_goOn_75 hl (by decide) rfl (fun ls hl => ?_)
    exact tl_M_goOn_77 C pl_N q3 a0 x1 x2 0 _ _ _ hF w hS (lv_sub hl [1, 2, 3, 0] rfl)
set_option maxHeartbeats 4000000 in
set_option maxRecDepth 100000 in
theorem tl_M_goOn_34 {p : Program} {l : Launch} {e : Env} {s : State} {m : MethodId} {args : Array Value} {below : List Frame} {meth : Method} {c : Code} {D : va_G} {dA : Nat → ClassId} {tt : Nat → Nat} {b n : Nat} (C : pl_C p s m args meth c co_M_goOn 5 rn_M none "goOn" D dA tt b) {f' : pl_H} {f : pl_H} {a0 : Nat} {x1 : Int32} {x2 : Int32} {x3 : Int32} {H : Heap} {locs : List Loc} {ls : Array Slot} (hF : fn_M_goOn_34 f a0 x1 x2 x3 = some f') (w : pl_wd D vwCl dA b n f H) (hS : va_S (pl_A b) s.heap H locs) (hl : lv_has ls 5 [(0, .ref a0), (1, .int x1), (2, .int x2), (3, .int x3)]) : W p l e rm_M_goOn s m args below meth c H locs 0 0 (MQ below (pl_qV D dA tt b n f') args s 0 0 (pl_A b)) (F0 m 34 ls []) := by
  have hx := C.1
  have hb := C.2.1
  have hown := C.2.2.2.2.1
  have hts := C.2.2.2.2.2.2.1
  unfold fn_M_goOn_34 at hF
  refine lv_iload_n hx hb dc_M_goOn_34 rfl (lv_at hl 3 rfl) ?_
  refine lv_sipush (v := 160) hx hb dc_M_goOn_35 (by decide) ?_
  refine lv_icmp_ne hx hb dc_M_goOn_38 (tgt := 139) (by decide) (fun hc => ?_) (fun hc => ?_)
  · have hF := (if_neg hc).symm.trans hF
    exact tl_M_goOn_139 C hF w hS (lv_sub hl [] rfl)
  · have hF := (if_pos hc).symm.trans hF
    refine lv_aload_n hx hb dc_M_goOn_41 rfl (lv_at hl 0 rfl) ?_
    refine lv_iload_n hx hb dc_M_goOn_42 rfl (lv_at hl 2 rfl) ?_
    refine lv_iconst (v := 1) hx hb dc_M_goOn_43 (by decide) ?_
    refine lv_iadd hx hb dc_M_goOn_44 ?_
    refine lv_aload_n hx hb dc_M_goOn_45 rfl (lv_at hl 0 rfl) ?_
    obtain ⟨v1, ev1, hF⟩ := pl_bd hF
    refine pl_getI C w (ci := 8) in_M rfl (by decide) 16 (by decide) mw_713 ev1 dc_M_goOn_46 ?_
    refine lv_icmp_lt hx hb dc_M_goOn_49 (tgt := 56) (by decide) (fun hc => ?_) (fun hc => ?_)
    · have hF := (if_pos hc).symm.trans hF
      refine lv_iconst (v := 0) hx hb dc_M_goOn_56 (by decide) ?_
      exact tl_M_goOn_57 C hF w hS (lv_sub hl [0, 1, 2] rfl)
    · have hF := (if_neg hc).symm.trans hF
      refine lv_iconst (v := 1) hx hb dc_M_goOn_52 (by decide) ?_
      refine lv_goto hx hb dc_M_goOn_53 (tgt := 57) (by decide) ?_
      exact tl_M_goOn_57 C hF w hS (lv_sub hl [0, 1, 2] rfl)
set_option maxHeartbeats 4000000 in
set_option maxRecDepth 100000 in
theorem tl_M_goOn {p : Program} {l : Launch} {e : Env} {s : State} {m : MethodId} {args : Array Value} {below : List Frame} {meth : Method} {c : Code} {D : va_G} {dA : Nat → ClassId} {tt : Nat → Nat} {b n : Nat} (C : pl_C p s m args meth c co_M_goOn 5 rn_M none "goOn" D dA tt b) {f' : pl_H} {f : pl_H} {a0 : Nat} {x1 : Int32} {H : Heap} {locs : List Loc} {ls : Array Slot} (hF : fn_M_goOn f a0 x1 = some f') (w : pl_wd D vwCl dA b n f H) (hS : va_S (pl_A b) s.heap H locs) (hl : lv_has ls 5 [(0, .ref a0), (1, .int x1)]) : W p l e rm_M_goOn s m args below meth c H locs 0 0 (MQ below (pl_qV D dA tt b n f') args s 0 0 (pl_A b)) (F0 m 0 ls []) := by
  have hx := C.1
  have hb := C.2.1
  have hown := C.2.2.2.2.1
  have hts := C.2.2.2.2.2.2.1
  unfold fn_M_goOn at hF
  refine lv_aload_n hx hb dc_M_goOn_0 rfl (lv_at hl 0 rfl) ?_
  obtain ⟨v1, ev1, hF⟩ := pl_bd hF
  refine pl_getI C w (ci := 8) in_M rfl (by decide) 29 (by decide) mw_726 ev1 dc_M_goOn_1 ?_
  refine lv_istore_n (lv' := [(2, .int v1), (0, .ref a0), (1, .int x1)]) hx hb dc_M_goOn_4 rfl hl (by decide) rfl (fun ls hl => ?_)
  refine lv_aload_n hx hb dc_M_goOn_5 rfl (lv_at hl 1 rfl) ?_
  refine lv_iconst (v := (-1)) hx hb dc_M_goOn_6 (by decide) ?_
  obtain ⟨f2, ef2, hF⟩ := pl_bd hF
  refine pl_put C w hS (ci := 8) in_M rfl (by decide) rty_M_ok rnm_M 30 (by decide) mw_727 rfl rfl rfl ef2 dc_M_goOn_7 (fun H locs w hS => ?_)
  refine lv_iload_n hx hb dc_M_goOn_10 rfl (lv_at hl 2 rfl) ?_
  refine lv_if_ge hx hb dc_M_goOn_11 (tgt := 15) (by decide) (fun hc => ?_) (fun hc => ?_)
  · have hF := (if_pos hc).symm.trans hF
    refine lv_aload_n hx hb dc_M_goOn_15 rfl (lv_at hl 1 rfl) ?_
    refine lv_iload_n hx hb dc_M_goOn_16 rfl (lv_at hl 0 rfl) ?_
    refine lv_iload_n hx hb dc_M_goOn_17 rfl (lv_at hl 2 rfl) ?_
    obtain ⟨u4, eu4, hF⟩ := pl_bd hF
    obtain ⟨v3, ev3, hF⟩ := pl_bd hF
    refine pl_gi (pl_runV (Cn := rn_M) (k := 2) C (tm_M_byteOf l D dA tt b n ev3) w hS rfl rfl mw_987 mw_989 mw_55 mw_72 mw_990 (by decide +kernel) ⟨by decide, by decide⟩ eu4 rfl (by decide) rfl hl.1 (Nat.le_of_ble_eq_true rfl) ⟨Nat.zero_le _, Nat.zero_le _⟩ rfl dc_M_goOn_18) hS (fun H locs w hS => ?_)
    refine lv_istore_n (lv' := [(3, .int v3), (2, .int v1), (0, .ref a0), (1, .int x1)]) hx hb dc_M_goOn_21 rfl hl (by decide) rfl (fun ls hl => ?_)
    refine lv_iload_n hx hb dc_M_goOn_22 rfl (lv_at hl 0 rfl) ?_
    refine lv_sipush (v := 192) hx hb dc_M_goOn_23 (by decide) ?_
    refine lv_icmp_lt hx hb dc_M_goOn_26 (tgt := 34) (by decide) (fun hc => ?_) (fun hc => ?_)
    · have hF := (if_pos hc).symm.trans hF
      exact tl_M_goOn_34 C hF w hS (lv_sub hl [2, 3, 1, 0] rfl)
    · have hF := (if_neg hc).symm.trans hF
      refine lv_aload_n hx hb dc_M_goOn_29 rfl (lv_at hl 2 rfl) ?_
      refine lv_iload_n hx hb dc_M_goOn_30 rfl (lv_at hl 3 rfl) ?_
      obtain ⟨f5, ef5, hF⟩ := pl_bd hF
      refine pl_put C w hS (ci := 8) in_M rfl (by decide) rty_M_ok rnm_M 30 (by decide) mw_727 rfl rfl rfl ef5 dc_M_goOn_31 (fun H locs w hS => ?_)
      exact tl_M_goOn_34 C hF w hS (lv_sub hl [2, 3, 1, 0] rfl)
  · have hF := (if_neg hc).symm.trans hF
    exact pl_retVw C w hS hF dc_M_goOn_14
set_option maxHeartbeats 4000000 in
set_option maxRecDepth 100000 in
theorem tm_M_goOn (l : Launch) (D : va_G) (dA : Nat → ClassId) (tt : Nat → Nat) (b n : Nat) {f : pl_H} {a0 : Nat} {x1 : Int32} {f' : pl_H} (hF : fn_M_goOn f a0 x1 = some f') : Met l my_M_goOn (Cond.code my_M_goOn co_M_goOn 5 none :: pl_tb) rm_M_goOn (va_Pc [.ref a0, .int x1] (pl_pre D dA tt b n f)) (pl_qV D dA tt b n f') 0 0 (pl_A b) := by
  refine Met.ofW (cc := co_M_goOn) (maxL := 5) (ret := none) (by decide) rfl ?_
  intro p e s m args below meth c s₁ B hml hv
  obtain ⟨rfl, w, hK⟩ := hv
  have C : pl_C p s m _ meth c co_M_goOn 5 rn_M none "goOn" D dA tt b := ⟨B.exec, B.bytes, hml, B.returns, findClass_of_methodNamed B.named, B.notSynchronized, fun w hw => atoms_spec (ws := Cond.code my_M_goOn co_M_goOn 5 none :: pl_tb) B.pre w (List.mem_cons_of_mem _ hw), (name_of_methodNamed B.named B.method).1, hK⟩
  have hl := lv_entry ([.ref a0, .int x1]) (n := 5) (Nat.le_of_ble_eq_true rfl)
  rw [lg_entry_eq]
  generalize (lg_sl ([.ref a0, .int x1]) ++ List.replicate (5 - (lg_sl ([.ref a0, .int x1])).length) Slot.unset).toArray = ls at hl ⊢
  have hl : lv_has ls 5 [(0, .ref a0), (1, .int x1)] := hl
  exact tl_M_goOn C hF w va_S.rf hl
def rm_M_passNode : Room := { frames := 5, cells := 0, slots := 0, locals := 116 }
def fn_M_passNode_223 (f : pl_H) : Option (pl_H) := some f
def fn_M_passNode_207 (f : pl_H) (a0 : Nat) (x7 : Int32) : Option (pl_H) := (pl_gI f a0 8 31).bind fun v1 => (pl_pV f a0 8 31 (.int (v1 + 1))).bind fun f2 => (pl_is f2 a0 8).bind fun u4 => (fn_M_goOn f2 a0 x7).bind fun q3 => fn_M_passNode_223 q3
def fn_M_passNode_182 : Nat → pl_H → Nat → Int32 → Int32 → Int32 → Option (pl_H)
  | 0 => fun _ _ _ _ _ => none
  | k + 1 => fun f a0 x2 x7 x8 => if x8 ≤ 0 then fn_M_passNode_207 f a0 x7 else if x7 < 0 then fn_M_passNode_207 f a0 x7 else (pl_is f a0 8).bind fun u2 => (fn_M_itemEnd f a0 x2 x7).bind fun v1 => fn_M_passNode_182 k f a0 x2 v1 (x8 + (-1))
def fn_M_passNode_157 (f : pl_H) : Option (pl_H) := fn_M_passNode_223 f
def fn_M_passNode_154 (f : pl_H) (sx0 : Int32) (sa1 : Nat) : Option (pl_H) := (pl_pV f sa1 8 33 (.int sx0)).bind fun f1 => fn_M_passNode_157 f1
def fn_M_passNode_52 (f : pl_H) (a0 : Nat) (x1 : Int32) (x2 : Int32) (x3 : Int32) (x4 : Int32) (x5 : Int32) (sx0 : Int32) : Option (pl_H) := (pl_pV f a0 8 30 (.int ((-1)))).bind fun f1 => if 0 ≤ sx0 then (pl_is f1 a0 8).bind fun u3 => (fn_M_nodeBytes f1 a0 x2 x3).bind fun v2 => if sx0 = (x4 + v2) then (pl_gI f1 a0 8 31).bind fun v7 => (pl_is f1 a0 8).bind fun u9 => (fn_M_digitsOf f1 a0 x2 x4 x1 v7).bind fun v8 => if 0 ≤ v8 then (pl_gI f1 a0 8 31).bind fun v10 => (pl_pV f1 a0 8 31 (.int (v10 + v8))).bind fun f11 => (pl_is f11 a0 8).bind fun u13 => (fn_M_itemBytes f11 a0 x2 x4).bind fun v12 => (pl_is f11 a0 8).bind fun u15 => (fn_M_half f11 a0 x2 v12 0).bind fun v14 => if ((v14 / 2) - (v14 / 2) / 2 * 2) = 0 then (pl_is f11 a0 8).bind fun u18 => (fn_M_goOn f11 a0 x5).bind fun q17 => fn_M_passNode_157 q17 else (pl_gI f11 a0 8 31).bind fun v16 => if v16 = 4 then fn_M_passNode_154 f11 x5 a0 else fn_M_passNode_154 f11 ((-1)) a0 else some f1 else (pl_gI f1 a0 8 31).bind fun v4 => if 4 ≤ v4 then fn_M_passNode_223 f1 else (pl_gI f1 a0 8 31).bind fun v5 => (fn_M_digit f1 x1 v5).bind fun v6 => fn_M_passNode_182 pl_N f1 a0 x2 x4 v6 else some f1
def fn_M_passNode_34 (f : pl_H) (a0 : Nat) (x1 : Int32) (x2 : Int32) (x3 : Int32) (x4 : Int32) (sx0 : Int32) : Option (pl_H) := if 0 ≤ sx0 then (pl_is f a0 8).bind fun u2 => (fn_M_itemEnd f a0 x2 sx0).bind fun v1 => fn_M_passNode_52 f a0 x1 x2 x3 x4 sx0 v1 else fn_M_passNode_52 f a0 x1 x2 x3 x4 sx0 ((-1))
def fn_M_passNode (f : pl_H) (a0 : Nat) (x1 : Int32) : Option (pl_H) := (pl_gI f a0 8 29).bind fun v1 => (pl_gI f a0 8 30).bind fun v2 => (pl_is f a0 8).bind fun u4 => (fn_M_nodeItems f a0 v1 v2).bind fun v3 => if 0 ≤ v3 then (pl_is f a0 8).bind fun u6 => (fn_M_itemEnd f a0 v1 v3).bind fun v5 => fn_M_passNode_34 f a0 x1 v1 v2 v3 v5 else fn_M_passNode_34 f a0 x1 v1 v2 v3 ((-1))
set_option maxHeartbeats 4000000 in
set_option maxRecDepth 100000 in
theorem tl_M_passNode_223 {p : Program} {l : Launch} {e : Env} {s : State} {m : MethodId} {args : Array Value} {below : List Frame} {meth : Method} {c : Code} {D : va_G} {dA : Nat → ClassId} {tt : Nat → Nat} {b n : Nat} (C : pl_C p s m args meth c co_M_passNode 9 rn_M none "passNode" D dA tt b) {f' : pl_H} {f : pl_H} {H : Heap} {locs : List Loc} {ls : Array Slot} (hF : fn_M_passNode_223 f = some f') (w : pl_wd D vwCl dA b n f H) (hS : va_S (pl_A b) s.heap H locs) (hl : lv_has ls 9 []) : W p l e rm_M_passNode s m args below meth c H locs 0 0 (MQ below (pl_qV D dA tt b n f') args s 0 0 (pl_A b)) (F0 m 223 ls []) := by
  have hx := C.1
  have hb := C.2.1
  have hown := C.2.2.2.2.1
  have hts := C.2.2.2.2.2.2.1
  unfold fn_M_passNode_223 at hF
  exact pl_retVw C w hS hF dc_M_passNode_223
set_option maxHeartbeats 4000000 in
set_option maxRecDepth 100000 in
theorem tl_M_passNode_207 {p : Program} {l : Launch} {e : Env} {s : State} {m : MethodId} {args : Array Value} {below : List Frame} {meth : Method} {c : Code} {D : va_G} {dA : Nat → ClassId} {tt : Nat → Nat} {b n : Nat} (C : pl_C p s m args meth c co_M_passNode 9 rn_M none "passNode" D dA tt b) {f' : pl_H} {f : pl_H} {a0 : Nat} {x7 : Int32} {H : Heap} {locs : List Loc} {ls : Array Slot} (hF : fn_M_passNode_207 f a0 x7 = some f') (w : pl_wd D vwCl dA b n f H) (hS : va_S (pl_A b) s.heap H locs) (hl : lv_has ls 9 [(0, .ref a0), (7, .int x7)]) : W p l e rm_M_passNode s m args below meth c H locs 0 0 (MQ below (pl_qV D dA tt b n f') args s 0 0 (pl_A b)) (F0 m 207 ls []) := by
  have hx := C.1
  have hb := C.2.1
  have hown := C.2.2.2.2.1
  have hts := C.2.2.2.2.2.2.1
  unfold fn_M_passNode_207 at hF
  refine lv_aload_n hx hb dc_M_passNode_207 rfl (lv_at hl 0 rfl) ?_
  refine lv_dup hx hb dc_M_passNode_208 rfl ?_
  obtain ⟨v1, ev1, hF⟩ := pl_bd hF
  refine pl_getI C w (ci := 8) in_M rfl (by decide) 31 (by decide) mw_728 ev1 dc_M_passNode_209 ?_
  refine lv_iconst (v := 1) hx hb dc_M_passNode_212 (by decide) ?_
  refine lv_iadd hx hb dc_M_passNode_213 ?_
  obtain ⟨f2, ef2, hF⟩ := pl_bd hF
  refine pl_put C w hS (ci := 8) in_M rfl (by decide) rty_M_ok rnm_M 31 (by decide) mw_728 rfl rfl rfl ef2 dc_M_passNode_214 (fun H locs w hS => ?_)
  refine lv_aload_n hx hb dc_M_passNode_217 rfl (lv_at hl 0 rfl) ?_
  refine lv_iload hx hb dc_M_passNode_218 (lv_at hl 1 rfl) ?_
  obtain ⟨u4, eu4, hF⟩ := pl_bd hF
  obtain ⟨q3, eq3, hF⟩ := pl_bd hF
  refine pl_gv (pl_runV (Cn := rn_M) (k := 1) C (tm_M_goOn l D dA tt b n eq3) w hS rfl rfl mw_1011 mw_1013 mw_61 mw_72 mw_1014 (by decide +kernel) ⟨by decide, by decide⟩ eu4 rfl (by decide) rfl hl.1 (Nat.le_of_ble_eq_true rfl) ⟨Nat.zero_le _, Nat.zero_le _⟩ rfl dc_M_passNode_220) hS (fun H locs w hS => ?_)
  exact tl_M_passNode_223 C hF w hS (lv_sub hl [] rfl)
set_option maxHeartbeats 4000000 in
set_option maxRecDepth 100000 in
theorem tl_M_passNode_182 {p : Program} {l : Launch} {e : Env} {s : State} {m : MethodId} {args : Array Value} {below : List Frame} {meth : Method} {c : Code} {D : va_G} {dA : Nat → ClassId} {tt : Nat → Nat} {b n : Nat} (C : pl_C p s m args meth c co_M_passNode 9 rn_M none "passNode" D dA tt b) {f' : pl_H} : ∀ k : Nat, ∀ (f : pl_H) (a0 : Nat) (x2 : Int32) (x7 : Int32) (x8 : Int32) (H : Heap) (locs : List Loc) (ls : Array Slot), fn_M_passNode_182 k f a0 x2 x7 x8 = some f' → pl_wd D vwCl dA b n f H → va_S (pl_A b) s.heap H locs → lv_has ls 9 [(0, .ref a0), (2, .int x2), (7, .int x7), (8, .int x8)] → W p l e rm_M_passNode s m args below meth c H locs 0 0 (MQ below (pl_qV D dA tt b n f') args s 0 0 (pl_A b)) (F0 m 182 ls []) := by
  have hx := C.1
  have hb := C.2.1
  have hown := C.2.2.2.2.1
  have hts := C.2.2.2.2.2.2.1
  intro k
  induction k with
  | zero =>
    intro f a0 x2 x7 x8 H locs ls hF
    cases hF
  | succ k ih =>
    intro f a0 x2 x7 x8 H locs ls hF w hS hl
    unfold fn_M_passNode_182 at hF
    refine lv_iload hx hb dc_M_passNode_182 (lv_at hl 3 rfl) ?_
    refine lv_if_le hx hb dc_M_passNode_184 (tgt := 207) (by decide) (fun hc => ?_) (fun hc => ?_)
    · have hF := (if_pos hc).symm.trans hF
      exact tl_M_passNode_207 C hF w hS (lv_sub hl [0, 2] rfl)
    · have hF := (if_neg hc).symm.trans hF
      refine lv_iload hx hb dc_M_passNode_187 (lv_at hl 2 rfl) ?_
      refine lv_if_lt hx hb dc_M_passNode_189 (tgt := 207) (by decide) (fun hc => ?_) (fun hc => ?_)
      · have hF := (if_pos hc).symm.trans hF
        exact tl_M_passNode_207 C hF w hS (lv_sub hl [0, 2] rfl)
      · have hF := (if_neg hc).symm.trans hF
        refine lv_aload_n hx hb dc_M_passNode_192 rfl (lv_at hl 0 rfl) ?_
        refine lv_iload_n hx hb dc_M_passNode_193 rfl (lv_at hl 1 rfl) ?_
        refine lv_iload hx hb dc_M_passNode_194 (lv_at hl 2 rfl) ?_
        obtain ⟨u2, eu2, hF⟩ := pl_bd hF
        obtain ⟨v1, ev1, hF⟩ := pl_bd hF
        refine pl_gi (pl_runV (Cn := rn_M) (k := 2) C (tm_M_itemEnd l D dA tt b n ev1) w hS rfl rfl mw_991 mw_993 mw_56 mw_72 mw_994 (by decide +kernel) ⟨by decide, by decide⟩ eu2 rfl (by decide) rfl hl.1 (Nat.le_of_ble_eq_true rfl) ⟨Nat.zero_le _, Nat.zero_le _⟩ rfl dc_M_passNode_196) hS (fun H locs w hS => ?_)
        refine lv_istore (lv' := [(7, .int v1), (0, .ref a0), (2, .int x2), (8, .int x8)]) hx hb dc_M_passNode_199 hl (by decide) rfl (fun ls hl => ?_)
        refine lv_iinc (k := 3) (v := x8 + (-1)) (lv' := [(8, .int (x8 + (-1))), (7, .int v1), (0, .ref a0), (2, .int x2)]) hx hb dc_M_passNode_201 hl rfl rfl (by decide) rfl (fun ls hl => ?_)
        refine lv_goto hx hb dc_M_passNode_204 (tgt := 182) (by decide) ?_
        exact ih f a0 x2 v1 (x8 + (-1)) _ _ _ hF w hS (lv_sub hl [2, 3, 1, 0] rfl)
set_option maxHeartbeats 4000000 in
set_option maxRecDepth 100000 in
theorem tl_M_passNode_157 {p : Program} {l : Launch} {e : Env} {s : State} {m : MethodId} {args : Array Value} {below : List Frame} {meth : Method} {c : Code} {D : va_G} {dA : Nat → ClassId} {tt : Nat → Nat} {b n : Nat} (C : pl_C p s m args meth c co_M_passNode 9 rn_M none "passNode" D dA tt b) {f' : pl_H} {f : pl_H} {H : Heap} {locs : List Loc} {ls : Array Slot} (hF : fn_M_passNode_157 f = some f') (w : pl_wd D vwCl dA b n f H) (hS : va_S (pl_A b) s.heap H locs) (hl : lv_has ls 9 []) : W p l e rm_M_passNode s m args below meth c H locs 0 0 (MQ below (pl_qV D dA tt b n f') args s 0 0 (pl_A b)) (F0 m 157 ls []) := by
  have hx := C.1
  have hb := C.2.1
  have hown := C.2.2.2.2.1
  have hts := C.2.2.2.2.2.2.1
  unfold fn_M_passNode_157 at hF
  refine lv_goto hx hb dc_M_passNode_157 (tgt := 223) (by decide) ?_
  exact tl_M_passNode_223 C hF w hS (lv_sub hl [] rfl)
set_option maxHeartbeats 4000000 in
set_option maxRecDepth 100000 in
theorem tl_M_passNode_154 {p : Program} {l : Launch} {e : Env} {s : State} {m : MethodId} {args : Array Value} {below : List Frame} {meth : Method} {c : Code} {D : va_G} {dA : Nat → ClassId} {tt : Nat → Nat} {b n : Nat} (C : pl_C p s m args meth c co_M_passNode 9 rn_M none "passNode" D dA tt b) {f' : pl_H} {f : pl_H} {sx0 : Int32} {sa1 : Nat} {H : Heap} {locs : List Loc} {ls : Array Slot} (hF : fn_M_passNode_154 f sx0 sa1 = some f') (w : pl_wd D vwCl dA b n f H) (hS : va_S (pl_A b) s.heap H locs) (hl : lv_has ls 9 []) : W p l e rm_M_passNode s m args below meth c H locs 0 0 (MQ below (pl_qV D dA tt b n f') args s 0 0 (pl_A b)) (F0 m 154 ls [.int sx0, .ref sa1]) := by
  have hx := C.1
  have hb := C.2.1
  have hown := C.2.2.2.2.1
  have hts := C.2.2.2.2.2.2.1
  unfold fn_M_passNode_154 at hF
  obtain ⟨f1, ef1, hF⟩ := pl_bd hF
  refine pl_put C w hS (ci := 8) in_M rfl (by decide) rty_M_ok rnm_M 33 (by decide) mw_730 rfl rfl rfl ef1 dc_M_passNode_154 (fun H locs w hS => ?_)
  exact tl_M_passNode_157 C hF w hS (lv_sub hl [] rfl)
set_option maxHeartbeats 4000000 in
set_option maxRecDepth 100000 in
theorem tl_M_passNode_52 {p : Program} {l : Launch} {e : Env} {s : State} {m : MethodId} {args : Array Value} {below : List Frame} {meth : Method} {c : Code} {D : va_G} {dA : Nat → ClassId} {tt : Nat → Nat} {b n : Nat} (C : pl_C p s m args meth c co_M_passNode 9 rn_M none "passNode" D dA tt b) {f' : pl_H} {f : pl_H} {a0 : Nat} {x1 : Int32} {x2 : Int32} {x3 : Int32} {x4 : Int32} {x5 : Int32} {sx0 : Int32} {H : Heap} {locs : List Loc} {ls : Array Slot} (hF : fn_M_passNode_52 f a0 x1 x2 x3 x4 x5 sx0 = some f') (w : pl_wd D vwCl dA b n f H) (hS : va_S (pl_A b) s.heap H locs) (hl : lv_has ls 9 [(0, .ref a0), (1, .int x1), (2, .int x2), (3, .int x3), (4, .int x4), (5, .int x5)]) : W p l e rm_M_passNode s m args below meth c H locs 0 0 (MQ below (pl_qV D dA tt b n f') args s 0 0 (pl_A b)) (F0 m 52 ls [.int sx0]) := by
  have hx := C.1
  have hb := C.2.1
  have hown := C.2.2.2.2.1
  have hts := C.2.2.2.2.2.2.1
  unfold fn_M_passNode_52 at hF
  refine lv_istore (lv' := [(6, .int sx0), (0, .ref a0), (1, .int x1), (2, .int x2), (3, .int x3), (4, .int x4), (5, .int x5)]) hx hb dc_M_passNode_52 hl (by decide) rfl (fun ls hl => ?_)
  refine lv_aload_n hx hb dc_M_passNode_54 rfl (lv_at hl 1 rfl) ?_
  refine lv_iconst (v := (-1)) hx hb dc_M_passNode_55 (by decide) ?_
  obtain ⟨f1, ef1, hF⟩ := pl_bd hF
  refine pl_put C w hS (ci := 8) in_M rfl (by decide) rty_M_ok rnm_M 30 (by decide) mw_727 rfl rfl rfl ef1 dc_M_passNode_56 (fun H locs w hS => ?_)
  refine lv_iload hx hb dc_M_passNode_59 (lv_at hl 0 rfl) ?_
  refine lv_if_ge hx hb dc_M_passNode_61 (tgt := 65) (by decide) (fun hc => ?_) (fun hc => ?_)
  · have hF := (if_pos hc).symm.trans hF
    refine lv_iload hx hb dc_M_passNode_65 (lv_at hl 0 rfl) ?_
    refine lv_iload hx hb dc_M_passNode_67 (lv_at hl 5 rfl) ?_
    refine lv_aload_n hx hb dc_M_passNode_69 rfl (lv_at hl 1 rfl) ?_
    refine lv_iload_n hx hb dc_M_passNode_70 rfl (lv_at hl 3 rfl) ?_
    refine lv_iload_n hx hb dc_M_passNode_71 rfl (lv_at hl 4 rfl) ?_
    obtain ⟨u3, eu3, hF⟩ := pl_bd hF
    obtain ⟨v2, ev2, hF⟩ := pl_bd hF
    refine pl_gi (pl_runV (Cn := rn_M) (k := 2) C (tm_M_nodeBytes l D dA tt b n ev2) w hS rfl rfl mw_995 mw_997 mw_57 mw_72 mw_998 (by decide +kernel) ⟨by decide, by decide⟩ eu3 rfl (by decide) rfl hl.1 (Nat.le_of_ble_eq_true rfl) ⟨Nat.zero_le _, Nat.zero_le _⟩ rfl dc_M_passNode_72) hS (fun H locs w hS => ?_)
    refine lv_iadd hx hb dc_M_passNode_75 ?_
    refine lv_icmp_ne hx hb dc_M_passNode_76 (tgt := 160) (by decide) (fun hc => ?_) (fun hc => ?_)
    · have hF := (if_neg hc).symm.trans hF
      refine lv_aload_n hx hb dc_M_passNode_160 rfl (lv_at hl 1 rfl) ?_
      obtain ⟨v4, ev4, hF⟩ := pl_bd hF
      refine pl_getI C w (ci := 8) in_M rfl (by decide) 31 (by decide) mw_728 ev4 dc_M_passNode_161 ?_
      refine lv_iconst (v := 4) hx hb dc_M_passNode_164 (by decide) ?_
      refine lv_icmp_ge hx hb dc_M_passNode_165 (tgt := 223) (by decide) (fun hc => ?_) (fun hc => ?_)
      · have hF := (if_pos hc).symm.trans hF
        exact tl_M_passNode_223 C hF w hS (lv_sub hl [] rfl)
      · have hF := (if_neg hc).symm.trans hF
        refine lv_iload hx hb dc_M_passNode_168 (lv_at hl 5 rfl) ?_
        refine lv_istore (lv' := [(7, .int x4), (6, .int sx0), (0, .ref a0), (1, .int x1), (2, .int x2), (3, .int x3), (4, .int x4), (5, .int x5)]) hx hb dc_M_passNode_170 hl (by decide) rfl (fun ls hl => ?_)
        refine lv_iload_n hx hb dc_M_passNode_172 rfl (lv_at hl 3 rfl) ?_
        refine lv_aload_n hx hb dc_M_passNode_173 rfl (lv_at hl 2 rfl) ?_
        obtain ⟨v5, ev5, hF⟩ := pl_bd hF
        refine pl_getI C w (ci := 8) in_M rfl (by decide) 31 (by decide) mw_728 ev5 dc_M_passNode_174 ?_
        obtain ⟨v6, ev6, hF⟩ := pl_bd hF
        refine pl_gi (pl_runS (k := 2) C (tm_M_digit l D dA tt b n ev6) w hS rfl rfl mw_874 mw_875 mw_72 mw_876 (by decide +kernel) ⟨by decide, by decide⟩ rfl hl.1 (Nat.le_of_ble_eq_true rfl) ⟨Nat.zero_le _, Nat.zero_le _⟩ rfl dc_M_passNode_177) hS (fun H locs w hS => ?_)
        refine lv_istore (lv' := [(8, .int v6), (7, .int x4), (6, .int sx0), (0, .ref a0), (1, .int x1), (2, .int x2), (3, .int x3), (4, .int x4), (5, .int x5)]) hx hb dc_M_passNode_180 hl (by decide) rfl (fun ls hl => ?_)
        exact tl_M_passNode_182 C pl_N f1 a0 x2 x4 v6 _ _ _ hF w hS (lv_sub hl [3, 5, 1, 0] rfl)
    · have hF := (if_pos hc).symm.trans hF
      refine lv_aload_n hx hb dc_M_passNode_79 rfl (lv_at hl 1 rfl) ?_
      refine lv_iload_n hx hb dc_M_passNode_80 rfl (lv_at hl 3 rfl) ?_
      refine lv_iload hx hb dc_M_passNode_81 (lv_at hl 5 rfl) ?_
      refine lv_iload_n hx hb dc_M_passNode_83 rfl (lv_at hl 2 rfl) ?_
      refine lv_aload_n hx hb dc_M_passNode_84 rfl (lv_at hl 1 rfl) ?_
      obtain ⟨v7, ev7, hF⟩ := pl_bd hF
      refine pl_getI C w (ci := 8) in_M rfl (by decide) 31 (by decide) mw_728 ev7 dc_M_passNode_85 ?_
      obtain ⟨u9, eu9, hF⟩ := pl_bd hF
      obtain ⟨v8, ev8, hF⟩ := pl_bd hF
      refine pl_gi (pl_runV (Cn := rn_M) (k := 4) C (tm_M_digitsOf l D dA tt b n ev8) w hS rfl rfl mw_999 mw_1001 mw_58 mw_72 mw_1002 (by decide +kernel) ⟨by decide, by decide⟩ eu9 rfl (by decide) rfl hl.1 (Nat.le_of_ble_eq_true rfl) ⟨Nat.zero_le _, Nat.zero_le _⟩ rfl dc_M_passNode_88) hS (fun H locs w hS => ?_)
      refine lv_istore (lv' := [(7, .int v8), (6, .int sx0), (0, .ref a0), (1, .int x1), (2, .int x2), (3, .int x3), (4, .int x4), (5, .int x5)]) hx hb dc_M_passNode_91 hl (by decide) rfl (fun ls hl => ?_)
      refine lv_iload hx hb dc_M_passNode_93 (lv_at hl 0 rfl) ?_
      refine lv_if_ge hx hb dc_M_passNode_95 (tgt := 99) (by decide) (fun hc => ?_) (fun hc => ?_)
      · have hF := (if_pos hc).symm.trans hF
        refine lv_aload_n hx hb dc_M_passNode_99 rfl (lv_at hl 2 rfl) ?_
        refine lv_aload_n hx hb dc_M_passNode_100 rfl (lv_at hl 2 rfl) ?_
        obtain ⟨v10, ev10, hF⟩ := pl_bd hF
        refine pl_getI C w (ci := 8) in_M rfl (by decide) 31 (by decide) mw_728 ev10 dc_M_passNode_101 ?_
        refine lv_iload hx hb dc_M_passNode_104 (lv_at hl 0 rfl) ?_
        refine lv_iadd hx hb dc_M_passNode_106 ?_
        obtain ⟨f11, ef11, hF⟩ := pl_bd hF
        refine pl_put C w hS (ci := 8) in_M rfl (by decide) rty_M_ok rnm_M 31 (by decide) mw_728 rfl rfl rfl ef11 dc_M_passNode_107 (fun H locs w hS => ?_)
        refine lv_aload_n hx hb dc_M_passNode_110 rfl (lv_at hl 2 rfl) ?_
        refine lv_iload_n hx hb dc_M_passNode_111 rfl (lv_at hl 4 rfl) ?_
        refine lv_aload_n hx hb dc_M_passNode_112 rfl (lv_at hl 2 rfl) ?_
        refine lv_iload_n hx hb dc_M_passNode_113 rfl (lv_at hl 4 rfl) ?_
        refine lv_iload hx hb dc_M_passNode_114 (lv_at hl 6 rfl) ?_
        obtain ⟨u13, eu13, hF⟩ := pl_bd hF
        obtain ⟨v12, ev12, hF⟩ := pl_bd hF
        refine pl_gi (pl_runV (Cn := rn_M) (k := 2) C (tm_M_itemBytes l D dA tt b n ev12) w hS rfl rfl mw_1003 mw_1005 mw_59 mw_72 mw_1006 (by decide +kernel) ⟨by decide, by decide⟩ eu13 rfl (by decide) rfl hl.1 (Nat.le_of_ble_eq_true rfl) ⟨Nat.zero_le _, Nat.zero_le _⟩ rfl dc_M_passNode_116) hS (fun H locs w hS => ?_)
        refine lv_iconst (v := 0) hx hb dc_M_passNode_119 (by decide) ?_
        obtain ⟨u15, eu15, hF⟩ := pl_bd hF
        obtain ⟨v14, ev14, hF⟩ := pl_bd hF
        refine pl_gi (pl_runV (Cn := rn_M) (k := 3) C (tm_M_half l D dA tt b n ev14) w hS rfl rfl mw_1007 mw_1009 mw_60 mw_72 mw_1010 (by decide +kernel) ⟨by decide, by decide⟩ eu15 rfl (by decide) rfl hl.1 (Nat.le_of_ble_eq_true rfl) ⟨Nat.zero_le _, Nat.zero_le _⟩ rfl dc_M_passNode_120) hS (fun H locs w hS => ?_)
        refine lv_iconst (v := 2) hx hb dc_M_passNode_123 (by decide) ?_
        refine lv_idiv hx hb dc_M_passNode_124 (by decide) ?_
        refine lv_iconst (v := 2) hx hb dc_M_passNode_125 (by decide) ?_
        refine lv_irem hx hb dc_M_passNode_126 (by decide) ?_
        refine lv_if_ne hx hb dc_M_passNode_127 (tgt := 139) (by decide) (fun hc => ?_) (fun hc => ?_)
        · have hF := (if_neg hc).symm.trans hF
          refine lv_aload_n hx hb dc_M_passNode_139 rfl (lv_at hl 2 rfl) ?_
          refine lv_aload_n hx hb dc_M_passNode_140 rfl (lv_at hl 2 rfl) ?_
          obtain ⟨v16, ev16, hF⟩ := pl_bd hF
          refine pl_getI C w (ci := 8) in_M rfl (by decide) 31 (by decide) mw_728 ev16 dc_M_passNode_141 ?_
          refine lv_iconst (v := 4) hx hb dc_M_passNode_144 (by decide) ?_
          refine lv_icmp_ne hx hb dc_M_passNode_145 (tgt := 153) (by decide) (fun hc => ?_) (fun hc => ?_)
          · have hF := (if_neg hc).symm.trans hF
            refine lv_iconst (v := (-1)) hx hb dc_M_passNode_153 (by decide) ?_
            exact tl_M_passNode_154 C hF w hS (lv_sub hl [] rfl)
          · have hF := (if_pos hc).symm.trans hF
            refine lv_iload hx hb dc_M_passNode_148 (lv_at hl 7 rfl) ?_
            refine lv_goto hx hb dc_M_passNode_150 (tgt := 154) (by decide) ?_
            exact tl_M_passNode_154 C hF w hS (lv_sub hl [] rfl)
        · have hF := (if_pos hc).symm.trans hF
          refine lv_aload_n hx hb dc_M_passNode_130 rfl (lv_at hl 2 rfl) ?_
          refine lv_iload hx hb dc_M_passNode_131 (lv_at hl 7 rfl) ?_
          obtain ⟨u18, eu18, hF⟩ := pl_bd hF
          obtain ⟨q17, eq17, hF⟩ := pl_bd hF
          refine pl_gv (pl_runV (Cn := rn_M) (k := 1) C (tm_M_goOn l D dA tt b n eq17) w hS rfl rfl mw_1011 mw_1013 mw_61 mw_72 mw_1014 (by decide +kernel) ⟨by decide, by decide⟩ eu18 rfl (by decide) rfl hl.1 (Nat.le_of_ble_eq_true rfl) ⟨Nat.zero_le _, Nat.zero_le _⟩ rfl dc_M_passNode_133) hS (fun H locs w hS => ?_)
          refine lv_goto hx hb dc_M_passNode_136 (tgt := 157) (by decide) ?_
          exact tl_M_passNode_157 C hF w hS (lv_sub hl [] rfl)
      · have hF := (if_neg hc).symm.trans hF
        exact pl_retVw C w hS hF dc_M_passNode_98
  · have hF := (if_neg hc).symm.trans hF
    exact pl_retVw C w hS hF dc_M_passNode_64
set_option maxHeartbeats 4000000 in
set_option maxRecDepth 100000 in
theorem tl_M_passNode_34 {p : Program} {l : Launch} {e : Env} {s : State} {m : MethodId} {args : Array Value} {below : List Frame} {meth : Method} {c : Code} {D : va_G} {dA : Nat → ClassId} {tt : Nat → Nat} {b n : Nat} (C : pl_C p s m args meth c co_M_passNode 9 rn_M none "passNode" D dA tt b) {f' : pl_H} {f : pl_H} {a0 : Nat} {x1 : Int32} {x2 : Int32} {x3 : Int32} {x4 : Int32} {sx0 : Int32} {H : Heap} {locs : List Loc} {ls : Array Slot} (hF : fn_M_passNode_34 f a0 x1 x2 x3 x4 sx0 = some f') (w : pl_wd D vwCl dA b n f H) (hS : va_S (pl_A b) s.heap H locs) (hl : lv_has ls 9 [(0, .ref a0), (1, .int x1), (2, .int x2), (3, .int x3), (4, .int x4)]) : W p l e rm_M_passNode s m args below meth c H locs 0 0 (MQ below (pl_qV D dA tt b n f') args s 0 0 (pl_A b)) (F0 m 34 ls [.int sx0]) := by
  have hx := C.1
  have hb := C.2.1
  have hown := C.2.2.2.2.1
  have hts := C.2.2.2.2.2.2.1
  unfold fn_M_passNode_34 at hF
  refine lv_istore (lv' := [(5, .int sx0), (0, .ref a0), (1, .int x1), (2, .int x2), (3, .int x3), (4, .int x4)]) hx hb dc_M_passNode_34 hl (by decide) rfl (fun ls hl => ?_)
  refine lv_iload hx hb dc_M_passNode_36 (lv_at hl 0 rfl) ?_
  refine lv_if_ge hx hb dc_M_passNode_38 (tgt := 45) (by decide) (fun hc => ?_) (fun hc => ?_)
  · have hF := (if_pos hc).symm.trans hF
    refine lv_aload_n hx hb dc_M_passNode_45 rfl (lv_at hl 1 rfl) ?_
    refine lv_iload_n hx hb dc_M_passNode_46 rfl (lv_at hl 3 rfl) ?_
    refine lv_iload hx hb dc_M_passNode_47 (lv_at hl 0 rfl) ?_
    obtain ⟨u2, eu2, hF⟩ := pl_bd hF
    obtain ⟨v1, ev1, hF⟩ := pl_bd hF
    refine pl_gi (pl_runV (Cn := rn_M) (k := 2) C (tm_M_itemEnd l D dA tt b n ev1) w hS rfl rfl mw_991 mw_993 mw_56 mw_72 mw_994 (by decide +kernel) ⟨by decide, by decide⟩ eu2 rfl (by decide) rfl hl.1 (Nat.le_of_ble_eq_true rfl) ⟨Nat.zero_le _, Nat.zero_le _⟩ rfl dc_M_passNode_49) hS (fun H locs w hS => ?_)
    exact tl_M_passNode_52 C hF w hS (lv_sub hl [1, 2, 3, 4, 5, 0] rfl)
  · have hF := (if_neg hc).symm.trans hF
    refine lv_iconst (v := (-1)) hx hb dc_M_passNode_41 (by decide) ?_
    refine lv_goto hx hb dc_M_passNode_42 (tgt := 52) (by decide) ?_
    exact tl_M_passNode_52 C hF w hS (lv_sub hl [1, 2, 3, 4, 5, 0] rfl)
set_option maxHeartbeats 4000000 in
set_option maxRecDepth 100000 in
theorem tl_M_passNode {p : Program} {l : Launch} {e : Env} {s : State} {m : MethodId} {args : Array Value} {below : List Frame} {meth : Method} {c : Code} {D : va_G} {dA : Nat → ClassId} {tt : Nat → Nat} {b n : Nat} (C : pl_C p s m args meth c co_M_passNode 9 rn_M none "passNode" D dA tt b) {f' : pl_H} {f : pl_H} {a0 : Nat} {x1 : Int32} {H : Heap} {locs : List Loc} {ls : Array Slot} (hF : fn_M_passNode f a0 x1 = some f') (w : pl_wd D vwCl dA b n f H) (hS : va_S (pl_A b) s.heap H locs) (hl : lv_has ls 9 [(0, .ref a0), (1, .int x1)]) : W p l e rm_M_passNode s m args below meth c H locs 0 0 (MQ below (pl_qV D dA tt b n f') args s 0 0 (pl_A b)) (F0 m 0 ls []) := by
  have hx := C.1
  have hb := C.2.1
  have hown := C.2.2.2.2.1
  have hts := C.2.2.2.2.2.2.1
  unfold fn_M_passNode at hF
  refine lv_aload_n hx hb dc_M_passNode_0 rfl (lv_at hl 0 rfl) ?_
  obtain ⟨v1, ev1, hF⟩ := pl_bd hF
  refine pl_getI C w (ci := 8) in_M rfl (by decide) 29 (by decide) mw_726 ev1 dc_M_passNode_1 ?_
  refine lv_istore_n (lv' := [(2, .int v1), (0, .ref a0), (1, .int x1)]) hx hb dc_M_passNode_4 rfl hl (by decide) rfl (fun ls hl => ?_)
  refine lv_aload_n hx hb dc_M_passNode_5 rfl (lv_at hl 1 rfl) ?_
  obtain ⟨v2, ev2, hF⟩ := pl_bd hF
  refine pl_getI C w (ci := 8) in_M rfl (by decide) 30 (by decide) mw_727 ev2 dc_M_passNode_6 ?_
  refine lv_istore_n (lv' := [(3, .int v2), (2, .int v1), (0, .ref a0), (1, .int x1)]) hx hb dc_M_passNode_9 rfl hl (by decide) rfl (fun ls hl => ?_)
  refine lv_aload_n hx hb dc_M_passNode_10 rfl (lv_at hl 2 rfl) ?_
  refine lv_iload_n hx hb dc_M_passNode_11 rfl (lv_at hl 1 rfl) ?_
  refine lv_iload_n hx hb dc_M_passNode_12 rfl (lv_at hl 0 rfl) ?_
  obtain ⟨u4, eu4, hF⟩ := pl_bd hF
  obtain ⟨v3, ev3, hF⟩ := pl_bd hF
  refine pl_gi (pl_runV (Cn := rn_M) (k := 2) C (tm_M_nodeItems l D dA tt b n ev3) w hS rfl rfl mw_983 mw_985 mw_54 mw_72 mw_986 (by decide +kernel) ⟨by decide, by decide⟩ eu4 rfl (by decide) rfl hl.1 (Nat.le_of_ble_eq_true rfl) ⟨Nat.zero_le _, Nat.zero_le _⟩ rfl dc_M_passNode_13) hS (fun H locs w hS => ?_)
  refine lv_istore (lv' := [(4, .int v3), (3, .int v2), (2, .int v1), (0, .ref a0), (1, .int x1)]) hx hb dc_M_passNode_16 hl (by decide) rfl (fun ls hl => ?_)
  refine lv_iload hx hb dc_M_passNode_18 (lv_at hl 0 rfl) ?_
  refine lv_if_ge hx hb dc_M_passNode_20 (tgt := 27) (by decide) (fun hc => ?_) (fun hc => ?_)
  · have hF := (if_pos hc).symm.trans hF
    refine lv_aload_n hx hb dc_M_passNode_27 rfl (lv_at hl 3 rfl) ?_
    refine lv_iload_n hx hb dc_M_passNode_28 rfl (lv_at hl 2 rfl) ?_
    refine lv_iload hx hb dc_M_passNode_29 (lv_at hl 0 rfl) ?_
    obtain ⟨u6, eu6, hF⟩ := pl_bd hF
    obtain ⟨v5, ev5, hF⟩ := pl_bd hF
    refine pl_gi (pl_runV (Cn := rn_M) (k := 2) C (tm_M_itemEnd l D dA tt b n ev5) w hS rfl rfl mw_991 mw_993 mw_56 mw_72 mw_994 (by decide +kernel) ⟨by decide, by decide⟩ eu6 rfl (by decide) rfl hl.1 (Nat.le_of_ble_eq_true rfl) ⟨Nat.zero_le _, Nat.zero_le _⟩ rfl dc_M_passNode_31) hS (fun H locs w hS => ?_)
    exact tl_M_passNode_34 C hF w hS (lv_sub hl [3, 4, 2, 1, 0] rfl)
  · have hF := (if_neg hc).symm.trans hF
    refine lv_iconst (v := (-1)) hx hb dc_M_passNode_23 (by decide) ?_
    refine lv_goto hx hb dc_M_passNode_24 (tgt := 34) (by decide) ?_
    exact tl_M_passNode_34 C hF w hS (lv_sub hl [3, 4, 2, 1, 0] rfl)
set_option maxHeartbeats 4000000 in
set_option maxRecDepth 100000 in
theorem tm_M_passNode (l : Launch) (D : va_G) (dA : Nat → ClassId) (tt : Nat → Nat) (b n : Nat) {f : pl_H} {a0 : Nat} {x1 : Int32} {f' : pl_H} (hF : fn_M_passNode f a0 x1 = some f') : Met l my_M_passNode (Cond.code my_M_passNode co_M_passNode 9 none :: pl_tb) rm_M_passNode (va_Pc [.ref a0, .int x1] (pl_pre D dA tt b n f)) (pl_qV D dA tt b n f') 0 0 (pl_A b) := by
  refine Met.ofW (cc := co_M_passNode) (maxL := 9) (ret := none) (by decide) rfl ?_
  intro p e s m args below meth c s₁ B hml hv
  obtain ⟨rfl, w, hK⟩ := hv
  have C : pl_C p s m _ meth c co_M_passNode 9 rn_M none "passNode" D dA tt b := ⟨B.exec, B.bytes, hml, B.returns, findClass_of_methodNamed B.named, B.notSynchronized, fun w hw => atoms_spec (ws := Cond.code my_M_passNode co_M_passNode 9 none :: pl_tb) B.pre w (List.mem_cons_of_mem _ hw), (name_of_methodNamed B.named B.method).1, hK⟩
  have hl := lv_entry ([.ref a0, .int x1]) (n := 9) (Nat.le_of_ble_eq_true rfl)
  rw [lg_entry_eq]
  generalize (lg_sl ([.ref a0, .int x1]) ++ List.replicate (9 - (lg_sl ([.ref a0, .int x1])).length) Slot.unset).toArray = ls at hl ⊢
  have hl : lv_has ls 9 [(0, .ref a0), (1, .int x1)] := hl
  exact tl_M_passNode C hF w va_S.rf hl
def rm_M_check : Room := { frames := 6, cells := 0, slots := 0, locals := 144 }
def fn_M_check_147 (f : pl_H) : Option (Int32 × pl_H) := some ((-1), f)
def fn_M_check_127 (f : pl_H) (a0 : Nat) : Option (Int32 × pl_H) := (pl_gI f a0 8 32).bind fun v1 => if v1 = 0 then (pl_gI f a0 8 29).bind fun v2 => (pl_gI f a0 8 16).bind fun v3 => if (v2 + 1) = v3 then (pl_gI f a0 8 33).bind fun v4 => if 0 ≤ v4 then (pl_gI f a0 8 29).bind fun v5 => (pl_gI f a0 8 33).bind fun v6 => (pl_is f a0 8).bind fun u8 => (fn_M_itemBytes f a0 v5 v6).bind fun v7 => (pl_gI f a0 8 29).bind fun v9 => (pl_is f a0 8).bind fun u11 => (fn_M_itemNumber f a0 v9 (v7 + 1)).bind fun v10 => (pl_pV f a0 8 19 (.long v10)).bind fun f12 => (pl_gI f12 a0 8 29).bind fun v13 => (pl_gI f12 a0 8 29).bind fun v14 => (pl_is f12 a0 8).bind fun u16 => (fn_M_itemEnd f12 a0 v14 (v7 + 1)).bind fun v15 => (pl_is f12 a0 8).bind fun u18 => (fn_M_itemNumber f12 a0 v13 v15).bind fun v17 => (pl_pV f12 a0 8 20 (.long v17)).bind fun f19 => some (1, f19) else some (0, f) else fn_M_check_147 f else fn_M_check_147 f
def fn_M_check_105 : Nat → pl_H → Nat → Int32 → Option (Int32 × pl_H)
  | 0 => fun _ _ _ => none
  | k + 1 => fun f a0 x1 => (pl_gI f a0 8 32).bind fun v1 => if v1 = 0 then (pl_gI f a0 8 30).bind fun v2 => if v2 < 0 then fn_M_check_127 f a0 else (pl_is f a0 8).bind fun u4 => (fn_M_passNode f a0 x1).bind fun q3 => fn_M_check_105 k q3 a0 x1 else fn_M_check_127 f a0
def fn_M_check_76 (rc42 : pl_H → Nat → Int32 → Int32 → Option (Int32 × pl_H)) (f : pl_H) (a0 : Nat) (x1 : Int32) (x2 : Int32) (sx0 : Int32) (sa1 : Nat) : Option (Int32 × pl_H) := (pl_pZ f sa1 8 32 sx0).bind fun f1 => rc42 f1 a0 x1 (x2 + 1)
def fn_M_check_71 (rc42 : pl_H → Nat → Int32 → Int32 → Option (Int32 × pl_H)) (f : pl_H) (a0 : Nat) (x1 : Int32) (x2 : Int32) (sa0 : Nat) : Option (Int32 × pl_H) := fn_M_check_76 rc42 f a0 x1 x2 1 sa0
def fn_M_check_42 : Nat → pl_H → Nat → Int32 → Int32 → Option (Int32 × pl_H)
  | 0 => fun _ _ _ _ => none
  | k + 1 => fun f a0 x1 x2 => if 32 ≤ x2 then (pl_pV f a0 8 29 (.int 0)).bind fun f1 => (pl_pV f1 a0 8 30 (.int 0)).bind fun f2 => (pl_pV f2 a0 8 31 (.int 0)).bind fun f3 => (pl_pV f3 a0 8 33 (.int ((-1)))).bind fun f4 => fn_M_check_105 pl_N f4 a0 x1 else (pl_gI f a0 8 32).bind fun v5 => if v5 = 0 then (pl_gR f a0 8 27).bind fun v6 => (pl_aI f v6 x2).bind fun v7 => (pl_gR f a0 8 28).bind fun v8 => (pl_aI f v8 x2).bind fun v9 => if v7 = v9 then fn_M_check_76 (fn_M_check_42 k) f a0 x1 x2 0 a0 else fn_M_check_71 (fn_M_check_42 k) f a0 x1 x2 a0 else fn_M_check_71 (fn_M_check_42 k) f a0 x1 x2 a0
def fn_M_check_24 (f : pl_H) : Option (Int32 × pl_H) := some ((-1), f)
def fn_M_check (f : pl_H) (a0 : Nat) (x1 : Int32) : Option (Int32 × pl_H) := (pl_pV f a0 8 19 (.long 0)).bind fun f1 => (pl_pV f1 a0 8 20 (.long 0)).bind fun f2 => (fn_M_isAccount f2 x1).bind fun v3 => if v3 = 0 then fn_M_check_24 f2 else (pl_gI f2 a0 8 16).bind fun v4 => if v4 = 0 then fn_M_check_24 f2 else (pl_is f2 a0 8).bind fun u6 => (fn_M_work f2 a0).bind fun q5 => (pl_is q5 a0 8).bind fun u8 => (fn_M_hashPart q5 a0 0).bind fun q7 => (pl_pV q7 a0 8 32 (.int 0)).bind fun f9 => fn_M_check_42 pl_N f9 a0 x1 0
set_option maxHeartbeats 4000000 in
set_option maxRecDepth 100000 in
theorem tl_M_check_147 {p : Program} {l : Launch} {e : Env} {s : State} {m : MethodId} {args : Array Value} {below : List Frame} {meth : Method} {c : Code} {D : va_G} {dA : Nat → ClassId} {tt : Nat → Nat} {b n : Nat} (C : pl_C p s m args meth c co_M_check 3 rn_M (some .int) "check" D dA tt b) {r : Int32} {f' : pl_H} {f : pl_H} {H : Heap} {locs : List Loc} {ls : Array Slot} (hF : fn_M_check_147 f = some (r, f')) (w : pl_wd D vwCl dA b n f H) (hS : va_S (pl_A b) s.heap H locs) (hl : lv_has ls 3 []) : W p l e rm_M_check s m args below meth c H locs 0 0 (MQ below (pl_qI D dA tt b n f' r) args s 0 0 (pl_A b)) (F0 m 147 ls []) := by
  have hx := C.1
  have hb := C.2.1
  have hown := C.2.2.2.2.1
  have hts := C.2.2.2.2.2.2.1
  unfold fn_M_check_147 at hF
  refine lv_iconst (v := (-1)) hx hb dc_M_check_147 (by decide) ?_
  exact pl_retIw C w hS hF dc_M_check_148
set_option maxHeartbeats 4000000 in
set_option maxRecDepth 100000 in
theorem tl_M_check_127 {p : Program} {l : Launch} {e : Env} {s : State} {m : MethodId} {args : Array Value} {below : List Frame} {meth : Method} {c : Code} {D : va_G} {dA : Nat → ClassId} {tt : Nat → Nat} {b n : Nat} (C : pl_C p s m args meth c co_M_check 3 rn_M (some .int) "check" D dA tt b) {r : Int32} {f' : pl_H} {f : pl_H} {a0 : Nat} {H : Heap} {locs : List Loc} {ls : Array Slot} (hF : fn_M_check_127 f a0 = some (r, f')) (w : pl_wd D vwCl dA b n f H) (hS : va_S (pl_A b) s.heap H locs) (hl : lv_has ls 3 [(0, .ref a0)]) : W p l e rm_M_check s m args below meth c H locs 0 0 (MQ below (pl_qI D dA tt b n f' r) args s 0 0 (pl_A b)) (F0 m 127 ls []) := by
  have hx := C.1
  have hb := C.2.1
  have hown := C.2.2.2.2.1
  have hts := C.2.2.2.2.2.2.1
  unfold fn_M_check_127 at hF
  refine lv_aload_n hx hb dc_M_check_127 rfl (lv_at hl 0 rfl) ?_
  obtain ⟨v1, ev1, hF⟩ := pl_bd hF
  refine pl_getI C w (ci := 8) in_M rfl (by decide) 32 (by decide) mw_729 ev1 dc_M_check_128 ?_
  refine lv_if_ne hx hb dc_M_check_131 (tgt := 147) (by decide) (fun hc => ?_) (fun hc => ?_)
  · have hF := (if_neg hc).symm.trans hF
    exact tl_M_check_147 C hF w hS (lv_sub hl [] rfl)
  · have hF := (if_pos hc).symm.trans hF
    refine lv_aload_n hx hb dc_M_check_134 rfl (lv_at hl 0 rfl) ?_
    obtain ⟨v2, ev2, hF⟩ := pl_bd hF
    refine pl_getI C w (ci := 8) in_M rfl (by decide) 29 (by decide) mw_726 ev2 dc_M_check_135 ?_
    refine lv_iconst (v := 1) hx hb dc_M_check_138 (by decide) ?_
    refine lv_iadd hx hb dc_M_check_139 ?_
    refine lv_aload_n hx hb dc_M_check_140 rfl (lv_at hl 0 rfl) ?_
    obtain ⟨v3, ev3, hF⟩ := pl_bd hF
    refine pl_getI C w (ci := 8) in_M rfl (by decide) 16 (by decide) mw_713 ev3 dc_M_check_141 ?_
    refine lv_icmp_eq hx hb dc_M_check_144 (tgt := 149) (by decide) (fun hc => ?_) (fun hc => ?_)
    · have hF := (if_pos hc).symm.trans hF
      refine lv_aload_n hx hb dc_M_check_149 rfl (lv_at hl 0 rfl) ?_
      obtain ⟨v4, ev4, hF⟩ := pl_bd hF
      refine pl_getI C w (ci := 8) in_M rfl (by decide) 33 (by decide) mw_730 ev4 dc_M_check_150 ?_
      refine lv_if_ge hx hb dc_M_check_153 (tgt := 158) (by decide) (fun hc => ?_) (fun hc => ?_)
      · have hF := (if_pos hc).symm.trans hF
        refine lv_aload_n hx hb dc_M_check_158 rfl (lv_at hl 0 rfl) ?_
        refine lv_aload_n hx hb dc_M_check_159 rfl (lv_at hl 0 rfl) ?_
        obtain ⟨v5, ev5, hF⟩ := pl_bd hF
        refine pl_getI C w (ci := 8) in_M rfl (by decide) 29 (by decide) mw_726 ev5 dc_M_check_160 ?_
        refine lv_aload_n hx hb dc_M_check_163 rfl (lv_at hl 0 rfl) ?_
        obtain ⟨v6, ev6, hF⟩ := pl_bd hF
        refine pl_getI C w (ci := 8) in_M rfl (by decide) 33 (by decide) mw_730 ev6 dc_M_check_164 ?_
        obtain ⟨u8, eu8, hF⟩ := pl_bd hF
        obtain ⟨v7, ev7, hF⟩ := pl_bd hF
        refine pl_gi (pl_runV (Cn := rn_M) (k := 2) C (tm_M_itemBytes l D dA tt b n ev7) w hS rfl rfl mw_1003 mw_1005 mw_59 mw_72 mw_1006 (by decide +kernel) ⟨by decide, by decide⟩ eu8 rfl (by decide) rfl hl.1 (Nat.le_of_ble_eq_true rfl) ⟨Nat.zero_le _, Nat.zero_le _⟩ rfl dc_M_check_167) hS (fun H locs w hS => ?_)
        refine lv_iconst (v := 1) hx hb dc_M_check_170 (by decide) ?_
        refine lv_iadd hx hb dc_M_check_171 ?_
        refine lv_istore_n (lv' := [(2, .int (v7 + 1)), (0, .ref a0)]) hx hb dc_M_check_172 rfl hl (by decide) rfl (fun ls hl => ?_)
        refine lv_aload_n hx hb dc_M_check_173 rfl (lv_at hl 1 rfl) ?_
        refine lv_aload_n hx hb dc_M_check_174 rfl (lv_at hl 1 rfl) ?_
        refine lv_aload_n hx hb dc_M_check_175 rfl (lv_at hl 1 rfl) ?_
        obtain ⟨v9, ev9, hF⟩ := pl_bd hF
        refine pl_getI C w (ci := 8) in_M rfl (by decide) 29 (by decide) mw_726 ev9 dc_M_check_176 ?_
        refine lv_iload_n hx hb dc_M_check_179 rfl (lv_at hl 0 rfl) ?_
        obtain ⟨u11, eu11, hF⟩ := pl_bd hF
        obtain ⟨v10, ev10, hF⟩ := pl_bd hF
        refine pl_gl (pl_runV (Cn := rn_M) (k := 2) C (tm_M_itemNumber l D dA tt b n ev10) w hS rfl rfl mw_1015 mw_1017 mw_62 mw_72 mw_1018 (by decide +kernel) ⟨by decide, by decide⟩ eu11 rfl (by decide) rfl hl.1 (Nat.le_of_ble_eq_true rfl) ⟨Nat.zero_le _, Nat.zero_le _⟩ rfl dc_M_check_180) hS (fun H locs w hS => ?_)
        obtain ⟨f12, ef12, hF⟩ := pl_bd hF
        refine pl_put C w hS (ci := 8) in_M rfl (by decide) rty_M_ok rnm_M 19 (by decide) mw_716 rfl rfl rfl ef12 dc_M_check_183 (fun H locs w hS => ?_)
        refine lv_aload_n hx hb dc_M_check_186 rfl (lv_at hl 1 rfl) ?_
        refine lv_aload_n hx hb dc_M_check_187 rfl (lv_at hl 1 rfl) ?_
        refine lv_aload_n hx hb dc_M_check_188 rfl (lv_at hl 1 rfl) ?_
        obtain ⟨v13, ev13, hF⟩ := pl_bd hF
        refine pl_getI C w (ci := 8) in_M rfl (by decide) 29 (by decide) mw_726 ev13 dc_M_check_189 ?_
        refine lv_aload_n hx hb dc_M_check_192 rfl (lv_at hl 1 rfl) ?_
        refine lv_aload_n hx hb dc_M_check_193 rfl (lv_at hl 1 rfl) ?_
        obtain ⟨v14, ev14, hF⟩ := pl_bd hF
        refine pl_getI C w (ci := 8) in_M rfl (by decide) 29 (by decide) mw_726 ev14 dc_M_check_194 ?_
        refine lv_iload_n hx hb dc_M_check_197 rfl (lv_at hl 0 rfl) ?_
        obtain ⟨u16, eu16, hF⟩ := pl_bd hF
        obtain ⟨v15, ev15, hF⟩ := pl_bd hF
        refine pl_gi (pl_runV (Cn := rn_M) (k := 2) C (tm_M_itemEnd l D dA tt b n ev15) w hS rfl rfl mw_991 mw_993 mw_56 mw_72 mw_994 (by decide +kernel) ⟨by decide, by decide⟩ eu16 rfl (by decide) rfl hl.1 (Nat.le_of_ble_eq_true rfl) ⟨Nat.zero_le _, Nat.zero_le _⟩ rfl dc_M_check_198) hS (fun H locs w hS => ?_)
        obtain ⟨u18, eu18, hF⟩ := pl_bd hF
        obtain ⟨v17, ev17, hF⟩ := pl_bd hF
        refine pl_gl (pl_runV (Cn := rn_M) (k := 2) C (tm_M_itemNumber l D dA tt b n ev17) w hS rfl rfl mw_1015 mw_1017 mw_62 mw_72 mw_1018 (by decide +kernel) ⟨by decide, by decide⟩ eu18 rfl (by decide) rfl hl.1 (Nat.le_of_ble_eq_true rfl) ⟨Nat.zero_le _, Nat.zero_le _⟩ rfl dc_M_check_201) hS (fun H locs w hS => ?_)
        obtain ⟨f19, ef19, hF⟩ := pl_bd hF
        refine pl_put C w hS (ci := 8) in_M rfl (by decide) rty_M_ok rnm_M 20 (by decide) mw_717 rfl rfl rfl ef19 dc_M_check_204 (fun H locs w hS => ?_)
        refine lv_iconst (v := 1) hx hb dc_M_check_207 (by decide) ?_
        exact pl_retIw C w hS hF dc_M_check_208
      · have hF := (if_neg hc).symm.trans hF
        refine lv_iconst (v := 0) hx hb dc_M_check_156 (by decide) ?_
        exact pl_retIw C w hS hF dc_M_check_157
    · have hF := (if_neg hc).symm.trans hF
      exact tl_M_check_147 C hF w hS (lv_sub hl [] rfl)
set_option maxHeartbeats 4000000 in
set_option maxRecDepth 100000 in
theorem tl_M_check_105 {p : Program} {l : Launch} {e : Env} {s : State} {m : MethodId} {args : Array Value} {below : List Frame} {meth : Method} {c : Code} {D : va_G} {dA : Nat → ClassId} {tt : Nat → Nat} {b n : Nat} (C : pl_C p s m args meth c co_M_check 3 rn_M (some .int) "check" D dA tt b) {r : Int32} {f' : pl_H} : ∀ k : Nat, ∀ (f : pl_H) (a0 : Nat) (x1 : Int32) (H : Heap) (locs : List Loc) (ls : Array Slot), fn_M_check_105 k f a0 x1 = some (r, f') → pl_wd D vwCl dA b n f H → va_S (pl_A b) s.heap H locs → lv_has ls 3 [(0, .ref a0), (1, .int x1)] → W p l e rm_M_check s m args below meth c H locs 0 0 (MQ below (pl_qI D dA tt b n f' r) args s 0 0 (pl_A b)) (F0 m 105 ls []) := by
  have hx := C.1
  have hb := C.2.1
  have hown := C.2.2.2.2.1
  have hts := C.2.2.2.2.2.2.1
  intro k
  induction k with
  | zero =>
    intro f a0 x1 H locs ls hF
    cases hF
  | succ k ih =>
    intro f a0 x1 H locs ls hF w hS hl
    unfold fn_M_check_105 at hF
    refine lv_aload_n hx hb dc_M_check_105 rfl (lv_at hl 0 rfl) ?_
    obtain ⟨v1, ev1, hF⟩ := pl_bd hF
    refine pl_getI C w (ci := 8) in_M rfl (by decide) 32 (by decide) mw_729 ev1 dc_M_check_106 ?_
    refine lv_if_ne hx hb dc_M_check_109 (tgt := 127) (by decide) (fun hc => ?_) (fun hc => ?_)
    · have hF := (if_neg hc).symm.trans hF
      exact tl_M_check_127 C hF w hS (lv_sub hl [0] rfl)
    · have hF := (if_pos hc).symm.trans hF
      refine lv_aload_n hx hb dc_M_check_112 rfl (lv_at hl 0 rfl) ?_
      obtain ⟨v2, ev2, hF⟩ := pl_bd hF
      refine pl_getI C w (ci := 8) in_M rfl (by decide) 30 (by decide) mw_727 ev2 dc_M_check_113 ?_
      refine lv_if_lt hx hb dc_M_check_116 (tgt := 127) (by decide) (fun hc => ?_) (fun hc => ?_)
      · have hF := (if_pos hc).symm.trans hF
        exact tl_M_check_127 C hF w hS (lv_sub hl [0] rfl)
      · have hF := (if_neg hc).symm.trans hF
        refine lv_aload_n hx hb dc_M_check_119 rfl (lv_at hl 0 rfl) ?_
        refine lv_iload_n hx hb dc_M_check_120 rfl (lv_at hl 1 rfl) ?_
        obtain ⟨u4, eu4, hF⟩ := pl_bd hF
        obtain ⟨q3, eq3, hF⟩ := pl_bd hF
        refine pl_gv (pl_runV (Cn := rn_M) (k := 1) C (tm_M_passNode l D dA tt b n eq3) w hS rfl rfl mw_979 mw_981 mw_53 mw_72 mw_982 (by decide +kernel) ⟨by decide, by decide⟩ eu4 rfl (by decide) rfl hl.1 (Nat.le_of_ble_eq_true rfl) ⟨Nat.zero_le _, Nat.zero_le _⟩ rfl dc_M_check_121) hS (fun H locs w hS => ?_)
        refine lv_goto hx hb dc_M_check_124 (tgt := 105) (by decide) ?_
        exact ih q3 a0 x1 _ _ _ hF w hS (lv_sub hl [0, 1] rfl)
set_option maxHeartbeats 4000000 in
set_option maxRecDepth 100000 in
theorem tl_M_check_76 {p : Program} {l : Launch} {e : Env} {s : State} {m : MethodId} {args : Array Value} {below : List Frame} {meth : Method} {c : Code} {D : va_G} {dA : Nat → ClassId} {tt : Nat → Nat} {b n : Nat} (C : pl_C p s m args meth c co_M_check 3 rn_M (some .int) "check" D dA tt b) {r : Int32} {f' : pl_H} {rc42 : pl_H → Nat → Int32 → Int32 → Option (Int32 × pl_H)} (hr42 : ∀ (f : pl_H) (a0 : Nat) (x1 : Int32) (x2 : Int32) (H : Heap) (locs : List Loc) (ls : Array Slot), rc42 f a0 x1 x2 = some (r, f') → pl_wd D vwCl dA b n f H → va_S (pl_A b) s.heap H locs → lv_has ls 3 [(0, .ref a0), (1, .int x1), (2, .int x2)] → W p l e rm_M_check s m args below meth c H locs 0 0 (MQ below (pl_qI D dA tt b n f' r) args s 0 0 (pl_A b)) (F0 m 42 ls [])) {f : pl_H} {a0 : Nat} {x1 : Int32} {x2 : Int32} {sx0 : Int32} {sa1 : Nat} {H : Heap} {locs : List Loc} {ls : Array Slot} (hF : fn_M_check_76 rc42 f a0 x1 x2 sx0 sa1 = some (r, f')) (w : pl_wd D vwCl dA b n f H) (hS : va_S (pl_A b) s.heap H locs) (hl : lv_has ls 3 [(0, .ref a0), (1, .int x1), (2, .int x2)]) : W p l e rm_M_check s m args below meth c H locs 0 0 (MQ below (pl_qI D dA tt b n f' r) args s 0 0 (pl_A b)) (F0 m 76 ls [.int sx0, .ref sa1]) := by
  have hx := C.1
  have hb := C.2.1
  have hown := C.2.2.2.2.1
  have hts := C.2.2.2.2.2.2.1
  unfold fn_M_check_76 at hF
  obtain ⟨f1, ef1, hF⟩ := pl_bd hF
  refine pl_putZ C w hS (ci := 8) in_M rfl (by decide) rty_M_ok rnm_M 32 (by decide) mw_729 rfl rfl ef1 dc_M_check_76 (fun H locs w hS => ?_)
  refine lv_iinc (k := 2) (v := x2 + 1) (lv' := [(2, .int (x2 + 1)), (0, .ref a0), (1, .int x1)]) hx hb dc_M_check_79 hl rfl rfl (by decide) rfl (fun ls hl => ?_)
  refine lv_goto hx hb dc_M_check_82 (tgt := 42) (by decide) ?_
  exact hr42 f1 a0 x1 (x2 + 1) _ _ _ hF w hS (lv_sub hl [1, 2, 0] rfl)
set_option maxHeartbeats 4000000 in
set_option maxRecDepth 100000 in
theorem tl_M_check_71 {p : Program} {l : Launch} {e : Env} {s : State} {m : MethodId} {args : Array Value} {below : List Frame} {meth : Method} {c : Code} {D : va_G} {dA : Nat → ClassId} {tt : Nat → Nat} {b n : Nat} (C : pl_C p s m args meth c co_M_check 3 rn_M (some .int) "check" D dA tt b) {r : Int32} {f' : pl_H} {rc42 : pl_H → Nat → Int32 → Int32 → Option (Int32 × pl_H)} (hr42 : ∀ (f : pl_H) (a0 : Nat) (x1 : Int32) (x2 : Int32) (H : Heap) (locs : List Loc) (ls : Array Slot), rc42 f a0 x1 x2 = some (r, f') → pl_wd D vwCl dA b n f H → va_S (pl_A b) s.heap H locs → lv_has ls 3 [(0, .ref a0), (1, .int x1), (2, .int x2)] → W p l e rm_M_check s m args below meth c H locs 0 0 (MQ below (pl_qI D dA tt b n f' r) args s 0 0 (pl_A b)) (F0 m 42 ls [])) {f : pl_H} {a0 : Nat} {x1 : Int32} {x2 : Int32} {sa0 : Nat} {H : Heap} {locs : List Loc} {ls : Array Slot} (hF : fn_M_check_71 rc42 f a0 x1 x2 sa0 = some (r, f')) (w : pl_wd D vwCl dA b n f H) (hS : va_S (pl_A b) s.heap H locs) (hl : lv_has ls 3 [(0, .ref a0), (1, .int x1), (2, .int x2)]) : W p l e rm_M_check s m args below meth c H locs 0 0 (MQ below (pl_qI D dA tt b n f' r) args s 0 0 (pl_A b)) (F0 m 71 ls [.ref sa0]) := by
  have hx := C.1
  have hb := C.2.1
  have hown := C.2.2.2.2.1
  have hts := C.2.2.2.2.2.2.1
  unfold fn_M_check_71 at hF
  refine lv_iconst (v := 1) hx hb dc_M_check_71 (by decide) ?_
  refine lv_goto hx hb dc_M_check_72 (tgt := 76) (by decide) ?_
  exact tl_M_check_76 C hr42 hF w hS (lv_sub hl [0, 1, 2] rfl)
set_option maxHeartbeats 4000000 in
set_option maxRecDepth 100000 in
theorem tl_M_check_42 {p : Program} {l : Launch} {e : Env} {s : State} {m : MethodId} {args : Array Value} {below : List Frame} {meth : Method} {c : Code} {D : va_G} {dA : Nat → ClassId} {tt : Nat → Nat} {b n : Nat} (C : pl_C p s m args meth c co_M_check 3 rn_M (some .int) "check" D dA tt b) {r : Int32} {f' : pl_H} : ∀ k : Nat, ∀ (f : pl_H) (a0 : Nat) (x1 : Int32) (x2 : Int32) (H : Heap) (locs : List Loc) (ls : Array Slot), fn_M_check_42 k f a0 x1 x2 = some (r, f') → pl_wd D vwCl dA b n f H → va_S (pl_A b) s.heap H locs → lv_has ls 3 [(0, .ref a0), (1, .int x1), (2, .int x2)] → W p l e rm_M_check s m args below meth c H locs 0 0 (MQ below (pl_qI D dA tt b n f' r) args s 0 0 (pl_A b)) (F0 m 42 ls []) := by
  have hx := C.1
  have hb := C.2.1
  have hown := C.2.2.2.2.1
  have hts := C.2.2.2.2.2.2.1
  intro k
  induction k with
  | zero =>
    intro f a0 x1 x2 H locs ls hF
    cases hF
  | succ k ih =>
    intro f a0 x1 x2 H locs ls hF w hS hl
    unfold fn_M_check_42 at hF
    refine lv_iload_n hx hb dc_M_check_42 rfl (lv_at hl 2 rfl) ?_
    refine lv_bipush (v := 32) hx hb dc_M_check_43 (by decide) ?_
    refine lv_icmp_ge hx hb dc_M_check_45 (tgt := 85) (by decide) (fun hc => ?_) (fun hc => ?_)
    · have hF := (if_pos hc).symm.trans hF
      refine lv_aload_n hx hb dc_M_check_85 rfl (lv_at hl 0 rfl) ?_
      refine lv_iconst (v := 0) hx hb dc_M_check_86 (by decide) ?_
      obtain ⟨f1, ef1, hF⟩ := pl_bd hF
      refine pl_put C w hS (ci := 8) in_M rfl (by decide) rty_M_ok rnm_M 29 (by decide) mw_726 rfl rfl rfl ef1 dc_M_check_87 (fun H locs w hS => ?_)
      refine lv_aload_n hx hb dc_M_check_90 rfl (lv_at hl 0 rfl) ?_
      refine lv_iconst (v := 0) hx hb dc_M_check_91 (by decide) ?_
      obtain ⟨f2, ef2, hF⟩ := pl_bd hF
      refine pl_put C w hS (ci := 8) in_M rfl (by decide) rty_M_ok rnm_M 30 (by decide) mw_727 rfl rfl rfl ef2 dc_M_check_92 (fun H locs w hS => ?_)
      refine lv_aload_n hx hb dc_M_check_95 rfl (lv_at hl 0 rfl) ?_
      refine lv_iconst (v := 0) hx hb dc_M_check_96 (by decide) ?_
      obtain ⟨f3, ef3, hF⟩ := pl_bd hF
      refine pl_put C w hS (ci := 8) in_M rfl (by decide) rty_M_ok rnm_M 31 (by decide) mw_728 rfl rfl rfl ef3 dc_M_check_97 (fun H locs w hS => ?_)
      refine lv_aload_n hx hb dc_M_check_100 rfl (lv_at hl 0 rfl) ?_
      refine lv_iconst (v := (-1)) hx hb dc_M_check_101 (by decide) ?_
      obtain ⟨f4, ef4, hF⟩ := pl_bd hF
      refine pl_put C w hS (ci := 8) in_M rfl (by decide) rty_M_ok rnm_M 33 (by decide) mw_730 rfl rfl rfl ef4 dc_M_check_102 (fun H locs w hS => ?_)
      exact tl_M_check_105 C pl_N f4 a0 x1 _ _ _ hF w hS (lv_sub hl [0, 1] rfl)
    · have hF := (if_neg hc).symm.trans hF
      refine lv_aload_n hx hb dc_M_check_48 rfl (lv_at hl 0 rfl) ?_
      refine lv_aload_n hx hb dc_M_check_49 rfl (lv_at hl 0 rfl) ?_
      obtain ⟨v5, ev5, hF⟩ := pl_bd hF
      refine pl_getI C w (ci := 8) in_M rfl (by decide) 32 (by decide) mw_729 ev5 dc_M_check_50 ?_
      refine lv_if_ne hx hb dc_M_check_53 (tgt := 71) (by decide) (fun hc => ?_) (fun hc => ?_)
      · have hF := (if_neg hc).symm.trans hF
        exact tl_M_check_71 C ih hF w hS (lv_sub hl [0, 1, 2] rfl)
      · have hF := (if_pos hc).symm.trans hF
        refine lv_aload_n hx hb dc_M_check_56 rfl (lv_at hl 0 rfl) ?_
        obtain ⟨v6, ev6, hF⟩ := pl_bd hF
        refine pl_getR C w (ci := 8) in_M rfl (by decide) 27 (by decide) mw_724 ev6 dc_M_check_57 ?_
        refine lv_iload_n hx hb dc_M_check_60 rfl (lv_at hl 2 rfl) ?_
        obtain ⟨v7, ev7, hF⟩ := pl_bd hF
        refine pl_aldI C w ev7 dc_M_check_61 ?_
        refine lv_aload_n hx hb dc_M_check_62 rfl (lv_at hl 0 rfl) ?_
        obtain ⟨v8, ev8, hF⟩ := pl_bd hF
        refine pl_getR C w (ci := 8) in_M rfl (by decide) 28 (by decide) mw_725 ev8 dc_M_check_63 ?_
        refine lv_iload_n hx hb dc_M_check_66 rfl (lv_at hl 2 rfl) ?_
        obtain ⟨v9, ev9, hF⟩ := pl_bd hF
        refine pl_aldI C w ev9 dc_M_check_67 ?_
        refine lv_icmp_eq hx hb dc_M_check_68 (tgt := 75) (by decide) (fun hc => ?_) (fun hc => ?_)
        · have hF := (if_pos hc).symm.trans hF
          refine lv_iconst (v := 0) hx hb dc_M_check_75 (by decide) ?_
          exact tl_M_check_76 C ih hF w hS (lv_sub hl [0, 1, 2] rfl)
        · have hF := (if_neg hc).symm.trans hF
          exact tl_M_check_71 C ih hF w hS (lv_sub hl [0, 1, 2] rfl)
set_option maxHeartbeats 4000000 in
set_option maxRecDepth 100000 in
theorem tl_M_check_24 {p : Program} {l : Launch} {e : Env} {s : State} {m : MethodId} {args : Array Value} {below : List Frame} {meth : Method} {c : Code} {D : va_G} {dA : Nat → ClassId} {tt : Nat → Nat} {b n : Nat} (C : pl_C p s m args meth c co_M_check 3 rn_M (some .int) "check" D dA tt b) {r : Int32} {f' : pl_H} {f : pl_H} {H : Heap} {locs : List Loc} {ls : Array Slot} (hF : fn_M_check_24 f = some (r, f')) (w : pl_wd D vwCl dA b n f H) (hS : va_S (pl_A b) s.heap H locs) (hl : lv_has ls 3 []) : W p l e rm_M_check s m args below meth c H locs 0 0 (MQ below (pl_qI D dA tt b n f' r) args s 0 0 (pl_A b)) (F0 m 24 ls []) := by
  have hx := C.1
  have hb := C.2.1
  have hown := C.2.2.2.2.1
  have hts := C.2.2.2.2.2.2.1
  unfold fn_M_check_24 at hF
  refine lv_iconst (v := (-1)) hx hb dc_M_check_24 (by decide) ?_
  exact pl_retIw C w hS hF dc_M_check_25
set_option maxHeartbeats 4000000 in
set_option maxRecDepth 100000 in
theorem tl_M_check {p : Program} {l : Launch} {e : Env} {s : State} {m : MethodId} {args : Array Value} {below : List Frame} {meth : Method} {c : Code} {D : va_G} {dA : Nat → ClassId} {tt : Nat → Nat} {b n : Nat} (C : pl_C p s m args meth c co_M_check 3 rn_M (some .int) "check" D dA tt b) {r : Int32} {f' : pl_H} {f : pl_H} {a0 : Nat} {x1 : Int32} {H : Heap} {locs : List Loc} {ls : Array Slot} (hF : fn_M_check f a0 x1 = some (r, f')) (w : pl_wd D vwCl dA b n f H) (hS : va_S (pl_A b) s.heap H locs) (hl : lv_has ls 3 [(0, .ref a0), (1, .int x1)]) : W p l e rm_M_check s m args below meth c H locs 0 0 (MQ below (pl_qI D dA tt b n f' r) args s 0 0 (pl_A b)) (F0 m 0 ls []) := by
  have hx := C.1
  have hb := C.2.1
  have hown := C.2.2.2.2.1
  have hts := C.2.2.2.2.2.2.1
  unfold fn_M_check at hF
  refine lv_aload_n hx hb dc_M_check_0 rfl (lv_at hl 0 rfl) ?_
  refine lv_lconst (v := 0) hx hb dc_M_check_1 (by decide) ?_
  obtain ⟨f1, ef1, hF⟩ := pl_bd hF
  refine pl_put C w hS (ci := 8) in_M rfl (by decide) rty_M_ok rnm_M 19 (by decide) mw_716 rfl rfl rfl ef1 dc_M_check_2 (fun H locs w hS => ?_)
  refine lv_aload_n hx hb dc_M_check_5 rfl (lv_at hl 0 rfl) ?_
  refine lv_lconst (v := 0) hx hb dc_M_check_6 (by decide) ?_
  obtain ⟨f2, ef2, hF⟩ := pl_bd hF
  refine pl_put C w hS (ci := 8) in_M rfl (by decide) rty_M_ok rnm_M 20 (by decide) mw_717 rfl rfl rfl ef2 dc_M_check_7 (fun H locs w hS => ?_)
  refine lv_iload_n hx hb dc_M_check_10 rfl (lv_at hl 1 rfl) ?_
  obtain ⟨v3, ev3, hF⟩ := pl_bd hF
  refine pl_gi (pl_runS (k := 1) C (tm_M_isAccount l D dA tt b n ev3) w hS rfl rfl mw_805 mw_806 mw_72 mw_807 (by decide +kernel) ⟨by decide, by decide⟩ rfl hl.1 (Nat.le_of_ble_eq_true rfl) ⟨Nat.zero_le _, Nat.zero_le _⟩ rfl dc_M_check_11) hS (fun H locs w hS => ?_)
  refine lv_if_eq hx hb dc_M_check_14 (tgt := 24) (by decide) (fun hc => ?_) (fun hc => ?_)
  · have hF := (if_pos hc).symm.trans hF
    exact tl_M_check_24 C hF w hS (lv_sub hl [] rfl)
  · have hF := (if_neg hc).symm.trans hF
    refine lv_aload_n hx hb dc_M_check_17 rfl (lv_at hl 0 rfl) ?_
    obtain ⟨v4, ev4, hF⟩ := pl_bd hF
    refine pl_getI C w (ci := 8) in_M rfl (by decide) 16 (by decide) mw_713 ev4 dc_M_check_18 ?_
    refine lv_if_ne hx hb dc_M_check_21 (tgt := 26) (by decide) (fun hc => ?_) (fun hc => ?_)
    · have hF := (if_neg hc).symm.trans hF
      refine lv_aload_n hx hb dc_M_check_26 rfl (lv_at hl 0 rfl) ?_
      obtain ⟨u6, eu6, hF⟩ := pl_bd hF
      obtain ⟨q5, eq5, hF⟩ := pl_bd hF
      refine pl_gv (pl_runV (Cn := rn_M) (k := 0) C (tm_M_work l D dA tt b n eq5) w hS rfl rfl mw_851 mw_853 mw_34 mw_72 mw_854 (by decide +kernel) ⟨by decide, by decide⟩ eu6 rfl (by decide) rfl hl.1 (Nat.le_of_ble_eq_true rfl) ⟨Nat.zero_le _, Nat.zero_le _⟩ rfl dc_M_check_27) hS (fun H locs w hS => ?_)
      refine lv_aload_n hx hb dc_M_check_30 rfl (lv_at hl 0 rfl) ?_
      refine lv_iconst (v := 0) hx hb dc_M_check_31 (by decide) ?_
      obtain ⟨u8, eu8, hF⟩ := pl_bd hF
      obtain ⟨q7, eq7, hF⟩ := pl_bd hF
      refine pl_gv (pl_runV (Cn := rn_M) (k := 1) C (tm_M_hashPart l D dA tt b n eq7) w hS rfl rfl mw_975 mw_977 mw_52 mw_72 mw_978 (by decide +kernel) ⟨by decide, by decide⟩ eu8 rfl (by decide) rfl hl.1 (Nat.le_of_ble_eq_true rfl) ⟨Nat.zero_le _, Nat.zero_le _⟩ rfl dc_M_check_32) hS (fun H locs w hS => ?_)
      refine lv_aload_n hx hb dc_M_check_35 rfl (lv_at hl 0 rfl) ?_
      refine lv_iconst (v := 0) hx hb dc_M_check_36 (by decide) ?_
      obtain ⟨f9, ef9, hF⟩ := pl_bd hF
      refine pl_put C w hS (ci := 8) in_M rfl (by decide) rty_M_ok rnm_M 32 (by decide) mw_729 rfl rfl rfl ef9 dc_M_check_37 (fun H locs w hS => ?_)
      refine lv_iconst (v := 0) hx hb dc_M_check_40 (by decide) ?_
      refine lv_istore_n (lv' := [(2, .int 0), (0, .ref a0), (1, .int x1)]) hx hb dc_M_check_41 rfl hl (by decide) rfl (fun ls hl => ?_)
      exact tl_M_check_42 C pl_N f9 a0 x1 0 _ _ _ hF w hS (lv_sub hl [1, 2, 0] rfl)
    · have hF := (if_pos hc).symm.trans hF
      exact tl_M_check_24 C hF w hS (lv_sub hl [] rfl)
set_option maxHeartbeats 4000000 in
set_option maxRecDepth 100000 in
theorem tm_M_check (l : Launch) (D : va_G) (dA : Nat → ClassId) (tt : Nat → Nat) (b n : Nat) {f : pl_H} {a0 : Nat} {x1 : Int32} {r : Int32} {f' : pl_H} (hF : fn_M_check f a0 x1 = some (r, f')) : Met l my_M_check (Cond.code my_M_check co_M_check 3 (some .int) :: pl_tb) rm_M_check (va_Pc [.ref a0, .int x1] (pl_pre D dA tt b n f)) (pl_qI D dA tt b n f' r) 0 0 (pl_A b) := by
  refine Met.ofW (cc := co_M_check) (maxL := 3) (ret := (some .int)) (by decide) rfl ?_
  intro p e s m args below meth c s₁ B hml hv
  obtain ⟨rfl, w, hK⟩ := hv
  have C : pl_C p s m _ meth c co_M_check 3 rn_M (some .int) "check" D dA tt b := ⟨B.exec, B.bytes, hml, B.returns, findClass_of_methodNamed B.named, B.notSynchronized, fun w hw => atoms_spec (ws := Cond.code my_M_check co_M_check 3 (some .int) :: pl_tb) B.pre w (List.mem_cons_of_mem _ hw), (name_of_methodNamed B.named B.method).1, hK⟩
  have hl := lv_entry ([.ref a0, .int x1]) (n := 3) (Nat.le_of_ble_eq_true rfl)
  rw [lg_entry_eq]
  generalize (lg_sl ([.ref a0, .int x1]) ++ List.replicate (3 - (lg_sl ([.ref a0, .int x1])).length) Slot.unset).toArray = ls at hl ⊢
  have hl : lv_has ls 3 [(0, .ref a0), (1, .int x1)] := hl
  exact tl_M_check C hF w va_S.rf hl
def rm_M_proven : Room := { frames := 0, cells := 0, slots := 0, locals := 0 }
def fn_M_proven_24 (f : pl_H) (sy0 : Int64) : Option (Int64) := some sy0
def fn_M_proven (f : pl_H) (a0 : Nat) (x1 : Int32) : Option (Int64) := if x1 = 0 then (pl_gL f a0 8 19).bind fun v2 => fn_M_proven_24 f v2 else if x1 = 1 then (pl_gL f a0 8 20).bind fun v1 => fn_M_proven_24 f v1 else fn_M_proven_24 f 0
set_option maxHeartbeats 4000000 in
set_option maxRecDepth 100000 in
theorem tl_M_proven_24 {p : Program} {l : Launch} {e : Env} {s : State} {m : MethodId} {args : Array Value} {below : List Frame} {meth : Method} {c : Code} {D : va_G} {dA : Nat → ClassId} {tt : Nat → Nat} {b n : Nat} (C : pl_C p s m args meth c co_M_proven 2 rn_M (some .long) "proven" D dA tt b) {r : Int64} {f : pl_H} {sy0 : Int64} {H : Heap} {locs : List Loc} {ls : Array Slot} (hF : fn_M_proven_24 f sy0 = some r) (w : pl_wd D vwCl dA b n f H) (hS : va_S (pl_A b) s.heap H locs) (hl : lv_has ls 2 []) : W p l e rm_M_proven s m args below meth c H locs 0 0 (MQ below (pl_qL D dA tt b n f r) args s 0 0 (pl_A b)) (F0 m 24 ls [.long sy0]) := by
  have hx := C.1
  have hb := C.2.1
  have hown := C.2.2.2.2.1
  have hts := C.2.2.2.2.2.2.1
  unfold fn_M_proven_24 at hF
  exact pl_retL C w hS hF dc_M_proven_24
set_option maxHeartbeats 4000000 in
set_option maxRecDepth 100000 in
theorem tl_M_proven {p : Program} {l : Launch} {e : Env} {s : State} {m : MethodId} {args : Array Value} {below : List Frame} {meth : Method} {c : Code} {D : va_G} {dA : Nat → ClassId} {tt : Nat → Nat} {b n : Nat} (C : pl_C p s m args meth c co_M_proven 2 rn_M (some .long) "proven" D dA tt b) {r : Int64} {f : pl_H} {a0 : Nat} {x1 : Int32} {H : Heap} {locs : List Loc} {ls : Array Slot} (hF : fn_M_proven f a0 x1 = some r) (w : pl_wd D vwCl dA b n f H) (hS : va_S (pl_A b) s.heap H locs) (hl : lv_has ls 2 [(0, .ref a0), (1, .int x1)]) : W p l e rm_M_proven s m args below meth c H locs 0 0 (MQ below (pl_qL D dA tt b n f r) args s 0 0 (pl_A b)) (F0 m 0 ls []) := by
  have hx := C.1
  have hb := C.2.1
  have hown := C.2.2.2.2.1
  have hts := C.2.2.2.2.2.2.1
  unfold fn_M_proven at hF
  refine lv_iload_n hx hb dc_M_proven_0 rfl (lv_at hl 1 rfl) ?_
  refine lv_if_ne hx hb dc_M_proven_1 (tgt := 11) (by decide) (fun hc => ?_) (fun hc => ?_)
  · have hF := (if_neg hc).symm.trans hF
    refine lv_iload_n hx hb dc_M_proven_11 rfl (lv_at hl 1 rfl) ?_
    refine lv_iconst (v := 1) hx hb dc_M_proven_12 (by decide) ?_
    refine lv_icmp_ne hx hb dc_M_proven_13 (tgt := 23) (by decide) (fun hc => ?_) (fun hc => ?_)
    · have hF := (if_neg hc).symm.trans hF
      refine lv_lconst (v := 0) hx hb dc_M_proven_23 (by decide) ?_
      exact tl_M_proven_24 C hF w hS (lv_sub hl [] rfl)
    · have hF := (if_pos hc).symm.trans hF
      refine lv_aload_n hx hb dc_M_proven_16 rfl (lv_at hl 0 rfl) ?_
      obtain ⟨v1, ev1, hF⟩ := pl_bd hF
      refine pl_getL C w (ci := 8) in_M rfl (by decide) 20 (by decide) mw_717 ev1 dc_M_proven_17 ?_
      refine lv_goto hx hb dc_M_proven_20 (tgt := 24) (by decide) ?_
      exact tl_M_proven_24 C hF w hS (lv_sub hl [] rfl)
  · have hF := (if_pos hc).symm.trans hF
    refine lv_aload_n hx hb dc_M_proven_4 rfl (lv_at hl 0 rfl) ?_
    obtain ⟨v2, ev2, hF⟩ := pl_bd hF
    refine pl_getL C w (ci := 8) in_M rfl (by decide) 19 (by decide) mw_716 ev2 dc_M_proven_5 ?_
    refine lv_goto hx hb dc_M_proven_8 (tgt := 24) (by decide) ?_
    exact tl_M_proven_24 C hF w hS (lv_sub hl [] rfl)
set_option maxHeartbeats 4000000 in
set_option maxRecDepth 100000 in
theorem tm_M_proven (l : Launch) (D : va_G) (dA : Nat → ClassId) (tt : Nat → Nat) (b n : Nat) {f : pl_H} {a0 : Nat} {x1 : Int32} {r : Int64} (hF : fn_M_proven f a0 x1 = some r) : Met l my_M_proven (Cond.code my_M_proven co_M_proven 2 (some .long) :: pl_tb) rm_M_proven (va_Pc [.ref a0, .int x1] (pl_pre D dA tt b n f)) (pl_qL D dA tt b n f r) 0 0 (pl_A b) := by
  refine Met.ofW (cc := co_M_proven) (maxL := 2) (ret := (some .long)) (by decide) rfl ?_
  intro p e s m args below meth c s₁ B hml hv
  obtain ⟨rfl, w, hK⟩ := hv
  have C : pl_C p s m _ meth c co_M_proven 2 rn_M (some .long) "proven" D dA tt b := ⟨B.exec, B.bytes, hml, B.returns, findClass_of_methodNamed B.named, B.notSynchronized, fun w hw => atoms_spec (ws := Cond.code my_M_proven co_M_proven 2 (some .long) :: pl_tb) B.pre w (List.mem_cons_of_mem _ hw), (name_of_methodNamed B.named B.method).1, hK⟩
  have hl := lv_entry ([.ref a0, .int x1]) (n := 2) (Nat.le_of_ble_eq_true rfl)
  rw [lg_entry_eq]
  generalize (lg_sl ([.ref a0, .int x1]) ++ List.replicate (2 - (lg_sl ([.ref a0, .int x1])).length) Slot.unset).toArray = ls at hl ⊢
  have hl : lv_has ls 2 [(0, .ref a0), (1, .int x1)] := hl
  exact tl_M_proven C hF w va_S.rf hl
