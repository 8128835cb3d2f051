def fn_Law_law_671 (L : Nat) (xs : Nat → Int32) (rc18 : pl_H → Nat → Nat → Int32 → Option (Int32)) (f : pl_H) (a1 : Nat) (a2 : Nat) (x3 : Int32) : Option (Int32) := rc18 f a1 a2 (x3 + 8)
def fn_Law_law_18 (L : Nat) (xs : Nat → Int32) : Nat → pl_H → Nat → Nat → Int32 → Option (Int32)
  | 0 => fun _ _ _ _ => none
  | k + 1 => fun f a1 a2 x3 => if (((Int32.ofNat L)) - 8) < x3 then some 1 else (pl_sc L xs x3).bind fun v1 => if (v1 &&& 31) = 0 then (pl_sc L xs (x3 + 1)).bind fun v2 => (pl_is f a1 7).bind fun u4 => (fn_L_collector f a1 v2).bind fun q3 => (pl_sc L xs (x3 + 1)).bind fun v5 => (pl_is q3.2 a2 8).bind fun u7 => (fn_M_collector q3.2 a2 v5).bind fun q6 => if q3.1 = q6.1 then fn_Law_law_671 L xs (fn_Law_law_18 L xs k) q6.2 a1 a2 x3 else some 0 else if (v1 &&& 31) = 1 then (pl_sc L xs (x3 + 1)).bind fun v8 => (pl_sc L xs (x3 + 2)).bind fun v9 => (pl_sc L xs (x3 + 3)).bind fun v10 => (pl_is f a1 7).bind fun u12 => (fn_L_grant f a1 v8 ((((v9 : Int32).toInt64) <<< ((32 : Int32).toInt64 &&& 63)) ||| (((v10 : Int32).toInt64) &&& 4294967295))).bind fun q11 => (pl_sc L xs (x3 + 1)).bind fun v13 => (pl_sc L xs (x3 + 2)).bind fun v14 => (pl_sc L xs (x3 + 3)).bind fun v15 => (pl_is q11.2 a2 8).bind fun u17 => (fn_M_grant q11.2 a2 v13 ((((v14 : Int32).toInt64) <<< ((32 : Int32).toInt64 &&& 63)) ||| (((v15 : Int32).toInt64) &&& 4294967295))).bind fun q16 => if q11.1 = q16.1 then fn_Law_law_671 L xs (fn_Law_law_18 L xs k) q16.2 a1 a2 x3 else some 0 else if (v1 &&& 31) = 2 then (pl_sc L xs (x3 + 1)).bind fun v18 => (pl_sc L xs (x3 + 2)).bind fun v19 => (pl_sc L xs (x3 + 3)).bind fun v20 => (pl_sc L xs (x3 + 4)).bind fun v21 => (pl_sc L xs (x3 + 5)).bind fun v22 => (pl_sc L xs (x3 + 6)).bind fun v23 => (pl_sc L xs (x3 + 7)).bind fun v24 => (pl_is f a1 7).bind fun u26 => (fn_L_send f a1 v18 v19 ((((v20 : Int32).toInt64) <<< ((32 : Int32).toInt64 &&& 63)) ||| (((v21 : Int32).toInt64) &&& 4294967295)) ((((v22 : Int32).toInt64) <<< ((32 : Int32).toInt64 &&& 63)) ||| (((v23 : Int32).toInt64) &&& 4294967295)) v24).bind fun q25 => (pl_sc L xs (x3 + 1)).bind fun v27 => (pl_sc L xs (x3 + 2)).bind fun v28 => (pl_sc L xs (x3 + 3)).bind fun v29 => (pl_sc L xs (x3 + 4)).bind fun v30 => (pl_sc L xs (x3 + 5)).bind fun v31 => (pl_sc L xs (x3 + 6)).bind fun v32 => (pl_sc L xs (x3 + 7)).bind fun v33 => (pl_is q25.2 a2 8).bind fun u35 => (fn_M_send q25.2 a2 v27 v28 ((((v29 : Int32).toInt64) <<< ((32 : Int32).toInt64 &&& 63)) ||| (((v30 : Int32).toInt64) &&& 4294967295)) ((((v31 : Int32).toInt64) <<< ((32 : Int32).toInt64 &&& 63)) ||| (((v32 : Int32).toInt64) &&& 4294967295)) v33).bind fun q34 => if q25.1 = q34.1 then fn_Law_law_671 L xs (fn_Law_law_18 L xs k) q34.2 a1 a2 x3 else some 0 else if (v1 &&& 31) = 3 then (pl_sc L xs (x3 + 1)).bind fun v36 => (pl_is f a1 7).bind fun u38 => (fn_L_close f a1 v36).bind fun q37 => (pl_sc L xs (x3 + 1)).bind fun v39 => (pl_is q37.2 a2 8).bind fun u41 => (fn_M_close q37.2 a2 v39).bind fun q40 => if q37.1 = q40.1 then fn_Law_law_671 L xs (fn_Law_law_18 L xs k) q40.2 a1 a2 x3 else some 0 else if (v1 &&& 31) = 4 then (pl_sc L xs (x3 + 1)).bind fun v42 => (pl_is f a1 7).bind fun u44 => (fn_L_nonce f a1 v42).bind fun v43 => (pl_sc L xs (x3 + 1)).bind fun v45 => (pl_is f a2 8).bind fun u47 => (fn_M_nonce f a2 v45).bind fun v46 => if v43 = v46 then fn_Law_law_671 L xs (fn_Law_law_18 L xs k) f a1 a2 x3 else some 0 else if (v1 &&& 31) = 5 then (pl_sc L xs (x3 + 1)).bind fun v48 => (pl_is f a1 7).bind fun u50 => (fn_L_balance f a1 v48).bind fun v49 => (pl_sc L xs (x3 + 1)).bind fun v51 => (pl_is f a2 8).bind fun u53 => (fn_M_balance f a2 v51).bind fun v52 => if (lg_cmp v49 v52) = 0 then fn_Law_law_671 L xs (fn_Law_law_18 L xs k) f a1 a2 x3 else some 0 else if (v1 &&& 31) = 6 then (pl_is f a1 7).bind fun u55 => (fn_L_accounts f a1).bind fun v54 => (pl_is f a2 8).bind fun u57 => (fn_M_accounts f a2).bind fun v56 => if v54 = v56 then fn_Law_law_671 L xs (fn_Law_law_18 L xs k) f a1 a2 x3 else some 0 else if (v1 &&& 31) = 7 then (pl_sc L xs (x3 + 1)).bind fun v58 => (pl_is f a1 7).bind fun u60 => (fn_L_root f a1 v58).bind fun q59 => (pl_sc L xs (x3 + 1)).bind fun v61 => (pl_is q59.2 a2 8).bind fun u63 => (fn_M_root q59.2 a2 v61).bind fun q62 => if (lg_cmp q59.1 q62.1) = 0 then fn_Law_law_671 L xs (fn_Law_law_18 L xs k) q62.2 a1 a2 x3 else some 0 else if (v1 &&& 31) = 8 then (pl_sc L xs (x3 + 1)).bind fun v64 => (pl_is f a1 7).bind fun u66 => (fn_L_nodes f a1 v64).bind fun q65 => (pl_sc L xs (x3 + 1)).bind fun v67 => (pl_is q65.2 a2 8).bind fun u69 => (fn_M_nodes q65.2 a2 v67).bind fun q68 => if q65.1 = q68.1 then fn_Law_law_671 L xs (fn_Law_law_18 L xs k) q68.2 a1 a2 x3 else some 0 else if (v1 &&& 31) = 9 then (pl_is f a1 7).bind fun u71 => (fn_L_size f a1).bind fun q70 => (pl_is q70.2 a2 8).bind fun u73 => (fn_M_size q70.2 a2).bind fun q72 => if q70.1 = q72.1 then fn_Law_law_671 L xs (fn_Law_law_18 L xs k) q72.2 a1 a2 x3 else some 0 else if (v1 &&& 31) = 10 then (pl_sc L xs (x3 + 1)).bind fun v74 => (pl_is f a1 7).bind fun u76 => (fn_L_prove f a1 v74).bind fun q75 => (pl_sc L xs (x3 + 1)).bind fun v77 => (pl_is q75.2 a2 8).bind fun u79 => (fn_M_prove q75.2 a2 v77).bind fun q78 => if q75.1 = q78.1 then fn_Law_law_671 L xs (fn_Law_law_18 L xs k) q78.2 a1 a2 x3 else some 0 else if (v1 &&& 31) = 11 then (pl_is f a1 7).bind fun u81 => (fn_L_parts f a1).bind fun v80 => (pl_is f a2 8).bind fun u83 => (fn_M_parts f a2).bind fun v82 => if v80 = v82 then fn_Law_law_671 L xs (fn_Law_law_18 L xs k) f a1 a2 x3 else some 0 else if (v1 &&& 31) = 12 then (pl_sc L xs (x3 + 1)).bind fun v84 => (pl_is f a1 7).bind fun u86 => (fn_L_length f a1 v84).bind fun v85 => (pl_sc L xs (x3 + 1)).bind fun v87 => (pl_is f a2 8).bind fun u89 => (fn_M_length f a2 v87).bind fun v88 => if v85 = v88 then fn_Law_law_671 L xs (fn_Law_law_18 L xs k) f a1 a2 x3 else some 0 else if (v1 &&& 31) = 13 then (pl_sc L xs (x3 + 1)).bind fun v90 => (pl_sc L xs (x3 + 2)).bind fun v91 => (pl_is f a1 7).bind fun u93 => (fn_L_part f a1 v90 v91).bind fun v92 => (pl_sc L xs (x3 + 1)).bind fun v94 => (pl_sc L xs (x3 + 2)).bind fun v95 => (pl_is f a2 8).bind fun u97 => (fn_M_part f a2 v94 v95).bind fun v96 => if v92 = v96 then fn_Law_law_671 L xs (fn_Law_law_18 L xs k) f a1 a2 x3 else some 0 else if (v1 &&& 31) = 14 then (pl_sc L xs (x3 + 1)).bind fun v98 => (pl_sc L xs (x3 + 2)).bind fun v99 => (pl_sc L xs (x3 + 3)).bind fun v100 => (pl_is f a1 7).bind fun u102 => (fn_L_alter f a1 v98 v99 v100).bind fun q101 => (pl_sc L xs (x3 + 1)).bind fun v103 => (pl_sc L xs (x3 + 2)).bind fun v104 => (pl_sc L xs (x3 + 3)).bind fun v105 => (pl_is q101.2 a2 8).bind fun u107 => (fn_M_alter q101.2 a2 v103 v104 v105).bind fun q106 => if q101.1 = q106.1 then fn_Law_law_671 L xs (fn_Law_law_18 L xs k) q106.2 a1 a2 x3 else some 0 else if (v1 &&& 31) = 15 then (pl_is f a1 7).bind fun u109 => (fn_L_shorten f a1).bind fun q108 => (pl_is q108.2 a2 8).bind fun u111 => (fn_M_shorten q108.2 a2).bind fun q110 => if q108.1 = q110.1 then fn_Law_law_671 L xs (fn_Law_law_18 L xs k) q110.2 a1 a2 x3 else some 0 else if (v1 &&& 31) = 16 then (pl_sc L xs (x3 + 1)).bind fun v112 => (pl_is f a1 7).bind fun u114 => (fn_L_check f a1 v112).bind fun q113 => (pl_sc L xs (x3 + 1)).bind fun v115 => (pl_is q113.2 a2 8).bind fun u117 => (fn_M_check q113.2 a2 v115).bind fun q116 => if q113.1 = q116.1 then fn_Law_law_671 L xs (fn_Law_law_18 L xs k) q116.2 a1 a2 x3 else some 0 else if (v1 &&& 31) = 17 then (pl_sc L xs (x3 + 1)).bind fun v118 => (pl_is f a1 7).bind fun u120 => (fn_L_proven f a1 v118).bind fun v119 => (pl_sc L xs (x3 + 1)).bind fun v121 => (pl_is f a2 8).bind fun u123 => (fn_M_proven f a2 v121).bind fun v122 => if (lg_cmp v119 v122) = 0 then fn_Law_law_671 L xs (fn_Law_law_18 L xs k) f a1 a2 x3 else some 0 else fn_Law_law_671 L xs (fn_Law_law_18 L xs k) f a1 a2 x3
def fn_Law_law (L : Nat) (xs : Nat → Int32) (n : Nat) (f : pl_H) : Option Int32 := (pl_mk f n (.inr (7, [.null, .null, .null, .null, .null, .int 0, .int 0]))).bind fun f1 => (fn_L_init (n + 1) f1 n).bind fun q2 => (pl_mk q2 (n + 92) (.inr (8, [.int 0, .null, .null, .null, .int 0, .int 0, .null, .null, .null, .null, .int 0, .null, .int 0, .null, .null, .null, .int 0, .null, .null, .long 0, .long 0, .null, .null, .null, .null, .null, .null, .null, .null, .int 0, .int 0, .int 0, .int 0, .int 0]))).bind fun f3 => (fn_M_init (n + 93) f3 ((n + 92))).bind fun q4 => fn_Law_law_18 L xs pl_N q4 n ((n + 92)) 0
set_option maxHeartbeats 4000000 in
set_option maxRecDepth 100000 in
theorem tl_Law_law_671 {p : Program} {l : Launch} {e : Env} {s : State} {m : MethodId} {below : List Frame} {meth : Method} {c : Code} {D : va_G} {dA : Nat → ClassId} {tt : Nat → Nat} {sb L : Nat} {xs : Nat → Int32} (C : pl_C p s m #[Value.ref sb] meth c code 4 rn_Law ret meth.name D dA tt s.heap.size) (X : va_X sb L xs s s.heap ∧ sb < s.heap.size ∧ ¬ pl_A s.heap.size sb)  {rc18 : pl_H → Nat → Nat → Int32 → Option (Int32)} (hr18 : ∀ (f : pl_H) (a1 : Nat) (a2 : Nat) (x3 : Int32) (H : Heap) (locs : List Loc) (ls : Array Slot), rc18 f a1 a2 x3 = some 1 → pl_wd D vwCl dA s.heap.size (s.heap.size + 114) f H → va_S (pl_A s.heap.size) s.heap H locs → lv_has ls 4 [(0, .ref sb), (1, .ref a1), (2, .ref a2), (3, .int x3)] → W p l e room_1 s m #[Value.ref sb] below meth c H locs 114 12493 (lw_Z below #[Value.ref sb] s) (F0 m 18 ls [])) {f : pl_H} {a1 : Nat} {a2 : Nat} {x3 : Int32} {H : Heap} {locs : List Loc} {ls : Array Slot} (hF : fn_Law_law_671 L xs rc18 f a1 a2 x3 = some 1) (w : pl_wd D vwCl dA s.heap.size (s.heap.size + 114) f H) (hS : va_S (pl_A s.heap.size) s.heap H locs) (hl : lv_has ls 4 [(0, .ref sb), (1, .ref a1), (2, .ref a2), (3, .int x3)]) : W p l e room_1 s m #[Value.ref sb] below meth c H locs 114 12493 (lw_Z below #[Value.ref sb] s) (F0 m 671 ls []) := by
  have hx := C.1
  have hb := C.2.1
  have hown := C.2.2.2.2.1
  have hts := C.2.2.2.2.2.2.1
  unfold fn_Law_law_671 at hF
  refine lv_iinc (k := 3) (v := x3 + 8) (lv' := [(3, .int (x3 + 8)), (0, .ref sb), (1, .ref a1), (2, .ref a2)]) hx hb dc_Law_law_671 hl rfl rfl (by decide) rfl (fun ls hl => ?_)
  refine lv_goto hx hb dc_Law_law_674 (tgt := 18) (by decide) ?_
  exact hr18 f a1 a2 (x3 + 8) _ _ _ hF w hS (lv_sub hl [1, 2, 3, 0] rfl)
set_option maxHeartbeats 4000000 in
set_option maxRecDepth 100000 in
theorem tl_Law_law_18 {p : Program} {l : Launch} {e : Env} {s : State} {m : MethodId} {below : List Frame} {meth : Method} {c : Code} {D : va_G} {dA : Nat → ClassId} {tt : Nat → Nat} {sb L : Nat} {xs : Nat → Int32} (C : pl_C p s m #[Value.ref sb] meth c code 4 rn_Law ret meth.name D dA tt s.heap.size) (X : va_X sb L xs s s.heap ∧ sb < s.heap.size ∧ ¬ pl_A s.heap.size sb)  : ∀ k : Nat, ∀ (f : pl_H) (a1 : Nat) (a2 : Nat) (x3 : Int32) (H : Heap) (locs : List Loc) (ls : Array Slot), fn_Law_law_18 L xs k f a1 a2 x3 = some 1 → pl_wd D vwCl dA s.heap.size (s.heap.size + 114) f H → va_S (pl_A s.heap.size) s.heap H locs → lv_has ls 4 [(0, .ref sb), (1, .ref a1), (2, .ref a2), (3, .int x3)] → W p l e room_1 s m #[Value.ref sb] below meth c H locs 114 12493 (lw_Z below #[Value.ref sb] s) (F0 m 18 ls []) := by
  have hx := C.1
  have hb := C.2.1
  have hown := C.2.2.2.2.1
  have hts := C.2.2.2.2.2.2.1
  intro k
  induction k with
  | zero =>
    intro f a1 a2 x3 H locs ls hF
    cases hF
  | succ k ih =>
    intro f a1 a2 x3 H locs ls hF w hS hl
    unfold fn_Law_law_18 at hF
    refine lv_iload_n hx hb dc_Law_law_18 rfl (lv_at hl 3 rfl) ?_
    refine lv_aload_n hx hb dc_Law_law_19 rfl (lv_at hl 0 rfl) ?_
    refine va_slen hx hb X.1 X.2.1 X.2.2 hS dc_Law_law_20 ?_
    refine lv_bipush (v := 8) hx hb dc_Law_law_21 (by decide) ?_
    refine lv_isub hx hb dc_Law_law_23 ?_
    refine lv_icmp_gt hx hb dc_Law_law_24 (tgt := 677) (by decide) (fun hc => ?_) (fun hc => ?_)
    · have hF := (if_pos hc).symm.trans hF
      refine lv_iconst (v := 1) hx hb dc_Law_law_677 (by decide) ?_
      refine va_forget (fun q hq => hS.2.2 q hq) ?_
      refine W.widen (k := 600000) (n := 7302250) (by decide) (by decide) ?_
      exact lw_ret hx hb C.2.2.2.1 C.2.2.2.2.2.1 dc_Law_law_678
    · have hF := (if_neg hc).symm.trans hF
      refine lv_aload_n hx hb dc_Law_law_27 rfl (lv_at hl 0 rfl) ?_
      refine lv_iload_n hx hb dc_Law_law_28 rfl (lv_at hl 3 rfl) ?_
      obtain ⟨v1, ev1, hF⟩ := pl_bd hF
      refine pl_sld hx hb X.1 X.2.1 X.2.2 hS ev1 dc_Law_law_29 ?_
      refine lv_bipush (v := 31) hx hb dc_Law_law_30 (by decide) ?_
      refine lv_iand hx hb dc_Law_law_32 ?_
      by_cases hc0 : (v1 &&& 31) = 0
      · have hF := (if_pos hc0).symm.trans hF
        refine lv_tableIn hx hb dc_Law_law_33 (tgt := 120) (off := 87) (by rw [hc0]; decide) (by rw [hc0]; decide) (by rw [hc0]; decide) (by decide) ?_
        refine lv_aload_n hx hb dc_Law_law_120 rfl (lv_at hl 1 rfl) ?_
        refine lv_aload_n hx hb dc_Law_law_121 rfl (lv_at hl 0 rfl) ?_
        refine lv_iload_n hx hb dc_Law_law_122 rfl (lv_at hl 3 rfl) ?_
        refine lv_iconst (v := 1) hx hb dc_Law_law_123 (by decide) ?_
        refine lv_iadd hx hb dc_Law_law_124 ?_
        obtain ⟨v2, ev2, hF⟩ := pl_bd hF
        refine pl_sld hx hb X.1 X.2.1 X.2.2 hS ev2 dc_Law_law_125 ?_
        obtain ⟨u4, eu4, hF⟩ := pl_bd hF
        obtain ⟨q3, eq3, hF⟩ := pl_bd hF
        refine pl_gi (pl_runV (Cn := rn_L) (k := 1) C (tm_L_collector l D dA tt s.heap.size (s.heap.size + 114) eq3) w hS rfl rfl mw_282 mw_283 mw_284 mw_64 mw_285 (by decide +kernel) ⟨by decide, by decide⟩ eu4 rfl (by decide) rfl hl.1 (Nat.le_of_ble_eq_true rfl) ⟨by decide, by decide⟩ rfl dc_Law_law_126) hS (fun H locs w hS => ?_)
        have w : pl_wd D vwCl dA s.heap.size (s.heap.size + 114) q3.2 H := w
        refine lv_aload_n hx hb dc_Law_law_129 rfl (lv_at hl 2 rfl) ?_
        refine lv_aload_n hx hb dc_Law_law_130 rfl (lv_at hl 0 rfl) ?_
        refine lv_iload_n hx hb dc_Law_law_131 rfl (lv_at hl 3 rfl) ?_
        refine lv_iconst (v := 1) hx hb dc_Law_law_132 (by decide) ?_
        refine lv_iadd hx hb dc_Law_law_133 ?_
        obtain ⟨v5, ev5, hF⟩ := pl_bd hF
        refine pl_sld hx hb X.1 X.2.1 X.2.2 hS ev5 dc_Law_law_134 ?_
        obtain ⟨u7, eu7, hF⟩ := pl_bd hF
        obtain ⟨q6, eq6, hF⟩ := pl_bd hF
        refine pl_gi (pl_runV (Cn := rn_M) (k := 1) C (tm_M_collector l D dA tt s.heap.size (s.heap.size + 114) eq6) w hS rfl rfl mw_801 mw_802 mw_803 mw_72 mw_804 (by decide +kernel) ⟨by decide, by decide⟩ eu7 rfl (by decide) rfl hl.1 (Nat.le_of_ble_eq_true rfl) ⟨by decide, by decide⟩ rfl dc_Law_law_135) hS (fun H locs w hS => ?_)
        have w : pl_wd D vwCl dA s.heap.size (s.heap.size + 114) q6.2 H := w
        refine lv_icmp_eq hx hb dc_Law_law_138 (tgt := 671) (by decide) (fun hc => ?_) (fun hc => ?_)
        · have hF := (if_pos hc).symm.trans hF
          exact tl_Law_law_671 C X ih hF w hS (lv_sub hl [0, 1, 2, 3] rfl)
        · have hF := (if_neg hc).symm.trans hF
          refine lv_iconst (v := 0) hx hb dc_Law_law_141 (by decide) ?_
          exact absurd (Option.some.inj hF) (by decide)
      have hF := (if_neg hc0).symm.trans hF
      by_cases hc1 : (v1 &&& 31) = 1
      · have hF := (if_pos hc1).symm.trans hF
        refine lv_tableIn hx hb dc_Law_law_33 (tgt := 143) (off := 110) (by rw [hc1]; decide) (by rw [hc1]; decide) (by rw [hc1]; decide) (by decide) ?_
        refine lv_aload_n hx hb dc_Law_law_143 rfl (lv_at hl 1 rfl) ?_
        refine lv_aload_n hx hb dc_Law_law_144 rfl (lv_at hl 0 rfl) ?_
        refine lv_iload_n hx hb dc_Law_law_145 rfl (lv_at hl 3 rfl) ?_
        refine lv_iconst (v := 1) hx hb dc_Law_law_146 (by decide) ?_
        refine lv_iadd hx hb dc_Law_law_147 ?_
        obtain ⟨v8, ev8, hF⟩ := pl_bd hF
        refine pl_sld hx hb X.1 X.2.1 X.2.2 hS ev8 dc_Law_law_148 ?_
        refine lv_aload_n hx hb dc_Law_law_149 rfl (lv_at hl 0 rfl) ?_
        refine lv_iload_n hx hb dc_Law_law_150 rfl (lv_at hl 3 rfl) ?_
        refine lv_iconst (v := 2) hx hb dc_Law_law_151 (by decide) ?_
        refine lv_iadd hx hb dc_Law_law_152 ?_
        obtain ⟨v9, ev9, hF⟩ := pl_bd hF
        refine pl_sld hx hb X.1 X.2.1 X.2.2 hS ev9 dc_Law_law_153 ?_
        refine lv_i2l hx hb dc_Law_law_154 rfl ?_
        refine lv_bipush (v := 32) hx hb dc_Law_law_155 (by decide) ?_
        refine lv_lshl hx hb dc_Law_law_157 rfl ?_
        refine lv_aload_n hx hb dc_Law_law_158 rfl (lv_at hl 0 rfl) ?_
        refine lv_iload_n hx hb dc_Law_law_159 rfl (lv_at hl 3 rfl) ?_
        refine lv_iconst (v := 3) hx hb dc_Law_law_160 (by decide) ?_
        refine lv_iadd hx hb dc_Law_law_161 ?_
        obtain ⟨v10, ev10, hF⟩ := pl_bd hF
        refine pl_sld hx hb X.1 X.2.1 X.2.2 hS ev10 dc_Law_law_162 ?_
        refine lv_i2l hx hb dc_Law_law_163 rfl ?_
        refine lv_ldc2 (v := 4294967295) hx hb hown (hts _ mw_1023) dc_Law_law_164 ?_
        refine lv_land hx hb dc_Law_law_167 ?_
        refine lv_lor hx hb dc_Law_law_168 ?_
        obtain ⟨u12, eu12, hF⟩ := pl_bd hF
        obtain ⟨q11, eq11, hF⟩ := pl_bd hF
        refine pl_gi (pl_runV (Cn := rn_L) (k := 2) C (tm_L_grant l D dA tt s.heap.size (s.heap.size + 114) eq11) w hS rfl rfl mw_290 mw_291 mw_292 mw_64 mw_293 (by decide +kernel) ⟨by decide, by decide⟩ eu12 rfl (by decide) rfl hl.1 (Nat.le_of_ble_eq_true rfl) ⟨by decide, by decide⟩ rfl dc_Law_law_169) hS (fun H locs w hS => ?_)
        have w : pl_wd D vwCl dA s.heap.size (s.heap.size + 114) q11.2 H := w
        refine lv_aload_n hx hb dc_Law_law_172 rfl (lv_at hl 2 rfl) ?_
        refine lv_aload_n hx hb dc_Law_law_173 rfl (lv_at hl 0 rfl) ?_
        refine lv_iload_n hx hb dc_Law_law_174 rfl (lv_at hl 3 rfl) ?_
        refine lv_iconst (v := 1) hx hb dc_Law_law_175 (by decide) ?_
        refine lv_iadd hx hb dc_Law_law_176 ?_
        obtain ⟨v13, ev13, hF⟩ := pl_bd hF
        refine pl_sld hx hb X.1 X.2.1 X.2.2 hS ev13 dc_Law_law_177 ?_
        refine lv_aload_n hx hb dc_Law_law_178 rfl (lv_at hl 0 rfl) ?_
        refine lv_iload_n hx hb dc_Law_law_179 rfl (lv_at hl 3 rfl) ?_
        refine lv_iconst (v := 2) hx hb dc_Law_law_180 (by decide) ?_
        refine lv_iadd hx hb dc_Law_law_181 ?_
        obtain ⟨v14, ev14, hF⟩ := pl_bd hF
        refine pl_sld hx hb X.1 X.2.1 X.2.2 hS ev14 dc_Law_law_182 ?_
        refine lv_i2l hx hb dc_Law_law_183 rfl ?_
        refine lv_bipush (v := 32) hx hb dc_Law_law_184 (by decide) ?_
        refine lv_lshl hx hb dc_Law_law_186 rfl ?_
        refine lv_aload_n hx hb dc_Law_law_187 rfl (lv_at hl 0 rfl) ?_
        refine lv_iload_n hx hb dc_Law_law_188 rfl (lv_at hl 3 rfl) ?_
        refine lv_iconst (v := 3) hx hb dc_Law_law_189 (by decide) ?_
        refine lv_iadd hx hb dc_Law_law_190 ?_
        obtain ⟨v15, ev15, hF⟩ := pl_bd hF
        refine pl_sld hx hb X.1 X.2.1 X.2.2 hS ev15 dc_Law_law_191 ?_
        refine lv_i2l hx hb dc_Law_law_192 rfl ?_
        refine lv_ldc2 (v := 4294967295) hx hb hown (hts _ mw_1023) dc_Law_law_193 ?_
        refine lv_land hx hb dc_Law_law_196 ?_
        refine lv_lor hx hb dc_Law_law_197 ?_
        obtain ⟨u17, eu17, hF⟩ := pl_bd hF
        obtain ⟨q16, eq16, hF⟩ := pl_bd hF
        refine pl_gi (pl_runV (Cn := rn_M) (k := 2) C (tm_M_grant l D dA tt s.heap.size (s.heap.size + 114) eq16) w hS rfl rfl mw_809 mw_810 mw_811 mw_72 mw_812 (by decide +kernel) ⟨by decide, by decide⟩ eu17 rfl (by decide) rfl hl.1 (Nat.le_of_ble_eq_true rfl) ⟨by decide, by decide⟩ rfl dc_Law_law_198) hS (fun H locs w hS => ?_)
        have w : pl_wd D vwCl dA s.heap.size (s.heap.size + 114) q16.2 H := w
        refine lv_icmp_eq hx hb dc_Law_law_201 (tgt := 671) (by decide) (fun hc => ?_) (fun hc => ?_)
        · have hF := (if_pos hc).symm.trans hF
          exact tl_Law_law_671 C X ih hF w hS (lv_sub hl [0, 1, 2, 3] rfl)
        · have hF := (if_neg hc).symm.trans hF
          refine lv_iconst (v := 0) hx hb dc_Law_law_204 (by decide) ?_
          exact absurd (Option.some.inj hF) (by decide)
      have hF := (if_neg hc1).symm.trans hF
      by_cases hc2 : (v1 &&& 31) = 2
      · have hF := (if_pos hc2).symm.trans hF
        refine lv_tableIn hx hb dc_Law_law_33 (tgt := 206) (off := 173) (by rw [hc2]; decide) (by rw [hc2]; decide) (by rw [hc2]; decide) (by decide) ?_
        refine lv_aload_n hx hb dc_Law_law_206 rfl (lv_at hl 1 rfl) ?_
        refine lv_aload_n hx hb dc_Law_law_207 rfl (lv_at hl 0 rfl) ?_
        refine lv_iload_n hx hb dc_Law_law_208 rfl (lv_at hl 3 rfl) ?_
        refine lv_iconst (v := 1) hx hb dc_Law_law_209 (by decide) ?_
        refine lv_iadd hx hb dc_Law_law_210 ?_
        obtain ⟨v18, ev18, hF⟩ := pl_bd hF
        refine pl_sld hx hb X.1 X.2.1 X.2.2 hS ev18 dc_Law_law_211 ?_
        refine lv_aload_n hx hb dc_Law_law_212 rfl (lv_at hl 0 rfl) ?_
        refine lv_iload_n hx hb dc_Law_law_213 rfl (lv_at hl 3 rfl) ?_
        refine lv_iconst (v := 2) hx hb dc_Law_law_214 (by decide) ?_
        refine lv_iadd hx hb dc_Law_law_215 ?_
        obtain ⟨v19, ev19, hF⟩ := pl_bd hF
        refine pl_sld hx hb X.1 X.2.1 X.2.2 hS ev19 dc_Law_law_216 ?_
        refine lv_aload_n hx hb dc_Law_law_217 rfl (lv_at hl 0 rfl) ?_
        refine lv_iload_n hx hb dc_Law_law_218 rfl (lv_at hl 3 rfl) ?_
        refine lv_iconst (v := 3) hx hb dc_Law_law_219 (by decide) ?_
        refine lv_iadd hx hb dc_Law_law_220 ?_
        obtain ⟨v20, ev20, hF⟩ := pl_bd hF
        refine pl_sld hx hb X.1 X.2.1 X.2.2 hS ev20 dc_Law_law_221 ?_
        refine lv_i2l hx hb dc_Law_law_222 rfl ?_
        refine lv_bipush (v := 32) hx hb dc_Law_law_223 (by decide) ?_
        refine lv_lshl hx hb dc_Law_law_225 rfl ?_
        refine lv_aload_n hx hb dc_Law_law_226 rfl (lv_at hl 0 rfl) ?_
        refine lv_iload_n hx hb dc_Law_law_227 rfl (lv_at hl 3 rfl) ?_
        refine lv_iconst (v := 4) hx hb dc_Law_law_228 (by decide) ?_
        refine lv_iadd hx hb dc_Law_law_229 ?_
        obtain ⟨v21, ev21, hF⟩ := pl_bd hF
        refine pl_sld hx hb X.1 X.2.1 X.2.2 hS ev21 dc_Law_law_230 ?_
        refine lv_i2l hx hb dc_Law_law_231 rfl ?_
        refine lv_ldc2 (v := 4294967295) hx hb hown (hts _ mw_1023) dc_Law_law_232 ?_
        refine lv_land hx hb dc_Law_law_235 ?_
        refine lv_lor hx hb dc_Law_law_236 ?_
        refine lv_aload_n hx hb dc_Law_law_237 rfl (lv_at hl 0 rfl) ?_
        refine lv_iload_n hx hb dc_Law_law_238 rfl (lv_at hl 3 rfl) ?_
        refine lv_iconst (v := 5) hx hb dc_Law_law_239 (by decide) ?_
        refine lv_iadd hx hb dc_Law_law_240 ?_
        obtain ⟨v22, ev22, hF⟩ := pl_bd hF
        refine pl_sld hx hb X.1 X.2.1 X.2.2 hS ev22 dc_Law_law_241 ?_
        refine lv_i2l hx hb dc_Law_law_242 rfl ?_
        refine lv_bipush (v := 32) hx hb dc_Law_law_243 (by decide) ?_
        refine lv_lshl hx hb dc_Law_law_245 rfl ?_
        refine lv_aload_n hx hb dc_Law_law_246 rfl (lv_at hl 0 rfl) ?_
        refine lv_iload_n hx hb dc_Law_law_247 rfl (lv_at hl 3 rfl) ?_
        refine lv_bipush (v := 6) hx hb dc_Law_law_248 (by decide) ?_
        refine lv_iadd hx hb dc_Law_law_250 ?_
        obtain ⟨v23, ev23, hF⟩ := pl_bd hF
        refine pl_sld hx hb X.1 X.2.1 X.2.2 hS ev23 dc_Law_law_251 ?_
        refine lv_i2l hx hb dc_Law_law_252 rfl ?_
        refine lv_ldc2 (v := 4294967295) hx hb hown (hts _ mw_1023) dc_Law_law_253 ?_
        refine lv_land hx hb dc_Law_law_256 ?_
        refine lv_lor hx hb dc_Law_law_257 ?_
        refine lv_aload_n hx hb dc_Law_law_258 rfl (lv_at hl 0 rfl) ?_
        refine lv_iload_n hx hb dc_Law_law_259 rfl (lv_at hl 3 rfl) ?_
        refine lv_bipush (v := 7) hx hb dc_Law_law_260 (by decide) ?_
        refine lv_iadd hx hb dc_Law_law_262 ?_
        obtain ⟨v24, ev24, hF⟩ := pl_bd hF
        refine pl_sld hx hb X.1 X.2.1 X.2.2 hS ev24 dc_Law_law_263 ?_
        obtain ⟨u26, eu26, hF⟩ := pl_bd hF
        obtain ⟨q25, eq25, hF⟩ := pl_bd hF
        refine pl_gi (pl_runV (Cn := rn_L) (k := 5) C (tm_L_send l D dA tt s.heap.size (s.heap.size + 114) eq25) w hS rfl rfl mw_339 mw_340 mw_341 mw_64 mw_342 (by decide +kernel) ⟨by decide, by decide⟩ eu26 rfl (by decide) rfl hl.1 (Nat.le_of_ble_eq_true rfl) ⟨by decide, by decide⟩ rfl dc_Law_law_264) hS (fun H locs w hS => ?_)
        have w : pl_wd D vwCl dA s.heap.size (s.heap.size + 114) q25.2 H := w
        refine lv_aload_n hx hb dc_Law_law_267 rfl (lv_at hl 2 rfl) ?_
        refine lv_aload_n hx hb dc_Law_law_268 rfl (lv_at hl 0 rfl) ?_
        refine lv_iload_n hx hb dc_Law_law_269 rfl (lv_at hl 3 rfl) ?_
        refine lv_iconst (v := 1) hx hb dc_Law_law_270 (by decide) ?_
        refine lv_iadd hx hb dc_Law_law_271 ?_
        obtain ⟨v27, ev27, hF⟩ := pl_bd hF
        refine pl_sld hx hb X.1 X.2.1 X.2.2 hS ev27 dc_Law_law_272 ?_
        refine lv_aload_n hx hb dc_Law_law_273 rfl (lv_at hl 0 rfl) ?_
        refine lv_iload_n hx hb dc_Law_law_274 rfl (lv_at hl 3 rfl) ?_
        refine lv_iconst (v := 2) hx hb dc_Law_law_275 (by decide) ?_
        refine lv_iadd hx hb dc_Law_law_276 ?_
        obtain ⟨v28, ev28, hF⟩ := pl_bd hF
        refine pl_sld hx hb X.1 X.2.1 X.2.2 hS ev28 dc_Law_law_277 ?_
        refine lv_aload_n hx hb dc_Law_law_278 rfl (lv_at hl 0 rfl) ?_
        refine lv_iload_n hx hb dc_Law_law_279 rfl (lv_at hl 3 rfl) ?_
        refine lv_iconst (v := 3) hx hb dc_Law_law_280 (by decide) ?_
        refine lv_iadd hx hb dc_Law_law_281 ?_
        obtain ⟨v29, ev29, hF⟩ := pl_bd hF
        refine pl_sld hx hb X.1 X.2.1 X.2.2 hS ev29 dc_Law_law_282 ?_
        refine lv_i2l hx hb dc_Law_law_283 rfl ?_
        refine lv_bipush (v := 32) hx hb dc_Law_law_284 (by decide) ?_
        refine lv_lshl hx hb dc_Law_law_286 rfl ?_
        refine lv_aload_n hx hb dc_Law_law_287 rfl (lv_at hl 0 rfl) ?_
        refine lv_iload_n hx hb dc_Law_law_288 rfl (lv_at hl 3 rfl) ?_
        refine lv_iconst (v := 4) hx hb dc_Law_law_289 (by decide) ?_
        refine lv_iadd hx hb dc_Law_law_290 ?_
        obtain ⟨v30, ev30, hF⟩ := pl_bd hF
        refine pl_sld hx hb X.1 X.2.1 X.2.2 hS ev30 dc_Law_law_291 ?_
        refine lv_i2l hx hb dc_Law_law_292 rfl ?_
        refine lv_ldc2 (v := 4294967295) hx hb hown (hts _ mw_1023) dc_Law_law_293 ?_
        refine lv_land hx hb dc_Law_law_296 ?_
        refine lv_lor hx hb dc_Law_law_297 ?_
        refine lv_aload_n hx hb dc_Law_law_298 rfl (lv_at hl 0 rfl) ?_
        refine lv_iload_n hx hb dc_Law_law_299 rfl (lv_at hl 3 rfl) ?_
        refine lv_iconst (v := 5) hx hb dc_Law_law_300 (by decide) ?_
        refine lv_iadd hx hb dc_Law_law_301 ?_
        obtain ⟨v31, ev31, hF⟩ := pl_bd hF
        refine pl_sld hx hb X.1 X.2.1 X.2.2 hS ev31 dc_Law_law_302 ?_
        refine lv_i2l hx hb dc_Law_law_303 rfl ?_
        refine lv_bipush (v := 32) hx hb dc_Law_law_304 (by decide) ?_
        refine lv_lshl hx hb dc_Law_law_306 rfl ?_
        refine lv_aload_n hx hb dc_Law_law_307 rfl (lv_at hl 0 rfl) ?_
        refine lv_iload_n hx hb dc_Law_law_308 rfl (lv_at hl 3 rfl) ?_
        refine lv_bipush (v := 6) hx hb dc_Law_law_309 (by decide) ?_
        refine lv_iadd hx hb dc_Law_law_311 ?_
        obtain ⟨v32, ev32, hF⟩ := pl_bd hF
        refine pl_sld hx hb X.1 X.2.1 X.2.2 hS ev32 dc_Law_law_312 ?_
        refine lv_i2l hx hb dc_Law_law_313 rfl ?_
        refine lv_ldc2 (v := 4294967295) hx hb hown (hts _ mw_1023) dc_Law_law_314 ?_
        refine lv_land hx hb dc_Law_law_317 ?_
        refine lv_lor hx hb dc_Law_law_318 ?_
        refine lv_aload_n hx hb dc_Law_law_319 rfl (lv_at hl 0 rfl) ?_
        refine lv_iload_n hx hb dc_Law_law_320 rfl (lv_at hl 3 rfl) ?_
        refine lv_bipush (v := 7) hx hb dc_Law_law_321 (by decide) ?_
        refine lv_iadd hx hb dc_Law_law_323 ?_
        obtain ⟨v33, ev33, hF⟩ := pl_bd hF
        refine pl_sld hx hb X.1 X.2.1 X.2.2 hS ev33 dc_Law_law_324 ?_
        obtain ⟨u35, eu35, hF⟩ := pl_bd hF
        obtain ⟨q34, eq34, hF⟩ := pl_bd hF
        refine pl_gi (pl_runV (Cn := rn_M) (k := 5) C (tm_M_send l D dA tt s.heap.size (s.heap.size + 114) eq34) w hS rfl rfl mw_822 mw_823 mw_824 mw_72 mw_825 (by decide +kernel) ⟨by decide, by decide⟩ eu35 rfl (by decide) rfl hl.1 (Nat.le_of_ble_eq_true rfl) ⟨by decide, by decide⟩ rfl dc_Law_law_325) hS (fun H locs w hS => ?_)
        have w : pl_wd D vwCl dA s.heap.size (s.heap.size + 114) q34.2 H := w
        refine lv_icmp_eq hx hb dc_Law_law_328 (tgt := 671) (by decide) (fun hc => ?_) (fun hc => ?_)
        · have hF := (if_pos hc).symm.trans hF
          exact tl_Law_law_671 C X ih hF w hS (lv_sub hl [0, 1, 2, 3] rfl)
        · have hF := (if_neg hc).symm.trans hF
          refine lv_iconst (v := 0) hx hb dc_Law_law_331 (by decide) ?_
          exact absurd (Option.some.inj hF) (by decide)
      have hF := (if_neg hc2).symm.trans hF
      by_cases hc3 : (v1 &&& 31) = 3
      · have hF := (if_pos hc3).symm.trans hF
        refine lv_tableIn hx hb dc_Law_law_33 (tgt := 333) (off := 300) (by rw [hc3]; decide) (by rw [hc3]; decide) (by rw [hc3]; decide) (by decide) ?_
        refine lv_aload_n hx hb dc_Law_law_333 rfl (lv_at hl 1 rfl) ?_
        refine lv_aload_n hx hb dc_Law_law_334 rfl (lv_at hl 0 rfl) ?_
        refine lv_iload_n hx hb dc_Law_law_335 rfl (lv_at hl 3 rfl) ?_
        refine lv_iconst (v := 1) hx hb dc_Law_law_336 (by decide) ?_
        refine lv_iadd hx hb dc_Law_law_337 ?_
        obtain ⟨v36, ev36, hF⟩ := pl_bd hF
        refine pl_sld hx hb X.1 X.2.1 X.2.2 hS ev36 dc_Law_law_338 ?_
        obtain ⟨u38, eu38, hF⟩ := pl_bd hF
        obtain ⟨q37, eq37, hF⟩ := pl_bd hF
        refine pl_gi (pl_runV (Cn := rn_L) (k := 1) C (tm_L_close l D dA tt s.heap.size (s.heap.size + 114) eq37) w hS rfl rfl mw_353 mw_354 mw_355 mw_64 mw_356 (by decide +kernel) ⟨by decide, by decide⟩ eu38 rfl (by decide) rfl hl.1 (Nat.le_of_ble_eq_true rfl) ⟨by decide, by decide⟩ rfl dc_Law_law_339) hS (fun H locs w hS => ?_)
        have w : pl_wd D vwCl dA s.heap.size (s.heap.size + 114) q37.2 H := w
        refine lv_aload_n hx hb dc_Law_law_342 rfl (lv_at hl 2 rfl) ?_
        refine lv_aload_n hx hb dc_Law_law_343 rfl (lv_at hl 0 rfl) ?_
        refine lv_iload_n hx hb dc_Law_law_344 rfl (lv_at hl 3 rfl) ?_
        refine lv_iconst (v := 1) hx hb dc_Law_law_345 (by decide) ?_
        refine lv_iadd hx hb dc_Law_law_346 ?_
        obtain ⟨v39, ev39, hF⟩ := pl_bd hF
        refine pl_sld hx hb X.1 X.2.1 X.2.2 hS ev39 dc_Law_law_347 ?_
        obtain ⟨u41, eu41, hF⟩ := pl_bd hF
        obtain ⟨q40, eq40, hF⟩ := pl_bd hF
        refine pl_gi (pl_runV (Cn := rn_M) (k := 1) C (tm_M_close l D dA tt s.heap.size (s.heap.size + 114) eq40) w hS rfl rfl mw_837 mw_838 mw_839 mw_72 mw_840 (by decide +kernel) ⟨by decide, by decide⟩ eu41 rfl (by decide) rfl hl.1 (Nat.le_of_ble_eq_true rfl) ⟨by decide, by decide⟩ rfl dc_Law_law_348) hS (fun H locs w hS => ?_)
        have w : pl_wd D vwCl dA s.heap.size (s.heap.size + 114) q40.2 H := w
        refine lv_icmp_eq hx hb dc_Law_law_351 (tgt := 671) (by decide) (fun hc => ?_) (fun hc => ?_)
        · have hF := (if_pos hc).symm.trans hF
          exact tl_Law_law_671 C X ih hF w hS (lv_sub hl [0, 1, 2, 3] rfl)
        · have hF := (if_neg hc).symm.trans hF
          refine lv_iconst (v := 0) hx hb dc_Law_law_354 (by decide) ?_
          exact absurd (Option.some.inj hF) (by decide)
      have hF := (if_neg hc3).symm.trans hF
      by_cases hc4 : (v1 &&& 31) = 4
      · have hF := (if_pos hc4).symm.trans hF
        refine lv_tableIn hx hb dc_Law_law_33 (tgt := 356) (off := 323) (by rw [hc4]; decide) (by rw [hc4]; decide) (by rw [hc4]; decide) (by decide) ?_
        refine lv_aload_n hx hb dc_Law_law_356 rfl (lv_at hl 1 rfl) ?_
        refine lv_aload_n hx hb dc_Law_law_357 rfl (lv_at hl 0 rfl) ?_
        refine lv_iload_n hx hb dc_Law_law_358 rfl (lv_at hl 3 rfl) ?_
        refine lv_iconst (v := 1) hx hb dc_Law_law_359 (by decide) ?_
        refine lv_iadd hx hb dc_Law_law_360 ?_
        obtain ⟨v42, ev42, hF⟩ := pl_bd hF
        refine pl_sld hx hb X.1 X.2.1 X.2.2 hS ev42 dc_Law_law_361 ?_
        obtain ⟨u44, eu44, hF⟩ := pl_bd hF
        obtain ⟨v43, ev43, hF⟩ := pl_bd hF
        refine pl_gi (pl_runV (Cn := rn_L) (k := 1) C (tm_L_nonce l D dA tt s.heap.size (s.heap.size + 114) ev43) w hS rfl rfl mw_357 mw_358 mw_359 mw_64 mw_360 (by decide +kernel) ⟨by decide, by decide⟩ eu44 rfl (by decide) rfl hl.1 (Nat.le_of_ble_eq_true rfl) ⟨by decide, by decide⟩ rfl dc_Law_law_362) hS (fun H locs w hS => ?_)
        have w : pl_wd D vwCl dA s.heap.size (s.heap.size + 114) f H := w
        refine lv_aload_n hx hb dc_Law_law_365 rfl (lv_at hl 2 rfl) ?_
        refine lv_aload_n hx hb dc_Law_law_366 rfl (lv_at hl 0 rfl) ?_
        refine lv_iload_n hx hb dc_Law_law_367 rfl (lv_at hl 3 rfl) ?_
        refine lv_iconst (v := 1) hx hb dc_Law_law_368 (by decide) ?_
        refine lv_iadd hx hb dc_Law_law_369 ?_
        obtain ⟨v45, ev45, hF⟩ := pl_bd hF
        refine pl_sld hx hb X.1 X.2.1 X.2.2 hS ev45 dc_Law_law_370 ?_
        obtain ⟨u47, eu47, hF⟩ := pl_bd hF
        obtain ⟨v46, ev46, hF⟩ := pl_bd hF
        refine pl_gi (pl_runV (Cn := rn_M) (k := 1) C (tm_M_nonce l D dA tt s.heap.size (s.heap.size + 114) ev46) w hS rfl rfl mw_841 mw_830 mw_831 mw_72 mw_832 (by decide +kernel) ⟨by decide, by decide⟩ eu47 rfl (by decide) rfl hl.1 (Nat.le_of_ble_eq_true rfl) ⟨by decide, by decide⟩ rfl dc_Law_law_371) hS (fun H locs w hS => ?_)
        have w : pl_wd D vwCl dA s.heap.size (s.heap.size + 114) f H := w
        refine lv_icmp_eq hx hb dc_Law_law_374 (tgt := 671) (by decide) (fun hc => ?_) (fun hc => ?_)
        · have hF := (if_pos hc).symm.trans hF
          exact tl_Law_law_671 C X ih hF w hS (lv_sub hl [0, 1, 2, 3] rfl)
        · have hF := (if_neg hc).symm.trans hF
          refine lv_iconst (v := 0) hx hb dc_Law_law_377 (by decide) ?_
          exact absurd (Option.some.inj hF) (by decide)
      have hF := (if_neg hc4).symm.trans hF
      by_cases hc5 : (v1 &&& 31) = 5
      · have hF := (if_pos hc5).symm.trans hF
        refine lv_tableIn hx hb dc_Law_law_33 (tgt := 379) (off := 346) (by rw [hc5]; decide) (by rw [hc5]; decide) (by rw [hc5]; decide) (by decide) ?_
        refine lv_aload_n hx hb dc_Law_law_379 rfl (lv_at hl 1 rfl) ?_
        refine lv_aload_n hx hb dc_Law_law_380 rfl (lv_at hl 0 rfl) ?_
        refine lv_iload_n hx hb dc_Law_law_381 rfl (lv_at hl 3 rfl) ?_
        refine lv_iconst (v := 1) hx hb dc_Law_law_382 (by decide) ?_
        refine lv_iadd hx hb dc_Law_law_383 ?_
        obtain ⟨v48, ev48, hF⟩ := pl_bd hF
        refine pl_sld hx hb X.1 X.2.1 X.2.2 hS ev48 dc_Law_law_384 ?_
        obtain ⟨u50, eu50, hF⟩ := pl_bd hF
        obtain ⟨v49, ev49, hF⟩ := pl_bd hF
        refine pl_gl (pl_runV (Cn := rn_L) (k := 1) C (tm_L_balance l D dA tt s.heap.size (s.heap.size + 114) ev49) w hS rfl rfl mw_361 mw_362 mw_363 mw_64 mw_364 (by decide +kernel) ⟨by decide, by decide⟩ eu50 rfl (by decide) rfl hl.1 (Nat.le_of_ble_eq_true rfl) ⟨by decide, by decide⟩ rfl dc_Law_law_385) hS (fun H locs w hS => ?_)
        have w : pl_wd D vwCl dA s.heap.size (s.heap.size + 114) f H := w
        refine lv_aload_n hx hb dc_Law_law_388 rfl (lv_at hl 2 rfl) ?_
        refine lv_aload_n hx hb dc_Law_law_389 rfl (lv_at hl 0 rfl) ?_
        refine lv_iload_n hx hb dc_Law_law_390 rfl (lv_at hl 3 rfl) ?_
        refine lv_iconst (v := 1) hx hb dc_Law_law_391 (by decide) ?_
        refine lv_iadd hx hb dc_Law_law_392 ?_
        obtain ⟨v51, ev51, hF⟩ := pl_bd hF
        refine pl_sld hx hb X.1 X.2.1 X.2.2 hS ev51 dc_Law_law_393 ?_
        obtain ⟨u53, eu53, hF⟩ := pl_bd hF
        obtain ⟨v52, ev52, hF⟩ := pl_bd hF
        refine pl_gl (pl_runV (Cn := rn_M) (k := 1) C (tm_M_balance l D dA tt s.heap.size (s.heap.size + 114) ev52) w hS rfl rfl mw_842 mw_834 mw_835 mw_72 mw_836 (by decide +kernel) ⟨by decide, by decide⟩ eu53 rfl (by decide) rfl hl.1 (Nat.le_of_ble_eq_true rfl) ⟨by decide, by decide⟩ rfl dc_Law_law_394) hS (fun H locs w hS => ?_)
        have w : pl_wd D vwCl dA s.heap.size (s.heap.size + 114) f H := w
        refine W.lcmp hx hb dc_Law_law_397 ?_
        refine lv_if_eq hx hb dc_Law_law_398 (tgt := 671) (by decide) (fun hc => ?_) (fun hc => ?_)
        · have hF := (if_pos hc).symm.trans hF
          exact tl_Law_law_671 C X ih hF w hS (lv_sub hl [0, 1, 2, 3] rfl)
        · have hF := (if_neg hc).symm.trans hF
          refine lv_iconst (v := 0) hx hb dc_Law_law_401 (by decide) ?_
          exact absurd (Option.some.inj hF) (by decide)
      have hF := (if_neg hc5).symm.trans hF
      by_cases hc6 : (v1 &&& 31) = 6
      · have hF := (if_pos hc6).symm.trans hF
        refine lv_tableIn hx hb dc_Law_law_33 (tgt := 403) (off := 370) (by rw [hc6]; decide) (by rw [hc6]; decide) (by rw [hc6]; decide) (by decide) ?_
        refine lv_aload_n hx hb dc_Law_law_403 rfl (lv_at hl 1 rfl) ?_
        obtain ⟨u55, eu55, hF⟩ := pl_bd hF
        obtain ⟨v54, ev54, hF⟩ := pl_bd hF
        refine pl_gi (pl_runV (Cn := rn_L) (k := 0) C (tm_L_accounts l D dA tt s.heap.size (s.heap.size + 114) ev54) w hS rfl rfl mw_365 mw_366 mw_367 mw_64 mw_368 (by decide +kernel) ⟨by decide, by decide⟩ eu55 rfl (by decide) rfl hl.1 (Nat.le_of_ble_eq_true rfl) ⟨by decide, by decide⟩ rfl dc_Law_law_404) hS (fun H locs w hS => ?_)
        have w : pl_wd D vwCl dA s.heap.size (s.heap.size + 114) f H := w
        refine lv_aload_n hx hb dc_Law_law_407 rfl (lv_at hl 2 rfl) ?_
        obtain ⟨u57, eu57, hF⟩ := pl_bd hF
        obtain ⟨v56, ev56, hF⟩ := pl_bd hF
        refine pl_gi (pl_runV (Cn := rn_M) (k := 0) C (tm_M_accounts l D dA tt s.heap.size (s.heap.size + 114) ev56) w hS rfl rfl mw_843 mw_844 mw_845 mw_72 mw_846 (by decide +kernel) ⟨by decide, by decide⟩ eu57 rfl (by decide) rfl hl.1 (Nat.le_of_ble_eq_true rfl) ⟨by decide, by decide⟩ rfl dc_Law_law_408) hS (fun H locs w hS => ?_)
        have w : pl_wd D vwCl dA s.heap.size (s.heap.size + 114) f H := w
        refine lv_icmp_eq hx hb dc_Law_law_411 (tgt := 671) (by decide) (fun hc => ?_) (fun hc => ?_)
        · have hF := (if_pos hc).symm.trans hF
          exact tl_Law_law_671 C X ih hF w hS (lv_sub hl [0, 1, 2, 3] rfl)
        · have hF := (if_neg hc).symm.trans hF
          refine lv_iconst (v := 0) hx hb dc_Law_law_414 (by decide) ?_
          exact absurd (Option.some.inj hF) (by decide)
      have hF := (if_neg hc6).symm.trans hF
      by_cases hc7 : (v1 &&& 31) = 7
      · have hF := (if_pos hc7).symm.trans hF
        refine lv_tableIn hx hb dc_Law_law_33 (tgt := 416) (off := 383) (by rw [hc7]; decide) (by rw [hc7]; decide) (by rw [hc7]; decide) (by decide) ?_
        refine lv_aload_n hx hb dc_Law_law_416 rfl (lv_at hl 1 rfl) ?_
        refine lv_aload_n hx hb dc_Law_law_417 rfl (lv_at hl 0 rfl) ?_
        refine lv_iload_n hx hb dc_Law_law_418 rfl (lv_at hl 3 rfl) ?_
        refine lv_iconst (v := 1) hx hb dc_Law_law_419 (by decide) ?_
        refine lv_iadd hx hb dc_Law_law_420 ?_
        obtain ⟨v58, ev58, hF⟩ := pl_bd hF
        refine pl_sld hx hb X.1 X.2.1 X.2.2 hS ev58 dc_Law_law_421 ?_
        obtain ⟨u60, eu60, hF⟩ := pl_bd hF
        obtain ⟨q59, eq59, hF⟩ := pl_bd hF
        refine pl_gl (pl_runV (Cn := rn_L) (k := 1) C (tm_L_root l D dA tt s.heap.size (s.heap.size + 114) eq59) w hS rfl rfl mw_369 mw_370 mw_371 mw_64 mw_372 (by decide +kernel) ⟨by decide, by decide⟩ eu60 rfl (by decide) rfl hl.1 (Nat.le_of_ble_eq_true rfl) ⟨by decide, by decide⟩ rfl dc_Law_law_422) hS (fun H locs w hS => ?_)
        have w : pl_wd D vwCl dA s.heap.size (s.heap.size + 114) q59.2 H := w
        refine lv_aload_n hx hb dc_Law_law_425 rfl (lv_at hl 2 rfl) ?_
        refine lv_aload_n hx hb dc_Law_law_426 rfl (lv_at hl 0 rfl) ?_
        refine lv_iload_n hx hb dc_Law_law_427 rfl (lv_at hl 3 rfl) ?_
        refine lv_iconst (v := 1) hx hb dc_Law_law_428 (by decide) ?_
        refine lv_iadd hx hb dc_Law_law_429 ?_
        obtain ⟨v61, ev61, hF⟩ := pl_bd hF
        refine pl_sld hx hb X.1 X.2.1 X.2.2 hS ev61 dc_Law_law_430 ?_
        obtain ⟨u63, eu63, hF⟩ := pl_bd hF
        obtain ⟨q62, eq62, hF⟩ := pl_bd hF
        refine pl_gl (pl_runV (Cn := rn_M) (k := 1) C (tm_M_root l D dA tt s.heap.size (s.heap.size + 114) eq62) w hS rfl rfl mw_847 mw_848 mw_849 mw_72 mw_850 (by decide +kernel) ⟨by decide, by decide⟩ eu63 rfl (by decide) rfl hl.1 (Nat.le_of_ble_eq_true rfl) ⟨by decide, by decide⟩ rfl dc_Law_law_431) hS (fun H locs w hS => ?_)
        have w : pl_wd D vwCl dA s.heap.size (s.heap.size + 114) q62.2 H := w
        refine W.lcmp hx hb dc_Law_law_434 ?_
        refine lv_if_eq hx hb dc_Law_law_435 (tgt := 671) (by decide) (fun hc => ?_) (fun hc => ?_)
        · have hF := (if_pos hc).symm.trans hF
          exact tl_Law_law_671 C X ih hF w hS (lv_sub hl [0, 1, 2, 3] rfl)
        · have hF := (if_neg hc).symm.trans hF
          refine lv_iconst (v := 0) hx hb dc_Law_law_438 (by decide) ?_
          exact absurd (Option.some.inj hF) (by decide)
      have hF := (if_neg hc7).symm.trans hF
      by_cases hc8 : (v1 &&& 31) = 8
      · have hF := (if_pos hc8).symm.trans hF
        refine lv_tableIn hx hb dc_Law_law_33 (tgt := 440) (off := 407) (by rw [hc8]; decide) (by rw [hc8]; decide) (by rw [hc8]; decide) (by decide) ?_
        refine lv_aload_n hx hb dc_Law_law_440 rfl (lv_at hl 1 rfl) ?_
        refine lv_aload_n hx hb dc_Law_law_441 rfl (lv_at hl 0 rfl) ?_
        refine lv_iload_n hx hb dc_Law_law_442 rfl (lv_at hl 3 rfl) ?_
        refine lv_iconst (v := 1) hx hb dc_Law_law_443 (by decide) ?_
        refine lv_iadd hx hb dc_Law_law_444 ?_
        obtain ⟨v64, ev64, hF⟩ := pl_bd hF
        refine pl_sld hx hb X.1 X.2.1 X.2.2 hS ev64 dc_Law_law_445 ?_
        obtain ⟨u66, eu66, hF⟩ := pl_bd hF
        obtain ⟨q65, eq65, hF⟩ := pl_bd hF
        refine pl_gi (pl_runV (Cn := rn_L) (k := 1) C (tm_L_nodes l D dA tt s.heap.size (s.heap.size + 114) eq65) w hS rfl rfl mw_508 mw_509 mw_510 mw_64 mw_511 (by decide +kernel) ⟨by decide, by decide⟩ eu66 rfl (by decide) rfl hl.1 (Nat.le_of_ble_eq_true rfl) ⟨by decide, by decide⟩ rfl dc_Law_law_446) hS (fun H locs w hS => ?_)
        have w : pl_wd D vwCl dA s.heap.size (s.heap.size + 114) q65.2 H := w
        refine lv_aload_n hx hb dc_Law_law_449 rfl (lv_at hl 2 rfl) ?_
        refine lv_aload_n hx hb dc_Law_law_450 rfl (lv_at hl 0 rfl) ?_
        refine lv_iload_n hx hb dc_Law_law_451 rfl (lv_at hl 3 rfl) ?_
        refine lv_iconst (v := 1) hx hb dc_Law_law_452 (by decide) ?_
        refine lv_iadd hx hb dc_Law_law_453 ?_
        obtain ⟨v67, ev67, hF⟩ := pl_bd hF
        refine pl_sld hx hb X.1 X.2.1 X.2.2 hS ev67 dc_Law_law_454 ?_
        obtain ⟨u69, eu69, hF⟩ := pl_bd hF
        obtain ⟨q68, eq68, hF⟩ := pl_bd hF
        refine pl_gi (pl_runV (Cn := rn_M) (k := 1) C (tm_M_nodes l D dA tt s.heap.size (s.heap.size + 114) eq68) w hS rfl rfl mw_927 mw_928 mw_929 mw_72 mw_930 (by decide +kernel) ⟨by decide, by decide⟩ eu69 rfl (by decide) rfl hl.1 (Nat.le_of_ble_eq_true rfl) ⟨by decide, by decide⟩ rfl dc_Law_law_455) hS (fun H locs w hS => ?_)
        have w : pl_wd D vwCl dA s.heap.size (s.heap.size + 114) q68.2 H := w
        refine lv_icmp_eq hx hb dc_Law_law_458 (tgt := 671) (by decide) (fun hc => ?_) (fun hc => ?_)
        · have hF := (if_pos hc).symm.trans hF
          exact tl_Law_law_671 C X ih hF w hS (lv_sub hl [0, 1, 2, 3] rfl)
        · have hF := (if_neg hc).symm.trans hF
          refine lv_iconst (v := 0) hx hb dc_Law_law_461 (by decide) ?_
          exact absurd (Option.some.inj hF) (by decide)
      have hF := (if_neg hc8).symm.trans hF
      by_cases hc9 : (v1 &&& 31) = 9
      · have hF := (if_pos hc9).symm.trans hF
        refine lv_tableIn hx hb dc_Law_law_33 (tgt := 463) (off := 430) (by rw [hc9]; decide) (by rw [hc9]; decide) (by rw [hc9]; decide) (by decide) ?_
        refine lv_aload_n hx hb dc_Law_law_463 rfl (lv_at hl 1 rfl) ?_
        obtain ⟨u71, eu71, hF⟩ := pl_bd hF
        obtain ⟨q70, eq70, hF⟩ := pl_bd hF
        refine pl_gi (pl_runV (Cn := rn_L) (k := 0) C (tm_L_size l D dA tt s.heap.size (s.heap.size + 114) eq70) w hS rfl rfl mw_516 mw_517 mw_518 mw_64 mw_519 (by decide +kernel) ⟨by decide, by decide⟩ eu71 rfl (by decide) rfl hl.1 (Nat.le_of_ble_eq_true rfl) ⟨by decide, by decide⟩ rfl dc_Law_law_464) hS (fun H locs w hS => ?_)
        have w : pl_wd D vwCl dA s.heap.size (s.heap.size + 114) q70.2 H := w
        refine lv_aload_n hx hb dc_Law_law_467 rfl (lv_at hl 2 rfl) ?_
        obtain ⟨u73, eu73, hF⟩ := pl_bd hF
        obtain ⟨q72, eq72, hF⟩ := pl_bd hF
        refine pl_gi (pl_runV (Cn := rn_M) (k := 0) C (tm_M_size l D dA tt s.heap.size (s.heap.size + 114) eq72) w hS rfl rfl mw_935 mw_936 mw_937 mw_72 mw_938 (by decide +kernel) ⟨by decide, by decide⟩ eu73 rfl (by decide) rfl hl.1 (Nat.le_of_ble_eq_true rfl) ⟨by decide, by decide⟩ rfl dc_Law_law_468) hS (fun H locs w hS => ?_)
        have w : pl_wd D vwCl dA s.heap.size (s.heap.size + 114) q72.2 H := w
        refine lv_icmp_eq hx hb dc_Law_law_471 (tgt := 671) (by decide) (fun hc => ?_) (fun hc => ?_)
        · have hF := (if_pos hc).symm.trans hF
          exact tl_Law_law_671 C X ih hF w hS (lv_sub hl [0, 1, 2, 3] rfl)
        · have hF := (if_neg hc).symm.trans hF
          refine lv_iconst (v := 0) hx hb dc_Law_law_474 (by decide) ?_
          exact absurd (Option.some.inj hF) (by decide)
      have hF := (if_neg hc9).symm.trans hF
      by_cases hc10 : (v1 &&& 31) = 10
      · have hF := (if_pos hc10).symm.trans hF
        refine lv_tableIn hx hb dc_Law_law_33 (tgt := 476) (off := 443) (by rw [hc10]; decide) (by rw [hc10]; decide) (by rw [hc10]; decide) (by decide) ?_
        refine lv_aload_n hx hb dc_Law_law_476 rfl (lv_at hl 1 rfl) ?_
        refine lv_aload_n hx hb dc_Law_law_477 rfl (lv_at hl 0 rfl) ?_
        refine lv_iload_n hx hb dc_Law_law_478 rfl (lv_at hl 3 rfl) ?_
        refine lv_iconst (v := 1) hx hb dc_Law_law_479 (by decide) ?_
        refine lv_iadd hx hb dc_Law_law_480 ?_
        obtain ⟨v74, ev74, hF⟩ := pl_bd hF
        refine pl_sld hx hb X.1 X.2.1 X.2.2 hS ev74 dc_Law_law_481 ?_
        obtain ⟨u76, eu76, hF⟩ := pl_bd hF
        obtain ⟨q75, eq75, hF⟩ := pl_bd hF
        refine pl_gi (pl_runV (Cn := rn_L) (k := 1) C (tm_L_prove l D dA tt s.heap.size (s.heap.size + 114) eq75) w hS rfl rfl mw_524 mw_525 mw_526 mw_64 mw_527 (by decide +kernel) ⟨by decide, by decide⟩ eu76 rfl (by decide) rfl hl.1 (Nat.le_of_ble_eq_true rfl) ⟨by decide, by decide⟩ rfl dc_Law_law_482) hS (fun H locs w hS => ?_)
        have w : pl_wd D vwCl dA s.heap.size (s.heap.size + 114) q75.2 H := w
        refine lv_aload_n hx hb dc_Law_law_485 rfl (lv_at hl 2 rfl) ?_
        refine lv_aload_n hx hb dc_Law_law_486 rfl (lv_at hl 0 rfl) ?_
        refine lv_iload_n hx hb dc_Law_law_487 rfl (lv_at hl 3 rfl) ?_
        refine lv_iconst (v := 1) hx hb dc_Law_law_488 (by decide) ?_
        refine lv_iadd hx hb dc_Law_law_489 ?_
        obtain ⟨v77, ev77, hF⟩ := pl_bd hF
        refine pl_sld hx hb X.1 X.2.1 X.2.2 hS ev77 dc_Law_law_490 ?_
        obtain ⟨u79, eu79, hF⟩ := pl_bd hF
        obtain ⟨q78, eq78, hF⟩ := pl_bd hF
        refine pl_gi (pl_runV (Cn := rn_M) (k := 1) C (tm_M_prove l D dA tt s.heap.size (s.heap.size + 114) eq78) w hS rfl rfl mw_939 mw_940 mw_941 mw_72 mw_942 (by decide +kernel) ⟨by decide, by decide⟩ eu79 rfl (by decide) rfl hl.1 (Nat.le_of_ble_eq_true rfl) ⟨by decide, by decide⟩ rfl dc_Law_law_491) hS (fun H locs w hS => ?_)
        have w : pl_wd D vwCl dA s.heap.size (s.heap.size + 114) q78.2 H := w
        refine lv_icmp_eq hx hb dc_Law_law_494 (tgt := 671) (by decide) (fun hc => ?_) (fun hc => ?_)
        · have hF := (if_pos hc).symm.trans hF
          exact tl_Law_law_671 C X ih hF w hS (lv_sub hl [0, 1, 2, 3] rfl)
        · have hF := (if_neg hc).symm.trans hF
          refine lv_iconst (v := 0) hx hb dc_Law_law_497 (by decide) ?_
          exact absurd (Option.some.inj hF) (by decide)
      have hF := (if_neg hc10).symm.trans hF
      by_cases hc11 : (v1 &&& 31) = 11
      · have hF := (if_pos hc11).symm.trans hF
        refine lv_tableIn hx hb dc_Law_law_33 (tgt := 499) (off := 466) (by rw [hc11]; decide) (by rw [hc11]; decide) (by rw [hc11]; decide) (by decide) ?_
        refine lv_aload_n hx hb dc_Law_law_499 rfl (lv_at hl 1 rfl) ?_
        obtain ⟨u81, eu81, hF⟩ := pl_bd hF
        obtain ⟨v80, ev80, hF⟩ := pl_bd hF
        refine pl_gi (pl_runV (Cn := rn_L) (k := 0) C (tm_L_parts l D dA tt s.heap.size (s.heap.size + 114) ev80) w hS rfl rfl mw_556 mw_557 mw_558 mw_64 mw_559 (by decide +kernel) ⟨by decide, by decide⟩ eu81 rfl (by decide) rfl hl.1 (Nat.le_of_ble_eq_true rfl) ⟨by decide, by decide⟩ rfl dc_Law_law_500) hS (fun H locs w hS => ?_)
        have w : pl_wd D vwCl dA s.heap.size (s.heap.size + 114) f H := w
        refine lv_aload_n hx hb dc_Law_law_503 rfl (lv_at hl 2 rfl) ?_
        obtain ⟨u83, eu83, hF⟩ := pl_bd hF
        obtain ⟨v82, ev82, hF⟩ := pl_bd hF
        refine pl_gi (pl_runV (Cn := rn_M) (k := 0) C (tm_M_parts l D dA tt s.heap.size (s.heap.size + 114) ev82) w hS rfl rfl mw_947 mw_948 mw_949 mw_72 mw_950 (by decide +kernel) ⟨by decide, by decide⟩ eu83 rfl (by decide) rfl hl.1 (Nat.le_of_ble_eq_true rfl) ⟨by decide, by decide⟩ rfl dc_Law_law_504) hS (fun H locs w hS => ?_)
        have w : pl_wd D vwCl dA s.heap.size (s.heap.size + 114) f H := w
        refine lv_icmp_eq hx hb dc_Law_law_507 (tgt := 671) (by decide) (fun hc => ?_) (fun hc => ?_)
        · have hF := (if_pos hc).symm.trans hF
          exact tl_Law_law_671 C X ih hF w hS (lv_sub hl [0, 1, 2, 3] rfl)
        · have hF := (if_neg hc).symm.trans hF
          refine lv_iconst (v := 0) hx hb dc_Law_law_510 (by decide) ?_
          exact absurd (Option.some.inj hF) (by decide)
      have hF := (if_neg hc11).symm.trans hF
      by_cases hc12 : (v1 &&& 31) = 12
      · have hF := (if_pos hc12).symm.trans hF
        refine lv_tableIn hx hb dc_Law_law_33 (tgt := 512) (off := 479) (by rw [hc12]; decide) (by rw [hc12]; decide) (by rw [hc12]; decide) (by decide) ?_
        refine lv_aload_n hx hb dc_Law_law_512 rfl (lv_at hl 1 rfl) ?_
        refine lv_aload_n hx hb dc_Law_law_513 rfl (lv_at hl 0 rfl) ?_
        refine lv_iload_n hx hb dc_Law_law_514 rfl (lv_at hl 3 rfl) ?_
        refine lv_iconst (v := 1) hx hb dc_Law_law_515 (by decide) ?_
        refine lv_iadd hx hb dc_Law_law_516 ?_
        obtain ⟨v84, ev84, hF⟩ := pl_bd hF
        refine pl_sld hx hb X.1 X.2.1 X.2.2 hS ev84 dc_Law_law_517 ?_
        obtain ⟨u86, eu86, hF⟩ := pl_bd hF
        obtain ⟨v85, ev85, hF⟩ := pl_bd hF
        refine pl_gi (pl_runV (Cn := rn_L) (k := 1) C (tm_L_length l D dA tt s.heap.size (s.heap.size + 114) ev85) w hS rfl rfl mw_560 mw_561 mw_562 mw_64 mw_563 (by decide +kernel) ⟨by decide, by decide⟩ eu86 rfl (by decide) rfl hl.1 (Nat.le_of_ble_eq_true rfl) ⟨by decide, by decide⟩ rfl dc_Law_law_518) hS (fun H locs w hS => ?_)
        have w : pl_wd D vwCl dA s.heap.size (s.heap.size + 114) f H := w
        refine lv_aload_n hx hb dc_Law_law_521 rfl (lv_at hl 2 rfl) ?_
        refine lv_aload_n hx hb dc_Law_law_522 rfl (lv_at hl 0 rfl) ?_
        refine lv_iload_n hx hb dc_Law_law_523 rfl (lv_at hl 3 rfl) ?_
        refine lv_iconst (v := 1) hx hb dc_Law_law_524 (by decide) ?_
        refine lv_iadd hx hb dc_Law_law_525 ?_
        obtain ⟨v87, ev87, hF⟩ := pl_bd hF
        refine pl_sld hx hb X.1 X.2.1 X.2.2 hS ev87 dc_Law_law_526 ?_
        obtain ⟨u89, eu89, hF⟩ := pl_bd hF
        obtain ⟨v88, ev88, hF⟩ := pl_bd hF
        refine pl_gi (pl_runV (Cn := rn_M) (k := 1) C (tm_M_length l D dA tt s.heap.size (s.heap.size + 114) ev88) w hS rfl rfl mw_951 mw_952 mw_953 mw_72 mw_954 (by decide +kernel) ⟨by decide, by decide⟩ eu89 rfl (by decide) rfl hl.1 (Nat.le_of_ble_eq_true rfl) ⟨by decide, by decide⟩ rfl dc_Law_law_527) hS (fun H locs w hS => ?_)
        have w : pl_wd D vwCl dA s.heap.size (s.heap.size + 114) f H := w
        refine lv_icmp_eq hx hb dc_Law_law_530 (tgt := 671) (by decide) (fun hc => ?_) (fun hc => ?_)
        · have hF := (if_pos hc).symm.trans hF
          exact tl_Law_law_671 C X ih hF w hS (lv_sub hl [0, 1, 2, 3] rfl)
        · have hF := (if_neg hc).symm.trans hF
          refine lv_iconst (v := 0) hx hb dc_Law_law_533 (by decide) ?_
          exact absurd (Option.some.inj hF) (by decide)
      have hF := (if_neg hc12).symm.trans hF
      by_cases hc13 : (v1 &&& 31) = 13
      · have hF := (if_pos hc13).symm.trans hF
        refine lv_tableIn hx hb dc_Law_law_33 (tgt := 535) (off := 502) (by rw [hc13]; decide) (by rw [hc13]; decide) (by rw [hc13]; decide) (by decide) ?_
        refine lv_aload_n hx hb dc_Law_law_535 rfl (lv_at hl 1 rfl) ?_
        refine lv_aload_n hx hb dc_Law_law_536 rfl (lv_at hl 0 rfl) ?_
        refine lv_iload_n hx hb dc_Law_law_537 rfl (lv_at hl 3 rfl) ?_
        refine lv_iconst (v := 1) hx hb dc_Law_law_538 (by decide) ?_
        refine lv_iadd hx hb dc_Law_law_539 ?_
        obtain ⟨v90, ev90, hF⟩ := pl_bd hF
        refine pl_sld hx hb X.1 X.2.1 X.2.2 hS ev90 dc_Law_law_540 ?_
        refine lv_aload_n hx hb dc_Law_law_541 rfl (lv_at hl 0 rfl) ?_
        refine lv_iload_n hx hb dc_Law_law_542 rfl (lv_at hl 3 rfl) ?_
        refine lv_iconst (v := 2) hx hb dc_Law_law_543 (by decide) ?_
        refine lv_iadd hx hb dc_Law_law_544 ?_
        obtain ⟨v91, ev91, hF⟩ := pl_bd hF
        refine pl_sld hx hb X.1 X.2.1 X.2.2 hS ev91 dc_Law_law_545 ?_
        obtain ⟨u93, eu93, hF⟩ := pl_bd hF
        obtain ⟨v92, ev92, hF⟩ := pl_bd hF
        refine pl_gi (pl_runV (Cn := rn_L) (k := 2) C (tm_L_part l D dA tt s.heap.size (s.heap.size + 114) ev92) w hS rfl rfl mw_573 mw_574 mw_575 mw_64 mw_576 (by decide +kernel) ⟨by decide, by decide⟩ eu93 rfl (by decide) rfl hl.1 (Nat.le_of_ble_eq_true rfl) ⟨by decide, by decide⟩ rfl dc_Law_law_546) hS (fun H locs w hS => ?_)
        have w : pl_wd D vwCl dA s.heap.size (s.heap.size + 114) f H := w
        refine lv_aload_n hx hb dc_Law_law_549 rfl (lv_at hl 2 rfl) ?_
        refine lv_aload_n hx hb dc_Law_law_550 rfl (lv_at hl 0 rfl) ?_
        refine lv_iload_n hx hb dc_Law_law_551 rfl (lv_at hl 3 rfl) ?_
        refine lv_iconst (v := 1) hx hb dc_Law_law_552 (by decide) ?_
        refine lv_iadd hx hb dc_Law_law_553 ?_
        obtain ⟨v94, ev94, hF⟩ := pl_bd hF
        refine pl_sld hx hb X.1 X.2.1 X.2.2 hS ev94 dc_Law_law_554 ?_
        refine lv_aload_n hx hb dc_Law_law_555 rfl (lv_at hl 0 rfl) ?_
        refine lv_iload_n hx hb dc_Law_law_556 rfl (lv_at hl 3 rfl) ?_
        refine lv_iconst (v := 2) hx hb dc_Law_law_557 (by decide) ?_
        refine lv_iadd hx hb dc_Law_law_558 ?_
        obtain ⟨v95, ev95, hF⟩ := pl_bd hF
        refine pl_sld hx hb X.1 X.2.1 X.2.2 hS ev95 dc_Law_law_559 ?_
        obtain ⟨u97, eu97, hF⟩ := pl_bd hF
        obtain ⟨v96, ev96, hF⟩ := pl_bd hF
        refine pl_gi (pl_runV (Cn := rn_M) (k := 2) C (tm_M_part l D dA tt s.heap.size (s.heap.size + 114) ev96) w hS rfl rfl mw_955 mw_956 mw_957 mw_72 mw_958 (by decide +kernel) ⟨by decide, by decide⟩ eu97 rfl (by decide) rfl hl.1 (Nat.le_of_ble_eq_true rfl) ⟨by decide, by decide⟩ rfl dc_Law_law_560) hS (fun H locs w hS => ?_)
        have w : pl_wd D vwCl dA s.heap.size (s.heap.size + 114) f H := w
        refine lv_icmp_eq hx hb dc_Law_law_563 (tgt := 671) (by decide) (fun hc => ?_) (fun hc => ?_)
        · have hF := (if_pos hc).symm.trans hF
          exact tl_Law_law_671 C X ih hF w hS (lv_sub hl [0, 1, 2, 3] rfl)
        · have hF := (if_neg hc).symm.trans hF
          refine lv_iconst (v := 0) hx hb dc_Law_law_566 (by decide) ?_
          exact absurd (Option.some.inj hF) (by decide)
      have hF := (if_neg hc13).symm.trans hF
      by_cases hc14 : (v1 &&& 31) = 14
      · have hF := (if_pos hc14).symm.trans hF
        refine lv_tableIn hx hb dc_Law_law_33 (tgt := 568) (off := 535) (by rw [hc14]; decide) (by rw [hc14]; decide) (by rw [hc14]; decide) (by decide) ?_
        refine lv_aload_n hx hb dc_Law_law_568 rfl (lv_at hl 1 rfl) ?_
        refine lv_aload_n hx hb dc_Law_law_569 rfl (lv_at hl 0 rfl) ?_
        refine lv_iload_n hx hb dc_Law_law_570 rfl (lv_at hl 3 rfl) ?_
        refine lv_iconst (v := 1) hx hb dc_Law_law_571 (by decide) ?_
        refine lv_iadd hx hb dc_Law_law_572 ?_
        obtain ⟨v98, ev98, hF⟩ := pl_bd hF
        refine pl_sld hx hb X.1 X.2.1 X.2.2 hS ev98 dc_Law_law_573 ?_
        refine lv_aload_n hx hb dc_Law_law_574 rfl (lv_at hl 0 rfl) ?_
        refine lv_iload_n hx hb dc_Law_law_575 rfl (lv_at hl 3 rfl) ?_
        refine lv_iconst (v := 2) hx hb dc_Law_law_576 (by decide) ?_
        refine lv_iadd hx hb dc_Law_law_577 ?_
        obtain ⟨v99, ev99, hF⟩ := pl_bd hF
        refine pl_sld hx hb X.1 X.2.1 X.2.2 hS ev99 dc_Law_law_578 ?_
        refine lv_aload_n hx hb dc_Law_law_579 rfl (lv_at hl 0 rfl) ?_
        refine lv_iload_n hx hb dc_Law_law_580 rfl (lv_at hl 3 rfl) ?_
        refine lv_iconst (v := 3) hx hb dc_Law_law_581 (by decide) ?_
        refine lv_iadd hx hb dc_Law_law_582 ?_
        obtain ⟨v100, ev100, hF⟩ := pl_bd hF
        refine pl_sld hx hb X.1 X.2.1 X.2.2 hS ev100 dc_Law_law_583 ?_
        obtain ⟨u102, eu102, hF⟩ := pl_bd hF
        obtain ⟨q101, eq101, hF⟩ := pl_bd hF
        refine pl_gi (pl_runV (Cn := rn_L) (k := 3) C (tm_L_alter l D dA tt s.heap.size (s.heap.size + 114) eq101) w hS rfl rfl mw_586 mw_587 mw_588 mw_64 mw_589 (by decide +kernel) ⟨by decide, by decide⟩ eu102 rfl (by decide) rfl hl.1 (Nat.le_of_ble_eq_true rfl) ⟨by decide, by decide⟩ rfl dc_Law_law_584) hS (fun H locs w hS => ?_)
        have w : pl_wd D vwCl dA s.heap.size (s.heap.size + 114) q101.2 H := w
        refine lv_aload_n hx hb dc_Law_law_587 rfl (lv_at hl 2 rfl) ?_
        refine lv_aload_n hx hb dc_Law_law_588 rfl (lv_at hl 0 rfl) ?_
        refine lv_iload_n hx hb dc_Law_law_589 rfl (lv_at hl 3 rfl) ?_
        refine lv_iconst (v := 1) hx hb dc_Law_law_590 (by decide) ?_
        refine lv_iadd hx hb dc_Law_law_591 ?_
        obtain ⟨v103, ev103, hF⟩ := pl_bd hF
        refine pl_sld hx hb X.1 X.2.1 X.2.2 hS ev103 dc_Law_law_592 ?_
        refine lv_aload_n hx hb dc_Law_law_593 rfl (lv_at hl 0 rfl) ?_
        refine lv_iload_n hx hb dc_Law_law_594 rfl (lv_at hl 3 rfl) ?_
        refine lv_iconst (v := 2) hx hb dc_Law_law_595 (by decide) ?_
        refine lv_iadd hx hb dc_Law_law_596 ?_
        obtain ⟨v104, ev104, hF⟩ := pl_bd hF
        refine pl_sld hx hb X.1 X.2.1 X.2.2 hS ev104 dc_Law_law_597 ?_
        refine lv_aload_n hx hb dc_Law_law_598 rfl (lv_at hl 0 rfl) ?_
        refine lv_iload_n hx hb dc_Law_law_599 rfl (lv_at hl 3 rfl) ?_
        refine lv_iconst (v := 3) hx hb dc_Law_law_600 (by decide) ?_
        refine lv_iadd hx hb dc_Law_law_601 ?_
        obtain ⟨v105, ev105, hF⟩ := pl_bd hF
        refine pl_sld hx hb X.1 X.2.1 X.2.2 hS ev105 dc_Law_law_602 ?_
        obtain ⟨u107, eu107, hF⟩ := pl_bd hF
        obtain ⟨q106, eq106, hF⟩ := pl_bd hF
        refine pl_gi (pl_runV (Cn := rn_M) (k := 3) C (tm_M_alter l D dA tt s.heap.size (s.heap.size + 114) eq106) w hS rfl rfl mw_963 mw_964 mw_965 mw_72 mw_966 (by decide +kernel) ⟨by decide, by decide⟩ eu107 rfl (by decide) rfl hl.1 (Nat.le_of_ble_eq_true rfl) ⟨by decide, by decide⟩ rfl dc_Law_law_603) hS (fun H locs w hS => ?_)
        have w : pl_wd D vwCl dA s.heap.size (s.heap.size + 114) q106.2 H := w
        refine lv_icmp_eq hx hb dc_Law_law_606 (tgt := 671) (by decide) (fun hc => ?_) (fun hc => ?_)
        · have hF := (if_pos hc).symm.trans hF
          exact tl_Law_law_671 C X ih hF w hS (lv_sub hl [0, 1, 2, 3] rfl)
        · have hF := (if_neg hc).symm.trans hF
          refine lv_iconst (v := 0) hx hb dc_Law_law_609 (by decide) ?_
          exact absurd (Option.some.inj hF) (by decide)
      have hF := (if_neg hc14).symm.trans hF
      by_cases hc15 : (v1 &&& 31) = 15
      · have hF := (if_pos hc15).symm.trans hF
        refine lv_tableIn hx hb dc_Law_law_33 (tgt := 611) (off := 578) (by rw [hc15]; decide) (by rw [hc15]; decide) (by rw [hc15]; decide) (by decide) ?_
        refine lv_aload_n hx hb dc_Law_law_611 rfl (lv_at hl 1 rfl) ?_
        obtain ⟨u109, eu109, hF⟩ := pl_bd hF
        obtain ⟨q108, eq108, hF⟩ := pl_bd hF
        refine pl_gi (pl_runV (Cn := rn_L) (k := 0) C (tm_L_shorten l D dA tt s.heap.size (s.heap.size + 114) eq108) w hS rfl rfl mw_594 mw_595 mw_596 mw_64 mw_597 (by decide +kernel) ⟨by decide, by decide⟩ eu109 rfl (by decide) rfl hl.1 (Nat.le_of_ble_eq_true rfl) ⟨by decide, by decide⟩ rfl dc_Law_law_612) hS (fun H locs w hS => ?_)
        have w : pl_wd D vwCl dA s.heap.size (s.heap.size + 114) q108.2 H := w
        refine lv_aload_n hx hb dc_Law_law_615 rfl (lv_at hl 2 rfl) ?_
        obtain ⟨u111, eu111, hF⟩ := pl_bd hF
        obtain ⟨q110, eq110, hF⟩ := pl_bd hF
        refine pl_gi (pl_runV (Cn := rn_M) (k := 0) C (tm_M_shorten l D dA tt s.heap.size (s.heap.size + 114) eq110) w hS rfl rfl mw_967 mw_968 mw_969 mw_72 mw_970 (by decide +kernel) ⟨by decide, by decide⟩ eu111 rfl (by decide) rfl hl.1 (Nat.le_of_ble_eq_true rfl) ⟨by decide, by decide⟩ rfl dc_Law_law_616) hS (fun H locs w hS => ?_)
        have w : pl_wd D vwCl dA s.heap.size (s.heap.size + 114) q110.2 H := w
        refine lv_icmp_eq hx hb dc_Law_law_619 (tgt := 671) (by decide) (fun hc => ?_) (fun hc => ?_)
        · have hF := (if_pos hc).symm.trans hF
          exact tl_Law_law_671 C X ih hF w hS (lv_sub hl [0, 1, 2, 3] rfl)
        · have hF := (if_neg hc).symm.trans hF
          refine lv_iconst (v := 0) hx hb dc_Law_law_622 (by decide) ?_
          exact absurd (Option.some.inj hF) (by decide)
      have hF := (if_neg hc15).symm.trans hF
      by_cases hc16 : (v1 &&& 31) = 16
      · have hF := (if_pos hc16).symm.trans hF
        refine lv_tableIn hx hb dc_Law_law_33 (tgt := 624) (off := 591) (by rw [hc16]; decide) (by rw [hc16]; decide) (by rw [hc16]; decide) (by decide) ?_
        refine lv_aload_n hx hb dc_Law_law_624 rfl (lv_at hl 1 rfl) ?_
        refine lv_aload_n hx hb dc_Law_law_625 rfl (lv_at hl 0 rfl) ?_
        refine lv_iload_n hx hb dc_Law_law_626 rfl (lv_at hl 3 rfl) ?_
        refine lv_iconst (v := 1) hx hb dc_Law_law_627 (by decide) ?_
        refine lv_iadd hx hb dc_Law_law_628 ?_
        obtain ⟨v112, ev112, hF⟩ := pl_bd hF
        refine pl_sld hx hb X.1 X.2.1 X.2.2 hS ev112 dc_Law_law_629 ?_
        obtain ⟨u114, eu114, hF⟩ := pl_bd hF
        obtain ⟨q113, eq113, hF⟩ := pl_bd hF
        refine pl_gi (pl_runV (Cn := rn_L) (k := 1) C (tm_L_check l D dA tt s.heap.size (s.heap.size + 114) eq113) w hS rfl rfl mw_602 mw_603 mw_604 mw_64 mw_605 (by decide +kernel) ⟨by decide, by decide⟩ eu114 rfl (by decide) rfl hl.1 (Nat.le_of_ble_eq_true rfl) ⟨by decide, by decide⟩ rfl dc_Law_law_630) hS (fun H locs w hS => ?_)
        have w : pl_wd D vwCl dA s.heap.size (s.heap.size + 114) q113.2 H := w
        refine lv_aload_n hx hb dc_Law_law_633 rfl (lv_at hl 2 rfl) ?_
        refine lv_aload_n hx hb dc_Law_law_634 rfl (lv_at hl 0 rfl) ?_
        refine lv_iload_n hx hb dc_Law_law_635 rfl (lv_at hl 3 rfl) ?_
        refine lv_iconst (v := 1) hx hb dc_Law_law_636 (by decide) ?_
        refine lv_iadd hx hb dc_Law_law_637 ?_
        obtain ⟨v115, ev115, hF⟩ := pl_bd hF
        refine pl_sld hx hb X.1 X.2.1 X.2.2 hS ev115 dc_Law_law_638 ?_
        obtain ⟨u117, eu117, hF⟩ := pl_bd hF
        obtain ⟨q116, eq116, hF⟩ := pl_bd hF
        refine pl_gi (pl_runV (Cn := rn_M) (k := 1) C (tm_M_check l D dA tt s.heap.size (s.heap.size + 114) eq116) w hS rfl rfl mw_971 mw_972 mw_973 mw_72 mw_974 (by decide +kernel) ⟨by decide, by decide⟩ eu117 rfl (by decide) rfl hl.1 (Nat.le_of_ble_eq_true rfl) ⟨by decide, by decide⟩ rfl dc_Law_law_639) hS (fun H locs w hS => ?_)
        have w : pl_wd D vwCl dA s.heap.size (s.heap.size + 114) q116.2 H := w
        refine lv_icmp_eq hx hb dc_Law_law_642 (tgt := 671) (by decide) (fun hc => ?_) (fun hc => ?_)
        · have hF := (if_pos hc).symm.trans hF
          exact tl_Law_law_671 C X ih hF w hS (lv_sub hl [0, 1, 2, 3] rfl)
        · have hF := (if_neg hc).symm.trans hF
          refine lv_iconst (v := 0) hx hb dc_Law_law_645 (by decide) ?_
          exact absurd (Option.some.inj hF) (by decide)
      have hF := (if_neg hc16).symm.trans hF
      by_cases hc17 : (v1 &&& 31) = 17
      · have hF := (if_pos hc17).symm.trans hF
        refine lv_tableIn hx hb dc_Law_law_33 (tgt := 647) (off := 614) (by rw [hc17]; decide) (by rw [hc17]; decide) (by rw [hc17]; decide) (by decide) ?_
        refine lv_aload_n hx hb dc_Law_law_647 rfl (lv_at hl 1 rfl) ?_
        refine lv_aload_n hx hb dc_Law_law_648 rfl (lv_at hl 0 rfl) ?_
        refine lv_iload_n hx hb dc_Law_law_649 rfl (lv_at hl 3 rfl) ?_
        refine lv_iconst (v := 1) hx hb dc_Law_law_650 (by decide) ?_
        refine lv_iadd hx hb dc_Law_law_651 ?_
        obtain ⟨v118, ev118, hF⟩ := pl_bd hF
        refine pl_sld hx hb X.1 X.2.1 X.2.2 hS ev118 dc_Law_law_652 ?_
        obtain ⟨u120, eu120, hF⟩ := pl_bd hF
        obtain ⟨v119, ev119, hF⟩ := pl_bd hF
        refine pl_gl (pl_runV (Cn := rn_L) (k := 1) C (tm_L_proven l D dA tt s.heap.size (s.heap.size + 114) ev119) w hS rfl rfl mw_679 mw_680 mw_681 mw_64 mw_682 (by decide +kernel) ⟨by decide, by decide⟩ eu120 rfl (by decide) rfl hl.1 (Nat.le_of_ble_eq_true rfl) ⟨by decide, by decide⟩ rfl dc_Law_law_653) hS (fun H locs w hS => ?_)
        have w : pl_wd D vwCl dA s.heap.size (s.heap.size + 114) f H := w
        refine lv_aload_n hx hb dc_Law_law_656 rfl (lv_at hl 2 rfl) ?_
        refine lv_aload_n hx hb dc_Law_law_657 rfl (lv_at hl 0 rfl) ?_
        refine lv_iload_n hx hb dc_Law_law_658 rfl (lv_at hl 3 rfl) ?_
        refine lv_iconst (v := 1) hx hb dc_Law_law_659 (by decide) ?_
        refine lv_iadd hx hb dc_Law_law_660 ?_
        obtain ⟨v121, ev121, hF⟩ := pl_bd hF
        refine pl_sld hx hb X.1 X.2.1 X.2.2 hS ev121 dc_Law_law_661 ?_
        obtain ⟨u123, eu123, hF⟩ := pl_bd hF
        obtain ⟨v122, ev122, hF⟩ := pl_bd hF
        refine pl_gl (pl_runV (Cn := rn_M) (k := 1) C (tm_M_proven l D dA tt s.heap.size (s.heap.size + 114) ev122) w hS rfl rfl mw_1019 mw_1020 mw_1021 mw_72 mw_1022 (by decide +kernel) ⟨by decide, by decide⟩ eu123 rfl (by decide) rfl hl.1 (Nat.le_of_ble_eq_true rfl) ⟨by decide, by decide⟩ rfl dc_Law_law_662) hS (fun H locs w hS => ?_)
        have w : pl_wd D vwCl dA s.heap.size (s.heap.size + 114) f H := w
        refine W.lcmp hx hb dc_Law_law_665 ?_
        refine lv_if_eq hx hb dc_Law_law_666 (tgt := 671) (by decide) (fun hc => ?_) (fun hc => ?_)
        · have hF := (if_pos hc).symm.trans hF
          exact tl_Law_law_671 C X ih hF w hS (lv_sub hl [0, 1, 2, 3] rfl)
        · have hF := (if_neg hc).symm.trans hF
          refine lv_iconst (v := 0) hx hb dc_Law_law_669 (by decide) ?_
          exact absurd (Option.some.inj hF) (by decide)
      have hF := (if_neg hc17).symm.trans hF
      refine lv_tableOut hx hb dc_Law_law_33 (tgt := 671) (pl_sw hc0 hc1 hc2 hc3 hc4 hc5 hc6 hc7 hc8 hc9 hc10 hc11 hc12 hc13 hc14 hc15 hc16 hc17) (by decide) ?_
      exact tl_Law_law_671 C X ih hF w hS (lv_sub hl [0, 1, 2, 3] rfl)
set_option maxHeartbeats 4000000 in
set_option maxRecDepth 100000 in
theorem tl_Law_law {p : Program} {l : Launch} {e : Env} {s : State} {m : MethodId} {below : List Frame} {meth : Method} {c : Code} {D : va_G} {dA : Nat → ClassId} {tt : Nat → Nat} {sb L : Nat} {xs : Nat → Int32} (C : pl_C p s m #[Value.ref sb] meth c code 4 rn_Law ret meth.name D dA tt s.heap.size) (X : va_X sb L xs s s.heap ∧ sb < s.heap.size ∧ ¬ pl_A s.heap.size sb) {f : pl_H} {H : Heap} {locs : List Loc} {ls : Array Slot} (hF : fn_Law_law L xs s.heap.size f = some 1) (w : pl_wd D vwCl dA s.heap.size s.heap.size f H) (hS : va_S (pl_A s.heap.size) s.heap H locs) (hl : lv_has ls 4 [(0, .ref sb)]) : W p l e room_1 s m #[Value.ref sb] below meth c H locs 0 0 (lw_Z below #[Value.ref sb] s) (F0 m 0 ls []) := by
  have hx := C.1
  have hb := C.2.1
  have hown := C.2.2.2.2.1
  have hts := C.2.2.2.2.2.2.1
  unfold fn_Law_law at hF
  obtain ⟨f1, ef1, hF⟩ := pl_bd hF
  refine pl_new (fs := [.null, .null, .null, .null, .null, .int 0, .int 0]) C w hS (ci := 7) in_L rfl rty_L_ok (by decide +kernel) mw_75 mw_76 mw_64 (by decide) (by decide) ef1 dc_Law_law_0 (fun H w hS => ?_)
  have w : pl_wd D vwCl dA s.heap.size (s.heap.size + 1) f1 H := w
  refine lv_dup hx hb dc_Law_law_3 rfl ?_
  obtain ⟨q2, eq2, hF⟩ := pl_bd hF
  refine pl_gv (pl_runI (k := 0) C (tm_L_init l D dA tt s.heap.size (s.heap.size + 1) eq2) w hS rfl rfl mw_77 mw_78 mw_64 mw_79 rfl (by decide +kernel) ⟨by decide, by decide⟩ rfl hl.1 (Nat.le_of_ble_eq_true rfl) ⟨by decide, by decide⟩ rfl dc_Law_law_4) hS (fun H locs w hS => ?_)
  have w : pl_wd D vwCl dA s.heap.size (s.heap.size + 92) q2 H := w
  refine lv_astore_n (lv' := [(1, .ref s.heap.size), (0, .ref sb)]) hx hb dc_Law_law_7 rfl hl (by decide) rfl (fun ls hl => ?_)
  obtain ⟨f3, ef3, hF⟩ := pl_bd hF
  refine pl_new (fs := [.int 0, .null, .null, .null, .int 0, .int 0, .null, .null, .null, .null, .int 0, .null, .int 0, .null, .null, .null, .int 0, .null, .null, .long 0, .long 0, .null, .null, .null, .null, .null, .null, .null, .null, .int 0, .int 0, .int 0, .int 0, .int 0]) C w hS (ci := 8) in_M rfl rty_M_ok (by decide +kernel) mw_691 mw_692 mw_72 (by decide) (by decide) ef3 dc_Law_law_8 (fun H w hS => ?_)
  have w : pl_wd D vwCl dA s.heap.size (s.heap.size + 93) f3 H := w
  refine lv_dup hx hb dc_Law_law_11 rfl ?_
  obtain ⟨q4, eq4, hF⟩ := pl_bd hF
  refine pl_gv (pl_runI (k := 0) C (tm_M_init l D dA tt s.heap.size (s.heap.size + 93) eq4) w hS rfl rfl mw_693 mw_694 mw_72 mw_695 rfl (by decide +kernel) ⟨by decide, by decide⟩ rfl hl.1 (Nat.le_of_ble_eq_true rfl) ⟨by decide, by decide⟩ rfl dc_Law_law_12) hS (fun H locs w hS => ?_)
  have w : pl_wd D vwCl dA s.heap.size (s.heap.size + 114) q4 H := w
  refine lv_astore_n (lv' := [(2, .ref ((s.heap.size + 92))), (1, .ref s.heap.size), (0, .ref sb)]) hx hb dc_Law_law_15 rfl hl (by decide) rfl (fun ls hl => ?_)
  refine lv_iconst (v := 0) hx hb dc_Law_law_16 (by decide) ?_
  refine lv_istore_n (lv' := [(3, .int 0), (2, .ref ((s.heap.size + 92))), (1, .ref s.heap.size), (0, .ref sb)]) hx hb dc_Law_law_17 rfl hl (by decide) rfl (fun ls hl => ?_)
  exact tl_Law_law_18 C X pl_N q4 s.heap.size ((s.heap.size + 92)) 0 _ _ _ hF w hS (lv_sub hl [3, 2, 1, 0] rfl)
