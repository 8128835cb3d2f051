/-! The law: turn by turn. -/
theorem lw_e (L : Nat) (xs : Nat → Int32) (k : Nat) (f : pl_H) (a1 a2 : Nat) (x3 : Int32) : fn_Law_law_18 L xs (k + 1) f a1 a2 x3 = if (((Int32.ofNat L)) - 8) < x3 then some 1 else (pl_sc L xs x3).bind fun v1 => if (v1 &&& 31) = 0 then (pl_sc L xs (x3 + 1)).bind fun v2 => (pl_is f a1 7).bind fun u4 => (fn_L_collector f a1 v2).bind fun q3 => (pl_sc L xs (x3 + 1)).bind fun v5 => (pl_is q3.2 a2 8).bind fun u7 => (fn_M_collector q3.2 a2 v5).bind fun q6 => if q3.1 = q6.1 then fn_Law_law_18 L xs k q6.2 a1 a2 (x3 + 8) else some 0 else if (v1 &&& 31) = 1 then (pl_sc L xs (x3 + 1)).bind fun v8 => (pl_sc L xs (x3 + 2)).bind fun v9 => (pl_sc L xs (x3 + 3)).bind fun v10 => (pl_is f a1 7).bind fun u12 => (fn_L_grant f a1 v8 ((((v9 : Int32).toInt64) <<< ((32 : Int32).toInt64 &&& 63)) ||| (((v10 : Int32).toInt64) &&& 4294967295))).bind fun q11 => (pl_sc L xs (x3 + 1)).bind fun v13 => (pl_sc L xs (x3 + 2)).bind fun v14 => (pl_sc L xs (x3 + 3)).bind fun v15 => (pl_is q11.2 a2 8).bind fun u17 => (fn_M_grant q11.2 a2 v13 ((((v14 : Int32).toInt64) <<< ((32 : Int32).toInt64 &&& 63)) ||| (((v15 : Int32).toInt64) &&& 4294967295))).bind fun q16 => if q11.1 = q16.1 then fn_Law_law_18 L xs k q16.2 a1 a2 (x3 + 8) else some 0 else if (v1 &&& 31) = 2 then (pl_sc L xs (x3 + 1)).bind fun v18 => (pl_sc L xs (x3 + 2)).bind fun v19 => (pl_sc L xs (x3 + 3)).bind fun v20 => (pl_sc L xs (x3 + 4)).bind fun v21 => (pl_sc L xs (x3 + 5)).bind fun v22 => (pl_sc L xs (x3 + 6)).bind fun v23 => (pl_sc L xs (x3 + 7)).bind fun v24 => (pl_is f a1 7).bind fun u26 => (fn_L_send f a1 v18 v19 ((((v20 : Int32).toInt64) <<< ((32 : Int32).toInt64 &&& 63)) ||| (((v21 : Int32).toInt64) &&& 4294967295)) ((((v22 : Int32).toInt64) <<< ((32 : Int32).toInt64 &&& 63)) ||| (((v23 : Int32).toInt64) &&& 4294967295)) v24).bind fun q25 => (pl_sc L xs (x3 + 1)).bind fun v27 => (pl_sc L xs (x3 + 2)).bind fun v28 => (pl_sc L xs (x3 + 3)).bind fun v29 => (pl_sc L xs (x3 + 4)).bind fun v30 => (pl_sc L xs (x3 + 5)).bind fun v31 => (pl_sc L xs (x3 + 6)).bind fun v32 => (pl_sc L xs (x3 + 7)).bind fun v33 => (pl_is q25.2 a2 8).bind fun u35 => (fn_M_send q25.2 a2 v27 v28 ((((v29 : Int32).toInt64) <<< ((32 : Int32).toInt64 &&& 63)) ||| (((v30 : Int32).toInt64) &&& 4294967295)) ((((v31 : Int32).toInt64) <<< ((32 : Int32).toInt64 &&& 63)) ||| (((v32 : Int32).toInt64) &&& 4294967295)) v33).bind fun q34 => if q25.1 = q34.1 then fn_Law_law_18 L xs k q34.2 a1 a2 (x3 + 8) else some 0 else if (v1 &&& 31) = 3 then (pl_sc L xs (x3 + 1)).bind fun v36 => (pl_is f a1 7).bind fun u38 => (fn_L_close f a1 v36).bind fun q37 => (pl_sc L xs (x3 + 1)).bind fun v39 => (pl_is q37.2 a2 8).bind fun u41 => (fn_M_close q37.2 a2 v39).bind fun q40 => if q37.1 = q40.1 then fn_Law_law_18 L xs k q40.2 a1 a2 (x3 + 8) else some 0 else if (v1 &&& 31) = 4 then (pl_sc L xs (x3 + 1)).bind fun v42 => (pl_is f a1 7).bind fun u44 => (fn_L_nonce f a1 v42).bind fun v43 => (pl_sc L xs (x3 + 1)).bind fun v45 => (pl_is f a2 8).bind fun u47 => (fn_M_nonce f a2 v45).bind fun v46 => if v43 = v46 then fn_Law_law_18 L xs k f a1 a2 (x3 + 8) else some 0 else if (v1 &&& 31) = 5 then (pl_sc L xs (x3 + 1)).bind fun v48 => (pl_is f a1 7).bind fun u50 => (fn_L_balance f a1 v48).bind fun v49 => (pl_sc L xs (x3 + 1)).bind fun v51 => (pl_is f a2 8).bind fun u53 => (fn_M_balance f a2 v51).bind fun v52 => if (lg_cmp v49 v52) = 0 then fn_Law_law_18 L xs k f a1 a2 (x3 + 8) else some 0 else if (v1 &&& 31) = 6 then (pl_is f a1 7).bind fun u55 => (fn_L_accounts f a1).bind fun v54 => (pl_is f a2 8).bind fun u57 => (fn_M_accounts f a2).bind fun v56 => if v54 = v56 then fn_Law_law_18 L xs k f a1 a2 (x3 + 8) else some 0 else if (v1 &&& 31) = 7 then (pl_sc L xs (x3 + 1)).bind fun v58 => (pl_is f a1 7).bind fun u60 => (fn_L_root f a1 v58).bind fun q59 => (pl_sc L xs (x3 + 1)).bind fun v61 => (pl_is q59.2 a2 8).bind fun u63 => (fn_M_root q59.2 a2 v61).bind fun q62 => if (lg_cmp q59.1 q62.1) = 0 then fn_Law_law_18 L xs k q62.2 a1 a2 (x3 + 8) else some 0 else if (v1 &&& 31) = 8 then (pl_sc L xs (x3 + 1)).bind fun v64 => (pl_is f a1 7).bind fun u66 => (fn_L_nodes f a1 v64).bind fun q65 => (pl_sc L xs (x3 + 1)).bind fun v67 => (pl_is q65.2 a2 8).bind fun u69 => (fn_M_nodes q65.2 a2 v67).bind fun q68 => if q65.1 = q68.1 then fn_Law_law_18 L xs k q68.2 a1 a2 (x3 + 8) else some 0 else if (v1 &&& 31) = 9 then (pl_is f a1 7).bind fun u71 => (fn_L_size f a1).bind fun q70 => (pl_is q70.2 a2 8).bind fun u73 => (fn_M_size q70.2 a2).bind fun q72 => if q70.1 = q72.1 then fn_Law_law_18 L xs k q72.2 a1 a2 (x3 + 8) else some 0 else if (v1 &&& 31) = 10 then (pl_sc L xs (x3 + 1)).bind fun v74 => (pl_is f a1 7).bind fun u76 => (fn_L_prove f a1 v74).bind fun q75 => (pl_sc L xs (x3 + 1)).bind fun v77 => (pl_is q75.2 a2 8).bind fun u79 => (fn_M_prove q75.2 a2 v77).bind fun q78 => if q75.1 = q78.1 then fn_Law_law_18 L xs k q78.2 a1 a2 (x3 + 8) else some 0 else if (v1 &&& 31) = 11 then (pl_is f a1 7).bind fun u81 => (fn_L_parts f a1).bind fun v80 => (pl_is f a2 8).bind fun u83 => (fn_M_parts f a2).bind fun v82 => if v80 = v82 then fn_Law_law_18 L xs k f a1 a2 (x3 + 8) else some 0 else if (v1 &&& 31) = 12 then (pl_sc L xs (x3 + 1)).bind fun v84 => (pl_is f a1 7).bind fun u86 => (fn_L_length f a1 v84).bind fun v85 => (pl_sc L xs (x3 + 1)).bind fun v87 => (pl_is f a2 8).bind fun u89 => (fn_M_length f a2 v87).bind fun v88 => if v85 = v88 then fn_Law_law_18 L xs k f a1 a2 (x3 + 8) else some 0 else if (v1 &&& 31) = 13 then (pl_sc L xs (x3 + 1)).bind fun v90 => (pl_sc L xs (x3 + 2)).bind fun v91 => (pl_is f a1 7).bind fun u93 => (fn_L_part f a1 v90 v91).bind fun v92 => (pl_sc L xs (x3 + 1)).bind fun v94 => (pl_sc L xs (x3 + 2)).bind fun v95 => (pl_is f a2 8).bind fun u97 => (fn_M_part f a2 v94 v95).bind fun v96 => if v92 = v96 then fn_Law_law_18 L xs k f a1 a2 (x3 + 8) else some 0 else if (v1 &&& 31) = 14 then (pl_sc L xs (x3 + 1)).bind fun v98 => (pl_sc L xs (x3 + 2)).bind fun v99 => (pl_sc L xs (x3 + 3)).bind fun v100 => (pl_is f a1 7).bind fun u102 => (fn_L_alter f a1 v98 v99 v100).bind fun q101 => (pl_sc L xs (x3 + 1)).bind fun v103 => (pl_sc L xs (x3 + 2)).bind fun v104 => (pl_sc L xs (x3 + 3)).bind fun v105 => (pl_is q101.2 a2 8).bind fun u107 => (fn_M_alter q101.2 a2 v103 v104 v105).bind fun q106 => if q101.1 = q106.1 then fn_Law_law_18 L xs k q106.2 a1 a2 (x3 + 8) else some 0 else if (v1 &&& 31) = 15 then (pl_is f a1 7).bind fun u109 => (fn_L_shorten f a1).bind fun q108 => (pl_is q108.2 a2 8).bind fun u111 => (fn_M_shorten q108.2 a2).bind fun q110 => if q108.1 = q110.1 then fn_Law_law_18 L xs k q110.2 a1 a2 (x3 + 8) else some 0 else if (v1 &&& 31) = 16 then (pl_sc L xs (x3 + 1)).bind fun v112 => (pl_is f a1 7).bind fun u114 => (fn_L_check f a1 v112).bind fun q113 => (pl_sc L xs (x3 + 1)).bind fun v115 => (pl_is q113.2 a2 8).bind fun u117 => (fn_M_check q113.2 a2 v115).bind fun q116 => if q113.1 = q116.1 then fn_Law_law_18 L xs k q116.2 a1 a2 (x3 + 8) else some 0 else if (v1 &&& 31) = 17 then (pl_sc L xs (x3 + 1)).bind fun v118 => (pl_is f a1 7).bind fun u120 => (fn_L_proven f a1 v118).bind fun v119 => (pl_sc L xs (x3 + 1)).bind fun v121 => (pl_is f a2 8).bind fun u123 => (fn_M_proven f a2 v121).bind fun v122 => if (lg_cmp v119 v122) = 0 then fn_Law_law_18 L xs k f a1 a2 (x3 + 8) else some 0 else fn_Law_law_18 L xs k f a1 a2 (x3 + 8) := rfl
theorem lw_end {L K : Nat} (hL : L ≤ 4096) (hK : K ≤ 512) : (((Int32.ofNat L)) - 8) < nI (8 * K) ↔ L < 8 * K + 8 := by
  have h1 := pk_sub_toInt (a := L) (b := 8) (by omega) (by decide)
  have h2 := nI_toInt (n := 8 * K) (by omega)
  rw [Int32.lt_iff_toInt_lt, h2]
  have h1 : (Int32.ofNat L - 8).toInt = (L : Int) - (8 : Nat) := h1
  rw [h1]
  omega
set_option maxHeartbeats 8000000 in
theorem lw_loop {L n : Nat} {xs : Nat → Int32} (hL : L ≤ 4096) : ∀ (r k K : Nat) (f : pl_H), L ≤ 8 * K + 8 * r + 7 → r < k → K ≤ 512 → IV f n K → fn_Law_law_18 L xs k f n (n + 92) (nI (8 * K)) = some 1 := by
  intro r
  induction r with
  | zero =>
    intro k K f h1 h2 hK h
    obtain ⟨k, rfl⟩ : ∃ k', k = k' + 1 := ⟨k - 1, by omega⟩
    rw [lw_e, if_pos ((lw_end hL hK).mpr (by omega))]
  | succ r ih =>
    intro k K f h1 h2 hK h
    obtain ⟨k, rfl⟩ : ∃ k', k = k' + 1 := ⟨k - 1, by omega⟩
    rw [lw_e]
    by_cases hend : L < 8 * K + 8
    · rw [if_pos ((lw_end hL hK).mpr hend)]
    · rw [if_neg (fun z => hend ((lw_end hL hK).mp z))]
      have sc : ∀ j, j < 8 → pl_sc L xs (nI (8 * K + j)) = some (xs (8 * K + j)) := fun j hj => by
        unfold pl_sc
        rw [if_pos (bs_ok (by omega) (by omega)), bs_cl (by omega)]
      have c0 : pl_sc L xs (nI (8 * K)) = some (xs (8 * K)) := sc 0 (by decide)
      have c1 : pl_sc L xs (nI (8 * K) + 1) = some (xs (8 * K + 1)) := by rw [show nI (8 * K) + 1 = nI (8 * K + 1) from nI_add (8 * K) 1]; exact sc 1 (by decide)
      have c2 : pl_sc L xs (nI (8 * K) + 2) = some (xs (8 * K + 2)) := by rw [show nI (8 * K) + 2 = nI (8 * K + 2) from nI_add (8 * K) 2]; exact sc 2 (by decide)
      have c3 : pl_sc L xs (nI (8 * K) + 3) = some (xs (8 * K + 3)) := by rw [show nI (8 * K) + 3 = nI (8 * K + 3) from nI_add (8 * K) 3]; exact sc 3 (by decide)
      have c4 : pl_sc L xs (nI (8 * K) + 4) = some (xs (8 * K + 4)) := by rw [show nI (8 * K) + 4 = nI (8 * K + 4) from nI_add (8 * K) 4]; exact sc 4 (by decide)
      have c5 : pl_sc L xs (nI (8 * K) + 5) = some (xs (8 * K + 5)) := by rw [show nI (8 * K) + 5 = nI (8 * K + 5) from nI_add (8 * K) 5]; exact sc 5 (by decide)
      have c6 : pl_sc L xs (nI (8 * K) + 6) = some (xs (8 * K + 6)) := by rw [show nI (8 * K) + 6 = nI (8 * K + 6) from nI_add (8 * K) 6]; exact sc 6 (by decide)
      have c7 : pl_sc L xs (nI (8 * K) + 7) = some (xs (8 * K + 7)) := by rw [show nI (8 * K) + 7 = nI (8 * K + 7) from nI_add (8 * K) 7]; exact sc 7 (by decide)
      have nx : ∀ g, IV g n (K + 1) → fn_Law_law_18 L xs k g n (n + 92) (nI (8 * K) + 8) = some 1 := fun g hg => by
        rw [show nI (8 * K) + 8 = nI (8 * (K + 1)) from nI_add (8 * K) 8]
        exact ih k (K + 1) g (by omega) (by omega) (by omega) hg
      obtain ⟨is7, is8⟩ := IV_is h
      rw [c0, Option.bind_some]
      by_cases h0 : (xs (8 * K) &&& 31) = 0
      · rw [if_pos h0]
        obtain ⟨rr, f1, f2, p1, s1, p2, I2⟩ := op_collector h (xs (8 * K + 1))
        dsimp only at p1 p2
        simp only [c1, is7, p1, s1, p2, Option.bind_some]
        rw [if_pos trivial]
        exact nx f2 I2
      · rw [if_neg h0]
        by_cases h1 : (xs (8 * K) &&& 31) = 1
        · rw [if_pos h1]
          obtain ⟨rr, f1, f2, p1, s1, p2, I2⟩ := op_grant h hK (xs (8 * K + 1)) ((((xs (8 * K + 2) : Int32).toInt64) <<< ((32 : Int32).toInt64 &&& 63)) ||| (((xs (8 * K + 3) : Int32).toInt64) &&& 4294967295))
          dsimp only at p1 p2
          simp only [c1, c2, c3, is7, p1, s1, p2, Option.bind_some]
          rw [if_pos trivial]
          exact nx f2 I2
        · rw [if_neg h1]
          by_cases h2 : (xs (8 * K) &&& 31) = 2
          · rw [if_pos h2]
            obtain ⟨rr, f1, f2, p1, s1, p2, I2⟩ := op_send h hK (xs (8 * K + 1)) (xs (8 * K + 2)) ((((xs (8 * K + 3) : Int32).toInt64) <<< ((32 : Int32).toInt64 &&& 63)) ||| (((xs (8 * K + 4) : Int32).toInt64) &&& 4294967295)) ((((xs (8 * K + 5) : Int32).toInt64) <<< ((32 : Int32).toInt64 &&& 63)) ||| (((xs (8 * K + 6) : Int32).toInt64) &&& 4294967295)) (xs (8 * K + 7))
            dsimp only at p1 p2
            simp only [c1, c2, c3, c4, c5, c6, c7, is7, p1, s1, p2, Option.bind_some]
            rw [if_pos trivial]
            exact nx f2 I2
          · rw [if_neg h2]
            by_cases h3 : (xs (8 * K) &&& 31) = 3
            · rw [if_pos h3]
              obtain ⟨rr, f1, f2, p1, s1, p2, I2⟩ := op_close h (xs (8 * K + 1))
              dsimp only at p1 p2
              simp only [c1, is7, p1, s1, p2, Option.bind_some]
              rw [if_pos trivial]
              exact nx f2 I2
            · rw [if_neg h3]
              by_cases h4 : (xs (8 * K) &&& 31) = 4
              · rw [if_pos h4]
                obtain ⟨rr, p1, p2⟩ := oq_nonce h (xs (8 * K + 1))
                simp only [c1, is7, is8, p1, p2, Option.bind_some]
                rw [if_pos trivial]
                exact nx f (IV_s h)
              · rw [if_neg h4]
                by_cases h5 : (xs (8 * K) &&& 31) = 5
                · rw [if_pos h5]
                  obtain ⟨rr, p1, p2⟩ := oq_balance h (xs (8 * K + 1))
                  simp only [c1, is7, is8, p1, p2, Option.bind_some]
                  rw [if_pos ((lg_cmp_eq _ _).mpr rfl)]
                  exact nx f (IV_s h)
                · rw [if_neg h5]
                  by_cases h6 : (xs (8 * K) &&& 31) = 6
                  · rw [if_pos h6]
                    obtain ⟨rr, p1, p2⟩ := oq_accounts h
                    simp only [is7, is8, p1, p2, Option.bind_some]
                    rw [if_pos trivial]
                    exact nx f (IV_s h)
                  · rw [if_neg h6]
                    by_cases h7 : (xs (8 * K) &&& 31) = 7
                    · rw [if_pos h7]
                      obtain ⟨rr, f1, f2, p1, s1, p2, I2⟩ := op_root h hK (xs (8 * K + 1))
                      dsimp only at p1 p2
                      simp only [c1, is7, p1, s1, p2, Option.bind_some]
                      rw [if_pos ((lg_cmp_eq _ _).mpr rfl)]
                      exact nx f2 I2
                    · rw [if_neg h7]
                      by_cases h8 : (xs (8 * K) &&& 31) = 8
                      · rw [if_pos h8]
                        obtain ⟨rr, f1, f2, p1, s1, p2, I2⟩ := op_nodes h (xs (8 * K + 1))
                        dsimp only at p1 p2
                        simp only [c1, is7, p1, s1, p2, Option.bind_some]
                        rw [if_pos trivial]
                        exact nx f2 I2
                      · rw [if_neg h8]
                        by_cases h9 : (xs (8 * K) &&& 31) = 9
                        · rw [if_pos h9]
                          obtain ⟨rr, f1, f2, p1, s1, p2, I2⟩ := op_size h hK
                          dsimp only at p1 p2
                          simp only [is7, p1, s1, p2, Option.bind_some]
                          rw [if_pos trivial]
                          exact nx f2 I2
                        · rw [if_neg h9]
                          by_cases h10 : (xs (8 * K) &&& 31) = 10
                          · rw [if_pos h10]
                            obtain ⟨rr, f1, f2, p1, s1, p2, I2⟩ := op_prove h hK (xs (8 * K + 1))
                            dsimp only at p1 p2
                            simp only [c1, is7, p1, s1, p2, Option.bind_some]
                            rw [if_pos trivial]
                            exact nx f2 I2
                          · rw [if_neg h10]
                            by_cases h11 : (xs (8 * K) &&& 31) = 11
                            · rw [if_pos h11]
                              obtain ⟨rr, p1, p2⟩ := oq_parts h
                              simp only [is7, is8, p1, p2, Option.bind_some]
                              rw [if_pos trivial]
                              exact nx f (IV_s h)
                            · rw [if_neg h11]
                              by_cases h12 : (xs (8 * K) &&& 31) = 12
                              · rw [if_pos h12]
                                obtain ⟨rr, p1, p2⟩ := oq_length h (xs (8 * K + 1))
                                simp only [c1, is7, is8, p1, p2, Option.bind_some]
                                rw [if_pos trivial]
                                exact nx f (IV_s h)
                              · rw [if_neg h12]
                                by_cases h13 : (xs (8 * K) &&& 31) = 13
                                · rw [if_pos h13]
                                  obtain ⟨rr, p1, p2⟩ := oq_part h (xs (8 * K + 1)) (xs (8 * K + 2))
                                  simp only [c1, c2, is7, is8, p1, p2, Option.bind_some]
                                  rw [if_pos trivial]
                                  exact nx f (IV_s h)
                                · rw [if_neg h13]
                                  by_cases h14 : (xs (8 * K) &&& 31) = 14
                                  · rw [if_pos h14]
                                    obtain ⟨rr, f1, f2, p1, s1, p2, I2⟩ := op_alter h (xs (8 * K + 1)) (xs (8 * K + 2)) (xs (8 * K + 3))
                                    dsimp only at p1 p2
                                    simp only [c1, c2, c3, is7, p1, s1, p2, Option.bind_some]
                                    rw [if_pos trivial]
                                    exact nx f2 I2
                                  · rw [if_neg h14]
                                    by_cases h15 : (xs (8 * K) &&& 31) = 15
                                    · rw [if_pos h15]
                                      obtain ⟨rr, f1, f2, p1, s1, p2, I2⟩ := op_shorten h
                                      dsimp only at p1 p2
                                      simp only [is7, p1, s1, p2, Option.bind_some]
                                      rw [if_pos trivial]
                                      exact nx f2 I2
                                    · rw [if_neg h15]
                                      by_cases h16 : (xs (8 * K) &&& 31) = 16
                                      · rw [if_pos h16]
                                        obtain ⟨rr, f1, f2, p1, s1, p2, I2⟩ := op_check h hK (xs (8 * K + 1))
                                        dsimp only at p1 p2
                                        simp only [c1, is7, p1, s1, p2, Option.bind_some]
                                        rw [if_pos trivial]
                                        exact nx f2 I2
                                      · rw [if_neg h16]
                                        by_cases h17 : (xs (8 * K) &&& 31) = 17
                                        · rw [if_pos h17]
                                          obtain ⟨rr, p1, p2⟩ := oq_proven h (xs (8 * K + 1))
                                          simp only [c1, is7, is8, p1, p2, Option.bind_some]
                                          rw [if_pos ((lg_cmp_eq _ _).mpr rfl)]
                                          exact nx f (IV_s h)
                                        · rw [if_neg h17]
                                          exact nx f (IV_s h)
set_option maxHeartbeats 4000000 in
/-- the law answers 1 on every script -/
theorem lw_main (L : Nat) (xs : Nat → Int32) (n : Nat) (hL : L ≤ 4096) : fn_Law_law L xs n (fun _ => pl_dum) = some 1 := by
  have s0 : ax_sh ((va_up (fun _ => pl_dum) n (.inr (7, [.null, .null, .null, .null, .null, .int 0, .int 0]))) n) = (1, 7, [2, 2, 2, 2, 2, 0, 0]) := by rw [va_up_self]; rfl
  obtain ⟨f1, p1, L1, t1, r1, y1, i5, i6, i8, q1⟩ := ib_L s0
  have s1 : ax_sh ((va_up f1 (n + 92) (.inr (8, [.int 0, .null, .null, .null, .int 0, .int 0, .null, .null, .null, .null, .int 0, .null, .int 0, .null, .null, .null, .int 0, .null, .null, .long 0, .long 0, .null, .null, .null, .null, .null, .null, .null, .null, .int 0, .int 0, .int 0, .int 0, .int 0]))) (n + 92)) = (1, 8, mo_tg) := by rw [va_up_self]; rfl
  obtain ⟨f2, p2, R2, T2, m2, ⟨w4, w5, w19, w20⟩, q2⟩ := ib_R s1 (by unfold ax_i ax_v; rw [va_up_self]; rfl) (by unfold ax_i ax_v; rw [va_up_self]; rfl)
  have k2 : bs_kp (fun q => n + 92 ≤ q) f1 f2 := fun q hq => by rw [q2 q (by omega), va_up_ne _ _ (by omega)]
  have C1 : CS f1 n 0 (fun _ => none) [] 0 0 0 := ⟨L1, t1, fun z => by rw [i8] at z; exact absurd z (by decide), r1, y1, i5, by rw [i6, if_neg (by decide)], by rw [i6, if_neg (by decide)]⟩
  have M2 : MS f2 (n + 92) 0 (fun _ => none) [] 0 0 0 := by
    refine ⟨R2, T2, fun z => ?_, m2, ?_, ?_, ?_⟩
    · exfalso
      apply z
      rw [ix_v w5]
      unfold ax_i ax_v
      rw [va_up_self]
      rfl
    · rw [ix_v w4]
      unfold ax_i ax_v
      rw [va_up_self]
      rfl
    · rw [al_v w19]
      unfold ax_l ax_v
      rw [va_up_self]
      rfl
    · rw [al_v w20]
      unfold ax_l ax_v
      rw [va_up_self]
      rfl
  have I : IV f2 n 0 := ⟨0, fun _ => none, [], 0, 0, 0, CS_un C1 k2 (fun q _ _ z => by omega), M2, (fun y v hv => by cases hv), by decide, (fun p L i b h => by simp at h)⟩
  unfold fn_Law_law
  show ((fn_L_init (n + 1) (va_up (fun _ => pl_dum) n (.inr (7, [.null, .null, .null, .null, .null, .int 0, .int 0]))) n).bind _) = _
  rw [p1, Option.bind_some]
  show ((fn_M_init (n + 93) (va_up f1 (n + 92) (.inr (8, [.int 0, .null, .null, .null, .int 0, .int 0, .null, .null, .null, .null, .int 0, .null, .int 0, .null, .null, .null, .int 0, .null, .null, .long 0, .long 0, .null, .null, .null, .null, .null, .null, .null, .null, .int 0, .int 0, .int 0, .int 0, .int 0]))) (n + 92)).bind _) = _
  rw [show fn_M_init (n + 93) (va_up f1 (n + 92) (.inr (8, [.int 0, .null, .null, .null, .int 0, .int 0, .null, .null, .null, .null, .int 0, .null, .int 0, .null, .null, .null, .int 0, .null, .null, .long 0, .long 0, .null, .null, .null, .null, .null, .null, .null, .null, .int 0, .int 0, .int 0, .int 0, .int 0]))) (n + 92) = some f2 from p2, Option.bind_some]
  exact lw_loop hL 512 pl_N 0 f2 (by omega) (by decide) (by decide) I
