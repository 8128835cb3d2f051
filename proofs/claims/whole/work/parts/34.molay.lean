/-! The reference: where its fields and rows lie. -/
def mo_tg : List Nat := [0, 2, 2, 2, 0, 0, 2, 2, 2, 2, 0, 2, 0, 2, 2, 2, 0, 2, 2, 1, 1, 2, 2, 2, 2, 2, 2, 2, 2, 0, 0, 0, 0, 0]
def mo_L (f : pl_H) (a : Nat) : Prop := ax_sh (f a) = (1, 8, mo_tg) ∧ ax_r f a 1 = some (a + 1) ∧ ax_r f a 2 = some (a + 2) ∧ ax_r f a 3 = some (a + 3) ∧ ax_r f a 6 = some (a + 4) ∧ ax_r f a 7 = some (a + 5) ∧ ax_r f a 8 = some (a + 6) ∧ ax_r f a 9 = some (a + 7) ∧ ax_r f a 11 = some (a + 8) ∧ ax_r f a 13 = some (a + 9) ∧ ax_r f a 14 = some (a + 10) ∧ ax_r f a 15 = some (a + 11) ∧ ax_r f a 17 = some (a + 12) ∧ ax_r f a 18 = some (a + 13) ∧ ax_r f a 21 = some (a + 14) ∧ ax_r f a 22 = some (a + 15) ∧ ax_r f a 23 = some (a + 16) ∧ ax_r f a 24 = some (a + 17) ∧ ax_r f a 25 = some (a + 18) ∧ ax_r f a 26 = some (a + 19) ∧ ax_r f a 27 = some (a + 20) ∧ ax_r f a 28 = some (a + 21) ∧ ax_sh (f (a + 1)) = (2, 0, [13]) ∧ ax_sh (f (a + 2)) = (2, 0, [13]) ∧ ax_sh (f (a + 3)) = (3, 1, [13]) ∧ ax_sh (f (a + 4)) = (2, 0, [1980]) ∧ ax_sh (f (a + 5)) = (2, 0, [60]) ∧ ax_sh (f (a + 6)) = (2, 4, [60]) ∧ ax_sh (f (a + 7)) = (2, 4, [60]) ∧ ax_sh (f (a + 8)) = (2, 0, [600]) ∧ ax_sh (f (a + 9)) = (2, 0, [600]) ∧ ax_sh (f (a + 10)) = (2, 0, [3]) ∧ ax_sh (f (a + 11)) = (2, 0, [16]) ∧ ax_sh (f (a + 12)) = (2, 0, [5]) ∧ ax_sh (f (a + 13)) = (2, 0, [3000]) ∧ ax_sh (f (a + 14)) = (3, 1, [25]) ∧ ax_sh (f (a + 15)) = (3, 1, [25]) ∧ ax_sh (f (a + 16)) = (3, 1, [5]) ∧ ax_sh (f (a + 17)) = (2, 0, [25]) ∧ ax_sh (f (a + 18)) = (3, 1, [24]) ∧ ax_sh (f (a + 19)) = (2, 0, [680]) ∧ ax_sh (f (a + 20)) = (2, 0, [32]) ∧ ax_sh (f (a + 21)) = (2, 0, [32])
theorem mo_many {f : pl_H} {a : Nat} (h : mo_L f a) : pl_gI f a 8 0 = some (ax_i f a 0) := ax_gI h.1 rfl
theorem mo_many_p {f : pl_H} {a : Nat} (h : mo_L f a) (x : Int32) : pl_pV f a 8 0 (.int x) = some (ux_f f a 0 (.int x)) := ax_pV h.1 (by decide)
theorem mo_number {f : pl_H} {a : Nat} (h : mo_L f a) : pl_gR f a 8 1 = some (a + 1) := (ax_gR h.1 rfl).trans h.2.1
theorem mo_nonces {f : pl_H} {a : Nat} (h : mo_L f a) : pl_gR f a 8 2 = some (a + 2) := (ax_gR h.1 rfl).trans h.2.2.1
theorem mo_balances {f : pl_H} {a : Nat} (h : mo_L f a) : pl_gR f a 8 3 = some (a + 3) := (ax_gR h.1 rfl).trans h.2.2.2.1
theorem mo_fees {f : pl_H} {a : Nat} (h : mo_L f a) : pl_gI f a 8 4 = some (ax_i f a 4) := ax_gI h.1 rfl
theorem mo_fees_p {f : pl_H} {a : Nat} (h : mo_L f a) (x : Int32) : pl_pV f a 8 4 (.int x) = some (ux_f f a 4 (.int x)) := ax_pV h.1 (by decide)
theorem mo_worked {f : pl_H} {a : Nat} (h : mo_L f a) : pl_gI f a 8 5 = some (ax_i f a 5) := ax_gI h.1 rfl
theorem mo_worked_p {f : pl_H} {a : Nat} (h : mo_L f a) (x : Int32) : pl_pV f a 8 5 (.int x) = some (ux_f f a 5 (.int x)) := ax_pV h.1 (by decide)
theorem mo_refer {f : pl_H} {a : Nat} (h : mo_L f a) : pl_gR f a 8 6 = some (a + 4) := (ax_gR h.1 rfl).trans h.2.2.2.2.1
theorem mo_referLength {f : pl_H} {a : Nat} (h : mo_L f a) : pl_gR f a 8 7 = some (a + 5) := (ax_gR h.1 rfl).trans h.2.2.2.2.2.1
theorem mo_byHash {f : pl_H} {a : Nat} (h : mo_L f a) : pl_gR f a 8 8 = some (a + 6) := (ax_gR h.1 rfl).trans h.2.2.2.2.2.2.1
theorem mo_used {f : pl_H} {a : Nat} (h : mo_L f a) : pl_gR f a 8 9 = some (a + 7) := (ax_gR h.1 rfl).trans h.2.2.2.2.2.2.2.1
theorem mo_bodyLength {f : pl_H} {a : Nat} (h : mo_L f a) : pl_gI f a 8 10 = some (ax_i f a 10) := ax_gI h.1 rfl
theorem mo_bodyLength_p {f : pl_H} {a : Nat} (h : mo_L f a) (x : Int32) : pl_pV f a 8 10 (.int x) = some (ux_f f a 10 (.int x)) := ax_pV h.1 (by decide)
theorem mo_body {f : pl_H} {a : Nat} (h : mo_L f a) : pl_gR f a 8 11 = some (a + 8) := (ax_gR h.1 rfl).trans h.2.2.2.2.2.2.2.2.1
theorem mo_codeLength {f : pl_H} {a : Nat} (h : mo_L f a) : pl_gI f a 8 12 = some (ax_i f a 12) := ax_gI h.1 rfl
theorem mo_codeLength_p {f : pl_H} {a : Nat} (h : mo_L f a) (x : Int32) : pl_pV f a 8 12 (.int x) = some (ux_f f a 12 (.int x)) := ax_pV h.1 (by decide)
theorem mo_code {f : pl_H} {a : Nat} (h : mo_L f a) : pl_gR f a 8 13 = some (a + 9) := (ax_gR h.1 rfl).trans h.2.2.2.2.2.2.2.2.2.1
theorem mo_packed {f : pl_H} {a : Nat} (h : mo_L f a) : pl_gR f a 8 14 = some (a + 10) := (ax_gR h.1 rfl).trans h.2.2.2.2.2.2.2.2.2.2.1
theorem mo_value {f : pl_H} {a : Nat} (h : mo_L f a) : pl_gR f a 8 15 = some (a + 11) := (ax_gR h.1 rfl).trans h.2.2.2.2.2.2.2.2.2.2.2.1
theorem mo_parts {f : pl_H} {a : Nat} (h : mo_L f a) : pl_gI f a 8 16 = some (ax_i f a 16) := ax_gI h.1 rfl
theorem mo_parts_p {f : pl_H} {a : Nat} (h : mo_L f a) (x : Int32) : pl_pV f a 8 16 (.int x) = some (ux_f f a 16 (.int x)) := ax_pV h.1 (by decide)
theorem mo_partLength {f : pl_H} {a : Nat} (h : mo_L f a) : pl_gR f a 8 17 = some (a + 12) := (ax_gR h.1 rfl).trans h.2.2.2.2.2.2.2.2.2.2.2.2.1
theorem mo_part {f : pl_H} {a : Nat} (h : mo_L f a) : pl_gR f a 8 18 = some (a + 13) := (ax_gR h.1 rfl).trans h.2.2.2.2.2.2.2.2.2.2.2.2.2.1
theorem mo_provenNonce {f : pl_H} {a : Nat} (h : mo_L f a) : pl_gL f a 8 19 = some (ax_l f a 19) := ax_gL h.1 rfl
theorem mo_provenNonce_p {f : pl_H} {a : Nat} (h : mo_L f a) (x : Int64) : pl_pV f a 8 19 (.long x) = some (ux_f f a 19 (.long x)) := ax_pV h.1 (by decide)
theorem mo_provenBalance {f : pl_H} {a : Nat} (h : mo_L f a) : pl_gL f a 8 20 = some (ax_l f a 20) := ax_gL h.1 rfl
theorem mo_provenBalance_p {f : pl_H} {a : Nat} (h : mo_L f a) (x : Int64) : pl_pV f a 8 20 (.long x) = some (ux_f f a 20 (.long x)) := ax_pV h.1 (by decide)
theorem mo_word {f : pl_H} {a : Nat} (h : mo_L f a) : pl_gR f a 8 21 = some (a + 14) := (ax_gR h.1 rfl).trans h.2.2.2.2.2.2.2.2.2.2.2.2.2.2.1
theorem mo_moved {f : pl_H} {a : Nat} (h : mo_L f a) : pl_gR f a 8 22 = some (a + 15) := (ax_gR h.1 rfl).trans h.2.2.2.2.2.2.2.2.2.2.2.2.2.2.2.1
theorem mo_column {f : pl_H} {a : Nat} (h : mo_L f a) : pl_gR f a 8 23 = some (a + 16) := (ax_gR h.1 rfl).trans h.2.2.2.2.2.2.2.2.2.2.2.2.2.2.2.2.1
theorem mo_distance {f : pl_H} {a : Nat} (h : mo_L f a) : pl_gR f a 8 24 = some (a + 17) := (ax_gR h.1 rfl).trans h.2.2.2.2.2.2.2.2.2.2.2.2.2.2.2.2.2.1
theorem mo_constant {f : pl_H} {a : Nat} (h : mo_L f a) : pl_gR f a 8 25 = some (a + 18) := (ax_gR h.1 rfl).trans h.2.2.2.2.2.2.2.2.2.2.2.2.2.2.2.2.2.2.1
theorem mo_padded {f : pl_H} {a : Nat} (h : mo_L f a) : pl_gR f a 8 26 = some (a + 19) := (ax_gR h.1 rfl).trans h.2.2.2.2.2.2.2.2.2.2.2.2.2.2.2.2.2.2.2.1
theorem mo_hash {f : pl_H} {a : Nat} (h : mo_L f a) : pl_gR f a 8 27 = some (a + 20) := (ax_gR h.1 rfl).trans h.2.2.2.2.2.2.2.2.2.2.2.2.2.2.2.2.2.2.2.2.1
theorem mo_root {f : pl_H} {a : Nat} (h : mo_L f a) : pl_gR f a 8 28 = some (a + 21) := (ax_gR h.1 rfl).trans h.2.2.2.2.2.2.2.2.2.2.2.2.2.2.2.2.2.2.2.2.2.1
theorem mo_wayPart {f : pl_H} {a : Nat} (h : mo_L f a) : pl_gI f a 8 29 = some (ax_i f a 29) := ax_gI h.1 rfl
theorem mo_wayPart_p {f : pl_H} {a : Nat} (h : mo_L f a) (x : Int32) : pl_pV f a 8 29 (.int x) = some (ux_f f a 29 (.int x)) := ax_pV h.1 (by decide)
theorem mo_wayPlace {f : pl_H} {a : Nat} (h : mo_L f a) : pl_gI f a 8 30 = some (ax_i f a 30) := ax_gI h.1 rfl
theorem mo_wayPlace_p {f : pl_H} {a : Nat} (h : mo_L f a) (x : Int32) : pl_pV f a 8 30 (.int x) = some (ux_f f a 30 (.int x)) := ax_pV h.1 (by decide)
theorem mo_wayDepth {f : pl_H} {a : Nat} (h : mo_L f a) : pl_gI f a 8 31 = some (ax_i f a 31) := ax_gI h.1 rfl
theorem mo_wayDepth_p {f : pl_H} {a : Nat} (h : mo_L f a) (x : Int32) : pl_pV f a 8 31 (.int x) = some (ux_f f a 31 (.int x)) := ax_pV h.1 (by decide)
theorem mo_wrong {f : pl_H} {a : Nat} (h : mo_L f a) : pl_gI f a 8 32 = some (ax_i f a 32) := ax_gI h.1 rfl
theorem mo_wrong_p {f : pl_H} {a : Nat} (h : mo_L f a) (x : Int32) : pl_pV f a 8 32 (.int x) = some (ux_f f a 32 (.int x)) := ax_pV h.1 (by decide)
theorem mo_told {f : pl_H} {a : Nat} (h : mo_L f a) : pl_gI f a 8 33 = some (ax_i f a 33) := ax_gI h.1 rfl
theorem mo_told_p {f : pl_H} {a : Nat} (h : mo_L f a) (x : Int32) : pl_pV f a 8 33 (.int x) = some (ux_f f a 33 (.int x)) := ax_pV h.1 (by decide)
theorem mo_number_s {f : pl_H} {a : Nat} (h : mo_L f a) : ax_sh (f (a + 1)) = (2, 0, [13]) := h.2.2.2.2.2.2.2.2.2.2.2.2.2.2.2.2.2.2.2.2.2.2.1
theorem mo_number_g {f : pl_H} {a j : Nat} (h : mo_L f a) (hj : j < 13) : pl_aI f (a + 1) (nI j) = some (ax_I f (a + 1) j) := bs_aI (mo_number_s h) hj (by decide)
theorem mo_number_w {f : pl_H} {a j : Nat} (h : mo_L f a) (hj : j < 13) (x : Int32) : pl_sI f (a + 1) (nI j) x = some (ux_I f (a + 1) j x) := bs_sI (mo_number_s h) hj (by decide) x
theorem mo_nonces_s {f : pl_H} {a : Nat} (h : mo_L f a) : ax_sh (f (a + 2)) = (2, 0, [13]) := h.2.2.2.2.2.2.2.2.2.2.2.2.2.2.2.2.2.2.2.2.2.2.2.1
theorem mo_nonces_g {f : pl_H} {a j : Nat} (h : mo_L f a) (hj : j < 13) : pl_aI f (a + 2) (nI j) = some (ax_I f (a + 2) j) := bs_aI (mo_nonces_s h) hj (by decide)
theorem mo_nonces_w {f : pl_H} {a j : Nat} (h : mo_L f a) (hj : j < 13) (x : Int32) : pl_sI f (a + 2) (nI j) x = some (ux_I f (a + 2) j x) := bs_sI (mo_nonces_s h) hj (by decide) x
theorem mo_balances_s {f : pl_H} {a : Nat} (h : mo_L f a) : ax_sh (f (a + 3)) = (3, 1, [13]) := h.2.2.2.2.2.2.2.2.2.2.2.2.2.2.2.2.2.2.2.2.2.2.2.2.1
theorem mo_balances_g {f : pl_H} {a j : Nat} (h : mo_L f a) (hj : j < 13) : pl_aL f (a + 3) (nI j) = some (ax_L f (a + 3) j) := bs_aL (mo_balances_s h) hj (by decide)
theorem mo_balances_w {f : pl_H} {a j : Nat} (h : mo_L f a) (hj : j < 13) (x : Int64) : pl_sL f (a + 3) (nI j) x = some (ux_L f (a + 3) j x) := bs_sL (mo_balances_s h) hj (by decide) x
theorem mo_refer_s {f : pl_H} {a : Nat} (h : mo_L f a) : ax_sh (f (a + 4)) = (2, 0, [1980]) := h.2.2.2.2.2.2.2.2.2.2.2.2.2.2.2.2.2.2.2.2.2.2.2.2.2.1
theorem mo_refer_g {f : pl_H} {a j : Nat} (h : mo_L f a) (hj : j < 1980) : pl_aI f (a + 4) (nI j) = some (ax_I f (a + 4) j) := bs_aI (mo_refer_s h) hj (by decide)
theorem mo_refer_w {f : pl_H} {a j : Nat} (h : mo_L f a) (hj : j < 1980) (x : Int32) : pl_sI f (a + 4) (nI j) x = some (ux_I f (a + 4) j x) := bs_sI (mo_refer_s h) hj (by decide) x
theorem mo_referLength_s {f : pl_H} {a : Nat} (h : mo_L f a) : ax_sh (f (a + 5)) = (2, 0, [60]) := h.2.2.2.2.2.2.2.2.2.2.2.2.2.2.2.2.2.2.2.2.2.2.2.2.2.2.1
theorem mo_referLength_g {f : pl_H} {a j : Nat} (h : mo_L f a) (hj : j < 60) : pl_aI f (a + 5) (nI j) = some (ax_I f (a + 5) j) := bs_aI (mo_referLength_s h) hj (by decide)
theorem mo_referLength_w {f : pl_H} {a j : Nat} (h : mo_L f a) (hj : j < 60) (x : Int32) : pl_sI f (a + 5) (nI j) x = some (ux_I f (a + 5) j x) := bs_sI (mo_referLength_s h) hj (by decide) x
theorem mo_byHash_s {f : pl_H} {a : Nat} (h : mo_L f a) : ax_sh (f (a + 6)) = (2, 4, [60]) := h.2.2.2.2.2.2.2.2.2.2.2.2.2.2.2.2.2.2.2.2.2.2.2.2.2.2.2.1
theorem mo_byHash_g {f : pl_H} {a j : Nat} (h : mo_L f a) (hj : j < 60) : pl_aZ f (a + 6) (nI j) = some (ax_I f (a + 6) j) := bs_aZ (mo_byHash_s h) hj (by decide)
theorem mo_used_s {f : pl_H} {a : Nat} (h : mo_L f a) : ax_sh (f (a + 7)) = (2, 4, [60]) := h.2.2.2.2.2.2.2.2.2.2.2.2.2.2.2.2.2.2.2.2.2.2.2.2.2.2.2.2.1
theorem mo_used_g {f : pl_H} {a j : Nat} (h : mo_L f a) (hj : j < 60) : pl_aZ f (a + 7) (nI j) = some (ax_I f (a + 7) j) := bs_aZ (mo_used_s h) hj (by decide)
theorem mo_body_s {f : pl_H} {a : Nat} (h : mo_L f a) : ax_sh (f (a + 8)) = (2, 0, [600]) := h.2.2.2.2.2.2.2.2.2.2.2.2.2.2.2.2.2.2.2.2.2.2.2.2.2.2.2.2.2.1
theorem mo_body_g {f : pl_H} {a j : Nat} (h : mo_L f a) (hj : j < 600) : pl_aI f (a + 8) (nI j) = some (ax_I f (a + 8) j) := bs_aI (mo_body_s h) hj (by decide)
theorem mo_body_w {f : pl_H} {a j : Nat} (h : mo_L f a) (hj : j < 600) (x : Int32) : pl_sI f (a + 8) (nI j) x = some (ux_I f (a + 8) j x) := bs_sI (mo_body_s h) hj (by decide) x
theorem mo_code_s {f : pl_H} {a : Nat} (h : mo_L f a) : ax_sh (f (a + 9)) = (2, 0, [600]) := h.2.2.2.2.2.2.2.2.2.2.2.2.2.2.2.2.2.2.2.2.2.2.2.2.2.2.2.2.2.2.1
theorem mo_code_g {f : pl_H} {a j : Nat} (h : mo_L f a) (hj : j < 600) : pl_aI f (a + 9) (nI j) = some (ax_I f (a + 9) j) := bs_aI (mo_code_s h) hj (by decide)
theorem mo_code_w {f : pl_H} {a j : Nat} (h : mo_L f a) (hj : j < 600) (x : Int32) : pl_sI f (a + 9) (nI j) x = some (ux_I f (a + 9) j x) := bs_sI (mo_code_s h) hj (by decide) x
theorem mo_packed_s {f : pl_H} {a : Nat} (h : mo_L f a) : ax_sh (f (a + 10)) = (2, 0, [3]) := h.2.2.2.2.2.2.2.2.2.2.2.2.2.2.2.2.2.2.2.2.2.2.2.2.2.2.2.2.2.2.2.1
theorem mo_packed_g {f : pl_H} {a j : Nat} (h : mo_L f a) (hj : j < 3) : pl_aI f (a + 10) (nI j) = some (ax_I f (a + 10) j) := bs_aI (mo_packed_s h) hj (by decide)
theorem mo_packed_w {f : pl_H} {a j : Nat} (h : mo_L f a) (hj : j < 3) (x : Int32) : pl_sI f (a + 10) (nI j) x = some (ux_I f (a + 10) j x) := bs_sI (mo_packed_s h) hj (by decide) x
theorem mo_value_s {f : pl_H} {a : Nat} (h : mo_L f a) : ax_sh (f (a + 11)) = (2, 0, [16]) := h.2.2.2.2.2.2.2.2.2.2.2.2.2.2.2.2.2.2.2.2.2.2.2.2.2.2.2.2.2.2.2.2.1
theorem mo_value_g {f : pl_H} {a j : Nat} (h : mo_L f a) (hj : j < 16) : pl_aI f (a + 11) (nI j) = some (ax_I f (a + 11) j) := bs_aI (mo_value_s h) hj (by decide)
theorem mo_value_w {f : pl_H} {a j : Nat} (h : mo_L f a) (hj : j < 16) (x : Int32) : pl_sI f (a + 11) (nI j) x = some (ux_I f (a + 11) j x) := bs_sI (mo_value_s h) hj (by decide) x
theorem mo_partLength_s {f : pl_H} {a : Nat} (h : mo_L f a) : ax_sh (f (a + 12)) = (2, 0, [5]) := h.2.2.2.2.2.2.2.2.2.2.2.2.2.2.2.2.2.2.2.2.2.2.2.2.2.2.2.2.2.2.2.2.2.1
theorem mo_partLength_g {f : pl_H} {a j : Nat} (h : mo_L f a) (hj : j < 5) : pl_aI f (a + 12) (nI j) = some (ax_I f (a + 12) j) := bs_aI (mo_partLength_s h) hj (by decide)
theorem mo_partLength_w {f : pl_H} {a j : Nat} (h : mo_L f a) (hj : j < 5) (x : Int32) : pl_sI f (a + 12) (nI j) x = some (ux_I f (a + 12) j x) := bs_sI (mo_partLength_s h) hj (by decide) x
theorem mo_part_s {f : pl_H} {a : Nat} (h : mo_L f a) : ax_sh (f (a + 13)) = (2, 0, [3000]) := h.2.2.2.2.2.2.2.2.2.2.2.2.2.2.2.2.2.2.2.2.2.2.2.2.2.2.2.2.2.2.2.2.2.2.1
theorem mo_part_g {f : pl_H} {a j : Nat} (h : mo_L f a) (hj : j < 3000) : pl_aI f (a + 13) (nI j) = some (ax_I f (a + 13) j) := bs_aI (mo_part_s h) hj (by decide)
theorem mo_part_w {f : pl_H} {a j : Nat} (h : mo_L f a) (hj : j < 3000) (x : Int32) : pl_sI f (a + 13) (nI j) x = some (ux_I f (a + 13) j x) := bs_sI (mo_part_s h) hj (by decide) x
theorem mo_word_s {f : pl_H} {a : Nat} (h : mo_L f a) : ax_sh (f (a + 14)) = (3, 1, [25]) := h.2.2.2.2.2.2.2.2.2.2.2.2.2.2.2.2.2.2.2.2.2.2.2.2.2.2.2.2.2.2.2.2.2.2.2.1
theorem mo_word_g {f : pl_H} {a j : Nat} (h : mo_L f a) (hj : j < 25) : pl_aL f (a + 14) (nI j) = some (ax_L f (a + 14) j) := bs_aL (mo_word_s h) hj (by decide)
theorem mo_word_w {f : pl_H} {a j : Nat} (h : mo_L f a) (hj : j < 25) (x : Int64) : pl_sL f (a + 14) (nI j) x = some (ux_L f (a + 14) j x) := bs_sL (mo_word_s h) hj (by decide) x
theorem mo_moved_s {f : pl_H} {a : Nat} (h : mo_L f a) : ax_sh (f (a + 15)) = (3, 1, [25]) := h.2.2.2.2.2.2.2.2.2.2.2.2.2.2.2.2.2.2.2.2.2.2.2.2.2.2.2.2.2.2.2.2.2.2.2.2.1
theorem mo_moved_g {f : pl_H} {a j : Nat} (h : mo_L f a) (hj : j < 25) : pl_aL f (a + 15) (nI j) = some (ax_L f (a + 15) j) := bs_aL (mo_moved_s h) hj (by decide)
theorem mo_moved_w {f : pl_H} {a j : Nat} (h : mo_L f a) (hj : j < 25) (x : Int64) : pl_sL f (a + 15) (nI j) x = some (ux_L f (a + 15) j x) := bs_sL (mo_moved_s h) hj (by decide) x
theorem mo_column_s {f : pl_H} {a : Nat} (h : mo_L f a) : ax_sh (f (a + 16)) = (3, 1, [5]) := h.2.2.2.2.2.2.2.2.2.2.2.2.2.2.2.2.2.2.2.2.2.2.2.2.2.2.2.2.2.2.2.2.2.2.2.2.2.1
theorem mo_column_g {f : pl_H} {a j : Nat} (h : mo_L f a) (hj : j < 5) : pl_aL f (a + 16) (nI j) = some (ax_L f (a + 16) j) := bs_aL (mo_column_s h) hj (by decide)
theorem mo_column_w {f : pl_H} {a j : Nat} (h : mo_L f a) (hj : j < 5) (x : Int64) : pl_sL f (a + 16) (nI j) x = some (ux_L f (a + 16) j x) := bs_sL (mo_column_s h) hj (by decide) x
theorem mo_distance_s {f : pl_H} {a : Nat} (h : mo_L f a) : ax_sh (f (a + 17)) = (2, 0, [25]) := h.2.2.2.2.2.2.2.2.2.2.2.2.2.2.2.2.2.2.2.2.2.2.2.2.2.2.2.2.2.2.2.2.2.2.2.2.2.2.1
theorem mo_distance_g {f : pl_H} {a j : Nat} (h : mo_L f a) (hj : j < 25) : pl_aI f (a + 17) (nI j) = some (ax_I f (a + 17) j) := bs_aI (mo_distance_s h) hj (by decide)
theorem mo_distance_w {f : pl_H} {a j : Nat} (h : mo_L f a) (hj : j < 25) (x : Int32) : pl_sI f (a + 17) (nI j) x = some (ux_I f (a + 17) j x) := bs_sI (mo_distance_s h) hj (by decide) x
theorem mo_constant_s {f : pl_H} {a : Nat} (h : mo_L f a) : ax_sh (f (a + 18)) = (3, 1, [24]) := h.2.2.2.2.2.2.2.2.2.2.2.2.2.2.2.2.2.2.2.2.2.2.2.2.2.2.2.2.2.2.2.2.2.2.2.2.2.2.2.1
theorem mo_constant_g {f : pl_H} {a j : Nat} (h : mo_L f a) (hj : j < 24) : pl_aL f (a + 18) (nI j) = some (ax_L f (a + 18) j) := bs_aL (mo_constant_s h) hj (by decide)
theorem mo_constant_w {f : pl_H} {a j : Nat} (h : mo_L f a) (hj : j < 24) (x : Int64) : pl_sL f (a + 18) (nI j) x = some (ux_L f (a + 18) j x) := bs_sL (mo_constant_s h) hj (by decide) x
theorem mo_padded_s {f : pl_H} {a : Nat} (h : mo_L f a) : ax_sh (f (a + 19)) = (2, 0, [680]) := h.2.2.2.2.2.2.2.2.2.2.2.2.2.2.2.2.2.2.2.2.2.2.2.2.2.2.2.2.2.2.2.2.2.2.2.2.2.2.2.2.1
theorem mo_padded_g {f : pl_H} {a j : Nat} (h : mo_L f a) (hj : j < 680) : pl_aI f (a + 19) (nI j) = some (ax_I f (a + 19) j) := bs_aI (mo_padded_s h) hj (by decide)
theorem mo_padded_w {f : pl_H} {a j : Nat} (h : mo_L f a) (hj : j < 680) (x : Int32) : pl_sI f (a + 19) (nI j) x = some (ux_I f (a + 19) j x) := bs_sI (mo_padded_s h) hj (by decide) x
theorem mo_hash_s {f : pl_H} {a : Nat} (h : mo_L f a) : ax_sh (f (a + 20)) = (2, 0, [32]) := h.2.2.2.2.2.2.2.2.2.2.2.2.2.2.2.2.2.2.2.2.2.2.2.2.2.2.2.2.2.2.2.2.2.2.2.2.2.2.2.2.2.1
theorem mo_hash_g {f : pl_H} {a j : Nat} (h : mo_L f a) (hj : j < 32) : pl_aI f (a + 20) (nI j) = some (ax_I f (a + 20) j) := bs_aI (mo_hash_s h) hj (by decide)
theorem mo_hash_w {f : pl_H} {a j : Nat} (h : mo_L f a) (hj : j < 32) (x : Int32) : pl_sI f (a + 20) (nI j) x = some (ux_I f (a + 20) j x) := bs_sI (mo_hash_s h) hj (by decide) x
theorem mo_root_s {f : pl_H} {a : Nat} (h : mo_L f a) : ax_sh (f (a + 21)) = (2, 0, [32]) := h.2.2.2.2.2.2.2.2.2.2.2.2.2.2.2.2.2.2.2.2.2.2.2.2.2.2.2.2.2.2.2.2.2.2.2.2.2.2.2.2.2.2
theorem mo_root_g {f : pl_H} {a j : Nat} (h : mo_L f a) (hj : j < 32) : pl_aI f (a + 21) (nI j) = some (ax_I f (a + 21) j) := bs_aI (mo_root_s h) hj (by decide)
theorem mo_root_w {f : pl_H} {a j : Nat} (h : mo_L f a) (hj : j < 32) (x : Int32) : pl_sI f (a + 21) (nI j) x = some (ux_I f (a + 21) j x) := bs_sI (mo_root_s h) hj (by decide) x
theorem mo_uL {f : pl_H} {a : Nat} (h : mo_L f a) (b k : Nat) (x : Int64) : mo_L (ux_L f b k x) a := by
  obtain ⟨h0, r0, r1, r2, r3, r4, r5, r6, r7, r8, r9, r10, r11, r12, r13, r14, r15, r16, r17, r18, r19, r20, s0, s1, s2, s3, s4, s5, s6, s7, s8, s9, s10, s11, s12, s13, s14, s15, s16, s17, s18, s19, s20⟩ := h
  refine ⟨?_, ?_, ?_, ?_, ?_, ?_, ?_, ?_, ?_, ?_, ?_, ?_, ?_, ?_, ?_, ?_, ?_, ?_, ?_, ?_, ?_, ?_, ?_, ?_, ?_, ?_, ?_, ?_, ?_, ?_, ?_, ?_, ?_, ?_, ?_, ?_, ?_, ?_, ?_, ?_, ?_, ?_, ?_⟩
  · rw [sx_L]; exact h0
  · unfold ax_r; rw [rx_v_L]; exact r0
  · unfold ax_r; rw [rx_v_L]; exact r1
  · unfold ax_r; rw [rx_v_L]; exact r2
  · unfold ax_r; rw [rx_v_L]; exact r3
  · unfold ax_r; rw [rx_v_L]; exact r4
  · unfold ax_r; rw [rx_v_L]; exact r5
  · unfold ax_r; rw [rx_v_L]; exact r6
  · unfold ax_r; rw [rx_v_L]; exact r7
  · unfold ax_r; rw [rx_v_L]; exact r8
  · unfold ax_r; rw [rx_v_L]; exact r9
  · unfold ax_r; rw [rx_v_L]; exact r10
  · unfold ax_r; rw [rx_v_L]; exact r11
  · unfold ax_r; rw [rx_v_L]; exact r12
  · unfold ax_r; rw [rx_v_L]; exact r13
  · unfold ax_r; rw [rx_v_L]; exact r14
  · unfold ax_r; rw [rx_v_L]; exact r15
  · unfold ax_r; rw [rx_v_L]; exact r16
  · unfold ax_r; rw [rx_v_L]; exact r17
  · unfold ax_r; rw [rx_v_L]; exact r18
  · unfold ax_r; rw [rx_v_L]; exact r19
  · unfold ax_r; rw [rx_v_L]; exact r20
  · rw [sx_L]; exact s0
  · rw [sx_L]; exact s1
  · rw [sx_L]; exact s2
  · rw [sx_L]; exact s3
  · rw [sx_L]; exact s4
  · rw [sx_L]; exact s5
  · rw [sx_L]; exact s6
  · rw [sx_L]; exact s7
  · rw [sx_L]; exact s8
  · rw [sx_L]; exact s9
  · rw [sx_L]; exact s10
  · rw [sx_L]; exact s11
  · rw [sx_L]; exact s12
  · rw [sx_L]; exact s13
  · rw [sx_L]; exact s14
  · rw [sx_L]; exact s15
  · rw [sx_L]; exact s16
  · rw [sx_L]; exact s17
  · rw [sx_L]; exact s18
  · rw [sx_L]; exact s19
  · rw [sx_L]; exact s20
theorem mo_uI {f : pl_H} {a : Nat} (h : mo_L f a) (b k : Nat) (x : Int32) : mo_L (ux_I f b k x) a := by
  obtain ⟨h0, r0, r1, r2, r3, r4, r5, r6, r7, r8, r9, r10, r11, r12, r13, r14, r15, r16, r17, r18, r19, r20, s0, s1, s2, s3, s4, s5, s6, s7, s8, s9, s10, s11, s12, s13, s14, s15, s16, s17, s18, s19, s20⟩ := h
  refine ⟨?_, ?_, ?_, ?_, ?_, ?_, ?_, ?_, ?_, ?_, ?_, ?_, ?_, ?_, ?_, ?_, ?_, ?_, ?_, ?_, ?_, ?_, ?_, ?_, ?_, ?_, ?_, ?_, ?_, ?_, ?_, ?_, ?_, ?_, ?_, ?_, ?_, ?_, ?_, ?_, ?_, ?_, ?_⟩
  · rw [sx_I]; exact h0
  · unfold ax_r; rw [rx_v_I]; exact r0
  · unfold ax_r; rw [rx_v_I]; exact r1
  · unfold ax_r; rw [rx_v_I]; exact r2
  · unfold ax_r; rw [rx_v_I]; exact r3
  · unfold ax_r; rw [rx_v_I]; exact r4
  · unfold ax_r; rw [rx_v_I]; exact r5
  · unfold ax_r; rw [rx_v_I]; exact r6
  · unfold ax_r; rw [rx_v_I]; exact r7
  · unfold ax_r; rw [rx_v_I]; exact r8
  · unfold ax_r; rw [rx_v_I]; exact r9
  · unfold ax_r; rw [rx_v_I]; exact r10
  · unfold ax_r; rw [rx_v_I]; exact r11
  · unfold ax_r; rw [rx_v_I]; exact r12
  · unfold ax_r; rw [rx_v_I]; exact r13
  · unfold ax_r; rw [rx_v_I]; exact r14
  · unfold ax_r; rw [rx_v_I]; exact r15
  · unfold ax_r; rw [rx_v_I]; exact r16
  · unfold ax_r; rw [rx_v_I]; exact r17
  · unfold ax_r; rw [rx_v_I]; exact r18
  · unfold ax_r; rw [rx_v_I]; exact r19
  · unfold ax_r; rw [rx_v_I]; exact r20
  · rw [sx_I]; exact s0
  · rw [sx_I]; exact s1
  · rw [sx_I]; exact s2
  · rw [sx_I]; exact s3
  · rw [sx_I]; exact s4
  · rw [sx_I]; exact s5
  · rw [sx_I]; exact s6
  · rw [sx_I]; exact s7
  · rw [sx_I]; exact s8
  · rw [sx_I]; exact s9
  · rw [sx_I]; exact s10
  · rw [sx_I]; exact s11
  · rw [sx_I]; exact s12
  · rw [sx_I]; exact s13
  · rw [sx_I]; exact s14
  · rw [sx_I]; exact s15
  · rw [sx_I]; exact s16
  · rw [sx_I]; exact s17
  · rw [sx_I]; exact s18
  · rw [sx_I]; exact s19
  · rw [sx_I]; exact s20
theorem mo_uF {f : pl_H} {a : Nat} (h : mo_L f a) {k : Nat} {v : Value} (hk : mo_tg[k]? = some (ax_vt v)) (hv : ax_vt v ≠ 2) : mo_L (ux_f f a k v) a := by
  have hs := sx_f h.1 hk
  have hne : ∀ j, mo_tg[j]? = some 2 → j ≠ k := fun j hj e => by
    rw [e, hk] at hj
    exact hv (Option.some.inj hj)
  obtain ⟨h0, r0, r1, r2, r3, r4, r5, r6, r7, r8, r9, r10, r11, r12, r13, r14, r15, r16, r17, r18, r19, r20, s0, s1, s2, s3, s4, s5, s6, s7, s8, s9, s10, s11, s12, s13, s14, s15, s16, s17, s18, s19, s20⟩ := h
  refine ⟨?_, ?_, ?_, ?_, ?_, ?_, ?_, ?_, ?_, ?_, ?_, ?_, ?_, ?_, ?_, ?_, ?_, ?_, ?_, ?_, ?_, ?_, ?_, ?_, ?_, ?_, ?_, ?_, ?_, ?_, ?_, ?_, ?_, ?_, ?_, ?_, ?_, ?_, ?_, ?_, ?_, ?_, ?_⟩
  · rw [hs]; exact h0
  · unfold ax_r; rw [rx_v_fne (Or.inr (hne _ rfl))]; exact r0
  · unfold ax_r; rw [rx_v_fne (Or.inr (hne _ rfl))]; exact r1
  · unfold ax_r; rw [rx_v_fne (Or.inr (hne _ rfl))]; exact r2
  · unfold ax_r; rw [rx_v_fne (Or.inr (hne _ rfl))]; exact r3
  · unfold ax_r; rw [rx_v_fne (Or.inr (hne _ rfl))]; exact r4
  · unfold ax_r; rw [rx_v_fne (Or.inr (hne _ rfl))]; exact r5
  · unfold ax_r; rw [rx_v_fne (Or.inr (hne _ rfl))]; exact r6
  · unfold ax_r; rw [rx_v_fne (Or.inr (hne _ rfl))]; exact r7
  · unfold ax_r; rw [rx_v_fne (Or.inr (hne _ rfl))]; exact r8
  · unfold ax_r; rw [rx_v_fne (Or.inr (hne _ rfl))]; exact r9
  · unfold ax_r; rw [rx_v_fne (Or.inr (hne _ rfl))]; exact r10
  · unfold ax_r; rw [rx_v_fne (Or.inr (hne _ rfl))]; exact r11
  · unfold ax_r; rw [rx_v_fne (Or.inr (hne _ rfl))]; exact r12
  · unfold ax_r; rw [rx_v_fne (Or.inr (hne _ rfl))]; exact r13
  · unfold ax_r; rw [rx_v_fne (Or.inr (hne _ rfl))]; exact r14
  · unfold ax_r; rw [rx_v_fne (Or.inr (hne _ rfl))]; exact r15
  · unfold ax_r; rw [rx_v_fne (Or.inr (hne _ rfl))]; exact r16
  · unfold ax_r; rw [rx_v_fne (Or.inr (hne _ rfl))]; exact r17
  · unfold ax_r; rw [rx_v_fne (Or.inr (hne _ rfl))]; exact r18
  · unfold ax_r; rw [rx_v_fne (Or.inr (hne _ rfl))]; exact r19
  · unfold ax_r; rw [rx_v_fne (Or.inr (hne _ rfl))]; exact r20
  · rw [hs]; exact s0
  · rw [hs]; exact s1
  · rw [hs]; exact s2
  · rw [hs]; exact s3
  · rw [hs]; exact s4
  · rw [hs]; exact s5
  · rw [hs]; exact s6
  · rw [hs]; exact s7
  · rw [hs]; exact s8
  · rw [hs]; exact s9
  · rw [hs]; exact s10
  · rw [hs]; exact s11
  · rw [hs]; exact s12
  · rw [hs]; exact s13
  · rw [hs]; exact s14
  · rw [hs]; exact s15
  · rw [hs]; exact s16
  · rw [hs]; exact s17
  · rw [hs]; exact s18
  · rw [hs]; exact s19
  · rw [hs]; exact s20
/-- what happens elsewhere doesn't matter -/
theorem mo_kp {f f' : pl_H} {a : Nat} {S : Nat → Prop} (h : mo_L f a) (hk : bs_kp S f f') (hS : ∀ q, a ≤ q → q < a + 22 → ¬ S q) : mo_L f' a := by
  have e0 := hk a (hS a (Nat.le_refl _) (by omega))
  obtain ⟨h0, r0, r1, r2, r3, r4, r5, r6, r7, r8, r9, r10, r11, r12, r13, r14, r15, r16, r17, r18, r19, r20, s0, s1, s2, s3, s4, s5, s6, s7, s8, s9, s10, s11, s12, s13, s14, s15, s16, s17, s18, s19, s20⟩ := h
  refine ⟨?_, ?_, ?_, ?_, ?_, ?_, ?_, ?_, ?_, ?_, ?_, ?_, ?_, ?_, ?_, ?_, ?_, ?_, ?_, ?_, ?_, ?_, ?_, ?_, ?_, ?_, ?_, ?_, ?_, ?_, ?_, ?_, ?_, ?_, ?_, ?_, ?_, ?_, ?_, ?_, ?_, ?_, ?_⟩
  · rw [e0]; exact h0
  · unfold ax_r ax_v; rw [e0]; exact r0
  · unfold ax_r ax_v; rw [e0]; exact r1
  · unfold ax_r ax_v; rw [e0]; exact r2
  · unfold ax_r ax_v; rw [e0]; exact r3
  · unfold ax_r ax_v; rw [e0]; exact r4
  · unfold ax_r ax_v; rw [e0]; exact r5
  · unfold ax_r ax_v; rw [e0]; exact r6
  · unfold ax_r ax_v; rw [e0]; exact r7
  · unfold ax_r ax_v; rw [e0]; exact r8
  · unfold ax_r ax_v; rw [e0]; exact r9
  · unfold ax_r ax_v; rw [e0]; exact r10
  · unfold ax_r ax_v; rw [e0]; exact r11
  · unfold ax_r ax_v; rw [e0]; exact r12
  · unfold ax_r ax_v; rw [e0]; exact r13
  · unfold ax_r ax_v; rw [e0]; exact r14
  · unfold ax_r ax_v; rw [e0]; exact r15
  · unfold ax_r ax_v; rw [e0]; exact r16
  · unfold ax_r ax_v; rw [e0]; exact r17
  · unfold ax_r ax_v; rw [e0]; exact r18
  · unfold ax_r ax_v; rw [e0]; exact r19
  · unfold ax_r ax_v; rw [e0]; exact r20
  · rw [hk _ (hS _ (by omega) (by omega))]; exact s0
  · rw [hk _ (hS _ (by omega) (by omega))]; exact s1
  · rw [hk _ (hS _ (by omega) (by omega))]; exact s2
  · rw [hk _ (hS _ (by omega) (by omega))]; exact s3
  · rw [hk _ (hS _ (by omega) (by omega))]; exact s4
  · rw [hk _ (hS _ (by omega) (by omega))]; exact s5
  · rw [hk _ (hS _ (by omega) (by omega))]; exact s6
  · rw [hk _ (hS _ (by omega) (by omega))]; exact s7
  · rw [hk _ (hS _ (by omega) (by omega))]; exact s8
  · rw [hk _ (hS _ (by omega) (by omega))]; exact s9
  · rw [hk _ (hS _ (by omega) (by omega))]; exact s10
  · rw [hk _ (hS _ (by omega) (by omega))]; exact s11
  · rw [hk _ (hS _ (by omega) (by omega))]; exact s12
  · rw [hk _ (hS _ (by omega) (by omega))]; exact s13
  · rw [hk _ (hS _ (by omega) (by omega))]; exact s14
  · rw [hk _ (hS _ (by omega) (by omega))]; exact s15
  · rw [hk _ (hS _ (by omega) (by omega))]; exact s16
  · rw [hk _ (hS _ (by omega) (by omega))]; exact s17
  · rw [hk _ (hS _ (by omega) (by omega))]; exact s18
  · rw [hk _ (hS _ (by omega) (by omega))]; exact s19
  · rw [hk _ (hS _ (by omega) (by omega))]; exact s20
