/-! parts, length, part, alter, shorten: both sides over the list of parts. -/
def sp_at {α : Type} (P : List α) (x : Int32) : Option α := if x < 0 then none else P[x.toNatClampNeg]?
theorem sp_at_c {α : Type} (P : List α) (x : Int32) (h : P.length < 2 ^ 31) : (sp_at P x = none ∧ (x < 0 ∨ (¬ x < 0 ∧ nI P.length ≤ x))) ∨ ∃ p L, x = nI p ∧ p < P.length ∧ P[p]? = some L ∧ sp_at P x = some L := by
  unfold sp_at
  by_cases h0 : x < 0
  · rw [if_pos h0]
    exact Or.inl ⟨rfl, Or.inl h0⟩
  · rw [if_neg h0]
    obtain ⟨p, hp, rfl⟩ := nI_of h0
    rw [bs_cl hp]
    rcases Nat.lt_or_ge p P.length with z | z
    · have e : P[p]? = some P[p] := by simp [z]
      exact Or.inr ⟨p, P[p], rfl, z, e, e⟩
    · exact Or.inl ⟨List.getElem?_eq_none z, Or.inr ⟨h0, (bs_le h hp).mpr z⟩⟩
def sp_len (P : List (List Int32)) (x : Int32) : Int32 := match sp_at P x with
  | none => -1
  | some L => nI L.length
def sp_part (P : List (List Int32)) (x i : Int32) : Int32 := match sp_at P x with
  | none => -1
  | some L => match sp_at L i with
    | none => -1
    | some b => b
def sp_alter (P : List (List Int32)) (x i b : Int32) : Int32 × List (List Int32) := match sp_at P x with
  | none => (0, P)
  | some L => match sp_at L i with
    | none => (0, P)
    | some b0 => if b < 0 then (0, P) else if b ≤ 255 then (if b0 = b then 0 else 1, P.set x.toNatClampNeg (L.set i.toNatClampNeg b)) else (0, P)
theorem sp_alter_n {P : List (List Int32)} {x i b : Int32} (e : sp_at P x = none) : sp_alter P x i b = (0, P) := by
  unfold sp_alter
  simp only [e]
theorem sp_alter_m {P : List (List Int32)} {L : List Int32} {x i b : Int32} (e : sp_at P x = some L) (e2 : sp_at L i = none) : sp_alter P x i b = (0, P) := by
  unfold sp_alter
  simp only [e, e2]
theorem sp_alter_y {P : List (List Int32)} {L : List Int32} {x i b b0 : Int32} (e : sp_at P x = some L) (e2 : sp_at L i = some b0) : sp_alter P x i b = if b < 0 then (0, P) else if b ≤ 255 then (if b0 = b then 0 else 1, P.set x.toNatClampNeg (L.set i.toNatClampNeg b)) else (0, P) := by
  unfold sp_alter
  simp only [e, e2]
def sp_short (P : List (List Int32)) : Int32 × List (List Int32) := if P.length = 0 then (-1, P) else (nI (P.length - 1), P.dropLast)
theorem pf_hp_n {f : pl_H} {n : Nat} {P : List (List Int32)} (h : pf_R f n P) {x : Int32} (hx : x < 0 ∨ (¬ x < 0 ∧ nI P.length ≤ x)) : fn_P_hasPart f (n + 83) x = some 0 := by
  unfold fn_P_hasPart fn_P_hasPart_16 fn_P_hasPart_17
  rcases hx with z | ⟨z, z'⟩
  · rw [if_pos z]; rfl
  · rw [if_neg z, pf_2 h.1, h.2.1, Option.bind_some, if_pos z']; rfl
theorem pf_hp_y {f : pl_H} {n p : Nat} {P : List (List Int32)} (h : pf_R f n P) (hp : p < P.length) : fn_P_hasPart f (n + 83) (nI p) = some 1 := by
  have h5 := h.2.2.1
  unfold fn_P_hasPart fn_P_hasPart_16 fn_P_hasPart_17
  rw [if_neg (nI_pos (by omega)), pf_2 h.1, h.2.1, Option.bind_some, if_neg (fun z => absurd ((bs_le (by omega) (by omega)).mp z) (by omega))]
  rfl
theorem pf_lo {f : pl_H} {n p : Nat} {P : List (List Int32)} {L : List Int32} (h : pf_R f n P) (hL : P[p]? = some L) : fn_P_lengthOf f (n + 83) (nI p) = some (nI L.length) := by
  have h5 := h.2.2.1
  have hp := gl_lt hL
  unfold fn_P_lengthOf fn_P_lengthOf_18
  rw [ax_is h.1.1, Option.bind_some, pf_hp_y h hp, Option.bind_some, if_neg (by decide), pf_1 h.1, Option.bind_some, bs_aI h.1.2.2.2.2.2.2 (by omega) (by decide), (h.2.2.2 p L hL).2.1, Option.bind_some]
theorem pf_hb_n {f : pl_H} {n : Nat} {P : List (List Int32)} (h : pf_R f n P) {x i : Int32} (hx : x < 0 ∨ (¬ x < 0 ∧ nI P.length ≤ x)) : fn_P_hasByte f (n + 83) x i = some 0 := by
  unfold fn_P_hasByte fn_P_hasByte_30 fn_P_hasByte_31
  rcases hx with z | ⟨z, z'⟩
  · rw [if_pos z]; rfl
  · rw [if_neg z, pf_2 h.1, h.2.1, Option.bind_some, if_pos z']; rfl
theorem pf_hb_m {f : pl_H} {n p : Nat} {P : List (List Int32)} {L : List Int32} (h : pf_R f n P) (hL : P[p]? = some L) {i : Int32} (hi : i < 0 ∨ (¬ i < 0 ∧ nI L.length ≤ i)) : fn_P_hasByte f (n + 83) (nI p) i = some 0 := by
  have h5 := h.2.2.1
  have hp := gl_lt hL
  unfold fn_P_hasByte fn_P_hasByte_30 fn_P_hasByte_31
  rw [if_neg (nI_pos (by omega)), pf_2 h.1, h.2.1, Option.bind_some, if_neg (fun z => absurd ((bs_le (by omega) (by omega)).mp z) (by omega))]
  rcases hi with z | ⟨z, z'⟩
  · rw [if_pos z]; rfl
  · rw [if_neg z, pf_1 h.1, Option.bind_some, bs_aI h.1.2.2.2.2.2.2 (by omega) (by decide), (h.2.2.2 p L hL).2.1, Option.bind_some, if_pos z']; rfl
theorem pf_hb_y {f : pl_H} {n p i : Nat} {P : List (List Int32)} {L : List Int32} (h : pf_R f n P) (hL : P[p]? = some L) (hi : i < L.length) : fn_P_hasByte f (n + 83) (nI p) (nI i) = some 1 := by
  have h5 := h.2.2.1
  have hp := gl_lt hL
  have h4 := (h.2.2.2 p L hL).1
  unfold fn_P_hasByte fn_P_hasByte_30 fn_P_hasByte_31
  rw [if_neg (nI_pos (by omega)), pf_2 h.1, h.2.1, Option.bind_some, if_neg (fun z => absurd ((bs_le (by omega) (by omega)).mp z) (by omega)), if_neg (nI_pos (by omega)), pf_1 h.1, Option.bind_some, bs_aI h.1.2.2.2.2.2.2 (by omega) (by decide), (h.2.2.2 p L hL).2.1, Option.bind_some, if_neg (fun z => absurd ((bs_le (by omega) (by omega)).mp z) (by omega))]
  rfl
theorem pf_ba {f : pl_H} {n p i : Nat} {P : List (List Int32)} {L : List Int32} {b : Int32} (h : pf_R f n P) (hL : P[p]? = some L) (hi : L[i]? = some b) : fn_P_byteAt f (n + 83) (nI p) (nI i) = some b := by
  have h5 := h.2.2.1
  have hp := gl_lt hL
  have h4 := (h.2.2.2 p L hL).1
  have hi' := gl_lt hi
  unfold fn_P_byteAt fn_P_byteAt_21
  rw [ax_is h.1.1, Option.bind_some, pf_hb_y h hL hi', Option.bind_some, if_neg (by decide), pf_0 h.1, Option.bind_some, bs_aQ h.1.2.2.2.1 (by omega) (by decide), Option.bind_some, h.1.2.2.2.2.1 p (by omega), Option.bind_some, bs_aI (h.1.2.2.2.2.2.1 p (by omega)) (by omega) (by decide), (h.2.2.2 p L hL).2.2 i b hi, Option.bind_some]
theorem gl_set {α : Type} {P : List α} {p q : Nat} {x L : α} (h : (P.set p x)[q]? = some L) : q < P.length ∧ ((q = p ∧ L = x) ∨ (q ≠ p ∧ P[q]? = some L)) := by
  have hq := gl_lt h
  rw [List.length_set] at hq
  refine ⟨hq, ?_⟩
  by_cases e : q = p
  · subst e
    rw [List.getElem?_set_self hq] at h
    exact Or.inl ⟨rfl, (Option.some.inj h).symm⟩
  · rw [List.getElem?_set_ne (fun z => e z.symm)] at h
    exact Or.inr ⟨e, h⟩
theorem pf_sb {f : pl_H} {n p i : Nat} {P : List (List Int32)} {L : List Int32} (h : pf_R f n P) (hL : P[p]? = some L) (hi : i < L.length) (b : Int32) : ∃ f', fn_P_setByte f (n + 83) (nI p) (nI i) b = some f' ∧ pf_R f' n (P.set p (L.set i b)) ∧ bs_kp (pf_S n) f f' := by
  have h5 := h.2.2.1
  have hp := gl_lt hL
  have h4 := (h.2.2.2 p L hL).1
  refine ⟨ux_I f (n + 85 + p) i b, ?_, ⟨pf_uI h.1 _ _ _, ?_, by rw [List.length_set]; exact h5, fun q M hM => ?_⟩, bs_kp.I (by unfold pf_S; omega)⟩
  · unfold fn_P_setByte fn_P_setByte_18
    rw [ax_is h.1.1, Option.bind_some, pf_hb_y h hL hi, Option.bind_some, if_neg (by decide), pf_0 h.1, Option.bind_some, bs_aQ h.1.2.2.2.1 (by omega) (by decide), Option.bind_some, h.1.2.2.2.2.1 p (by omega), Option.bind_some, bs_sI (h.1.2.2.2.2.2.1 p (by omega)) (by omega) (by decide), Option.bind_some]
  · rw [ix_I, List.length_set]
    exact h.2.1
  · obtain ⟨hq, ⟨rfl, rfl⟩ | ⟨z, hM⟩⟩ := gl_set hM
    · rw [List.length_set, rx_I_ne (by omega), rx_I (h.1.2.2.2.2.2.1 q (by omega))]
      refine ⟨h4, (h.2.2.2 q L hL).2.1, fun j x hx => ?_⟩
      rw [bs_vI]
      obtain ⟨hj, ⟨rfl, rfl⟩ | ⟨z, hx⟩⟩ := gl_set hx
      · rw [if_pos rfl]
      · rw [if_neg z]
        exact (h.2.2.2 q L hL).2.2 j x hx
    · rw [rx_I_ne (by omega), rx_I_ne (by omega)]
      exact h.2.2.2 q M hM
theorem lg_parts {f : pl_H} {n : Nat} {P : List (List Int32)} (hL : lg_L f n) (h : pf_R f n P) : fn_L_parts f n = some (nI P.length) := by
  unfold fn_L_parts
  rw [lg_3 hL, Option.bind_some, ax_is h.1.1, Option.bind_some, pf_cnt h, Option.bind_some]
theorem lg_length {f : pl_H} {n : Nat} {P : List (List Int32)} (hL : lg_L f n) (h : pf_R f n P) (x : Int32) : fn_L_length f n x = some (sp_len P x) := by
  have h5 := h.2.2.1
  unfold fn_L_length fn_L_length_23 sp_len
  rw [lg_3 hL, Option.bind_some, ax_is h.1.1, Option.bind_some]
  rcases sp_at_c P x (by omega) with ⟨e, z⟩ | ⟨p, L, rfl, hp, hP, e⟩
  · rw [pf_hp_n h z, Option.bind_some, if_pos rfl, e]
  · rw [pf_hp_y h hp, Option.bind_some, if_neg (by decide), Option.bind_some, ax_is h.1.1, Option.bind_some, pf_lo h hP, Option.bind_some, e]
theorem lg_part {f : pl_H} {n : Nat} {P : List (List Int32)} (hL : lg_L f n) (h : pf_R f n P) (x i : Int32) : fn_L_part f n x i = some (sp_part P x i) := by
  have h5 := h.2.2.1
  unfold fn_L_part fn_L_part_25 sp_part
  rw [lg_3 hL, Option.bind_some, ax_is h.1.1, Option.bind_some]
  rcases sp_at_c P x (by omega) with ⟨e, z⟩ | ⟨p, L, rfl, hp, hP, e⟩
  · rw [pf_hb_n h z, Option.bind_some, if_pos rfl, e]
  · have h4 := (h.2.2.2 p L hP).1
    rcases sp_at_c L i (by omega) with ⟨e2, z⟩ | ⟨j, b, rfl, hj, hb, e2⟩
    · rw [pf_hb_m h hP z, Option.bind_some, if_pos rfl]
      simp only [e, e2]
    · rw [pf_hb_y h hP hj, Option.bind_some, if_neg (by decide), Option.bind_some, ax_is h.1.1, Option.bind_some, pf_ba h hP hb, Option.bind_some]
      simp only [e, e2]
theorem lg_alter {f : pl_H} {n : Nat} {P : List (List Int32)} (hL : lg_L f n) (h : pf_R f n P) (x i b : Int32) : ∃ f', fn_L_alter f n x i b = some ((sp_alter P x i b).1, f') ∧ lg_L f' n ∧ pf_R f' n (sp_alter P x i b).2 ∧ bs_kp (pf_S n) f f' := by
  have h5 := h.2.2.1
  have no : (pl_z 0).bind (fun z => some (z, f)) = some ((0 : Int32), f) := rfl
  unfold fn_L_alter fn_L_alter_23
  rw [lg_3 hL, Option.bind_some, ax_is h.1.1, Option.bind_some]
  rcases sp_at_c P x (by omega) with ⟨e, z⟩ | ⟨p, L, rfl, hp, hP, e⟩
  · rw [pf_hb_n h z, Option.bind_some, if_pos rfl, sp_alter_n e]
    exact ⟨f, no, hL, h, bs_kp.rf⟩
  · have h4 := (h.2.2.2 p L hP).1
    rcases sp_at_c L i (by omega) with ⟨e2, z⟩ | ⟨j, b0, rfl, hj, hb, e2⟩
    · rw [pf_hb_m h hP z, Option.bind_some, if_pos rfl, sp_alter_m e e2]
      exact ⟨f, no, hL, h, bs_kp.rf⟩
    · rw [pf_hb_y h hP hj, Option.bind_some, if_neg (by decide), sp_alter_y e e2]
      by_cases c1 : b < 0
      · rw [if_pos c1, if_pos c1]
        exact ⟨f, no, hL, h, bs_kp.rf⟩
      · rw [if_neg c1, if_neg c1]
        by_cases c2 : b ≤ 255
        · rw [if_pos c2, if_pos c2, Option.bind_some, ax_is h.1.1, Option.bind_some, pf_ba h hP hb, Option.bind_some, bs_cl (by omega), bs_cl (by omega)]
          obtain ⟨f', p1, r1, k1⟩ := pf_sb h hP hj b
          refine ⟨f', ?_, lg_un hL k1 (fun q hq => by unfold pf_S; omega), r1, k1⟩
          unfold fn_L_alter_43
          rw [lg_3 hL, Option.bind_some, ax_is h.1.1, Option.bind_some, p1, Option.bind_some]
          by_cases c3 : b0 = b
          · rw [if_pos c3, if_pos c3]
            rfl
          · rw [if_neg c3, if_neg c3]
            rw [Option.bind_some, ax_is h.1.1, Option.bind_some, p1, Option.bind_some]
            rfl
        · rw [if_neg c2, if_neg c2]
          exact ⟨f, no, hL, h, bs_kp.rf⟩
theorem gl_dl {α : Type} {P : List α} {p : Nat} {L : α} (h : P.dropLast[p]? = some L) : P[p]? = some L := by
  have hp := gl_lt h
  rw [List.getElem?_eq_getElem hp] at h
  have hp' : p < P.length := by rw [List.length_dropLast] at hp; omega
  rw [List.getElem?_eq_getElem hp', ← h, List.getElem_dropLast]
theorem lg_shorten {f : pl_H} {n : Nat} {P : List (List Int32)} (hL : lg_L f n) (h : pf_R f n P) : ∃ f', fn_L_shorten f n = some ((sp_short P).1, f') ∧ lg_L f' n ∧ pf_R f' n (sp_short P).2 ∧ bs_kp (pf_S n) f f' := by
  have h5 := h.2.2.1
  unfold fn_L_shorten sp_short
  rw [lg_3 hL, Option.bind_some, ax_is h.1.1, Option.bind_some, pf_cnt h, Option.bind_some]
  by_cases c : P.length = 0
  · rw [if_pos c, if_pos (by rw [c]; rfl)]
    exact ⟨f, rfl, hL, h, bs_kp.rf⟩
  · rw [if_neg c, if_neg (nI_ne0 (by omega) (by omega))]
    have hr : pf_R (ux_f f (n + 83) 2 (.int (nI (P.length - 1)))) n P.dropLast := by
      refine ⟨pf_u2 h.1 _, ?_, by rw [List.length_dropLast]; omega, fun p L hp => ?_⟩
      · rw [ix_f h.1.1 (by decide), List.length_dropLast]
      · rw [rx_I_f, rx_I_f]
        exact h.2.2.2 p L (gl_dl hp)
    have hk : bs_kp (pf_S n) f (ux_f f (n + 83) 2 (.int (nI (P.length - 1)))) := bs_kp.f (by unfold pf_S; omega)
    have hL' := lg_un hL hk (fun q hq => by unfold pf_S; omega)
    refine ⟨_, ?_, hL', hr, hk⟩
    unfold fn_P_dropLast fn_P_dropLast_17
    rw [Option.bind_some, ax_is h.1.1, Option.bind_some, pf_2 h.1, h.2.1, Option.bind_some, if_neg (nI_nle (by omega) (by omega)), Option.bind_some, show nI P.length - 1 = nI (P.length - 1) from (by
      obtain ⟨k, hk⟩ : ∃ k, P.length = k + 1 := ⟨P.length - 1, by omega⟩
      rw [hk, nI_pred]
      rfl), pf_p2 h.1, Option.bind_some, Option.bind_some, lg_3 hL', Option.bind_some, ax_is hr.1.1, Option.bind_some, pf_cnt hr, Option.bind_some, List.length_dropLast]
-- the reference
def mp_R (f : pl_H) (a : Nat) (P : List (List Int32)) : Prop := ax_i f a 16 = nI P.length ∧ P.length ≤ 5 ∧ ∀ (p : Nat) (L : List Int32), P[p]? = some L → L.length ≤ 404 ∧ ax_I f (a + 12) p = nI L.length ∧ ∀ (i : Nat) (x : Int32), L[i]? = some x → ax_I f (a + 13) (600 * p + i) = x
theorem mp_R_kp {f f' : pl_H} {a : Nat} {P : List (List Int32)} {S : Nat → Prop} (h : mp_R f a P) (hk : bs_kp S f f') (h0 : ax_v f' a 16 = ax_v f a 16) (h1 : ¬ S (a + 12)) (h2 : ¬ S (a + 13)) : mp_R f' a P := by
  obtain ⟨b1, b2, b3⟩ := h
  refine ⟨by rw [ix_v h0]; exact b1, b2, fun p L hp => ?_⟩
  unfold ax_I
  rw [hk _ h1, hk _ h2]
  exact b3 p L hp
theorem mp_ib_n {f : pl_H} {a : Nat} {P : List (List Int32)} (hM : mo_L f a) (h : mp_R f a P) {x i : Int32} (hx : x < 0 ∨ (¬ x < 0 ∧ nI P.length ≤ x)) : fn_M_isByte f a x i = some 0 := by
  unfold fn_M_isByte fn_M_isByte_30 fn_M_isByte_31
  rcases hx with z | ⟨z, z'⟩
  · rw [if_pos z]; rfl
  · rw [if_neg z, mo_parts hM, h.1, Option.bind_some, if_pos z']; rfl
theorem mp_ib_m {f : pl_H} {a p : Nat} {P : List (List Int32)} {L : List Int32} (hM : mo_L f a) (h : mp_R f a P) (hL : P[p]? = some L) {i : Int32} (hi : i < 0 ∨ (¬ i < 0 ∧ nI L.length ≤ i)) : fn_M_isByte f a (nI p) i = some 0 := by
  have h5 := h.2.1
  have hp := gl_lt hL
  unfold fn_M_isByte fn_M_isByte_30 fn_M_isByte_31
  rw [if_neg (nI_pos (by omega)), mo_parts hM, h.1, Option.bind_some, if_neg (fun z => absurd ((bs_le (by omega) (by omega)).mp z) (by omega))]
  rcases hi with z | ⟨z, z'⟩
  · rw [if_pos z]; rfl
  · rw [if_neg z, mo_partLength hM, Option.bind_some, mo_partLength_g hM (by omega), (h.2.2 p L hL).2.1, Option.bind_some, if_pos z']; rfl
theorem mp_ib_y {f : pl_H} {a p i : Nat} {P : List (List Int32)} {L : List Int32} (hM : mo_L f a) (h : mp_R f a P) (hL : P[p]? = some L) (hi : i < L.length) : fn_M_isByte f a (nI p) (nI i) = some 1 := by
  have h5 := h.2.1
  have hp := gl_lt hL
  have h4 := (h.2.2 p L hL).1
  unfold fn_M_isByte fn_M_isByte_30 fn_M_isByte_31
  rw [if_neg (nI_pos (by omega)), mo_parts hM, h.1, Option.bind_some, if_neg (fun z => absurd ((bs_le (by omega) (by omega)).mp z) (by omega)), if_neg (nI_pos (by omega)), mo_partLength hM, Option.bind_some, mo_partLength_g hM (by omega), (h.2.2 p L hL).2.1, Option.bind_some, if_neg (fun z => absurd ((bs_le (by omega) (by omega)).mp z) (by omega))]
  rfl
theorem mp_ix (p i : Nat) : (600 : Int32) * nI p + nI i = nI (600 * p + i) := by
  rw [show (600 : Int32) * nI p = nI (600 * p) from pk_mul 600 p, nI_add]
theorem ma_parts {f : pl_H} {a : Nat} {P : List (List Int32)} (hM : mo_L f a) (h : mp_R f a P) : fn_M_parts f a = some (nI P.length) := by
  unfold fn_M_parts
  rw [mo_parts hM, h.1, Option.bind_some]
theorem ma_length {f : pl_H} {a : Nat} {P : List (List Int32)} (hM : mo_L f a) (h : mp_R f a P) (x : Int32) : fn_M_length f a x = some (sp_len P x) := by
  have h5 := h.2.1
  unfold fn_M_length fn_M_length_21 fn_M_length_22 sp_len
  rcases sp_at_c P x (by omega) with ⟨e, z⟩ | ⟨p, L, rfl, hp, hP, e⟩
  · rw [e]
    rcases z with z | ⟨z, z'⟩
    · rw [if_pos z]
    · rw [if_neg z, mo_parts hM, h.1, Option.bind_some, if_pos z']
  · rw [if_neg (nI_pos (by omega)), mo_parts hM, h.1, Option.bind_some, if_neg (fun z => absurd ((bs_le (by omega) (by omega)).mp z) (by omega)), mo_partLength hM, Option.bind_some, mo_partLength_g hM (by omega), (h.2.2 p L hP).2.1, Option.bind_some, e]
theorem ma_part {f : pl_H} {a : Nat} {P : List (List Int32)} (hM : mo_L f a) (h : mp_R f a P) (x i : Int32) : fn_M_part f a x i = some (sp_part P x i) := by
  have h5 := h.2.1
  unfold fn_M_part fn_M_part_25 sp_part
  rw [ax_is hM.1, Option.bind_some]
  rcases sp_at_c P x (by omega) with ⟨e, z⟩ | ⟨p, L, rfl, hp, hP, e⟩
  · rw [mp_ib_n hM h z, Option.bind_some, if_pos rfl, e]
  · have h4 := (h.2.2 p L hP).1
    rcases sp_at_c L i (by omega) with ⟨e2, z⟩ | ⟨j, b, rfl, hj, hb, e2⟩
    · rw [mp_ib_m hM h hP z, Option.bind_some, if_pos rfl]
      simp only [e, e2]
    · rw [mp_ib_y hM h hP hj, Option.bind_some, if_neg (by decide), mo_part hM, Option.bind_some, mp_ix, mo_part_g hM (by omega), (h.2.2 p L hP).2.2 j b hb, Option.bind_some]
      simp only [e, e2]
theorem ma_alter {f : pl_H} {a : Nat} {P : List (List Int32)} (hM : mo_L f a) (h : mp_R f a P) (x i b : Int32) : ∃ f', fn_M_alter f a x i b = some ((sp_alter P x i b).1, f') ∧ mo_L f' a ∧ mp_R f' a (sp_alter P x i b).2 ∧ bs_kp (fun q => q = a + 13) f f' := by
  have h5 := h.2.1
  have no : (pl_z 0).bind (fun z => some (z, f)) = some ((0 : Int32), f) := rfl
  unfold fn_M_alter fn_M_alter_20
  rw [ax_is hM.1, Option.bind_some]
  rcases sp_at_c P x (by omega) with ⟨e, z⟩ | ⟨p, L, rfl, hp, hP, e⟩
  · rw [mp_ib_n hM h z, Option.bind_some, if_pos rfl, sp_alter_n e]
    exact ⟨f, no, hM, h, bs_kp.rf⟩
  · have h4 := (h.2.2 p L hP).1
    rcases sp_at_c L i (by omega) with ⟨e2, z⟩ | ⟨j, b0, rfl, hj, hb, e2⟩
    · rw [mp_ib_m hM h hP z, Option.bind_some, if_pos rfl, sp_alter_m e e2]
      exact ⟨f, no, hM, h, bs_kp.rf⟩
    · rw [mp_ib_y hM h hP hj, Option.bind_some, if_neg (by decide), sp_alter_y e e2]
      by_cases c1 : b < 0
      · rw [if_pos c1, if_pos c1]
        exact ⟨f, no, hM, h, bs_kp.rf⟩
      · rw [if_neg c1, if_neg c1]
        by_cases c2 : b ≤ 255
        · rw [if_pos c2, if_pos c2, mo_part hM, Option.bind_some, mp_ix, mo_part_g hM (by omega), (h.2.2 p L hP).2.2 j b0 hb, Option.bind_some, bs_cl (by omega), bs_cl (by omega)]
          refine ⟨ux_I f (a + 13) (600 * p + j) b, ?_, mo_uI hM _ _ _, ⟨?_, by rw [List.length_set]; exact h5, fun q M hQ => ?_⟩, bs_kp.I rfl⟩
          · unfold fn_M_alter_43
            rw [mo_part hM, mp_ix]
            simp only [Option.bind_some]
            rw [mo_part_w hM (by omega)]
            by_cases c3 : b0 = b
            · rw [if_pos c3, if_pos c3]
              rfl
            · rw [if_neg c3, if_neg c3]
              rfl
          · rw [ix_I, List.length_set]
            exact h.1
          · rw [rx_I_ne (by omega), rx_I (mo_part_s hM)]
            obtain ⟨hq, ⟨rfl, rfl⟩ | ⟨z, hQ⟩⟩ := gl_set hQ
            · rw [List.length_set]
              refine ⟨h4, (h.2.2 q L hP).2.1, fun i x hx => ?_⟩
              rw [bs_vI]
              obtain ⟨hj, ⟨rfl, rfl⟩ | ⟨z, hx⟩⟩ := gl_set hx
              · rw [if_pos rfl]
              · rw [if_neg (by omega)]
                exact (h.2.2 q L hP).2.2 i x hx
            · have hM4 := h.2.2 q M hQ
              refine ⟨hM4.1, hM4.2.1, fun i x hx => ?_⟩
              have := gl_lt hx
              rw [bs_vI, if_neg (by omega)]
              exact hM4.2.2 i x hx
        · rw [if_neg c2, if_neg c2]
          exact ⟨f, no, hM, h, bs_kp.rf⟩
theorem ma_shorten {f : pl_H} {a : Nat} {P : List (List Int32)} (hM : mo_L f a) (h : mp_R f a P) : ∃ f', fn_M_shorten f a = some ((sp_short P).1, f') ∧ mo_L f' a ∧ mp_R f' a (sp_short P).2 ∧ bs_kp (fun q => q = a) f f' ∧ ∀ k, k ≠ 16 → ax_v f' a k = ax_v f a k := by
  have h5 := h.2.1
  unfold fn_M_shorten sp_short
  rw [mo_parts hM, h.1, Option.bind_some]
  by_cases c : P.length = 0
  · rw [if_pos c, if_pos (by rw [c]; rfl)]
    exact ⟨f, rfl, hM, h, bs_kp.rf, fun _ _ => rfl⟩
  · rw [if_neg c, if_neg (nI_ne0 (by omega) (by omega))]
    have hM' : mo_L (ux_f f a 16 (.int (nI (P.length - 1)))) a := mo_uF hM rfl (fun z => by cases z)
    have hi : ax_i (ux_f f a 16 (.int (nI (P.length - 1)))) a 16 = nI (P.length - 1) := ix_f hM.1 (by decide)
    refine ⟨_, ?_, hM', ⟨?_, by rw [List.length_dropLast]; omega, fun p L hp => ?_⟩, bs_kp.f rfl, fun k hk => rx_v_fne (Or.inr hk)⟩
    · rw [Option.bind_some, show nI P.length - 1 = nI (P.length - 1) from (by
        obtain ⟨k, hk⟩ : ∃ k, P.length = k + 1 := ⟨P.length - 1, by omega⟩
        rw [hk, nI_pred]
        rfl), mo_parts_p hM, Option.bind_some, mo_parts hM', hi, Option.bind_some]
    · rw [hi, List.length_dropLast]
    · rw [rx_I_f, rx_I_f]
      exact h.2.2 p L (gl_dl hp)
