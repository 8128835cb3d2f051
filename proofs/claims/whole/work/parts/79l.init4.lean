/-! Constructors: the proof, the way, the ledger, the reference. -/
theorem ib_P {f : pl_H} {n : Nat} (hs : ax_sh (f (n + 83)) = (1, 4, [2, 2, 0])) (hc : ax_i f (n + 83) 2 = 0) : ∃ f', fn_P_init (n + 84) f (n + 83) = some f' ∧ pf_R f' n [] ∧ ∀ q, q < n + 83 ∨ n + 90 < q → f' q = f q := by
  obtain ⟨f1, hf1, e1⟩ : ∃ f1, pl_mn f (n + 84) 5 404 = some f1 ∧ f1 = (fun q => if q = n + 84 then .inl (3, 5, .inr (.inr (.inr (.inr (fun j => if j < 5 then some (n + 84 + 1 + j) else none))))) else if n + 84 < q ∧ q < n + 84 + 1 + 5 then .inl (0, 404, .inl (fun _ => 0)) else f q) := ⟨_, rfl, rfl⟩
  have g0 : ∀ q, q < n + 84 ∨ n + 90 ≤ q → f1 q = f q := fun q hq => by
    rw [e1]
    show (if _ then _ else _) = _
    rw [if_neg (by omega), if_neg (by omega)]
  have g1 : f1 (n + 84) = .inl (3, 5, .inr (.inr (.inr (.inr (fun j => if j < 5 then some (n + 84 + 1 + j) else none))))) := by
    rw [e1]
    show (if _ then _ else _) = _
    rw [if_pos rfl]
  have g2 : ∀ p, p < 5 → f1 (n + 85 + p) = .inl (0, 404, .inl (fun _ => 0)) := fun p hp => by
    rw [e1]
    show (if _ then _ else _) = _
    rw [if_neg (by omega), if_pos (by omega)]
  have s1 : ax_sh (f1 (n + 83)) = (1, 4, [2, 2, 0]) := by rw [g0 _ (by omega)]; exact hs
  obtain ⟨f2, p2, s2, v2, w2, q2⟩ := pvp (k := 0) (v := .ref (n + 84)) s1 rfl
  obtain ⟨f3, p3, s3, b3, r3, v3, q3⟩ := mkp (b := n + 84 + 6) (k := 1) (e := .inl (0, 5, .inl (fun _ => 0))) s2 rfl (by omega)
  refine ⟨f3, ?_, ⟨⟨s3, ?_, r3, ?_, fun p hp => ?_, fun p hp => ?_, ?_⟩, ?_, by decide, fun p L hL => by simp at hL⟩, fun q hq => ?_⟩
  · unfold fn_P_init
    rw [hf1, Option.bind_some]
    exact (p2 _).trans (p3 _)
  · rw [ar_v (v3 0 (by decide))]
    unfold ax_r
    rw [v2]
  · rw [q3 _ (by omega) (by omega), q2 _ (by omega), g1]
    rfl
  · unfold ax_Q
    rw [q3 _ (by omega) (by omega), q2 _ (by omega), g1]
    show (if p < 5 then some (n + 84 + 1 + p) else none) = _
    rw [if_pos hp]
  · rw [q3 _ (by omega) (by omega), q2 _ (by omega), g2 p hp]
    rfl
  · rw [show n + 90 = n + 84 + 6 from rfl, b3]
    rfl
  · rw [ix_v (v3 2 (by decide)), ix_v (w2 2 (by decide))]
    unfold ax_i ax_v
    rw [g0 _ (by omega)]
    exact hc
  · rw [q3 _ (by omega) (by omega), q2 _ (by omega), g0 _ (by omega)]
theorem ib_W {f : pl_H} {n : Nat} (hs : ax_sh (f (n + 91)) = (1, 6, [2, 2, 0, 0, 2, 0, 0, 0, 0, 1, 1])) (hp : pf_L f n) : ∃ f', fn_W_init f (n + 91) (n + 83) (n + 5) = some f' ∧ wy_L f' n ∧ ∀ q, q ≠ n + 91 → f' q = f q := by
  obtain ⟨f1, p1, s1, v1, w1, q1⟩ := pvp (k := 0) (v := .ref (n + 83)) hs rfl
  obtain ⟨f2, p2, s2, v2, w2, q2⟩ := pvp (k := 1) (v := .ref (n + 5)) s1 rfl
  have P2 : pf_L f2 n := pf_kp hp (S := fun q => q = n + 91) (fun q hq => (q2 q hq).trans (q1 q hq)) (fun q _ _ z => by omega)
  obtain ⟨f3, p3, s3, v3, w3, q3⟩ := pvp (k := 4) (v := .ref (n + 85)) s2 rfl
  refine ⟨f3, ?_, ⟨s3, ?_, ?_⟩, fun q hq => by rw [q3 q hq, q2 q hq, q1 q hq]⟩
  · unfold fn_W_init
    refine (p1 _).trans ((p2 _).trans ?_)
    rw [ax_is P2.1, Option.bind_some, show fn_P_rowOf f2 (n + 83) 0 = some (n + 85 + 0) from pf_row (p := 0) P2 (by decide), Option.bind_some]
    exact p3 _
  · rw [ar_v (w3 0 (by decide)), ar_v (w2 0 (by decide))]
    unfold ax_r
    rw [v1]
  · rw [ar_v (w3 1 (by decide))]
    unfold ax_r
    rw [v2]
theorem bk_e {f : pl_H} {a : Nat} (h : bk_L f a) (hc : ax_i f a 3 = 0) : bk_R f a 0 (fun _ => none) := ⟨h, hc, by decide, ⟨fun j hj => absurd hj (by omega), fun i j hi => absurd hi (by omega), fun y v => ⟨(fun z => by cases z), fun ⟨j, hj, _⟩ => absurd hj (by omega)⟩⟩, fun i j _ hj => absurd hj (by omega)⟩
set_option maxHeartbeats 4000000 in
theorem ib_L {f : pl_H} {n : Nat} (hs : ax_sh (f n) = (1, 7, [2, 2, 2, 2, 2, 0, 0])) : ∃ f', fn_L_init (n + 1) f n = some f' ∧ lg_L f' n ∧ ts f' n 0 (fun _ => none) ∧ pf_R f' n [] ∧ wy_L f' n ∧ ax_i f' n 5 = 0 ∧ ax_i f' n 6 = -1 ∧ ax_i f' (n + 9) 8 = 1 ∧ ∀ q, q < n ∨ n + 91 < q → f' q = f q := by
  -- the book
  obtain ⟨f1, p1, s1, b1, b2, b3, c1, c2, c3, v1, q1⟩ := ib_B (f := va_up f (n + 1) (.inr (0, [.null, .null, .null, .int 0]))) (a := n + 1) (by rw [va_up_self]; rfl)
  have i1 : ax_i f1 (n + 1) 3 = 0 := by
    rw [ix_v (v1 3 (by decide) (by decide) (by decide))]
    unfold ax_i ax_v
    rw [va_up_self]
    rfl
  have L1 : bk_L f1 (n + 1) := ⟨s1, b1, b2, b3, by rw [c1]; rfl, by rw [c2]; rfl, by rw [c3]; rfl⟩
  have e1 : ∀ q, q < n + 1 ∨ n + 4 < q → f1 q = f q := fun q hq => by rw [q1 q (by omega), va_up_ne _ _ (by omega)]
  obtain ⟨f2, p2, s2, v2, w2, q2⟩ := pvp (f := f1) (a := n) (k := 0) (v := .ref (n + 1)) (tg := [2, 2, 2, 2, 2, 0, 0]) (ci := 7) (by rw [e1 n (by omega)]; exact hs) rfl
  -- the hasher
  obtain ⟨f3, p3, s3, h1, h2, h3, d1, d2, d3, v3, q3⟩ := ib_H (f := va_up f2 (n + 5) (.inr (2, [.null, .null, .null]))) (a := n + 5) (by rw [va_up_self]; rfl)
  have K3 : kh_L f3 (n + 5) (n + 6) (n + 7) (n + 8) := ⟨s3, h1, h2, h3, by rw [show n + 6 = n + 5 + 1 from rfl, d1]; rfl, by rw [show n + 7 = n + 5 + 2 from rfl, d2]; rfl, by rw [show n + 8 = n + 5 + 3 from rfl, d3]; rfl, by omega, by omega, by omega⟩
  have e3 : ∀ q, q < n + 5 ∨ n + 8 < q → f3 q = f2 q := fun q hq => by rw [q3 q (by omega), va_up_ne _ _ (by omega)]
  obtain ⟨f4, p4, s4, v4, w4, q4⟩ := pvp (f := f3) (a := n) (k := 1) (v := .ref (n + 5)) (tg := [2, 2, 2, 2, 2, 0, 0]) (ci := 7) (by rw [e3 n (by omega)]; exact s2) rfl
  -- the tree
  have sT : ax_sh ((va_up f4 (n + 9) (.inr (5, [.null, .null, .null, .null, .null, .null, .int 0, .null, .int 0]))) (n + 9)) = (1, 5, tgT) := by rw [va_up_self]; rfl
  obtain ⟨f5, p5, T5, ⟨t0, t1, t2, t3, t4, t5⟩, o5, C5, u4, u5, q5⟩ := ib_T (a1 := n + 1) (a2 := n + 5) sT
  have e5 : ∀ q, q < n + 9 ∨ n + 82 < q → f5 q = f4 q := fun q hq => by rw [q5 q (by omega), va_up_ne _ _ (by omega)]
  have en5 : f5 n = f4 n := e5 n (by omega)
  have R5 : tr_L f5 n := by
    refine ⟨T5.1, ⟨t0, t1, t2, t3, t4, t5⟩, T5.2.2.1, fun i hi => ?_, u4, u5, fun i hi => ?_⟩
    · have := (T5.2.2.2 i hi).1
      rw [show n + 9 + 3 = n + 12 from rfl] at this
      rw [this]
    · obtain ⟨-, x2, x3, x4⟩ := T5.2.2.2 i hi
      exact ⟨x2, x3, x4⟩
  obtain ⟨f6, p6, s6, v6, w6, q6⟩ := pvp (f := f5) (a := n) (k := 2) (v := .ref (n + 9)) (tg := [2, 2, 2, 2, 2, 0, 0]) (ci := 7) (by rw [en5]; exact s4) rfl
  -- the proof
  have sP : ax_sh ((va_up f6 (n + 83) (.inr (4, [.null, .null, .int 0]))) (n + 83)) = (1, 4, [2, 2, 0]) := by rw [va_up_self]; rfl
  obtain ⟨f7, p7, P7, q7⟩ := ib_P sP (by unfold ax_i ax_v; rw [va_up_self]; rfl)
  have e7 : ∀ q, q < n + 83 ∨ n + 90 < q → f7 q = f6 q := fun q hq => by rw [q7 q hq, va_up_ne _ _ (by omega)]
  obtain ⟨f8, p8, s8, v8, w8, q8⟩ := pvp (f := f7) (a := n) (k := 3) (v := .ref (n + 83)) (tg := [2, 2, 2, 2, 2, 0, 0]) (ci := 7) (by rw [e7 n (by omega)]; exact s6) rfl
  have P8 : pf_R f8 n [] := pf_R_kp P7 (S := fun q => q = n) (fun q hq => q8 q hq) (fun q _ _ z => by omega)
  -- the way
  have sW : ax_sh ((va_up f8 (n + 91) (.inr (6, [.null, .null, .int 0, .int 0, .null, .int 0, .int 0, .int 0, .int 0, .long 0, .long 0]))) (n + 91)) = (1, 6, [2, 2, 0, 0, 2, 0, 0, 0, 0, 1, 1]) := by rw [va_up_self]; rfl
  have P8' : pf_R (va_up f8 (n + 91) (.inr (6, [.null, .null, .int 0, .int 0, .null, .int 0, .int 0, .int 0, .int 0, .long 0, .long 0]))) n [] := pf_R_kp P8 (S := fun q => q = n + 91) (fun q hq => va_up_ne _ _ hq) (fun q _ _ z => by omega)
  obtain ⟨f9, p9, W9, q9⟩ := ib_W sW P8'.1
  have e9 : ∀ q, q ≠ n + 91 → f9 q = f8 q := fun q hq => by rw [q9 q hq, va_up_ne _ _ hq]
  obtain ⟨fa, pa, sa, va, wa, qa⟩ := pvp (f := f9) (a := n) (k := 4) (v := .ref (n + 91)) (tg := [2, 2, 2, 2, 2, 0, 0]) (ci := 7) (by rw [e9 n (by omega)]; exact s8) rfl
  obtain ⟨fb, pb', sb, vb, wb, qb⟩ := pvp (k := 5) (v := .int 0) sa rfl
  obtain ⟨fc, pc, sc', vc, wc, qc⟩ := pvp (k := 6) (v := .int (-1)) sb rfl
  -- what stays
  have n8 : ∀ k, ax_v f9 n k = ax_v f8 n k := fun k => by unfold ax_v; rw [e9 n (by omega)]
  have n6 : ∀ k, ax_v f7 n k = ax_v f6 n k := fun k => by unfold ax_v; rw [e7 n (by omega)]
  have n4 : ∀ k, ax_v f5 n k = ax_v f4 n k := fun k => by unfold ax_v; rw [en5]
  have n2 : ∀ k, ax_v f3 n k = ax_v f2 n k := fun k => by unfold ax_v; rw [e3 n (by omega)]
  have k9 : bs_kp (fun q => q = n ∨ n + 91 ≤ q) f8 fc := fun q hq => by rw [qc q (by omega), qb q (by omega), qa q (by omega), e9 q (by omega)]
  have k7 : bs_kp (fun q => q = n ∨ n + 83 ≤ q) f6 fc := fun q hq => by rw [k9 q (by omega), q8 q (by omega), e7 q (by omega)]
  have k5 : bs_kp (fun q => q = n ∨ n + 83 ≤ q) f5 fc := fun q hq => by rw [k7 q hq, q6 q (by omega)]
  have k3 : bs_kp (fun q => q = n ∨ n + 9 ≤ q) f3 fc := fun q hq => by rw [k5 q (by omega), e5 q (by omega), q4 q (by omega)]
  have k1 : bs_kp (fun q => q = n ∨ n + 5 ≤ q) f1 fc := fun q hq => by rw [k3 q (by omega), e3 q (by omega), q2 q (by omega)]
  have r0 : ax_r fc n 0 = some (n + 1) := by
    rw [ar_v (wc 0 (by decide)), ar_v (wb 0 (by decide)), ar_v (wa 0 (by decide)), ar_v (n8 0), ar_v (w8 0 (by decide)), ar_v (n6 0), ar_v (w6 0 (by decide)), ar_v (n4 0), ar_v (w4 0 (by decide)), ar_v (n2 0)]
    unfold ax_r
    rw [v2]
  have r1 : ax_r fc n 1 = some (n + 5) := by
    rw [ar_v (wc 1 (by decide)), ar_v (wb 1 (by decide)), ar_v (wa 1 (by decide)), ar_v (n8 1), ar_v (w8 1 (by decide)), ar_v (n6 1), ar_v (w6 1 (by decide)), ar_v (n4 1)]
    unfold ax_r
    rw [v4]
  have r2 : ax_r fc n 2 = some (n + 9) := by
    rw [ar_v (wc 2 (by decide)), ar_v (wb 2 (by decide)), ar_v (wa 2 (by decide)), ar_v (n8 2), ar_v (w8 2 (by decide)), ar_v (n6 2)]
    unfold ax_r
    rw [v6]
  have r3 : ax_r fc n 3 = some (n + 83) := by
    rw [ar_v (wc 3 (by decide)), ar_v (wb 3 (by decide)), ar_v (wa 3 (by decide)), ar_v (n8 3)]
    unfold ax_r
    rw [v8]
  have r4 : ax_r fc n 4 = some (n + 91) := by
    rw [ar_v (wc 4 (by decide)), ar_v (wb 4 (by decide))]
    unfold ax_r
    rw [va]
  have R' : tr_L fc n := tr_kp R5 k5 (fun q _ _ _ _ z => by omega)
  have hK : kh_L fc (n + 5) (n + 6) (n + 7) (n + 8) := by
    have e5' := k3 (n + 5) (by omega)
    have e6' := k3 (n + 6) (by omega)
    have e7' := k3 (n + 7) (by omega)
    have e8' := k3 (n + 8) (by omega)
    unfold kh_L ax_r ax_v at K3 ⊢
    rw [e5', e6', e7', e8']
    exact K3
  refine ⟨fc, ?_, ⟨sc', r0, r1, r2, r3, r4, R'.1⟩, ⟨bk_R_kp (bk_e L1 i1) k1 (fun q _ _ z => by omega), hK, R', cd_kp C5 k5 (by omega) (by omega)⟩, pf_R_kp P8 k9 (fun q _ _ z => by omega), ?_, ?_, ?_, ?_, fun q hq => ?_⟩
  · unfold fn_L_init
    show ((fn_B_init (n + 1 + 1) (va_up f (n + 1) (.inr (0, [.null, .null, .null, .int 0]))) (n + 1)).bind _) = _
    rw [p1, Option.bind_some]
    refine (p2 _).trans ?_
    show ((fn_H_init (n + 1 + 5) (va_up f2 (n + 1 + 4) (.inr (2, [.null, .null, .null]))) (n + 1 + 4)).bind _) = _
    rw [show fn_H_init (n + 1 + 5) (va_up f2 (n + 1 + 4) (.inr (2, [.null, .null, .null]))) (n + 1 + 4) = some f3 from p3, Option.bind_some]
    refine (p4 _).trans ?_
    have y0 : pl_gR (va_up f4 (n + 9) (.inr (5, [.null, .null, .null, .null, .null, .null, .int 0, .null, .int 0]))) n 7 0 = some (n + 1) := by
      refine (ax_gR (tg := [2, 2, 2, 2, 2, 0, 0]) (by rw [va_up_ne _ _ (by omega)]; exact s4) rfl).trans ?_
      have : ax_r f4 n 0 = some (n + 1) := by
        rw [ar_v (w4 0 (by decide)), ar_v (n2 0)]
        unfold ax_r
        rw [v2]
      unfold ax_r ax_v at this ⊢
      rw [va_up_ne _ _ (by omega)]
      exact this
    have y1 : pl_gR (va_up f4 (n + 9) (.inr (5, [.null, .null, .null, .null, .null, .null, .int 0, .null, .int 0]))) n 7 1 = some (n + 5) := by
      refine (ax_gR (tg := [2, 2, 2, 2, 2, 0, 0]) (by rw [va_up_ne _ _ (by omega)]; exact s4) rfl).trans ?_
      have : ax_r f4 n 1 = some (n + 5) := by
        unfold ax_r
        rw [v4]
      unfold ax_r ax_v at this ⊢
      rw [va_up_ne _ _ (by omega)]
      exact this
    show ((pl_gR (va_up f4 (n + 9) (.inr (5, [.null, .null, .null, .null, .null, .null, .int 0, .null, .int 0]))) n 7 0).bind _) = _
    rw [y0, Option.bind_some, y1, Option.bind_some]
    rw [show fn_T_init (n + 1 + 9) (va_up f4 (n + 9) (.inr (5, [.null, .null, .null, .null, .null, .null, .int 0, .null, .int 0]))) (n + 1 + 8) (n + 1) (n + 5) = some f5 from p5, Option.bind_some]
    refine (p6 _).trans ?_
    show ((fn_P_init (n + 1 + 83) (va_up f6 (n + 83) (.inr (4, [.null, .null, .int 0]))) (n + 1 + 82)).bind _) = _
    rw [show fn_P_init (n + 1 + 83) (va_up f6 (n + 83) (.inr (4, [.null, .null, .int 0]))) (n + 1 + 82) = some f7 from p7, Option.bind_some]
    refine (p8 _).trans ?_
    have y3 : pl_gR (va_up f8 (n + 91) (.inr (6, [.null, .null, .int 0, .int 0, .null, .int 0, .int 0, .int 0, .int 0, .long 0, .long 0]))) n 7 3 = some (n + 83) := by
      refine (ax_gR (tg := [2, 2, 2, 2, 2, 0, 0]) (by rw [va_up_ne _ _ (by omega)]; exact s8) rfl).trans ?_
      have : ax_r f8 n 3 = some (n + 83) := by
        unfold ax_r
        rw [v8]
      unfold ax_r ax_v at this ⊢
      rw [va_up_ne _ _ (by omega)]
      exact this
    have y4 : pl_gR (va_up f8 (n + 91) (.inr (6, [.null, .null, .int 0, .int 0, .null, .int 0, .int 0, .int 0, .int 0, .long 0, .long 0]))) n 7 1 = some (n + 5) := by
      refine (ax_gR (tg := [2, 2, 2, 2, 2, 0, 0]) (by rw [va_up_ne _ _ (by omega)]; exact s8) rfl).trans ?_
      have : ax_r f8 n 1 = some (n + 5) := by
        rw [ar_v (w8 1 (by decide)), ar_v (n6 1), ar_v (w6 1 (by decide)), ar_v (n4 1)]
        unfold ax_r
        rw [v4]
      unfold ax_r ax_v at this ⊢
      rw [va_up_ne _ _ (by omega)]
      exact this
    show ((pl_gR (va_up f8 (n + 91) (.inr (6, [.null, .null, .int 0, .int 0, .null, .int 0, .int 0, .int 0, .int 0, .long 0, .long 0]))) n 7 3).bind _) = _
    rw [y3, Option.bind_some, y4, Option.bind_some]
    rw [show fn_W_init (va_up f8 (n + 91) (.inr (6, [.null, .null, .int 0, .int 0, .null, .int 0, .int 0, .int 0, .int 0, .long 0, .long 0]))) (n + 1 + 90) (n + 83) (n + 5) = some f9 from p9, Option.bind_some]
    exact (pa _).trans ((pb' _).trans (pc _))
  · have ew : fc (n + 91) = f9 (n + 91) := by rw [qc _ (by omega), qb _ (by omega), qa _ (by omega)]
    unfold wy_L ax_r ax_v
    rw [ew]
    exact W9
  · rw [ix_v (wc 5 (by decide))]
    unfold ax_i
    rw [vb]
  · unfold ax_i
    rw [vc]
  · unfold ax_i ax_v
    rw [k5 _ (by omega)]
    exact o5
  · rw [qc q (by omega), qb q (by omega), qa q (by omega), e9 q (by omega), q8 q (by omega), e7 q (by omega), q6 q (by omega), e5 q (by omega), q4 q (by omega), e3 q (by omega), q2 q (by omega), e1 q (by omega)]
set_option maxHeartbeats 4000000 in
theorem ib_R {f : pl_H} {a : Nat} (hs : ax_sh (f a) = (1, 8, mo_tg)) (h0 : ax_i f a 0 = 0) (h16 : ax_i f a 16 = 0) : ∃ f', fn_M_init (a + 1) f a = some f' ∧ mo_R f' a 0 (fun _ => none) ∧ mo_T f' a ∧ mp_R f' a [] ∧ (ax_v f' a 4 = ax_v f a 4 ∧ ax_v f' a 5 = ax_v f a 5 ∧ ax_v f' a 19 = ax_v f a 19 ∧ ax_v f' a 20 = ax_v f a 20) ∧ ∀ q, q < a ∨ a + 21 < q → f' q = f q := by
  obtain ⟨f1, p1, s1, r1, r2, r3, r4, r5, r6, r7, r8, r9, r10, r11, r12, r13, r14, r15, r16, r17, r18, r19, r20, r21, c1, c2, c3, c4, c5, c6, c7, c8, c9, c10, c11, c12, c13, c14, c15, c16, c17, c18, c19, c20, c21, v1, q1⟩ := ib_M hs
  have L1 : mo_L f1 a := ⟨s1, r1, r2, r3, r4, r5, r6, r7, r8, r9, r10, r11, r12, r13, r14, r15, r16, r17, r18, r19, r20, r21, by rw [c1]; rfl, by rw [c2]; rfl, by rw [c3]; rfl, by rw [c4]; rfl, by rw [c5]; rfl, by rw [c6]; rfl, by rw [c7]; rfl, by rw [c8]; rfl, by rw [c9]; rfl, by rw [c10]; rfl, by rw [c11]; rfl, by rw [c12]; rfl, by rw [c13]; rfl, by rw [c14]; rfl, by rw [c15]; rfl, by rw [c16]; rfl, by rw [c17]; rfl, by rw [c18]; rfl, by rw [c19]; rfl, by rw [c20]; rfl, by rw [c21]; rfl⟩
  obtain ⟨g1, hg1, tg1⟩ := tb_1g
  obtain ⟨g2, hg2, tg2⟩ := tb_2g
  obtain ⟨f2, p2, d2, z2⟩ := mi_180 25 pl_N f1 1 0 0 g1 (by decide) L1 (by
    have : ax_I f1 (a + 17) = fun _ => 0 := by
      unfold ax_I
      rw [c17]
      rfl
    rw [this]
    exact hg1)
  obtain ⟨f3, p3, d3, z3⟩ := mi_235 169 pl_N f2 1 0 g2 (by decide) z2.1 (by
    have : ax_L f2 (a + 18) = fun _ => 0 := by
      rw [z2.L (by omega) (by omega)]
      unfold ax_L
      rw [c18]
      rfl
    rw [this]
    exact hg2)
  have V : ∀ k, ax_v f3 a k = ax_v f1 a k := fun k => (z3.2.2 k (fun z => z)).trans (z2.2.2 k (fun z => z))
  have vf : ∀ k, k = 0 ∨ k = 4 ∨ k = 5 ∨ k = 16 ∨ k = 19 ∨ k = 20 → ax_v f1 a k = ax_v f a k := fun k hk => v1 k (by omega) (by omega) (by omega) (by omega) (by omega) (by omega) (by omega) (by omega) (by omega) (by omega) (by omega) (by omega) (by omega) (by omega) (by omega) (by omega) (by omega) (by omega) (by omega) (by omega) (by omega)
  refine ⟨f3, (p1.trans p2).trans p3, ⟨z3.1, ?_, by decide, ⟨fun j hj => absurd hj (by omega), fun i j hi => absurd hi (by omega), fun y v => ⟨(fun z => by cases z), fun ⟨j, hj, _⟩ => absurd hj (by omega)⟩⟩⟩, ⟨fun i hi => ?_, fun r hr => ?_⟩, ⟨?_, by decide, fun p L hL => by simp at hL⟩, ⟨?_, ?_, ?_, ?_⟩, fun q hq => ?_⟩
  · rw [ix_v (V 0), ix_v (vf 0 (by omega))]
    exact h0
  · rw [z3.I (by omega) (by omega), d2]
    exact tg1 i hi
  · rw [d3]
    exact tg2 r hr
  · rw [ix_v (V 16), ix_v (vf 16 (by omega))]
    exact h16
  · rw [V 4, vf 4 (by omega)]
  · rw [V 5, vf 5 (by omega)]
  · rw [V 19, vf 19 (by omega)]
  · rw [V 20, vf 20 (by omega)]
  · rw [z3.2.1 q (by omega), z2.2.1 q (by omega), q1 q (by omega)]
