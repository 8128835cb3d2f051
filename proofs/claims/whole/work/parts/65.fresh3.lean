/-! refresh, whole. -/
def ts (f : pl_H) (n c : Nat) (m : am_M) : Prop := bk_R f (n + 1) c m ∧ kh_L f (n + 5) (n + 6) (n + 7) (n + 8) ∧ tr_L f n ∧ cd_L f (n + 10)
/-- the tree is that of the accounts -/
def fs (f : pl_H) (n c : Nat) (m : am_M) : Prop := ∃ (W : List Int32) (T : Nat), gw f n c m W T ∧ ax_r f (n + 9) 7 = some (n + 15) ∧ nd_C f n 0 W (tp m) ∧ (tp m).length ≤ 404 ∧ ((c = 0 ∧ ax_i f (n + 15) 1 = 3) ∨ (0 < c ∧ nd_R m f n W T 6 0 0 (ga m) 0)) ∧ (∀ kd, kd < 3 → ax_I f (n + 13) kd = nI (cif (∃ y, ga m y) (nc kd (ga m) 0) 0)) ∧ ∀ q, q < 32 → ax_I f (n + 14) q = kk_h (fun j => (tp m).getD j 0) (tp m).length q
def fs_S (n : Nat) : Nat → Prop := fun q => n + 6 ≤ q ∧ q ≤ n + 82
theorem tg_8 {f : pl_H} {n : Nat} (h : tr_L f n) : pl_gI f (n + 9) 5 8 = some (ax_i f (n + 9) 8) := ax_gI h.1 rfl
set_option maxHeartbeats 4000000 in
theorem lg_fresh {f : pl_H} {n c : Nat} {m : am_M} (h : ts f n c m) (ho : ax_i f (n + 9) 8 = 0 → fs f n c m) : ∃ f', fn_T_refresh f (n + 9) = some f' ∧ fs f' n c m ∧ ax_i f' (n + 9) 8 = 0 ∧ bs_kp (fs_S n) f f' := by
  obtain ⟨hb, hk, hL, hC⟩ := h
  have hc := hb.2.2.1
  unfold fn_T_refresh
  rw [tg_8 hL, Option.bind_some]
  by_cases h8 : ax_i f (n + 9) 8 = 0
  · rw [if_pos h8]
    exact ⟨f, rfl, ho h8, h8, bs_kp.rf⟩
  · rw [if_neg h8]
    have l1 := tr_u9 hL (k := 8) (v := .int 0) (Or.inr (Or.inr ⟨rfl, rfl⟩))
    have k1 : bs_kp (fun q => q = n + 9) f (ux_f f (n + 9) 8 (.int 0)) := bs_kp.f rfl
    have p1 : pl_pV f (n + 9) 5 8 (.int 0) = some (ux_f f (n + 9) 8 (.int 0)) := ax_pV hL.1 (by decide)
    have o1 : ax_i (ux_f f (n + 9) 8 (.int 0)) (n + 9) 8 = 0 := ix_f hL.1 (by decide)
    generalize ux_f f (n + 9) 8 (.int 0) = f1 at l1 k1 p1 o1
    have hC1 := cd_kp hC k1 (by omega) (by omega)
    have hC2 := cd_u1 hC1 0
    have k2 : bs_kp (fun q => q = n + 10) f1 (ux_f f1 (n + 10) 1 (.int 0)) := bs_kp.f rfl
    have i2 : ax_i (ux_f f1 (n + 10) 1 (.int 0)) (n + 10) 1 = nI 0 := ix_f hC1.1 (by decide)
    have p2 := cd_p1 hC1 0
    have l2 : tr_L (ux_f f1 (n + 10) 1 (.int 0)) n := tr_kp l1 k2 (fun q a b c d z => c z)
    have o2 : ax_i (ux_f f1 (n + 10) 1 (.int 0)) (n + 9) 8 = 0 := by rw [ix_fne (Or.inl (by omega))]; exact o1
    generalize ux_f f1 (n + 10) 1 (.int 0) = f2 at hC2 k2 i2 p2 l2 o2
    have l3 := tr_u9 l2 (k := 6) (v := .int 0) (Or.inl ⟨rfl, rfl⟩)
    have k3 : bs_kp (fun q => q = n + 9) f2 (ux_f f2 (n + 9) 6 (.int 0)) := bs_kp.f rfl
    have p3 := tg_p6 l2 0
    have i3 : ax_i (ux_f f2 (n + 9) 6 (.int 0)) (n + 9) 6 = nI (min 0 33) := ix_f l2.1 (by decide)
    have o3 : ax_i (ux_f f2 (n + 9) 6 (.int 0)) (n + 9) 8 = 0 := by rw [ix_fne (Or.inr (by decide))]; exact o2
    generalize ux_f f2 (n + 9) 6 (.int 0) = f3 at l3 k3 p3 i3 o3
    have K03 : bs_kp (fun q => q = n + 9 ∨ q = n + 10) f f3 := ((k1.mono (fun q hq => Or.inl hq)).tr (k2.mono (fun q hq => Or.inr hq))).tr (k3.mono (fun q hq => Or.inl hq))
    have cd3 : cd_R f3 (n + 10) [] := by
      refine ⟨cd_kp hC2 k3 (by omega) (by omega), ?_, by decide, fun i x hx => by simp at hx⟩
      unfold ax_i ax_v
      rw [k3 _ (by omega)]
      exact i2
    have w3 : gw f3 n c m [] 0 := by
      refine ⟨bk_R_kp hb K03 (fun q a b z => by omega), ?_, l3, cd3, i3, by decide⟩
      have e5 := K03 (n + 5) (fun z => by omega)
      have e6 := K03 (n + 6) (fun z => by omega)
      have e7 := K03 (n + 7) (fun z => by omega)
      have e8 := K03 (n + 8) (fun z => by omega)
      unfold kh_L ax_r ax_v at hk ⊢
      rw [e5, e6, e7, e8]
      exact hk
    obtain ⟨f4, k4, p4, w4, K4, z4⟩ := rf_27 4 pl_N 0 f3 rfl (by decide) (by decide) w3 (fun q hq => absurd hq (by omega))
    have o4 : ax_i f4 (n + 9) 8 = 0 := by
      unfold ax_i ax_v
      rw [K4 _ (by omega)]
      exact o3
    have hb4 := w4.1
    have front : ∀ r, fn_T_refresh_27 (k4 + 1) f4 (n + 9) (nI 4) = r → ((pl_pV f (n + 9) 5 8 (.int 0)).bind fun f2 => (pl_gR f2 (n + 9) 5 2).bind fun v3 => (pl_is f2 v3 1).bind fun u5 => (fn_C_clear f2 v3).bind fun q4 => (pl_pV q4 (n + 9) 5 6 (.int 0)).bind fun f6 => fn_T_refresh_27 pl_N f6 (n + 9) 0) = r := by
      intro r hr
      unfold fn_C_clear
      rw [p1, Option.bind_some, tg_2 l1, Option.bind_some, ax_is hC1.1, Option.bind_some, p2, Option.bind_some, Option.bind_some, p3, Option.bind_some]
      exact p4.trans hr
    have K04 : bs_kp (fs_S n) f f4 := (K03.mono (fun q hq => by unfold fs_S; omega)).tr (K4.mono (fun q hq => by unfold fs_S; omega))
    have mid : fn_T_refresh_27 (k4 + 1) f4 (n + 9) (nI 4) = if nI c = 0 then (fn_T_growNothing f4 (n + 9)).bind fun q11 => fn_T_refresh_80 q11.2 (n + 9) q11.1 (n + 9) else (fn_T_grow pl_D f4 (n + 9) 0 (nI c) 0).bind fun q9 => fn_T_refresh_80 q9.2 (n + 9) q9.1 (n + 9) := by
      rw [rf_27e, tg_4 w4.2.2.1, Option.bind_some, bs_ln w4.2.2.1.2.2.2.2.1 (Or.inl rfl) (by decide), Option.bind_some, if_pos (by decide), tg_0 w4.2.2.1, Option.bind_some, ax_is hb4.1.1, Option.bind_some, bk_count hb4, Option.bind_some, ax_is w4.2.2.1.1]
      simp only [Option.bind_some, ax_is hb4.1.1, bk_count hb4]
    by_cases hc0 : c = 0
    · subst hc0
      have hex : ¬ ∃ y, ga m y := fun z => absurd ((ga_0 hb).mp z) (by omega)
      have etp : tp m = [128] := by unfold tp; rw [cif_neg hex]
      obtain ⟨f5, p5, w5, r5, n5, t5, q5⟩ := gw_no w4
      obtain ⟨f6, p6, w6, t6, K6, v6, q6⟩ := rf_80 w5 n5 (by decide)
      have e15 : f6 (n + 15) = f5 (n + 15) := K6 _ (by omega)
      refine ⟨f6, front _ ?_, ⟨[128], 1, w6, t6, ?_, by rw [etp]; decide, Or.inl ⟨rfl, ?_⟩, fun kd hkd => ?_, by rw [etp]; exact q6⟩, ?_, (K04.tr (r5.1.mono (fun q hq => by unfold gw_S at hq; unfold fs_S; omega))).tr (K6.mono (fun q hq => by unfold fs_S; omega))⟩
      · rw [mid, if_pos (show nI 0 = 0 from rfl), p5, Option.bind_some]
        exact p6
      · rw [etp]
        refine nd_C_kp n5 ⟨?_, ?_⟩ (Nat.le_refl _) (fun _ _ hx => hx)
        · unfold ax_i ax_v
          rw [show n + 15 + 2 * 0 = n + 15 from rfl, e15]
        · unfold ax_i ax_v
          rw [show n + 15 + 2 * 0 = n + 15 from rfl, e15]
      · unfold ax_i ax_v
        rw [e15]
        exact t5
      · rw [cif_neg hex]
        have e13 : ax_I f6 (n + 13) = ax_I f5 (n + 13) := by unfold ax_I; rw [K6 _ (by omega)]
        rw [e13, q5 kd hkd, z4 kd (by omega)]
        rfl
      · rw [ix_v (v6 8 (by decide)), ix_v (r5.2.2 8 (by decide))]
        exact o4
    · have hex : ∃ y, ga m y := (ga_0 hb).mpr (by omega)
      have etp : tp m = sc m (ga m) 0 := by unfold tp; rw [cif_pos hex]
      obtain ⟨f5, X, T5, p5, w5, r5, -, -, -, -, n5, q5⟩ := gw_grow 6 f4 n c m [] 0 0 c 0 (ga m) ⟨w4, by omega, Nat.le_refl _, by decide, by decide, ga_G hb4, ga_st m, by omega, fun _ => by omega, by show 0 + 147 * (c - 0) ≤ 1900; omega⟩
      have n5' := n5
      have hC5 := (nd_R_C n5).1
      have hl5 : (sc m (ga m) 0).length ≤ 404 := n5'.2.2.2.2.1
      obtain ⟨f6, p6, w6, t6, K6, v6, q6⟩ := rf_80 w5 hC5 hl5
      have eN : ∀ q, n + 15 ≤ q → f6 q = f5 q := fun q hq => K6 q (by omega)
      refine ⟨f6, front _ ?_, ⟨X, T5, w6, t6, ?_, by rw [etp]; exact hl5, Or.inr ⟨by omega, ?_⟩, fun kd hkd => ?_, by rw [etp]; exact q6⟩, ?_, (K04.tr (r5.1.mono (fun q hq => by unfold gw_S at hq; unfold fs_S; omega))).tr (K6.mono (fun q hq => by unfold fs_S; omega))⟩
      · rw [mid, if_neg (show ¬ nI c = 0 from nI_ne0 (by omega) (by omega))]
        rw [show fn_T_grow pl_D f4 (n + 9) 0 (nI c) 0 = some (n + 15 + 2 * 0, f5) from p5, Option.bind_some]
        exact p6
      · rw [etp]
        refine nd_C_kp hC5 ⟨?_, ?_⟩ (Nat.le_refl _) (fun _ _ hx => hx)
        · unfold ax_i ax_v
          rw [eN _ (by omega)]
        · unfold ax_i ax_v
          rw [eN _ (by omega)]
      · exact nd_R_kp (lo0 := 0) (fun q a b => eN q (by omega)) (Nat.le_refl _) (fun _ _ hx => hx) (Nat.le_refl _) 6 0 0 0 _ _ (Nat.le_refl _) (Nat.le_refl _) n5
      · rw [cif_pos hex]
        have e13 : ax_I f6 (n + 13) = ax_I f5 (n + 13) := by unfold ax_I; rw [K6 _ (by omega)]
        rw [e13, q5 kd (by omega), z4 kd (by omega)]
        exact Int32.zero_add _
      · rw [ix_v (v6 8 (by decide)), ix_v (r5.2.2 8 (by decide))]
        exact o4
