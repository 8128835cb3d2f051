/-! refresh: the whole tree. -/
def ga (m : am_M) : Nat → Prop := fun y => y < 65536 ∧ m (nI y) ≠ none
theorem ga_G {f : pl_H} {n c : Nat} {m : am_M} (h : bk_R f (n + 1) c m) : gr_G f n 0 c (ga m) := fun y => by
  have hc := h.2.2.1
  constructor
  · rintro ⟨hy, hm⟩
    cases hv : m (nI y) with
    | none => exact absurd hv hm
    | some v =>
      obtain ⟨j, j1, j2, -⟩ := (h.2.2.2.1.2.2 (nI y) v).mp hv
      have j2 : ax_I f (n + 2) j = nI y := j2
      have := nu_is h j1
      rw [j2] at this
      exact ⟨j, Nat.zero_le _, j1, ((nI_eq (by omega) (by omega)).mp this.1).symm⟩
  · rintro ⟨j, -, j2, rfl⟩
    have := nu_is h j2
    refine ⟨this.2, fun z => ?_⟩
    have hat := am_at h.2.2.2.1 j2
    have hat : m (ax_I f (n + 2) j) = _ := hat
    rw [this.1, z] at hat
    cases hat
theorem ga_0 {f : pl_H} {n c : Nat} {m : am_M} (h : bk_R f (n + 1) c m) : (∃ y, ga m y) ↔ 0 < c := by
  constructor
  · rintro ⟨y, hy⟩
    obtain ⟨j, -, j2, -⟩ := (ga_G h y).mp hy
    omega
  · intro hc
    exact ⟨nu f n 0, (ga_G h _).mpr ⟨0, Nat.le_refl _, hc, rfl⟩⟩
theorem ga_st (m : am_M) : gs_st (ga m) 0 := fun _ _ hy hz => ag_0 hy.1 hz.1
/-- the top node's code -/
noncomputable def tp (m : am_M) : List Int32 := cif (∃ y, ga m y) (sc m (ga m) 0) [128]
theorem gw_no {f : pl_H} {n c : Nat} {m : am_M} (h : gw f n c m [] 0) : ∃ f', fn_T_growNothing f (n + 9) = some (n + 15, f') ∧ gw f' n c m [128] 1 ∧ fr n 0 f f' ∧ nd_C f' n 0 [128] [128] ∧ ax_i f' (n + 15) 1 = 3 ∧ (∀ kd, kd < 3 → ax_I f' (n + 13) kd = ax_I f (n + 13) kd) := by
  obtain ⟨f1, p1, w1, r1, q1, ⟨t1, t2, t3, t4⟩, -⟩ := gw_take h (show 0 < 34 by decide) (kd := 3) (by decide) 0 0 0
  obtain ⟨f2, p2, d2, k2⟩ := cd_open w1.2.2.2.1 (by decide)
  obtain ⟨w2, r2, q2, -⟩ := gw_code w1 d2 k2
  obtain ⟨f3, p3, d3, k3⟩ := cd_shut (U := []) (H := [0, 0, 0]) (B := []) d2 rfl 128
  obtain ⟨w3, r3, q3, -⟩ := gw_code w2 d3 k3
  have e128 : ([] ++ cd_enc 128 [] : List Int32) = [128] := by decide
  rw [e128] at w3
  obtain ⟨f4, p4, w4, k4, b1, b2, b3⟩ := gw_finish w3 (show 0 < 34 by decide) (b := 0) (by decide)
  have R : fr n 34 f1 f3 := r2.tr r3 (Nat.le_refl _)
  refine ⟨f4, ?_, w4, ?_, ⟨0, b1, b2, by decide, fun j x hx => by rw [Nat.zero_add]; exact hx⟩, ?_, fun kd hkd => ?_⟩
  · unfold fn_T_growNothing
    rw [ax_is h.2.2.1.1, Option.bind_some, show (3 : Int32) = nI 3 from rfl, p1, Option.bind_some]
    rw [tg_2 w1.2.2.1, Option.bind_some, cd_is w1.2.2.2.1, Option.bind_some, p2, Option.bind_some]
    rw [tg_2 w2.2.2.1, Option.bind_some, cd_is w2.2.2.2.1, Option.bind_some, p3, Option.bind_some]
    rw [ax_is w3.2.2.1.1, Option.bind_some]
    rw [show fn_T_finish f3 (n + 9) (n + 15 + 2 * 0, f1).1 (nI ([] : List Int32).length, f2).1 = some (n + 15 + 2 * 0, f4) from p4, Option.bind_some]
  · have F : fr n 0 f3 f4 := ⟨k4.mono (fun q hq => by unfold gw_S; omega), fun q a b => absurd b (by omega), fun k _ => by unfold ax_v; rw [k4 (n + 9) (by omega)]⟩
    exact (r1.tr R (by omega)).tr F (Nat.le_refl _)
  · rw [ix_v (b3 1 (by decide) (by decide))]
    unfold ax_i ax_v
    rw [R.2.1 _ (by omega) (by omega)]
    exact t1
  · have e4 : ax_I f4 (n + 13) = ax_I f3 (n + 13) := by unfold ax_I; rw [k4 (n + 13) (by omega)]
    rw [e4, q3, q2, q1, bs_vI, if_neg (by omega)]
