/-! The reference: nodes, the count. -/
noncomputable def wt (k : Nat) (m : am_M) (v : Nat → Nat) (q : Nat) : Nat := nc k (ad m (v (q % 12)) (q / 12)) (q / 12)
def cv (v : Nat → Nat) (q j : Nat) : Prop := ag (v (q % 12)) (v j) (q / 12)
/-- from q0 on: those marked part the accounts, and count what is left -/
def nI_v (k : Nat) (m : am_M) (v : Nat → Nat) (c tot : Nat) (U : Nat → Prop) (q0 n : Nat) : Prop := (∀ q, q0 ≤ q → q < 60 → U q → q % 12 < c) ∧ (∀ q q' j, q0 ≤ q → q < 60 → U q → q0 ≤ q' → q' < 60 → U q' → j < c → cv v q j → cv v q' j → q = q') ∧ n + su (fun q => q0 ≤ q ∧ U q) (wt k m v) 60 = tot
theorem nv_skip {k : Nat} {m : am_M} {v : Nat → Nat} {c tot q0 q1 n : Nat} {U : Nat → Prop} (h : nI_v k m v c tot U q0 n) (hq : q0 ≤ q1) (hn : ∀ q, q0 ≤ q → q < q1 → q < 60 → ¬ U q) : nI_v k m v c tot U q1 n := by
  obtain ⟨h1, h2, h3⟩ := h
  refine ⟨fun q a b => h1 q (by omega) b, fun q q' j a b c' d e f => h2 q q' j (by omega) b c' (by omega) e f, ?_⟩
  rw [← h3]
  congr 1
  refine su_c 60 (fun q hq' => ⟨fun z => ⟨by omega, z.2⟩, fun z => ?_⟩) (fun _ _ _ => rfl)
  refine ⟨?_, z.2⟩
  rcases Nat.lt_or_ge q q1 with y | y
  · exact absurd z.2 (hn q z.1 y hq')
  · exact y
theorem wt_at {k : Nat} {m : am_M} {v : Nat → Nat} {d i : Nat} (hi : i < 12) : wt k m v (12 * d + i) = nc k (ad m (v i) d) d := by
  unfold wt
  rw [show (12 * d + i) % 12 = i by omega, show (12 * d + i) / 12 = d by omega]
theorem cv_at {v : Nat → Nat} {d i j : Nat} (hi : i < 12) : cv v (12 * d + i) j ↔ ag (v i) (v j) d := by
  unfold cv
  rw [show (12 * d + i) % 12 = i by omega, show (12 * d + i) / 12 = d by omega]
noncomputable def nkd (m : am_M) (x d : Nat) : Nat := cif (gs_one (ad m x d)) 0 (cif (d < gs_to (ad m x d)) 1 2)
theorem nv_step {k : Nat} {m : am_M} {v : Nat → Nat} {c tot d i n : Nat} {U U' : Nat → Prop} (hc : c ≤ 12) (hi : i < c) (hd : d ≤ 4) (hv : ∀ y, ga m y ↔ ∃ j, j < c ∧ v j = y) (h : nI_v k m v c tot U (12 * d + i) n) (hU : U (12 * d + i)) (hU' : ∀ q, U' q ↔ (U q ∨ mb_K m v c i d q)) : nI_v k m v c tot U' (12 * d + i + 1) (if nkd m (v i) d = k then n + 1 else n) := by
  obtain ⟨h1, h2, h3⟩ := h
  have hG : ga m (v i) := (hv _).mpr ⟨i, hi, rfl⟩
  have hw : su (fun q => 12 * d + i ≤ q ∧ U q) (wt k m v) 60 = su (fun q => 12 * d + i + 1 ≤ q ∧ U q) (wt k m v) 60 + nc k (ad m (v i) d) d := by
    rw [← wt_at (k := k) (m := m) (v := v) (show i < 12 by omega)]
    refine su_add 60 (by omega) (fun z => by omega) (fun q _ => ⟨fun z => ?_, fun z => ?_⟩)
    · rcases Nat.lt_or_ge (12 * d + i) q with y | y
      · exact Or.inl ⟨y, z.2⟩
      · exact Or.inr (by omega)
    · rcases z with z | z
      · exact ⟨by omega, z.2⟩
      · rw [z]
        exact ⟨Nat.le_refl _, hU⟩
  have h4 := gs_to_le (ad m (v i) d)
  have same : (∀ q, ¬ mb_K m v c i d q) → su (fun q => 12 * d + i + 1 ≤ q ∧ U' q) (wt k m v) 60 = su (fun q => 12 * d + i + 1 ≤ q ∧ U q) (wt k m v) 60 := by
    intro hno
    refine su_c 60 (fun q _ => ⟨fun z => ⟨z.1, ((hU' q).mp z.2).resolve_right (hno q)⟩, fun z => ⟨z.1, (hU' q).mpr (Or.inl z.2)⟩⟩) (fun _ _ _ => rfl)
  -- what a new one covers
  have new : ∀ q, mb_K m v c i d q → 12 * d + i < q ∧ q < 60 ∧ q % 12 < c ∧ (∀ j, cv v q j → cv v (12 * d + i) j) ∧ cv v q (q % 12) := by
    intro q hq
    obtain ⟨g1, g2⟩ := hq
    rcases g2 with ⟨g2, rfl⟩ | ⟨g2, j, j1, rfl, j3, j4⟩
    · refine ⟨by omega, by omega, by omega, fun j hj => ?_, ag_rf _ _⟩
      rw [cv_at (by omega)] at hj ⊢
      exact ag_le (by omega) h4 hj
    · have hd4 := ad_d4 hG hd g1
      refine ⟨by omega, by omega, by omega, fun t ht => ?_, ag_rf _ _⟩
      rw [cv_at (by omega)] at ht ⊢
      exact ag_tr j3 (ag_le (by omega) (by omega) ht)
  have nU : ∀ q, mb_K m v c i d q → ¬ U q := by
    intro q hq hu
    obtain ⟨n1, n2, n3, n4, n5⟩ := new q hq
    have := h2 q (12 * d + i) (q % 12) (by omega) n2 hu (Nat.le_refl _) (by omega) hU n3 n5 (n4 _ n5)
    omega
  refine ⟨fun q a b hu => ?_, fun q q' j a b hu a' b' hu' hj hcv hcv' => ?_, ?_⟩
  · rcases (hU' q).mp hu with z | z
    · exact h1 q (by omega) b z
    · exact (new q z).2.2.1
  · rcases (hU' q).mp hu with z | z
    · rcases (hU' q').mp hu' with z' | z'
      · exact h2 q q' j (by omega) b z (by omega) b' z' hj hcv hcv'
      · have := h2 q (12 * d + i) j (by omega) b z (Nat.le_refl _) (by omega) hU hj hcv ((new q' z').2.2.2.1 j hcv')
        omega
    · rcases (hU' q').mp hu' with z' | z'
      · have := h2 q' (12 * d + i) j (by omega) b' z' (Nat.le_refl _) (by omega) hU hj hcv' ((new q z).2.2.2.1 j hcv)
        omega
      · obtain ⟨g1, g2⟩ := z
        obtain ⟨g1', g2'⟩ := z'
        rcases g2 with ⟨g2, rfl⟩ | ⟨g2, t, t1, rfl, t3, t4⟩
        · rcases g2' with ⟨g2', rfl⟩ | ⟨g2', t, t1, rfl, t3, t4⟩
          · rfl
          · exact absurd g2 g2'
        · rcases g2' with ⟨g2', rfl⟩ | ⟨g2', t', t1', rfl, t3', t4'⟩
          · exact absurd g2' g2
          · rw [cv_at (by omega)] at hcv hcv'
            have e1 := ag_tr hcv (ag_sy hcv')
            rcases Nat.lt_trichotomy t t' with y | y | y
            · exact absurd (ag_sy e1) (t4' t y)
            · rw [y]
            · exact absurd e1 (t4 t' y)
  · rw [hw] at h3
    unfold nkd
    by_cases c1 : gs_one (ad m (v i) d)
    · rw [cif_pos c1, same (fun q hq => hq.1 c1)]
      rw [nc_L (Or.inl c1)] at h3
      by_cases e : k = 0
      · rw [if_pos e] at h3
        rw [if_pos e.symm]
        omega
      · rw [if_neg e] at h3
        rw [if_neg (fun z => e z.symm)]
        omega
    · rw [cif_neg c1]
      have hd4 := ad_d4 hG hd c1
      have hno : ¬ (gs_one (ad m (v i) d) ∨ 4 ≤ d) := fun z => z.elim c1 (by omega)
      by_cases c2 : d < gs_to (ad m (v i) d)
      · rw [cif_pos c2]
        rw [nc_S hno c2] at h3
        have hk : mb_K m v c i d (12 * gs_to (ad m (v i) d) + i) := ⟨c1, Or.inl ⟨c2, rfl⟩⟩
        have hs : su (fun q => 12 * d + i + 1 ≤ q ∧ U' q) (wt k m v) 60 = su (fun q => 12 * d + i + 1 ≤ q ∧ U q) (wt k m v) 60 + nc k (ad m (v i) d) (gs_to (ad m (v i) d)) := by
          have e1 : nc k (ad m (v i) d) (gs_to (ad m (v i) d)) = wt k m v (12 * gs_to (ad m (v i) d) + i) := by
            rw [wt_at (by omega), ← ad_S hG hd]
          rw [e1]
          refine su_add 60 (by omega) (fun z => nU _ hk z.2) (fun q _ => ⟨fun z => ?_, fun z => ?_⟩)
          · rcases (hU' q).mp z.2 with y | ⟨-, y | y⟩
            · exact Or.inl ⟨z.1, y⟩
            · exact Or.inr y.2
            · exact absurd c2 y.1
          · rcases z with z | rfl
            · exact ⟨z.1, (hU' q).mpr (Or.inl z.2)⟩
            · exact ⟨by omega, (hU' _).mpr (Or.inr hk)⟩
        rw [hs]
        by_cases e : k = 1
        · rw [if_pos e] at h3
          rw [if_pos e.symm]
          omega
        · rw [if_neg e] at h3
          rw [if_neg (fun z => e z.symm)]
          omega
      · rw [cif_neg c2]
        rw [nc_F hno c2] at h3
        have hs : su (fun q => 12 * d + i + 1 ≤ q ∧ U' q) (wt k m v) 60 = su (fun q => 12 * d + i + 1 ≤ q ∧ U q) (wt k m v) 60 + nc_s (ad m (v i) d) d (fun G' => nc k G' (d + 1)) 16 := by
          have e1 := su_blk (U := fun q => 12 * d + i + 1 ≤ q ∧ U q) (w := wt k m v) (ch := fun j => ag (v i) (v j) d ∧ ∀ s, s < j → ¬ ag (v j) (v s) (d + 1)) (B := 12 * (d + 1)) (N := 60) c (by omega) (fun j hj hch z => nU (12 * (d + 1) + j) ⟨c1, Or.inr ⟨c2, j, hj, rfl, hch⟩⟩ z.2)
          have e2 : su (fun q => 12 * d + i + 1 ≤ q ∧ U' q) (wt k m v) 60 = su (fun q => (12 * d + i + 1 ≤ q ∧ U q) ∨ ∃ j, j < c ∧ q = 12 * (d + 1) + j ∧ (ag (v i) (v j) d ∧ ∀ s, s < j → ¬ ag (v j) (v s) (d + 1))) (wt k m v) 60 := by
            refine su_c 60 (fun q _ => ⟨fun z => ?_, fun z => ?_⟩) (fun _ _ _ => rfl)
            · rcases (hU' q).mp z.2 with y | ⟨-, y | y⟩
              · exact Or.inl ⟨z.1, y⟩
              · exact absurd y.1 c2
              · exact Or.inr y.2
            · rcases z with z | z
              · exact ⟨z.1, (hU' q).mpr (Or.inl z.2)⟩
              · refine ⟨?_, (hU' q).mpr (Or.inr ⟨c1, Or.inr ⟨c2, z⟩⟩)⟩
                obtain ⟨j, -, z, -⟩ := z
                omega
          rw [e2, e1]
          congr 1
          have e3 := su_first (v := v) (b := v i) (d := d) (F := fun e => nc k (gs_d (ad m (v i) d) d e) (d + 1)) c
          rw [nc_su]
          refine Eq.trans ?_ (e3.trans ?_)
          · refine su_c c (fun j hj => ⟨fun z => ⟨z.1, fun s hs hz => ?_⟩, fun z => ⟨z.1, fun s hs hz => ?_⟩⟩) (fun j hj z => ?_)
            · exact z.2 s hs ((ag_s hd4).mpr ⟨ag_tr (ag_sy z.1) hz.1, hz.2.symm⟩)
            · have := (ag_s hd4).mp hz
              exact z.2 s hs ⟨ag_tr z.1 this.1, this.2.symm⟩
            · rw [wt_at (by omega)]
              show _ = nc k (gs_d (ad m (v i) d) d (dg (v j) d)) (d + 1)
              rw [ad_d hd4 z.1]
          · refine su_c 16 (fun e _ => ⟨fun ⟨j, j1, j2, j3⟩ => ⟨v j, ⟨(hv _).mpr ⟨j, j1, rfl⟩, j2⟩, j3⟩, fun ⟨y, ⟨y1, y2⟩, y3⟩ => ?_⟩) (fun _ _ _ => rfl)
            obtain ⟨j, j1, rfl⟩ := (hv y).mp y1
            exact ⟨j, j1, y2, y3⟩
        rw [hs]
        by_cases e : k = 2
        · rw [if_pos e] at h3
          rw [if_pos e.symm]
          omega
        · rw [if_neg e] at h3
          rw [if_neg (fun z => e z.symm)]
          omega
theorem nv_59e (rc : pl_H → Nat → Int32 → Int32 → Int32 → Option (Int32 × pl_H)) (k : Nat) (f : pl_H) (a0 : Nat) (x1 x2 x3 x4 : Int32) : fn_M_nodes_59 rc (k + 1) f a0 x1 x2 x3 x4 = (pl_gI f a0 8 0).bind fun v1 => if v1 ≤ x4 then rc f a0 x1 x2 (x3 + 1) else (pl_gR f a0 8 9).bind fun v2 => (pl_aZ f v2 ((12 * x3) + x4)).bind fun v3 => if v3 = 0 then fn_M_nodes_59 rc k f a0 x1 x2 x3 (x4 + 1) else (pl_is f a0 8).bind fun u5 => (fn_M_group f a0 x4 x3).bind fun v4 => if v4 = 1 then fn_M_nodes_114 rc (fn_M_nodes_59 rc k) f a0 x1 x2 x3 x4 0 else (pl_is f a0 8).bind fun u7 => (fn_M_common f a0 x4 x3).bind fun v6 => if v6 ≤ x3 then fn_M_nodes_114 rc (fn_M_nodes_59 rc k) f a0 x1 x2 x3 x4 2 else fn_M_nodes_114 rc (fn_M_nodes_59 rc k) f a0 x1 x2 x3 x4 1 := rfl
theorem nv_59 {a c kd d tot : Nat} {m : am_M} {v : Nat → Nat} {rc : pl_H → Nat → Int32 → Int32 → Int32 → Option (Int32 × pl_H)} (hk3 : kd < 3) (hd : d ≤ 4) : ∀ (r k i n : Nat) (f : pl_H), c - i = r → i ≤ c → r < k → mo_R f a c m → (∀ j, mu f a j = v j) → nI_v kd m v c tot (fun q => ax_I f (a + 7) q ≠ 0) (12 * d + i) n → ∃ f' n', fn_M_nodes_59 rc k f a (nI kd) (nI n) (nI d) (nI i) = rc f' a (nI kd) (nI n') (nI (d + 1)) ∧ mo_R f' a c m ∧ (∀ j, mu f' a j = v j) ∧ nI_v kd m v c tot (fun q => ax_I f' (a + 7) q ≠ 0) (12 * (d + 1)) n' ∧ mz a (fun q => q = a + 7) (fun _ => False) f f' := by
  intro r
  induction r with
  | zero =>
    intro k i n f hr hi hk hR hu hI
    have hc := hR.2.2.1
    obtain ⟨k, rfl⟩ : ∃ k', k = k' + 1 := ⟨k - 1, by omega⟩
    refine ⟨f, n, ?_, hR, hu, nv_skip hI (by omega) (fun q h1 h2 h3 h4 => absurd (hI.1 q h1 h3 h4) (by omega)), mz.rf hR.1⟩
    rw [nv_59e, mo_many hR.1, hR.2.1, Option.bind_some, if_pos ((bs_le (by omega) (by omega)).mpr (by omega)), nI_1]
  | succ r ih =>
    intro k i n f hr hi hk hR hu hI
    have hc := hR.2.2.1
    obtain ⟨k, rfl⟩ : ∃ k', k = k' + 1 := ⟨k - 1, by omega⟩
    have hi' : i < c := by omega
    rw [nv_59e, mo_many hR.1, hR.2.1, Option.bind_some, if_neg (fun z => absurd ((bs_le (by omega) (by omega)).mp z) (by omega)), mo_used hR.1, Option.bind_some, me_at, mo_used_g hR.1 (by omega), Option.bind_some]
    by_cases h0 : ax_I f (a + 7) (12 * d + i) = 0
    · rw [if_pos h0, nI_1]
      exact ih k (i + 1) n f (by omega) (by omega) (by omega) hR hu (nv_skip hI (by omega) (fun q h1 h2 _ h4 => by
        have : q = 12 * d + i := by omega
        subst this
        exact h4 h0))
    · rw [if_neg h0, ax_is hR.1.1, Option.bind_some, mg_group hR hi' hd, Option.bind_some]
      have lg := gn_le (fun j => ag (mu f a i) (mu f a j) d) c
      have hone := mg_one (d := d) hR hi'
      have eg : (nI (gn (fun j => ag (mu f a i) (mu f a j) d) c) = 1) ↔ gs_one (ad m (v i) d) := by
        rw [← hu, ← hone]
        exact nI_eq (b := 1) (by omega) (by decide)
      have h4 := gs_to_le (ad m (v i) d)
      obtain ⟨f1, p1, z1, q1⟩ := mb_mark hR hi' hd
      have R1 := z1.R hR (fun q _ _ z => by omega) (fun z => z)
      have u1 : ∀ j, mu f1 a j = v j := fun j => (z1.mu (by omega) j).trans (hu j)
      have ev : mu f a = v := funext hu
      rw [ev] at q1
      have hv : ∀ y, ga m y ↔ ∃ j, j < c ∧ v j = y := fun y => by
        rw [mu_ga hR y, ev]
      have I1 := nv_step hc hi' hd hv hI h0 (U' := fun q => ax_I f1 (a + 7) q ≠ 0) q1
      obtain ⟨f', n', p, R', u', I', z'⟩ := ih k (i + 1) _ f1 (by omega) (by omega) (by omega) R1 u1 I1
      refine ⟨f', n', ?_, R', u', I', z1.tr z'⟩
      have key : ∀ t, t < 3 → nkd m (v i) d = t → fn_M_nodes_114 rc (fn_M_nodes_59 rc k) f a (nI kd) (nI n) (nI d) (nI i) (nI t) = rc f' a (nI kd) (nI n') (nI (d + 1)) := by
        intro t ht hk
        unfold fn_M_nodes_114 fn_M_nodes_129 fn_M_nodes_137
        rw [hk] at p
        by_cases e : t = kd
        · rw [if_pos e] at p
          rw [if_pos (by rw [e]), ax_is hR.1.1, Option.bind_some, p1, Option.bind_some, nI_1, nI_1]
          exact p
        · rw [if_neg e] at p
          rw [if_neg (fun z => e ((nI_eq (by omega) (by omega)).mp z)), ax_is hR.1.1, Option.bind_some, p1, Option.bind_some, nI_1]
          exact p
      by_cases c1 : gs_one (ad m (v i) d)
      · rw [if_pos (eg.mpr c1)]
        refine key 0 (by decide) ?_
        unfold nkd
        rw [cif_pos c1]
      · rw [if_neg (fun z => c1 (eg.mp z)), Option.bind_some, mc_common hR hi' hd, Option.bind_some, hu]
        by_cases c2 : d < gs_to (ad m (v i) d)
        · rw [if_neg (fun z => absurd ((bs_le (by omega) (by omega)).mp z) (by omega))]
          refine key 1 (by decide) ?_
          unfold nkd
          rw [cif_neg c1, cif_pos c2]
        · rw [if_pos ((bs_le (by omega) (by omega)).mpr (by omega))]
          refine key 2 (by decide) ?_
          unfold nkd
          rw [cif_neg c1, cif_neg c2]
theorem nv_51e (k : Nat) (f : pl_H) (a0 : Nat) (x1 x2 x3 : Int32) : fn_M_nodes_51 (k + 1) f a0 x1 x2 x3 = if 5 ≤ x3 then some (x2, f) else fn_M_nodes_59 (fn_M_nodes_51 k) pl_N f a0 x1 x2 x3 0 := rfl
theorem nv_51 {a c kd tot : Nat} {m : am_M} {v : Nat → Nat} (hk3 : kd < 3) : ∀ (r k d n : Nat) (f : pl_H), 5 - d = r → d ≤ 5 → r < k → mo_R f a c m → (∀ j, mu f a j = v j) → nI_v kd m v c tot (fun q => ax_I f (a + 7) q ≠ 0) (12 * d) n → ∃ f', fn_M_nodes_51 k f a (nI kd) (nI n) (nI d) = some (nI tot, f') ∧ mz a (fun q => q = a + 7) (fun _ => False) f f' := by
  intro r
  induction r with
  | zero =>
    intro k d n f hr hd hk hR hu hI
    obtain ⟨k, rfl⟩ : ∃ k', k = k' + 1 := ⟨k - 1, by omega⟩
    have e : d = 5 := by omega
    subst e
    have h3 := hI.2.2
    rw [su_0 60 (fun q hq z => by omega), Nat.add_zero] at h3
    rw [nv_51e, if_pos (by decide), h3]
    exact ⟨f, rfl, mz.rf hR.1⟩
  | succ r ih =>
    intro k d n f hr hd hk hR hu hI
    have hc := hR.2.2.1
    obtain ⟨k, rfl⟩ : ∃ k', k = k' + 1 := ⟨k - 1, by omega⟩
    obtain ⟨f1, n1, p1, R1, u1, I1, z1⟩ := nv_59 (rc := fn_M_nodes_51 k) hk3 (show d ≤ 4 by omega) c pl_N 0 n f rfl (Nat.zero_le _) (by unfold pl_N; omega) hR hu hI
    obtain ⟨f', p, z⟩ := ih k (d + 1) n1 f1 (by omega) (by omega) (by omega) R1 u1 I1
    refine ⟨f', ?_, z1.tr z⟩
    rw [nv_51e, if_neg (show ¬ 5 ≤ nI d from fun z => absurd ((bs_le (a := 5) (by decide) (by omega)).mp z) (by omega))]
    exact p1.trans p
theorem nv_13e (k : Nat) (f : pl_H) (a0 : Nat) (x1 x2 : Int32) : fn_M_nodes_13 (k + 1) f a0 x1 x2 = if 60 ≤ x2 then fn_M_nodes_51 pl_N f a0 x1 0 0 else (pl_gR f a0 8 9).bind fun v1 => if x2 = 0 then (pl_gI f a0 8 0).bind fun v2 => if v2 ≤ 0 then fn_M_nodes_40 (fn_M_nodes_13 k) f a0 x1 x2 0 x2 v1 else fn_M_nodes_40 (fn_M_nodes_13 k) f a0 x1 x2 1 x2 v1 else fn_M_nodes_40 (fn_M_nodes_13 k) f a0 x1 x2 0 x2 v1 := rfl
theorem nv_13 {a c : Nat} {m : am_M} (x1 : Int32) : ∀ (r k q : Nat) (f : pl_H), 60 - q = r → q ≤ 60 → r < k → mo_R f a c m → (∀ j, j < q → (ax_I f (a + 7) j ≠ 0 ↔ (j = 0 ∧ 0 < c))) → ∃ f', fn_M_nodes_13 k f a x1 (nI q) = fn_M_nodes_51 pl_N f' a x1 0 0 ∧ (∀ j, j < 60 → (ax_I f' (a + 7) j ≠ 0 ↔ (j = 0 ∧ 0 < c))) ∧ mz a (fun q => q = a + 7) (fun _ => False) f f' := by
  intro r
  induction r with
  | zero =>
    intro k q f hr hq hk hR hU
    obtain ⟨k, rfl⟩ : ∃ k', k = k' + 1 := ⟨k - 1, by omega⟩
    have e : q = 60 := by omega
    subst e
    exact ⟨f, by rw [nv_13e, if_pos (by decide)], hU, mz.rf hR.1⟩
  | succ r ih =>
    intro k q f hr hq hk hR hU
    have hc := hR.2.2.1
    obtain ⟨k, rfl⟩ : ∃ k', k = k' + 1 := ⟨k - 1, by omega⟩
    have key : ∀ b : Int32, pl_zb b = true → (b ≠ 0 ↔ (q = 0 ∧ 0 < c)) → ∃ f', fn_M_nodes_40 (fn_M_nodes_13 k) f a x1 (nI q) b (nI q) (a + 7) = fn_M_nodes_51 pl_N f' a x1 0 0 ∧ (∀ j, j < 60 → (ax_I f' (a + 7) j ≠ 0 ↔ (j = 0 ∧ 0 < c))) ∧ mz a (fun q => q = a + 7) (fun _ => False) f f' := by
      intro b hb hb2
      have z1 := mz_I (K := fun _ => False) hR.1 (show a + 7 ≠ a by omega) q b
      have R1 := z1.R hR (fun q _ _ z => by omega) (fun z => z)
      obtain ⟨f', p, u, z⟩ := ih k (q + 1) (ux_I f (a + 7) q b) (by omega) (by omega) (by omega) R1 (fun j hj => by
        rw [rx_I (mo_used_s hR.1), bs_vI]
        by_cases e : j = q
        · rw [if_pos e, e]
          exact hb2
        · rw [if_neg e]
          exact hU j (by omega))
      refine ⟨f', ?_, u, z1.tr z⟩
      unfold fn_M_nodes_40
      rw [mo_used_w hR.1 (by omega) hb, Option.bind_some, nI_1]
      exact p
    rw [nv_13e, if_neg (show ¬ 60 ≤ nI q from fun z => absurd ((bs_le (a := 60) (by decide) (by omega)).mp z) (by omega)), mo_used hR.1, Option.bind_some]
    by_cases e : q = 0
    · rw [if_pos (by rw [e]; rfl), mo_many hR.1, hR.2.1, Option.bind_some]
      by_cases c0 : c = 0
      · rw [if_pos (by rw [c0]; decide)]
        exact key 0 rfl ⟨fun z => absurd rfl z, fun z => by omega⟩
      · rw [if_neg (nI_nle (by omega) (by omega))]
        exact key 1 rfl ⟨fun _ => ⟨e, by omega⟩, fun _ => by decide⟩
    · rw [if_neg (nI_ne0 (by omega) (by omega))]
      exact key 0 rfl ⟨fun z => absurd rfl z, fun z => absurd z.1 e⟩
theorem ma_nodes {f : pl_H} {a c : Nat} {m : am_M} (hR : mo_R f a c m) (x : Int32) : ∃ f', fn_M_nodes f a x = some (sp_nodes m x, f') ∧ mz a (fun q => q = a + 7) (fun _ => False) f f' := by
  have hc := hR.2.2.1
  have key : ∀ kd, kd < 3 → ∃ f', fn_M_nodes_13 pl_N f a (nI kd) 0 = some (nI (cif (∃ y, ga m y) (nc kd (ga m) 0) 0), f') ∧ mz a (fun q => q = a + 7) (fun _ => False) f f' := by
    intro kd hk
    obtain ⟨f1, p1, u1, z1⟩ := nv_13 (nI kd) 60 pl_N 0 f rfl (by decide) (by decide) hR (fun j hj => absurd hj (by omega))
    have R1 := z1.R hR (fun q _ _ z => by omega) (fun z => z)
    obtain ⟨f', p, z⟩ := nv_51 (v := mu f1 a) (tot := cif (∃ y, ga m y) (nc kd (ga m) 0) 0) hk 5 pl_N 0 0 f1 rfl (by decide) (by decide) R1 (fun _ => rfl) (by
      refine ⟨fun q _ h2 h3 => ?_, fun q q' j _ h2 h3 _ h5 h6 _ _ _ => ?_, ?_⟩
      · obtain ⟨rfl, h⟩ := (u1 q h2).mp h3
        exact h
      · have e1 := ((u1 q h2).mp h3).1
        have e2 := ((u1 q' h5).mp h6).1
        omega
      · by_cases c0 : c = 0
        · rw [cif_neg (fun z => absurd ((mo_ex hR).mp z) (by omega)), su_0 60 (fun q hq z => by have := ((u1 q hq).mp z.2).2; omega)]
        · rw [cif_pos ((mo_ex hR).mpr (by omega)), su_add (p := fun _ => False) (r := 0) 60 (by decide) (fun z => z) (fun q hq => ⟨fun z => Or.inr ((u1 q hq).mp z.2).1, fun z => ⟨Nat.zero_le _, (u1 q hq).mpr ⟨z.resolve_left (fun y => y), by omega⟩⟩⟩), su_0 60 (fun _ _ z => z)]
          have hG : ga m (mu f1 a 0) := (mu_ga R1 _).mpr ⟨0, by omega, rfl⟩
          show 0 + (0 + nc kd (ad m (mu f1 a 0) 0) 0) = _
          rw [ad_0 hG.1]
          omega)
    exact ⟨f', p1.trans p, z1.tr z⟩
  unfold fn_M_nodes fn_M_nodes_9 sp_nodes
  by_cases h0 : x < 0
  · rw [if_pos h0, if_neg]
    · exact ⟨f, rfl, mz.rf hR.1⟩
    · rintro (z | z | z) <;> rw [z] at h0 <;> revert h0 <;> decide
  · rw [if_neg h0]
    obtain ⟨q, hq, rfl⟩ := nI_of h0
    by_cases h2 : q ≤ 2
    · rw [if_pos (show nI q ≤ 2 from (bs_le (b := 2) (by omega) (by decide)).mpr h2), if_pos, bs_cl hq]
      · exact key q (by omega)
      · have : q = 0 ∨ q = 1 ∨ q = 2 := by omega
        rcases this with rfl | rfl | rfl
        · exact Or.inl rfl
        · exact Or.inr (Or.inl rfl)
        · exact Or.inr (Or.inr rfl)
    · rw [if_neg (show ¬ nI q ≤ 2 from fun z => h2 ((bs_le (b := 2) (by omega) (by decide)).mp z)), if_neg]
      · exact ⟨f, rfl, mz.rf hR.1⟩
      · rintro (z | z | z)
        · exact h2 (by have := (nI_eq (b := 0) hq (by decide)).mp z; omega)
        · exact h2 (by have := (nI_eq (b := 1) hq (by decide)).mp z; omega)
        · exact h2 (by have := (nI_eq (b := 2) hq (by decide)).mp z; omega)
