/-! The reference: numbers and digits as bytes. -/
theorem nb_y_N {V i : Nat} (hV : V < 2 ^ 63) (hi : i < 8) : nb_y (lN V) i = nI (V / 2 ^ (8 * i) % 256) := by
  have hs : ((nI (8 * i)).toInt64.toUInt64 &&& Int64.toUInt64 63) = UInt64.ofNat (8 * i) := by
    have : i = 0 ∨ i = 1 ∨ i = 2 ∨ i = 3 ∨ i = 4 ∨ i = 5 ∨ i = 6 ∨ i = 7 := by omega
    rcases this with rfl | rfl | rfl | rfl | rfl | rfl | rfl | rfl <;> decide
  unfold nb_y
  rw [hs, pk_and _ 8 (by decide)]
  have e1 : (lN V).toUInt64.toNat = V := by
    show (BitVec.ofNat 64 V).toNat = V
    rw [BitVec.toNat_ofNat]
    exact Nat.mod_eq_of_lt (by omega)
  have e0 : (UInt64.ofNat (8 * i)).toNat = 8 * i := by
    show (BitVec.ofNat 64 (8 * i)).toNat = 8 * i
    rw [BitVec.toNat_ofNat]
    exact Nat.mod_eq_of_lt (by omega)
  have e2 : ((lN V).toUInt64 >>> UInt64.ofNat (8 * i)).toNat = V / 2 ^ (8 * i) := by
    rw [UInt64.toNat_shiftRight, e1, e0, Nat.mod_eq_of_lt (show 8 * i < 64 by omega), Nat.shiftRight_eq_div_pow]
  have e3 : (((lN V).toUInt64 >>> UInt64.ofNat (8 * i)).toInt64.toInt32).toBitVec.toNat = V / 2 ^ (8 * i) % 2 ^ 32 := by
    rw [← e2]
    show (BitVec.signExtend 32 _).toNat = _
    rw [BitVec.signExtend_eq_setWidth_of_le _ (by decide)]
    simp
    rfl
  rw [e3]
  congr 1
  omega
/-- bytes k-1 .. 0 -/
def nb_a (v : Int64) : Nat → List Int32
  | 0 => []
  | i + 1 => nb_y v i :: nb_a v i
theorem nb_a_l (v : Int64) : ∀ i, (nb_a v i).length = i
  | 0 => rfl
  | i + 1 => congrArg (· + 1) (nb_a_l v i)
theorem nb_l_t (v : Int64) : ∀ i, nb_l v i true = nb_a v i
  | 0 => rfl
  | i + 1 => by
    show (if true = true ∨ nb_y v i ≠ 0 then nb_y v i :: nb_l v i true else nb_l v i false) = _
    rw [if_pos (Or.inl rfl), nb_l_t v i]
    rfl
def nb_is (V N : Nat) : Prop := V < 2 ^ (8 * N) ∧ (N = 0 ∨ ∃ k, N = k + 1 ∧ 2 ^ (8 * k) ≤ V)
theorem nb_l_f {V N : Nat} (hV : V < 2 ^ 63) (h : nb_is V N) : ∀ i, N ≤ i → i ≤ 8 → nb_l (lN V) i false = nb_a (lN V) N
  | 0, h1, _ => by
    have : N = 0 := by omega
    subst this
    rfl
  | i + 1, h1, h2 => by
    show (if false = true ∨ nb_y (lN V) i ≠ 0 then nb_y (lN V) i :: nb_l (lN V) i true else nb_l (lN V) i false) = _
    have hb := nb_y_N hV (show i < 8 by omega)
    rcases Nat.lt_or_ge i N with z | z
    · have hN : N = i + 1 := by omega
      subst hN
      obtain ⟨g1, g2 | ⟨k, k1, k2⟩⟩ := h
      · omega
      · have : k = i := by omega
        subst this
        have hq : V / 2 ^ (8 * k) < 256 := by
          rw [Nat.div_lt_iff_lt_mul (Nat.two_pow_pos _)]
          have : 2 ^ (8 * (k + 1)) = 256 * 2 ^ (8 * k) := by rw [Nat.mul_succ, Nat.pow_add, Nat.mul_comm]
          omega
        have hq0 : 0 < V / 2 ^ (8 * k) := Nat.div_pos k2 (Nat.two_pow_pos _)
        rw [if_pos (Or.inr (by rw [hb, Nat.mod_eq_of_lt hq]; exact nI_ne0 hq0 (by omega))), nb_l_t]
        rfl
    · have hz : V / 2 ^ (8 * i) = 0 := Nat.div_eq_of_lt (Nat.lt_of_lt_of_le h.1 (Nat.pow_le_pow_right (by decide) (by omega)))
      rw [if_neg (fun q => by
        rcases q with q | q
        · cases q
        · apply q
          rw [hb, hz]
          rfl)]
      exact nb_l_f hV h i z (by omega)
theorem nb_is_8 {V N : Nat} (hV : V < 2 ^ 56) (h : nb_is V N) : N ≤ 7 := by
  rcases h.2 with g | ⟨k, k1, k2⟩
  · omega
  · rcases Nat.lt_or_ge 6 k with z | z
    · have := Nat.pow_le_pow_right (show 0 < 2 by decide) (show 56 ≤ 8 * k by omega)
      omega
    · omega
theorem nb_N {V N : Nat} (hV : V < 2 ^ 56) (h : nb_is V N) : nb (lN V) = cd_enc 128 (nb_a (lN V) N) := by
  unfold nb
  have := nb_is_8 hV h
  rw [nb_l_f (by omega) h 8 (by omega) (by decide)]
theorem mb_4e (k : Nat) (f : pl_H) (x2 : Int32) (y3 : Int64) : fn_M_bytesOf_4 (k + 1) f x2 y3 = if (lg_cmp y3 0) ≤ 0 then some x2 else fn_M_bytesOf_4 k f (x2 + 1) (y3 / 256) := rfl
theorem mb_4 (f : pl_H) {V : Nat} (hV : V < 2 ^ 56) : ∀ (r k n : Nat), 8 - n = r → n ≤ 7 → r < k → (n = 0 ∨ ∃ j, n = j + 1 ∧ 2 ^ (8 * j) ≤ V) → ∃ N, fn_M_bytesOf_4 k f (nI n) (lN (V / 2 ^ (8 * n))) = some (nI N) ∧ nb_is V N := by
  intro r
  induction r with
  | zero => intro k n h1 h2; omega
  | succ r ih =>
    intro k n h1 h2 hk hn
    obtain ⟨k, rfl⟩ : ∃ k', k = k' + 1 := ⟨k - 1, by omega⟩
    have hd := Nat.div_le_self V (2 ^ (8 * n))
    rw [mb_4e]
    rcases Nat.eq_zero_or_pos (V / 2 ^ (8 * n)) with z | z
    · have hlt : V < 2 ^ (8 * n) := by
        rcases Nat.lt_or_ge V (2 ^ (8 * n)) with q | q
        · exact q
        · have := Nat.div_pos q (Nat.two_pow_pos (8 * n))
          omega
      rw [z, if_pos (by decide)]
      exact ⟨n, rfl, hlt, hn⟩
    · have hle : 2 ^ (8 * n) ≤ V := by
        rcases Nat.lt_or_ge V (2 ^ (8 * n)) with q | q
        · rw [Nat.div_eq_of_lt q] at z
          omega
        · exact q
      have h7 : n < 7 := by
        rcases Nat.lt_or_ge n 7 with q | q
        · exact q
        · have := Nat.pow_le_pow_right (show 0 < 2 by decide) (show 56 ≤ 8 * n by omega)
          omega
      have hc : ¬ lg_cmp (lN (V / 2 ^ (8 * n))) 0 ≤ 0 := by
        refine fun q => absurd ((lg_cmp_gt _ _).mpr ?_) (Int32.not_lt.mpr q)
        exact (pk_lLT (a := 0) (by decide) (by omega)).mpr z
      rw [if_neg hc, nI_1, show (256 : Int64) = lN 256 from rfl, pk_lDiv (by omega) (by decide) (by decide), Nat.div_div_eq_div_mul, show 2 ^ (8 * n) * 256 = 2 ^ (8 * (n + 1)) by rw [show 8 * (n + 1) = 8 * n + 8 from rfl, Nat.pow_add]]
      exact ih k (n + 1) (by clear hn; omega) (by clear hn; omega) (by clear hn; omega) (Or.inr ⟨n, rfl, hle⟩)
theorem mb_of (f : pl_H) {V : Nat} (hV : V < 2 ^ 56) : ∃ N, fn_M_bytesOf f (lN V) = some (nI N) ∧ nb_is V N := by
  have := mb_4 f hV 8 pl_N 0 rfl (by decide) (by decide) (Or.inl rfl)
  rw [Nat.mul_zero, Nat.pow_zero, Nat.div_one] at this
  exact this
/-- what a method of the reference leaves as it was -/
def mz (a : Nat) (S K : Nat → Prop) (f f' : pl_H) : Prop := mo_L f' a ∧ bs_kp (fun q => q = a ∨ S q) f f' ∧ ∀ k, ¬ K k → ax_v f' a k = ax_v f a k
theorem mz.rf {a : Nat} {S K : Nat → Prop} {f : pl_H} (h : mo_L f a) : mz a S K f f := ⟨h, bs_kp.rf, fun _ _ => rfl⟩
theorem mz.tr {a : Nat} {S K : Nat → Prop} {f g h : pl_H} (h1 : mz a S K f g) (h2 : mz a S K g h) : mz a S K f h := ⟨h2.1, h1.2.1.tr h2.2.1, fun k hk => (h2.2.2 k hk).trans (h1.2.2 k hk)⟩
theorem mz.mo {a : Nat} {S K S' K' : Nat → Prop} {f g : pl_H} (h : mz a S K f g) (hS : ∀ q, S q → S' q) (hK : ∀ k, K k → K' k) : mz a S' K' f g := ⟨h.1, h.2.1.mono (fun q hq => hq.imp id (hS q)), fun k hk => h.2.2 k (fun z => hk (hK k z))⟩
theorem mz.i {a : Nat} {S K : Nat → Prop} {f f' : pl_H} (h : mz a S K f f') {k : Nat} (hk : ¬ K k) : ax_i f' a k = ax_i f a k := ix_v (h.2.2 k hk)
theorem mz.I {a : Nat} {S K : Nat → Prop} {f f' : pl_H} (h : mz a S K f f') {q : Nat} (hq : q ≠ a) (hS : ¬ S q) : ax_I f' q = ax_I f q := by
  unfold ax_I
  rw [h.2.1 q (fun z => z.elim hq hS)]
theorem mz.L {a : Nat} {S K : Nat → Prop} {f f' : pl_H} (h : mz a S K f f') {q : Nat} (hq : q ≠ a) (hS : ¬ S q) : ax_L f' q = ax_L f q := by
  unfold ax_L
  rw [h.2.1 q (fun z => z.elim hq hS)]
theorem mz.R {a c : Nat} {m : am_M} {S K : Nat → Prop} {f f' : pl_H} (h : mz a S K f f') (hR : mo_R f a c m) (hS : ∀ q, a < q → q ≤ a + 3 → ¬ S q) (hK : ¬ K 0) : mo_R f' a c m := mo_R_kp hR h.1 (h.i hK) h.2.1 (fun q h1 h2 z => z.elim (fun e => by omega) (hS q h1 h2))
theorem mz.mu {a : Nat} {S K : Nat → Prop} {f f' : pl_H} (h : mz a S K f f') (hS : ¬ S (a + 1)) (j : Nat) : mu f' a j = mu f a j := by
  show (ax_I f' (a + 1) j).toNatClampNeg = (ax_I f (a + 1) j).toNatClampNeg
  rw [h.I (by omega) hS]
theorem mz_I {f : pl_H} {a q : Nat} {K : Nat → Prop} (h : mo_L f a) (hq : q ≠ a) (i : Nat) (x : Int32) : mz a (fun s => s = q) K f (ux_I f q i x) := ⟨mo_uI h _ _ _, bs_kp.I (Or.inr rfl), fun k _ => rx_v_I ..⟩
theorem mz_f {f : pl_H} {a k : Nat} {S : Nat → Prop} (h : mo_L f a) (hk : mo_tg[k]? = some 0) (x : Int32) : mz a S (fun j => j = k) f (ux_f f a k (.int x)) := ⟨mo_uF h hk (fun z => by cases z), bs_kp.f (Or.inl rfl), fun j hj => rx_v_fne (Or.inr hj)⟩
/-- the reference's row for a value: behind its first place -/
def mv_R (f : pl_H) (a : Nat) (V : List Int32) : Prop := ∀ (i : Nat) (x : Int32), V[i]? = some x → ax_I f (a + 11) (1 + i) = x
theorem mv_put {f : pl_H} {a : Nat} {V : List Int32} (hM : mo_L f a) (h : mv_R f a V) (x : Int32) : mv_R (ux_I f (a + 11) (1 + V.length) x) a (V ++ [x]) := by
  intro i y hy
  rw [rx_I (mo_value_s hM), bs_vI]
  rcases gl_app hy with ⟨z, zL⟩ | ⟨rfl, rfl⟩
  · rw [if_neg (by omega)]
    exact h i y zL
  · rw [if_pos rfl]
theorem mv_45e (k : Nat) (f : pl_H) (a0 : Nat) (y2 : Int64) (x5 x6 : Int32) : fn_M_putNumber_45 (k + 1) f a0 y2 x5 x6 = if x6 < 0 then some (x5, f) else (pl_gR f a0 8 15).bind fun v1 => (pl_sI f v1 x5 ((((y2 >>> (((8 * x6) : Int32).toInt64 &&& 63)) &&& 255) : Int64).toInt32)).bind fun f2 => fn_M_putNumber_45 k f2 a0 y2 (x5 + 1) (x6 + (-1)) := rfl
theorem mv_45 {a : Nat} {v : Int64} : ∀ (t k : Nat) (f : pl_H) (V : List Int32), t ≤ 8 → t < k → V.length + t ≤ 15 → mo_L f a → mv_R f a V → ∃ f', fn_M_putNumber_45 k f a v (nI (1 + V.length)) (nI t - 1) = some (nI (1 + (V ++ nb_a v t).length), f') ∧ mv_R f' a (V ++ nb_a v t) ∧ mz a (fun q => q = a + 11) (fun _ => False) f f' := by
  intro t
  induction t with
  | zero =>
    intro k f V h1 h2 h3 hM h
    obtain ⟨k, rfl⟩ : ∃ k', k = k' + 1 := ⟨k - 1, by omega⟩
    rw [mv_45e, if_pos (by decide), show nb_a v 0 = [] from rfl, List.append_nil]
    exact ⟨f, rfl, h, mz.rf hM⟩
  | succ t ih =>
    intro k f V h1 h2 h3 hM h
    obtain ⟨k, rfl⟩ : ∃ k', k = k' + 1 := ⟨k - 1, by omega⟩
    have hl : (V ++ [nb_y v t]).length = V.length + 1 := by rw [List.length_append]; rfl
    obtain ⟨f', p, r, z⟩ := ih k (ux_I f (a + 11) (1 + V.length) (nb_y v t)) (V ++ [nb_y v t]) (by omega) (by omega) (by omega) (mo_uI hM _ _ _) (mv_put hM h _)
    have el : V ++ nb_a v (t + 1) = V ++ [nb_y v t] ++ nb_a v t := by
      rw [List.append_assoc]
      rfl
    rw [el]
    refine ⟨f', ?_, r, (mz_I hM (by omega) _ _).tr z⟩
    rw [mv_45e, nI_pred, if_neg (nI_pos (by omega)), mo_value hM, Option.bind_some, show (8 : Int32) * nI t = nI (8 * t) from pk_mul 8 t, ← kk_by v (show t < 8 by omega), mo_value_w hM (by omega), Option.bind_some, nI_1, show nI t + (-1) = nI t - 1 from (Int32.sub_eq_add_neg (nI t) 1).symm]
    rw [hl] at p
    exact p
theorem mv_num {f : pl_H} {a N : Nat} {V : List Int32} (hM : mo_L f a) (h : mv_R f a V) (hN : N < 2 ^ 56) (hV : V.length + 8 ≤ 15) : ∃ f', fn_M_putNumber f a (nI (1 + V.length)) (lN N) = some (nI (1 + (V ++ nb (lN N)).length), f') ∧ mv_R f' a (V ++ nb (lN N)) ∧ mz a (fun q => q = a + 11) (fun _ => False) f f' := by
  obtain ⟨M, p, hM'⟩ := mb_of f hN
  have h7 := nb_is_8 hN hM'
  have ha := nb_a_l (lN N) M
  rw [nb_N hN hM']
  unfold fn_M_putNumber fn_M_putNumber_23 fn_M_putNumber_39
  rw [p, Option.bind_some]
  have plain : ∃ f', fn_M_putNumber_45 pl_N f a (lN N) (nI (1 + V.length)) (nI M - 1) = some (nI (1 + (V ++ nb_a (lN N) M).length), f') ∧ mv_R f' a (V ++ nb_a (lN N) M) ∧ mz a (fun q => q = a + 11) (fun _ => False) f f' := mv_45 M pl_N f V (by omega) (by unfold pl_N; omega) (by omega) hM h
  have headed : ∃ f', ((pl_gR f a 8 15).bind fun v1 => (pl_sI f v1 (nI (1 + V.length)) (128 + nI M)).bind fun f2 => fn_M_putNumber_45 pl_N f2 a (lN N) (nI (1 + V.length) + 1) (nI M - 1)) = some (nI (1 + (V ++ (cd_hd 128 (nb_a (lN N) M).length ++ nb_a (lN N) M)).length), f') ∧ mv_R f' a (V ++ (cd_hd 128 (nb_a (lN N) M).length ++ nb_a (lN N) M)) ∧ mz a (fun q => q = a + 11) (fun _ => False) f f' := by
    have eh : cd_hd 128 (nb_a (lN N) M).length = [128 + nI M] := by
      unfold cd_hd
      rw [ha, if_pos (by omega)]
    have hl : (V ++ [128 + nI M]).length = V.length + 1 := by rw [List.length_append]; rfl
    obtain ⟨f', q, r, z⟩ := mv_45 (v := lN N) M pl_N (ux_I f (a + 11) (1 + V.length) (128 + nI M)) (V ++ [128 + nI M]) (by omega) (by unfold pl_N; omega) (by omega) (mo_uI hM _ _ _) (mv_put hM h _)
    rw [eh, ← List.append_assoc]
    refine ⟨f', ?_, r, (mz_I hM (by omega) _ _).tr z⟩
    rw [mo_value hM, Option.bind_some, mo_value_w hM (by omega), Option.bind_some, nI_1]
    rw [hl] at q
    exact q
  unfold cd_enc
  by_cases h1 : M = 1
  · subst h1
    have hb : N < 256 := hM'.1
    have e0 : (nb_a (lN N) 1).headD 0 = nI N := by
      show nb_y (lN N) 0 = nI N
      rw [nb_y_N (by omega) (by decide)]
      congr 1
      simp
      omega
    rw [if_pos (show nI 1 = 1 from rfl), e0]
    by_cases h2 : N ≤ 127
    · have c1 : lg_cmp (lN N) 127 ≤ 0 := by
        refine Int32.not_lt.mp (fun q => ?_)
        have := (lg_cmp_gt _ _).mp q
        exact absurd ((pk_lLT (a := 127) (by decide) (by omega)).mp this) (by omega)
      rw [if_pos c1, if_neg]
      · exact plain
      · rintro (q | q | q)
        · cases q
        · exact q ha
        · exact absurd ((bs_le (a := 128) (by decide) (by omega)).mp q) (by omega)
    · have c1 : ¬ lg_cmp (lN N) 127 ≤ 0 := by
        refine fun q => absurd ((lg_cmp_gt _ _).mpr ?_) (Int32.not_lt.mpr q)
        exact (pk_lLT (a := 127) (by decide) (by omega)).mpr (by omega)
      rw [if_neg c1, if_pos (Or.inr (Or.inr (show 128 ≤ nI N from (bs_le (a := 128) (by decide) (by omega)).mpr (by omega))))]
      exact headed
  · rw [if_neg (show ¬ nI M = 1 from fun q => h1 ((nI_eq (b := 1) (by omega) (by decide)).mp q)), if_pos (Or.inr (Or.inl (by rw [ha]; exact h1)))]
    exact headed
