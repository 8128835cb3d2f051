/-! Digits and numbers of the class's codes. -/
def dg (x d : Nat) : Nat := x / 2 ^ (4 * (3 - d)) % 16
theorem dg_lt (x d : Nat) : dg x d < 16 := Nat.mod_lt _ (by decide)
theorem dg_at (f : pl_H) {x d : Nat} (hx : x < 65536) (hd : d < 4) : fn_L_digit f (nI x) (nI d) = some (nI (dg x d)) := by
  unfold fn_L_digit dg
  have hs : ((((4 * (3 - nI d)) &&& 31 : Int32)).toBitVec.smod 32).toNat = 4 * (3 - d) := by
    have : d = 0 ∨ d = 1 ∨ d = 2 ∨ d = 3 := by omega
    rcases this with rfl | rfl | rfl | rfl <;> decide
  rw [pk_shrN (by omega) _ _ hs, pk_andN (by
    have := Nat.div_le_self x (2 ^ (4 * (3 - d)))
    omega) 4 (by decide)]
def dg_r (x : Nat) : Nat → Nat → List Int32
  | 0, _ => []
  | k + 1, d => nI (16 * dg x d + dg x (d + 1)) :: dg_r x k (d + 2)
theorem dg_r_l (x : Nat) : ∀ k d, (dg_r x k d).length = k
  | 0, _ => rfl
  | k + 1, d => by
    show (dg_r x k (d + 2)).length + 1 = k + 1
    rw [dg_r_l x k (d + 2)]
def dg_p (x d e fl : Nat) : List Int32 := if (e - d) % 2 = 0 then nI (16 * fl) :: dg_r x ((e - d) / 2) d else nI (16 * (fl + 1) + dg x d) :: dg_r x ((e - d) / 2) (d + 1)
theorem dg_p_l (x d e fl : Nat) : (dg_p x d e fl).length = (e - d) / 2 + 1 := by
  unfold dg_p
  split
  · rw [List.length_cons, dg_r_l]
  · rw [List.length_cons, dg_r_l]
theorem cd_d65e (k : Nat) (f : pl_H) (a : Nat) (x1 x3 x5 x8 : Int32) : fn_C_putDigits_65 (k + 1) f a x1 x3 x5 x8 = if x3 ≤ (x8 + 1) then (pl_is f a 1).bind fun u2 => (fn_C_shut f a x5 128).bind fun q1 => some q1 else (fn_L_digit f x1 x8).bind fun v3 => (fn_L_digit f x1 (x8 + 1)).bind fun v4 => (pl_is f a 1).bind fun u6 => (fn_C_put f a ((16 * v3) + v4)).bind fun q5 => fn_C_putDigits_65 k q5 a x1 x3 x5 (x8 + 2) := rfl
theorem cd_d65 {a x e : Nat} {U H : List Int32} (hx : x < 65536) (he : e ≤ 4) (hH : H.length = 3) (hU : U.length + 10 ≤ 2176) : ∀ (j k d : Nat) (f : pl_H) (P : List Int32), d + 2 * j = e → j < k → P.length + j ≤ 5 → cd_R f a (U ++ H ++ P) → ∃ f', fn_C_putDigits_65 k f a (nI x) (nI e) (nI U.length) (nI d) = some f' ∧ cd_R f' a (U ++ cd_enc 128 (P ++ dg_r x j d)) ∧ bs_kp (cd_S a) f f' := by
  intro j
  induction j with
  | zero =>
    intro k d f P hd hk hP h
    obtain ⟨k, rfl⟩ : ∃ k', k = k' + 1 := ⟨k - 1, by omega⟩
    obtain ⟨f', g1, g2, g3⟩ := cd_shut h hH 128
    refine ⟨f', ?_, by show cd_R f' a (U ++ cd_enc 128 (P ++ [])); rw [List.append_nil]; exact g2, g3⟩
    rw [cd_d65e, show nI d + 1 = nI (d + 1) from nI_add d 1, if_pos ((bs_le (by omega) (by omega)).mpr (by omega)), cd_is h, Option.bind_some, g1]
    rfl
  | succ j ih =>
    intro k d f P hd hk hP h
    obtain ⟨k, rfl⟩ : ∃ k', k = k' + 1 := ⟨k - 1, by omega⟩
    have hlen : (U ++ H ++ P).length = U.length + 3 + P.length := by rw [List.length_append, List.length_append, hH]
    obtain ⟨f1, p1, r1, k1, -⟩ := cd_put h (by omega) (nI (16 * dg x d + dg x (d + 1)))
    obtain ⟨f', g1, g2, g3⟩ := ih k (d + 2) f1 (P ++ [nI (16 * dg x d + dg x (d + 1))]) (by omega) (by omega) (by rw [List.length_append]; show P.length + 1 + j ≤ 5; omega) (by rw [← List.append_assoc]; exact r1)
    refine ⟨f', ?_, ?_, k1.tr g3⟩
    · rw [cd_d65e, show nI d + 1 = nI (d + 1) from nI_add d 1, if_neg (fun z => absurd ((bs_le (by omega) (by omega)).mp z) (by omega)), dg_at f hx (show d < 4 by omega), Option.bind_some, dg_at f hx (show d + 1 < 4 by omega), Option.bind_some, cd_is h, Option.bind_some]
      rw [show (16 : Int32) * nI (dg x d) + nI (dg x (d + 1)) = nI (16 * dg x d + dg x (d + 1)) by rw [← nI_add, ← pk_mul]; rfl, p1, Option.bind_some, show nI d + 2 = nI (d + 2) from nI_add d 2]
      exact g1
    · have e1 : P ++ dg_r x (j + 1) d = P ++ [nI (16 * dg x d + dg x (d + 1))] ++ dg_r x j (d + 2) := by
        rw [List.append_assoc]
        rfl
      rw [e1]
      exact g2
theorem cd_dig {f : pl_H} {a x d e : Nat} {W : List Int32} (h : cd_R f a W) (hx : x < 65536) (hde : d ≤ e) (he : e ≤ 4) (hW : W.length + 10 ≤ 2176) (mk : Int32) {fl : Nat} (hfl : fl = if mk = 0 then 0 else 2) : ∃ f', fn_C_putDigits f a (nI x) (nI d) (nI e) mk = some f' ∧ cd_R f' a (W ++ cd_enc 128 (dg_p x d e fl)) ∧ bs_kp (cd_S a) f f' := by
  obtain ⟨f1, p1, r1, k1⟩ := cd_open h (by omega)
  have hlen : (W ++ [0, 0, 0] : List Int32).length = W.length + 3 := by rw [List.length_append]; rfl
  have key : ∃ f', fn_C_putDigits_16 f1 a (nI x) (nI d) (nI e) (nI W.length) (nI fl) = some f' ∧ cd_R f' a (W ++ cd_enc 128 (dg_p x d e fl)) ∧ bs_kp (cd_S a) f f' := by
    unfold fn_C_putDigits_16 fn_C_putDigits_61 dg_p
    rw [pk_sub hde, show (nI (e - d) - nI (e - d) / 2 * 2) = nI ((e - d) % 2) from pk_rem (d := 2) (by omega) (by decide) (by decide)]
    by_cases hp : (e - d) % 2 = 0
    · rw [if_pos (show nI ((e - d) % 2) = 0 by rw [hp]; rfl), if_pos hp]
      rw [show (16 : Int32) * nI fl = nI (16 * fl) from pk_mul 16 fl]
      obtain ⟨f2, p2, r2, k2, -⟩ := cd_put r1 (by omega) (nI (16 * fl))
      obtain ⟨f', g1, g2, g3⟩ := cd_d65 (U := W) (H := [0, 0, 0]) hx he rfl hW ((e - d) / 2) pl_N d f2 [nI (16 * fl)] (by omega) (by unfold pl_N; omega) (by show 1 + (e - d) / 2 ≤ 5; omega) r2
      refine ⟨f', ?_, g2, (k1.tr k2).tr g3⟩
      rw [cd_is r1, Option.bind_some, p2, Option.bind_some]
      exact g1
    · have hp1 : (e - d) % 2 = 1 := by omega
      rw [if_neg (show ¬ nI ((e - d) % 2) = 0 by rw [hp1]; decide), if_neg hp]
      rw [dg_at f1 hx (show d < 4 by omega), Option.bind_some]
      rw [show (16 : Int32) * (nI fl + 1) + nI (dg x d) = nI (16 * (fl + 1) + dg x d) by rw [← nI_add, ← pk_mul, ← nI_add fl 1]; rfl]
      obtain ⟨f2, p2, r2, k2, -⟩ := cd_put r1 (by omega) (nI (16 * (fl + 1) + dg x d))
      obtain ⟨f', g1, g2, g3⟩ := cd_d65 (U := W) (H := [0, 0, 0]) hx he rfl hW ((e - d) / 2) pl_N (d + 1) f2 [nI (16 * (fl + 1) + dg x d)] (by omega) (by unfold pl_N; omega) (by show 1 + (e - d) / 2 ≤ 5; omega) r2
      refine ⟨f', ?_, g2, (k1.tr k2).tr g3⟩
      rw [cd_is r1, Option.bind_some, p2, Option.bind_some, show nI d + 1 = nI (d + 1) from nI_add d 1]
      exact g1
  unfold fn_C_putDigits
  rw [cd_is h, Option.bind_some, p1, Option.bind_some]
  by_cases hm : mk = 0
  · rw [if_pos hm] at hfl ⊢
    subst hfl
    exact key
  · rw [if_neg hm] at hfl ⊢
    subst hfl
    exact key
/-- byte i of a number -/
def nb_y (v : Int64) (i : Nat) : Int32 := (((v.toUInt64 >>> ((nI (8 * i)).toInt64.toUInt64 &&& Int64.toUInt64 63)).toInt64 : Int64).toInt32) &&& 255
def nb_l (v : Int64) : Nat → Bool → List Int32
  | 0, _ => []
  | i + 1, g => if g = true ∨ nb_y v i ≠ 0 then nb_y v i :: nb_l v i true else nb_l v i false
theorem nb_l_l (v : Int64) : ∀ i g, (nb_l v i g).length ≤ i
  | 0, _ => Nat.le_refl _
  | i + 1, g => by
    have h1 := nb_l_l v i true
    have h2 := nb_l_l v i false
    unfold nb_l
    split
    · rw [List.length_cons]
      omega
    · omega
def nb (v : Int64) : List Int32 := cd_enc 128 (nb_l v 8 false)
theorem cd_n12e (k : Nat) (f : pl_H) (a : Nat) (v : Int64) (x3 x4 x5 : Int32) : fn_C_putNumber_12 (k + 1) f a v x3 x4 x5 = if x5 < 0 then (pl_is f a 1).bind fun u2 => (fn_C_shut f a x3 128).bind fun q1 => some q1 else if x4 = 0 then if (((((v.toUInt64 >>> ((x5 : Int32).toInt64.toUInt64 &&& Int64.toUInt64 63)).toInt64) : Int64).toInt32) &&& 255) = 0 then fn_C_putNumber_43 (fn_C_putNumber_12 k) f a v x3 x5 (((((v.toUInt64 >>> ((x5 : Int32).toInt64.toUInt64 &&& Int64.toUInt64 63)).toInt64) : Int64).toInt32) &&& 255) 0 else fn_C_putNumber_38 (fn_C_putNumber_12 k) f a v x3 x5 (((((v.toUInt64 >>> ((x5 : Int32).toInt64.toUInt64 &&& Int64.toUInt64 63)).toInt64) : Int64).toInt32) &&& 255) else fn_C_putNumber_38 (fn_C_putNumber_12 k) f a v x3 x5 (((((v.toUInt64 >>> ((x5 : Int32).toInt64.toUInt64 &&& Int64.toUInt64 63)).toInt64) : Int64).toInt32) &&& 255) := rfl
theorem cd_8 : ∀ i, i < 8 → nI (8 * (i + 1)) + (-8) = nI (8 * i) := by decide
theorem cd_n12 {a : Nat} {v : Int64} {U H : List Int32} (hH : H.length = 3) (hU : U.length + 11 ≤ 2176) : ∀ (i k : Nat) (f : pl_H) (P : List Int32) (g : Bool), i < k → P.length + i ≤ 8 → cd_R f a (U ++ H ++ P) → ∃ f', fn_C_putNumber_12 k f a v (nI U.length) (if g = true then 1 else 0) (nI (8 * i) + (-8)) = some f' ∧ cd_R f' a (U ++ cd_enc 128 (P ++ nb_l v i g)) ∧ bs_kp (cd_S a) f f' := by
  intro i
  induction i with
  | zero =>
    intro k f P g hk hP h
    obtain ⟨k, rfl⟩ : ∃ k', k = k' + 1 := ⟨k - 1, by omega⟩
    obtain ⟨f', g1, g2, g3⟩ := cd_shut h hH 128
    refine ⟨f', ?_, by show cd_R f' a (U ++ cd_enc 128 (P ++ [])); rw [List.append_nil]; exact g2, g3⟩
    rw [cd_n12e, if_pos (by decide), cd_is h, Option.bind_some, g1]
    rfl
  | succ i ih =>
    intro k f P g hk hP h
    obtain ⟨k, rfl⟩ : ∃ k', k = k' + 1 := ⟨k - 1, by omega⟩
    have hlen : (U ++ H ++ P).length = U.length + 3 + P.length := by rw [List.length_append, List.length_append, hH]
    rw [cd_n12e, cd_8 i (by omega), if_neg (nI_pos (by omega)), show (v.toUInt64 >>> ((nI (8 * i)).toInt64.toUInt64 &&& Int64.toUInt64 63)).toInt64.toInt32 &&& 255 = nb_y v i from rfl]
    have yes : ∃ f', fn_C_putNumber_38 (fn_C_putNumber_12 k) f a v (nI U.length) (nI (8 * i)) (nb_y v i) = some f' ∧ cd_R f' a (U ++ cd_enc 128 (P ++ (nb_y v i :: nb_l v i true))) ∧ bs_kp (cd_S a) f f' := by
      obtain ⟨f1, p1, r1, k1, -⟩ := cd_put h (by omega) (nb_y v i)
      obtain ⟨f', g1, g2, g3⟩ := ih k f1 (P ++ [nb_y v i]) true (by omega) (by rw [List.length_append]; show P.length + 1 + i ≤ 8; omega) (by rw [← List.append_assoc]; exact r1)
      refine ⟨f', ?_, by rw [List.append_assoc] at g2; exact g2, k1.tr g3⟩
      unfold fn_C_putNumber_38 fn_C_putNumber_43 fn_C_putNumber_56
      rw [if_neg (by decide), cd_is h, Option.bind_some, p1, Option.bind_some]
      exact g1
    by_cases hg : g = true
    · subst hg
      rw [if_neg (by decide)]
      have e1 : nb_l v (i + 1) true = nb_y v i :: nb_l v i true := by
        show (if _ then _ else _) = _
        rw [if_pos (Or.inl rfl)]
      rw [e1]
      exact yes
    · have hg' : g = false := by cases g; rfl; exact absurd rfl hg
      subst hg'
      rw [if_pos (by decide)]
      by_cases hb : nb_y v i = 0
      · have e1 : nb_l v (i + 1) false = nb_l v i false := by
          show (if _ then _ else _) = _
          rw [if_neg]
          rintro (z | z)
          · cases z
          · exact z hb
        rw [e1, if_pos hb]
        unfold fn_C_putNumber_43 fn_C_putNumber_56
        rw [if_pos rfl]
        exact ih k f P false (by omega) (by omega) h
      · have e1 : nb_l v (i + 1) false = nb_y v i :: nb_l v i true := by
          show (if _ then _ else _) = _
          rw [if_pos (Or.inr hb)]
        rw [e1, if_neg hb]
        exact yes
theorem cd_num {f : pl_H} {a : Nat} {W : List Int32} (h : cd_R f a W) (hW : W.length + 11 ≤ 2176) (v : Int64) : ∃ f', fn_C_putNumber f a v = some f' ∧ cd_R f' a (W ++ nb v) ∧ bs_kp (cd_S a) f f' := by
  obtain ⟨f1, p1, r1, k1⟩ := cd_open h (by omega)
  obtain ⟨f', g1, g2, g3⟩ := cd_n12 (v := v) (U := W) (H := [0, 0, 0]) rfl hW 8 pl_N f1 [] false (by decide) (by decide) (by rw [List.append_nil]; exact r1)
  refine ⟨f', ?_, g2, k1.tr g3⟩
  unfold fn_C_putNumber
  rw [cd_is h, Option.bind_some, p1, Option.bind_some]
  exact g1
