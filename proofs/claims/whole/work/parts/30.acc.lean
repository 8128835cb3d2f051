/-! Accessors and updaters of a heap function; a cell's shape is kept by updaters. -/
def ax_vt (v : Value) : Nat := match v with
  | .int _ => 0
  | .long _ => 1
  | .null => 2
  | .ref _ => 2
  | _ => 3
def ax_sh (e : va_E) : Nat × Nat × List Nat := match e with
  | .inl (t, len, .inl _) => (2, t, [len])
  | .inl (t, len, .inr (.inl _)) => (3, t, [len])
  | .inl (t, len, .inr (.inr (.inr (.inr _)))) => (4, t, [len])
  | .inl _ => (5, 0, [])
  | .inr (c, fs) => (1, c, fs.map ax_vt)
def cx_v (e : va_E) (k : Nat) : Value := match e with
  | .inr (_, fs) => fs.getD k .null
  | .inl _ => .null
def cx_I (e : va_E) : Nat → Int32 := match e with
  | .inl (_, _, .inl g) => g
  | _ => fun _ => 0
def cx_L (e : va_E) : Nat → Int64 := match e with
  | .inl (_, _, .inr (.inl g)) => g
  | _ => fun _ => 0
def cx_Q (e : va_E) : Nat → Option Nat := match e with
  | .inl (_, _, .inr (.inr (.inr (.inr g)))) => g
  | _ => fun _ => none
def ax_v (f : pl_H) (a k : Nat) : Value := cx_v (f a) k
def ax_i (f : pl_H) (a k : Nat) : Int32 := match ax_v f a k with
  | .int x => x
  | _ => 0
def ax_l (f : pl_H) (a k : Nat) : Int64 := match ax_v f a k with
  | .long x => x
  | _ => 0
def ax_r (f : pl_H) (a k : Nat) : Option Nat := match ax_v f a k with
  | .ref x => some x
  | _ => none
def ax_I (f : pl_H) (a : Nat) : Nat → Int32 := cx_I (f a)
def ax_L (f : pl_H) (a : Nat) : Nat → Int64 := cx_L (f a)
def ax_Q (f : pl_H) (a : Nat) : Nat → Option Nat := cx_Q (f a)
def ux_c (e : va_E) (k : Nat) (v : Value) : va_E := match e with
  | .inr (c, fs) => .inr (c, fs.set k v)
  | e => e
def ux_ci (e : va_E) (k : Nat) (x : Int32) : va_E := match e with
  | .inl (t, len, .inl g) => .inl (t, len, .inl (upd g k x))
  | e => e
def ux_cl (e : va_E) (k : Nat) (x : Int64) : va_E := match e with
  | .inl (t, len, .inr (.inl g)) => .inl (t, len, .inr (.inl (vp_updL g k x)))
  | e => e
def ux_cq (e : va_E) (k : Nat) (x : Option Nat) : va_E := match e with
  | .inl (t, len, .inr (.inr (.inr (.inr g)))) => .inl (t, len, .inr (.inr (.inr (.inr (va_up g k x)))))
  | e => e
def ux_f (f : pl_H) (a k : Nat) (v : Value) : pl_H := va_up f a (ux_c (f a) k v)
def ux_I (f : pl_H) (a k : Nat) (x : Int32) : pl_H := va_up f a (ux_ci (f a) k x)
def ux_L (f : pl_H) (a k : Nat) (x : Int64) : pl_H := va_up f a (ux_cl (f a) k x)
def ux_Q (f : pl_H) (a k : Nat) (x : Option Nat) : pl_H := va_up f a (ux_cq (f a) k x)
theorem ax_obj {e : va_E} {ci : Nat} {tg : List Nat} (h : ax_sh e = (1, ci, tg)) : ∃ fs : List Value, e = .inr (ci, fs) ∧ fs.map ax_vt = tg := by
  unfold ax_sh at h
  split at h <;> simp at h
  rename_i c fs
  exact ⟨fs, by rw [h.1], h.2⟩
theorem ax_arI {e : va_E} {t len : Nat} (h : ax_sh e = (2, t, [len])) : ∃ g : Nat → Int32, e = .inl (t, len, .inl g) := by
  unfold ax_sh at h
  split at h <;> simp at h
  rename_i t' n' g
  exact ⟨g, by rw [h.1, h.2]⟩
theorem ax_arL {e : va_E} {t len : Nat} (h : ax_sh e = (3, t, [len])) : ∃ g : Nat → Int64, e = .inl (t, len, .inr (.inl g)) := by
  unfold ax_sh at h
  split at h <;> simp at h
  rename_i t' n' g
  exact ⟨g, by rw [h.1, h.2]⟩
theorem ax_arQ {e : va_E} {t len : Nat} (h : ax_sh e = (4, t, [len])) : ∃ g : Nat → Option Nat, e = .inl (t, len, .inr (.inr (.inr (.inr g)))) := by
  unfold ax_sh at h
  split at h <;> simp at h
  rename_i t' n' g
  exact ⟨g, by rw [h.1, h.2]⟩
theorem ax_tag {fs : List Value} {tg : List Nat} {k t : Nat} (h : fs.map ax_vt = tg) (hk : tg[k]? = some t) : ∃ v, fs[k]? = some v ∧ ax_vt v = t := by
  rw [← h, List.getElem?_map] at hk
  cases hv : fs[k]? with
  | none => rw [hv] at hk; cases hk
  | some v => rw [hv] at hk; exact ⟨v, rfl, Option.some.inj hk⟩
theorem ax_gI {f : pl_H} {a ci k : Nat} {tg : List Nat} (h : ax_sh (f a) = (1, ci, tg)) (hk : tg[k]? = some 0) : pl_gI f a ci k = some (ax_i f a k) := by
  obtain ⟨fs, h1, h2⟩ := ax_obj h
  obtain ⟨v, h3, h4⟩ := ax_tag h2 hk
  cases v <;> simp [ax_vt] at h4
  simp [pl_gI, pl_gV, ax_i, ax_v, cx_v, h1, h3, pl_vI]
theorem ax_gL {f : pl_H} {a ci k : Nat} {tg : List Nat} (h : ax_sh (f a) = (1, ci, tg)) (hk : tg[k]? = some 1) : pl_gL f a ci k = some (ax_l f a k) := by
  obtain ⟨fs, h1, h2⟩ := ax_obj h
  obtain ⟨v, h3, h4⟩ := ax_tag h2 hk
  cases v <;> simp [ax_vt] at h4
  simp [pl_gL, pl_gV, ax_l, ax_v, cx_v, h1, h3, pl_vL]
theorem ax_gR {f : pl_H} {a ci k : Nat} {tg : List Nat} (h : ax_sh (f a) = (1, ci, tg)) (hk : tg[k]? = some 2) : pl_gR f a ci k = ax_r f a k := by
  obtain ⟨fs, h1, h2⟩ := ax_obj h
  obtain ⟨v, h3, h4⟩ := ax_tag h2 hk
  cases v <;> simp [ax_vt] at h4
  · simp [pl_gR, pl_gV, ax_r, ax_v, cx_v, h1, h3, pl_vR]
  · simp [pl_gR, pl_gV, ax_r, ax_v, cx_v, h1, h3, pl_vR]
theorem ax_pV {f : pl_H} {a ci k : Nat} {tg : List Nat} {v : Value} (h : ax_sh (f a) = (1, ci, tg)) (hk : k < tg.length) : pl_pV f a ci k v = some (ux_f f a k v) := by
  obtain ⟨fs, h1, h2⟩ := ax_obj h
  have h3 : k < fs.length := by rw [← h2, List.length_map] at hk; exact hk
  simp [pl_pV, ux_f, ux_c, h1, h3]
theorem ax_is {f : pl_H} {a ci : Nat} {tg : List Nat} (h : ax_sh (f a) = (1, ci, tg)) : pl_is f a ci = some () := by
  obtain ⟨fs, h1, h2⟩ := ax_obj h
  simp [pl_is, h1]
theorem ax_aI {f : pl_H} {a len : Nat} (h : ax_sh (f a) = (2, 0, [len])) (i : Int32) : pl_aI f a i = if pl_ok i len = true then some (ax_I f a i.toNatClampNeg) else none := by
  obtain ⟨g, h1⟩ := ax_arI h
  simp [pl_aI, ax_I, cx_I, h1]
theorem ax_aZ {f : pl_H} {a len : Nat} (h : ax_sh (f a) = (2, 4, [len])) (i : Int32) : pl_aZ f a i = if pl_ok i len = true then some (ax_I f a i.toNatClampNeg) else none := by
  obtain ⟨g, h1⟩ := ax_arI h
  simp [pl_aZ, ax_I, cx_I, h1]
theorem ax_aL {f : pl_H} {a len : Nat} (h : ax_sh (f a) = (3, 1, [len])) (i : Int32) : pl_aL f a i = if pl_ok i len = true then some (ax_L f a i.toNatClampNeg) else none := by
  obtain ⟨g, h1⟩ := ax_arL h
  simp [pl_aL, ax_L, cx_L, h1]
theorem ax_aQ {f : pl_H} {t a len : Nat} (h : ax_sh (f a) = (4, t, [len])) (i : Int32) : pl_aQ f t a i = if pl_ok i len = true then some (ax_Q f a i.toNatClampNeg) else none := by
  obtain ⟨g, h1⟩ := ax_arQ h
  simp [pl_aQ, ax_Q, cx_Q, h1]
theorem ax_sI {f : pl_H} {a len : Nat} (h : ax_sh (f a) = (2, 0, [len])) (i x : Int32) : pl_sI f a i x = if pl_ok i len = true then some (ux_I f a i.toNatClampNeg x) else none := by
  obtain ⟨g, h1⟩ := ax_arI h
  simp [pl_sI, ux_I, ux_ci, h1]
theorem ax_sZ {f : pl_H} {a len : Nat} (h : ax_sh (f a) = (2, 4, [len])) (i x : Int32) : pl_sZ f a i x = if pl_ok i len = true ∧ pl_zb x = true then some (ux_I f a i.toNatClampNeg x) else none := by
  obtain ⟨g, h1⟩ := ax_arI h
  simp [pl_sZ, ux_I, ux_ci, h1]
theorem ax_sL {f : pl_H} {a len : Nat} (h : ax_sh (f a) = (3, 1, [len])) (i : Int32) (x : Int64) : pl_sL f a i x = if pl_ok i len = true then some (ux_L f a i.toNatClampNeg x) else none := by
  obtain ⟨g, h1⟩ := ax_arL h
  simp [pl_sL, ux_L, ux_cl, h1]
theorem ax_ln {f : pl_H} {a w t len : Nat} (h : ax_sh (f a) = (w, t, [len])) (hw : w = 2 ∨ w = 3 ∨ w = 4) (ht : t < 5) : pl_ln f a = some (Int32.ofNat len) := by
  rcases hw with rfl | rfl | rfl
  · obtain ⟨g, h1⟩ := ax_arI h
    simp [pl_ln, h1, ht]
  · obtain ⟨g, h1⟩ := ax_arL h
    simp [pl_ln, h1, ht]
  · obtain ⟨g, h1⟩ := ax_arQ h
    simp [pl_ln, h1, ht]
-- shapes stay
theorem sx_up {f : pl_H} {a b : Nat} {e : va_E} (h : ax_sh e = ax_sh (f a)) : ax_sh (va_up f a e b) = ax_sh (f b) := by
  by_cases hb : b = a
  · subst hb; rw [va_up_self, h]
  · rw [va_up_ne _ _ hb]
theorem sx_ci (e : va_E) (k : Nat) (x : Int32) : ax_sh (ux_ci e k x) = ax_sh e := by
  unfold ux_ci
  split <;> rfl
theorem sx_cl (e : va_E) (k : Nat) (x : Int64) : ax_sh (ux_cl e k x) = ax_sh e := by
  unfold ux_cl
  split <;> rfl
theorem sx_cq (e : va_E) (k : Nat) (x : Option Nat) : ax_sh (ux_cq e k x) = ax_sh e := by
  unfold ux_cq
  split <;> rfl
theorem sx_I (f : pl_H) (a k : Nat) (x : Int32) (b : Nat) : ax_sh (ux_I f a k x b) = ax_sh (f b) := sx_up (sx_ci _ _ _)
theorem sx_L (f : pl_H) (a k : Nat) (x : Int64) (b : Nat) : ax_sh (ux_L f a k x b) = ax_sh (f b) := sx_up (sx_cl _ _ _)
theorem sx_Q (f : pl_H) (a k : Nat) (x : Option Nat) (b : Nat) : ax_sh (ux_Q f a k x b) = ax_sh (f b) := sx_up (sx_cq _ _ _)
theorem sx_f {f : pl_H} {a k ci : Nat} {v : Value} {tg : List Nat} (h : ax_sh (f a) = (1, ci, tg)) (hk : tg[k]? = some (ax_vt v)) (b : Nat) : ax_sh (ux_f f a k v b) = ax_sh (f b) := by
  refine sx_up ?_
  obtain ⟨fs, h1, h2⟩ := ax_obj h
  rw [h1]
  show (1, ci, (fs.set k v).map ax_vt) = (1, ci, fs.map ax_vt)
  rw [List.map_set, h2]
  congr 2
  apply List.ext_getElem?
  intro i
  by_cases hi : k = i
  · subst hi
    rw [List.getElem?_set_self (by have := (List.getElem?_eq_some_iff.mp hk).1; exact this), hk]
  · rw [List.getElem?_set_ne hi]
-- reads behind writes
theorem dx_v_I (e : va_E) (k : Nat) (x : Int32) (j : Nat) : cx_v (ux_ci e k x) j = cx_v e j := by
  rcases e with ⟨t, len, g | g | g | g | g⟩ | ⟨c, fs⟩ <;> rfl
theorem rx_v_I (f : pl_H) (a k : Nat) (x : Int32) (b : Nat) (j : Nat) : ax_v (ux_I f a k x) b j = ax_v f b j := by
  unfold ax_v ux_I
  by_cases hb : b = a
  · subst hb
    rw [va_up_self]
    exact dx_v_I _ _ _ _
  · rw [va_up_ne _ _ hb]
theorem dx_v_L (e : va_E) (k : Nat) (x : Int64) (j : Nat) : cx_v (ux_cl e k x) j = cx_v e j := by
  rcases e with ⟨t, len, g | g | g | g | g⟩ | ⟨c, fs⟩ <;> rfl
theorem rx_v_L (f : pl_H) (a k : Nat) (x : Int64) (b : Nat) (j : Nat) : ax_v (ux_L f a k x) b j = ax_v f b j := by
  unfold ax_v ux_L
  by_cases hb : b = a
  · subst hb
    rw [va_up_self]
    exact dx_v_L _ _ _ _
  · rw [va_up_ne _ _ hb]
theorem dx_v_Q (e : va_E) (k : Nat) (x : Option Nat) (j : Nat) : cx_v (ux_cq e k x) j = cx_v e j := by
  rcases e with ⟨t, len, g | g | g | g | g⟩ | ⟨c, fs⟩ <;> rfl
theorem rx_v_Q (f : pl_H) (a k : Nat) (x : Option Nat) (b : Nat) (j : Nat) : ax_v (ux_Q f a k x) b j = ax_v f b j := by
  unfold ax_v ux_Q
  by_cases hb : b = a
  · subst hb
    rw [va_up_self]
    exact dx_v_Q _ _ _ _
  · rw [va_up_ne _ _ hb]
theorem dx_I_L (e : va_E) (k : Nat) (x : Int64) : cx_I (ux_cl e k x) = cx_I e := by
  rcases e with ⟨t, len, g | g | g | g | g⟩ | ⟨c, fs⟩ <;> rfl
theorem rx_I_L (f : pl_H) (a k : Nat) (x : Int64) (b : Nat) : ax_I (ux_L f a k x) b = ax_I f b := by
  unfold ax_I ux_L
  by_cases hb : b = a
  · subst hb
    rw [va_up_self]
    exact dx_I_L _ _ _
  · rw [va_up_ne _ _ hb]
theorem dx_I_Q (e : va_E) (k : Nat) (x : Option Nat) : cx_I (ux_cq e k x) = cx_I e := by
  rcases e with ⟨t, len, g | g | g | g | g⟩ | ⟨c, fs⟩ <;> rfl
theorem rx_I_Q (f : pl_H) (a k : Nat) (x : Option Nat) (b : Nat) : ax_I (ux_Q f a k x) b = ax_I f b := by
  unfold ax_I ux_Q
  by_cases hb : b = a
  · subst hb
    rw [va_up_self]
    exact dx_I_Q _ _ _
  · rw [va_up_ne _ _ hb]
theorem dx_I_f (e : va_E) (k : Nat) (v : Value) : cx_I (ux_c e k v) = cx_I e := by
  rcases e with ⟨t, len, g | g | g | g | g⟩ | ⟨c, fs⟩ <;> rfl
theorem rx_I_f (f : pl_H) (a k : Nat) (v : Value) (b : Nat) : ax_I (ux_f f a k v) b = ax_I f b := by
  unfold ax_I ux_f
  by_cases hb : b = a
  · subst hb
    rw [va_up_self]
    exact dx_I_f _ _ _
  · rw [va_up_ne _ _ hb]
theorem dx_L_I (e : va_E) (k : Nat) (x : Int32) : cx_L (ux_ci e k x) = cx_L e := by
  rcases e with ⟨t, len, g | g | g | g | g⟩ | ⟨c, fs⟩ <;> rfl
theorem rx_L_I (f : pl_H) (a k : Nat) (x : Int32) (b : Nat) : ax_L (ux_I f a k x) b = ax_L f b := by
  unfold ax_L ux_I
  by_cases hb : b = a
  · subst hb
    rw [va_up_self]
    exact dx_L_I _ _ _
  · rw [va_up_ne _ _ hb]
theorem dx_L_Q (e : va_E) (k : Nat) (x : Option Nat) : cx_L (ux_cq e k x) = cx_L e := by
  rcases e with ⟨t, len, g | g | g | g | g⟩ | ⟨c, fs⟩ <;> rfl
theorem rx_L_Q (f : pl_H) (a k : Nat) (x : Option Nat) (b : Nat) : ax_L (ux_Q f a k x) b = ax_L f b := by
  unfold ax_L ux_Q
  by_cases hb : b = a
  · subst hb
    rw [va_up_self]
    exact dx_L_Q _ _ _
  · rw [va_up_ne _ _ hb]
theorem dx_L_f (e : va_E) (k : Nat) (v : Value) : cx_L (ux_c e k v) = cx_L e := by
  rcases e with ⟨t, len, g | g | g | g | g⟩ | ⟨c, fs⟩ <;> rfl
theorem rx_L_f (f : pl_H) (a k : Nat) (v : Value) (b : Nat) : ax_L (ux_f f a k v) b = ax_L f b := by
  unfold ax_L ux_f
  by_cases hb : b = a
  · subst hb
    rw [va_up_self]
    exact dx_L_f _ _ _
  · rw [va_up_ne _ _ hb]
theorem dx_Q_I (e : va_E) (k : Nat) (x : Int32) : cx_Q (ux_ci e k x) = cx_Q e := by
  rcases e with ⟨t, len, g | g | g | g | g⟩ | ⟨c, fs⟩ <;> rfl
theorem rx_Q_I (f : pl_H) (a k : Nat) (x : Int32) (b : Nat) : ax_Q (ux_I f a k x) b = ax_Q f b := by
  unfold ax_Q ux_I
  by_cases hb : b = a
  · subst hb
    rw [va_up_self]
    exact dx_Q_I _ _ _
  · rw [va_up_ne _ _ hb]
theorem dx_Q_L (e : va_E) (k : Nat) (x : Int64) : cx_Q (ux_cl e k x) = cx_Q e := by
  rcases e with ⟨t, len, g | g | g | g | g⟩ | ⟨c, fs⟩ <;> rfl
theorem rx_Q_L (f : pl_H) (a k : Nat) (x : Int64) (b : Nat) : ax_Q (ux_L f a k x) b = ax_Q f b := by
  unfold ax_Q ux_L
  by_cases hb : b = a
  · subst hb
    rw [va_up_self]
    exact dx_Q_L _ _ _
  · rw [va_up_ne _ _ hb]
theorem dx_Q_f (e : va_E) (k : Nat) (v : Value) : cx_Q (ux_c e k v) = cx_Q e := by
  rcases e with ⟨t, len, g | g | g | g | g⟩ | ⟨c, fs⟩ <;> rfl
theorem rx_Q_f (f : pl_H) (a k : Nat) (v : Value) (b : Nat) : ax_Q (ux_f f a k v) b = ax_Q f b := by
  unfold ax_Q ux_f
  by_cases hb : b = a
  · subst hb
    rw [va_up_self]
    exact dx_Q_f _ _ _
  · rw [va_up_ne _ _ hb]
theorem dx_v_f (e : va_E) (k : Nat) (v : Value) (j : Nat) (h : j ≠ k) : cx_v (ux_c e k v) j = cx_v e j := by
  rcases e with ⟨t, len, g | g | g | g | g⟩ | ⟨c, fs⟩
  · rfl
  · rfl
  · rfl
  · rfl
  · rfl
  · show (fs.set k v).getD j .null = fs.getD j .null
    rw [List.getD_eq_getElem?_getD, List.getD_eq_getElem?_getD, List.getElem?_set_ne (Ne.symm h)]
theorem rx_v_fne {f : pl_H} {a k : Nat} {v : Value} {b j : Nat} (h : b ≠ a ∨ j ≠ k) : ax_v (ux_f f a k v) b j = ax_v f b j := by
  unfold ax_v ux_f
  by_cases hb : b = a
  · subst hb
    rw [va_up_self]
    exact dx_v_f _ _ _ _ (h.resolve_left (fun q => q rfl))
  · rw [va_up_ne _ _ hb]
theorem rx_v_f {f : pl_H} {a k ci : Nat} {v : Value} {tg : List Nat} (h : ax_sh (f a) = (1, ci, tg)) (hk : k < tg.length) : ax_v (ux_f f a k v) a k = v := by
  obtain ⟨fs, h1, h2⟩ := ax_obj h
  have h3 : k < fs.length := by rw [← h2, List.length_map] at hk; exact hk
  unfold ax_v ux_f
  rw [va_up_self, h1]
  simp [ux_c, cx_v, h3]
theorem rx_I_ne {f : pl_H} {a k : Nat} {x : Int32} {b : Nat} (h : b ≠ a) : ax_I (ux_I f a k x) b = ax_I f b := by
  unfold ax_I ux_I
  rw [va_up_ne _ _ h]
theorem rx_I {f : pl_H} {a k t len : Nat} {x : Int32} (h : ax_sh (f a) = (2, t, [len])) : ax_I (ux_I f a k x) a = upd (ax_I f a) k x := by
  obtain ⟨g, h1⟩ := ax_arI h
  unfold ax_I ux_I
  rw [va_up_self, h1]
  rfl
theorem rx_L_ne {f : pl_H} {a k : Nat} {x : Int64} {b : Nat} (h : b ≠ a) : ax_L (ux_L f a k x) b = ax_L f b := by
  unfold ax_L ux_L
  rw [va_up_ne _ _ h]
theorem rx_L {f : pl_H} {a k t len : Nat} {x : Int64} (h : ax_sh (f a) = (3, t, [len])) : ax_L (ux_L f a k x) a = vp_updL (ax_L f a) k x := by
  obtain ⟨g, h1⟩ := ax_arL h
  unfold ax_L ux_L
  rw [va_up_self, h1]
  rfl
theorem rx_Q_ne {f : pl_H} {a k : Nat} {x : Option Nat} {b : Nat} (h : b ≠ a) : ax_Q (ux_Q f a k x) b = ax_Q f b := by
  unfold ax_Q ux_Q
  rw [va_up_ne _ _ h]
theorem rx_Q {f : pl_H} {a k t len : Nat} {x : Option Nat} (h : ax_sh (f a) = (4, t, [len])) : ax_Q (ux_Q f a k x) a = va_up (ax_Q f a) k x := by
  obtain ⟨g, h1⟩ := ax_arQ h
  unfold ax_Q ux_Q
  rw [va_up_self, h1]
  rfl
