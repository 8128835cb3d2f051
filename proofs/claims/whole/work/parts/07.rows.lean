/-! Rows: an instruction's step over the world that a function gives. C: what holds through a method's body. -/
def pl_N : Nat := 100000
def pl_C (p : Program) (s : State) (m : MethodId) (args : Array Value) (meth : Method) (c : Code) (cc : ByteArray) (nL : Nat) (own : String) (ret : Option FieldType) (nm : String) (D : va_G) (dA : Nat → ClassId) (tt : Nat → Nat) (b : Nat) : Prop :=
  p.tables.exec = Jvm.exec ∧ c.code = cc ∧ c.maxLocals = nL ∧ meth.sig.returnType = ret ∧ s.vm.findClass own = some m.cls ∧ meth.locks = false ∧ (∀ w ∈ pl_tb, w.before args s = true) ∧ meth.name = nm ∧ pl_K D dA tt b s
def pl_pre (D : va_G) (dA : Nat → ClassId) (tt : Nat → Nat) (b n : Nat) (f : pl_H) (U : State) : Prop := pl_wd D vwCl dA b n f U.heap ∧ pl_K D dA tt b U
def pl_qI (D : va_G) (dA : Nat → ClassId) (tt : Nat → Nat) (b n : Nat) (f : pl_H) (r : Int32) : Array Value → State → Outcome → State → Prop := va_Qi (fun (r' : Int32) (_ : Unit) => r' = r) (fun _ t => pl_pre D dA tt b n f t) (pl_A b)
def pl_qL (D : va_G) (dA : Nat → ClassId) (tt : Nat → Nat) (b n : Nat) (f : pl_H) (r : Int64) : Array Value → State → Outcome → State → Prop := va_Ql (fun (r' : Int64) (_ : Unit) => r' = r) (fun _ t => pl_pre D dA tt b n f t) (pl_A b)
def pl_qV (D : va_G) (dA : Nat → ClassId) (tt : Nat → Nat) (b n : Nat) (f : pl_H) : Array Value → State → Outcome → State → Prop := va_Qv (fun (_ : Unit) => True) (fun _ t => pl_pre D dA tt b n f t) (pl_A b)
def pl_qQ (D : va_G) (dA : Nat → ClassId) (tt : Nat → Nat) (b n : Nat) (f : pl_H) (r : Option Nat) : Array Value → State → Outcome → State → Prop := va_Qq (fun (r' : Option Nat) (_ : Unit) => r' = r) (fun _ t => pl_pre D dA tt b n f t) (pl_A b)
theorem pl_cat (r : Option Nat) : (va_rf r).category = 1 := by cases r <;> rfl
section PLR
variable {p : Program} {l : Launch} {e : Env} {R : Room} {s : State} {m : MethodId} {args : Array Value} {below : List Frame} {meth : Method} {c : Code} {H : Heap} {locs : List Loc} {cells slots : Nat} {Q : State → Prop}
variable {cc : ByteArray} {nL : Nat} {own nm : String} {ret : Option FieldType} {pc : Nat} {ls : Array Slot} {rest : List Value} {D : va_G} {dA : Nat → ClassId} {tt : Nat → Nat} {b n a : Nat} {f f' : pl_H}
theorem pl_getV (C : pl_C p s m args meth c cc nL own ret nm D dA tt b) (w : pl_wd D vwCl dA b n f H) {Cn : String} {T : u_T} {N ci index : Nat} (hin : ∀ w ∈ u_ws Cn T N, w ∈ pl_tb) (hc : vwCl[ci]? = some (Cn, T, N)) (hci : ci ≠ 1000) (k : Nat) (hk : k < N) (hm : Cond.fieldLink own index (T k).1 (T k).2.1 (T k).2.2.1 ∈ pl_tb) {v : Value} (hv : pl_gV f a ci k = some v) (hdg : decode cc pc = .ok (.getfield index, 3))
    (kk : W p l e R s m args below meth c H locs cells slots Q (F0 m (pc + 3) ls (v :: rest))) : W p l e R s m args below meth c H locs cells slots Q (F0 m pc ls (.ref a :: rest)) := by
  obtain ⟨hx, hb, hml, hr, hown, hlk, hts, hnm, hK⟩ := C
  obtain ⟨fs, h1, h2⟩ := pl_gV_e hv
  exact va_get hx hb hts hin hown hK.1 (pl_P1 (pl_obj w hci h1).2) 0 rfl hc k hk (hts _ hm) (fun _ h => h) h2 hdg kk
theorem pl_getI (C : pl_C p s m args meth c cc nL own ret nm D dA tt b) (w : pl_wd D vwCl dA b n f H) {Cn : String} {T : u_T} {N ci index : Nat} (hin : ∀ w ∈ u_ws Cn T N, w ∈ pl_tb) (hc : vwCl[ci]? = some (Cn, T, N)) (hci : ci ≠ 1000) (k : Nat) (hk : k < N) (hm : Cond.fieldLink own index (T k).1 (T k).2.1 (T k).2.2.1 ∈ pl_tb) {x : Int32} (hv : pl_gI f a ci k = some x) (hdg : decode cc pc = .ok (.getfield index, 3))
    (kk : W p l e R s m args below meth c H locs cells slots Q (F0 m (pc + 3) ls (.int x :: rest))) : W p l e R s m args below meth c H locs cells slots Q (F0 m pc ls (.ref a :: rest)) := by
  obtain ⟨v, h1, h2⟩ := pl_bd hv
  have h3 := pl_vI_e h2
  subst h3
  exact pl_getV C w hin hc hci k hk hm h1 hdg kk
theorem pl_getL (C : pl_C p s m args meth c cc nL own ret nm D dA tt b) (w : pl_wd D vwCl dA b n f H) {Cn : String} {T : u_T} {N ci index : Nat} (hin : ∀ w ∈ u_ws Cn T N, w ∈ pl_tb) (hc : vwCl[ci]? = some (Cn, T, N)) (hci : ci ≠ 1000) (k : Nat) (hk : k < N) (hm : Cond.fieldLink own index (T k).1 (T k).2.1 (T k).2.2.1 ∈ pl_tb) {x : Int64} (hv : pl_gL f a ci k = some x) (hdg : decode cc pc = .ok (.getfield index, 3))
    (kk : W p l e R s m args below meth c H locs cells slots Q (F0 m (pc + 3) ls (.long x :: rest))) : W p l e R s m args below meth c H locs cells slots Q (F0 m pc ls (.ref a :: rest)) := by
  obtain ⟨v, h1, h2⟩ := pl_bd hv
  have h3 := pl_vL_e h2
  subst h3
  exact pl_getV C w hin hc hci k hk hm h1 hdg kk
theorem pl_getR (C : pl_C p s m args meth c cc nL own ret nm D dA tt b) (w : pl_wd D vwCl dA b n f H) {Cn : String} {T : u_T} {N ci index : Nat} (hin : ∀ w ∈ u_ws Cn T N, w ∈ pl_tb) (hc : vwCl[ci]? = some (Cn, T, N)) (hci : ci ≠ 1000) (k : Nat) (hk : k < N) (hm : Cond.fieldLink own index (T k).1 (T k).2.1 (T k).2.2.1 ∈ pl_tb) {x : Nat} (hv : pl_gR f a ci k = some x) (hdg : decode cc pc = .ok (.getfield index, 3))
    (kk : W p l e R s m args below meth c H locs cells slots Q (F0 m (pc + 3) ls (.ref x :: rest))) : W p l e R s m args below meth c H locs cells slots Q (F0 m pc ls (.ref a :: rest)) := by
  obtain ⟨v, h1, h2⟩ := pl_bd hv
  have h3 := pl_vR_e h2
  subst h3
  exact pl_getV C w hin hc hci k hk hm h1 hdg kk
theorem pl_put (C : pl_C p s m args meth c cc nL own ret nm D dA tt b) (w : pl_wd D vwCl dA b n f H) (hS0 : va_S (pl_A b) s.heap H locs) {Cn : String} {T : u_T} {N ci index : Nat} (hin : ∀ w ∈ u_ws Cn T N, w ∈ pl_tb) (hc : vwCl[ci]? = some (Cn, T, N)) (hci : ci ≠ 1000) {ty0 : Nat → FieldType} (hty : ∀ k, k < N → parseFieldDescriptor (T k).2.2.1 = some (ty0 k)) (hnm : ∀ a, a < N → ∀ b, b < N → a ≠ b → (T a).2.1 ≠ (T b).2.1) (k : Nat) (hk : k < N) (hm : Cond.fieldLink own index (T k).1 (T k).2.1 (T k).2.2.1 ∈ pl_tb) {v : Value} (hfin : (T k).2.2.2 = false) (hn : narrow (ty0 k) v = v) (hfit : fits (ty0 k) v = true) (hv : pl_pV f a ci k v = some f') (hdg : decode cc pc = .ok (.putfield index, 3))
    (kk : ∀ (H : Heap) (locs : List Loc), pl_wd D vwCl dA b n f' H → va_S (pl_A b) s.heap H locs → W p l e R s m args below meth c H locs cells slots Q (F0 m (pc + 3) ls rest)) : W p l e R s m args below meth c H locs cells slots Q (F0 m pc ls (v :: .ref a :: rest)) := by
  obtain ⟨hx, hb, hml, hr, hown, hlk, hts, hnm', hK0⟩ := C
  have hK := hK0.1
  obtain ⟨fs, h1, hl, rfl⟩ := pl_pV_e hv
  obtain ⟨hi0, r, hr1, cell, q1, q2, q3, q4⟩ := pl_obj w hci h1
  have hap := va_apart (own := own) hts hin ty0 hty hnm hK hc
  have hr : r = (Cn, T, N) := Option.some.inj (hr1.symm.trans hc)
  subst hr
  obtain ⟨hS, hfc, kC, hkC, hkind⟩ := hK.1 ci _ hc
  obtain ⟨cf, kf, fi, fd, hi, hsl⟩ := hS k hk
  have hlay := hts _ (hin _ (u_in_lay hk))
  unfold u_lay at hlay
  rw [if_neg (by rw [hfin]; decide)] at hlay
  have hst := (u_facts hfc hkC (u_lays hts hin hk) hi).1
  have h6 := u_store hfc hkC hkind hlay hi (hty k hk) hn hfit
  refine W.putK hx hb (f := fd) ⟨hown, hts _ hm, ⟨_, _, _, hi⟩, hst⟩ (by rw [q2]; exact h6) q1 q3 (by rw [hsl]; exact k2_hasslot (q4 k hk)) rfl rfl hdg fun H' e1 e2 e3 => ?_
  rw [hsl] at e1 ⊢
  exact kk H' _ (pl_set w hi0 (e := .inr (ci, fs.set k v)) ⟨_, hc, t_OB.to (V := updV (vp_V fs) k v) ⟨_, e1, q2, q3, t_set q4 hap hk v⟩ (fun j _ => vp_updV_set hl v j)⟩ e2 e3) (hS0.put e2 e3 hi0.1)
theorem pl_putF (C : pl_C p s m args meth c cc nL own ret "<init>" D dA tt b) (w : pl_wd D vwCl dA b n f H) (hS0 : va_S (pl_A b) s.heap H locs) {Cn : String} {T : u_T} {N ci index : Nat} (hin : ∀ w ∈ u_ws Cn T N, w ∈ pl_tb) (hc : vwCl[ci]? = some (Cn, T, N)) (hci : ci ≠ 1000) {ty0 : Nat → FieldType} (hty : ∀ k, k < N → parseFieldDescriptor (T k).2.2.1 = some (ty0 k)) (hnm : ∀ a, a < N → ∀ b, b < N → a ≠ b → (T a).2.1 ≠ (T b).2.1) (k : Nat) (hk : k < N) (hm : Cond.fieldLink own index (T k).1 (T k).2.1 (T k).2.2.1 ∈ pl_tb) {v : Value} (hfin : (T k).2.2.2 = true) (hdecl : (T k).1 = own) (hn : narrow (ty0 k) v = v) (hfit : fits (ty0 k) v = true) (hv : pl_pV f a ci k v = some f') (hdg : decode cc pc = .ok (.putfield index, 3))
    (kk : ∀ (H : Heap) (locs : List Loc), pl_wd D vwCl dA b n f' H → va_S (pl_A b) s.heap H locs → W p l e R s m args below meth c H locs cells slots Q (F0 m (pc + 3) ls rest)) : W p l e R s m args below meth c H locs cells slots Q (F0 m pc ls (v :: .ref a :: rest)) := by
  obtain ⟨hx, hb, hml, hr, hown, hlk, hts, hnm', hK0⟩ := C
  have hK := hK0.1
  obtain ⟨fs, h1, hl, rfl⟩ := pl_pV_e hv
  obtain ⟨hi0, r, hr1, cell, q1, q2, q3, q4⟩ := pl_obj w hci h1
  have hap := va_apart (own := own) hts hin ty0 hty hnm hK hc
  have hr : r = (Cn, T, N) := Option.some.inj (hr1.symm.trans hc)
  subst hr
  obtain ⟨hS, hfc, kC, hkC, hkind⟩ := hK.1 ci _ hc
  obtain ⟨cf, kf, fi, fd, hi, hsl⟩ := hS k hk
  have hlay := hts _ (hin _ (u_in_lay hk))
  unfold u_lay at hlay
  rw [if_pos hfin] at hlay
  have hst := (u_facts hfc hkC (u_lays hts hin hk) hi).1
  have hcf : m.cls = cf := by
    obtain ⟨_, _, c', _, _, _, -, -, hf', -, -, -, hown2, -⟩ := Cond.laysFinal_spec hlay
    have e1 : c' = cf := by have := hi.symm.trans hf'; simp at this; exact this.1.symm
    rw [hdecl] at hown2
    rw [← e1]; exact Option.some.inj (hown.symm.trans hown2)
  have h6 := u_fits hfc hkC hkind (Or.inr hlay) hi (hty k hk) hn hfit
  refine W.putFinK hx hb hown (hts _ hm) hi hst hcf hnm' (by rw [q2]; exact h6) q1 q3 (by rw [hsl]; exact k2_hasslot (q4 k hk)) rfl rfl hdg fun H' e1 e2 e3 => ?_
  rw [hsl] at e1 ⊢
  exact kk H' _ (pl_set w hi0 (e := .inr (ci, fs.set k v)) ⟨_, hc, t_OB.to (V := updV (vp_V fs) k v) ⟨_, e1, q2, q3, t_set q4 hap hk v⟩ (fun j _ => vp_updV_set hl v j)⟩ e2 e3) (hS0.put e2 e3 hi0.1)
theorem pl_aldI (C : pl_C p s m args meth c cc nL own ret nm D dA tt b) (w : pl_wd D vwCl dA b n f H) {i x : Int32} (hv : pl_aI f a i = some x) (hdg : decode cc pc = .ok (.iaload, 1))
    (kk : W p l e R s m args below meth c H locs cells slots Q (F0 m (pc + 1) ls (.int x :: rest))) : W p l e R s m args below meth c H locs cells slots Q (F0 m pc ls (.int i :: .ref a :: rest)) := by
  obtain ⟨k, g, h1, h2, rfl⟩ := pl_aI_e hv
  exact va_iald C.1 C.2.1 C.2.2.2.2.2.2.2.2.1 (pl_P1 (q := (a, .inl (dA 0, k, .inl g))) (pl_arr w h1).2) 0 0 rfl rfl h2 hdg kk
theorem pl_aldL (C : pl_C p s m args meth c cc nL own ret nm D dA tt b) (w : pl_wd D vwCl dA b n f H) {i : Int32} {x : Int64} (hv : pl_aL f a i = some x) (hdg : decode cc pc = .ok (.laload, 1))
    (kk : W p l e R s m args below meth c H locs cells slots Q (F0 m (pc + 1) ls (.long x :: rest))) : W p l e R s m args below meth c H locs cells slots Q (F0 m pc ls (.int i :: .ref a :: rest)) := by
  obtain ⟨k, g, h1, h2, rfl⟩ := pl_aL_e hv
  exact va_lald C.1 C.2.1 C.2.2.2.2.2.2.2.2.1 (pl_P1 (q := (a, .inl (dA 1, k, .inr (.inl g)))) (pl_arr w h1).2) 0 1 rfl rfl h2 hdg kk
theorem pl_astI (C : pl_C p s m args meth c cc nL own ret nm D dA tt b) (w : pl_wd D vwCl dA b n f H) (hS : va_S (pl_A b) s.heap H locs) {i x : Int32} (hv : pl_sI f a i x = some f') (hdg : decode cc pc = .ok (.iastore, 1))
    (kk : ∀ (H : Heap) (locs : List Loc), pl_wd D vwCl dA b n f' H → va_S (pl_A b) s.heap H locs → W p l e R s m args below meth c H locs cells slots Q (F0 m (pc + 1) ls rest)) : W p l e R s m args below meth c H locs cells slots Q (F0 m pc ls (.int x :: .int i :: .ref a :: rest)) := by
  obtain ⟨k, g, h1, hin, rfl⟩ := pl_sI_e hv
  obtain ⟨hi0, hcell⟩ := pl_arr w h1
  have hK := C.2.2.2.2.2.2.2.2.1
  refine W.iast C.1 C.2.1 hcell ((hK.2 0 _ rfl).1 k (fun j => .int (g j))) (fun q => by cases q) (by show ¬ (i < 0 ∨ (arrV _ _ _).slots.size ≤ _); rw [arrV_size]; exact hin) rfl rfl hdg fun H1 e z oq => ?_
  refine kk H1 _ (pl_set w hi0 (e := .inl (0, k, .inl (upd g i.toNatClampNeg x))) ?_ z oq) (hS.put z oq hi0.1)
  show H1[a]? = some (vp_cell _ _)
  rw [e]
  rw [vp_cell_i, vp_cell_i, arrV_store]
  congr 2
  funext q
  by_cases hq : q = i.toNatClampNeg
  · subst hq
    simp [updV, upd]
  · simp [updV, upd, hq]
theorem pl_astL (C : pl_C p s m args meth c cc nL own ret nm D dA tt b) (w : pl_wd D vwCl dA b n f H) (hS : va_S (pl_A b) s.heap H locs) {i : Int32} {x : Int64} (hv : pl_sL f a i x = some f') (hdg : decode cc pc = .ok (.lastore, 1))
    (kk : ∀ (H : Heap) (locs : List Loc), pl_wd D vwCl dA b n f' H → va_S (pl_A b) s.heap H locs → W p l e R s m args below meth c H locs cells slots Q (F0 m (pc + 1) ls rest)) : W p l e R s m args below meth c H locs cells slots Q (F0 m pc ls (.long x :: .int i :: .ref a :: rest)) := by
  obtain ⟨k, g, h1, hin, rfl⟩ := pl_sL_e hv
  obtain ⟨hi0, hcell⟩ := pl_arr w h1
  have hK := C.2.2.2.2.2.2.2.2.1
  refine W.last C.1 C.2.1 hcell ((hK.2 1 _ rfl).1 k (fun j => .long (g j))) (fun q => by cases q) (by show ¬ (i < 0 ∨ (arrV _ _ _).slots.size ≤ _); rw [arrV_size]; exact hin) rfl rfl hdg fun H1 e z oq => ?_
  refine kk H1 _ (pl_set w hi0 (e := .inl (1, k, .inr (.inl (vp_updL g i.toNatClampNeg x)))) ?_ z oq) (hS.put z oq hi0.1)
  show H1[a]? = some (vp_cell _ _)
  rw [e]
  rw [vp_cell_l, vp_cell_l, arrV_store]
  congr 2
  funext q
  by_cases hq : q = i.toNatClampNeg
  · subst hq
    simp [updV, vp_updL]
  · simp [updV, vp_updL, hq]
theorem pl_aload_n (hx : p.tables.exec = Jvm.exec) (hb : c.code = cc) {k : Fin 4} {i : Nat} {r : Option Nat} (hdg : decode cc pc = .ok (.aload_n k, 1)) (hi : (k : Nat) = i) (hl : ls[i]? = some (.val (va_rf r)))
    (kk : W p l e R s m args below meth c H locs cells slots Q (F0 m (pc + 1) ls (va_rf r :: rest))) : W p l e R s m args below meth c H locs cells slots Q (F0 m pc ls rest) := by
  cases r with
  | none => exact lv_aload_nN hx hb hdg hi hl kk
  | some v => exact lv_aload_n hx hb hdg hi hl kk
theorem pl_aload (hx : p.tables.exec = Jvm.exec) (hb : c.code = cc) {i : Nat} {r : Option Nat} (hdg : decode cc pc = .ok (.aload i, 2)) (hl : ls[i]? = some (.val (va_rf r)))
    (kk : W p l e R s m args below meth c H locs cells slots Q (F0 m (pc + 2) ls (va_rf r :: rest))) : W p l e R s m args below meth c H locs cells slots Q (F0 m pc ls rest) := by
  cases r with
  | none => exact lv_aloadN hx hb hdg hl kk
  | some v => exact lv_aload hx hb hdg hl kk
theorem pl_astore_n (hx : p.tables.exec = Jvm.exec) (hb : c.code = cc) {k : Fin 4} {i nL : Nat} {r : Option Nat} {lv lv' : List (Nat × Value)} (hdg : decode cc pc = .ok (.astore_n k, 1)) (hi : (k : Nat) = i) (h : lv_has ls nL lv) (hn : i < nL) (hl : (i, va_rf r) :: lv.filter (fun q => !(q.1 == i) && !(q.1 + 1 == i && q.2.category == 2)) = lv')
    (kk : ∀ ls' : Array Slot, lv_has ls' nL lv' → W p l e R s m args below meth c H locs cells slots Q (F0 m (pc + 1) ls' rest)) : W p l e R s m args below meth c H locs cells slots Q (F0 m pc ls (va_rf r :: rest)) := by
  cases r with
  | none => exact lv_astore_nN hx hb hdg hi h hn hl kk
  | some v => exact lv_astore_n hx hb hdg hi h hn hl kk
theorem pl_astore (hx : p.tables.exec = Jvm.exec) (hb : c.code = cc) {i nL : Nat} {r : Option Nat} {lv lv' : List (Nat × Value)} (hdg : decode cc pc = .ok (.astore i, 2)) (h : lv_has ls nL lv) (hn : i < nL) (hl : (i, va_rf r) :: lv.filter (fun q => !(q.1 == i) && !(q.1 + 1 == i && q.2.category == 2)) = lv')
    (kk : ∀ ls' : Array Slot, lv_has ls' nL lv' → W p l e R s m args below meth c H locs cells slots Q (F0 m (pc + 2) ls' rest)) : W p l e R s m args below meth c H locs cells slots Q (F0 m pc ls (va_rf r :: rest)) := by
  cases r with
  | none => exact lv_astoreN hx hb hdg h hn hl kk
  | some v => exact lv_astore hx hb hdg h hn hl kk
theorem pl_iinc6 (hexec : p.tables.exec = Jvm.exec) (hb : c.code = cc) {i nL k : Nat} {n : Int} {x v : Int32} {lv lv' : List (Nat × Value)} (hdg : decode cc pc = .ok (.iinc i n, 6)) (h : lv_has ls nL lv) (hk : lv[k]? = some (i, .int x)) (hv : x + Int32.ofInt n = v) (hn : i < nL) (hl : (i, Value.int v) :: lv.filter (fun q => !(q.1 == i) && !(q.1 + 1 == i && q.2.category == 2)) = lv')
    (kk : ∀ ls' : Array Slot, lv_has ls' nL lv' → W p l e R s m args below meth c H locs cells slots Q (F0 m (pc + 6) ls' rest)) : W p l e R s m args below meth c H locs cells slots Q (F0 m pc ls rest) := by
  subst hv
  have hg := lv_at h k hk
  obtain ⟨ls', e', h'⟩ := lv_store1 (v := .int (x + Int32.ofInt n)) h hn rfl
  intro T hT X
  obtain ⟨t, a, b⟩ := kk ls' (hl ▸ h') T hT X
  refine ⟨t, ?_, b⟩
  jvm_step X.here [X.here.top, ↓top_set X.here.top, hexec, hb, hdg, hg, e']
  exact a
theorem pl_retI (C : pl_C p s m args meth c cc nL own (some .int) nm D dA tt b) (w : pl_wd D vwCl dA b n f H) (hS : va_S (pl_A b) s.heap H locs) {x r : Int32} (hF : some x = some r) (hdg : decode cc pc = .ok (.ireturn, 1)) : W p l e R s m args below meth c H locs cells slots (MQ below (pl_qI D dA tt b n f r) args s cells slots (pl_A b)) (F0 m pc ls [.int x]) := by
  cases hF
  obtain ⟨hx, hb, hml, hr, hown, hlk, hts, hnm, hK⟩ := C
  exact W.iret (v := x) hx hb hr (fun t ht hW => ⟨⟨x, (), rfl, rfl, by rw [ht]; exact w, pl_K.moved hW (fun q h1 h2 => by rw [ht]; exact hS.2.1 q h1 h2) hK⟩, hS.F ht⟩) hS.2.2 hdg hlk
theorem pl_retIw (C : pl_C p s m args meth c cc nL own (some .int) nm D dA tt b) (w : pl_wd D vwCl dA b n f H) (hS : va_S (pl_A b) s.heap H locs) {x r : Int32} (hF : some (x, f) = some (r, f')) (hdg : decode cc pc = .ok (.ireturn, 1)) : W p l e R s m args below meth c H locs cells slots (MQ below (pl_qI D dA tt b n f' r) args s cells slots (pl_A b)) (F0 m pc ls [.int x]) := by
  cases hF
  exact pl_retI C w hS rfl hdg
def pl_zb (x : Int32) : Bool := decide (x = 0 ∨ x = 1)
theorem pl_zb_n {x : Int32} (h : pl_zb x = true) : narrow .boolean (.int x) = .int x ∧ fits .boolean (.int x) = true := by
  rcases of_decide_eq_true h with rfl | rfl
  · exact ⟨by decide, by decide⟩
  · exact ⟨by decide, by decide⟩
def pl_z (x : Int32) : Option Int32 := if pl_zb x = true then some x else none
theorem pl_z_e {x r : Int32} (h : pl_z x = some r) : x = r ∧ narrow .boolean (.int x) = .int x ∧ fits .boolean (.int x) = true := by
  unfold pl_z at h
  split at h
  · rename_i hz
    cases h
    exact ⟨rfl, pl_zb_n hz⟩
  · cases h
theorem pl_retZ (C : pl_C p s m args meth c cc nL own (some .boolean) nm D dA tt b) (w : pl_wd D vwCl dA b n f H) (hS : va_S (pl_A b) s.heap H locs) {x r : Int32} (hF : pl_z x = some r) (hdg : decode cc pc = .ok (.ireturn, 1)) : W p l e R s m args below meth c H locs cells slots (MQ below (pl_qI D dA tt b n f r) args s cells slots (pl_A b)) (F0 m pc ls [.int x]) := by
  obtain ⟨rfl, hz, -⟩ := pl_z_e hF
  obtain ⟨hx, hb, hml, hr, hown, hlk, hts, hnm, hK⟩ := C
  exact W.zret (v := x) hx hb hr hz (fun t ht hW => ⟨⟨x, (), rfl, rfl, by rw [ht]; exact w, pl_K.moved hW (fun q h1 h2 => by rw [ht]; exact hS.2.1 q h1 h2) hK⟩, hS.F ht⟩) hS.2.2 hdg hlk
theorem pl_retZw (C : pl_C p s m args meth c cc nL own (some .boolean) nm D dA tt b) (w : pl_wd D vwCl dA b n f H) (hS : va_S (pl_A b) s.heap H locs) {x r : Int32} (hF : (pl_z x).bind (fun z => some (z, f)) = some (r, f')) (hdg : decode cc pc = .ok (.ireturn, 1)) : W p l e R s m args below meth c H locs cells slots (MQ below (pl_qI D dA tt b n f' r) args s cells slots (pl_A b)) (F0 m pc ls [.int x]) := by
  obtain ⟨z, h1, h2⟩ := pl_bd hF
  cases h2
  exact pl_retZ C w hS h1 hdg
theorem pl_retL (C : pl_C p s m args meth c cc nL own (some .long) nm D dA tt b) (w : pl_wd D vwCl dA b n f H) (hS : va_S (pl_A b) s.heap H locs) {x r : Int64} (hF : some x = some r) (hdg : decode cc pc = .ok (.lreturn, 1)) : W p l e R s m args below meth c H locs cells slots (MQ below (pl_qL D dA tt b n f r) args s cells slots (pl_A b)) (F0 m pc ls [.long x]) := by
  cases hF
  obtain ⟨hx, hb, hml, hr, hown, hlk, hts, hnm, hK⟩ := C
  exact W.lret (v := x) hx hb hr (fun t ht hW => ⟨⟨x, (), rfl, rfl, by rw [ht]; exact w, pl_K.moved hW (fun q h1 h2 => by rw [ht]; exact hS.2.1 q h1 h2) hK⟩, hS.F ht⟩) hS.2.2 hdg hlk
theorem pl_retLw (C : pl_C p s m args meth c cc nL own (some .long) nm D dA tt b) (w : pl_wd D vwCl dA b n f H) (hS : va_S (pl_A b) s.heap H locs) {x r : Int64} (hF : some (x, f) = some (r, f')) (hdg : decode cc pc = .ok (.lreturn, 1)) : W p l e R s m args below meth c H locs cells slots (MQ below (pl_qL D dA tt b n f' r) args s cells slots (pl_A b)) (F0 m pc ls [.long x]) := by
  cases hF
  exact pl_retL C w hS rfl hdg
theorem pl_retVw (C : pl_C p s m args meth c cc nL own none nm D dA tt b) (w : pl_wd D vwCl dA b n f H) (hS : va_S (pl_A b) s.heap H locs) (hF : some f = some f') (hdg : decode cc pc = .ok (.return_, 1)) : W p l e R s m args below meth c H locs cells slots (MQ below (pl_qV D dA tt b n f') args s cells slots (pl_A b)) (F0 m pc ls []) := by
  cases hF
  obtain ⟨hx, hb, hml, hr, hown, hlk, hts, hnm, hK⟩ := C
  exact W.vret hx hb hr (fun t ht hW => ⟨⟨(), rfl, trivial, by rw [ht]; exact w, pl_K.moved hW (fun q h1 h2 => by rw [ht]; exact hS.2.1 q h1 h2) hK⟩, hS.F ht⟩) hS.2.2 hdg hlk
theorem pl_retQ {rt : FieldType} (C : pl_C p s m args meth c cc nL own (some rt) nm D dA tt b) (w : pl_wd D vwCl dA b n f H) (hS : va_S (pl_A b) s.heap H locs) {v : Value} {x r : Option Nat} (hF : some x = some r) (hrt : (∃ n, rt = .object n) ∨ ∃ t, rt = .array t) (hv : v = va_rf x) (hdg : decode cc pc = .ok (.areturn, 1)) : W p l e R s m args below meth c H locs cells slots (MQ below (pl_qQ D dA tt b n f r) args s cells slots (pl_A b)) (F0 m pc ls [v]) := by
  cases hF
  subst hv
  obtain ⟨hx, hb, hml, hr, hown, hlk, hts, hnm, hK⟩ := C
  exact W.aret (v := va_rf x) hx hb hr hrt (va_rf_or x) (fun t ht hW => ⟨⟨x, (), rfl, rfl, by rw [ht]; exact w, pl_K.moved hW (fun q h1 h2 => by rw [ht]; exact hS.2.1 q h1 h2) hK⟩, hS.F ht⟩) hS.2.2 hdg hlk
theorem pl_retR {rt : FieldType} (C : pl_C p s m args meth c cc nL own (some rt) nm D dA tt b) (w : pl_wd D vwCl dA b n f H) (hS : va_S (pl_A b) s.heap H locs) {x r : Nat} (hF : some x = some r) (hrt : (∃ n, rt = .object n) ∨ ∃ t, rt = .array t) (hdg : decode cc pc = .ok (.areturn, 1)) : W p l e R s m args below meth c H locs cells slots (MQ below (pl_qQ D dA tt b n f (some r)) args s cells slots (pl_A b)) (F0 m pc ls [.ref x]) := by
  cases hF
  exact pl_retQ (x := some x) C w hS rfl hrt rfl hdg
theorem pl_retRw {rt : FieldType} (C : pl_C p s m args meth c cc nL own (some rt) nm D dA tt b) (w : pl_wd D vwCl dA b n f H) (hS : va_S (pl_A b) s.heap H locs) {x r : Nat} (hF : some (x, f) = some (r, f')) (hrt : (∃ n, rt = .object n) ∨ ∃ t, rt = .array t) (hdg : decode cc pc = .ok (.areturn, 1)) : W p l e R s m args below meth c H locs cells slots (MQ below (pl_qQ D dA tt b n f' (some r)) args s cells slots (pl_A b)) (F0 m pc ls [.ref x]) := by
  cases hF
  exact pl_retR C w hS rfl hrt hdg
-- behind a call
variable {st0 : List Value} {av : Array Value} {n' mc ms : Nat}
theorem pl_gi {r : Int32} (hr : va_Run p l e R s m args below meth c H locs cells slots mc ms (F0 m pc ls st0) rest (pl_qI D dA tt b n' f' r av) (pl_A b)) (hS : va_S (pl_A b) s.heap H locs)
    (kk : ∀ (H : Heap) (locs : List Loc), pl_wd D vwCl dA b n' f' H → va_S (pl_A b) s.heap H locs → W p l e R s m args below meth c H locs (cells + mc) (slots + ms) Q (F0 m (pc + 3) ls (.int r :: rest))) : W p l e R s m args below meth c H locs cells slots Q (F0 m pc ls st0) := by
  refine va_calli hr hS (fun q _ h => h) (fun q h => h) (fun r' u t H1 locs1 ht hvm hp hB hz hk hS1 => ?_)
  subst hp
  exact kk H1 locs1 (by rw [← ht]; exact hB.1) hS1
theorem pl_gl {r : Int64} (hr : va_Run p l e R s m args below meth c H locs cells slots mc ms (F0 m pc ls st0) rest (pl_qL D dA tt b n' f' r av) (pl_A b)) (hS : va_S (pl_A b) s.heap H locs)
    (kk : ∀ (H : Heap) (locs : List Loc), pl_wd D vwCl dA b n' f' H → va_S (pl_A b) s.heap H locs → W p l e R s m args below meth c H locs (cells + mc) (slots + ms) Q (F0 m (pc + 3) ls (.long r :: rest))) : W p l e R s m args below meth c H locs cells slots Q (F0 m pc ls st0) := by
  refine va_calll hr hS (fun q _ h => h) (fun q h => h) (fun r' u t H1 locs1 ht hvm hp hB hz hk hS1 => ?_)
  subst hp
  exact kk H1 locs1 (by rw [← ht]; exact hB.1) hS1
theorem pl_gv (hr : va_Run p l e R s m args below meth c H locs cells slots mc ms (F0 m pc ls st0) rest (pl_qV D dA tt b n' f' av) (pl_A b)) (hS : va_S (pl_A b) s.heap H locs)
    (kk : ∀ (H : Heap) (locs : List Loc), pl_wd D vwCl dA b n' f' H → va_S (pl_A b) s.heap H locs → W p l e R s m args below meth c H locs (cells + mc) (slots + ms) Q (F0 m (pc + 3) ls rest)) : W p l e R s m args below meth c H locs cells slots Q (F0 m pc ls st0) := by
  refine va_callv hr hS (fun q _ h => h) (fun q h => h) (fun u t H1 locs1 ht hvm hp hB hz hk hS1 => ?_)
  exact kk H1 locs1 (by rw [← ht]; exact hB.1) hS1
theorem pl_gq {r : Option Nat} (hr : va_Run p l e R s m args below meth c H locs cells slots mc ms (F0 m pc ls st0) rest (pl_qQ D dA tt b n' f' r av) (pl_A b)) (hS : va_S (pl_A b) s.heap H locs)
    (kk : ∀ (H : Heap) (locs : List Loc), pl_wd D vwCl dA b n' f' H → va_S (pl_A b) s.heap H locs → W p l e R s m args below meth c H locs (cells + mc) (slots + ms) Q (F0 m (pc + 3) ls (va_rf r :: rest))) : W p l e R s m args below meth c H locs cells slots Q (F0 m pc ls st0) := by
  refine va_callq hr hS (fun q _ h => h) (fun q h => h) (fun r' u t H1 locs1 ht hvm hp hB hz hk hS1 => ?_)
  subst hp
  exact kk H1 locs1 (by rw [← ht]; exact hB.1) hS1
theorem pl_gr {r : Nat} (hr : va_Run p l e R s m args below meth c H locs cells slots mc ms (F0 m pc ls st0) rest (pl_qQ D dA tt b n' f' (some r) av) (pl_A b)) (hS : va_S (pl_A b) s.heap H locs)
    (kk : ∀ (H : Heap) (locs : List Loc), pl_wd D vwCl dA b n' f' H → va_S (pl_A b) s.heap H locs → W p l e R s m args below meth c H locs (cells + mc) (slots + ms) Q (F0 m (pc + 3) ls (.ref r :: rest))) : W p l e R s m args below meth c H locs cells slots Q (F0 m pc ls st0) := pl_gq hr hS kk
theorem pl_blind {av : List Value} : FrameBlind (va_Pc av (pl_pre D dA tt b n f)) := fun a U g mk q => by
  obtain ⟨q0, q1, qK⟩ := q
  exact ⟨q0, q1, pl_K.moved (U := U.calling g mk a) (State.WarmedH.refl U) (fun _ _ _ => rfl) qK⟩
theorem pl_preU (C : pl_C p s m args meth c cc nL own ret nm D dA tt b) (w : pl_wd D vwCl dA b n f H) (hS : va_S (pl_A b) s.heap H locs) {av : List Value} : ∀ U : State, U.heap = H → s.WarmedH U.vm → va_Pc av (pl_pre D dA tt b n f) av.toArray U := fun U hU hW => ⟨rfl, by rw [hU]; exact w, pl_K.moved hW (fun q h1 h2 => by rw [hU]; exact hS.2.1 q h1 h2) C.2.2.2.2.2.2.2.2⟩
theorem pl_good {y : MethodName} {bytes : ByteArray} {maxL : Nat} {ret' : Option FieldType} (h : Cond.code y bytes maxL ret' ∈ pl_tb) : GoodIn pl_tb (Cond.code y bytes maxL ret' :: pl_tb) := by
  intro w hw
  rcases List.mem_cons.mp hw with rfl | hw
  · exact ⟨h, pl_gw _ h⟩
  · exact ⟨hw, pl_gw _ hw⟩
theorem pl_goodV {own Cn : String} {index : Nat} {y : MethodName} {bytes : ByteArray} {maxL : Nat} {ret' : Option FieldType} (h : Cond.code y bytes maxL ret' ∈ pl_tb) (m1 : Cond.methodLink own index y ∈ pl_tb) (m2 : Cond.instanceMethod y ∈ pl_tb) (m3 : Cond.selects Cn y y ∈ pl_tb) (m4 : Cond.initialized Cn ∈ pl_tb) : GoodIn pl_tb (wsV own index Cn y (Cond.code y bytes maxL ret' :: pl_tb)) := by
  intro w hw
  unfold wsV at hw
  rcases List.mem_append.mp hw with hw | hw
  · have h2 : w ∈ pl_tb := by
      rcases List.mem_cons.mp hw with rfl | hw
      · exact m1
      rcases List.mem_cons.mp hw with rfl | hw
      · exact m2
      rcases List.mem_cons.mp hw with rfl | hw
      · exact m3
      rcases List.mem_cons.mp hw with rfl | hw
      · exact m4
      cases hw
    exact ⟨h2, pl_gw _ h2⟩
  · exact pl_good h w hw
theorem pl_runV (C : pl_C p s m args meth c cc nL own ret nm D dA tt b) {y : MethodName} {bytes : ByteArray} {maxL index k ci N : Nat} {ret' : Option FieldType} {rm : Room} {Qc : Array Value → State → Outcome → State → Prop} {As : List Value} {Cn : String} {T : u_T} {u : Unit}
    (hM : Met l y (Cond.code y bytes maxL ret' :: pl_tb) rm (va_Pc (.ref a :: As) (pl_pre D dA tt b n f)) Qc mc ms (pl_A b)) (w : pl_wd D vwCl dA b n f H) (hS : va_S (pl_A b) s.heap H locs) (hrc : rm.cells = mc) (hrs : rm.slots = ms)
    (m1 : Cond.methodLink own index y ∈ pl_tb) (m2 : Cond.instanceMethod y ∈ pl_tb) (m3 : Cond.selects Cn y y ∈ pl_tb) (m4 : Cond.initialized Cn ∈ pl_tb) (m5 : Cond.code y bytes maxL ret' ∈ pl_tb)
    (hd : y.cls = Cn ∧ y.cls ≠ "java/lang/invoke/MethodHandle" ∧ y.cls ≠ "java/lang/invoke/VarHandle" ∧ (parseMethodDescriptor y.desc).map (fun d => d.parameters.length) = some k) (hR : rm.frames + 1 ≤ R.frames ∧ 8 + (maxL + 11) + rm.locals ≤ R.locals)
    (hi : pl_is f a ci = some u) (hc : vwCl[ci]? = some (Cn, T, N)) (hci : ci ≠ 1000) (hn : As.length = k) (hsize : ls.size = nL) (hW : (rest.map fun v => v.category).sum ≤ 8) (hf : cells + mc ≤ R.cells ∧ slots + ms ≤ R.slots) (hst : st0 = As.reverse ++ .ref a :: rest) (hdg : decode cc pc = .ok (.invokevirtual index, 3)) :
    va_Run p l e R s m args below meth c H locs cells slots mc ms (F0 m pc ls st0) rest (Qc (Value.ref a :: As).toArray) (pl_A b) := by
  obtain ⟨fs, h1⟩ := pl_is_e hi
  have hts := C.2.2.2.2.2.2.1
  have hKa := C.2.2.2.2.2.2.2.2.1
  exact va_runV ⟨C.1, C.2.1, C.2.2.1, C.2.2.2.2.1, hts⟩ hM (cwV k hts (pl_goodV m5 m1 m2 m3 m4) rfl hrc hrs hd hR) ⟨pl_blind, va_recv hKa (pl_P1 (pl_obj w hci h1).2) hc (q0 := 0) rfl, pl_preU C w hS⟩ rfl hn hsize hst (lv_room hW) hdg hf
theorem pl_runS (C : pl_C p s m args meth c cc nL own ret nm D dA tt b) {y : MethodName} {bytes : ByteArray} {maxL index k : Nat} {ret' : Option FieldType} {rm : Room} {Qc : Array Value → State → Outcome → State → Prop} {As : List Value}
    (hM : Met l y (Cond.code y bytes maxL ret' :: pl_tb) rm (va_Pc As (pl_pre D dA tt b n f)) Qc mc ms (pl_A b)) (w : pl_wd D vwCl dA b n f H) (hS : va_S (pl_A b) s.heap H locs) (hrc : rm.cells = mc) (hrs : rm.slots = ms)
    (m1 : Cond.methodLink own index y ∈ pl_tb) (m2 : Cond.static y ∈ pl_tb) (m4 : Cond.initialized y.cls ∈ pl_tb) (m5 : Cond.code y bytes maxL ret' ∈ pl_tb)
    (hd : y.cls ≠ "java/lang/invoke/MethodHandle" ∧ y.cls ≠ "java/lang/invoke/VarHandle" ∧ (parseMethodDescriptor y.desc).map (fun d => d.parameters.length) = some k) (hR : rm.frames + 1 ≤ R.frames ∧ 8 + (maxL + 11) + rm.locals ≤ R.locals)
    (hn : As.length = k) (hsize : ls.size = nL) (hW : (rest.map fun v => v.category).sum ≤ 8) (hf : cells + mc ≤ R.cells ∧ slots + ms ≤ R.slots) (hst : st0 = As.reverse ++ rest) (hdg : decode cc pc = .ok (.invokestatic index, 3)) :
    va_Run p l e R s m args below meth c H locs cells slots mc ms (F0 m pc ls st0) rest (Qc As.toArray) (pl_A b) := by
  have hts := C.2.2.2.2.2.2.1
  exact va_runS ⟨C.1, C.2.1, C.2.2.1, C.2.2.2.2.1, hts⟩ hM ⟨callB_of k hts (pl_good m5) rfl hrc hrs (hts _ m4) (hts _ m1) hd hR, hts _ m2⟩ ⟨pl_blind, pl_preU C w hS⟩ rfl hn hsize hst (lv_room hW) hdg hf
end PLR
