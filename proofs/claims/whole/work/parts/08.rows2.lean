/-! More rows: the static tables, arrays of references, of booleans, lengths, nest mates, the JDK's own. -/
def pl_tb0 (i : Int32) : Option Int32 := if pl_ok i 25 = true then some (pl_t0.getD i.toNatClampNeg 0) else none
def pl_tb1 (i : Int32) : Option Int32 := if pl_ok i 25 = true then some (pl_t1.getD i.toNatClampNeg 0) else none
def pl_tb2 (i : Int32) : Option Int64 := if pl_ok i 24 = true then some (pl_t2.getD i.toNatClampNeg 0) else none
def pl_tn2 : Int32 := 24
def pl_aZ (f : pl_H) (a : Nat) (i : Int32) : Option Int32 := match f a with
  | .inl (4, n, .inl g) => if pl_ok i n = true then some (g i.toNatClampNeg) else none
  | _ => none
def pl_sZ (f : pl_H) (a : Nat) (i x : Int32) : Option pl_H := match f a with
  | .inl (4, n, .inl g) => if pl_ok i n = true ∧ pl_zb x = true then some (va_up f a (.inl (4, n, .inl (upd g i.toNatClampNeg x)))) else none
  | _ => none
theorem pl_aZ_e {f : pl_H} {a : Nat} {i x : Int32} (h : pl_aZ f a i = some x) : ∃ (n : Nat) (g : Nat → Int32), f a = .inl (4, n, .inl g) ∧ vp_in i n ∧ x = g i.toNatClampNeg := by
  unfold pl_aZ at h
  split at h
  · rename_i n g hf
    split at h
    · rename_i hc
      cases h
      exact ⟨n, g, hf, pl_ok_in hc, rfl⟩
    · cases h
  · cases h
theorem pl_sZ_e {f f' : pl_H} {a : Nat} {i x : Int32} (h : pl_sZ f a i x = some f') : ∃ (n : Nat) (g : Nat → Int32), f a = .inl (4, n, .inl g) ∧ vp_in i n ∧ narrow .boolean (.int x) = .int x ∧ f' = va_up f a (.inl (4, n, .inl (upd g i.toNatClampNeg x))) := by
  unfold pl_sZ at h
  split at h
  · rename_i n g hf
    split at h
    · rename_i hc
      cases h
      exact ⟨n, g, hf, pl_ok_in hc.1, (pl_zb_n hc.2).1, rfl⟩
    · cases h
  · cases h
def pl_pZ (f : pl_H) (a ci k : Nat) (x : Int32) : Option pl_H := (pl_z x).bind fun z => pl_pV f a ci k (.int z)
section PLS
variable {p : Program} {l : Launch} {e : Env} {R : Room} {s : State} {m : MethodId} {args : Array Value} {below : List Frame} {meth : Method} {c : Code} {H : Heap} {locs : List Loc} {cells slots : Nat} {Q : State → Prop}
variable {cc : ByteArray} {nL : Nat} {own nm : String} {ret : Option FieldType} {pc : Nat} {ls : Array Slot} {rest : List Value} {D : va_G} {dA : Nat → ClassId} {tt : Nat → Nat} {b n a : Nat} {f f' : pl_H}
theorem pl_gets0 (C : pl_C p s m args meth c cc nL own ret nm D dA tt b) (hS : va_S (pl_A b) s.heap H locs) {index : Nat} (hm : Cond.fieldLink own index "ProvenLedger$Hasher" "TARGETS" "[I" ∈ pl_tb) (hdg : decode cc pc = .ok (.getstatic index, 3)) (kk : W p l e R s m args below meth c H locs cells slots Q (F0 m (pc + 3) ls (.ref (tt 0) :: rest))) : W p l e R s m args below meth c H locs cells slots Q (F0 m pc ls rest) :=
  va_gets C.1 C.2.1 C.2.2.2.2.2.2.2.2.2.1.1.1 hS C.2.2.2.2.1 (C.2.2.2.2.2.2.1 _ hm) (fun _ h => h) hdg kk
theorem pl_gets1 (C : pl_C p s m args meth c cc nL own ret nm D dA tt b) (hS : va_S (pl_A b) s.heap H locs) {index : Nat} (hm : Cond.fieldLink own index "ProvenLedger$Hasher" "DISTANCES" "[I" ∈ pl_tb) (hdg : decode cc pc = .ok (.getstatic index, 3)) (kk : W p l e R s m args below meth c H locs cells slots Q (F0 m (pc + 3) ls (.ref (tt 1) :: rest))) : W p l e R s m args below meth c H locs cells slots Q (F0 m pc ls rest) :=
  va_gets C.1 C.2.1 C.2.2.2.2.2.2.2.2.2.1.2.1.1 hS C.2.2.2.2.1 (C.2.2.2.2.2.2.1 _ hm) (fun _ h => h) hdg kk
theorem pl_gets2 (C : pl_C p s m args meth c cc nL own ret nm D dA tt b) (hS : va_S (pl_A b) s.heap H locs) {index : Nat} (hm : Cond.fieldLink own index "ProvenLedger$Hasher" "ROUND_WORDS" "[J" ∈ pl_tb) (hdg : decode cc pc = .ok (.getstatic index, 3)) (kk : W p l e R s m args below meth c H locs cells slots Q (F0 m (pc + 3) ls (.ref (tt 2) :: rest))) : W p l e R s m args below meth c H locs cells slots Q (F0 m pc ls rest) :=
  va_gets C.1 C.2.1 C.2.2.2.2.2.2.2.2.2.1.2.2.1 hS C.2.2.2.2.1 (C.2.2.2.2.2.2.1 _ hm) (fun _ h => h) hdg kk
theorem pl_if {α : Type} {q : Bool} {x y : α} (h : (if q = true then some x else none) = some y) : q = true ∧ x = y := by
  cases q with
  | false => cases h
  | true => cases h; exact ⟨rfl, rfl⟩
theorem pl_tld0 (C : pl_C p s m args meth c cc nL own ret nm D dA tt b) (hS : va_S (pl_A b) s.heap H locs) {i x : Int32} (hv : pl_tb0 i = some x) (hdg : decode cc pc = .ok (.iaload, 1)) (kk : W p l e R s m args below meth c H locs cells slots Q (F0 m (pc + 1) ls (.int x :: rest))) : W p l e R s m args below meth c H locs cells slots Q (F0 m pc ls (.int i :: .ref (tt 0) :: rest)) := by
  obtain ⟨h1, rfl⟩ := pl_if hv
  exact va_ti C.1 C.2.1 C.2.2.2.2.2.2.2.2.2.1.1.2 hS (pl_ok_in h1) rfl hdg kk
theorem pl_tld1 (C : pl_C p s m args meth c cc nL own ret nm D dA tt b) (hS : va_S (pl_A b) s.heap H locs) {i x : Int32} (hv : pl_tb1 i = some x) (hdg : decode cc pc = .ok (.iaload, 1)) (kk : W p l e R s m args below meth c H locs cells slots Q (F0 m (pc + 1) ls (.int x :: rest))) : W p l e R s m args below meth c H locs cells slots Q (F0 m pc ls (.int i :: .ref (tt 1) :: rest)) := by
  obtain ⟨h1, rfl⟩ := pl_if hv
  exact va_ti C.1 C.2.1 C.2.2.2.2.2.2.2.2.2.1.2.1.2 hS (pl_ok_in h1) rfl hdg kk
theorem pl_tld2 (C : pl_C p s m args meth c cc nL own ret nm D dA tt b) (hS : va_S (pl_A b) s.heap H locs) {i : Int32} {x : Int64} (hv : pl_tb2 i = some x) (hdg : decode cc pc = .ok (.laload, 1)) (kk : W p l e R s m args below meth c H locs cells slots Q (F0 m (pc + 1) ls (.long x :: rest))) : W p l e R s m args below meth c H locs cells slots Q (F0 m pc ls (.int i :: .ref (tt 2) :: rest)) := by
  obtain ⟨h1, rfl⟩ := pl_if hv
  exact va_tl C.1 C.2.1 C.2.2.2.2.2.2.2.2.2.1.2.2.2 hS (pl_ok_in h1) rfl hdg kk
theorem pl_tlen2 (C : pl_C p s m args meth c cc nL own ret nm D dA tt b) (hS : va_S (pl_A b) s.heap H locs) (hdg : decode cc pc = .ok (.arraylength, 1)) (kk : W p l e R s m args below meth c H locs cells slots Q (F0 m (pc + 1) ls (.int (pl_tn2 : Int32) :: rest))) : W p l e R s m args below meth c H locs cells slots Q (F0 m pc ls (.ref (tt 2) :: rest)) :=
  va_tlen C.1 C.2.1 C.2.2.2.2.2.2.2.2.2.1.2.2.2 hS rfl hdg kk
theorem pl_aldQ2 (C : pl_C p s m args meth c cc nL own ret nm D dA tt b) (w : pl_wd D vwCl dA b n f H) {i : Int32} {x : Option Nat} (hv : pl_aQ f 2 a i = some x) (hdg : decode cc pc = .ok (.aaload, 1))
    (kk : W p l e R s m args below meth c H locs cells slots Q (F0 m (pc + 1) ls (va_rf x :: rest))) : W p l e R s m args below meth c H locs cells slots Q (F0 m pc ls (.int i :: .ref a :: rest)) := by
  obtain ⟨k, g, h1, h2, rfl⟩ := pl_aQ_e hv
  exact va_aldq C.1 C.2.1 C.2.2.2.2.2.2.2.2.1 (pl_P1 (q := (a, .inl (dA 2, k, .inr (.inr (.inr (.inr g)))))) (pl_arr w h1).2) 0 2 rfl rfl h2 hdg kk
theorem pl_aldQ3 (C : pl_C p s m args meth c cc nL own ret nm D dA tt b) (w : pl_wd D vwCl dA b n f H) {i : Int32} {x : Option Nat} (hv : pl_aQ f 3 a i = some x) (hdg : decode cc pc = .ok (.aaload, 1))
    (kk : W p l e R s m args below meth c H locs cells slots Q (F0 m (pc + 1) ls (va_rf x :: rest))) : W p l e R s m args below meth c H locs cells slots Q (F0 m pc ls (.int i :: .ref a :: rest)) := by
  obtain ⟨k, g, h1, hin, rfl⟩ := pl_aQ_e hv
  have hlt : i.toNatClampNeg < k := Nat.not_le.mp fun q => hin (Or.inr q)
  have hK := C.2.2.2.2.2.2.2.2.1
  exact W.aald (v := va_rf (g i.toNatClampNeg)) (ty := .array .int) C.1 C.2.1 (pl_arr w h1).2 ((hK.2 3 _ rfl).1 k (fun j => va_rf (g j))) rfl (fun q => by cases q) (by show ¬ (i < 0 ∨ (arrV _ _ _).slots.size ≤ _); rw [arrV_size]; exact hin) (by show (arrV _ _ _).slots[_]? = _; rw [arrV_read _ _ hlt]) rfl rfl hdg kk
theorem pl_aldZ (C : pl_C p s m args meth c cc nL own ret nm D dA tt b) (w : pl_wd D vwCl dA b n f H) {i x : Int32} (hv : pl_aZ f a i = some x) (hdg : decode cc pc = .ok (.baload, 1))
    (kk : W p l e R s m args below meth c H locs cells slots Q (F0 m (pc + 1) ls (.int x :: rest))) : W p l e R s m args below meth c H locs cells slots Q (F0 m pc ls (.int i :: .ref a :: rest)) := by
  obtain ⟨k, g, h1, h2, rfl⟩ := pl_aZ_e hv
  exact va_zald C.1 C.2.1 C.2.2.2.2.2.2.2.2.1 (pl_P1 (q := (a, .inl (dA 4, k, .inl g))) (pl_arr w h1).2) 0 4 rfl rfl h2 hdg kk
theorem pl_len (C : pl_C p s m args meth c cc nL own ret nm D dA tt b) (w : pl_wd D vwCl dA b n f H) {x : Int32} (hv : pl_ln f a = some x) (hdg : decode cc pc = .ok (.arraylength, 1))
    (kk : W p l e R s m args below meth c H locs cells slots Q (F0 m (pc + 1) ls (.int x :: rest))) : W p l e R s m args below meth c H locs cells slots Q (F0 m pc ls (.ref a :: rest)) := by
  obtain ⟨t, y, h1, ht, rfl⟩ := pl_ln_e hv
  have hK := C.2.2.2.2.2.2.2.2.1
  have hP : va_P D vwCl [(a, .inl (dA t, y))] H := pl_P1 (pl_arr w h1).2
  match t, ht, hP with
  | 0, _, hP => exact va_alen C.1 C.2.1 hK hP 0 0 rfl rfl rfl hdg kk
  | 1, _, hP => exact va_alen C.1 C.2.1 hK hP 0 1 rfl rfl rfl hdg kk
  | 2, _, hP => exact va_alen C.1 C.2.1 hK hP 0 2 rfl rfl rfl hdg kk
  | 3, _, hP => exact va_alen C.1 C.2.1 hK hP 0 3 rfl rfl rfl hdg kk
  | 4, _, hP => exact va_alen C.1 C.2.1 hK hP 0 4 rfl rfl rfl hdg kk
  | t + 5, h, _ => exact absurd h (by omega)
theorem pl_astZ (C : pl_C p s m args meth c cc nL own ret nm D dA tt b) (w : pl_wd D vwCl dA b n f H) (hS : va_S (pl_A b) s.heap H locs) {i x : Int32} (hv : pl_sZ f a i x = some f') (hdg : decode cc pc = .ok (.bastore, 1))
    (kk : ∀ (H : Heap) (locs : List Loc), pl_wd D vwCl dA b n f' H → va_S (pl_A b) s.heap H locs → W p l e R s m args below meth c H locs cells slots Q (F0 m (pc + 1) ls rest)) : W p l e R s m args below meth c H locs cells slots Q (F0 m pc ls (.int x :: .int i :: .ref a :: rest)) := by
  obtain ⟨k, g, h1, hin, hnr, rfl⟩ := pl_sZ_e hv
  obtain ⟨hi0, hcell⟩ := pl_arr w h1
  have hK := C.2.2.2.2.2.2.2.2.1
  refine W.zast C.1 C.2.1 hcell ((hK.2 4 _ rfl).1 k (fun j => .int (g j))) (fun q => by cases q) (by show ¬ (i < 0 ∨ (arrV _ _ _).slots.size ≤ _); rw [arrV_size]; exact hin) rfl rfl hdg fun H1 e z oq => ?_
  refine kk H1 _ (pl_set w hi0 (e := .inl (4, k, .inl (upd g i.toNatClampNeg x))) ?_ z oq) (hS.put z oq hi0.1)
  show H1[a]? = some (vp_cell _ _)
  rw [e, hnr]
  rw [vp_cell_i, vp_cell_i, arrV_store]
  congr 2
  funext q
  by_cases hq : q = i.toNatClampNeg
  · subst hq
    simp [updV, upd]
  · simp [updV, upd, hq]
theorem pl_astQ2 (C : pl_C p s m args meth c cc nL own ret nm D dA tt b) (w : pl_wd D vwCl dA b n f H) (hS : va_S (pl_A b) s.heap H locs) {i : Int32} {r : Option Nat} (hv : pl_sQ f 2 3 a i r = some f') (hdg : decode cc pc = .ok (.aastore, 1))
    (kk : ∀ (H : Heap) (locs : List Loc), pl_wd D vwCl dA b n f' H → va_S (pl_A b) s.heap H locs → W p l e R s m args below meth c H locs cells slots Q (F0 m (pc + 1) ls rest)) : W p l e R s m args below meth c H locs cells slots Q (F0 m pc ls (va_rf r :: .int i :: .ref a :: rest)) := by
  obtain ⟨k, g, h1, hin, rfl, hob⟩ := pl_sQ_e hv
  obtain ⟨hi0, hcell⟩ := pl_arr w h1
  have hK := C.2.2.2.2.2.2.2.2.1
  have hlt : i.toNatClampNeg < k := Nat.not_le.mp fun q => hin (Or.inr q)
  have h0 : ¬ i < 0 := fun q => hin (Or.inl q)
  have fin : ∀ (H1 : Heap), H1[a]? = some ((vp_cell (dA 2) (k, .inr (.inr (.inr (.inr g))))).setSlot i.toNatClampNeg (va_rf r)) → H1.size = H.size → (∀ q : Nat, q ≠ a → H1[q]? = H[q]?) → W p l e R s m args below meth c H1 (locs ++ [⟨a, i.toNatClampNeg⟩]) cells slots Q (F0 m (pc + 1) ls rest) := by
    intro H1 e z oq
    refine kk H1 _ (pl_set w hi0 (e := .inl (2, k, .inr (.inr (.inr (.inr (va_up g i.toNatClampNeg r)))))) ?_ z oq) (hS.put z oq hi0.1)
    show H1[a]? = some (vp_cell _ _)
    rw [e]
    rw [vp_cell_q, vp_cell_q, arrV_store]
    congr 2
    funext q
    by_cases hq : q = i.toNatClampNeg
    · subst hq
      simp [updV, va_up]
    · simp [updV, va_up, hq]
  cases r with
  | none =>
    exact va_WaastN (C := "ProvenLedger$Node") C.1 C.2.1 hcell ((hK.2 2 _ rfl).1 k (fun j => va_rf (g j))) (fun h => by cases h) (by show ¬ (i < 0 ∨ (arrV _ _ _).slots.size ≤ _); rw [arrV_size]; exact hin) rfl rfl hdg fin
  | some v =>
    obtain ⟨vs, hv2⟩ := hob v rfl
    obtain ⟨hiv, r', hr', cellV, g1, g2, g3, -⟩ := pl_obj w (by decide) hv2
    have hcls := (hK.1 3 _ rfl).2
    obtain ⟨kA, comp, k1, k2, k3, -⟩ := (hK.2 2 _ rfl).2
    have hcomp : comp = D.1 3 := Option.some.inj (k3.symm.trans hcls.1)
    subst hcomp
    obtain ⟨kC, hkC, -⟩ := hcls.2
    exact W.aast C.1 C.2.1 hcell (fun q h => by cases h) (fun h => by cases h) k1 k2 rfl hkC ⟨h0, by show _ < (arrV _ _ _).slots.size; rw [arrV_size]; exact hlt⟩ g1 (fun q h => by rw [g3] at h; cases h) (by rw [g2]; exact hkC) (by rw [g2]; exact va_assign hcls) rfl rfl hdg fin
theorem pl_putZ (C : pl_C p s m args meth c cc nL own ret nm D dA tt b) (w : pl_wd D vwCl dA b n f H) (hS0 : va_S (pl_A b) s.heap H locs) {Cn : String} {T : u_T} {N ci index : Nat} (hin : ∀ w ∈ u_ws Cn T N, w ∈ pl_tb) (hc : vwCl[ci]? = some (Cn, T, N)) (hci : ci ≠ 1000) {ty0 : Nat → FieldType} (hty : ∀ k, k < N → parseFieldDescriptor (T k).2.2.1 = some (ty0 k)) (hnm : ∀ a, a < N → ∀ b, b < N → a ≠ b → (T a).2.1 ≠ (T b).2.1) (k : Nat) (hk : k < N) (hm : Cond.fieldLink own index (T k).1 (T k).2.1 (T k).2.2.1 ∈ pl_tb) {x : Int32} (hfin : (T k).2.2.2 = false) (hz : ty0 k = .boolean) (hv : pl_pZ f a ci k x = some f') (hdg : decode cc pc = .ok (.putfield index, 3))
    (kk : ∀ (H : Heap) (locs : List Loc), pl_wd D vwCl dA b n f' H → va_S (pl_A b) s.heap H locs → W p l e R s m args below meth c H locs cells slots Q (F0 m (pc + 3) ls rest)) : W p l e R s m args below meth c H locs cells slots Q (F0 m pc ls (.int x :: .ref a :: rest)) := by
  obtain ⟨z, h1, h2⟩ := pl_bd hv
  obtain ⟨rfl, h3, h4⟩ := pl_z_e h1
  exact pl_put C w hS0 hin hc hci hty hnm k hk hm hfin (by rw [hz]; exact h3) (by rw [hz]; exact h4) h2 hdg kk
-- members of a nest mate
theorem pl_getNV (C : pl_C p s m args meth c cc nL own ret nm D dA tt b) (w : pl_wd D vwCl dA b n f H) {Cn host : String} {T : u_T} {N ci index : Nat} (hin : ∀ w ∈ u_ws Cn T N, w ∈ pl_tb) (hc : vwCl[ci]? = some (Cn, T, N)) (hci : ci ≠ 1000) (k : Nat) (hk : k < N) (hm : va_Nw (Cond.fieldLinkNest own index (T k).1 (T k).2.1 (T k).2.2.1 host) s) {v : Value} (hv : pl_gV f a ci k = some v) (hdg : decode cc pc = .ok (.getfield index, 3))
    (kk : W p l e R s m args below meth c H locs cells slots Q (F0 m (pc + 3) ls (v :: rest))) : W p l e R s m args below meth c H locs cells slots Q (F0 m pc ls (.ref a :: rest)) := by
  obtain ⟨hx, hb, hml, hr, hown, hlk, hts, hnm, hK⟩ := C
  obtain ⟨fs, h1, h2⟩ := pl_gV_e hv
  exact va_getN hx hb hts hin hown hK.1 (pl_P1 (pl_obj w hci h1).2) 0 rfl hc k hk (va_Nw.use rfl hm) (fun _ h => h) h2 hdg kk
theorem pl_getNI (C : pl_C p s m args meth c cc nL own ret nm D dA tt b) (w : pl_wd D vwCl dA b n f H) {Cn host : String} {T : u_T} {N ci index : Nat} (hin : ∀ w ∈ u_ws Cn T N, w ∈ pl_tb) (hc : vwCl[ci]? = some (Cn, T, N)) (hci : ci ≠ 1000) (k : Nat) (hk : k < N) (hm : va_Nw (Cond.fieldLinkNest own index (T k).1 (T k).2.1 (T k).2.2.1 host) s) {x : Int32} (hv : pl_gI f a ci k = some x) (hdg : decode cc pc = .ok (.getfield index, 3))
    (kk : W p l e R s m args below meth c H locs cells slots Q (F0 m (pc + 3) ls (.int x :: rest))) : W p l e R s m args below meth c H locs cells slots Q (F0 m pc ls (.ref a :: rest)) := by
  obtain ⟨v, h1, h2⟩ := pl_bd hv
  have h3 := pl_vI_e h2
  subst h3
  exact pl_getNV C w hin hc hci k hk hm h1 hdg kk
theorem pl_getNR (C : pl_C p s m args meth c cc nL own ret nm D dA tt b) (w : pl_wd D vwCl dA b n f H) {Cn host : String} {T : u_T} {N ci index : Nat} (hin : ∀ w ∈ u_ws Cn T N, w ∈ pl_tb) (hc : vwCl[ci]? = some (Cn, T, N)) (hci : ci ≠ 1000) (k : Nat) (hk : k < N) (hm : va_Nw (Cond.fieldLinkNest own index (T k).1 (T k).2.1 (T k).2.2.1 host) s) {x : Nat} (hv : pl_gR f a ci k = some x) (hdg : decode cc pc = .ok (.getfield index, 3))
    (kk : W p l e R s m args below meth c H locs cells slots Q (F0 m (pc + 3) ls (.ref x :: rest))) : W p l e R s m args below meth c H locs cells slots Q (F0 m pc ls (.ref a :: rest)) := by
  obtain ⟨v, h1, h2⟩ := pl_bd hv
  have h3 := pl_vR_e h2
  subst h3
  exact pl_getNV C w hin hc hci k hk hm h1 hdg kk
theorem pl_putN (C : pl_C p s m args meth c cc nL own ret nm D dA tt b) (w : pl_wd D vwCl dA b n f H) (hS0 : va_S (pl_A b) s.heap H locs) {Cn host : String} {T : u_T} {N ci index : Nat} (hin : ∀ w ∈ u_ws Cn T N, w ∈ pl_tb) (hc : vwCl[ci]? = some (Cn, T, N)) (hci : ci ≠ 1000) {ty0 : Nat → FieldType} (hty : ∀ k, k < N → parseFieldDescriptor (T k).2.2.1 = some (ty0 k)) (hnm : ∀ a, a < N → ∀ b, b < N → a ≠ b → (T a).2.1 ≠ (T b).2.1) (k : Nat) (hk : k < N) (hm : va_Nw (Cond.fieldLinkNest own index (T k).1 (T k).2.1 (T k).2.2.1 host) s) {v : Value} (hfin : (T k).2.2.2 = false) (hn : narrow (ty0 k) v = v) (hfit : fits (ty0 k) v = true) (hv : pl_pV f a ci k v = some f') (hdg : decode cc pc = .ok (.putfield index, 3))
    (kk : ∀ (H : Heap) (locs : List Loc), pl_wd D vwCl dA b n f' H → va_S (pl_A b) s.heap H locs → W p l e R s m args below meth c H locs cells slots Q (F0 m (pc + 3) ls rest)) : W p l e R s m args below meth c H locs cells slots Q (F0 m pc ls (v :: .ref a :: rest)) := by
  obtain ⟨hx, hb, hml, hr, hown, hlk, hts, hnm', hK0⟩ := C
  have hK := hK0.1
  obtain ⟨fs, h1, hl, rfl⟩ := pl_pV_e hv
  obtain ⟨hi0, r, hr1, cell, q1, q2, q3, q4⟩ := pl_obj w hci h1
  have hap := va_apart (own := own) hts hin ty0 hty hnm hK hc
  have hr : r = (Cn, T, N) := Option.some.inj (hr1.symm.trans hc)
  subst hr
  obtain ⟨hS, hfc, kC, hkC, hkind⟩ := hK.1 ci _ hc
  obtain ⟨cf, kf, fi, fd, hi, hsl⟩ := hS k hk
  have hlay := hts _ (hin _ (u_in_lay hk))
  unfold u_lay at hlay
  rw [if_neg (by rw [hfin]; decide)] at hlay
  have hst := (u_facts hfc hkC (u_lays hts hin hk) hi).1
  have h6 := u_store hfc hkC hkind hlay hi (hty k hk) hn hfit
  refine va_WputK hx hb (f := fd) hown (va_Nw.use rfl hm) hi hst (by rw [q2]; exact h6) q1 q3 (by rw [hsl]; exact k2_hasslot (q4 k hk)) rfl rfl hdg fun H' e1 e2 e3 => ?_
  rw [hsl] at e1 ⊢
  exact kk H' _ (pl_set w hi0 (e := .inr (ci, fs.set k v)) ⟨_, hc, t_OB.to (V := updV (vp_V fs) k v) ⟨_, e1, q2, q3, t_set q4 hap hk v⟩ (fun j _ => vp_updV_set hl v j)⟩ e2 e3) (hS0.put e2 e3 hi0.1)
variable {st0 : List Value} {n' mc ms : Nat}
theorem pl_runSN (C : pl_C p s m args meth c cc nL own ret nm D dA tt b) {y : MethodName} {host : String} {bytes : ByteArray} {maxL index k : Nat} {ret' : Option FieldType} {rm : Room} {Qc : Array Value → State → Outcome → State → Prop} {As : List Value}
    (hM : Met l y (Cond.code y bytes maxL ret' :: pl_tb) rm (va_Pc As (pl_pre D dA tt b n f)) Qc mc ms (pl_A b)) (w : pl_wd D vwCl dA b n f H) (hS : va_S (pl_A b) s.heap H locs) (hrc : rm.cells = mc) (hrs : rm.slots = ms)
    (m1 : va_Nw (Cond.methodLinkNest own index y host) s) (m2 : Cond.static y ∈ pl_tb) (m4 : Cond.initialized y.cls ∈ pl_tb) (m5 : Cond.code y bytes maxL ret' ∈ pl_tb)
    (hd : y.cls ≠ "java/lang/invoke/MethodHandle" ∧ y.cls ≠ "java/lang/invoke/VarHandle" ∧ (parseMethodDescriptor y.desc).map (fun d => d.parameters.length) = some k) (hR : rm.frames + 1 ≤ R.frames ∧ 8 + (maxL + 11) + rm.locals ≤ R.locals)
    (hn : As.length = k) (hsize : ls.size = nL) (hW : (rest.map fun v => v.category).sum ≤ 8) (hf : cells + mc ≤ R.cells ∧ slots + ms ≤ R.slots) (hst : st0 = As.reverse ++ rest) (hdg : decode cc pc = .ok (.invokestatic index, 3)) :
    va_Run p l e R s m args below meth c H locs cells slots mc ms (F0 m pc ls st0) rest (Qc As.toArray) (pl_A b) := by
  have hts := C.2.2.2.2.2.2.1
  exact va_runSN ⟨C.1, C.2.1, C.2.2.1, C.2.2.2.2.1, hts⟩ hM ⟨va_cnB k hts (pl_good m5) rfl hrc hrs m1 (hts _ m4) hd hR, hts _ m2, trivial⟩ ⟨pl_blind, pl_preU C w hS⟩ rfl hn hsize hst (lv_room hW) hdg hf
-- the JDK's own
theorem pl_max (C : pl_C p s m args meth c cc nL own ret nm D dA tt b) {index : Nat} (hm : Cond.methodLink own index ⟨"java/lang/Math", "max", "(II)I"⟩ ∈ pl_tb) (m2 : Cond.static ⟨"java/lang/Math", "max", "(II)I"⟩ ∈ pl_tb) (m3 : Cond.initialized "java/lang/Math" ∈ pl_tb) (m4 : Cond.code Lib.Math.max.name Lib.Math.max.code 2 (some .int) ∈ pl_tb) (hfr : 1 ≤ R.frames) (hlo : (rest.map fun v => v.category).sum + 13 ≤ R.locals) (hls : ls.size = nL) (hcs : cells ≤ R.cells ∧ slots ≤ R.slots) {x y : Int32} (hdg : decode cc pc = .ok (.invokestatic index, 3))
    (kk : W p l e R s m args below meth c H locs cells slots Q (F0 m (pc + 3) ls (.int (if x < y then y else x) :: rest))) : W p l e R s m args below meth c H locs cells slots Q (F0 m pc ls (.int y :: .int x :: rest)) := by
  have hts := C.2.2.2.2.2.2.1
  exact va_mmax C.1 C.2.1 (by rw [C.2.2.1, hls]) C.2.2.2.2.1 (hts _ hm) (hts _ m2) (hts _ m3) (hts _ m4) hfr hlo hcs.1 hcs.2 hdg kk
def pl_cp (f : pl_H) (sa : Nat) (sp : Int32) (da : Nat) (dp k : Int32) : Option pl_H := match f sa with
  | .inl (0, n0, .inl g0) => (match f da with
    | .inl (0, n1, .inl g1) => if ¬ sp < 0 ∧ ¬ dp < 0 ∧ ¬ k < 0 ∧ sp.toNatClampNeg + k.toNatClampNeg ≤ n0 ∧ dp.toNatClampNeg + k.toNatClampNeg ≤ n1 then some (va_up f da (.inl (0, n1, .inl (va_cpy g0 g1 sp.toNatClampNeg dp.toNatClampNeg k.toNatClampNeg)))) else none
    | _ => none)
  | _ => none
theorem pl_cp_e {f f' : pl_H} {sa da : Nat} {sp dp k : Int32} (h : pl_cp f sa sp da dp k = some f') : ∃ (n0 n1 : Nat) (g0 g1 : Nat → Int32), f sa = .inl (0, n0, .inl g0) ∧ f da = .inl (0, n1, .inl g1) ∧ (¬ sp < 0 ∧ ¬ dp < 0 ∧ ¬ k < 0 ∧ sp.toNatClampNeg + k.toNatClampNeg ≤ n0 ∧ dp.toNatClampNeg + k.toNatClampNeg ≤ n1) ∧ f' = va_up f da (.inl (0, n1, .inl (va_cpy g0 g1 sp.toNatClampNeg dp.toNatClampNeg k.toNatClampNeg))) := by
  unfold pl_cp at h
  split at h
  · rename_i n0 g0 h0
    split at h
    · rename_i n1 g1 h1
      split at h
      · rename_i hc
        cases h
        exact ⟨n0, n1, g0, g1, h0, h1, hc, rfl⟩
      · cases h
    · cases h
  · cases h
theorem pl_copy (C : pl_C p s m args meth c cc nL own ret nm D dA tt b) (w : pl_wd D vwCl dA b n f H) (hS : va_S (pl_A b) s.heap H locs) {index : Nat} (hm : Cond.methodLink own index ⟨"java/lang/System", "arraycopy", "(Ljava/lang/Object;ILjava/lang/Object;II)V"⟩ ∈ pl_tb) (m2 : Cond.native ⟨"java/lang/System", "arraycopy", "(Ljava/lang/Object;ILjava/lang/Object;II)V"⟩ ∈ pl_tb) (m3 : Cond.static ⟨"java/lang/System", "arraycopy", "(Ljava/lang/Object;ILjava/lang/Object;II)V"⟩ ∈ pl_tb) (m4 : Cond.initialized "java/lang/System" ∈ pl_tb) (hls : ls.size = nL) {sa : Nat} {sp dp k : Int32} (hv : pl_cp f sa sp a dp k = some f')
    (hframes : 1 ≤ R.frames) (hlocals : (rest.map fun v => v.category).sum + (nativeFrameWords "java/lang/System" "arraycopy" 5 + 11) ≤ R.locals) (hdg : decode cc pc = .ok (.invokestatic index, 3))
    (kk : ∀ (H : Heap) (locs : List Loc), pl_wd D vwCl dA b n f' H → va_S (pl_A b) s.heap H locs → W p l e R s m args below meth c H locs cells slots Q (F0 m (pc + 3) ls rest)) : W p l e R s m args below meth c H locs cells slots Q (F0 m pc ls (.int k :: .int dp :: .ref a :: .int sp :: .ref sa :: rest)) := by
  obtain ⟨n0, n1, g0, g1, e0, e1, ⟨h1, h2, h3, h4, h5⟩, rfl⟩ := pl_cp_e hv
  have hts := C.2.2.2.2.2.2.1
  have hK := C.2.2.2.2.2.2.2.2.1
  have nn : ∀ z : Int32, ¬ z < 0 → z.toInt = (z.toNatClampNeg : Int) := by
    intro z hz
    have hz0 : (0 : Int) ≤ z.toInt := by
      have := Int32.not_lt.mp hz
      simpa using Int32.le_iff_toInt_le.mp this
    show z.toInt = ((z.toInt.toNat : Nat) : Int)
    omega
  intro T hT X
  obtain ⟨hi0, hc0⟩ := pl_arr w e0
  obtain ⟨hi1, hc1⟩ := pl_arr w e1
  obtain ⟨-, k0, hk0, cm0, hkk0⟩ := (hK.2 0 _ rfl).1 n0 (fun j => .int (g0 j))
  obtain ⟨-, k1, hk1, cm1, hkk1⟩ := (hK.2 0 _ rfl).1 n1 (fun j => .int (g1 j))
  obtain ⟨vm', X', step⟩ := X.arraycopy C.1 C.2.2.2.2.1 (hts _ hm) (hts _ m2) (hts _ m3) (hts _ m4) (src := sa) (dst := a) (cs := vp_cell (dA 0) (n0, .inl g0)) (cd := vp_cell (dA 0) (n1, .inl g1)) (srcPos := sp) (destPos := dp) (n := k) (by rw [hT]; exact hc0) (by rw [hT]; exact hc1)
    (fun _ h => by cases h) (fun _ h => by cases h) (fun h => by cases h) (fun h => by cases h) hk0 hk1 hkk0 hkk1 (by simp [refKind]) h1 h2 h3
    (by rw [nn sp h1, nn k h3]; show ¬ _ > ((arrV (dA 0) n0 (fun j => .int (g0 j))).slots.size : Int); rw [arrV_size]; omega)
    (by rw [nn dp h2, nn k h3]; show ¬ _ > ((arrV (dA 0) n1 (fun j => .int (g1 j))).slots.size : Int); rw [arrV_size]; omega)
    (fun vm₁ _ i hi => by
      have e : (vp_cell (dA 0) (n0, .inl g0)).slots.getD (sp.toNatClampNeg + i) .null = .int (g0 (sp.toNatClampNeg + i)) := by
        show (arrV (dA 0) n0 (fun j => .int (g0 j))).slots.getD _ _ = _
        rw [Array.getD_eq_getD_getElem?, arrV_read _ _ (by omega)]
        rfl
      refine ⟨?_, ?_⟩
      · rw [e]
        rfl
      · rw [e]
        exact trivial)
    (g := F0 m pc ls (.int k :: .int dp :: .ref a :: .int sp :: .ref sa :: rest)) rfl (by rw [C.2.2.1, ← hls]) (rest := rest) rfl (by rw [C.2.1]; exact hdg) hframes (by show 2 * 0 + _ + _ ≤ _; omega)
  have e2 : copied (vp_cell (dA 0) (n0, .inl g0)) (vp_cell (dA 0) (n1, .inl g1)) sp dp k = vp_cell (dA 0) (n1, .inl (va_cpy g0 g1 sp.toNatClampNeg dp.toNatClampNeg k.toNatClampNeg)) := va_copied (fun z => .int z) (dA 0) (dA 0) g0 g1 h4
  rw [e2] at X' step
  have hl : a < H.size := (Array.getElem?_eq_some_iff.mp hc1).1
  have hheap : ((T.setVm vm').setCell a (vp_cell (dA 0) (n1, .inl (va_cpy g0 g1 sp.toNatClampNeg dp.toNatClampNeg k.toNatClampNeg)))).heap = H.setIfInBounds a (vp_cell (dA 0) (n1, .inl (va_cpy g0 g1 sp.toNatClampNeg dp.toNatClampNeg k.toNatClampNeg))) := by rw [← hT]; rfl
  have oq : ∀ q : Nat, q ≠ a → (H.setIfInBounds a (vp_cell (dA 0) (n1, .inl (va_cpy g0 g1 sp.toNatClampNeg dp.toNatClampNeg k.toNatClampNeg))))[q]? = H[q]? := fun q hq => by simp [Array.getElem?_setIfInBounds, Ne.symm hq]
  obtain ⟨t, a1, b1⟩ := kk _ _ (pl_set w hi1 (e := .inl (0, n1, .inl (va_cpy g0 g1 sp.toNatClampNeg dp.toNatClampNeg k.toNatClampNeg))) (show (H.setIfInBounds a _)[a]? = some _ by simp [Array.getElem?_setIfInBounds, hl]) (by simp) oq) ⟨by simp; exact hS.1, fun q g1 g2 => by
      rw [oq q (fun e => g2 (by rw [e]; exact hi1.1))]
      exact hS.2.1 q g1 g2, fun q hq => by
      rcases List.mem_append.mp hq with h | h
      · exact hS.2.2 q h
      · obtain ⟨z, -, hz⟩ := List.mem_map.mp h
        rw [← hz]
        exact hi1.1⟩ _ hheap X'
  exact ⟨t, step t a1, b1⟩
end PLS
