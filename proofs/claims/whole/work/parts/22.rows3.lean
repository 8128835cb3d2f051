/-! Rows that make cells: objects, arrays, arrays of arrays; constructors' calls. -/
def pl_mk (f : pl_H) (a : Nat) (e : va_E) : Option pl_H := some (va_up f a e)
theorem pl_mk_e {f f' : pl_H} {a : Nat} {e : va_E} (h : pl_mk f a e = some f') : f' = va_up f a e := (Option.some.inj h).symm
def pl_mn (f : pl_H) (a N K : Nat) : Option pl_H := some (fun q => if q = a then .inl (3, N, .inr (.inr (.inr (.inr (fun j => if j < N then some (a + 1 + j) else none))))) else if a < q ∧ q < a + 1 + N then .inl (0, K, .inl (fun _ => 0)) else f q)
theorem pl_outer (c : ClassId) (N h0 : Nat) : ∀ i : Nat, Jvm.Free.Multi.outerC c N h0 i = arrV c N (fun j => va_rf (if j < i then some (h0 + 1 + j) else none))
  | 0 => by
    show ({ cls := c, slots := Array.replicate N .null, vm := .none } : Cell) = _
    rw [arrV_new]
    refine congrArg (arrV c N) (funext fun j => ?_)
    simp [va_rf]
  | i + 1 => by
    show (Jvm.Free.Multi.outerC c N h0 i).setSlot i (.ref (h0 + 1 + i)) = _
    rw [pl_outer c N h0 i, arrV_store]
    refine congrArg (arrV c N) (funext fun j => ?_)
    by_cases e : j = i
    · subst e
      simp [updV, va_rf]
    · by_cases h : j < i
      · simp [updV, e, h, Nat.lt_succ_of_lt h]
      · simp [updV, e, h, show ¬ j < i + 1 by omega]
section PLA
variable {p : Program} {l : Launch} {e : Env} {R : Room} {s : State} {m : MethodId} {args : Array Value} {below : List Frame} {meth : Method} {c : Code} {H : Heap} {locs : List Loc} {cells slots : Nat} {Q : State → Prop}
variable {cc : ByteArray} {nL : Nat} {own nm : String} {ret : Option FieldType} {pc : Nat} {ls : Array Slot} {rest : List Value} {D : va_G} {dA : Nat → ClassId} {tt : Nat → Nat} {b n a : Nat} {f f' : pl_H}
theorem pl_grow {H1 : Heap} (hS : va_S (pl_A b) s.heap H locs) (z : H.size ≤ H1.size) (oq : ∀ q : Nat, q < H.size → H1[q]? = H[q]?) : va_S (pl_A b) s.heap H1 locs := ⟨Nat.le_trans hS.1 z, fun x h1 h2 => (oq x (Nat.lt_of_lt_of_le h1 hS.1)).trans (hS.2.1 x h1 h2), hS.2.2⟩
theorem pl_new (C : pl_C p s m args meth c cc nL own ret nm D dA tt b) (w : pl_wd D vwCl dA b n f H) (hS : va_S (pl_A b) s.heap H locs) {Cn : String} {T : u_T} {N ci index : Nat} (hin : ∀ w ∈ u_ws Cn T N, w ∈ pl_tb) (hc : vwCl[ci]? = some (Cn, T, N)) {ty0 : Nat → FieldType} (hty : ∀ k, k < N → parseFieldDescriptor (T k).2.2.1 = some (ty0 k)) {fs : List Value} (hfs : ∀ j, j < N → defaultValue (ty0 j) = vp_V fs j) (m1 : Cond.classLink own index Cn ∈ pl_tb) (m2 : Cond.instantiable Cn N ∈ pl_tb) (m3 : Cond.initialized Cn ∈ pl_tb) (hcells : cells + 1 ≤ R.cells) (hslots : slots + N ≤ R.slots) (hv : pl_mk f n (.inr (ci, fs)) = some f') (hdg : decode cc pc = .ok (.new index, 3))
    (kk : ∀ (H : Heap), pl_wd D vwCl dA b (n + 1) f' H → va_S (pl_A b) s.heap H locs → W p l e R s m args below meth c H locs (cells + 1) (slots + N) Q (F0 m (pc + 3) ls (.ref n :: rest))) : W p l e R s m args below meth c H locs cells slots Q (F0 m pc ls rest) := by
  have hv := pl_mk_e hv
  subst hv
  obtain ⟨hx, hb, hml, hr, hown, hlk, hts, hnm, hK0⟩ := C
  have hKn := hK0.1.1 ci _ hc
  refine W.newcK hx hb hown (hts _ m1) (hts _ m2) (hts _ m3) rfl hdg hcells hslots hKn.2.1 w.1 fun H1 kC hkC e1 z1 o1 => ?_
  exact kk H1 (pl_push w (e := .inr (ci, fs)) ⟨_, hc, (u_born ty0 hts hin hKn hkC e1 hty).to hfs⟩ z1 o1) (pl_grow hS (by rw [z1, w.1]; omega) (fun q hq => o1 q (by rw [← w.1]; exact hq)))
theorem pl_newI (C : pl_C p s m args meth c cc nL own ret nm D dA tt b) (w : pl_wd D vwCl dA b n f H) (hS : va_S (pl_A b) s.heap H locs) (m1 : Cond.arrayClass .int ∈ pl_tb) {k : Int32} {N : Nat} (hk : ¬ k < 0) (hN : k.toNatClampNeg = N) (hby : N * componentBytes .int ≤ 536870912) (hcells : cells + 1 ≤ R.cells) (hslots : slots + N ≤ R.slots) (hv : pl_mk f n (.inl (0, N, .inl (fun _ => 0))) = some f') (hdg : decode cc pc = .ok (.newarray .int, 2))
    (kk : ∀ (H : Heap), pl_wd D vwCl dA b (n + 1) f' H → va_S (pl_A b) s.heap H locs → W p l e R s m args below meth c H locs (cells + 1) (slots + N) Q (F0 m (pc + 2) ls (.ref n :: rest))) : W p l e R s m args below meth c H locs cells slots Q (F0 m pc ls (.int k :: rest)) := by
  have hv := pl_mk_e hv
  subst hv
  obtain ⟨hx, hb, hml, hr, hown, hlk, hts, hnm, hK0⟩ := C
  refine va_newaK (atype := .int) hx hb (hts _ m1) rfl hdg rfl hk hN hby hcells hslots w.1 fun H1 cA e1 z1 o1 hAr hNm => ?_
  have hcA : cA = dA 0 := Option.some.inj (hNm.symm.trans (hK0.1.2 0 _ rfl).2)
  subst hcA
  exact kk H1 (pl_push w (e := .inl (0, N, .inl (fun _ => 0))) (show H1[n]? = some (vp_cell _ _) by rw [vp_cell_i]; exact e1) z1 o1) (pl_grow hS (by rw [z1, w.1]; omega) (fun q hq => o1 q (by rw [← w.1]; exact hq)))
theorem pl_newL (C : pl_C p s m args meth c cc nL own ret nm D dA tt b) (w : pl_wd D vwCl dA b n f H) (hS : va_S (pl_A b) s.heap H locs) (m1 : Cond.arrayClass .long ∈ pl_tb) {k : Int32} {N : Nat} (hk : ¬ k < 0) (hN : k.toNatClampNeg = N) (hby : N * componentBytes .long ≤ 536870912) (hcells : cells + 1 ≤ R.cells) (hslots : slots + N ≤ R.slots) (hv : pl_mk f n (.inl (1, N, .inr (.inl (fun _ => 0)))) = some f') (hdg : decode cc pc = .ok (.newarray .long, 2))
    (kk : ∀ (H : Heap), pl_wd D vwCl dA b (n + 1) f' H → va_S (pl_A b) s.heap H locs → W p l e R s m args below meth c H locs (cells + 1) (slots + N) Q (F0 m (pc + 2) ls (.ref n :: rest))) : W p l e R s m args below meth c H locs cells slots Q (F0 m pc ls (.int k :: rest)) := by
  have hv := pl_mk_e hv
  subst hv
  obtain ⟨hx, hb, hml, hr, hown, hlk, hts, hnm, hK0⟩ := C
  refine va_newaK (atype := .long) hx hb (hts _ m1) rfl hdg rfl hk hN hby hcells hslots w.1 fun H1 cA e1 z1 o1 hAr hNm => ?_
  have hcA : cA = dA 1 := Option.some.inj (hNm.symm.trans (hK0.1.2 1 _ rfl).2)
  subst hcA
  exact kk H1 (pl_push w (e := .inl (1, N, .inr (.inl (fun _ => 0)))) (show H1[n]? = some (vp_cell _ _) by rw [vp_cell_l]; exact e1) z1 o1) (pl_grow hS (by rw [z1, w.1]; omega) (fun q hq => o1 q (by rw [← w.1]; exact hq)))
theorem pl_newZ (C : pl_C p s m args meth c cc nL own ret nm D dA tt b) (w : pl_wd D vwCl dA b n f H) (hS : va_S (pl_A b) s.heap H locs) (m1 : Cond.arrayClass .boolean ∈ pl_tb) {k : Int32} {N : Nat} (hk : ¬ k < 0) (hN : k.toNatClampNeg = N) (hby : N * componentBytes .boolean ≤ 536870912) (hcells : cells + 1 ≤ R.cells) (hslots : slots + N ≤ R.slots) (hv : pl_mk f n (.inl (4, N, .inl (fun _ => 0))) = some f') (hdg : decode cc pc = .ok (.newarray .boolean, 2))
    (kk : ∀ (H : Heap), pl_wd D vwCl dA b (n + 1) f' H → va_S (pl_A b) s.heap H locs → W p l e R s m args below meth c H locs (cells + 1) (slots + N) Q (F0 m (pc + 2) ls (.ref n :: rest))) : W p l e R s m args below meth c H locs cells slots Q (F0 m pc ls (.int k :: rest)) := by
  have hv := pl_mk_e hv
  subst hv
  obtain ⟨hx, hb, hml, hr, hown, hlk, hts, hnm, hK0⟩ := C
  refine va_newaK (atype := .boolean) hx hb (hts _ m1) rfl hdg rfl hk hN hby hcells hslots w.1 fun H1 cA e1 z1 o1 hAr hNm => ?_
  have hcA : cA = dA 4 := Option.some.inj (hNm.symm.trans (hK0.1.2 4 _ rfl).2)
  subst hcA
  exact kk H1 (pl_push w (e := .inl (4, N, .inl (fun _ => 0))) (show H1[n]? = some (vp_cell _ _) by rw [vp_cell_i]; exact e1) z1 o1) (pl_grow hS (by rw [z1, w.1]; omega) (fun q hq => o1 q (by rw [← w.1]; exact hq)))
theorem pl_newQ (C : pl_C p s m args meth c cc nL own ret nm D dA tt b) (w : pl_wd D vwCl dA b n f H) (hS : va_S (pl_A b) s.heap H locs) {index : Nat} (m1 : Cond.classLink own index "ProvenLedger$Node" ∈ pl_tb) {k : Int32} {N : Nat} (hk : ¬ k < 0) (hN : k.toNatClampNeg = N) (hby : N * 4 ≤ 536870912) (hcells : cells + 1 ≤ R.cells) (hslots : slots + N ≤ R.slots) (hv : pl_mk f n (.inl (2, N, .inr (.inr (.inr (.inr (fun _ => none)))))) = some f') (hdg : decode cc pc = .ok (.anewarray index, 3))
    (kk : ∀ (H : Heap), pl_wd D vwCl dA b (n + 1) f' H → va_S (pl_A b) s.heap H locs → W p l e R s m args below meth c H locs (cells + 1) (slots + N) Q (F0 m (pc + 3) ls (.ref n :: rest))) : W p l e R s m args below meth c H locs cells slots Q (F0 m pc ls (.int k :: rest)) := by
  have hv := pl_mk_e hv
  subst hv
  subst hN
  obtain ⟨hx, hb, hml, hr, hown, hlk, hts, hnm, hK0⟩ := C
  refine W.anew hx hb hown (hts _ m1) (va_AO.use hK0.2.2.2.2.2.2.2.2.2.1) rfl hdg rfl hk hby hcells hslots fun cA kA comp f1 f2 f3 f4 => ?_
  obtain ⟨kA', comp', k1, k2, k3, k4⟩ := (hK0.1.2 2 _ rfl).2
  have hcA : cA = dA 2 := Option.some.inj (f1.symm.trans k4)
  subst hcA
  rw [w.1]
  generalize hH1 : H.push ({ cls := dA 2, slots := Array.replicate k.toNatClampNeg .null, vm := .none } : Cell) = H1
  have z1 : H1.size = n + 1 := by rw [← hH1, Array.size_push, w.1]
  have e1 : H1[n]? = some (arrV (dA 2) k.toNatClampNeg (fun _ => .null)) := by rw [← hH1, ← w.1, Array.getElem?_push_size, ← arrV_new]
  have o1 : ∀ q : Nat, q < n → H1[q]? = H[q]? := fun q hq => by rw [← hH1, Array.getElem?_push, if_neg (Nat.ne_of_lt (by rw [w.1]; exact hq))]
  exact kk H1 (pl_push w (e := .inl (2, k.toNatClampNeg, .inr (.inr (.inr (.inr (fun _ => none)))))) (show H1[n]? = some (vp_cell _ _) by rw [vp_cell_q]; exact e1) z1 o1) (pl_grow hS (by rw [z1, w.1]; omega) (fun q hq => o1 q (by rw [← w.1]; exact hq)))
theorem pl_mna (C : pl_C p s m args meth c cc nL own ret nm D dA tt b) (w : pl_wd D vwCl dA b n f H) (hS : va_S (pl_A b) s.heap H locs) {index : Nat} (m1 : Cond.classLink own index "[[I" ∈ pl_tb) (m3 : Cond.arrayClass .int ∈ pl_tb) {k j : Int32} {N K : Nat} (hk : ¬ k < 0) (hj : ¬ j < 0) (hN : k.toNatClampNeg = N) (hK : j.toNatClampNeg = K) (hb1 : N * 4 ≤ 536870912) (hb2 : K * componentBytes .int ≤ 536870912) (hb3 : K ≤ 536870912) (hcells : cells + (1 + N) ≤ R.cells) (hslots : slots + (N + N * K) ≤ R.slots) (hv : pl_mn f n N K = some f') (hdg : decode cc pc = .ok (.multianewarray index 2, 4))
    (kk : ∀ (H : Heap), pl_wd D vwCl dA b (n + 1 + N) f' H → va_S (pl_A b) s.heap H locs → W p l e R s m args below meth c H locs (cells + 1 + N) (slots + N + N * K) Q (F0 m (pc + 4) ls (.ref n :: rest))) : W p l e R s m args below meth c H locs cells slots Q (F0 m pc ls (.int j :: .int k :: rest)) := by
  subst hN
  subst hK
  have hv := (Option.some.inj hv).symm
  obtain ⟨hx, hb, hml, hr, hown, hlk, hts, hnm, hK0⟩ := C
  intro T hT Xs
  obtain ⟨vm₁, cA, comp, -, fA, fC, hO, -, X', step⟩ := Xs.multianewarray2F (ty := .int) hx hown (hts _ m1) hK0.2.2.2.2.2.2.2.2.2.2 (hts _ m3) (g := F0 m pc ls (.int j :: .int k :: rest)) rfl (by rw [hb]; exact hdg) rfl hk hj hb1 hb2 hb3 rfl rfl hcells hslots
  have hcA : cA = dA 3 := Option.some.inj (fA.symm.trans (hK0.1.2 3 _ rfl).2)
  have hcC : comp = dA 0 := Option.some.inj (fC.symm.trans (hK0.1.2 0 _ rfl).2)
  subst hcA
  subst hcC
  generalize hF : Jvm.Free.Multi.fill (T.setVm vm₁) (dA 3) (dA 0) k.toNatClampNeg j.toNatClampNeg (defaultValue .int) k.toNatClampNeg = F at X' step
  have hTh : (T.setVm vm₁).heap = H := hT
  obtain ⟨f1, f2, -, -⟩ := Jvm.Free.Multi.fill_facts (T.setVm vm₁) (dA 3) (dA 0) k.toNatClampNeg j.toNatClampNeg (defaultValue .int) k.toNatClampNeg
  rw [hF, hTh] at f1 f2
  have hold : ∀ x : Nat, x < H.size → F.heap[x]? = H[x]? := fun x hx => by
    have := Jvm.Free.Multi.fill_old (T.setVm vm₁) (dA 3) (dA 0) k.toNatClampNeg j.toNatClampNeg (defaultValue .int) (a := x) (by rw [hTh]; exact hx) k.toNatClampNeg
    rw [hF, hTh] at this
    exact this
  have hrow : ∀ i : Nat, i < k.toNatClampNeg → F.heap[H.size + 1 + i]? = some (Jvm.Free.Multi.innerC (dA 0) j.toNatClampNeg (defaultValue .int)) := fun i hi => by
    have := Jvm.Free.Multi.fill_inner (T.setVm vm₁) (dA 3) (dA 0) k.toNatClampNeg j.toNatClampNeg (defaultValue .int) k.toNatClampNeg i hi
    rw [hF, hTh] at this
    exact this
  have hin : Jvm.Free.Multi.innerC (dA 0) j.toNatClampNeg (defaultValue .int) = vp_cell (dA 0) (j.toNatClampNeg, .inl (fun _ => 0)) := by
    rw [vp_cell_i]
    exact arrV_new _ _ _
  have hou : Jvm.Free.Multi.outerC (dA 3) k.toNatClampNeg n k.toNatClampNeg = vp_cell (dA 3) (k.toNatClampNeg, .inr (.inr (.inr (.inr (fun i => if i < k.toNatClampNeg then some (n + 1 + i) else none))))) := by
    rw [vp_cell_q]
    exact pl_outer (dA 3) k.toNatClampNeg n k.toNatClampNeg
  have hz := w.1
  rw [hz] at f1 f2 hold hrow
  rw [hou] at f2
  have hw : pl_wd D vwCl dA b (n + 1 + k.toNatClampNeg) f' F.heap := by
    have hbn := w.2.1
    refine ⟨f1, by omega, fun q h1 h2 => ?_, fun q hq => ?_⟩
    · rw [hv]
      show va_at D vwCl (q, pl_E dA (if q = n then _ else _)) F.heap
      by_cases hqn : q = n
      · rw [if_pos hqn, hqn]
        exact f2
      · rw [if_neg hqn]
        by_cases hq2 : n < q ∧ q < n + 1 + k.toNatClampNeg
        · rw [if_pos hq2]
          have h3 := hrow (q - n - 1) (by omega)
          rw [show n + 1 + (q - n - 1) = q by omega, hin] at h3
          exact h3
        · rw [if_neg hq2]
          exact (w.2.2.1 q h1 (by omega)).kept (hold q (by omega))
    · rw [hv]
      show (if q = n then _ else _) = pl_dum
      rw [if_neg (by omega), if_neg (by omega)]
      exact w.2.2.2 q (by omega)
  obtain ⟨t, a1, b1⟩ := kk F.heap hw (pl_grow hS (by rw [f1, hz]; omega) (fun q hq => hold q (by rw [← hz]; exact hq))) F rfl X'
  refine ⟨t, step t ?_, b1⟩
  have e : T.heap.size = n := by rw [hT]; exact hz
  rw [e]
  exact a1
theorem pl_objI (C : pl_C p s m args meth c cc nL own ret nm D dA tt b) {index : Nat} (m1 : Cond.methodLink own index objectInit ∈ pl_tb) (m2 : Cond.instanceMethod objectInit ∈ pl_tb) (m3 : Cond.code objectInit ⟨#[0xb1]⟩ 1 none ∈ pl_tb) (hls : ls.size = nL) (hfr : 1 ≤ R.frames) (hlo : (rest.map fun v => v.category).sum + 12 ≤ R.locals) (hdg : decode cc pc = .ok (.invokespecial index, 3))
    (kk : W p l e R s m args below meth c H locs cells slots Q (F0 m (pc + 3) ls rest)) : W p l e R s m args below meth c H locs cells slots Q (F0 m pc ls (.ref a :: rest)) := by
  have hts := C.2.2.2.2.2.2.1
  refine W.objInit C.1 C.2.1 C.2.2.2.2.1 (hts _ m1) (hts _ m2) (hts _ m3) rfl (by rw [C.2.2.1]; exact hls) rfl hdg hfr (by show 2 * 0 + _ + 12 ≤ _; omega) ?_
  exact kk
variable {st0 : List Value} {n' mc ms : Nat}
theorem pl_runI (C : pl_C p s m args meth c cc nL own ret nm D dA tt b) {y : MethodName} {bytes : ByteArray} {maxL index k : Nat} {rm : Room} {Qc : Array Value → State → Outcome → State → Prop} {As : List Value}
    (hM : Met l y (Cond.code y bytes maxL none :: pl_tb) rm (va_Pc (.ref a :: As) (pl_pre D dA tt b n f)) Qc mc ms (pl_A b)) (w : pl_wd D vwCl dA b n f H) (hS : va_S (pl_A b) s.heap H locs) (hrc : rm.cells = mc) (hrs : rm.slots = ms)
    (m1 : Cond.methodLink own index y ∈ pl_tb) (m2 : Cond.instanceMethod y ∈ pl_tb) (m4 : Cond.initialized y.cls ∈ pl_tb) (m5 : Cond.code y bytes maxL none ∈ pl_tb) (hy : y.name = "<init>")
    (hd : y.cls ≠ "java/lang/invoke/MethodHandle" ∧ y.cls ≠ "java/lang/invoke/VarHandle" ∧ (parseMethodDescriptor y.desc).map (fun d => d.parameters.length) = some k) (hR : rm.frames + 1 ≤ R.frames ∧ 8 + (maxL + 11) + rm.locals ≤ R.locals)
    (hn : As.length = k) (hsize : ls.size = nL) (hW : (rest.map fun v => v.category).sum ≤ 8) (hf : cells + mc ≤ R.cells ∧ slots + ms ≤ R.slots) (hst : st0 = As.reverse ++ .ref a :: rest) (hdg : decode cc pc = .ok (.invokespecial index, 3)) :
    va_Run p l e R s m args below meth c H locs cells slots mc ms (F0 m pc ls st0) rest (Qc (Value.ref a :: As).toArray) (pl_A b) := by
  have hts := C.2.2.2.2.2.2.1
  exact va_runI ⟨C.1, C.2.1, C.2.2.1, C.2.2.2.2.1, hts⟩ hM (cwI k hts (pl_good m5) rfl hrc hrs (hts _ m4) (hts _ m1) (hts _ m2) hy hd hR) ⟨pl_blind, pl_preU C w hS⟩ rfl hn hsize hst (lv_room hW) hdg hf
end PLA
