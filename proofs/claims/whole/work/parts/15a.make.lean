/-! making: contracts of constructors (their cells are counted, the heap's size is known); rows of new arrays -/
def nAO (U : State) : Prop := va_AO "OrangeHeaps$Place" U ∧ va_AO "OrangeHeaps$Sheet" U
theorem nAO.moved {u U : State} (hvm : u.vm.Alike U.vm) (h : nAO u) : nAO U := ⟨h.1.moved hvm, h.2.moved hvm⟩
def mm_Pn (G : mG) (av : List Value) (E : mE) (n : Nat) : Array Value → State → Prop := va_Pc av (fun U => mm_K G U ∧ mm_M G E U.heap ∧ (G.2.2 ≤ U.heap.size ∧ kW G U) ∧ U.heap.size = n ∧ nAO U)
def mm_Bn (G : mG) (n : Nat) (E : mE) (t : State) : Prop := mm_M G E t.heap ∧ t.heap.size = n
theorem mm_blindn (G : mG) (av : List Value) (E : mE) (n : Nat) : FrameBlind (mm_Pn G av E n) := fun a U g mk q => ⟨q.1, va_K.moved (u := U) (U := U.calling g mk a) (Vm.Alike.refl U.vm) q.2.1, q.2.2.1, ⟨q.2.2.2.1.1, kW.same q.2.2.2.1.2 rfl rfl⟩, q.2.2.2.2.1, nAO.moved (u := U) (U := U.calling g mk a) (Vm.Alike.refl U.vm) q.2.2.2.2.2⟩
def mm_Cn (l : Launch) (y : MethodName) (ws : List Cond) (rm : Room) (G : mG) (av : List Value) (E : mE) (n mc ms : Nat) (post : mE → Prop) : Prop := Met l y ws rm (mm_Pn G av E n) (va_Qv (fun (u : mE) => post u) (mm_Bn G (n + mc)) (mm_A G)) mc ms (mm_A G)
def mm_Zn (G : mG) (below : List Frame) (args : Array Value) (s : State) (n mc ms : Nat) (post : mE → Prop) : State → Prop := MQ below (va_Qv (fun (u : mE) => post u) (mm_Bn G (n + mc)) (mm_A G)) args s mc ms (mm_A G)
theorem mm_of_n {l : Launch} {y : MethodName} {cc : ByteArray} {maxL : Nat} {rm : Room} {G : mG} {av : List Value} {E : mE} {n mc ms : Nat} {post : mE → Prop} (hy : plainName y.cls = true) (hlen : (lg_sl av).length ≤ maxL) (hname : y.name = "<init>")
    (body : ∀ (p : Program) (e : Env) (s : State) (m : MethodId) (args : Array Value) (below : List Frame) (meth : Method) (c : Code) (ls : Array Slot), mm_Cx G p s m args c cc maxL y.cls → meth.sig.returnType = none → meth.locks = false → meth.name = "<init>" → nAO s → s.heap.size = n → mm_M G E s.heap → lv_has ls maxL (lv_args 0 av) → va_S (mm_A G) s.heap s.heap [] →
      W p l e rm s m args below meth c s.heap [] 0 0 (mm_Zn G below args s n mc ms post) (F0 m 0 ls [])) : mm_Cn l y (.code y cc maxL none :: wsG) rm G av E n mc ms post := by
  refine Met.ofW (cc := cc) (maxL := maxL) (ret := none) hy rfl ?_
  intro p e s m args below meth c s₁ B hml hv
  obtain ⟨rfl, hK, hM, hlo, hn, ho⟩ := hv
  have hts := atoms_spec (ws := .code y cc maxL none :: wsG) B.pre
  have hl := lv_entry av (n := maxL) hlen
  rw [lg_entry_eq]
  exact body p e s m av.toArray below meth c _ ⟨B.exec, B.bytes, hml, findClass_of_methodNamed B.named, fun w h => hts w (List.mem_cons_of_mem _ h), hK, hlo⟩ B.returns B.notSynchronized ((name_of_methodNamed B.named B.method).1.trans hname) ho hn hM hl va_S.rf
section MN
variable {p : Program} {l : Launch} {e : Env} {R : Room} {s : State} {m : MethodId} {args : Array Value} {below : List Frame} {meth : Method} {c : Code} {H : Heap} {locs : List Loc} {cells slots : Nat} {Q : State → Prop} {cc : ByteArray} {pc nL : Nat} {ls : Array Slot} {rest st : List Value} {own : String} {G : mG} {E : mE} {a b : Nat} {H0 : Heap}
theorem mm_nret (C0 : mm_Cx G p s m args c cc nL own) {n mc ms : Nat} {post : mE → Prop} (hr : meth.sig.returnType = none) (hlk : meth.locks = false) (hM : mm_M G E H) (hS : va_S (mm_A G) s.heap H locs) (hz : H.size = n + mc) (hc : cells ≤ mc) (hs : slots ≤ ms) (hdg : decode cc pc = .ok (.return_, 1)) (hp : post E) : W p l e R s m args below meth c H locs cells slots (mm_Zn G below args s n mc ms post) (F0 m pc ls []) := by
  refine W.widen (k := mc) (n := ms) hc hs ?_
  exact W.vret C0.1 C0.2.1 hr (fun t ht hW => ⟨⟨E, rfl, hp, by rw [ht]; exact hM, by rw [ht]; exact hz⟩, hS.F ht⟩) hS.2.2 hdg hlk
theorem mm_obj (C0 : mm_Cx G p s m args c cc nL own) {index : Nat} (hlink : Cond.methodLink own index ⟨"java/lang/Object", "<init>", "()V"⟩ ∈ wsG) (hl : ls.size = nL) (hF : 1 ≤ R.frames) (hL : 12 ≤ R.locals) (hdg : decode cc pc = .ok (.invokespecial index, 3)) (k : W p l e R s m args below meth c H locs cells slots Q (F0 m (pc + 3) ls [])) : W p l e R s m args below meth c H locs cells slots Q (F0 m pc ls [.ref a]) := by
  obtain ⟨hx, hb, hml, hown, hts, hK, hlo⟩ := C0
  refine W.objInit hx hb hown (hts _ hlink) (hts _ tw_24) (hts _ tw_25) rfl (by rw [hml]; exact hl) rfl hdg hF (by exact hL) ?_
  exact k
theorem mm_newJ (C0 : mm_Cx G p s m args c cc nL own) (hM : mm_M G E H) (hS : va_S (mm_A G) s.heap H locs) {n : Int} {N : Nat} {h : Nat} (hh : H.size = h) (hn : n = (N : Int)) (hN : N < 10000) (hcells : cells + 1 ≤ R.cells) (hslots : slots + N ≤ R.slots) (hdg : decode cc pc = .ok (.newarray .long, 2))
    (kk : ∀ (H1 : Heap), mm_M G (mm_up E h (mm_J G N (fun _ => 0))) H1 → va_S (mm_A G) s.heap H1 locs → H1.size = h + 1 → W p l e R s m args below meth c H1 locs (cells + 1) (slots + N) Q (F0 m (pc + 2) ls (.ref h :: rest))) : W p l e R s m args below meth c H locs cells slots Q (F0 m pc ls (.int (zI n) :: rest)) := by
  subst hh
  obtain ⟨hexec, hb, hml, hown, hts, hK, hlo⟩ := C0
  obtain ⟨h1, h2⟩ := zI_in (k := N) (n := N + 1) hn (by omega) (by omega)
  refine va_newaK (atype := .long) hexec hb (hts _ tw_91) rfl hdg rfl (fun q => h1 (Or.inl q)) h2 (by show N * 8 ≤ 536870912; omega) hcells hslots rfl fun H1 cA e1 z1 o1 hAr hNm => ?_
  have hc : cA = G.2.1 0 := by
    have := (hK.2 0 _ rfl).2
    exact Option.some.inj (hNm.symm.trans this)
  subst hc
  refine kk H1 (hM.add rfl (Nat.le_trans hlo.1 hS.1) ?_ o1) ⟨Nat.le_trans hS.1 (by omega), fun x h1 h2 => (o1 x (Nat.lt_of_lt_of_le h1 hS.1)).trans (hS.2.1 x h1 h2), hS.2.2⟩ z1
  show H1[H.size]? = some (vp_cell (G.2.1 0) (N, .inr (.inl (fun j => zL ((fun _ => 0) j)))))
  rw [e1, vp_cell_l]; rfl
theorem mm_newI (C0 : mm_Cx G p s m args c cc nL own) (hM : mm_M G E H) (hS : va_S (mm_A G) s.heap H locs) {n : Int} {N : Nat} {h : Nat} (hh : H.size = h) (hn : n = (N : Int)) (hN : N < 10000) (hcells : cells + 1 ≤ R.cells) (hslots : slots + N ≤ R.slots) (hdg : decode cc pc = .ok (.newarray .int, 2))
    (kk : ∀ (H1 : Heap), mm_M G (mm_up E h (mm_I G N (fun _ => 0))) H1 → va_S (mm_A G) s.heap H1 locs → H1.size = h + 1 → W p l e R s m args below meth c H1 locs (cells + 1) (slots + N) Q (F0 m (pc + 2) ls (.ref h :: rest))) : W p l e R s m args below meth c H locs cells slots Q (F0 m pc ls (.int (zI n) :: rest)) := by
  subst hh
  obtain ⟨hexec, hb, hml, hown, hts, hK, hlo⟩ := C0
  obtain ⟨h1, h2⟩ := zI_in (k := N) (n := N + 1) hn (by omega) (by omega)
  refine va_newaK (atype := .int) hexec hb (hts _ tw_67) rfl hdg rfl (fun q => h1 (Or.inl q)) h2 (by show N * 4 ≤ 536870912; omega) hcells hslots rfl fun H1 cA e1 z1 o1 hAr hNm => ?_
  have hc : cA = G.2.1 1 := by
    have := (hK.2 1 _ rfl).2
    exact Option.some.inj (hNm.symm.trans this)
  subst hc
  refine kk H1 (hM.add rfl (Nat.le_trans hlo.1 hS.1) ?_ o1) ⟨Nat.le_trans hS.1 (by omega), fun x h1 h2 => (o1 x (Nat.lt_of_lt_of_le h1 hS.1)).trans (hS.2.1 x h1 h2), hS.2.2⟩ z1
  show H1[H.size]? = some (vp_cell (G.2.1 1) (N, .inl (fun j => zI ((fun _ => 0) j))))
  rw [e1, vp_cell_i]; rfl
theorem mm_newQ (C0 : mm_Cx G p s m args c cc nL own) (t : Nat) {C : String} (ht : (mm_tys G.2.1)[t]? = some (G.2.1 t, .object C)) {index : Nat} (hcl : Cond.classLink own index C ∈ wsG) (hov : va_AO C s) (hM : mm_M G E H) (hS : va_S (mm_A G) s.heap H locs) {n : Int} {N : Nat} {h : Nat} (hh : H.size = h) (hn : n = (N : Int)) (hN : N < 10000) (hcells : cells + 1 ≤ R.cells) (hslots : slots + N ≤ R.slots) (hdg : decode cc pc = .ok (.anewarray index, 3))
    (kk : ∀ (H1 : Heap), mm_M G (mm_up E h (mm_Q G t N (fun _ => none))) H1 → va_S (mm_A G) s.heap H1 locs → H1.size = h + 1 → W p l e R s m args below meth c H1 locs (cells + 1) (slots + N) Q (F0 m (pc + 3) ls (.ref h :: rest))) : W p l e R s m args below meth c H locs cells slots Q (F0 m pc ls (.int (zI n) :: rest)) := by
  subst hh
  obtain ⟨hexec, hb, hml, hown, hts, hK, hlo⟩ := C0
  obtain ⟨h1, h2⟩ := zI_in (k := N) (n := N + 1) hn (by omega) (by omega)
  refine W.anew hexec hb hown (hts _ hcl) (va_AO.use hov) rfl hdg rfl (fun q => h1 (Or.inl q)) (by rw [h2]; omega) hcells (by rw [h2]; exact hslots) fun cA kA comp f1 f2 f3 f4 => ?_
  rw [h2]
  generalize hH1 : H.push ({ cls := cA, slots := Array.replicate N .null, vm := .none } : Cell) = H1
  have z1 : H1.size = H.size + 1 := by rw [← hH1, Array.size_push]
  have e1 : H1[H.size]? = some (arrV cA N (fun _ => .null)) := by rw [← hH1, Array.getElem?_push_size, ← arrV_new]
  have o1 : ∀ q : Nat, q < H.size → H1[q]? = H[q]? := fun q hq => by rw [← hH1, Array.getElem?_push, if_neg (Nat.ne_of_lt hq)]
  have hc : cA = G.2.1 t := by
    obtain ⟨_, _, _, _, _, h4⟩ := (hK.2 t _ ht).2
    exact Option.some.inj (f1.symm.trans h4)
  subst hc
  refine kk H1 (hM.add rfl (Nat.le_trans hlo.1 hS.1) ?_ o1) ⟨Nat.le_trans hS.1 (by omega), fun x h1 h2 => (o1 x (Nat.lt_of_lt_of_le h1 hS.1)).trans (hS.2.1 x h1 h2), hS.2.2⟩ z1
  show H1[H.size]? = some (vp_cell (G.2.1 t) (N, .inr (.inr (.inr (.inr (fun _ => none))))))
  rw [e1, vp_cell_q]; rfl
theorem mm_callI (C0 : mm_Cx G p s m args c cc nL own) (ho : nAO s) {y : MethodName} {bytes : ByteArray} {maxL n index mc ms : Nat} {rm : Room} (hw : mm_Iw y bytes maxL n) (hlink : Cond.methodLink own index y ∈ wsG) {As : List Value} {post : mE → Prop} {h : Nat} (hh : H.size = h) (hC : mm_Cn l y (.code y bytes maxL none :: wsG) rm G (.ref b :: As) E h mc ms post) (hM : mm_M G E H) (hn : As.length = n) (hl : ls.size = nL) (hst : st = As.reverse ++ .ref b :: rest) (hW : (rest.map fun v => v.category).sum ≤ 8) (hR : rm.cells = mc ∧ rm.slots = ms ∧ rm.frames + 1 ≤ R.frames ∧ 8 + (maxL + 11) + rm.locals ≤ R.locals) (hcells : cells + mc ≤ R.cells) (hslots : slots + ms ≤ R.slots) (hdg : decode cc pc = .ok (.invokespecial index, 3)) (hS : va_S (mm_A G) s.heap H locs)
    (kk : ∀ (E1 : mE) (H1 : Heap) (locs1 : List Loc), post E1 → mm_M G E1 H1 → va_S (mm_A G) s.heap H1 locs1 → H1.size = h + mc → W p l e R s m args below meth c H1 locs1 (cells + mc) (slots + ms) Q (F0 m (pc + 3) ls (rest))) : W p l e R s m args below meth c H locs cells slots Q (F0 m pc ls st) := by
  subst hh
  obtain ⟨hx, hb, hml, hown, hts, hK, hlo⟩ := C0
  obtain ⟨w1, w2, w3, w4, w5⟩ := hw
  obtain ⟨r1, r2, r3, r4⟩ := hR
  subst hst
  refine va_callv (va_runI (As := As) (rest := rest) ⟨hx, hb, hml, hown, hts⟩ hC (cwI n hts (wsG_I w3) rfl r1 r2 (hts _ w2) (hts _ hlink) (hts _ w1) w4 w5 ⟨r3, r4⟩) ⟨mm_blindn G _ E _, fun U hU hWm => ⟨rfl, va_K.moved hWm.alike hK, by rw [hU]; exact hM, ⟨by rw [hU]; exact Nat.le_trans hlo.1 hS.1, kW.moved hlo.2 hWm hU hS⟩, by rw [hU], ho.moved hWm.alike⟩⟩ rfl hn hl rfl (lv_room hW) hdg ⟨hcells, hslots⟩) hS (fun q _ h => h) (fun q h => h) (fun u t H1 locs1 ht hvm hw hB hz1 hk1 hS1 => ?_)
  obtain ⟨hB1, hB2⟩ := hB
  exact kk u H1 locs1 hw (by rw [← ht]; exact hB1) hS1 (by rw [← ht]; exact hB2)
theorem mm_newA (C0 : mm_Cx G p s m args c cc nL own) {C : String} {T : u_T} {N ci index : Nat} (hin : ∀ w ∈ u_ws C T N, w ∈ wsG) (ty : Nat → FieldType) (hty : ∀ k, k < N → parseFieldDescriptor (T k).2.2.1 = some (ty k)) (hcl : Cond.classLink own index C ∈ wsG) (hinst : Cond.instantiable C N ∈ wsG) (hini : Cond.initialized C ∈ wsG) (hM : mm_M G E H) (hS : va_S (mm_A G) s.heap H locs) (hc : vwCl[ci]? = some (C, T, N)) {fs : List Value} (hfs : ∀ j, j < N → defaultValue (ty j) = vp_V fs j) {h : Nat} (hh : H.size = h) (hcells : cells + 1 ≤ R.cells) (hslots : slots + N ≤ R.slots) (hdg : decode cc pc = .ok (.new index, 3))
    (kk : ∀ (H1 : Heap), mm_M G (mm_up E h (.inr (ci, fs))) H1 → va_S (mm_A G) s.heap H1 locs → H1.size = h + 1 → W p l e R s m args below meth c H1 locs (cells + 1) (slots + N) Q (F0 m (pc + 3) ls (.ref h :: rest))) : W p l e R s m args below meth c H locs cells slots Q (F0 m pc ls rest) := by
  subst hh
  exact mm_new C0 hin ty hty hcl hinst hini hM hS hc hfs hcells hslots hdg kk
theorem mm_mk (C0 : mm_Cx G p s m args c cc nL own) (ho : nAO s) {C : String} {T : u_T} {N ci i1 i2 : Nat} (hin : ∀ w ∈ u_ws C T N, w ∈ wsG) (ty : Nat → FieldType) (hty : ∀ k, k < N → parseFieldDescriptor (T k).2.2.1 = some (ty k)) (hcl : Cond.classLink own i1 C ∈ wsG) (hinst : Cond.instantiable C N ∈ wsG) (hini : Cond.initialized C ∈ wsG) (hc : vwCl[ci]? = some (C, T, N)) {fs : List Value} (hfs : ∀ j, j < N → defaultValue (ty j) = vp_V fs j) {y : MethodName} {bytes : ByteArray} {mc ms : Nat} {rm : Room} (hw : mm_Iw y bytes 1 0) (hlink : Cond.methodLink own i2 y ∈ wsG) {P : mE → Prop} {h : Nat} (hh : H.size = h)
    (hC : ∀ E1 : mE, E1 h = some (.inr (ci, fs)) → mm_Cn l y (.code y bytes 1 none :: wsG) rm G [.ref h] E1 (h + 1) mc ms (fun E2 => P E2 ∧ ∀ q, q < h → E2 q = E1 q)) (hM : mm_M G E H) (hS : va_S (mm_A G) s.heap H locs) (hl : ls.size = nL) (hW : ((Value.ref h :: rest).map fun v => v.category).sum ≤ 8) (hR : rm.cells = mc ∧ rm.slots = ms ∧ rm.frames + 1 ≤ R.frames ∧ 8 + (1 + 11) + rm.locals ≤ R.locals) (hcells : cells + 1 + mc ≤ R.cells) (hslots : slots + N + ms ≤ R.slots) (hd1 : decode cc pc = .ok (.new i1, 3)) (hd2 : decode cc (pc + 3) = .ok (.dup, 1)) (hd3 : decode cc (pc + 4) = .ok (.invokespecial i2, 3))
    (kk : ∀ (E2 : mE) (H1 : Heap) (locs1 : List Loc), P E2 → (∀ q, q < h → E2 q = E q) → mm_M G E2 H1 → va_S (mm_A G) s.heap H1 locs1 → H1.size = h + 1 + mc → W p l e R s m args below meth c H1 locs1 (cells + 1 + mc) (slots + N + ms) Q (F0 m (pc + 7) ls (.ref h :: rest))) : W p l e R s m args below meth c H locs cells slots Q (F0 m pc ls rest) := by
  refine mm_newA C0 hin ty hty hcl hinst hini hM hS hc hfs hh (by omega) (by omega) hd1 (fun H1 hM1 hS1 hz1 => ?_)
  refine lv_dup C0.1 C0.2.1 hd2 rfl ?_
  refine mm_callI C0 ho hw hlink (As := []) (rest := .ref h :: rest) hz1 (hC _ (mm_up_s _ _ _)) hM1 rfl hl rfl hW hR hcells hslots hd3 hS1 (fun E2 H2 locs2 hp hM2 hS2 hz2 => ?_)
  obtain ⟨hp, hfr⟩ := hp
  exact kk E2 H2 locs2 hp (fun q hq => (hfr q hq).trans (mm_up_n _ _ (by omega))) hM2 hS2 hz2
end MN
