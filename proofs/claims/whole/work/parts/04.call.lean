/-! contracts over the memory; their starts, their ends, their calls -/
def mm_Pc (G : mG) (av : List Value) (E : mE) : Array Value → State → Prop := va_Pc av (fun U => mm_K G U ∧ mm_M G E U.heap ∧ G.2.2 ≤ U.heap.size ∧ kW G U)
def mm_Bp (G : mG) (E : mE) (t : State) : Prop := mm_M G E t.heap
theorem mm_blind (G : mG) (av : List Value) (E : mE) : FrameBlind (mm_Pc G av E) := fun a U g mk q => ⟨q.1, va_K.moved (u := U) (U := U.calling g mk a) (Vm.Alike.refl U.vm) q.2.1, q.2.2.1, q.2.2.2.1, kW.same q.2.2.2.2 rfl rfl⟩
def mm_Ci (l : Launch) (y : MethodName) (ws : List Cond) (rm : Room) (G : mG) (av : List Value) (E : mE) (post : Int → mE → Prop) : Prop := Met l y ws rm (mm_Pc G av E) (va_Qi (fun r (u : mE) => ∃ z : Int, r = zI z ∧ post z u) (mm_Bp G) (mm_A G)) 0 0 (mm_A G)
def mm_Cl (l : Launch) (y : MethodName) (ws : List Cond) (rm : Room) (G : mG) (av : List Value) (E : mE) (post : Int → mE → Prop) : Prop := Met l y ws rm (mm_Pc G av E) (va_Ql (fun r (u : mE) => ∃ z : Int, r = zL z ∧ post z u) (mm_Bp G) (mm_A G)) 0 0 (mm_A G)
def mm_Cv (l : Launch) (y : MethodName) (ws : List Cond) (rm : Room) (G : mG) (av : List Value) (E : mE) (post : mE → Prop) : Prop := Met l y ws rm (mm_Pc G av E) (va_Qv (fun (u : mE) => post u) (mm_Bp G) (mm_A G)) 0 0 (mm_A G)
/-- where a method ends -/
def mm_Zi (G : mG) (below : List Frame) (args : Array Value) (s : State) (post : Int → mE → Prop) : State → Prop := MQ below (va_Qi (fun r (u : mE) => ∃ z : Int, r = zI z ∧ post z u) (mm_Bp G) (mm_A G)) args s 0 0 (mm_A G)
def mm_Zl (G : mG) (below : List Frame) (args : Array Value) (s : State) (post : Int → mE → Prop) : State → Prop := MQ below (va_Ql (fun r (u : mE) => ∃ z : Int, r = zL z ∧ post z u) (mm_Bp G) (mm_A G)) args s 0 0 (mm_A G)
def mm_Zv (G : mG) (below : List Frame) (args : Array Value) (s : State) (post : mE → Prop) : State → Prop := MQ below (va_Qv (fun (u : mE) => post u) (mm_Bp G) (mm_A G)) args s 0 0 (mm_A G)

theorem mm_of_i {l : Launch} {y : MethodName} {cc : ByteArray} {maxL : Nat} {rt : FieldType} {rm : Room} {G : mG} {av : List Value} {E : mE} {post : Int → mE → Prop} (hy : plainName y.cls = true) (hlen : (lg_sl av).length ≤ maxL)
    (body : ∀ (p : Program) (e : Env) (s : State) (m : MethodId) (args : Array Value) (below : List Frame) (meth : Method) (c : Code) (ls : Array Slot), mm_Cx G p s m args c cc maxL y.cls → meth.sig.returnType = (some rt) → meth.locks = false → mm_M G E s.heap → lv_has ls maxL (lv_args 0 av) → va_S (mm_A G) s.heap s.heap [] →
      W p l e rm s m args below meth c s.heap [] 0 0 (mm_Zi G below args s post) (F0 m 0 ls [])) : mm_Ci l y (.code y cc maxL (some rt) :: wsG) rm G av E post := by
  refine Met.ofW (cc := cc) (maxL := maxL) (ret := (some rt)) hy rfl ?_
  intro p e s m args below meth c s₁ B hml hv
  obtain ⟨rfl, hK, hM, hlo⟩ := hv
  have hts := atoms_spec (ws := .code y cc maxL (some rt) :: wsG) B.pre
  have hl := lv_entry av (n := maxL) hlen
  rw [lg_entry_eq]
  exact body p e s m av.toArray below meth c _ ⟨B.exec, B.bytes, hml, findClass_of_methodNamed B.named, fun w h => hts w (List.mem_cons_of_mem _ h), hK, hlo⟩ B.returns B.notSynchronized hM hl va_S.rf
theorem mm_of_l {l : Launch} {y : MethodName} {cc : ByteArray} {maxL : Nat} {rm : Room} {G : mG} {av : List Value} {E : mE} {post : Int → mE → Prop} (hy : plainName y.cls = true) (hlen : (lg_sl av).length ≤ maxL)
    (body : ∀ (p : Program) (e : Env) (s : State) (m : MethodId) (args : Array Value) (below : List Frame) (meth : Method) (c : Code) (ls : Array Slot), mm_Cx G p s m args c cc maxL y.cls → meth.sig.returnType = (some .long) → meth.locks = false → mm_M G E s.heap → lv_has ls maxL (lv_args 0 av) → va_S (mm_A G) s.heap s.heap [] →
      W p l e rm s m args below meth c s.heap [] 0 0 (mm_Zl G below args s post) (F0 m 0 ls [])) : mm_Cl l y (.code y cc maxL (some .long) :: wsG) rm G av E post := by
  refine Met.ofW (cc := cc) (maxL := maxL) (ret := (some .long)) hy rfl ?_
  intro p e s m args below meth c s₁ B hml hv
  obtain ⟨rfl, hK, hM, hlo⟩ := hv
  have hts := atoms_spec (ws := .code y cc maxL (some .long) :: wsG) B.pre
  have hl := lv_entry av (n := maxL) hlen
  rw [lg_entry_eq]
  exact body p e s m av.toArray below meth c _ ⟨B.exec, B.bytes, hml, findClass_of_methodNamed B.named, fun w h => hts w (List.mem_cons_of_mem _ h), hK, hlo⟩ B.returns B.notSynchronized hM hl va_S.rf
theorem mm_of_v {l : Launch} {y : MethodName} {cc : ByteArray} {maxL : Nat} {rm : Room} {G : mG} {av : List Value} {E : mE} {post : mE → Prop} (hy : plainName y.cls = true) (hlen : (lg_sl av).length ≤ maxL)
    (body : ∀ (p : Program) (e : Env) (s : State) (m : MethodId) (args : Array Value) (below : List Frame) (meth : Method) (c : Code) (ls : Array Slot), mm_Cx G p s m args c cc maxL y.cls → meth.sig.returnType = none → meth.locks = false → mm_M G E s.heap → lv_has ls maxL (lv_args 0 av) → va_S (mm_A G) s.heap s.heap [] →
      W p l e rm s m args below meth c s.heap [] 0 0 (mm_Zv G below args s post) (F0 m 0 ls [])) : mm_Cv l y (.code y cc maxL none :: wsG) rm G av E post := by
  refine Met.ofW (cc := cc) (maxL := maxL) (ret := none) hy rfl ?_
  intro p e s m args below meth c s₁ B hml hv
  obtain ⟨rfl, hK, hM, hlo⟩ := hv
  have hts := atoms_spec (ws := .code y cc maxL none :: wsG) B.pre
  have hl := lv_entry av (n := maxL) hlen
  rw [lg_entry_eq]
  exact body p e s m av.toArray below meth c _ ⟨B.exec, B.bytes, hml, findClass_of_methodNamed B.named, fun w h => hts w (List.mem_cons_of_mem _ h), hK, hlo⟩ B.returns B.notSynchronized hM hl va_S.rf
section ME
variable {p : Program} {l : Launch} {e : Env} {R : Room} {s : State} {m : MethodId} {args : Array Value} {below : List Frame} {meth : Method} {c : Code} {H : Heap} {locs : List Loc} {cells slots : Nat} {Q : State → Prop} {cc : ByteArray} {pc nL : Nat} {ls : Array Slot} {rest st : List Value} {own : String} {G : mG} {E : mE} {a b : Nat} {H0 : Heap}
theorem mm_vret (C0 : mm_Cx G p s m args c cc nL own) {post : mE → Prop} (hr : meth.sig.returnType = none) (hlk : meth.locks = false) (hM : mm_M G E H) (hS : va_S (mm_A G) s.heap H locs) (hdg : decode cc pc = .ok (.return_, 1)) (hp : post E) : W p l e R s m args below meth c H locs 0 0 (mm_Zv G below args s post) (F0 m pc ls []) :=
  W.vret C0.1 C0.2.1 hr (fun t ht hW => ⟨⟨E, rfl, hp, by show mm_M G E t.heap; rw [ht]; exact hM⟩, hS.F ht⟩) hS.2.2 hdg hlk
theorem mm_iret (C0 : mm_Cx G p s m args c cc nL own) {post : Int → mE → Prop} (hr : meth.sig.returnType = some .int) (hlk : meth.locks = false) (hM : mm_M G E H) (hS : va_S (mm_A G) s.heap H locs) {z : Int} (hdg : decode cc pc = .ok (.ireturn, 1)) (hp : post z E) : W p l e R s m args below meth c H locs 0 0 (mm_Zi G below args s post) (F0 m pc ls [.int (zI z)]) :=
  W.iret C0.1 C0.2.1 hr (fun t ht hW => ⟨⟨zI z, E, rfl, ⟨z, rfl, hp⟩, by show mm_M G E t.heap; rw [ht]; exact hM⟩, hS.F ht⟩) hS.2.2 hdg hlk
theorem mm_zret (C0 : mm_Cx G p s m args c cc nL own) {post : Int → mE → Prop} (hr : meth.sig.returnType = some .boolean) (hlk : meth.locks = false) (hM : mm_M G E H) (hS : va_S (mm_A G) s.heap H locs) {z : Int} (hz : z = 0 ∨ z = 1) (hdg : decode cc pc = .ok (.ireturn, 1)) (hp : post z E) : W p l e R s m args below meth c H locs 0 0 (mm_Zi G below args s post) (F0 m pc ls [.int (zI z)]) :=
  W.zret C0.1 C0.2.1 hr (by rcases hz with rfl | rfl <;> rfl) (fun t ht hW => ⟨⟨zI z, E, rfl, ⟨z, rfl, hp⟩, by show mm_M G E t.heap; rw [ht]; exact hM⟩, hS.F ht⟩) hS.2.2 hdg hlk
theorem mm_lret (C0 : mm_Cx G p s m args c cc nL own) {post : Int → mE → Prop} (hr : meth.sig.returnType = some .long) (hlk : meth.locks = false) (hM : mm_M G E H) (hS : va_S (mm_A G) s.heap H locs) {z : Int} (hdg : decode cc pc = .ok (.lreturn, 1)) (hp : post z E) : W p l e R s m args below meth c H locs 0 0 (mm_Zl G below args s post) (F0 m pc ls [.long (zL z)]) :=
  W.lret C0.1 C0.2.1 hr (fun t ht hW => ⟨⟨zL z, E, rfl, ⟨z, rfl, hp⟩, by show mm_M G E t.heap; rw [ht]; exact hM⟩, hS.F ht⟩) hS.2.2 hdg hlk
/-- what the tables say of a method that is called -/
def mm_Vw (C : String) (y : MethodName) (bytes : ByteArray) (maxL : Nat) (ret : Option FieldType) (n : Nat) : Prop := Cond.instanceMethod y ∈ wsG ∧ Cond.selects C y y ∈ wsG ∧ Cond.initialized C ∈ wsG ∧ Cond.code y bytes maxL ret ∈ wsG ∧ (y.cls = C ∧ y.cls ≠ "java/lang/invoke/MethodHandle" ∧ y.cls ≠ "java/lang/invoke/VarHandle" ∧ (parseMethodDescriptor y.desc).map (fun d => d.parameters.length) = some n)
def mm_Sw (y : MethodName) (bytes : ByteArray) (maxL : Nat) (ret : Option FieldType) (n : Nat) : Prop := Cond.static y ∈ wsG ∧ Cond.initialized y.cls ∈ wsG ∧ Cond.code y bytes maxL ret ∈ wsG ∧ (y.cls ≠ "java/lang/invoke/MethodHandle" ∧ y.cls ≠ "java/lang/invoke/VarHandle" ∧ (parseMethodDescriptor y.desc).map (fun d => d.parameters.length) = some n)
def mm_Iw (y : MethodName) (bytes : ByteArray) (maxL : Nat) (n : Nat) : Prop := Cond.instanceMethod y ∈ wsG ∧ Cond.initialized y.cls ∈ wsG ∧ Cond.code y bytes maxL none ∈ wsG ∧ y.name = "<init>" ∧ (y.cls ≠ "java/lang/invoke/MethodHandle" ∧ y.cls ≠ "java/lang/invoke/VarHandle" ∧ (parseMethodDescriptor y.desc).map (fun d => d.parameters.length) = some n)
theorem mm_callVi (C0 : mm_Cx G p s m args c cc nL own) {C : String} {y : MethodName} {bytes : ByteArray} {maxL n index : Nat} {ret : Option FieldType} {rm : Room} (hw : mm_Vw C y bytes maxL ret n) (hlink : Cond.methodLink own index y ∈ wsG) {As : List Value} {post : Int → mE → Prop} (hC : mm_Ci l y (.code y bytes maxL ret :: wsG) rm G (.ref b :: As) E post) (hM : mm_M G E H) {ci N : Nat} {T : u_T} {fs : List Value} (he : E b = some (.inr (ci, fs))) (hc : vwCl[ci]? = some (C, T, N)) (hn : As.length = n) (hl : ls.size = nL) (hst : st = As.reverse ++ .ref b :: rest) (hW : (rest.map fun v => v.category).sum ≤ 8) (hR : rm.cells = 0 ∧ rm.slots = 0 ∧ rm.frames + 1 ≤ R.frames ∧ 8 + (maxL + 11) + rm.locals ≤ R.locals ∧ cells ≤ R.cells ∧ slots ≤ R.slots) (hdg : decode cc pc = .ok (.invokevirtual index, 3)) (hS : va_S (mm_A G) s.heap H locs)
    (kk : ∀ (z : Int) (E1 : mE) (H1 : Heap) (locs1 : List Loc), post z E1 → mm_M G E1 H1 → va_S (mm_A G) s.heap H1 locs1 → W p l e R s m args below meth c H1 locs1 cells slots Q (F0 m (pc + 3) ls (.int (zI z) :: rest))) : W p l e R s m args below meth c H locs cells slots Q (F0 m pc ls st) := by
  obtain ⟨hx, hb, hml, hown, hts, hK, hlo⟩ := C0
  obtain ⟨w1, w2, w3, w4, w5⟩ := hw
  obtain ⟨r1, r2, r3, r4, r5, r6⟩ := hR
  subst hst
  refine va_calli (va_runV (As := As) (rest := rest) ⟨hx, hb, hml, hown, hts⟩ hC (cwV n hts (wsG_V hlink w1 w2 w3 w4) rfl r1 r2 w5 ⟨r3, r4⟩) ⟨mm_blind G _ E, va_recv (q0 := 0) (fs := fs) hK (mm_one hM he) hc rfl, fun U hU hWm => ⟨rfl, va_K.moved hWm.alike hK, by rw [hU]; exact hM, by rw [hU]; exact Nat.le_trans hlo.1 hS.1, kW.moved hlo.2 hWm hU hS⟩⟩ rfl hn hl rfl (lv_room hW) hdg ⟨r5, r6⟩) hS (fun q _ h => h) (fun q h => h) (fun r u t H1 locs1 ht hvm hw hB hz1 hk1 hS1 => ?_)
  have hB : mm_M G u H1 := by rw [← ht]; exact hB
  obtain ⟨z, rfl, hp⟩ := hw
  exact kk z u H1 locs1 hp hB hS1
theorem mm_callSi (C0 : mm_Cx G p s m args c cc nL own) {y : MethodName} {bytes : ByteArray} {maxL n index : Nat} {ret : Option FieldType} {rm : Room} (hw : mm_Sw y bytes maxL ret n) (hlink : Cond.methodLink own index y ∈ wsG) {As : List Value} {post : Int → mE → Prop} (hC : mm_Ci l y (.code y bytes maxL ret :: wsG) rm G As E post) (hM : mm_M G E H) (hn : As.length = n) (hl : ls.size = nL) (hst : st = As.reverse ++ rest) (hW : (rest.map fun v => v.category).sum ≤ 8) (hR : rm.cells = 0 ∧ rm.slots = 0 ∧ rm.frames + 1 ≤ R.frames ∧ 8 + (maxL + 11) + rm.locals ≤ R.locals ∧ cells ≤ R.cells ∧ slots ≤ R.slots) (hdg : decode cc pc = .ok (.invokestatic index, 3)) (hS : va_S (mm_A G) s.heap H locs)
    (kk : ∀ (z : Int) (E1 : mE) (H1 : Heap) (locs1 : List Loc), post z E1 → mm_M G E1 H1 → va_S (mm_A G) s.heap H1 locs1 → W p l e R s m args below meth c H1 locs1 cells slots Q (F0 m (pc + 3) ls (.int (zI z) :: rest))) : W p l e R s m args below meth c H locs cells slots Q (F0 m pc ls st) := by
  obtain ⟨hx, hb, hml, hown, hts, hK, hlo⟩ := C0
  obtain ⟨w1, w2, w3, w4⟩ := hw
  obtain ⟨r1, r2, r3, r4, r5, r6⟩ := hR
  subst hst
  refine va_calli (va_runS (As := As) (rest := rest) ⟨hx, hb, hml, hown, hts⟩ hC (va_cwS n hts (wsG_S hlink w1 w2 w3) rfl r1 r2 w4 ⟨r3, r4⟩) ⟨mm_blind G _ E, fun U hU hWm => ⟨rfl, va_K.moved hWm.alike hK, by rw [hU]; exact hM, by rw [hU]; exact Nat.le_trans hlo.1 hS.1, kW.moved hlo.2 hWm hU hS⟩⟩ rfl hn hl rfl (lv_room hW) hdg ⟨r5, r6⟩) hS (fun q _ h => h) (fun q h => h) (fun r u t H1 locs1 ht hvm hw hB hz1 hk1 hS1 => ?_)
  have hB : mm_M G u H1 := by rw [← ht]; exact hB
  obtain ⟨z, rfl, hp⟩ := hw
  exact kk z u H1 locs1 hp hB hS1
theorem mm_callVl (C0 : mm_Cx G p s m args c cc nL own) {C : String} {y : MethodName} {bytes : ByteArray} {maxL n index : Nat} {ret : Option FieldType} {rm : Room} (hw : mm_Vw C y bytes maxL ret n) (hlink : Cond.methodLink own index y ∈ wsG) {As : List Value} {post : Int → mE → Prop} (hC : mm_Cl l y (.code y bytes maxL ret :: wsG) rm G (.ref b :: As) E post) (hM : mm_M G E H) {ci N : Nat} {T : u_T} {fs : List Value} (he : E b = some (.inr (ci, fs))) (hc : vwCl[ci]? = some (C, T, N)) (hn : As.length = n) (hl : ls.size = nL) (hst : st = As.reverse ++ .ref b :: rest) (hW : (rest.map fun v => v.category).sum ≤ 8) (hR : rm.cells = 0 ∧ rm.slots = 0 ∧ rm.frames + 1 ≤ R.frames ∧ 8 + (maxL + 11) + rm.locals ≤ R.locals ∧ cells ≤ R.cells ∧ slots ≤ R.slots) (hdg : decode cc pc = .ok (.invokevirtual index, 3)) (hS : va_S (mm_A G) s.heap H locs)
    (kk : ∀ (z : Int) (E1 : mE) (H1 : Heap) (locs1 : List Loc), post z E1 → mm_M G E1 H1 → va_S (mm_A G) s.heap H1 locs1 → W p l e R s m args below meth c H1 locs1 cells slots Q (F0 m (pc + 3) ls (.long (zL z) :: rest))) : W p l e R s m args below meth c H locs cells slots Q (F0 m pc ls st) := by
  obtain ⟨hx, hb, hml, hown, hts, hK, hlo⟩ := C0
  obtain ⟨w1, w2, w3, w4, w5⟩ := hw
  obtain ⟨r1, r2, r3, r4, r5, r6⟩ := hR
  subst hst
  refine va_calll (va_runV (As := As) (rest := rest) ⟨hx, hb, hml, hown, hts⟩ hC (cwV n hts (wsG_V hlink w1 w2 w3 w4) rfl r1 r2 w5 ⟨r3, r4⟩) ⟨mm_blind G _ E, va_recv (q0 := 0) (fs := fs) hK (mm_one hM he) hc rfl, fun U hU hWm => ⟨rfl, va_K.moved hWm.alike hK, by rw [hU]; exact hM, by rw [hU]; exact Nat.le_trans hlo.1 hS.1, kW.moved hlo.2 hWm hU hS⟩⟩ rfl hn hl rfl (lv_room hW) hdg ⟨r5, r6⟩) hS (fun q _ h => h) (fun q h => h) (fun r u t H1 locs1 ht hvm hw hB hz1 hk1 hS1 => ?_)
  have hB : mm_M G u H1 := by rw [← ht]; exact hB
  obtain ⟨z, rfl, hp⟩ := hw
  exact kk z u H1 locs1 hp hB hS1
theorem mm_callSl (C0 : mm_Cx G p s m args c cc nL own) {y : MethodName} {bytes : ByteArray} {maxL n index : Nat} {ret : Option FieldType} {rm : Room} (hw : mm_Sw y bytes maxL ret n) (hlink : Cond.methodLink own index y ∈ wsG) {As : List Value} {post : Int → mE → Prop} (hC : mm_Cl l y (.code y bytes maxL ret :: wsG) rm G As E post) (hM : mm_M G E H) (hn : As.length = n) (hl : ls.size = nL) (hst : st = As.reverse ++ rest) (hW : (rest.map fun v => v.category).sum ≤ 8) (hR : rm.cells = 0 ∧ rm.slots = 0 ∧ rm.frames + 1 ≤ R.frames ∧ 8 + (maxL + 11) + rm.locals ≤ R.locals ∧ cells ≤ R.cells ∧ slots ≤ R.slots) (hdg : decode cc pc = .ok (.invokestatic index, 3)) (hS : va_S (mm_A G) s.heap H locs)
    (kk : ∀ (z : Int) (E1 : mE) (H1 : Heap) (locs1 : List Loc), post z E1 → mm_M G E1 H1 → va_S (mm_A G) s.heap H1 locs1 → W p l e R s m args below meth c H1 locs1 cells slots Q (F0 m (pc + 3) ls (.long (zL z) :: rest))) : W p l e R s m args below meth c H locs cells slots Q (F0 m pc ls st) := by
  obtain ⟨hx, hb, hml, hown, hts, hK, hlo⟩ := C0
  obtain ⟨w1, w2, w3, w4⟩ := hw
  obtain ⟨r1, r2, r3, r4, r5, r6⟩ := hR
  subst hst
  refine va_calll (va_runS (As := As) (rest := rest) ⟨hx, hb, hml, hown, hts⟩ hC (va_cwS n hts (wsG_S hlink w1 w2 w3) rfl r1 r2 w4 ⟨r3, r4⟩) ⟨mm_blind G _ E, fun U hU hWm => ⟨rfl, va_K.moved hWm.alike hK, by rw [hU]; exact hM, by rw [hU]; exact Nat.le_trans hlo.1 hS.1, kW.moved hlo.2 hWm hU hS⟩⟩ rfl hn hl rfl (lv_room hW) hdg ⟨r5, r6⟩) hS (fun q _ h => h) (fun q h => h) (fun r u t H1 locs1 ht hvm hw hB hz1 hk1 hS1 => ?_)
  have hB : mm_M G u H1 := by rw [← ht]; exact hB
  obtain ⟨z, rfl, hp⟩ := hw
  exact kk z u H1 locs1 hp hB hS1
theorem mm_callVv (C0 : mm_Cx G p s m args c cc nL own) {C : String} {y : MethodName} {bytes : ByteArray} {maxL n index : Nat} {ret : Option FieldType} {rm : Room} (hw : mm_Vw C y bytes maxL ret n) (hlink : Cond.methodLink own index y ∈ wsG) {As : List Value} {post : mE → Prop} (hC : mm_Cv l y (.code y bytes maxL ret :: wsG) rm G (.ref b :: As) E post) (hM : mm_M G E H) {ci N : Nat} {T : u_T} {fs : List Value} (he : E b = some (.inr (ci, fs))) (hc : vwCl[ci]? = some (C, T, N)) (hn : As.length = n) (hl : ls.size = nL) (hst : st = As.reverse ++ .ref b :: rest) (hW : (rest.map fun v => v.category).sum ≤ 8) (hR : rm.cells = 0 ∧ rm.slots = 0 ∧ rm.frames + 1 ≤ R.frames ∧ 8 + (maxL + 11) + rm.locals ≤ R.locals ∧ cells ≤ R.cells ∧ slots ≤ R.slots) (hdg : decode cc pc = .ok (.invokevirtual index, 3)) (hS : va_S (mm_A G) s.heap H locs)
    (kk : ∀ (E1 : mE) (H1 : Heap) (locs1 : List Loc), post E1 → mm_M G E1 H1 → va_S (mm_A G) s.heap H1 locs1 → W p l e R s m args below meth c H1 locs1 cells slots Q (F0 m (pc + 3) ls (rest))) : W p l e R s m args below meth c H locs cells slots Q (F0 m pc ls st) := by
  obtain ⟨hx, hb, hml, hown, hts, hK, hlo⟩ := C0
  obtain ⟨w1, w2, w3, w4, w5⟩ := hw
  obtain ⟨r1, r2, r3, r4, r5, r6⟩ := hR
  subst hst
  refine va_callv (va_runV (As := As) (rest := rest) ⟨hx, hb, hml, hown, hts⟩ hC (cwV n hts (wsG_V hlink w1 w2 w3 w4) rfl r1 r2 w5 ⟨r3, r4⟩) ⟨mm_blind G _ E, va_recv (q0 := 0) (fs := fs) hK (mm_one hM he) hc rfl, fun U hU hWm => ⟨rfl, va_K.moved hWm.alike hK, by rw [hU]; exact hM, by rw [hU]; exact Nat.le_trans hlo.1 hS.1, kW.moved hlo.2 hWm hU hS⟩⟩ rfl hn hl rfl (lv_room hW) hdg ⟨r5, r6⟩) hS (fun q _ h => h) (fun q h => h) (fun u t H1 locs1 ht hvm hw hB hz1 hk1 hS1 => ?_)
  have hB : mm_M G u H1 := by rw [← ht]; exact hB
  exact kk u H1 locs1 hw hB hS1
theorem mm_callSv (C0 : mm_Cx G p s m args c cc nL own) {y : MethodName} {bytes : ByteArray} {maxL n index : Nat} {ret : Option FieldType} {rm : Room} (hw : mm_Sw y bytes maxL ret n) (hlink : Cond.methodLink own index y ∈ wsG) {As : List Value} {post : mE → Prop} (hC : mm_Cv l y (.code y bytes maxL ret :: wsG) rm G As E post) (hM : mm_M G E H) (hn : As.length = n) (hl : ls.size = nL) (hst : st = As.reverse ++ rest) (hW : (rest.map fun v => v.category).sum ≤ 8) (hR : rm.cells = 0 ∧ rm.slots = 0 ∧ rm.frames + 1 ≤ R.frames ∧ 8 + (maxL + 11) + rm.locals ≤ R.locals ∧ cells ≤ R.cells ∧ slots ≤ R.slots) (hdg : decode cc pc = .ok (.invokestatic index, 3)) (hS : va_S (mm_A G) s.heap H locs)
    (kk : ∀ (E1 : mE) (H1 : Heap) (locs1 : List Loc), post E1 → mm_M G E1 H1 → va_S (mm_A G) s.heap H1 locs1 → W p l e R s m args below meth c H1 locs1 cells slots Q (F0 m (pc + 3) ls (rest))) : W p l e R s m args below meth c H locs cells slots Q (F0 m pc ls st) := by
  obtain ⟨hx, hb, hml, hown, hts, hK, hlo⟩ := C0
  obtain ⟨w1, w2, w3, w4⟩ := hw
  obtain ⟨r1, r2, r3, r4, r5, r6⟩ := hR
  subst hst
  refine va_callv (va_runS (As := As) (rest := rest) ⟨hx, hb, hml, hown, hts⟩ hC (va_cwS n hts (wsG_S hlink w1 w2 w3) rfl r1 r2 w4 ⟨r3, r4⟩) ⟨mm_blind G _ E, fun U hU hWm => ⟨rfl, va_K.moved hWm.alike hK, by rw [hU]; exact hM, by rw [hU]; exact Nat.le_trans hlo.1 hS.1, kW.moved hlo.2 hWm hU hS⟩⟩ rfl hn hl rfl (lv_room hW) hdg ⟨r5, r6⟩) hS (fun q _ h => h) (fun q h => h) (fun u t H1 locs1 ht hvm hw hB hz1 hk1 hS1 => ?_)
  have hB : mm_M G u H1 := by rw [← ht]; exact hB
  exact kk u H1 locs1 hw hB hS1
theorem mm_ldc (C0 : mm_Cx G p s m args c cc nL own) {index : Nat} {v : Int32} {z : Int} (hconst : Cond.constant own index v ∈ wsG) (hz : v = zI z) (hdg : decode cc pc = .ok (.ldc index, 2)) (k : W p l e R s m args below meth c H locs cells slots Q (F0 m (pc + 2) ls (.int (zI z) :: rest))) : W p l e R s m args below meth c H locs cells slots Q (F0 m pc ls rest) := by
  subst hz
  exact lv_ldc C0.1 C0.2.1 C0.2.2.2.1 (C0.2.2.2.2.1 _ hconst) hdg k
theorem mm_ldcw (C0 : mm_Cx G p s m args c cc nL own) {index : Nat} {v : Int32} {z : Int} (hconst : Cond.constant own index v ∈ wsG) (hz : v = zI z) (hdg : decode cc pc = .ok (.ldc_w index, 3)) (k : W p l e R s m args below meth c H locs cells slots Q (F0 m (pc + 3) ls (.int (zI z) :: rest))) : W p l e R s m args below meth c H locs cells slots Q (F0 m pc ls rest) := by
  subst hz
  exact lv_ldcw C0.1 C0.2.1 C0.2.2.2.1 (C0.2.2.2.2.1 _ hconst) hdg k
theorem mm_ldc2 (C0 : mm_Cx G p s m args c cc nL own) {index : Nat} {v : Int64} {z : Int} (hconst : Cond.constantLong own index v ∈ wsG) (hz : v = zL z) (hdg : decode cc pc = .ok (.ldc2_w index, 3)) (k : W p l e R s m args below meth c H locs cells slots Q (F0 m (pc + 3) ls (.long (zL z) :: rest))) : W p l e R s m args below meth c H locs cells slots Q (F0 m pc ls rest) := by
  subst hz
  exact lv_ldc2 C0.1 C0.2.1 C0.2.2.2.1 (C0.2.2.2.2.1 _ hconst) hdg k
end ME
