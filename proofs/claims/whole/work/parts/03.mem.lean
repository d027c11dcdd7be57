/-! the memory as a map from addresses to cells: what is known of it; rows over it -/
abbrev mE : Type := Nat → Option va_E
abbrev mG : Type := va_G × (Nat → ClassId) × Nat
def mm_tys (cA : Nat → ClassId) : List (ClassId × FieldType) := [(cA 0, .long), (cA 1, .int), (cA 2, .object "OrangeHeaps$Place"), (cA 3, .object "OrangeHeaps$Sheet")]
def mm_M (G : mG) (E : mE) (H : Heap) : Prop := ∀ (q : Nat) (e : va_E), E q = some e → va_at G.1 vwCl (q, e) H ∧ G.2.2 ≤ q
def mm_K (G : mG) (U : State) : Prop := va_K G.1 vwCl (mm_tys G.2.1) U
def mm_A (G : mG) : Nat → Prop := fun q => G.2.2 ≤ q
def mm_up (E : mE) (a : Nat) (e : va_E) : mE := fun q => if q = a then some e else E q
def mm_J (G : mG) (n : Nat) (g : Nat → Int) : va_E := .inl (G.2.1 0, n, .inr (.inl (fun j => zL (g j))))
def mm_I (G : mG) (n : Nat) (g : Nat → Int) : va_E := .inl (G.2.1 1, n, .inl (fun j => zI (g j)))
def mm_Q (G : mG) (k n : Nat) (f : Nat → Option Nat) : va_E := .inl (G.2.1 k, n, .inr (.inr (.inr (.inr f))))
def zup (g : Nat → Int) (k : Nat) (x : Int) : Nat → Int := fun j => if j = k then x else g j
theorem zup_s (g : Nat → Int) (k : Nat) (x : Int) : zup g k x k = x := if_pos rfl
theorem zup_n (g : Nat → Int) {k j : Nat} (x : Int) (h : j ≠ k) : zup g k x j = g j := if_neg h
theorem mm_up_s (E : mE) (a : Nat) (e : va_E) : mm_up E a e a = some e := if_pos rfl
theorem mm_up_n (E : mE) {a q : Nat} (e : va_E) (h : q ≠ a) : mm_up E a e q = E q := if_neg h
theorem mm_up_up (E : mE) (a : Nat) (e e' : va_E) : mm_up (mm_up E a e) a e' = mm_up E a e' := by
  funext q; unfold mm_up; split <;> rfl
theorem mm_up_sw (E : mE) {a b : Nat} (e e' : va_E) (h : a ≠ b) : mm_up (mm_up E a e) b e' = mm_up (mm_up E b e') a e := by
  funext q; unfold mm_up; by_cases h1 : q = a
  · subst h1; rw [if_neg h, if_pos rfl, if_pos rfl]
  · rw [if_neg h1, if_neg h1]
theorem mm_one {G : mG} {E : mE} {H : Heap} (hM : mm_M G E H) {a : Nat} {e : va_E} (he : E a = some e) : va_P G.1 vwCl [(a, e)] H := fun k q hk => by
  cases k with
  | zero => cases hk; exact (hM a e he).1
  | succ k => simp at hk
theorem mm_M.lt {G : mG} {E : mE} {H : Heap} (hM : mm_M G E H) {a : Nat} {e : va_E} (he : E a = some e) : a < H.size := (hM a e he).1.lt
theorem mm_M.lo {G : mG} {E : mE} {H : Heap} (hM : mm_M G E H) {a : Nat} {e : va_E} (he : E a = some e) : G.2.2 ≤ a := (hM a e he).2
theorem mm_M.put {G : mG} {E : mE} {H H1 : Heap} (hM : mm_M G E H) {a : Nat} {e0 e : va_E} (he : E a = some e0) (hat : va_at G.1 vwCl (a, e) H1) (oq : ∀ q : Nat, q ≠ a → H1[q]? = H[q]?) : mm_M G (mm_up E a e) H1 := fun q x hq => by
  by_cases h : q = a
  · subst h
    rw [mm_up_s] at hq
    cases hq
    exact ⟨hat, (hM q e0 he).2⟩
  · rw [mm_up_n _ _ h] at hq
    exact ⟨(hM q x hq).1.kept (oq q h), (hM q x hq).2⟩
theorem mm_M.add {G : mG} {E : mE} {H H1 : Heap} (hM : mm_M G E H) {a : Nat} {e : va_E} (ha : a = H.size) (hlo : G.2.2 ≤ a) (hat : va_at G.1 vwCl (a, e) H1) (oq : ∀ q : Nat, q < H.size → H1[q]? = H[q]?) : mm_M G (mm_up E a e) H1 := fun q x hq => by
  by_cases h : q = a
  · subst h
    rw [mm_up_s] at hq
    cases hq
    exact ⟨hat, hlo⟩
  · rw [mm_up_n _ _ h] at hq
    exact ⟨(hM q x hq).1.kept (oq q (hM q x hq).1.lt), (hM q x hq).2⟩
theorem mm_fresh {G : mG} {E : mE} {H : Heap} (hM : mm_M G E H) : ∀ q : Nat, H.size ≤ q → E q = none := fun q h => by
  cases he : E q with
  | none => rfl
  | some e => have := hM.lt he; omega
theorem mm_zupJ (g : Nat → Int) (k : Nat) (x : Int) : (fun j => zL (zup g k x j)) = vp_updL (fun j => zL (g j)) k (zL x) := by
  funext j; unfold zup vp_updL; split <;> rfl
theorem mm_zupI (g : Nat → Int) (k : Nat) (x : Int) : (fun j => zI (zup g k x j)) = upd (fun j => zI (g j)) k (zI x) := by
  funext j; unfold zup upd; split <;> rfl
/-- the one text among the constants, and what the JDK keeps of its texts' form: they lie below all that we make -/
def mm_q (G : mG) : Nat := G.2.1 100
def mm_v (G : mG) : Nat := G.2.1 101
def kW (G : mG) (U : State) : Prop := vk_R "OrangeHeaps$Tape" 76 "stoch" (mm_q G) U ∧ vk_S 1 [5] [[115, 116, 111, 99, 104]] (fun _ => mm_q G) (fun _ => mm_v G) (mm_A G) U U.heap ∧ va_Z "java/lang/String" "COMPACT_STRINGS" "Z" (.int 1) (mm_A G) U U.heap
theorem kW.moved {G : mG} {s U : State} {H : Heap} {locs : List Loc} (h : kW G s) (hW : s.WarmedH U.vm) (hU : U.heap = H) (hS : va_S (mm_A G) s.heap H locs) : kW G U := by
  obtain ⟨h1, h2, h3⟩ := h
  exact ⟨vk_R.warm hW h1, vk_S.moved hW.alike (h2.kept (fun a h4 h5 => by rw [hU]; exact hS.2.1 a h4 h5)), va_Z.moved hW.alike (h3.kept (fun a h4 h5 => by rw [hU]; exact hS.2.1 a h4 h5))⟩
theorem kW.same {G : mG} {s U : State} (h : kW G s) (hv : U.vm = s.vm) (hU : U.heap = s.heap) : kW G U := by
  obtain ⟨h1, h2, h3⟩ := h
  have ha : s.vm.Alike U.vm := by rw [hv]; exact Vm.Alike.refl s.vm
  exact ⟨vk_R.same hv h1, by rw [hU]; exact vk_S.moved ha h2, by rw [hU]; exact va_Z.moved ha h3⟩
/-- what a method's rows stand on: the machine, the code, the tables, the classes -/
def mm_Cx (G : mG) (p : Program) (s : State) (m : MethodId) (args : Array Value) (c : Code) (cc : ByteArray) (nL : Nat) (own : String) : Prop :=
  p.tables.exec = Jvm.exec ∧ c.code = cc ∧ c.maxLocals = nL ∧ s.vm.findClass own = some m.cls ∧ (∀ w ∈ wsG, w.before args s = true) ∧ mm_K G s ∧ G.2.2 ≤ s.heap.size ∧ kW G s
section MR
variable {p : Program} {l : Launch} {e : Env} {R : Room} {s : State} {m : MethodId} {args : Array Value} {below : List Frame} {meth : Method} {c : Code} {H : Heap} {locs : List Loc} {cells slots : Nat} {Q : State → Prop} {cc : ByteArray} {pc nL : Nat} {ls : Array Slot} {rest : List Value} {own : String} {G : mG} {E : mE} {a : Nat} {H0 : Heap}
theorem mm_get (C0 : mm_Cx G p s m args c cc nL own) {ref C : String} {T : u_T} {N ci index : Nat} (hin : ∀ w ∈ u_ws C T N, w ∈ wsG) (hM : mm_M G E H) {fs : List Value} (he : E a = some (.inr (ci, fs))) (hc : vwCl[ci]? = some (C, T, N)) (k : Nat) (hk : k < N) (hlink : Cond.fieldLink own index ref (T k).2.1 (T k).2.2.1 ∈ wsG) (hsame : (T k).1 = ref) {v : Value} (hv : fs[k]? = some v) (hdg : decode cc pc = .ok (.getfield index, 3))
    (kk : W p l e R s m args below meth c H locs cells slots Q (F0 m (pc + 3) ls (v :: rest))) : W p l e R s m args below meth c H locs cells slots Q (F0 m pc ls (.ref a :: rest)) :=
  va_get C0.1 C0.2.1 C0.2.2.2.2.1 hin C0.2.2.2.1 C0.2.2.2.2.2.1 (mm_one hM he) 0 rfl hc k hk (C0.2.2.2.2.1 _ hlink) (fun x h => by rw [← hsame]; exact h) hv hdg kk
theorem mm_put (C0 : mm_Cx G p s m args c cc nL own) {ref C : String} {T : u_T} {N ci index : Nat} (hin : ∀ w ∈ u_ws C T N, w ∈ wsG) (ty0 : Nat → FieldType) (hty : ∀ k, k < N → parseFieldDescriptor (T k).2.2.1 = some (ty0 k)) (hnm : ∀ a, a < N → ∀ b, b < N → a ≠ b → (T a).2.1 ≠ (T b).2.1) (hM : mm_M G E H) (hS0 : va_S (mm_A G) H0 H locs) {fs : List Value} (he : E a = some (.inr (ci, fs))) (hc : vwCl[ci]? = some (C, T, N)) (k : Nat) (hk : k < N) (hlink : Cond.fieldLink own index ref (T k).2.1 (T k).2.2.1 ∈ wsG) (hsame : (T k).1 = ref) (hfin : (T k).2.2.2 = false) {ty : FieldType} {v : Value} (hd : parseFieldDescriptor (T k).2.2.1 = some ty) (hn : narrow ty v = v) (hfit : fits ty v = true) (hl : k < fs.length)
    (hdg : decode cc pc = .ok (.putfield index, 3)) (kk : ∀ (H1 : Heap) (locs1 : List Loc), mm_M G (mm_up E a (.inr (ci, fs.set k v))) H1 → va_S (mm_A G) H0 H1 locs1 → H1.size = H.size → W p l e R s m args below meth c H1 locs1 cells slots Q (F0 m (pc + 3) ls rest)) : W p l e R s m args below meth c H locs cells slots Q (F0 m pc ls (v :: .ref a :: rest)) := by
  obtain ⟨hexec, hb, hml, hown, hts, hK, hlo⟩ := C0
  have hap := va_apart (own := own) hts hin ty0 hty hnm hK hc
  obtain ⟨r, h1, cell, q1, q2, q3, q4⟩ := (hM a _ he).1
  have hr : r = (C, T, N) := Option.some.inj (h1.symm.trans hc)
  subst hr
  obtain ⟨hS, hfc, kC, hkC, hkind⟩ := hK.1 ci _ hc
  obtain ⟨cf, kf, fi, f, hi, hsl⟩ := hS k hk
  have hlay := hts _ (hin _ (u_in_lay hk))
  unfold u_lay at hlay
  rw [if_neg (by rw [hfin]; decide)] at hlay
  have hst := (u_facts hfc hkC (u_lays hts hin hk) hi).1
  have h6 := u_store hfc hkC hkind hlay hi hd hn hfit
  refine W.putK hexec hb (f := f) ⟨hown, hts _ hlink, ⟨_, _, _, by rw [← hsame]; exact hi⟩, hst⟩ (by rw [q2]; exact h6) q1 q3 (by rw [hsl]; exact k2_hasslot (q4 k hk)) rfl rfl hdg fun H' e1 e2 e3 => ?_
  rw [hsl] at e1 ⊢
  exact kk H' _ (hM.put he ⟨_, hc, t_OB.to (V := updV (vp_V fs) k v) ⟨_, e1, q2, q3, t_set q4 hap hk v⟩ (fun j _ => vp_updV_set hl v j)⟩ e3) (hS0.put e2 e3 (hM a _ he).2) e2
theorem mm_putF (C0 : mm_Cx G p s m args c cc nL own) {ref C : String} {T : u_T} {N ci index : Nat} (hin : ∀ w ∈ u_ws C T N, w ∈ wsG) (ty0 : Nat → FieldType) (hty : ∀ k, k < N → parseFieldDescriptor (T k).2.2.1 = some (ty0 k)) (hnm : ∀ a, a < N → ∀ b, b < N → a ≠ b → (T a).2.1 ≠ (T b).2.1) (hM : mm_M G E H) (hS0 : va_S (mm_A G) H0 H locs) {fs : List Value} (he : E a = some (.inr (ci, fs))) (hc : vwCl[ci]? = some (C, T, N)) (k : Nat) (hk : k < N) (hlink : Cond.fieldLink own index ref (T k).2.1 (T k).2.2.1 ∈ wsG) (hsame : (T k).1 = ref) (hfin : (T k).2.2.2 = true) (hin2 : meth.name = "<init>") (hdecl : (T k).1 = own) {ty : FieldType} {v : Value} (hd : parseFieldDescriptor (T k).2.2.1 = some ty) (hn : narrow ty v = v) (hfit : fits ty v = true) (hl : k < fs.length)
    (hdg : decode cc pc = .ok (.putfield index, 3)) (kk : ∀ (H1 : Heap) (locs1 : List Loc), mm_M G (mm_up E a (.inr (ci, fs.set k v))) H1 → va_S (mm_A G) H0 H1 locs1 → H1.size = H.size → W p l e R s m args below meth c H1 locs1 cells slots Q (F0 m (pc + 3) ls rest)) : W p l e R s m args below meth c H locs cells slots Q (F0 m pc ls (v :: .ref a :: rest)) := by
  obtain ⟨hexec, hb, hml, hown, hts, hK, hlo⟩ := C0
  have hap := va_apart (own := own) hts hin ty0 hty hnm hK hc
  obtain ⟨r, h1, cell, q1, q2, q3, q4⟩ := (hM a _ he).1
  have hr : r = (C, T, N) := Option.some.inj (h1.symm.trans hc)
  subst hr
  obtain ⟨hS, hfc, kC, hkC, hkind⟩ := hK.1 ci _ hc
  obtain ⟨cf, kf, fi, f, hi, hsl⟩ := hS k hk
  have hlay := hts _ (hin _ (u_in_lay hk))
  unfold u_lay at hlay
  rw [if_pos hfin] at hlay
  have hst := (u_facts hfc hkC (u_lays hts hin hk) hi).1
  have hcf : m.cls = cf := by
    obtain ⟨_, _, c', _, _, _, -, -, hf', -, -, -, hown2, -⟩ := Cond.laysFinal_spec hlay
    have e1 : c' = cf := by have := hi.symm.trans hf'; simp at this; exact this.1.symm
    rw [hdecl] at hown2
    rw [← e1]; exact Option.some.inj (hown.symm.trans hown2)
  have h6 := u_fits hfc hkC hkind (Or.inr hlay) hi hd hn hfit
  refine W.putFinK hexec hb hown (hts _ hlink) (by rw [← hsame]; exact hi) hst hcf hin2 (by rw [q2]; exact h6) q1 q3 (by rw [hsl]; exact k2_hasslot (q4 k hk)) rfl rfl hdg fun H' e1 e2 e3 => ?_
  rw [hsl] at e1 ⊢
  exact kk H' _ (hM.put he ⟨_, hc, t_OB.to (V := updV (vp_V fs) k v) ⟨_, e1, q2, q3, t_set q4 hap hk v⟩ (fun j _ => vp_updV_set hl v j)⟩ e3) (hS0.put e2 e3 (hM a _ he).2) e2
theorem mm_lald (C0 : mm_Cx G p s m args c cc nL own) (hM : mm_M G E H) {n : Nat} {g : Nat → Int} (he : E a = some (mm_J G n g)) (k : Nat) {i : Int} (hi : i = (k : Int)) (hk : k < n) (hn : n < 2147483648) (hdg : decode cc pc = .ok (.laload, 1))
    (kk : W p l e R s m args below meth c H locs cells slots Q (F0 m (pc + 1) ls (.long (zL (g k)) :: rest))) : W p l e R s m args below meth c H locs cells slots Q (F0 m pc ls (.int (zI i) :: .ref a :: rest)) := by
  obtain ⟨h1, h2⟩ := zI_in hi hk hn
  exact va_lald C0.1 C0.2.1 C0.2.2.2.2.2.1 (mm_one hM he) 0 0 rfl rfl h1 hdg (by rw [h2]; exact kk)
theorem mm_iald (C0 : mm_Cx G p s m args c cc nL own) (hM : mm_M G E H) {n : Nat} {g : Nat → Int} (he : E a = some (mm_I G n g)) (k : Nat) {i : Int} (hi : i = (k : Int)) (hk : k < n) (hn : n < 2147483648) (hdg : decode cc pc = .ok (.iaload, 1))
    (kk : W p l e R s m args below meth c H locs cells slots Q (F0 m (pc + 1) ls (.int (zI (g k)) :: rest))) : W p l e R s m args below meth c H locs cells slots Q (F0 m pc ls (.int (zI i) :: .ref a :: rest)) := by
  obtain ⟨h1, h2⟩ := zI_in hi hk hn
  exact va_iald C0.1 C0.2.1 C0.2.2.2.2.2.1 (mm_one hM he) 0 1 rfl rfl h1 hdg (by rw [h2]; exact kk)
theorem mm_aald (C0 : mm_Cx G p s m args c cc nL own) (hM : mm_M G E H) (t : Nat) {C : String} {n : Nat} {f : Nat → Option Nat} (he : E a = some (mm_Q G t n f)) (ht : (mm_tys G.2.1)[t]? = some (G.2.1 t, .object C)) (k : Nat) {i : Int} (hi : i = (k : Int)) (hk : k < n) (hn : n < 2147483648) {v : Nat} (hv : f k = some v) (hdg : decode cc pc = .ok (.aaload, 1))
    (kk : W p l e R s m args below meth c H locs cells slots Q (F0 m (pc + 1) ls (.ref v :: rest))) : W p l e R s m args below meth c H locs cells slots Q (F0 m pc ls (.int (zI i) :: .ref a :: rest)) := by
  obtain ⟨h1, h2⟩ := zI_in hi hk hn
  exact va_aldq C0.1 C0.2.1 C0.2.2.2.2.2.1 (mm_one hM he) 0 t rfl ht h1 hdg (by rw [h2, hv]; exact kk)
theorem mm_last (C0 : mm_Cx G p s m args c cc nL own) (hM : mm_M G E H) (hS : va_S (mm_A G) H0 H locs) {n : Nat} {g : Nat → Int} (he : E a = some (mm_J G n g)) (k : Nat) {i x : Int} (hi : i = (k : Int)) (hk : k < n) (hn : n < 2147483648) (hdg : decode cc pc = .ok (.lastore, 1))
    (kk : ∀ (H1 : Heap) (locs1 : List Loc), mm_M G (mm_up E a (mm_J G n (zup g k x))) H1 → va_S (mm_A G) H0 H1 locs1 → H1.size = H.size → W p l e R s m args below meth c H1 locs1 cells slots Q (F0 m (pc + 1) ls rest)) : W p l e R s m args below meth c H locs cells slots Q (F0 m pc ls (.long (zL x) :: .int (zI i) :: .ref a :: rest)) := by
  obtain ⟨h1, h2⟩ := zI_in hi hk hn
  refine W.last C0.1 C0.2.1 (hM a _ he).1 ((C0.2.2.2.2.2.1.2 0 _ rfl).1 n (fun j => .long (zL (g j)))) (fun q => by cases q) (by show ¬ (zI i < 0 ∨ (arrV _ _ _).slots.size ≤ _); rw [arrV_size]; exact h1) rfl rfl hdg fun H1 e z oq => ?_
  refine kk H1 _ (hM.put he ?_ oq) (hS.put z oq (hM a _ he).2) z
  show H1[a]? = some (vp_cell _ _)
  rw [e, h2, mm_zupJ]
  show some ((vp_cell (G.2.1 0) (n, .inr (.inl (fun j => zL (g j))))).setSlot k (.long (zL x))) = some (vp_cell (G.2.1 0) (n, .inr (.inl (vp_updL (fun j => zL (g j)) k (zL x)))))
  rw [vp_cell_l, vp_cell_l, arrV_store]
  congr 2
  funext q
  by_cases hq : q = k
  · subst hq
    simp [updV, vp_updL]
  · simp [updV, vp_updL, hq]
theorem mm_iast (C0 : mm_Cx G p s m args c cc nL own) (hM : mm_M G E H) (hS : va_S (mm_A G) H0 H locs) {n : Nat} {g : Nat → Int} (he : E a = some (mm_I G n g)) (k : Nat) {i x : Int} (hi : i = (k : Int)) (hk : k < n) (hn : n < 2147483648) (hdg : decode cc pc = .ok (.iastore, 1))
    (kk : ∀ (H1 : Heap) (locs1 : List Loc), mm_M G (mm_up E a (mm_I G n (zup g k x))) H1 → va_S (mm_A G) H0 H1 locs1 → H1.size = H.size → W p l e R s m args below meth c H1 locs1 cells slots Q (F0 m (pc + 1) ls rest)) : W p l e R s m args below meth c H locs cells slots Q (F0 m pc ls (.int (zI x) :: .int (zI i) :: .ref a :: rest)) := by
  obtain ⟨h1, h2⟩ := zI_in hi hk hn
  refine W.iast C0.1 C0.2.1 (hM a _ he).1 ((C0.2.2.2.2.2.1.2 1 _ rfl).1 n (fun j => .int (zI (g j)))) (fun q => by cases q) (by show ¬ (zI i < 0 ∨ (arrV _ _ _).slots.size ≤ _); rw [arrV_size]; exact h1) rfl rfl hdg fun H1 e z oq => ?_
  refine kk H1 _ (hM.put he ?_ oq) (hS.put z oq (hM a _ he).2) z
  show H1[a]? = some (vp_cell _ _)
  rw [e, h2, mm_zupI]
  show some ((vp_cell (G.2.1 1) (n, .inl (fun j => zI (g j)))).setSlot k (.int (zI x))) = some (vp_cell (G.2.1 1) (n, .inl (upd (fun j => zI (g j)) k (zI x))))
  rw [vp_cell_i, vp_cell_i, arrV_store]
  congr 2
  funext q
  by_cases hq : q = k
  · subst hq
    simp [updV, upd]
  · simp [updV, upd, hq]
theorem mm_aast (C0 : mm_Cx G p s m args c cc nL own) (hM : mm_M G E H) (hS : va_S (mm_A G) H0 H locs) (t : Nat) {n v ci : Nat} {r : vw_C} {vs : List Value} {f : Nat → Option Nat} (he : E a = some (mm_Q G t n f)) (ht : (mm_tys G.2.1)[t]? = some (G.2.1 t, .object r.1)) (hv : E v = some (.inr (ci, vs))) (hc : vwCl[ci]? = some r) (k : Nat) {i : Int} (hi : i = (k : Int)) (hk : k < n) (hn : n < 2147483648) (hdg : decode cc pc = .ok (.aastore, 1))
    (kk : ∀ (H1 : Heap) (locs1 : List Loc), mm_M G (mm_up E a (mm_Q G t n (va_up f k (some v)))) H1 → va_S (mm_A G) H0 H1 locs1 → H1.size = H.size → W p l e R s m args below meth c H1 locs1 cells slots Q (F0 m (pc + 1) ls rest)) : W p l e R s m args below meth c H locs cells slots Q (F0 m pc ls (.ref v :: .int (zI i) :: .ref a :: rest)) := by
  obtain ⟨h1, h2⟩ := zI_in hi hk hn
  have h0 : ¬ zI i < 0 := fun q => h1 (Or.inl q)
  have hK := C0.2.2.2.2.2.1
  obtain ⟨r', hr', cellV, g1, g2, g3, -⟩ := (hM v _ hv).1
  have hcls := (hK.1 ci r hc).2
  obtain ⟨kA, comp, k1, k2, k3, -⟩ := (hK.2 t _ ht).2
  have hcomp : comp = G.1.1 ci := Option.some.inj (k3.symm.trans hcls.1)
  subst hcomp
  obtain ⟨kC, hkC, -⟩ := hcls.2
  refine W.aast C0.1 C0.2.1 (hM a _ he).1 (fun q h => by cases h) (fun h => by cases h) k1 k2 rfl hkC ⟨h0, by show _ < (arrV _ _ _).slots.size; rw [arrV_size, h2]; exact hk⟩ g1 (fun q h => by rw [g3] at h; cases h) (by rw [g2]; exact hkC) (by rw [g2]; exact va_assign hcls) rfl rfl hdg fun H1 e z oq => ?_
  refine kk H1 _ (hM.put he ?_ oq) (hS.put z oq (hM a _ he).2) z
  show H1[a]? = some (vp_cell _ _)
  rw [e, h2]
  show some ((vp_cell (G.2.1 t) (n, .inr (.inr (.inr (.inr f))))).setSlot k (.ref v)) = some (vp_cell (G.2.1 t) (n, .inr (.inr (.inr (.inr (va_up f k (some v)))))))
  rw [vp_cell_q, vp_cell_q, arrV_store]
  congr 2
  funext q
  by_cases hq : q = k
  · subst hq
    simp [updV, va_up, va_rf]
  · simp [updV, va_up, hq]
theorem mm_new (C0 : mm_Cx G p s m args c cc nL own) {C : String} {T : u_T} {N ci index : Nat} (hin : ∀ w ∈ u_ws C T N, w ∈ wsG) (ty : Nat → FieldType) (hty : ∀ k, k < N → parseFieldDescriptor (T k).2.2.1 = some (ty k)) (hcl : Cond.classLink own index C ∈ wsG) (hinst : Cond.instantiable C N ∈ wsG) (hini : Cond.initialized C ∈ wsG) (hM : mm_M G E H) (hS : va_S (mm_A G) s.heap H locs) (hc : vwCl[ci]? = some (C, T, N)) {fs : List Value} (hfs : ∀ j, j < N → defaultValue (ty j) = vp_V fs j) (hcells : cells + 1 ≤ R.cells) (hslots : slots + N ≤ R.slots) (hdg : decode cc pc = .ok (.new index, 3))
    (kk : ∀ (H1 : Heap), mm_M G (mm_up E H.size (.inr (ci, fs))) H1 → va_S (mm_A G) s.heap H1 locs → H1.size = H.size + 1 → W p l e R s m args below meth c H1 locs (cells + 1) (slots + N) Q (F0 m (pc + 3) ls (.ref H.size :: rest))) : W p l e R s m args below meth c H locs cells slots Q (F0 m pc ls rest) := by
  obtain ⟨hexec, hb, hml, hown, hts, hK, hlo⟩ := C0
  have hKn := hK.1 ci _ hc
  refine W.newcK hexec hb hown (hts _ hcl) (hts _ hinst) (hts _ hini) rfl hdg hcells hslots hKn.2.1 rfl fun H1 kC hkC e1 z1 o1 => ?_
  refine kk H1 (hM.add rfl (Nat.le_trans hlo.1 hS.1) ⟨_, hc, (u_born ty hts hin hKn hkC e1 hty).to hfs⟩ o1) ⟨Nat.le_trans hS.1 (by omega), fun x h1 h2 => (o1 x (Nat.lt_of_lt_of_le h1 hS.1)).trans (hS.2.1 x h1 h2), hS.2.2⟩ z1
end MR
