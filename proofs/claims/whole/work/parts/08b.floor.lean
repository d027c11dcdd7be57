theorem Met.ofWF {l : Launch} {y : MethodName} {ws ws' : List Cond} {rm : Room} {Pc : Array Value → State → Prop} {Qc : Array Value → State → Outcome → State → Prop} {mc ms : Nat} {free : Addr → Prop} {cc : ByteArray} {maxL : Nat} {ret : Option FieldType}
    (hy : plainFor y = true) (hw : ws = Cond.code y cc maxL ret :: ws')
    (body : ∀ p e s m args below meth c s₁, BodyLoose p l y (headSpec ws rm) cc maxL ret e s m args below meth c s₁ → c.maxLocals = maxL → Pc args s →
      W p l e (headSpec ws rm).room s m args below meth c s.heap [] 0 0 (MQ below Qc args s mc ms free) (entryFrame m args maxL)) : Met l y ws rm Pc Qc mc ms free := by
  refine MetFree.of_bodySF (code := cc) (maxLocals := maxL) (ret := ret) hy ?_ ?_
  · intro args s m h hn
    obtain ⟨meth, c, h1, h2, h3, h4, h5, h6, -, -⟩ := Cond.code_spec hn (atoms_spec (ws := ws) h _ (by rw [hw]; exact List.mem_cons_self))
    exact ⟨meth, c, h1, h2, h3, h4, h5, h6⟩
  · intro p e s m args below meth c s₁ B hml hP _
    have hh0 : s₁.heap = s.heap := by rw [B.state]; rfl
    obtain ⟨t, a1, o, b1, b2, b3⟩ := body p e s m args below meth c s₁ B hml hP s₁ hh0 (Stand.of_body B)
    exact ⟨t, o, a1, b1, b2, ⟨b3.1, b3.2⟩⟩
theorem mm_of_iF {l : Launch} {y : MethodName} {cc : ByteArray} {maxL : Nat} {rt : FieldType} {rm : Room} {G : mG} {av : List Value} {E : mE} {post : Int → mE → Prop} (hy : plainFor y = true) (hlen : (lg_sl av).length ≤ maxL)
    (body : ∀ (p : Program) (e : Env) (s : State) (m : MethodId) (args : Array Value) (below : List Frame) (meth : Method) (c : Code) (ls : Array Slot), mm_Cx G p s m args c cc maxL y.cls → meth.sig.returnType = (some rt) → meth.locks = false → mm_M G E s.heap → lv_has ls maxL (lv_args 0 av) → va_S (mm_A G) s.heap s.heap [] →
      W p l e rm s m args below meth c s.heap [] 0 0 (mm_Zi G below args s post) (F0 m 0 ls [])) : mm_Ci l y (.code y cc maxL (some rt) :: wsG) rm G av E post := by
  refine Met.ofWF (cc := cc) (maxL := maxL) (ret := (some rt)) hy rfl ?_
  intro p e s m args below meth c s₁ B hml hv
  obtain ⟨rfl, hK, hM, hlo⟩ := hv
  have hts := atoms_spec (ws := .code y cc maxL (some rt) :: wsG) B.pre
  have hl := lv_entry av (n := maxL) hlen
  rw [lg_entry_eq]
  exact body p e s m av.toArray below meth c _ ⟨B.exec, B.bytes, hml, findClass_of_methodNamed B.named, fun w h => hts w (List.mem_cons_of_mem _ h), hK, hlo⟩ B.returns B.notSynchronized hM hl va_S.rf
theorem mm_of_lF {l : Launch} {y : MethodName} {cc : ByteArray} {maxL : Nat} {rm : Room} {G : mG} {av : List Value} {E : mE} {post : Int → mE → Prop} (hy : plainFor y = true) (hlen : (lg_sl av).length ≤ maxL)
    (body : ∀ (p : Program) (e : Env) (s : State) (m : MethodId) (args : Array Value) (below : List Frame) (meth : Method) (c : Code) (ls : Array Slot), mm_Cx G p s m args c cc maxL y.cls → meth.sig.returnType = (some .long) → meth.locks = false → mm_M G E s.heap → lv_has ls maxL (lv_args 0 av) → va_S (mm_A G) s.heap s.heap [] →
      W p l e rm s m args below meth c s.heap [] 0 0 (mm_Zl G below args s post) (F0 m 0 ls [])) : mm_Cl l y (.code y cc maxL (some .long) :: wsG) rm G av E post := by
  refine Met.ofWF (cc := cc) (maxL := maxL) (ret := (some .long)) hy rfl ?_
  intro p e s m args below meth c s₁ B hml hv
  obtain ⟨rfl, hK, hM, hlo⟩ := hv
  have hts := atoms_spec (ws := .code y cc maxL (some .long) :: wsG) B.pre
  have hl := lv_entry av (n := maxL) hlen
  rw [lg_entry_eq]
  exact body p e s m av.toArray below meth c _ ⟨B.exec, B.bytes, hml, findClass_of_methodNamed B.named, fun w h => hts w (List.mem_cons_of_mem _ h), hK, hlo⟩ B.returns B.notSynchronized hM hl va_S.rf
theorem mm_of_vF {l : Launch} {y : MethodName} {cc : ByteArray} {maxL : Nat} {rm : Room} {G : mG} {av : List Value} {E : mE} {post : mE → Prop} (hy : plainFor y = true) (hlen : (lg_sl av).length ≤ maxL)
    (body : ∀ (p : Program) (e : Env) (s : State) (m : MethodId) (args : Array Value) (below : List Frame) (meth : Method) (c : Code) (ls : Array Slot), mm_Cx G p s m args c cc maxL y.cls → meth.sig.returnType = none → meth.locks = false → mm_M G E s.heap → lv_has ls maxL (lv_args 0 av) → va_S (mm_A G) s.heap s.heap [] →
      W p l e rm s m args below meth c s.heap [] 0 0 (mm_Zv G below args s post) (F0 m 0 ls [])) : mm_Cv l y (.code y cc maxL none :: wsG) rm G av E post := by
  refine Met.ofWF (cc := cc) (maxL := maxL) (ret := none) hy rfl ?_
  intro p e s m args below meth c s₁ B hml hv
  obtain ⟨rfl, hK, hM, hlo⟩ := hv
  have hts := atoms_spec (ws := .code y cc maxL none :: wsG) B.pre
  have hl := lv_entry av (n := maxL) hlen
  rw [lg_entry_eq]
  exact body p e s m av.toArray below meth c _ ⟨B.exec, B.bytes, hml, findClass_of_methodNamed B.named, fun w h => hts w (List.mem_cons_of_mem _ h), hK, hlo⟩ B.returns B.notSynchronized hM hl va_S.rf

theorem xor_neg {x y : Int64} (hy : 0 ≤ y.toInt) : (x ^^^ y).toInt < 0 ↔ x.toInt < 0 := by
  have e : ∀ b : Int64, b.toInt < 0 ↔ b.toBitVec.msb = true := fun b => by
    rw [BitVec.msb_eq_toInt]; simp
  rw [e, e, Int64.toBitVec_xor, BitVec.msb_xor]
  have h : y.toBitVec.msb = false := by
    have := e y
    cases h2 : y.toBitVec.msb with
    | false => rfl
    | true => rw [h2] at this; simp at this; omega
  rw [h]; simp
section ZX
variable {p : Program} {l : Launch} {e : Env} {R : Room} {s : State} {m : MethodId} {args : Array Value} {below : List Frame} {meth : Method} {c : Code} {H : Heap} {locs : List Loc} {cells slots : Nat} {Q : State → Prop} {cc : ByteArray} {pc : Nat} {ls : Array Slot} {rest : List Value}
theorem z_lxor (hx : p.tables.exec = Jvm.exec) (hb : c.code = cc) {a b : Int} (hdg : decode cc pc = .ok (.lxor, 1)) (ha : rL a) (hb2 : rL b) (h0 : 0 ≤ b) (k : ∀ w : Int, rL w → (w < 0 ↔ a < 0) → W p l e R s m args below meth c H locs cells slots Q (F0 m (pc + 1) ls (.long (zL w) :: rest))) : W p l e R s m args below meth c H locs cells slots Q (F0 m pc ls (.long (zL b) :: .long (zL a) :: rest)) := by
  refine lv_lxor hx hb hdg ?_
  rw [← zL_of (zL a ^^^ zL b)]
  refine k _ (rL_of _) ?_
  rw [xor_neg (by rw [zL_toInt hb2]; exact h0), zL_toInt ha]
end ZX
theorem fl_div {x y : Int} (hy : 0 < y) : (x < 0 → ¬ (x.tdiv y) * y = x → x / y = x.tdiv y - 1) ∧ ((¬ x < 0 ∨ (x.tdiv y) * y = x) → x / y = x.tdiv y) := by
  have h1 := Int.tmod_add_mul_tdiv x y
  have h2 := Int.emod_add_mul_ediv x y
  have h3 := Int.emod_nonneg x (show y ≠ 0 by omega)
  have h4 := Int.emod_lt_of_pos x hy
  have hb := tmod_bounds (a := x) hy
  refine ⟨fun hx hne => ?_, fun h => ?_⟩
  · have h5 : x.tmod y ≤ 0 := by have := Int.tmod_nonneg (b := y) (show 0 ≤ -x by omega); rw [Int.neg_tmod] at this; omega
    have h6 : x.tmod y ≠ 0 := fun q => hne (by rw [Int.mul_comm]; omega)
    have h7 : y * (x / y) < y * (x.tdiv y) := by omega
    have h8 : y * (x.tdiv y - 2) < y * (x / y) := by rw [Int.mul_sub]; omega
    have := Int.lt_of_mul_lt_mul_left h7 (by omega)
    have := Int.lt_of_mul_lt_mul_left h8 (by omega)
    omega
  · rcases h with h | h
    · exact (Int.tdiv_eq_ediv_of_nonneg (by omega)).symm
    · have h9 : x.tmod y = 0 := by rw [Int.mul_comm] at h; omega
      have h7 : y * (x / y) < y * (x.tdiv y + 1) := by rw [Int.mul_add]; omega
      have h8 : y * (x.tdiv y - 1) < y * (x / y) := by rw [Int.mul_sub]; omega
      have := Int.lt_of_mul_lt_mul_left h7 (by omega)
      have := Int.lt_of_mul_lt_mul_left h8 (by omega)
      omega
theorem fl_mod {x y : Int} (hy : 0 < y) : (x < 0 → ¬ x.tmod y = 0 → x % y = x.tmod y + y) ∧ ((¬ x < 0 ∨ x.tmod y = 0) → x % y = x.tmod y) := by
  have h1 := Int.tmod_add_mul_tdiv x y
  have h2 := Int.emod_add_mul_ediv x y
  obtain ⟨d1, d2⟩ := fl_div (x := x) hy
  refine ⟨fun hx hne => ?_, fun h => ?_⟩
  · have := d1 hx (fun q => hne (by rw [Int.mul_comm] at q; omega))
    rw [this, Int.mul_sub] at h2
    omega
  · have := d2 (h.imp id (fun h => by rw [Int.mul_comm]; omega))
    rw [this] at h2
    omega
theorem z_tdb {x y : Int} (hx : rL x) (hy : 0 < y) : rL (x.tdiv y) ∧ rL (x.tmod y) ∧ rL (x.tdiv y * y) := by
  have h1 := Int.tmod_add_mul_tdiv x y
  have hb := tmod_bounds (a := x) hy
  have a1 : (x.tdiv y).natAbs ≤ x.natAbs := by rw [Int.natAbs_tdiv]; exact Nat.div_le_self _ _
  have hx1 := hx.1
  have hx2 := hx.2
  have hm : (0 ≤ x → 0 ≤ x.tmod y) ∧ (x ≤ 0 → x.tmod y ≤ 0) := ⟨fun h => Int.tmod_nonneg y h, fun h => by have := Int.tmod_nonneg (b := y) (show 0 ≤ -x by omega); rw [Int.neg_tmod] at this; omega⟩
  have hm2 : (x.tmod y).natAbs ≤ x.natAbs := by
    have h5 : (x.tdiv y * y).natAbs + (x.tmod y).natAbs = x.natAbs := by
      have e : x.tdiv y * y = x - x.tmod y := by rw [Int.mul_comm]; omega
      have h6 : (0 ≤ x → 0 ≤ x.tdiv y * y) ∧ (x ≤ 0 → x.tdiv y * y ≤ 0) := ⟨fun h => Int.mul_nonneg (Int.tdiv_nonneg h (by omega)) (by omega), fun h => by
        have := Int.mul_nonneg (Int.tdiv_nonneg (show 0 ≤ -x by omega) (show 0 ≤ y by omega)) (show 0 ≤ y by omega)
        rw [Int.neg_tdiv, Int.neg_mul] at this
        omega⟩
      omega
    omega
  have h7 : x.tdiv y * y = x - x.tmod y := by rw [Int.mul_comm]; omega
  have hs : (x ≤ 0 → x.tdiv y ≤ 0) := fun h => by have := Int.tdiv_nonneg (show 0 ≤ -x by omega) (show 0 ≤ y by omega); rw [Int.neg_tdiv] at this; omega
  refine ⟨⟨by omega, by omega⟩, ⟨by omega, by omega⟩, ⟨by omega, by omega⟩⟩

def rJ9_floorDiv_f86c9 : Room := { frames := 0, cells := 0, slots := 0, locals := 0 }
theorem sw_J9_floorDiv_f86c9 : mm_Sw yJ9_floorDiv_f86c9 cJ9_floorDiv_f86c9 6 (some .long) 2 := ⟨tw_449, tw_11, tw_450, by decide +kernel⟩
set_option maxHeartbeats 4000000 in
set_option maxRecDepth 100000 in
theorem c_J9_floorDiv_f86c9 (l : Launch) (G : mG) (E0 : mE) {x y : Int} (hx : rL x) (hy : 0 < y) (hy2 : rL y) : mm_Cl l yJ9_floorDiv_f86c9 (.code yJ9_floorDiv_f86c9 cJ9_floorDiv_f86c9 6 (some .long) :: wsG) rJ9_floorDiv_f86c9 G [.long (zL (x)), .long (zL (y))] E0 (fun z E => z = x / y ∧ E = E0) := by
  refine mm_of_lF (by decide +kernel) (Nat.le_of_ble_eq_true rfl) ?_
  intro p e s m args below meth c ls C0 hr hlk hM hl hS
  have hl : lv_has ls 6 [(0, .long (zL (x))), (2, .long (zL (y)))] := hl
  have hx1 := hx.1
  have hx2 := hx.2
  have hy1 := hy2.2
  obtain ⟨t1, t2, t3⟩ := z_tdb hx hy
  obtain ⟨d1, d2⟩ := fl_div (x := x) hy
  refine lv_lload_n C0.1 C0.2.1 dJ9_floorDiv_f86c9_0 rfl (lv_at hl 0 rfl) ?_
  refine lv_lload_n C0.1 C0.2.1 dJ9_floorDiv_f86c9_1 rfl (lv_at hl 1 rfl) ?_
  refine z_ldiv C0.1 C0.2.1 dJ9_floorDiv_f86c9_2 ⟨by omega, by omega⟩ ⟨by omega, by omega⟩ (by omega) ?_
  refine lv_lstore (lv' := [(4, .long (zL (((x).tdiv (y))))), (0, .long (zL (x))), (2, .long (zL (y)))]) C0.1 C0.2.1 dJ9_floorDiv_f86c9_3 hl (by decide) rfl (fun ls hl => ?_)
  refine lv_lload_n C0.1 C0.2.1 dJ9_floorDiv_f86c9_5 rfl (lv_at hl 1 rfl) ?_
  refine lv_lload_n C0.1 C0.2.1 dJ9_floorDiv_f86c9_6 rfl (lv_at hl 2 rfl) ?_
  refine z_lxor C0.1 C0.2.1 dJ9_floorDiv_f86c9_7 ⟨by omega, by omega⟩ ⟨by omega, by omega⟩ (by omega) (fun w7 hr7 hs7 => ?_)
  refine lv_lconst (v := zL 0) C0.1 C0.2.1 dJ9_floorDiv_f86c9_8 rfl ?_
  refine z_lcmp_ge (tgt := 27) C0.1 C0.2.1 dJ9_floorDiv_f86c9_9 dJ9_floorDiv_f86c9_10 (by decide) hr7 rL_0 (fun c_9 => ?_) (fun c_9 => ?_)
  · skip
    refine lv_lload C0.1 C0.2.1 dJ9_floorDiv_f86c9_27 (lv_at hl 0 rfl) ?_
    exact mm_lret (z := ((x).tdiv (y))) C0 hr hlk hM hS dJ9_floorDiv_f86c9_29 (⟨(d2 (by omega)).symm, rfl⟩)
  · skip
    refine lv_lload C0.1 C0.2.1 dJ9_floorDiv_f86c9_13 (lv_at hl 0 rfl) ?_
    refine lv_lload_n C0.1 C0.2.1 dJ9_floorDiv_f86c9_15 rfl (lv_at hl 2 rfl) ?_
    refine z_lmul C0.1 C0.2.1 dJ9_floorDiv_f86c9_16 ?_
    refine lv_lload_n C0.1 C0.2.1 dJ9_floorDiv_f86c9_17 rfl (lv_at hl 1 rfl) ?_
    refine z_lcmp_eq (tgt := 27) C0.1 C0.2.1 dJ9_floorDiv_f86c9_18 dJ9_floorDiv_f86c9_19 (by decide) t3 hx (fun c_18 => ?_) (fun c_18 => ?_)
    · skip
      refine lv_lload C0.1 C0.2.1 dJ9_floorDiv_f86c9_27 (lv_at hl 0 rfl) ?_
      exact mm_lret (z := ((x).tdiv (y))) C0 hr hlk hM hS dJ9_floorDiv_f86c9_29 (⟨(d2 (by omega)).symm, rfl⟩)
    · skip
      refine lv_lload C0.1 C0.2.1 dJ9_floorDiv_f86c9_22 (lv_at hl 0 rfl) ?_
      refine lv_lconst (v := zL 1) C0.1 C0.2.1 dJ9_floorDiv_f86c9_24 rfl ?_
      refine z_lsub C0.1 C0.2.1 dJ9_floorDiv_f86c9_25 ?_
      exact mm_lret (z := ((((x).tdiv (y))) - (1))) C0 hr hlk hM hS dJ9_floorDiv_f86c9_26 (⟨(d1 (by omega) (by omega)).symm, rfl⟩)

def rJ9_floorMod_f86c9 : Room := { frames := 0, cells := 0, slots := 0, locals := 0 }
theorem sw_J9_floorMod_f86c9 : mm_Sw yJ9_floorMod_f86c9 cJ9_floorMod_f86c9 6 (some .long) 2 := ⟨tw_452, tw_11, tw_453, by decide +kernel⟩
set_option maxHeartbeats 4000000 in
set_option maxRecDepth 100000 in
theorem c_J9_floorMod_f86c9 (l : Launch) (G : mG) (E0 : mE) {x y : Int} (hx : rL x) (hy : 0 < y) (hy2 : rL y) : mm_Cl l yJ9_floorMod_f86c9 (.code yJ9_floorMod_f86c9 cJ9_floorMod_f86c9 6 (some .long) :: wsG) rJ9_floorMod_f86c9 G [.long (zL (x)), .long (zL (y))] E0 (fun z E => z = x % y ∧ E = E0) := by
  refine mm_of_lF (by decide +kernel) (Nat.le_of_ble_eq_true rfl) ?_
  intro p e s m args below meth c ls C0 hr hlk hM hl hS
  have hl : lv_has ls 6 [(0, .long (zL (x))), (2, .long (zL (y)))] := hl
  have hx1 := hx.1
  have hx2 := hx.2
  have hy1 := hy2.2
  obtain ⟨t1, t2, t3⟩ := z_tdb hx hy
  obtain ⟨d1, d2⟩ := fl_mod (x := x) hy
  refine lv_lload_n C0.1 C0.2.1 dJ9_floorMod_f86c9_0 rfl (lv_at hl 0 rfl) ?_
  refine lv_lload_n C0.1 C0.2.1 dJ9_floorMod_f86c9_1 rfl (lv_at hl 1 rfl) ?_
  refine z_lrem C0.1 C0.2.1 dJ9_floorMod_f86c9_2 ⟨by omega, by omega⟩ ⟨by omega, by omega⟩ (by omega) ?_
  refine lv_lstore (lv' := [(4, .long (zL (((x).tmod (y))))), (0, .long (zL (x))), (2, .long (zL (y)))]) C0.1 C0.2.1 dJ9_floorMod_f86c9_3 hl (by decide) rfl (fun ls hl => ?_)
  refine lv_lload_n C0.1 C0.2.1 dJ9_floorMod_f86c9_5 rfl (lv_at hl 1 rfl) ?_
  refine lv_lload_n C0.1 C0.2.1 dJ9_floorMod_f86c9_6 rfl (lv_at hl 2 rfl) ?_
  refine z_lxor C0.1 C0.2.1 dJ9_floorMod_f86c9_7 ⟨by omega, by omega⟩ ⟨by omega, by omega⟩ (by omega) (fun w7 hr7 hs7 => ?_)
  refine lv_lconst (v := zL 0) C0.1 C0.2.1 dJ9_floorMod_f86c9_8 rfl ?_
  refine z_lcmp_ge (tgt := 25) C0.1 C0.2.1 dJ9_floorMod_f86c9_9 dJ9_floorMod_f86c9_10 (by decide) hr7 rL_0 (fun c_9 => ?_) (fun c_9 => ?_)
  · skip
    refine lv_lload C0.1 C0.2.1 dJ9_floorMod_f86c9_25 (lv_at hl 0 rfl) ?_
    exact mm_lret (z := ((x).tmod (y))) C0 hr hlk hM hS dJ9_floorMod_f86c9_27 (⟨(d2 (by omega)).symm, rfl⟩)
  · skip
    refine lv_lload C0.1 C0.2.1 dJ9_floorMod_f86c9_13 (lv_at hl 0 rfl) ?_
    refine lv_lconst (v := zL 0) C0.1 C0.2.1 dJ9_floorMod_f86c9_15 rfl ?_
    refine z_lcmp_eq (tgt := 25) C0.1 C0.2.1 dJ9_floorMod_f86c9_16 dJ9_floorMod_f86c9_17 (by decide) t2 rL_0 (fun c_16 => ?_) (fun c_16 => ?_)
    · skip
      refine lv_lload C0.1 C0.2.1 dJ9_floorMod_f86c9_25 (lv_at hl 0 rfl) ?_
      exact mm_lret (z := ((x).tmod (y))) C0 hr hlk hM hS dJ9_floorMod_f86c9_27 (⟨(d2 (by omega)).symm, rfl⟩)
    · skip
      refine lv_lload C0.1 C0.2.1 dJ9_floorMod_f86c9_20 (lv_at hl 0 rfl) ?_
      refine lv_lload_n C0.1 C0.2.1 dJ9_floorMod_f86c9_22 rfl (lv_at hl 2 rfl) ?_
      refine z_ladd C0.1 C0.2.1 dJ9_floorMod_f86c9_23 ?_
      exact mm_lret (z := ((((x).tmod (y))) + (y))) C0 hr hlk hM hS dJ9_floorMod_f86c9_24 (⟨(d1 (by omega) (by omega)).symm, rfl⟩)
