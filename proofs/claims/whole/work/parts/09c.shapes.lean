section ZAB
variable {p : Program} {l : Launch} {e : Env} {R : Room} {s : State} {m : MethodId} {args : Array Value} {below : List Frame} {meth : Method} {c : Code} {H : Heap} {locs : List Loc} {cells slots : Nat} {Q : State → Prop} {cc : ByteArray} {pc : Nat} {ls : Array Slot} {rest : List Value}
theorem z_iabs (hx : p.tables.exec = Jvm.exec) (hb : c.code = cc) (hml : c.maxLocals = ls.size) {own : String} {index : Nat} (hown : s.vm.findClass own = some m.cls) (hlink : (Cond.methodLink own index Lib.Math.abs.name).before args s = true) (hstat : (Cond.static Lib.Math.abs.name).before args s = true) (hini : (Cond.initialized "java/lang/Math").before args s = true) (hcode : (Cond.code Lib.Math.abs.name Lib.Math.abs.code 1 (some .int)).before args s = true) (hframes : 1 ≤ R.frames) (hlocals : (rest.map fun v => v.category).sum + 13 ≤ R.locals) (hc : cells ≤ R.cells) (hs : slots ≤ R.slots) {a : Int} (ha : rI a) (hdg : decode cc pc = .ok (.invokestatic index, 3)) (kk : W p l e R s m args below meth c H locs cells slots Q (F0 m (pc + 3) ls (.int (zI ((a.natAbs : Nat) : Int)) :: rest))) : W p l e R s m args below meth c H locs cells slots Q (F0 m pc ls (.int (zI a) :: rest)) := va_mabs hx hb hml hown hlink hstat hini hcode hframes hlocals hc hs hdg (by
  rw [show (if 0 ≤ zI a then zI a else 0 - zI a) = zI ((a.natAbs : Nat) : Int) by
    split <;> rename_i h <;> rw [← zI_0, zI_le rI_0 ha] at h
    · congr 1; omega
    · rw [← zI_0, ← zI_sub]; congr 1; omega]
  exact kk)
theorem z_labs (hx : p.tables.exec = Jvm.exec) (hb : c.code = cc) (hml : c.maxLocals = ls.size) {own : String} {index : Nat} (hown : s.vm.findClass own = some m.cls) (hlink : (Cond.methodLink own index Lib.MathLoose.abs_long.x).before args s = true) (hstat : (Cond.static Lib.MathLoose.abs_long.x).before args s = true) (hini : (Cond.initialized "java/lang/Math").before args s = true) (hcode : (Cond.code Lib.MathLoose.abs_long.x Lib.MathLoose.abs_long.code 2 (some .long)).before args s = true) (hframes : 1 ≤ R.frames) (hlocals : (rest.map fun v => v.category).sum + 13 ≤ R.locals) (hc : cells ≤ R.cells) (hs : slots ≤ R.slots) {a : Int} (ha : rL a) (hdg : decode cc pc = .ok (.invokestatic index, 3)) (kk : W p l e R s m args below meth c H locs cells slots Q (F0 m (pc + 3) ls (.long (zL ((a.natAbs : Nat) : Int)) :: rest))) : W p l e R s m args below meth c H locs cells slots Q (F0 m pc ls (.long (zL a) :: rest)) := va_mabs_long hx hb hml hown hlink hstat hini hcode hframes hlocals hc hs hdg (by
  rw [show (if 0 < zL a then zL a else -zL a) = zL ((a.natAbs : Nat) : Int) by
    split <;> rename_i h <;> rw [← zL_0, zL_lt rL_0 ha] at h
    · congr 1; omega
    · rw [← zL_neg]; congr 1; omega]
  exact kk)
end ZAB
def sk (G : mG) (E : mE) (s r : Nat) : Prop := E s = some (.inr (4, [.ref r, .ref (s + 1), .ref (s + 3), .ref (s + 5), .ref (s + 7), .ref (s + 9), .ref (s + 11)]))
theorem sk.kept {G : mG} {E E1 : mE} {s r : Nat} (h : sk G E s r) (h1 : E1 s = E s) : sk G E1 s r := h1.trans h

def rX5_setFactor : Room := { frames := 3, cells := 0, slots := 0, locals := 75 }
theorem vw_X5_setFactor : mm_Vw RX5 yX5_setFactor cX5_setFactor 4 none 3 := ⟨tw_511, tp_10, tw_5, tw_512, by decide +kernel⟩
set_option maxHeartbeats 4000000 in
set_option maxRecDepth 100000 in
theorem c_X5_setFactor (l : Launch) (G : mG) (E0 : mE) {o r a N : Nat} (tm : Nat) {lz : Int} (hs : sk G E0 o r) (h1 : isV G E0 (o + 1)) (h3 : isV G E0 (o + 3)) (hA : isW G E0 a N) (ha : a + 2 ≤ o + 1 ∨ o + 5 ≤ a) (htm : tm < 1000) (hl1 : -10 ≤ lz) (hl2 : lz ≤ 100) (hN : nl N ≤ 50) (hge : lz ≤ (N : Int) * (tm : Int)) : mm_Cv l yX5_setFactor (.code yX5_setFactor cX5_setFactor 4 none :: wsG) rX5_setFactor G [.ref (o), .ref (a), .int (zI ((tm : Int))), .int (zI (lz))] E0 (fun E => isW G E (o + 1) (facN N tm lz) ∧ isV G E (o + 3) ∧ ∀ q : Nat, (q < o + 1 ∨ o + 5 ≤ q) → E q = E0 q) := by
  refine mm_of_v (by decide +kernel) (Nat.le_of_ble_eq_true rfl) ?_
  intro p e s m args below meth c ls C0 hr hlk hM hl hS
  have hl : lv_has ls 4 [(0, .ref (o)), (1, .ref (a)), (2, .int (zI ((tm : Int)))), (3, .int (zI (lz)))] := hl
  have hfr : ∀ q : Nat, (q < o + 1 ∨ o + 5 ≤ q) → E0 q = E0 q := fun _ _ => rfl
  have e2 : ((N * tm : Nat) : Int) = (N : Int) * (tm : Int) := Int.natCast_mul _ _
  have hm := nl_mul1 (N := N) (a := tm) (by omega)
  have hnl : ∀ x : Nat, x < 1000000000 → nl x ≤ 1 := fun x hx => (nl_le 1 x).mpr hx
  refine lv_aload_n C0.1 C0.2.1 dX5_setFactor_0 rfl (lv_at hl 0 rfl) ?_
  refine mm_get (fs := [.ref (r), .ref (o + 1), .ref (o + 3), .ref (o + 5), .ref (o + 7), .ref (o + 9), .ref (o + 11)]) C0 (C := RX5) (T := TX5) (N := 7) iG_X5 hM (hs) rfl 1 (by decide) tw_119 rfl rfl dX5_setFactor_1 ?_
  refine lv_aload_n C0.1 C0.2.1 dX5_setFactor_4 rfl (lv_at hl 1 rfl) ?_
  refine mm_callVv (As := [.ref (a)]) C0 vw_X8_copy tw_513 (c_X8_copy l G _ h1 hA (by omega)) hM ((h1.obj).choose_spec) rfl rfl hl.1 rfl (Nat.le_of_ble_eq_true rfl) ⟨rfl, rfl, Nat.le_of_ble_eq_true rfl, Nat.le_of_ble_eq_true rfl, Nat.zero_le _, Nat.zero_le _⟩ dX5_setFactor_5 hS (fun E1 H locs hp hM hS => ?_)
  obtain ⟨hF, fr⟩ := hp
  have hs := sk.kept hs (fr _ (by omega))
  have h3 := isV.kept h3 (fr _ (by omega)) (fr _ (by omega))
  have hA := isW.kept hA (fr _ (by omega)) (fr _ (by omega))
  have hfr := (fun q h => (fr q (by omega)).trans (hfr q h) : ∀ q : Nat, (q < o + 1 ∨ o + 5 ≤ q) → E1 q = E0 q)
  refine lv_aload_n C0.1 C0.2.1 dX5_setFactor_8 rfl (lv_at hl 0 rfl) ?_
  refine mm_get (fs := [.ref (r), .ref (o + 1), .ref (o + 3), .ref (o + 5), .ref (o + 7), .ref (o + 9), .ref (o + 11)]) C0 (C := RX5) (T := TX5) (N := 7) iG_X5 hM (hs) rfl 1 (by decide) tw_119 rfl rfl dX5_setFactor_9 ?_
  refine lv_iload_n C0.1 C0.2.1 dX5_setFactor_12 rfl (lv_at hl 2 rfl) ?_
  refine z_i2l C0.1 C0.2.1 dX5_setFactor_13 ⟨by omega, by omega⟩ ?_
  refine lv_lconst (v := zL 0) C0.1 C0.2.1 dX5_setFactor_14 rfl ?_
  refine mm_callVv (As := [.long (zL ((tm : Int))), .long (zL (0))]) C0 vw_X8_scale tw_514 (c_X8_scale l G _ tm 0 rfl rfl hF (by omega) (by omega) (by omega)) hM (hF.obj) rfl rfl hl.1 rfl (Nat.le_of_ble_eq_true rfl) ⟨rfl, rfl, Nat.le_of_ble_eq_true rfl, Nat.le_of_ble_eq_true rfl, Nat.zero_le _, Nat.zero_le _⟩ dX5_setFactor_15 hS (fun E2 H locs hp hM hS => ?_)
  obtain ⟨hF, fr⟩ := hp
  have hs := sk.kept hs (fr _ (by omega))
  have h3 := isV.kept h3 (fr _ (by omega)) (fr _ (by omega))
  have hA := isW.kept hA (fr _ (by omega)) (fr _ (by omega))
  have hfr := (fun q h => (fr q (by omega)).trans (hfr q h) : ∀ q : Nat, (q < o + 1 ∨ o + 5 ≤ q) → E2 q = E0 q)
  rw [Nat.add_zero (N * tm)] at hF
  refine lv_aload_n C0.1 C0.2.1 dX5_setFactor_18 rfl (lv_at hl 0 rfl) ?_
  refine mm_get (fs := [.ref (r), .ref (o + 1), .ref (o + 3), .ref (o + 5), .ref (o + 7), .ref (o + 9), .ref (o + 11)]) C0 (C := RX5) (T := TX5) (N := 7) iG_X5 hM (hs) rfl 2 (by decide) tw_120 rfl rfl dX5_setFactor_19 ?_
  refine lv_iload_n C0.1 C0.2.1 dX5_setFactor_22 rfl (lv_at hl 3 rfl) ?_
  refine z_iabs C0.1 C0.2.1 (C0.2.2.1.trans hl.1.symm) C0.2.2.2.1 (C0.2.2.2.2.1 _ tml_tw_515) (C0.2.2.2.2.1 _ tms_abs) (C0.2.2.2.2.1 _ tmi) (C0.2.2.2.2.1 _ tmc_abs) (Nat.le_of_ble_eq_true rfl) (Nat.le_of_ble_eq_true rfl) (Nat.zero_le _) (Nat.zero_le _) ⟨by omega, by omega⟩ dX5_setFactor_23 ?_
  refine z_i2l C0.1 C0.2.1 dX5_setFactor_26 ⟨by omega, by omega⟩ ?_
  refine mm_callVv (As := [.long (zL (((lz).natAbs : Int)))]) C0 vw_X8_setLong tw_507 (c_X8_setLongV l G _ (N := lz.natAbs) h3 rfl (by omega)) hM ((h3.obj).choose_spec) rfl rfl hl.1 rfl (Nat.le_of_ble_eq_true rfl) ⟨rfl, rfl, Nat.le_of_ble_eq_true rfl, Nat.le_of_ble_eq_true rfl, Nat.zero_le _, Nat.zero_le _⟩ dX5_setFactor_27 hS (fun E3 H locs hp hM hS => ?_)
  obtain ⟨hAm, fr⟩ := hp
  have hs := sk.kept hs (fr _ (by omega))
  have hA := isW.kept hA (fr _ (by omega)) (fr _ (by omega))
  have hfr := (fun q h => (fr q (by omega)).trans (hfr q h) : ∀ q : Nat, (q < o + 1 ∨ o + 5 ≤ q) → E3 q = E0 q)
  have hF := isW.kept hF (fr _ (by omega)) (fr _ (by omega))
  have hla := hnl lz.natAbs (by omega)
  refine lv_iload_n C0.1 C0.2.1 dX5_setFactor_30 rfl (lv_at hl 3 rfl) ?_
  refine z_if_ge (tgt := 48) C0.1 C0.2.1 dX5_setFactor_31 (by decide) ⟨by omega, by omega⟩ (fun c_31 => ?_) (fun c_31 => ?_)
  · skip
    refine lv_aload_n C0.1 C0.2.1 dX5_setFactor_48 rfl (lv_at hl 0 rfl) ?_
    refine mm_get (fs := [.ref (r), .ref (o + 1), .ref (o + 3), .ref (o + 5), .ref (o + 7), .ref (o + 9), .ref (o + 11)]) C0 (C := RX5) (T := TX5) (N := 7) iG_X5 hM (hs) rfl 1 (by decide) tw_119 rfl rfl dX5_setFactor_49 ?_
    refine lv_aload_n C0.1 C0.2.1 dX5_setFactor_52 rfl (lv_at hl 0 rfl) ?_
    refine mm_get (fs := [.ref (r), .ref (o + 1), .ref (o + 3), .ref (o + 5), .ref (o + 7), .ref (o + 9), .ref (o + 11)]) C0 (C := RX5) (T := TX5) (N := 7) iG_X5 hM (hs) rfl 2 (by decide) tw_120 rfl rfl dX5_setFactor_53 ?_
    refine mm_callVv (As := [.ref (o + 3)]) C0 vw_X8_subtract tw_519 (c_X8_subtract l G _ hF hAm (by omega) (by omega)) hM (hF.obj) rfl rfl hl.1 rfl (Nat.le_of_ble_eq_true rfl) ⟨rfl, rfl, Nat.le_of_ble_eq_true rfl, Nat.le_of_ble_eq_true rfl, Nat.zero_le _, Nat.zero_le _⟩ dX5_setFactor_56 hS (fun E4 H locs hp hM hS => ?_)
    obtain ⟨hF, fr⟩ := hp
    have hs := sk.kept hs (fr _ (by omega))
    have hA := isW.kept hA (fr _ (by omega)) (fr _ (by omega))
    have hfr := (fun q h => (fr q (by omega)).trans (hfr q h) : ∀ q : Nat, (q < o + 1 ∨ o + 5 ≤ q) → E4 q = E0 q)
    have hAm := isW.kept hAm (fr _ (by omega)) (fr _ (by omega))
    rw [show N * tm - lz.natAbs = facN N tm lz by unfold facN; omega] at hF
    exact mm_vret C0 hr hlk hM hS dX5_setFactor_59 (⟨hF, hAm.v, hfr⟩)
  · skip
    refine lv_aload_n C0.1 C0.2.1 dX5_setFactor_34 rfl (lv_at hl 0 rfl) ?_
    refine mm_get (fs := [.ref (r), .ref (o + 1), .ref (o + 3), .ref (o + 5), .ref (o + 7), .ref (o + 9), .ref (o + 11)]) C0 (C := RX5) (T := TX5) (N := 7) iG_X5 hM (hs) rfl 1 (by decide) tw_119 rfl rfl dX5_setFactor_35 ?_
    refine lv_aload_n C0.1 C0.2.1 dX5_setFactor_38 rfl (lv_at hl 0 rfl) ?_
    refine mm_get (fs := [.ref (r), .ref (o + 1), .ref (o + 3), .ref (o + 5), .ref (o + 7), .ref (o + 9), .ref (o + 11)]) C0 (C := RX5) (T := TX5) (N := 7) iG_X5 hM (hs) rfl 2 (by decide) tw_120 rfl rfl dX5_setFactor_39 ?_
    refine mm_callVv (As := [.ref (o + 3)]) C0 vw_X8_add tw_518 (c_X8_add l G _ hF hAm (by omega) (by omega) (by omega)) hM (hF.obj) rfl rfl hl.1 rfl (Nat.le_of_ble_eq_true rfl) ⟨rfl, rfl, Nat.le_of_ble_eq_true rfl, Nat.le_of_ble_eq_true rfl, Nat.zero_le _, Nat.zero_le _⟩ dX5_setFactor_42 hS (fun E5 H locs hp hM hS => ?_)
    obtain ⟨hF, fr⟩ := hp
    have hs := sk.kept hs (fr _ (by omega))
    have hA := isW.kept hA (fr _ (by omega)) (fr _ (by omega))
    have hfr := (fun q h => (fr q (by omega)).trans (hfr q h) : ∀ q : Nat, (q < o + 1 ∨ o + 5 ≤ q) → E5 q = E0 q)
    have hAm := isW.kept hAm (fr _ (by omega)) (fr _ (by omega))
    rw [show N * tm + lz.natAbs = facN N tm lz by unfold facN; omega] at hF
    refine lv_goto (tgt := 59) C0.1 C0.2.1 dX5_setFactor_45 (by decide) ?_
    exact mm_vret C0 hr hlk hM hS dX5_setFactor_59 (⟨hF, hAm.v, hfr⟩)

def rX5_term : Room := { frames := 4, cells := 0, slots := 0, locals := 98 }
theorem vw_X5_term : mm_Vw RX5 yX5_term cX5_term 5 (some .boolean) 4 := ⟨tw_504, tw_505, tw_5, tw_506, by decide +kernel⟩
set_option maxHeartbeats 4000000 in
set_option maxRecDepth 100000 in
theorem c_X5_term (l : Launch) (G : mG) (E0 : mE) {o r a b N : Nat} (kd k : Nat) (hkd : kd ≤ 4) (hk3 : 3 ≤ kd → 3 ≤ k) (hk9 : k ≤ 99) (hs : sk G E0 o r) (h1 : isV G E0 (o + 1)) (h3 : isV G E0 (o + 3)) (h5 : isV G E0 (o + 5)) (hA : isW G E0 a N) (hB : isV G E0 b) (ha : a + 2 ≤ o + 1 ∨ o + 7 ≤ a) (hb : b + 2 ≤ o ∨ o + 7 ≤ b) (hab : a + 2 ≤ b ∨ b + 2 ≤ a) : mm_Ci l yX5_term (.code yX5_term cX5_term 5 (some .boolean) :: wsG) rX5_term G [.ref (o), .int (zI ((kd : Int))), .int (zI ((k : Int))), .ref (a), .ref (b)] E0 (fun z E => ((z = 1 ∧ isW G E b (shp kd k N) ∧ nl (shp kd k N) ≤ 24) ∨ (z = 0 ∧ isV G E b ∧ 24 < nl (shp kd k N))) ∧ isV G E (o + 1) ∧ isV G E (o + 3) ∧ isV G E (o + 5) ∧ ∀ q : Nat, ((q < o + 1 ∨ o + 7 ≤ q) ∧ (q < b ∨ b + 2 ≤ q)) → E q = E0 q) := by
  refine mm_of_i (by decide +kernel) (Nat.le_of_ble_eq_true rfl) ?_
  intro p e s m args below meth c ls C0 hr hlk hM hl hS
  have hl : lv_has ls 5 [(0, .ref (o)), (1, .int (zI ((kd : Int)))), (2, .int (zI ((k : Int)))), (3, .ref (a)), (4, .ref (b))] := hl
  have hfr : ∀ q : Nat, ((q < o + 1 ∨ o + 7 ≤ q) ∧ (q < b ∨ b + 2 ≤ q)) → E0 q = E0 q := fun _ _ => rfl
  have hA56 := hA.le
  refine lv_aload_n C0.1 C0.2.1 dX5_term_0 rfl (lv_at hl 3 rfl) ?_
  refine mm_get (fs := [.ref (a + 1), .int (zI (((nl (N) : Nat) : Int)))]) C0 (C := RX8) (T := TX8) (N := 2) iG_X8 hM (hA.obj) rfl 1 (by decide) tw_81 rfl rfl dX5_term_1 ?_
  refine lv_bipush (v := zI 13) C0.1 C0.2.1 dX5_term_4 rfl ?_
  refine z_icmp_le (tgt := 11) C0.1 C0.2.1 dX5_term_6 (by decide) ⟨by omega, by omega⟩ ⟨by omega, by omega⟩ (fun c_6 => ?_) (fun c_6 => ?_)
  · skip
    refine lv_aload_n C0.1 C0.2.1 dX5_term_11 rfl (lv_at hl 3 rfl) ?_
    refine mm_get (fs := [.ref (a + 1), .int (zI (((nl (N) : Nat) : Int)))]) C0 (C := RX8) (T := TX8) (N := 2) iG_X8 hM (hA.obj) rfl 1 (by decide) tw_81 rfl rfl dX5_term_12 ?_
    refine z_if_ne (tgt := 26) C0.1 C0.2.1 dX5_term_15 (by decide) ⟨by omega, by omega⟩ (fun c_15 => ?_) (fun c_15 => ?_)
    · skip
      have hN0 : N ≠ 0 := fun q => c_15 (by rw [q, nl_0]; rfl)
      have hNp : 0 < N := Nat.pos_of_ne_zero hN0
      refine lv_iload_n C0.1 C0.2.1 dX5_term_26 rfl (lv_at hl 1 rfl) ?_
      refine z_if_ne (tgt := 40) C0.1 C0.2.1 dX5_term_27 (by decide) ⟨by omega, by omega⟩ (fun c_27 => ?_) (fun c_27 => ?_)
      · skip
        refine lv_iload_n C0.1 C0.2.1 dX5_term_40 rfl (lv_at hl 1 rfl) ?_
        refine lv_iconst (v := zI 3) C0.1 C0.2.1 dX5_term_41 rfl ?_
        refine z_icmp_ne (tgt := 78) C0.1 C0.2.1 dX5_term_42 (by decide) ⟨by omega, by omega⟩ ⟨by omega, by omega⟩ (fun c_42 => ?_) (fun c_42 => ?_)
        · skip
          have hk4a : kd = 1 ∨ kd = 2 ∨ kd = 4 := by omega
          refine lv_aload_n C0.1 C0.2.1 dX5_term_78 rfl (lv_at hl 0 rfl) ?_
          refine lv_aload_n C0.1 C0.2.1 dX5_term_79 rfl (lv_at hl 3 rfl) ?_
          refine lv_iconst (v := zI 1) C0.1 C0.2.1 dX5_term_80 rfl ?_
          refine z_asI (a := 1) (b := ((1 : Nat) : Int)) (rfl) ?_
          refine lv_iconst (v := zI (-1)) C0.1 C0.2.1 dX5_term_81 rfl ?_
          refine mm_callVv (As := [.ref (a), .int (zI (((1 : Nat) : Int))), .int (zI ((-1)))]) C0 vw_X5_setFactor tw_509 (c_X5_setFactor l G _ 1 hs h1 h3 hA (by omega) (by omega) (by omega) (by omega) (by omega) (by omega)) hM (hs) rfl rfl hl.1 rfl (Nat.le_of_ble_eq_true rfl) ⟨rfl, rfl, Nat.le_of_ble_eq_true rfl, Nat.le_of_ble_eq_true rfl, Nat.zero_le _, Nat.zero_le _⟩ dX5_term_82 hS (fun E1 H locs hp hM hS => ?_)
          obtain ⟨hF, h3, fr⟩ := hp
          have hs := sk.kept hs (fr _ (by omega))
          have h5 := isV.kept h5 (fr _ (by omega)) (fr _ (by omega))
          have hA := isW.kept hA (fr _ (by omega)) (fr _ (by omega))
          have hB := isV.kept hB (fr _ (by omega)) (fr _ (by omega))
          have hfr := (fun q h => (fr q (by omega)).trans (hfr q h) : ∀ q : Nat, ((q < o + 1 ∨ o + 7 ≤ q) ∧ (q < b ∨ b + 2 ≤ q)) → E1 q = E0 q)
          have h1 := hF.v
          have hFN : facN N 1 (-1) = N + 1 := by unfold facN; omega
          have hFn := nl_fac (n := N) (tm := 1) (ls := -1) (by omega) (by omega) (by omega) (by omega)
          rw [hFN] at hFn
          refine lv_aload C0.1 C0.2.1 dX5_term_85 (lv_at hl 4 rfl) ?_
          refine lv_aload_n C0.1 C0.2.1 dX5_term_87 rfl (lv_at hl 3 rfl) ?_
          refine lv_aload_n C0.1 C0.2.1 dX5_term_88 rfl (lv_at hl 0 rfl) ?_
          refine mm_get (fs := [.ref (r), .ref (o + 1), .ref (o + 3), .ref (o + 5), .ref (o + 7), .ref (o + 9), .ref (o + 11)]) C0 (C := RX5) (T := TX5) (N := 7) iG_X5 hM (hs) rfl 1 (by decide) tw_119 rfl rfl dX5_term_89 ?_
          refine mm_callVv (As := [.ref (a), .ref (o + 1)]) C0 vw_X8_setProduct tw_508 (c_X8_setProduct l G _ hB hA hF (by omega) (by omega) (by rw [hFN]; omega)) hM ((hB.obj).choose_spec) rfl rfl hl.1 rfl (Nat.le_of_ble_eq_true rfl) ⟨rfl, rfl, Nat.le_of_ble_eq_true rfl, Nat.le_of_ble_eq_true rfl, Nat.zero_le _, Nat.zero_le _⟩ dX5_term_92 hS (fun E2 H locs hp hM hS => ?_)
          obtain ⟨hB, fr⟩ := hp
          have hs := sk.kept hs (fr _ (by omega))
          have h1 := isV.kept h1 (fr _ (by omega)) (fr _ (by omega))
          have h3 := isV.kept h3 (fr _ (by omega)) (fr _ (by omega))
          have h5 := isV.kept h5 (fr _ (by omega)) (fr _ (by omega))
          have hA := isW.kept hA (fr _ (by omega)) (fr _ (by omega))
          have hfr := (fun q h => (fr q (by omega)).trans (hfr q h) : ∀ q : Nat, ((q < o + 1 ∨ o + 7 ≤ q) ∧ (q < b ∨ b + 2 ≤ q)) → E2 q = E0 q)
          have hF := isW.kept hF (fr _ (by omega)) (fr _ (by omega))
          rw [hFN] at hB
          have hbn := nl_prod (show nl N ≤ 13 by omega) (Nat.le_trans hFn (show nl N + 2 ≤ 15 by omega))
          refine lv_iload_n C0.1 C0.2.1 dX5_term_95 rfl (lv_at hl 1 rfl) ?_
          refine lv_iconst (v := zI 1) C0.1 C0.2.1 dX5_term_96 rfl ?_
          refine z_icmp_ne (tgt := 109) C0.1 C0.2.1 dX5_term_97 (by decide) ⟨by omega, by omega⟩ ⟨by omega, by omega⟩ (fun c_97 => ?_) (fun c_97 => ?_)
          · skip
            refine lv_iload_n C0.1 C0.2.1 dX5_term_109 rfl (lv_at hl 1 rfl) ?_
            refine lv_iconst (v := zI 4) C0.1 C0.2.1 dX5_term_110 rfl ?_
            refine z_icmp_ne (tgt := 156) C0.1 C0.2.1 dX5_term_111 (by decide) ⟨by omega, by omega⟩ ⟨by omega, by omega⟩ (fun c_111 => ?_) (fun c_111 => ?_)
            · skip
              have hBe : N * (N + 1) = shp kd k N := by rw [show kd = 2 by omega, shp_k2]
              rw [hBe] at hB
              refine lv_aload C0.1 C0.2.1 dX5_term_156 (lv_at hl 4 rfl) ?_
              refine mm_get (fs := [.ref (b + 1), .int (zI (((nl (shp kd k N) : Nat) : Int)))]) C0 (C := RX8) (T := TX8) (N := 2) iG_X8 hM (hB.obj) rfl 1 (by decide) tw_81 rfl rfl dX5_term_158 ?_
              have hb56 := hB.le
              refine lv_bipush (v := zI 24) C0.1 C0.2.1 dX5_term_161 rfl ?_
              refine z_icmp_gt (tgt := 170) C0.1 C0.2.1 dX5_term_163 (by decide) ⟨by omega, by omega⟩ ⟨by omega, by omega⟩ (fun c_163 => ?_) (fun c_163 => ?_)
              · skip
                refine lv_iconst (v := zI 0) C0.1 C0.2.1 dX5_term_170 rfl ?_
                exact mm_zret (z := 0) C0 hr hlk hM hS (by omega) dX5_term_171 (⟨Or.inr ⟨rfl, hB.v, by omega⟩, h1, h3, h5, hfr⟩)
              · skip
                refine lv_iconst (v := zI 1) C0.1 C0.2.1 dX5_term_166 rfl ?_
                refine lv_goto (tgt := 171) C0.1 C0.2.1 dX5_term_167 (by decide) ?_
                exact mm_zret (z := 1) C0 hr hlk hM hS (by omega) dX5_term_171 (⟨Or.inl ⟨rfl, hB, by omega⟩, h1, h3, h5, hfr⟩)
            · skip
              have hk4 : kd = 4 := by omega
              have hg := facN_ge (c := (k : Int) - 5) (hk3 (by omega)) hNp (by omega)
              have hk33 := hk3 (by omega)
              refine lv_aload_n C0.1 C0.2.1 dX5_term_114 rfl (lv_at hl 0 rfl) ?_
              refine mm_get (fs := [.ref (r), .ref (o + 1), .ref (o + 3), .ref (o + 5), .ref (o + 7), .ref (o + 9), .ref (o + 11)]) C0 (C := RX5) (T := TX5) (N := 7) iG_X5 hM (hs) rfl 3 (by decide) tw_121 rfl rfl dX5_term_115 ?_
              refine lv_aload C0.1 C0.2.1 dX5_term_118 (lv_at hl 4 rfl) ?_
              refine mm_callVv (As := [.ref (b)]) C0 vw_X8_copy tw_513 (c_X8_copy l G _ h5 hB (by omega)) hM ((h5.obj).choose_spec) rfl rfl hl.1 rfl (Nat.le_of_ble_eq_true rfl) ⟨rfl, rfl, Nat.le_of_ble_eq_true rfl, Nat.le_of_ble_eq_true rfl, Nat.zero_le _, Nat.zero_le _⟩ dX5_term_120 hS (fun E3 H locs hp hM hS => ?_)
              obtain ⟨hO, fr⟩ := hp
              have hs := sk.kept hs (fr _ (by omega))
              have h1 := isV.kept h1 (fr _ (by omega)) (fr _ (by omega))
              have h3 := isV.kept h3 (fr _ (by omega)) (fr _ (by omega))
              have hA := isW.kept hA (fr _ (by omega)) (fr _ (by omega))
              have hB := isW.kept hB (fr _ (by omega)) (fr _ (by omega))
              have hfr := (fun q h => (fr q (by omega)).trans (hfr q h) : ∀ q : Nat, ((q < o + 1 ∨ o + 7 ≤ q) ∧ (q < b ∨ b + 2 ≤ q)) → E3 q = E0 q)
              have hF := isW.kept hF (fr _ (by omega)) (fr _ (by omega))
              have h5 := hO.v
              refine lv_aload_n C0.1 C0.2.1 dX5_term_123 rfl (lv_at hl 0 rfl) ?_
              refine lv_aload_n C0.1 C0.2.1 dX5_term_124 rfl (lv_at hl 3 rfl) ?_
              refine lv_iload_n C0.1 C0.2.1 dX5_term_125 rfl (lv_at hl 2 rfl) ?_
              refine lv_iconst (v := zI 2) C0.1 C0.2.1 dX5_term_126 rfl ?_
              refine z_isub C0.1 C0.2.1 dX5_term_127 ?_
              refine z_asI (a := (((k : Int)) - (2))) (b := ((k - 2 : Nat) : Int)) (by omega) ?_
              refine lv_iload_n C0.1 C0.2.1 dX5_term_128 rfl (lv_at hl 2 rfl) ?_
              refine lv_iconst (v := zI 5) C0.1 C0.2.1 dX5_term_129 rfl ?_
              refine z_isub C0.1 C0.2.1 dX5_term_130 ?_
              refine mm_callVv (As := [.ref (a), .int (zI (((k - 2 : Nat) : Int))), .int (zI ((((k : Int)) - (5))))]) C0 vw_X5_setFactor tw_509 (c_X5_setFactor l G _ (k - 2) hs h1 h3 hA (by omega) (by omega) (by omega) (by omega) (by omega) hg.1) hM (hs) rfl rfl hl.1 rfl (Nat.le_of_ble_eq_true rfl) ⟨rfl, rfl, Nat.le_of_ble_eq_true rfl, Nat.le_of_ble_eq_true rfl, Nat.zero_le _, Nat.zero_le _⟩ dX5_term_131 hS (fun E4 H locs hp hM hS => ?_)
              obtain ⟨hF, h3, fr⟩ := hp
              have hs := sk.kept hs (fr _ (by omega))
              have h5 := isV.kept h5 (fr _ (by omega)) (fr _ (by omega))
              have hA := isW.kept hA (fr _ (by omega)) (fr _ (by omega))
              have hB := isW.kept hB (fr _ (by omega)) (fr _ (by omega))
              have hfr := (fun q h => (fr q (by omega)).trans (hfr q h) : ∀ q : Nat, ((q < o + 1 ∨ o + 7 ≤ q) ∧ (q < b ∨ b + 2 ≤ q)) → E4 q = E0 q)
              have hO := isW.kept hO (fr _ (by omega)) (fr _ (by omega))
              have h1 := hF.v
              have hFn5 := nl_fac (n := N) (tm := k - 2) (ls := (k : Int) - 5) (by omega) (by omega) (by omega) (by omega)
              refine lv_aload C0.1 C0.2.1 dX5_term_134 (lv_at hl 4 rfl) ?_
              refine lv_aload_n C0.1 C0.2.1 dX5_term_136 rfl (lv_at hl 0 rfl) ?_
              refine mm_get (fs := [.ref (r), .ref (o + 1), .ref (o + 3), .ref (o + 5), .ref (o + 7), .ref (o + 9), .ref (o + 11)]) C0 (C := RX5) (T := TX5) (N := 7) iG_X5 hM (hs) rfl 3 (by decide) tw_121 rfl rfl dX5_term_137 ?_
              refine lv_aload_n C0.1 C0.2.1 dX5_term_140 rfl (lv_at hl 0 rfl) ?_
              refine mm_get (fs := [.ref (r), .ref (o + 1), .ref (o + 3), .ref (o + 5), .ref (o + 7), .ref (o + 9), .ref (o + 11)]) C0 (C := RX5) (T := TX5) (N := 7) iG_X5 hM (hs) rfl 1 (by decide) tw_119 rfl rfl dX5_term_141 ?_
              refine mm_callVv (As := [.ref (o + 5), .ref (o + 1)]) C0 vw_X8_setProduct tw_508 (c_X8_setProduct l G _ hB.v hO hF (by omega) (by omega) (by omega)) hM (hB.obj) rfl rfl hl.1 rfl (Nat.le_of_ble_eq_true rfl) ⟨rfl, rfl, Nat.le_of_ble_eq_true rfl, Nat.le_of_ble_eq_true rfl, Nat.zero_le _, Nat.zero_le _⟩ dX5_term_144 hS (fun E5 H locs hp hM hS => ?_)
              obtain ⟨hB, fr⟩ := hp
              have hs := sk.kept hs (fr _ (by omega))
              have h1 := isV.kept h1 (fr _ (by omega)) (fr _ (by omega))
              have h3 := isV.kept h3 (fr _ (by omega)) (fr _ (by omega))
              have h5 := isV.kept h5 (fr _ (by omega)) (fr _ (by omega))
              have hA := isW.kept hA (fr _ (by omega)) (fr _ (by omega))
              have hfr := (fun q h => (fr q (by omega)).trans (hfr q h) : ∀ q : Nat, ((q < o + 1 ∨ o + 7 ≤ q) ∧ (q < b ∨ b + 2 ≤ q)) → E5 q = E0 q)
              have hF := isW.kept hF (fr _ (by omega)) (fr _ (by omega))
              have hO := isW.kept hO (fr _ (by omega)) (fr _ (by omega))
              have hbn2 := nl_prod hbn (Nat.le_trans hFn5 (show nl N + 2 ≤ 15 by omega))
              refine lv_aload C0.1 C0.2.1 dX5_term_147 (lv_at hl 4 rfl) ?_
              refine mm_ldc2 (z := 6) C0 tw_522 rfl dX5_term_149 ?_
              refine mm_callVl (As := [.long (zL (6))]) C0 vw_X8_shrink tw_521 (c_X8_shrink l G _ 6 rfl hB (by omega) (by omega)) hM (hB.obj) rfl rfl hl.1 rfl (Nat.le_of_ble_eq_true rfl) ⟨rfl, rfl, Nat.le_of_ble_eq_true rfl, Nat.le_of_ble_eq_true rfl, Nat.zero_le _, Nat.zero_le _⟩ dX5_term_152 hS (fun z_152 E6 H locs hp hM hS => ?_)
              obtain ⟨hz9, hB, fr⟩ := hp
              have hs := sk.kept hs (fr _ (by omega))
              have h1 := isV.kept h1 (fr _ (by omega)) (fr _ (by omega))
              have h3 := isV.kept h3 (fr _ (by omega)) (fr _ (by omega))
              have h5 := isV.kept h5 (fr _ (by omega)) (fr _ (by omega))
              have hA := isW.kept hA (fr _ (by omega)) (fr _ (by omega))
              have hfr := (fun q h => (fr q (by omega)).trans (hfr q h) : ∀ q : Nat, ((q < o + 1 ∨ o + 7 ≤ q) ∧ (q < b ∨ b + 2 ≤ q)) → E6 q = E0 q)
              have hF := isW.kept hF (fr _ (by omega)) (fr _ (by omega))
              have hO := isW.kept hO (fr _ (by omega)) (fr _ (by omega))
              have hBe : N * (N + 1) * facN N (k - 2) ((k : Int) - 5) / 6 = shp kd k N := by rw [hk4, shp_k4 hN0]
              rw [hBe] at hB
              refine lv_pop2_2 C0.1 C0.2.1 dX5_term_155 rfl ?_
              refine lv_aload C0.1 C0.2.1 dX5_term_156 (lv_at hl 4 rfl) ?_
              refine mm_get (fs := [.ref (b + 1), .int (zI (((nl (shp kd k N) : Nat) : Int)))]) C0 (C := RX8) (T := TX8) (N := 2) iG_X8 hM (hB.obj) rfl 1 (by decide) tw_81 rfl rfl dX5_term_158 ?_
              have hb56 := hB.le
              refine lv_bipush (v := zI 24) C0.1 C0.2.1 dX5_term_161 rfl ?_
              refine z_icmp_gt (tgt := 170) C0.1 C0.2.1 dX5_term_163 (by decide) ⟨by omega, by omega⟩ ⟨by omega, by omega⟩ (fun c_163 => ?_) (fun c_163 => ?_)
              · skip
                refine lv_iconst (v := zI 0) C0.1 C0.2.1 dX5_term_170 rfl ?_
                exact mm_zret (z := 0) C0 hr hlk hM hS (by omega) dX5_term_171 (⟨Or.inr ⟨rfl, hB.v, by omega⟩, h1, h3, h5, hfr⟩)
              · skip
                refine lv_iconst (v := zI 1) C0.1 C0.2.1 dX5_term_166 rfl ?_
                refine lv_goto (tgt := 171) C0.1 C0.2.1 dX5_term_167 (by decide) ?_
                exact mm_zret (z := 1) C0 hr hlk hM hS (by omega) dX5_term_171 (⟨Or.inl ⟨rfl, hB, by omega⟩, h1, h3, h5, hfr⟩)
          · skip
            have hk1 : kd = 1 := by omega
            have hBe : N * (N + 1) / 2 = shp kd k N := by rw [hk1, shp_k1]
            refine lv_aload C0.1 C0.2.1 dX5_term_100 (lv_at hl 4 rfl) ?_
            refine mm_ldc2 (z := 2) C0 tw_520 rfl dX5_term_102 ?_
            refine mm_callVl (As := [.long (zL (2))]) C0 vw_X8_shrink tw_521 (c_X8_shrink l G _ 2 rfl hB (by omega) (by omega)) hM (hB.obj) rfl rfl hl.1 rfl (Nat.le_of_ble_eq_true rfl) ⟨rfl, rfl, Nat.le_of_ble_eq_true rfl, Nat.le_of_ble_eq_true rfl, Nat.zero_le _, Nat.zero_le _⟩ dX5_term_105 hS (fun z_105 E7 H locs hp hM hS => ?_)
            obtain ⟨hz9, hB, fr⟩ := hp
            have hs := sk.kept hs (fr _ (by omega))
            have h1 := isV.kept h1 (fr _ (by omega)) (fr _ (by omega))
            have h3 := isV.kept h3 (fr _ (by omega)) (fr _ (by omega))
            have h5 := isV.kept h5 (fr _ (by omega)) (fr _ (by omega))
            have hA := isW.kept hA (fr _ (by omega)) (fr _ (by omega))
            have hfr := (fun q h => (fr q (by omega)).trans (hfr q h) : ∀ q : Nat, ((q < o + 1 ∨ o + 7 ≤ q) ∧ (q < b ∨ b + 2 ≤ q)) → E7 q = E0 q)
            have hF := isW.kept hF (fr _ (by omega)) (fr _ (by omega))
            rw [hBe] at hB
            refine lv_pop2_2 C0.1 C0.2.1 dX5_term_108 rfl ?_
            refine lv_iload_n C0.1 C0.2.1 dX5_term_109 rfl (lv_at hl 1 rfl) ?_
            refine lv_iconst (v := zI 4) C0.1 C0.2.1 dX5_term_110 rfl ?_
            refine z_icmp_ne (tgt := 156) C0.1 C0.2.1 dX5_term_111 (by decide) ⟨by omega, by omega⟩ ⟨by omega, by omega⟩ (fun c_111 => ?_) (fun c_111 => ?_)
            · skip
              refine lv_aload C0.1 C0.2.1 dX5_term_156 (lv_at hl 4 rfl) ?_
              refine mm_get (fs := [.ref (b + 1), .int (zI (((nl (shp kd k N) : Nat) : Int)))]) C0 (C := RX8) (T := TX8) (N := 2) iG_X8 hM (hB.obj) rfl 1 (by decide) tw_81 rfl rfl dX5_term_158 ?_
              have hb56 := hB.le
              refine lv_bipush (v := zI 24) C0.1 C0.2.1 dX5_term_161 rfl ?_
              refine z_icmp_gt (tgt := 170) C0.1 C0.2.1 dX5_term_163 (by decide) ⟨by omega, by omega⟩ ⟨by omega, by omega⟩ (fun c_163 => ?_) (fun c_163 => ?_)
              · skip
                refine lv_iconst (v := zI 0) C0.1 C0.2.1 dX5_term_170 rfl ?_
                exact mm_zret (z := 0) C0 hr hlk hM hS (by omega) dX5_term_171 (⟨Or.inr ⟨rfl, hB.v, by omega⟩, h1, h3, h5, hfr⟩)
              · skip
                refine lv_iconst (v := zI 1) C0.1 C0.2.1 dX5_term_166 rfl ?_
                refine lv_goto (tgt := 171) C0.1 C0.2.1 dX5_term_167 (by decide) ?_
                exact mm_zret (z := 1) C0 hr hlk hM hS (by omega) dX5_term_171 (⟨Or.inl ⟨rfl, hB, by omega⟩, h1, h3, h5, hfr⟩)
            · skip
              omega
        · skip
          have hk3a : kd = 3 := by omega
          have hg := facN_ge (c := (k : Int) - 4) (hk3 (by omega)) hNp (by omega)
          have hk33 := hk3 (by omega)
          refine lv_aload_n C0.1 C0.2.1 dX5_term_45 rfl (lv_at hl 0 rfl) ?_
          refine lv_aload_n C0.1 C0.2.1 dX5_term_46 rfl (lv_at hl 3 rfl) ?_
          refine lv_iload_n C0.1 C0.2.1 dX5_term_47 rfl (lv_at hl 2 rfl) ?_
          refine lv_iconst (v := zI 2) C0.1 C0.2.1 dX5_term_48 rfl ?_
          refine z_isub C0.1 C0.2.1 dX5_term_49 ?_
          refine z_asI (a := (((k : Int)) - (2))) (b := ((k - 2 : Nat) : Int)) (by omega) ?_
          refine lv_iload_n C0.1 C0.2.1 dX5_term_50 rfl (lv_at hl 2 rfl) ?_
          refine lv_iconst (v := zI 4) C0.1 C0.2.1 dX5_term_51 rfl ?_
          refine z_isub C0.1 C0.2.1 dX5_term_52 ?_
          refine mm_callVv (As := [.ref (a), .int (zI (((k - 2 : Nat) : Int))), .int (zI ((((k : Int)) - (4))))]) C0 vw_X5_setFactor tw_509 (c_X5_setFactor l G _ (k - 2) hs h1 h3 hA (by omega) (by omega) (by omega) (by omega) (by omega) hg.1) hM (hs) rfl rfl hl.1 rfl (Nat.le_of_ble_eq_true rfl) ⟨rfl, rfl, Nat.le_of_ble_eq_true rfl, Nat.le_of_ble_eq_true rfl, Nat.zero_le _, Nat.zero_le _⟩ dX5_term_53 hS (fun E8 H locs hp hM hS => ?_)
          obtain ⟨hF, h3, fr⟩ := hp
          have hs := sk.kept hs (fr _ (by omega))
          have h5 := isV.kept h5 (fr _ (by omega)) (fr _ (by omega))
          have hA := isW.kept hA (fr _ (by omega)) (fr _ (by omega))
          have hB := isV.kept hB (fr _ (by omega)) (fr _ (by omega))
          have hfr := (fun q h => (fr q (by omega)).trans (hfr q h) : ∀ q : Nat, ((q < o + 1 ∨ o + 7 ≤ q) ∧ (q < b ∨ b + 2 ≤ q)) → E8 q = E0 q)
          have h1 := hF.v
          have hFn := nl_fac (n := N) (tm := k - 2) (ls := (k : Int) - 4) (by omega) (by omega) (by omega) (by omega)
          refine lv_aload C0.1 C0.2.1 dX5_term_56 (lv_at hl 4 rfl) ?_
          refine lv_aload_n C0.1 C0.2.1 dX5_term_58 rfl (lv_at hl 3 rfl) ?_
          refine lv_aload_n C0.1 C0.2.1 dX5_term_59 rfl (lv_at hl 0 rfl) ?_
          refine mm_get (fs := [.ref (r), .ref (o + 1), .ref (o + 3), .ref (o + 5), .ref (o + 7), .ref (o + 9), .ref (o + 11)]) C0 (C := RX5) (T := TX5) (N := 7) iG_X5 hM (hs) rfl 1 (by decide) tw_119 rfl rfl dX5_term_60 ?_
          refine mm_callVv (As := [.ref (a), .ref (o + 1)]) C0 vw_X8_setProduct tw_508 (c_X8_setProduct l G _ hB hA hF (by omega) (by omega) (by omega)) hM ((hB.obj).choose_spec) rfl rfl hl.1 rfl (Nat.le_of_ble_eq_true rfl) ⟨rfl, rfl, Nat.le_of_ble_eq_true rfl, Nat.le_of_ble_eq_true rfl, Nat.zero_le _, Nat.zero_le _⟩ dX5_term_63 hS (fun E9 H locs hp hM hS => ?_)
          obtain ⟨hB, fr⟩ := hp
          have hs := sk.kept hs (fr _ (by omega))
          have h1 := isV.kept h1 (fr _ (by omega)) (fr _ (by omega))
          have h3 := isV.kept h3 (fr _ (by omega)) (fr _ (by omega))
          have h5 := isV.kept h5 (fr _ (by omega)) (fr _ (by omega))
          have hA := isW.kept hA (fr _ (by omega)) (fr _ (by omega))
          have hfr := (fun q h => (fr q (by omega)).trans (hfr q h) : ∀ q : Nat, ((q < o + 1 ∨ o + 7 ≤ q) ∧ (q < b ∨ b + 2 ≤ q)) → E9 q = E0 q)
          have hF := isW.kept hF (fr _ (by omega)) (fr _ (by omega))
          have hbn := nl_prod (show nl N ≤ 13 by omega) (Nat.le_trans hFn (show nl N + 2 ≤ 15 by omega))
          refine lv_aload C0.1 C0.2.1 dX5_term_66 (lv_at hl 4 rfl) ?_
          refine mm_ldc2 (z := 2) C0 tw_520 rfl dX5_term_68 ?_
          refine mm_callVl (As := [.long (zL (2))]) C0 vw_X8_shrink tw_521 (c_X8_shrink l G _ 2 rfl hB (by omega) (by omega)) hM (hB.obj) rfl rfl hl.1 rfl (Nat.le_of_ble_eq_true rfl) ⟨rfl, rfl, Nat.le_of_ble_eq_true rfl, Nat.le_of_ble_eq_true rfl, Nat.zero_le _, Nat.zero_le _⟩ dX5_term_71 hS (fun z_71 E10 H locs hp hM hS => ?_)
          obtain ⟨hz9, hB, fr⟩ := hp
          have hs := sk.kept hs (fr _ (by omega))
          have h1 := isV.kept h1 (fr _ (by omega)) (fr _ (by omega))
          have h3 := isV.kept h3 (fr _ (by omega)) (fr _ (by omega))
          have h5 := isV.kept h5 (fr _ (by omega)) (fr _ (by omega))
          have hA := isW.kept hA (fr _ (by omega)) (fr _ (by omega))
          have hfr := (fun q h => (fr q (by omega)).trans (hfr q h) : ∀ q : Nat, ((q < o + 1 ∨ o + 7 ≤ q) ∧ (q < b ∨ b + 2 ≤ q)) → E10 q = E0 q)
          have hF := isW.kept hF (fr _ (by omega)) (fr _ (by omega))
          have hBe : N * facN N (k - 2) ((k : Int) - 4) / 2 = shp kd k N := by rw [hk3a, shp_k3 hN0]
          rw [hBe] at hB
          refine lv_pop2_2 C0.1 C0.2.1 dX5_term_74 rfl ?_
          refine lv_goto (tgt := 109) C0.1 C0.2.1 dX5_term_75 (by decide) ?_
          refine lv_iload_n C0.1 C0.2.1 dX5_term_109 rfl (lv_at hl 1 rfl) ?_
          refine lv_iconst (v := zI 4) C0.1 C0.2.1 dX5_term_110 rfl ?_
          refine z_icmp_ne (tgt := 156) C0.1 C0.2.1 dX5_term_111 (by decide) ⟨by omega, by omega⟩ ⟨by omega, by omega⟩ (fun c_111 => ?_) (fun c_111 => ?_)
          · skip
            refine lv_aload C0.1 C0.2.1 dX5_term_156 (lv_at hl 4 rfl) ?_
            refine mm_get (fs := [.ref (b + 1), .int (zI (((nl (shp kd k N) : Nat) : Int)))]) C0 (C := RX8) (T := TX8) (N := 2) iG_X8 hM (hB.obj) rfl 1 (by decide) tw_81 rfl rfl dX5_term_158 ?_
            have hb56 := hB.le
            refine lv_bipush (v := zI 24) C0.1 C0.2.1 dX5_term_161 rfl ?_
            refine z_icmp_gt (tgt := 170) C0.1 C0.2.1 dX5_term_163 (by decide) ⟨by omega, by omega⟩ ⟨by omega, by omega⟩ (fun c_163 => ?_) (fun c_163 => ?_)
            · skip
              refine lv_iconst (v := zI 0) C0.1 C0.2.1 dX5_term_170 rfl ?_
              exact mm_zret (z := 0) C0 hr hlk hM hS (by omega) dX5_term_171 (⟨Or.inr ⟨rfl, hB.v, by omega⟩, h1, h3, h5, hfr⟩)
            · skip
              refine lv_iconst (v := zI 1) C0.1 C0.2.1 dX5_term_166 rfl ?_
              refine lv_goto (tgt := 171) C0.1 C0.2.1 dX5_term_167 (by decide) ?_
              exact mm_zret (z := 1) C0 hr hlk hM hS (by omega) dX5_term_171 (⟨Or.inl ⟨rfl, hB, by omega⟩, h1, h3, h5, hfr⟩)
          · skip
            omega
      · skip
        have hk0 : kd = 0 := by omega
        refine lv_aload C0.1 C0.2.1 dX5_term_30 (lv_at hl 4 rfl) ?_
        refine lv_aload_n C0.1 C0.2.1 dX5_term_32 rfl (lv_at hl 3 rfl) ?_
        refine lv_aload_n C0.1 C0.2.1 dX5_term_33 rfl (lv_at hl 3 rfl) ?_
        refine mm_callVv (As := [.ref (a), .ref (a)]) C0 vw_X8_setProduct tw_508 (c_X8_setProduct l G _ hB hA hA (by omega) (by omega) (by omega)) hM ((hB.obj).choose_spec) rfl rfl hl.1 rfl (Nat.le_of_ble_eq_true rfl) ⟨rfl, rfl, Nat.le_of_ble_eq_true rfl, Nat.le_of_ble_eq_true rfl, Nat.zero_le _, Nat.zero_le _⟩ dX5_term_34 hS (fun E11 H locs hp hM hS => ?_)
        obtain ⟨hB, fr⟩ := hp
        have hs := sk.kept hs (fr _ (by omega))
        have h1 := isV.kept h1 (fr _ (by omega)) (fr _ (by omega))
        have h3 := isV.kept h3 (fr _ (by omega)) (fr _ (by omega))
        have h5 := isV.kept h5 (fr _ (by omega)) (fr _ (by omega))
        have hA := isW.kept hA (fr _ (by omega)) (fr _ (by omega))
        have hfr := (fun q h => (fr q (by omega)).trans (hfr q h) : ∀ q : Nat, ((q < o + 1 ∨ o + 7 ≤ q) ∧ (q < b ∨ b + 2 ≤ q)) → E11 q = E0 q)
        have hBe : N * N = shp kd k N := by rw [hk0, shp_k0]
        rw [hBe] at hB
        refine lv_goto (tgt := 109) C0.1 C0.2.1 dX5_term_37 (by decide) ?_
        refine lv_iload_n C0.1 C0.2.1 dX5_term_109 rfl (lv_at hl 1 rfl) ?_
        refine lv_iconst (v := zI 4) C0.1 C0.2.1 dX5_term_110 rfl ?_
        refine z_icmp_ne (tgt := 156) C0.1 C0.2.1 dX5_term_111 (by decide) ⟨by omega, by omega⟩ ⟨by omega, by omega⟩ (fun c_111 => ?_) (fun c_111 => ?_)
        · skip
          refine lv_aload C0.1 C0.2.1 dX5_term_156 (lv_at hl 4 rfl) ?_
          refine mm_get (fs := [.ref (b + 1), .int (zI (((nl (shp kd k N) : Nat) : Int)))]) C0 (C := RX8) (T := TX8) (N := 2) iG_X8 hM (hB.obj) rfl 1 (by decide) tw_81 rfl rfl dX5_term_158 ?_
          have hb56 := hB.le
          refine lv_bipush (v := zI 24) C0.1 C0.2.1 dX5_term_161 rfl ?_
          refine z_icmp_gt (tgt := 170) C0.1 C0.2.1 dX5_term_163 (by decide) ⟨by omega, by omega⟩ ⟨by omega, by omega⟩ (fun c_163 => ?_) (fun c_163 => ?_)
          · skip
            refine lv_iconst (v := zI 0) C0.1 C0.2.1 dX5_term_170 rfl ?_
            exact mm_zret (z := 0) C0 hr hlk hM hS (by omega) dX5_term_171 (⟨Or.inr ⟨rfl, hB.v, by omega⟩, h1, h3, h5, hfr⟩)
          · skip
            refine lv_iconst (v := zI 1) C0.1 C0.2.1 dX5_term_166 rfl ?_
            refine lv_goto (tgt := 171) C0.1 C0.2.1 dX5_term_167 (by decide) ?_
            exact mm_zret (z := 1) C0 hr hlk hM hS (by omega) dX5_term_171 (⟨Or.inl ⟨rfl, hB, by omega⟩, h1, h3, h5, hfr⟩)
        · skip
          omega
    · skip
      have hN0 : N = 0 := nl_eq0.mp (by omega)
      refine lv_aload C0.1 C0.2.1 dX5_term_18 (lv_at hl 4 rfl) ?_
      refine lv_lconst (v := zL 0) C0.1 C0.2.1 dX5_term_20 rfl ?_
      refine mm_callVv (As := [.long (zL (0))]) C0 vw_X8_setLong tw_507 (c_X8_setLongV l G _ (N := 0) hB rfl (by omega)) hM ((hB.obj).choose_spec) rfl rfl hl.1 rfl (Nat.le_of_ble_eq_true rfl) ⟨rfl, rfl, Nat.le_of_ble_eq_true rfl, Nat.le_of_ble_eq_true rfl, Nat.zero_le _, Nat.zero_le _⟩ dX5_term_21 hS (fun E12 H locs hp hM hS => ?_)
      obtain ⟨hB, fr⟩ := hp
      have hs := sk.kept hs (fr _ (by omega))
      have h1 := isV.kept h1 (fr _ (by omega)) (fr _ (by omega))
      have h3 := isV.kept h3 (fr _ (by omega)) (fr _ (by omega))
      have h5 := isV.kept h5 (fr _ (by omega)) (fr _ (by omega))
      have hA := isW.kept hA (fr _ (by omega)) (fr _ (by omega))
      have hfr := (fun q h => (fr q (by omega)).trans (hfr q h) : ∀ q : Nat, ((q < o + 1 ∨ o + 7 ≤ q) ∧ (q < b ∨ b + 2 ≤ q)) → E12 q = E0 q)
      refine lv_iconst (v := zI 1) C0.1 C0.2.1 dX5_term_24 rfl ?_
      exact mm_zret (z := 1) C0 hr hlk hM hS (by omega) dX5_term_25 (⟨Or.inl ⟨rfl, by rw [hN0, shp_0]; exact hB, by rw [hN0, shp_0, nl_0]; omega⟩, h1, h3, h5, hfr⟩)
  · skip
    have hlong := shp_long (k := k) hkd hk3 (show 13 < nl N by omega)
    refine lv_iconst (v := zI 0) C0.1 C0.2.1 dX5_term_9 rfl ?_
    exact mm_zret (z := 0) C0 hr hlk hM hS (by omega) dX5_term_10 (⟨Or.inr ⟨rfl, hB, hlong⟩, h1, h3, h5, hfr⟩)

def rX5_find : Room := { frames := 6, cells := 0, slots := 0, locals := 153 }
theorem vw_X5_find : mm_Vw RX5 yX5_find cX5_find 6 (some .boolean) 4 := ⟨tw_528, tw_529, tw_5, tw_530, by decide +kernel⟩
set_option maxHeartbeats 4000000 in
set_option maxRecDepth 100000 in
theorem c_X5_find (l : Launch) (G : mG) (E0 : mE) {o r a b N : Nat} (kd k : Nat) (hkd : kd ≤ 4) (hk3 : 3 ≤ kd → 3 ≤ k) (hk9 : k ≤ 99) (hs : sk G E0 o r) (hk : rk G E0 r) (h1 : isV G E0 (o + 1)) (h3 : isV G E0 (o + 3)) (h5 : isV G E0 (o + 5)) (h7 : isV G E0 (o + 7)) (h9 : isV G E0 (o + 9)) (h11 : isV G E0 (o + 11)) (r1 : isV G E0 (r + 1)) (r3 : isV G E0 (r + 3)) (r5 : isV G E0 (r + 5)) (r7 : isV G E0 (r + 7)) (r9 : isV G E0 (r + 9)) (hA : isW G E0 a N) (hB : isV G E0 b) (hor : o + 13 ≤ r ∨ r + 11 ≤ o) (ha : (a + 2 ≤ o ∨ o + 13 ≤ a) ∧ (a + 2 ≤ r ∨ r + 11 ≤ a)) (hb : (b + 2 ≤ o ∨ o + 13 ≤ b) ∧ (b + 2 ≤ r ∨ r + 11 ≤ b)) (hab : a + 2 ≤ b ∨ b + 2 ≤ a) (hN : nl N ≤ 24) : mm_Ci l yX5_find (.code yX5_find cX5_find 6 (some .boolean) :: wsG) rX5_find G [.ref (o), .int (zI ((kd : Int))), .int (zI ((k : Int))), .ref (a), .ref (b)] E0 (fun z E => ((∃ x, z = 1 ∧ isW G E b x ∧ shp kd k x = N) ∨ (z = 0 ∧ isV G E b ∧ ∀ x, shp kd k x ≠ N)) ∧ isV G E (o + 1) ∧ isV G E (o + 3) ∧ isV G E (o + 5) ∧ isV G E (o + 7) ∧ isV G E (o + 9) ∧ isV G E (o + 11) ∧ isV G E (r + 1) ∧ isV G E (r + 3) ∧ isV G E (r + 5) ∧ isV G E (r + 7) ∧ isV G E (r + 9) ∧ ∀ q : Nat, ((q < o + 1 ∨ o + 13 ≤ q) ∧ (q < r + 1 ∨ r + 11 ≤ q) ∧ (q < b ∨ b + 2 ≤ q)) → E q = E0 q) := by
  refine mm_of_i (by decide +kernel) (Nat.le_of_ble_eq_true rfl) ?_
  intro p e s m args below meth c ls C0 hr hlk hM hl hS
  have hl : lv_has ls 6 [(0, .ref (o)), (1, .int (zI ((kd : Int)))), (2, .int (zI ((k : Int)))), (3, .ref (a)), (4, .ref (b))] := hl
  have hfr : ∀ q : Nat, ((q < o + 1 ∨ o + 13 ≤ q) ∧ (q < r + 1 ∨ r + 11 ≤ q) ∧ (q < b ∨ b + 2 ≤ q)) → E0 q = E0 q := fun _ _ => rfl
  have hbn := shb_nl (kd := kd) (k := k) hN
  obtain ⟨ha1, ha2⟩ := ha
  obtain ⟨hb1, hb2⟩ := hb
  have hm2 := nl_mul1 (N := N) (a := 2) (by omega)
  have hm6 := nl_mul1 (N := N) (a := 6) (by omega)
  refine lv_aload_n C0.1 C0.2.1 dX5_find_0 rfl (lv_at hl 0 rfl) ?_
  refine mm_get (fs := [.ref (r), .ref (o + 1), .ref (o + 3), .ref (o + 5), .ref (o + 7), .ref (o + 9), .ref (o + 11)]) C0 (C := RX5) (T := TX5) (N := 7) iG_X5 hM (hs) rfl 4 (by decide) tw_122 rfl rfl dX5_find_1 ?_
  refine lv_aload_n C0.1 C0.2.1 dX5_find_4 rfl (lv_at hl 3 rfl) ?_
  refine mm_callVv (As := [.ref (a)]) C0 vw_X8_copy tw_513 (c_X8_copy l G _ h7 hA (by omega)) hM ((h7.obj).choose_spec) rfl rfl hl.1 rfl (Nat.le_of_ble_eq_true rfl) ⟨rfl, rfl, Nat.le_of_ble_eq_true rfl, Nat.le_of_ble_eq_true rfl, Nat.zero_le _, Nat.zero_le _⟩ dX5_find_5 hS (fun E1 H locs hp hM hS => ?_)
  obtain ⟨hb7, fr⟩ := hp
  have hs := sk.kept hs (fr _ (by omega))
  have hk := rk.kept hk (fr _ (by omega))
  have h1 := isV.kept h1 (fr _ (by omega)) (fr _ (by omega))
  have h3 := isV.kept h3 (fr _ (by omega)) (fr _ (by omega))
  have h5 := isV.kept h5 (fr _ (by omega)) (fr _ (by omega))
  have h9 := isV.kept h9 (fr _ (by omega)) (fr _ (by omega))
  have h11 := isV.kept h11 (fr _ (by omega)) (fr _ (by omega))
  have hA := isW.kept hA (fr _ (by omega)) (fr _ (by omega))
  have hB := isV.kept hB (fr _ (by omega)) (fr _ (by omega))
  have hfr := (fun q h => (fr q (by omega)).trans (hfr q h) : ∀ q : Nat, ((q < o + 1 ∨ o + 13 ≤ q) ∧ (q < r + 1 ∨ r + 11 ≤ q) ∧ (q < b ∨ b + 2 ≤ q)) → E1 q = E0 q)
  have r1 := isV.kept r1 (fr _ (by omega)) (fr _ (by omega))
  have r3 := isV.kept r3 (fr _ (by omega)) (fr _ (by omega))
  have r5 := isV.kept r5 (fr _ (by omega)) (fr _ (by omega))
  have r7 := isV.kept r7 (fr _ (by omega)) (fr _ (by omega))
  have r9 := isV.kept r9 (fr _ (by omega)) (fr _ (by omega))
  have J86 : ∀  (E2 : mE) (H : Heap) (locs : List Loc) (ls : Array Slot), (sk G E2 o r) → (rk G E2 r) → (isV G E2 (o + 1)) → (isV G E2 (o + 3)) → (isV G E2 (o + 5)) → (isV G E2 (o + 9)) → (isV G E2 (o + 11)) → (isW G E2 (o + 7) (shb kd k N)) → (isW G E2 a N) → (isV G E2 b) → (∀ q : Nat, ((q < o + 1 ∨ o + 13 ≤ q) ∧ (q < r + 1 ∨ r + 11 ≤ q) ∧ (q < b ∨ b + 2 ≤ q)) → E2 q = E0 q) → (isV G E2 (r + 1)) → (isV G E2 (r + 3)) → (isV G E2 (r + 5)) → (isV G E2 (r + 7)) → (isV G E2 (r + 9)) → mm_M G E2 H → va_S (mm_A G) s.heap H locs → lv_has ls 6 [(0, .ref (o)), (1, .int (zI ((kd : Int)))), (2, .int (zI ((k : Int)))), (3, .ref (a)), (4, .ref (b))] → W p l e rX5_find s m args below meth c H locs 0 0 (mm_Zi G below args s (fun z E => ((∃ x, z = 1 ∧ isW G E b x ∧ shp kd k x = N) ∨ (z = 0 ∧ isV G E b ∧ ∀ x, shp kd k x ≠ N)) ∧ isV G E (o + 1) ∧ isV G E (o + 3) ∧ isV G E (o + 5) ∧ isV G E (o + 7) ∧ isV G E (o + 9) ∧ isV G E (o + 11) ∧ isV G E (r + 1) ∧ isV G E (r + 3) ∧ isV G E (r + 5) ∧ isV G E (r + 7) ∧ isV G E (r + 9) ∧ ∀ q : Nat, ((q < o + 1 ∨ o + 13 ≤ q) ∧ (q < r + 1 ∨ r + 11 ≤ q) ∧ (q < b ∨ b + 2 ≤ q)) → E q = E0 q)) (F0 m 86 ls []) := by
    intro  E2 H locs ls hs hk h1 h3 h5 h9 h11 hb7 hA hB hfr r1 r3 r5 r7 r9 hM hS hl
    have J111 : ∀ (t : Nat) (E3 : mE) (H : Heap) (locs : List Loc) (ls : Array Slot), (nl t ≤ 13) → (hid (rtP (if kd = 4 then 3 else 2) (shb kd k N) t)) → (sk G E3 o r) → (rk G E3 r) → (isV G E3 (o + 1)) → (isV G E3 (o + 3)) → (isV G E3 (o + 5)) → (isV G E3 (o + 11)) → (isW G E3 (o + 7) (shb kd k N)) → (isW G E3 (o + 9) t) → (isW G E3 a N) → (isV G E3 b) → (∀ q : Nat, ((q < o + 1 ∨ o + 13 ≤ q) ∧ (q < r + 1 ∨ r + 11 ≤ q) ∧ (q < b ∨ b + 2 ≤ q)) → E3 q = E0 q) → (isV G E3 (r + 1)) → (isV G E3 (r + 3)) → (isV G E3 (r + 5)) → (isV G E3 (r + 7)) → (isV G E3 (r + 9)) → mm_M G E3 H → va_S (mm_A G) s.heap H locs → lv_has ls 6 [(0, .ref (o)), (1, .int (zI ((kd : Int)))), (2, .int (zI ((k : Int)))), (3, .ref (a)), (4, .ref (b))] → W p l e rX5_find s m args below meth c H locs 0 0 (mm_Zi G below args s (fun z E => ((∃ x, z = 1 ∧ isW G E b x ∧ shp kd k x = N) ∨ (z = 0 ∧ isV G E b ∧ ∀ x, shp kd k x ≠ N)) ∧ isV G E (o + 1) ∧ isV G E (o + 3) ∧ isV G E (o + 5) ∧ isV G E (o + 7) ∧ isV G E (o + 9) ∧ isV G E (o + 11) ∧ isV G E (r + 1) ∧ isV G E (r + 3) ∧ isV G E (r + 5) ∧ isV G E (r + 7) ∧ isV G E (r + 9) ∧ ∀ q : Nat, ((q < o + 1 ∨ o + 13 ≤ q) ∧ (q < r + 1 ∨ r + 11 ≤ q) ∧ (q < b ∨ b + 2 ≤ q)) → E q = E0 q)) (F0 m 111 ls []) := by
      intro t E3 H locs ls htn hrt hs hk h1 h3 h5 h11 hb7 hC hA hB hfr r1 r3 r5 r7 r9 hM hS hl
      refine lv_iconst (v := zI 0) C0.1 C0.2.1 dX5_find_111 rfl ?_
      refine lv_istore (lv' := [(5, .int (zI (0))), (0, .ref (o)), (1, .int (zI ((kd : Int)))), (2, .int (zI ((k : Int)))), (3, .ref (a)), (4, .ref (b))]) C0.1 C0.2.1 dX5_find_112 hl (by decide) rfl (fun ls hl => ?_)
      have L114 : ∀ (k114 : Nat) (i : Nat) (E4 : mE) (H : Heap) (locs : List Loc) (ls : Array Slot), (i ≤ 2) → (∀ j, j < i → shp kd k (t + j) ≠ N) → (sk G E4 o r) → (rk G E4 r) → (isV G E4 (o + 1)) → (isV G E4 (o + 3)) → (isV G E4 (o + 5)) → (isV G E4 (o + 11)) → (isW G E4 (o + 7) (shb kd k N)) → (isW G E4 (o + 9) (t + i)) → (isW G E4 a N) → (isV G E4 b) → (∀ q : Nat, ((q < o + 1 ∨ o + 13 ≤ q) ∧ (q < r + 1 ∨ r + 11 ≤ q) ∧ (q < b ∨ b + 2 ≤ q)) → E4 q = E0 q) → (isV G E4 (r + 1)) → (isV G E4 (r + 3)) → (isV G E4 (r + 5)) → (isV G E4 (r + 7)) → (isV G E4 (r + 9)) → 2 - i < k114 → mm_M G E4 H → va_S (mm_A G) s.heap H locs → lv_has ls 6 [(0, .ref (o)), (1, .int (zI ((kd : Int)))), (2, .int (zI ((k : Int)))), (3, .ref (a)), (4, .ref (b)), (5, .int (zI ((i : Int))))] → W p l e rX5_find s m args below meth c H locs 0 0 (mm_Zi G below args s (fun z E => ((∃ x, z = 1 ∧ isW G E b x ∧ shp kd k x = N) ∨ (z = 0 ∧ isV G E b ∧ ∀ x, shp kd k x ≠ N)) ∧ isV G E (o + 1) ∧ isV G E (o + 3) ∧ isV G E (o + 5) ∧ isV G E (o + 7) ∧ isV G E (o + 9) ∧ isV G E (o + 11) ∧ isV G E (r + 1) ∧ isV G E (r + 3) ∧ isV G E (r + 5) ∧ isV G E (r + 7) ∧ isV G E (r + 9) ∧ ∀ q : Nat, ((q < o + 1 ∨ o + 13 ≤ q) ∧ (q < r + 1 ∨ r + 11 ≤ q) ∧ (q < b ∨ b + 2 ≤ q)) → E q = E0 q)) (F0 m 114 ls []) := by
        intro k114
        induction k114 with
        | zero => intro i E4 H locs ls hi hno hs hk h1 h3 h5 h11 hb7 hC hA hB hfr r1 r3 r5 r7 r9 hk hM hS hl; exact absurd hk (Nat.not_lt_zero _)
        | succ k114 ih114 =>
          intro i E4 H locs ls hi hno hs hk h1 h3 h5 h11 hb7 hC hA hB hfr r1 r3 r5 r7 r9 hk114 hM hS hl
          refine lv_iload C0.1 C0.2.1 dX5_find_114 (lv_at hl 5 rfl) ?_
          refine lv_iconst (v := zI 2) C0.1 C0.2.1 dX5_find_116 rfl ?_
          refine z_icmp_ge (tgt := 184) C0.1 C0.2.1 dX5_find_117 (by decide) ⟨by omega, by omega⟩ ⟨by omega, by omega⟩ (fun c_117 => ?_) (fun c_117 => ?_)
          · skip
            have hnone : ∀ x, shp kd k x ≠ N := fun x q => (shp_which hkd hk3 q hrt).elim (fun e => hno 0 (by omega) (by rw [Nat.add_zero, ← e]; exact q)) (fun e => hno 1 (by omega) (by rw [← e]; exact q))
            refine lv_iconst (v := zI 0) C0.1 C0.2.1 dX5_find_184 rfl ?_
            exact mm_zret (z := 0) C0 hr hlk hM hS (by omega) dX5_find_185 (⟨Or.inr ⟨rfl, hB, hnone⟩, h1, h3, h5, hb7.v, hC.v, h11, r1, r3, r5, r7, r9, hfr⟩)
          · skip
            refine lv_aload_n C0.1 C0.2.1 dX5_find_120 rfl (lv_at hl 0 rfl) ?_
            refine lv_iload_n C0.1 C0.2.1 dX5_find_121 rfl (lv_at hl 1 rfl) ?_
            refine lv_iload_n C0.1 C0.2.1 dX5_find_122 rfl (lv_at hl 2 rfl) ?_
            refine lv_aload_n C0.1 C0.2.1 dX5_find_123 rfl (lv_at hl 0 rfl) ?_
            refine mm_get (fs := [.ref (r), .ref (o + 1), .ref (o + 3), .ref (o + 5), .ref (o + 7), .ref (o + 9), .ref (o + 11)]) C0 (C := RX5) (T := TX5) (N := 7) iG_X5 hM (hs) rfl 5 (by decide) tw_123 rfl rfl dX5_find_124 ?_
            refine lv_aload_n C0.1 C0.2.1 dX5_find_127 rfl (lv_at hl 0 rfl) ?_
            refine mm_get (fs := [.ref (r), .ref (o + 1), .ref (o + 3), .ref (o + 5), .ref (o + 7), .ref (o + 9), .ref (o + 11)]) C0 (C := RX5) (T := TX5) (N := 7) iG_X5 hM (hs) rfl 6 (by decide) tw_124 rfl rfl dX5_find_128 ?_
            refine mm_callVi (As := [.int (zI ((kd : Int))), .int (zI ((k : Int))), .ref (o + 9), .ref (o + 11)]) C0 vw_X5_term tw_532 (c_X5_term l G _ kd k hkd hk3 hk9 hs h1 h3 h5 hC h11 (by omega) (by omega) (by omega)) hM (hs) rfl rfl hl.1 rfl (Nat.le_of_ble_eq_true rfl) ⟨rfl, rfl, Nat.le_of_ble_eq_true rfl, Nat.le_of_ble_eq_true rfl, Nat.zero_le _, Nat.zero_le _⟩ dX5_find_131 hS (fun z_131 E5 H locs hp hM hS => ?_)
            obtain ⟨htm, h1, h3, h5, fr⟩ := hp
            have hs := sk.kept hs (fr _ (by omega))
            have hk := rk.kept hk (fr _ (by omega))
            have hb7 := isW.kept hb7 (fr _ (by omega)) (fr _ (by omega))
            have hC := isW.kept hC (fr _ (by omega)) (fr _ (by omega))
            have hA := isW.kept hA (fr _ (by omega)) (fr _ (by omega))
            have hB := isV.kept hB (fr _ (by omega)) (fr _ (by omega))
            have hfr := (fun q h => (fr q (by omega)).trans (hfr q h) : ∀ q : Nat, ((q < o + 1 ∨ o + 13 ≤ q) ∧ (q < r + 1 ∨ r + 11 ≤ q) ∧ (q < b ∨ b + 2 ≤ q)) → E5 q = E0 q)
            have r1 := isV.kept r1 (fr _ (by omega)) (fr _ (by omega))
            have r3 := isV.kept r3 (fr _ (by omega)) (fr _ (by omega))
            have r5 := isV.kept r5 (fr _ (by omega)) (fr _ (by omega))
            have r7 := isV.kept r7 (fr _ (by omega)) (fr _ (by omega))
            have r9 := isV.kept r9 (fr _ (by omega)) (fr _ (by omega))
            have hz01 : z_131 = 0 ∨ z_131 = 1 := htm.elim (fun h => Or.inr h.1) (fun h => Or.inl h.1)
            refine z_if_eq (tgt := 159) C0.1 C0.2.1 dX5_find_134 (by decide) ⟨by omega, by omega⟩ (fun c_134 => ?_) (fun c_134 => ?_)
            · skip
              have hV : isV G E5 (o + 11) := htm.elim (fun h => h.2.1.v) (fun h => h.2.1)
              have hnot : shp kd k (t + i) ≠ N := fun q => htm.elim (fun h => by omega) (fun h => by have h97 := h.2.2; rw [q] at h97; omega)
              have h11 := hV
              refine lv_aload_n C0.1 C0.2.1 dX5_find_159 rfl (lv_at hl 0 rfl) ?_
              refine mm_get (fs := [.ref (r), .ref (o + 1), .ref (o + 3), .ref (o + 5), .ref (o + 7), .ref (o + 9), .ref (o + 11)]) C0 (C := RX5) (T := TX5) (N := 7) iG_X5 hM (hs) rfl 2 (by decide) tw_120 rfl rfl dX5_find_160 ?_
              refine lv_lconst (v := zL 1) C0.1 C0.2.1 dX5_find_163 rfl ?_
              refine mm_callVv (As := [.long (zL (1))]) C0 vw_X8_setLong tw_507 (c_X8_setLongV l G _ (N := 1) h3 rfl (by omega)) hM ((h3.obj).choose_spec) rfl rfl hl.1 rfl (Nat.le_of_ble_eq_true rfl) ⟨rfl, rfl, Nat.le_of_ble_eq_true rfl, Nat.le_of_ble_eq_true rfl, Nat.zero_le _, Nat.zero_le _⟩ dX5_find_164 hS (fun E6 H locs hp hM hS => ?_)
              obtain ⟨hAm, fr⟩ := hp
              have hs := sk.kept hs (fr _ (by omega))
              have hk := rk.kept hk (fr _ (by omega))
              have h1 := isV.kept h1 (fr _ (by omega)) (fr _ (by omega))
              have h5 := isV.kept h5 (fr _ (by omega)) (fr _ (by omega))
              have h11 := isV.kept h11 (fr _ (by omega)) (fr _ (by omega))
              have hb7 := isW.kept hb7 (fr _ (by omega)) (fr _ (by omega))
              have hC := isW.kept hC (fr _ (by omega)) (fr _ (by omega))
              have hA := isW.kept hA (fr _ (by omega)) (fr _ (by omega))
              have hB := isV.kept hB (fr _ (by omega)) (fr _ (by omega))
              have hfr := (fun q h => (fr q (by omega)).trans (hfr q h) : ∀ q : Nat, ((q < o + 1 ∨ o + 13 ≤ q) ∧ (q < r + 1 ∨ r + 11 ≤ q) ∧ (q < b ∨ b + 2 ≤ q)) → E6 q = E0 q)
              have r1 := isV.kept r1 (fr _ (by omega)) (fr _ (by omega))
              have r3 := isV.kept r3 (fr _ (by omega)) (fr _ (by omega))
              have r5 := isV.kept r5 (fr _ (by omega)) (fr _ (by omega))
              have r7 := isV.kept r7 (fr _ (by omega)) (fr _ (by omega))
              have r9 := isV.kept r9 (fr _ (by omega)) (fr _ (by omega))
              have h3 := hAm.v
              have hn1 : nl 1 ≤ 1 := (nl_le 1 1).mpr (by omega)
              have hti : nl (t + i) ≤ 14 := (nl_le _ _).mpr (by have h97 := (nl_le _ _).mp htn; rw [bP_s]; omega)
              refine lv_aload_n C0.1 C0.2.1 dX5_find_167 rfl (lv_at hl 0 rfl) ?_
              refine mm_get (fs := [.ref (r), .ref (o + 1), .ref (o + 3), .ref (o + 5), .ref (o + 7), .ref (o + 9), .ref (o + 11)]) C0 (C := RX5) (T := TX5) (N := 7) iG_X5 hM (hs) rfl 5 (by decide) tw_123 rfl rfl dX5_find_168 ?_
              refine lv_aload_n C0.1 C0.2.1 dX5_find_171 rfl (lv_at hl 0 rfl) ?_
              refine mm_get (fs := [.ref (r), .ref (o + 1), .ref (o + 3), .ref (o + 5), .ref (o + 7), .ref (o + 9), .ref (o + 11)]) C0 (C := RX5) (T := TX5) (N := 7) iG_X5 hM (hs) rfl 2 (by decide) tw_120 rfl rfl dX5_find_172 ?_
              refine mm_callVv (As := [.ref (o + 3)]) C0 vw_X8_add tw_518 (c_X8_add l G _ hC hAm (by omega) (by omega) (by omega)) hM (hC.obj) rfl rfl hl.1 rfl (Nat.le_of_ble_eq_true rfl) ⟨rfl, rfl, Nat.le_of_ble_eq_true rfl, Nat.le_of_ble_eq_true rfl, Nat.zero_le _, Nat.zero_le _⟩ dX5_find_175 hS (fun E7 H locs hp hM hS => ?_)
              obtain ⟨hC, fr⟩ := hp
              have hs := sk.kept hs (fr _ (by omega))
              have hk := rk.kept hk (fr _ (by omega))
              have h1 := isV.kept h1 (fr _ (by omega)) (fr _ (by omega))
              have h3 := isV.kept h3 (fr _ (by omega)) (fr _ (by omega))
              have h5 := isV.kept h5 (fr _ (by omega)) (fr _ (by omega))
              have h11 := isV.kept h11 (fr _ (by omega)) (fr _ (by omega))
              have hb7 := isW.kept hb7 (fr _ (by omega)) (fr _ (by omega))
              have hA := isW.kept hA (fr _ (by omega)) (fr _ (by omega))
              have hB := isV.kept hB (fr _ (by omega)) (fr _ (by omega))
              have hfr := (fun q h => (fr q (by omega)).trans (hfr q h) : ∀ q : Nat, ((q < o + 1 ∨ o + 13 ≤ q) ∧ (q < r + 1 ∨ r + 11 ≤ q) ∧ (q < b ∨ b + 2 ≤ q)) → E7 q = E0 q)
              have r1 := isV.kept r1 (fr _ (by omega)) (fr _ (by omega))
              have r3 := isV.kept r3 (fr _ (by omega)) (fr _ (by omega))
              have r5 := isV.kept r5 (fr _ (by omega)) (fr _ (by omega))
              have r7 := isV.kept r7 (fr _ (by omega)) (fr _ (by omega))
              have r9 := isV.kept r9 (fr _ (by omega)) (fr _ (by omega))
              have hAm := isW.kept hAm (fr _ (by omega)) (fr _ (by omega))
              refine lv_iinc (v := zI (((i + 1 : Nat) : Int))) (lv' := [(5, .int (zI (((i + 1 : Nat) : Int)))), (0, .ref (o)), (1, .int (zI ((kd : Int)))), (2, .int (zI ((k : Int)))), (3, .ref (a)), (4, .ref (b))]) C0.1 C0.2.1 dX5_find_178 hl (k := 5) rfl (z_inc (a := (i : Int)) (n := 1) (by omega)) (by decide) rfl (fun ls hl => ?_)
              refine lv_goto (tgt := 114) C0.1 C0.2.1 dX5_find_181 (by decide) ?_
              exact ih114  (i + 1) E7 _ _ _ (by omega) (fun j hj => if q : j = i then (by rw [q]; exact hnot) else hno j (by omega)) (hs) (hk) (h1) (h3) (h5) (h11) (hb7) (hC) (hA) (hB) (hfr) (r1) (r3) (r5) (r7) (r9) (by omega) hM hS (lv_sub hl [1, 2, 3, 4, 5, 0] rfl)
            · skip
              have hV : isW G E5 (o + 11) (shp kd k (t + i)) := htm.elim (fun h => h.2.1) (fun h => by omega)
              have h11 := hV.v
              refine lv_aload_n C0.1 C0.2.1 dX5_find_137 rfl (lv_at hl 0 rfl) ?_
              refine mm_get (fs := [.ref (r), .ref (o + 1), .ref (o + 3), .ref (o + 5), .ref (o + 7), .ref (o + 9), .ref (o + 11)]) C0 (C := RX5) (T := TX5) (N := 7) iG_X5 hM (hs) rfl 6 (by decide) tw_124 rfl rfl dX5_find_138 ?_
              refine lv_aload_n C0.1 C0.2.1 dX5_find_141 rfl (lv_at hl 3 rfl) ?_
              refine mm_callVi (As := [.ref (a)]) C0 vw_X8_compareWith tw_533 (c_X8_compareWith l G _ hV hA) hM (hV.obj) rfl rfl hl.1 rfl (Nat.le_of_ble_eq_true rfl) ⟨rfl, rfl, Nat.le_of_ble_eq_true rfl, Nat.le_of_ble_eq_true rfl, Nat.zero_le _, Nat.zero_le _⟩ dX5_find_142 hS (fun z_142 E8 H locs hp hM hS => ?_)
              obtain ⟨hz_142, hEq⟩ := hp
              rw [hEq] at hM
              refine z_asI (b := cmpZ (shp kd k (t + i)) N) (hz_142) ?_
              have hce : cmpZ (shp kd k (t + i)) N = 0 → shp kd k (t + i) = N := by unfold cmpZ; omega
              have hcn : shp kd k (t + i) = N → cmpZ (shp kd k (t + i)) N = 0 := by unfold cmpZ; omega
              have hcm : cmpZ (shp kd k (t + i)) N = -1 ∨ cmpZ (shp kd k (t + i)) N = 0 ∨ cmpZ (shp kd k (t + i)) N = 1 := by unfold cmpZ; omega
              refine z_if_ne (tgt := 159) C0.1 C0.2.1 dX5_find_145 (by decide) ⟨by omega, by omega⟩ (fun c_145 => ?_) (fun c_145 => ?_)
              · skip
                have hnot : shp kd k (t + i) ≠ N := fun q => by have h97 := hcn q; omega
                refine lv_aload_n C0.1 C0.2.1 dX5_find_159 rfl (lv_at hl 0 rfl) ?_
                refine mm_get (fs := [.ref (r), .ref (o + 1), .ref (o + 3), .ref (o + 5), .ref (o + 7), .ref (o + 9), .ref (o + 11)]) C0 (C := RX5) (T := TX5) (N := 7) iG_X5 hM (hs) rfl 2 (by decide) tw_120 rfl rfl dX5_find_160 ?_
                refine lv_lconst (v := zL 1) C0.1 C0.2.1 dX5_find_163 rfl ?_
                refine mm_callVv (As := [.long (zL (1))]) C0 vw_X8_setLong tw_507 (c_X8_setLongV l G _ (N := 1) h3 rfl (by omega)) hM ((h3.obj).choose_spec) rfl rfl hl.1 rfl (Nat.le_of_ble_eq_true rfl) ⟨rfl, rfl, Nat.le_of_ble_eq_true rfl, Nat.le_of_ble_eq_true rfl, Nat.zero_le _, Nat.zero_le _⟩ dX5_find_164 hS (fun E9 H locs hp hM hS => ?_)
                obtain ⟨hAm, fr⟩ := hp
                have hs := sk.kept hs (fr _ (by omega))
                have hk := rk.kept hk (fr _ (by omega))
                have h1 := isV.kept h1 (fr _ (by omega)) (fr _ (by omega))
                have h5 := isV.kept h5 (fr _ (by omega)) (fr _ (by omega))
                have h11 := isV.kept h11 (fr _ (by omega)) (fr _ (by omega))
                have hb7 := isW.kept hb7 (fr _ (by omega)) (fr _ (by omega))
                have hC := isW.kept hC (fr _ (by omega)) (fr _ (by omega))
                have hA := isW.kept hA (fr _ (by omega)) (fr _ (by omega))
                have hB := isV.kept hB (fr _ (by omega)) (fr _ (by omega))
                have hfr := (fun q h => (fr q (by omega)).trans (hfr q h) : ∀ q : Nat, ((q < o + 1 ∨ o + 13 ≤ q) ∧ (q < r + 1 ∨ r + 11 ≤ q) ∧ (q < b ∨ b + 2 ≤ q)) → E9 q = E0 q)
                have r1 := isV.kept r1 (fr _ (by omega)) (fr _ (by omega))
                have r3 := isV.kept r3 (fr _ (by omega)) (fr _ (by omega))
                have r5 := isV.kept r5 (fr _ (by omega)) (fr _ (by omega))
                have r7 := isV.kept r7 (fr _ (by omega)) (fr _ (by omega))
                have r9 := isV.kept r9 (fr _ (by omega)) (fr _ (by omega))
                have h3 := hAm.v
                have hn1 : nl 1 ≤ 1 := (nl_le 1 1).mpr (by omega)
                have hti : nl (t + i) ≤ 14 := (nl_le _ _).mpr (by have h97 := (nl_le _ _).mp htn; rw [bP_s]; omega)
                refine lv_aload_n C0.1 C0.2.1 dX5_find_167 rfl (lv_at hl 0 rfl) ?_
                refine mm_get (fs := [.ref (r), .ref (o + 1), .ref (o + 3), .ref (o + 5), .ref (o + 7), .ref (o + 9), .ref (o + 11)]) C0 (C := RX5) (T := TX5) (N := 7) iG_X5 hM (hs) rfl 5 (by decide) tw_123 rfl rfl dX5_find_168 ?_
                refine lv_aload_n C0.1 C0.2.1 dX5_find_171 rfl (lv_at hl 0 rfl) ?_
                refine mm_get (fs := [.ref (r), .ref (o + 1), .ref (o + 3), .ref (o + 5), .ref (o + 7), .ref (o + 9), .ref (o + 11)]) C0 (C := RX5) (T := TX5) (N := 7) iG_X5 hM (hs) rfl 2 (by decide) tw_120 rfl rfl dX5_find_172 ?_
                refine mm_callVv (As := [.ref (o + 3)]) C0 vw_X8_add tw_518 (c_X8_add l G _ hC hAm (by omega) (by omega) (by omega)) hM (hC.obj) rfl rfl hl.1 rfl (Nat.le_of_ble_eq_true rfl) ⟨rfl, rfl, Nat.le_of_ble_eq_true rfl, Nat.le_of_ble_eq_true rfl, Nat.zero_le _, Nat.zero_le _⟩ dX5_find_175 hS (fun E10 H locs hp hM hS => ?_)
                obtain ⟨hC, fr⟩ := hp
                have hs := sk.kept hs (fr _ (by omega))
                have hk := rk.kept hk (fr _ (by omega))
                have h1 := isV.kept h1 (fr _ (by omega)) (fr _ (by omega))
                have h3 := isV.kept h3 (fr _ (by omega)) (fr _ (by omega))
                have h5 := isV.kept h5 (fr _ (by omega)) (fr _ (by omega))
                have h11 := isV.kept h11 (fr _ (by omega)) (fr _ (by omega))
                have hb7 := isW.kept hb7 (fr _ (by omega)) (fr _ (by omega))
                have hA := isW.kept hA (fr _ (by omega)) (fr _ (by omega))
                have hB := isV.kept hB (fr _ (by omega)) (fr _ (by omega))
                have hfr := (fun q h => (fr q (by omega)).trans (hfr q h) : ∀ q : Nat, ((q < o + 1 ∨ o + 13 ≤ q) ∧ (q < r + 1 ∨ r + 11 ≤ q) ∧ (q < b ∨ b + 2 ≤ q)) → E10 q = E0 q)
                have r1 := isV.kept r1 (fr _ (by omega)) (fr _ (by omega))
                have r3 := isV.kept r3 (fr _ (by omega)) (fr _ (by omega))
                have r5 := isV.kept r5 (fr _ (by omega)) (fr _ (by omega))
                have r7 := isV.kept r7 (fr _ (by omega)) (fr _ (by omega))
                have r9 := isV.kept r9 (fr _ (by omega)) (fr _ (by omega))
                have hAm := isW.kept hAm (fr _ (by omega)) (fr _ (by omega))
                refine lv_iinc (v := zI (((i + 1 : Nat) : Int))) (lv' := [(5, .int (zI (((i + 1 : Nat) : Int)))), (0, .ref (o)), (1, .int (zI ((kd : Int)))), (2, .int (zI ((k : Int)))), (3, .ref (a)), (4, .ref (b))]) C0.1 C0.2.1 dX5_find_178 hl (k := 5) rfl (z_inc (a := (i : Int)) (n := 1) (by omega)) (by decide) rfl (fun ls hl => ?_)
                refine lv_goto (tgt := 114) C0.1 C0.2.1 dX5_find_181 (by decide) ?_
                exact ih114  (i + 1) E10 _ _ _ (by omega) (fun j hj => if q : j = i then (by rw [q]; exact hnot) else hno j (by omega)) (hs) (hk) (h1) (h3) (h5) (h11) (hb7) (hC) (hA) (hB) (hfr) (r1) (r3) (r5) (r7) (r9) (by omega) hM hS (lv_sub hl [1, 2, 3, 4, 5, 0] rfl)
              · skip
                have hyes : shp kd k (t + i) = N := hce (by omega)
                refine lv_aload C0.1 C0.2.1 dX5_find_148 (lv_at hl 4 rfl) ?_
                refine lv_aload_n C0.1 C0.2.1 dX5_find_150 rfl (lv_at hl 0 rfl) ?_
                refine mm_get (fs := [.ref (r), .ref (o + 1), .ref (o + 3), .ref (o + 5), .ref (o + 7), .ref (o + 9), .ref (o + 11)]) C0 (C := RX5) (T := TX5) (N := 7) iG_X5 hM (hs) rfl 5 (by decide) tw_123 rfl rfl dX5_find_151 ?_
                refine mm_callVv (As := [.ref (o + 9)]) C0 vw_X8_copy tw_513 (c_X8_copy l G _ hB hC (by omega)) hM ((hB.obj).choose_spec) rfl rfl hl.1 rfl (Nat.le_of_ble_eq_true rfl) ⟨rfl, rfl, Nat.le_of_ble_eq_true rfl, Nat.le_of_ble_eq_true rfl, Nat.zero_le _, Nat.zero_le _⟩ dX5_find_154 hS (fun E11 H locs hp hM hS => ?_)
                obtain ⟨hBW, fr⟩ := hp
                have hs := sk.kept hs (fr _ (by omega))
                have hk := rk.kept hk (fr _ (by omega))
                have h1 := isV.kept h1 (fr _ (by omega)) (fr _ (by omega))
                have h3 := isV.kept h3 (fr _ (by omega)) (fr _ (by omega))
                have h5 := isV.kept h5 (fr _ (by omega)) (fr _ (by omega))
                have h11 := isV.kept h11 (fr _ (by omega)) (fr _ (by omega))
                have hb7 := isW.kept hb7 (fr _ (by omega)) (fr _ (by omega))
                have hC := isW.kept hC (fr _ (by omega)) (fr _ (by omega))
                have hA := isW.kept hA (fr _ (by omega)) (fr _ (by omega))
                have hfr := (fun q h => (fr q (by omega)).trans (hfr q h) : ∀ q : Nat, ((q < o + 1 ∨ o + 13 ≤ q) ∧ (q < r + 1 ∨ r + 11 ≤ q) ∧ (q < b ∨ b + 2 ≤ q)) → E11 q = E0 q)
                have r1 := isV.kept r1 (fr _ (by omega)) (fr _ (by omega))
                have r3 := isV.kept r3 (fr _ (by omega)) (fr _ (by omega))
                have r5 := isV.kept r5 (fr _ (by omega)) (fr _ (by omega))
                have r7 := isV.kept r7 (fr _ (by omega)) (fr _ (by omega))
                have r9 := isV.kept r9 (fr _ (by omega)) (fr _ (by omega))
                refine lv_iconst (v := zI 1) C0.1 C0.2.1 dX5_find_157 rfl ?_
                exact mm_zret (z := 1) C0 hr hlk hM hS (by omega) dX5_find_158 (⟨Or.inl ⟨t + i, rfl, hBW, hyes⟩, h1, h3, h5, hb7.v, hC.v, h11, r1, r3, r5, r7, r9, hfr⟩)
      exact L114 (_ + 1) 0 E3 _ _ _ (Nat.zero_le _) (fun j hj => absurd hj (Nat.not_lt_zero _)) (hs) (hk) (h1) (h3) (h5) (h11) (hb7) (hC) (hA) (hB) (hfr) (r1) (r3) (r5) (r7) (r9) (Nat.lt_succ_self _) hM hS (lv_sub hl [1, 2, 3, 4, 5, 0] rfl)
    refine lv_aload_n C0.1 C0.2.1 dX5_find_86 rfl (lv_at hl 0 rfl) ?_
    refine mm_get (fs := [.ref (r), .ref (o + 1), .ref (o + 3), .ref (o + 5), .ref (o + 7), .ref (o + 9), .ref (o + 11)]) C0 (C := RX5) (T := TX5) (N := 7) iG_X5 hM (hs) rfl 0 (by decide) tw_118 rfl rfl dX5_find_87 ?_
    refine lv_aload_n C0.1 C0.2.1 dX5_find_90 rfl (lv_at hl 0 rfl) ?_
    refine mm_get (fs := [.ref (r), .ref (o + 1), .ref (o + 3), .ref (o + 5), .ref (o + 7), .ref (o + 9), .ref (o + 11)]) C0 (C := RX5) (T := TX5) (N := 7) iG_X5 hM (hs) rfl 4 (by decide) tw_122 rfl rfl dX5_find_91 ?_
    refine lv_iload_n C0.1 C0.2.1 dX5_find_94 rfl (lv_at hl 1 rfl) ?_
    refine lv_iconst (v := zI 4) C0.1 C0.2.1 dX5_find_95 rfl ?_
    refine z_icmp_ne (tgt := 103) C0.1 C0.2.1 dX5_find_96 (by decide) ⟨by omega, by omega⟩ ⟨by omega, by omega⟩ (fun c_96 => ?_) (fun c_96 => ?_)
    · skip
      have hdeg : (if kd = 4 then 3 else 2) = 2 := if_neg (by omega)
      refine lv_iconst (v := zI 2) C0.1 C0.2.1 dX5_find_103 rfl ?_
      refine lv_aload_n C0.1 C0.2.1 dX5_find_104 rfl (lv_at hl 0 rfl) ?_
      refine mm_get (fs := [.ref (r), .ref (o + 1), .ref (o + 3), .ref (o + 5), .ref (o + 7), .ref (o + 9), .ref (o + 11)]) C0 (C := RX5) (T := TX5) (N := 7) iG_X5 hM (hs) rfl 5 (by decide) tw_123 rfl rfl dX5_find_105 ?_
      refine mm_callVv (As := [.ref (o + 7), .int (zI (2)), .ref (o + 9)]) C0 vw_X4_extract tw_531 (c_X4_extract l G _ 2 (by omega) hk r1 r3 r5 r7 r9 hb7 h9 (by omega) (by omega) (by omega) (by omega)) hM (hk) rfl rfl hl.1 rfl (Nat.le_of_ble_eq_true rfl) ⟨rfl, rfl, Nat.le_of_ble_eq_true rfl, Nat.le_of_ble_eq_true rfl, Nat.zero_le _, Nat.zero_le _⟩ dX5_find_108 hS (fun E12 H locs hp hM hS => ?_)
      obtain ⟨⟨t, hC, hrt⟩, r1, r3, r5, r7, r9, fr⟩ := hp
      have hs := sk.kept hs (fr _ (by omega))
      have hk := rk.kept hk (fr _ (by omega))
      have h1 := isV.kept h1 (fr _ (by omega)) (fr _ (by omega))
      have h3 := isV.kept h3 (fr _ (by omega)) (fr _ (by omega))
      have h5 := isV.kept h5 (fr _ (by omega)) (fr _ (by omega))
      have h11 := isV.kept h11 (fr _ (by omega)) (fr _ (by omega))
      have hb7 := isW.kept hb7 (fr _ (by omega)) (fr _ (by omega))
      have hA := isW.kept hA (fr _ (by omega)) (fr _ (by omega))
      have hB := isV.kept hB (fr _ (by omega)) (fr _ (by omega))
      have hfr := (fun q h => (fr q (by omega)).trans (hfr q h) : ∀ q : Nat, ((q < o + 1 ∨ o + 13 ≤ q) ∧ (q < r + 1 ∨ r + 11 ≤ q) ∧ (q < b ∨ b + 2 ≤ q)) → E12 q = E0 q)
      rw [← hdeg] at hrt
      have htn := rt_nl (by rw [hdeg]; omega) hrt hbn
      replace hrt : hid _ := hrt
      exact J111 t E12 _ _ _ (htn) (hrt) (hs) (hk) (h1) (h3) (h5) (h11) (hb7) (hC) (hA) (hB) (hfr) (r1) (r3) (r5) (r7) (r9) hM hS (lv_sub hl [0, 1, 2, 3, 4] rfl)
    · skip
      have hdeg : (if kd = 4 then 3 else 2) = 3 := if_pos (by omega)
      refine lv_iconst (v := zI 3) C0.1 C0.2.1 dX5_find_99 rfl ?_
      refine lv_goto (tgt := 104) C0.1 C0.2.1 dX5_find_100 (by decide) ?_
      refine lv_aload_n C0.1 C0.2.1 dX5_find_104 rfl (lv_at hl 0 rfl) ?_
      refine mm_get (fs := [.ref (r), .ref (o + 1), .ref (o + 3), .ref (o + 5), .ref (o + 7), .ref (o + 9), .ref (o + 11)]) C0 (C := RX5) (T := TX5) (N := 7) iG_X5 hM (hs) rfl 5 (by decide) tw_123 rfl rfl dX5_find_105 ?_
      refine mm_callVv (As := [.ref (o + 7), .int (zI (3)), .ref (o + 9)]) C0 vw_X4_extract tw_531 (c_X4_extract l G _ 3 (by omega) hk r1 r3 r5 r7 r9 hb7 h9 (by omega) (by omega) (by omega) (by omega)) hM (hk) rfl rfl hl.1 rfl (Nat.le_of_ble_eq_true rfl) ⟨rfl, rfl, Nat.le_of_ble_eq_true rfl, Nat.le_of_ble_eq_true rfl, Nat.zero_le _, Nat.zero_le _⟩ dX5_find_108 hS (fun E13 H locs hp hM hS => ?_)
      obtain ⟨⟨t, hC, hrt⟩, r1, r3, r5, r7, r9, fr⟩ := hp
      have hs := sk.kept hs (fr _ (by omega))
      have hk := rk.kept hk (fr _ (by omega))
      have h1 := isV.kept h1 (fr _ (by omega)) (fr _ (by omega))
      have h3 := isV.kept h3 (fr _ (by omega)) (fr _ (by omega))
      have h5 := isV.kept h5 (fr _ (by omega)) (fr _ (by omega))
      have h11 := isV.kept h11 (fr _ (by omega)) (fr _ (by omega))
      have hb7 := isW.kept hb7 (fr _ (by omega)) (fr _ (by omega))
      have hA := isW.kept hA (fr _ (by omega)) (fr _ (by omega))
      have hB := isV.kept hB (fr _ (by omega)) (fr _ (by omega))
      have hfr := (fun q h => (fr q (by omega)).trans (hfr q h) : ∀ q : Nat, ((q < o + 1 ∨ o + 13 ≤ q) ∧ (q < r + 1 ∨ r + 11 ≤ q) ∧ (q < b ∨ b + 2 ≤ q)) → E13 q = E0 q)
      rw [← hdeg] at hrt
      have htn := rt_nl (by rw [hdeg]; omega) hrt hbn
      replace hrt : hid _ := hrt
      exact J111 t E13 _ _ _ (htn) (hrt) (hs) (hk) (h1) (h3) (h5) (h11) (hb7) (hC) (hA) (hB) (hfr) (r1) (r3) (r5) (r7) (r9) hM hS (lv_sub hl [0, 1, 2, 3, 4] rfl)
  refine lv_iload_n C0.1 C0.2.1 dX5_find_8 rfl (lv_at hl 1 rfl) ?_
  refine lv_iconst (v := zI 1) C0.1 C0.2.1 dX5_find_9 rfl ?_
  refine z_icmp_ne (tgt := 27) C0.1 C0.2.1 dX5_find_10 (by decide) ⟨by omega, by omega⟩ ⟨by omega, by omega⟩ (fun c_10 => ?_) (fun c_10 => ?_)
  · skip
    have hk1 : kd ≠ 1 := by omega
    refine lv_iload_n C0.1 C0.2.1 dX5_find_27 rfl (lv_at hl 1 rfl) ?_
    refine lv_iconst (v := zI 3) C0.1 C0.2.1 dX5_find_28 rfl ?_
    refine z_icmp_ne (tgt := 58) C0.1 C0.2.1 dX5_find_29 (by decide) ⟨by omega, by omega⟩ ⟨by omega, by omega⟩ (fun c_29 => ?_) (fun c_29 => ?_)
    · skip
      have hk31 : kd ≠ 3 := by omega
      refine lv_iload_n C0.1 C0.2.1 dX5_find_58 rfl (lv_at hl 1 rfl) ?_
      refine lv_iconst (v := zI 4) C0.1 C0.2.1 dX5_find_59 rfl ?_
      refine z_icmp_ne (tgt := 86) C0.1 C0.2.1 dX5_find_60 (by decide) ⟨by omega, by omega⟩ ⟨by omega, by omega⟩ (fun c_60 => ?_) (fun c_60 => ?_)
      · skip
        have hkk : kd = 0 ∨ kd = 2 := by omega
        have hbe : N = shb kd k N := by unfold shb; rw [if_neg hk1, if_neg hk31, if_neg (by omega)]
        rw [hbe] at hb7
        exact J86  E1 _ _ _  (hs) (hk) (h1) (h3) (h5) (h9) (h11) (hb7) (hA) (hB) (hfr) (r1) (r3) (r5) (r7) (r9) hM hS (lv_sub hl [0, 1, 2, 3, 4] rfl)
      · skip
        have hkk : kd = 4 := by omega
        have hk33 := hk3 (by omega)
        have hbe : N * 6 / (k - 2) = shb kd k N := by rw [hkk]; rfl
        refine lv_aload_n C0.1 C0.2.1 dX5_find_63 rfl (lv_at hl 0 rfl) ?_
        refine mm_get (fs := [.ref (r), .ref (o + 1), .ref (o + 3), .ref (o + 5), .ref (o + 7), .ref (o + 9), .ref (o + 11)]) C0 (C := RX5) (T := TX5) (N := 7) iG_X5 hM (hs) rfl 4 (by decide) tw_122 rfl rfl dX5_find_64 ?_
        refine mm_ldc2 (z := 6) C0 tw_522 rfl dX5_find_67 ?_
        refine lv_lconst (v := zL 0) C0.1 C0.2.1 dX5_find_70 rfl ?_
        refine mm_callVv (As := [.long (zL (6)), .long (zL (0))]) C0 vw_X8_scale tw_514 (c_X8_scale l G _ 6 0 rfl rfl hb7 (by omega) (by omega) (by omega)) hM (hb7.obj) rfl rfl hl.1 rfl (Nat.le_of_ble_eq_true rfl) ⟨rfl, rfl, Nat.le_of_ble_eq_true rfl, Nat.le_of_ble_eq_true rfl, Nat.zero_le _, Nat.zero_le _⟩ dX5_find_71 hS (fun E14 H locs hp hM hS => ?_)
        obtain ⟨hb7, fr⟩ := hp
        have hs := sk.kept hs (fr _ (by omega))
        have hk := rk.kept hk (fr _ (by omega))
        have h1 := isV.kept h1 (fr _ (by omega)) (fr _ (by omega))
        have h3 := isV.kept h3 (fr _ (by omega)) (fr _ (by omega))
        have h5 := isV.kept h5 (fr _ (by omega)) (fr _ (by omega))
        have h9 := isV.kept h9 (fr _ (by omega)) (fr _ (by omega))
        have h11 := isV.kept h11 (fr _ (by omega)) (fr _ (by omega))
        have hA := isW.kept hA (fr _ (by omega)) (fr _ (by omega))
        have hB := isV.kept hB (fr _ (by omega)) (fr _ (by omega))
        have hfr := (fun q h => (fr q (by omega)).trans (hfr q h) : ∀ q : Nat, ((q < o + 1 ∨ o + 13 ≤ q) ∧ (q < r + 1 ∨ r + 11 ≤ q) ∧ (q < b ∨ b + 2 ≤ q)) → E14 q = E0 q)
        have r1 := isV.kept r1 (fr _ (by omega)) (fr _ (by omega))
        have r3 := isV.kept r3 (fr _ (by omega)) (fr _ (by omega))
        have r5 := isV.kept r5 (fr _ (by omega)) (fr _ (by omega))
        have r7 := isV.kept r7 (fr _ (by omega)) (fr _ (by omega))
        have r9 := isV.kept r9 (fr _ (by omega)) (fr _ (by omega))
        rw [Nat.add_zero (N * 6)] at hb7
        refine lv_aload_n C0.1 C0.2.1 dX5_find_74 rfl (lv_at hl 0 rfl) ?_
        refine mm_get (fs := [.ref (r), .ref (o + 1), .ref (o + 3), .ref (o + 5), .ref (o + 7), .ref (o + 9), .ref (o + 11)]) C0 (C := RX5) (T := TX5) (N := 7) iG_X5 hM (hs) rfl 4 (by decide) tw_122 rfl rfl dX5_find_75 ?_
        refine lv_iload_n C0.1 C0.2.1 dX5_find_78 rfl (lv_at hl 2 rfl) ?_
        refine lv_iconst (v := zI 2) C0.1 C0.2.1 dX5_find_79 rfl ?_
        refine z_isub C0.1 C0.2.1 dX5_find_80 ?_
        refine z_i2l C0.1 C0.2.1 dX5_find_81 ⟨by omega, by omega⟩ ?_
        refine z_asL (a := (((k : Int)) - (2))) (b := ((k - 2 : Nat) : Int)) (by omega) ?_
        refine mm_callVl (As := [.long (zL (((k - 2 : Nat) : Int)))]) C0 vw_X8_shrink tw_521 (c_X8_shrink l G _ (k - 2) rfl hb7 (by omega) (by omega)) hM (hb7.obj) rfl rfl hl.1 rfl (Nat.le_of_ble_eq_true rfl) ⟨rfl, rfl, Nat.le_of_ble_eq_true rfl, Nat.le_of_ble_eq_true rfl, Nat.zero_le _, Nat.zero_le _⟩ dX5_find_82 hS (fun z_82 E15 H locs hp hM hS => ?_)
        obtain ⟨hz9, hb7, fr⟩ := hp
        have hs := sk.kept hs (fr _ (by omega))
        have hk := rk.kept hk (fr _ (by omega))
        have h1 := isV.kept h1 (fr _ (by omega)) (fr _ (by omega))
        have h3 := isV.kept h3 (fr _ (by omega)) (fr _ (by omega))
        have h5 := isV.kept h5 (fr _ (by omega)) (fr _ (by omega))
        have h9 := isV.kept h9 (fr _ (by omega)) (fr _ (by omega))
        have h11 := isV.kept h11 (fr _ (by omega)) (fr _ (by omega))
        have hA := isW.kept hA (fr _ (by omega)) (fr _ (by omega))
        have hB := isV.kept hB (fr _ (by omega)) (fr _ (by omega))
        have hfr := (fun q h => (fr q (by omega)).trans (hfr q h) : ∀ q : Nat, ((q < o + 1 ∨ o + 13 ≤ q) ∧ (q < r + 1 ∨ r + 11 ≤ q) ∧ (q < b ∨ b + 2 ≤ q)) → E15 q = E0 q)
        have r1 := isV.kept r1 (fr _ (by omega)) (fr _ (by omega))
        have r3 := isV.kept r3 (fr _ (by omega)) (fr _ (by omega))
        have r5 := isV.kept r5 (fr _ (by omega)) (fr _ (by omega))
        have r7 := isV.kept r7 (fr _ (by omega)) (fr _ (by omega))
        have r9 := isV.kept r9 (fr _ (by omega)) (fr _ (by omega))
        rw [hbe] at hb7
        refine lv_pop2_2 C0.1 C0.2.1 dX5_find_85 rfl ?_
        exact J86  E15 _ _ _  (hs) (hk) (h1) (h3) (h5) (h9) (h11) (hb7) (hA) (hB) (hfr) (r1) (r3) (r5) (r7) (r9) hM hS (lv_sub hl [0, 1, 2, 3, 4] rfl)
    · skip
      have hkk : kd = 3 := by omega
      have hk33 := hk3 (by omega)
      have hbe : N * 2 / (k - 2) = shb kd k N := by rw [hkk]; rfl
      refine lv_aload_n C0.1 C0.2.1 dX5_find_32 rfl (lv_at hl 0 rfl) ?_
      refine mm_get (fs := [.ref (r), .ref (o + 1), .ref (o + 3), .ref (o + 5), .ref (o + 7), .ref (o + 9), .ref (o + 11)]) C0 (C := RX5) (T := TX5) (N := 7) iG_X5 hM (hs) rfl 4 (by decide) tw_122 rfl rfl dX5_find_33 ?_
      refine mm_ldc2 (z := 2) C0 tw_520 rfl dX5_find_36 ?_
      refine lv_lconst (v := zL 0) C0.1 C0.2.1 dX5_find_39 rfl ?_
      refine mm_callVv (As := [.long (zL (2)), .long (zL (0))]) C0 vw_X8_scale tw_514 (c_X8_scale l G _ 2 0 rfl rfl hb7 (by omega) (by omega) (by omega)) hM (hb7.obj) rfl rfl hl.1 rfl (Nat.le_of_ble_eq_true rfl) ⟨rfl, rfl, Nat.le_of_ble_eq_true rfl, Nat.le_of_ble_eq_true rfl, Nat.zero_le _, Nat.zero_le _⟩ dX5_find_40 hS (fun E16 H locs hp hM hS => ?_)
      obtain ⟨hb7, fr⟩ := hp
      have hs := sk.kept hs (fr _ (by omega))
      have hk := rk.kept hk (fr _ (by omega))
      have h1 := isV.kept h1 (fr _ (by omega)) (fr _ (by omega))
      have h3 := isV.kept h3 (fr _ (by omega)) (fr _ (by omega))
      have h5 := isV.kept h5 (fr _ (by omega)) (fr _ (by omega))
      have h9 := isV.kept h9 (fr _ (by omega)) (fr _ (by omega))
      have h11 := isV.kept h11 (fr _ (by omega)) (fr _ (by omega))
      have hA := isW.kept hA (fr _ (by omega)) (fr _ (by omega))
      have hB := isV.kept hB (fr _ (by omega)) (fr _ (by omega))
      have hfr := (fun q h => (fr q (by omega)).trans (hfr q h) : ∀ q : Nat, ((q < o + 1 ∨ o + 13 ≤ q) ∧ (q < r + 1 ∨ r + 11 ≤ q) ∧ (q < b ∨ b + 2 ≤ q)) → E16 q = E0 q)
      have r1 := isV.kept r1 (fr _ (by omega)) (fr _ (by omega))
      have r3 := isV.kept r3 (fr _ (by omega)) (fr _ (by omega))
      have r5 := isV.kept r5 (fr _ (by omega)) (fr _ (by omega))
      have r7 := isV.kept r7 (fr _ (by omega)) (fr _ (by omega))
      have r9 := isV.kept r9 (fr _ (by omega)) (fr _ (by omega))
      rw [Nat.add_zero (N * 2)] at hb7
      refine lv_aload_n C0.1 C0.2.1 dX5_find_43 rfl (lv_at hl 0 rfl) ?_
      refine mm_get (fs := [.ref (r), .ref (o + 1), .ref (o + 3), .ref (o + 5), .ref (o + 7), .ref (o + 9), .ref (o + 11)]) C0 (C := RX5) (T := TX5) (N := 7) iG_X5 hM (hs) rfl 4 (by decide) tw_122 rfl rfl dX5_find_44 ?_
      refine lv_iload_n C0.1 C0.2.1 dX5_find_47 rfl (lv_at hl 2 rfl) ?_
      refine lv_iconst (v := zI 2) C0.1 C0.2.1 dX5_find_48 rfl ?_
      refine z_isub C0.1 C0.2.1 dX5_find_49 ?_
      refine z_i2l C0.1 C0.2.1 dX5_find_50 ⟨by omega, by omega⟩ ?_
      refine z_asL (a := (((k : Int)) - (2))) (b := ((k - 2 : Nat) : Int)) (by omega) ?_
      refine mm_callVl (As := [.long (zL (((k - 2 : Nat) : Int)))]) C0 vw_X8_shrink tw_521 (c_X8_shrink l G _ (k - 2) rfl hb7 (by omega) (by omega)) hM (hb7.obj) rfl rfl hl.1 rfl (Nat.le_of_ble_eq_true rfl) ⟨rfl, rfl, Nat.le_of_ble_eq_true rfl, Nat.le_of_ble_eq_true rfl, Nat.zero_le _, Nat.zero_le _⟩ dX5_find_51 hS (fun z_51 E17 H locs hp hM hS => ?_)
      obtain ⟨hz9, hb7, fr⟩ := hp
      have hs := sk.kept hs (fr _ (by omega))
      have hk := rk.kept hk (fr _ (by omega))
      have h1 := isV.kept h1 (fr _ (by omega)) (fr _ (by omega))
      have h3 := isV.kept h3 (fr _ (by omega)) (fr _ (by omega))
      have h5 := isV.kept h5 (fr _ (by omega)) (fr _ (by omega))
      have h9 := isV.kept h9 (fr _ (by omega)) (fr _ (by omega))
      have h11 := isV.kept h11 (fr _ (by omega)) (fr _ (by omega))
      have hA := isW.kept hA (fr _ (by omega)) (fr _ (by omega))
      have hB := isV.kept hB (fr _ (by omega)) (fr _ (by omega))
      have hfr := (fun q h => (fr q (by omega)).trans (hfr q h) : ∀ q : Nat, ((q < o + 1 ∨ o + 13 ≤ q) ∧ (q < r + 1 ∨ r + 11 ≤ q) ∧ (q < b ∨ b + 2 ≤ q)) → E17 q = E0 q)
      have r1 := isV.kept r1 (fr _ (by omega)) (fr _ (by omega))
      have r3 := isV.kept r3 (fr _ (by omega)) (fr _ (by omega))
      have r5 := isV.kept r5 (fr _ (by omega)) (fr _ (by omega))
      have r7 := isV.kept r7 (fr _ (by omega)) (fr _ (by omega))
      have r9 := isV.kept r9 (fr _ (by omega)) (fr _ (by omega))
      rw [hbe] at hb7
      refine lv_pop2_2 C0.1 C0.2.1 dX5_find_54 rfl ?_
      refine lv_goto (tgt := 86) C0.1 C0.2.1 dX5_find_55 (by decide) ?_
      exact J86  E17 _ _ _  (hs) (hk) (h1) (h3) (h5) (h9) (h11) (hb7) (hA) (hB) (hfr) (r1) (r3) (r5) (r7) (r9) hM hS (lv_sub hl [0, 1, 2, 3, 4] rfl)
  · skip
    have hkk : kd = 1 := by omega
    have hbe : N * 2 = shb kd k N := by rw [hkk]; rfl
    refine lv_aload_n C0.1 C0.2.1 dX5_find_13 rfl (lv_at hl 0 rfl) ?_
    refine mm_get (fs := [.ref (r), .ref (o + 1), .ref (o + 3), .ref (o + 5), .ref (o + 7), .ref (o + 9), .ref (o + 11)]) C0 (C := RX5) (T := TX5) (N := 7) iG_X5 hM (hs) rfl 4 (by decide) tw_122 rfl rfl dX5_find_14 ?_
    refine mm_ldc2 (z := 2) C0 tw_520 rfl dX5_find_17 ?_
    refine lv_lconst (v := zL 0) C0.1 C0.2.1 dX5_find_20 rfl ?_
    refine mm_callVv (As := [.long (zL (2)), .long (zL (0))]) C0 vw_X8_scale tw_514 (c_X8_scale l G _ 2 0 rfl rfl hb7 (by omega) (by omega) (by omega)) hM (hb7.obj) rfl rfl hl.1 rfl (Nat.le_of_ble_eq_true rfl) ⟨rfl, rfl, Nat.le_of_ble_eq_true rfl, Nat.le_of_ble_eq_true rfl, Nat.zero_le _, Nat.zero_le _⟩ dX5_find_21 hS (fun E18 H locs hp hM hS => ?_)
    obtain ⟨hb7, fr⟩ := hp
    have hs := sk.kept hs (fr _ (by omega))
    have hk := rk.kept hk (fr _ (by omega))
    have h1 := isV.kept h1 (fr _ (by omega)) (fr _ (by omega))
    have h3 := isV.kept h3 (fr _ (by omega)) (fr _ (by omega))
    have h5 := isV.kept h5 (fr _ (by omega)) (fr _ (by omega))
    have h9 := isV.kept h9 (fr _ (by omega)) (fr _ (by omega))
    have h11 := isV.kept h11 (fr _ (by omega)) (fr _ (by omega))
    have hA := isW.kept hA (fr _ (by omega)) (fr _ (by omega))
    have hB := isV.kept hB (fr _ (by omega)) (fr _ (by omega))
    have hfr := (fun q h => (fr q (by omega)).trans (hfr q h) : ∀ q : Nat, ((q < o + 1 ∨ o + 13 ≤ q) ∧ (q < r + 1 ∨ r + 11 ≤ q) ∧ (q < b ∨ b + 2 ≤ q)) → E18 q = E0 q)
    have r1 := isV.kept r1 (fr _ (by omega)) (fr _ (by omega))
    have r3 := isV.kept r3 (fr _ (by omega)) (fr _ (by omega))
    have r5 := isV.kept r5 (fr _ (by omega)) (fr _ (by omega))
    have r7 := isV.kept r7 (fr _ (by omega)) (fr _ (by omega))
    have r9 := isV.kept r9 (fr _ (by omega)) (fr _ (by omega))
    rw [Nat.add_zero (N * 2), hbe] at hb7
    refine lv_goto (tgt := 86) C0.1 C0.2.1 dX5_find_24 (by decide) ?_
    exact J86  E18 _ _ _  (hs) (hk) (h1) (h3) (h5) (h9) (h11) (hb7) (hA) (hB) (hfr) (r1) (r3) (r5) (r7) (r9) hM hS (lv_sub hl [0, 1, 2, 3, 4] rfl)
