/-! THE CLAIM OUT OF ONE WALK OF THE LAW'S BODY. Your part is whole_start (and what it stands on); all else here is the same for every law, but numbers. -/
def R_law : String := "OrangeHeapsLaw"
def lw_P (b : Addr) (xs : List Int32) (args : Array Value) (s : State) : Prop := args = #[.ref b] ∧ s.IntsAt b xs ∧ xs.length ≤ 3072 ∧ (Jvm.Cond.and given_1 narrow_1).before args s = true
def lw_Q (_ : Array Value) (s : State) (o : Outcome) (t : State) : Prop := o = .returned (some (.int 1)) ∧ Framed s o t [] 600000 7302250
def lw_Z (below : List Frame) (a : Array Value) (s : State) : State → Prop := fun t => ∃ o, t.status = .running ∧ Ended t below o ∧ lw_Q a s o t
/-- the law's own end, with 1 on the stack, nothing written that was there before, its room as the claim has it -/
theorem lw_ret {p : Program} {l : Launch} {e : Env} {s : State} {m : MethodId} {below : List Frame} {meth : Method} {c : Code} {b : Nat} (hx : p.tables.exec = Jvm.exec) (hb : c.code = code) (hr : meth.sig.returnType = ret) (hlocks : meth.locks = false) {pc : Nat} {H : Heap} {ls : Array Slot} (hdg : decode code pc = .ok (.ireturn, 1)) : W p l e room_1 s m #[Value.ref b] below meth c H [] 600000 7302250 (lw_Z below #[Value.ref b] s) (F0 m pc ls [.int 1]) := by
  intro T hT X
  obtain ⟨fs, hret, hrun, hended, hW, hframe⟩ := X.leave (v := some (.int 1)) (hlocks := hlocks) (fun h => by rw [hr] at h; cases h)
  have hmeth' : T.vm.method? m = some meth := X.method'
  refine ⟨T.setFrames fs, ?_, .returned (some (.int 1)), hrun, hended, rfl, ⟨_, rfl⟩, hW, hframe⟩
  jvm_step X.here [X.here.top, hx, hb, hdg, hmeth', hr, ret, narrow_b1]
  (try refine ⟨rfl, ?_⟩); (try refine ⟨rfl, ?_⟩)
  first | (intro acts; rw [hret _ acts rfl rfl rfl]) | rw [hret _ _ rfl rfl rfl]
  exact Steps.refl _
/-- what holds at the law's entry: the machine, the code, the tables' words (any of lw_tbl by 'hts w (by decide +kernel)'), the script of L ints xs at the cell b, what the Statement gives of the start (any of its parts by flat_of_before) -/
def lw_At (p : Program) (s : State) (m : MethodId) (meth : Method) (c : Code) (b L : Nat) (xs : Nat → Int32) : Prop :=
  p.tables.exec = Jvm.exec ∧ c.code = code ∧ meth.sig.returnType = ret ∧ c.maxLocals = 4 ∧ s.vm.findClass R_law = some m.cls ∧ (∀ w ∈ lw_tbl, w.before #[Value.ref b] s = true) ∧ va_X b L xs s s.heap ∧ b < s.heap.size ∧ meth.locks = false ∧ (Jvm.Cond.and given_1 narrow_1).before #[Value.ref b] s = true
theorem lw_sub6 {L i : Nat} (hL : L ≤ 3072) (hi : i ≤ 3072) : (nI L - Int32.ofInt 6 < nI i) ↔ L < i + 6 := by
  have e1 : nI L - Int32.ofInt 6 = zI ((L : Int) - 6) := by
    rw [zI_sub]
    have : nI L = zI (L : Int) := Int32.toInt_inj.mp (by rw [nI_toInt (by omega), zI_toInt ⟨by omega, by omega⟩])
    rw [this]; rfl
  rw [e1, Int32.lt_iff_toInt_lt, zI_toInt ⟨by omega, by omega⟩, nI_toInt (by omega)]
  omega
set_option maxHeartbeats 4000000 in
theorem law_loop {p : Program} {l : Launch} {e : Env} {s : State} {m : MethodId} {below : List Frame} {meth : Method} {c : Code} {G : mG} {b L : Nat} {xs : Nat → Int32} (B0 : lwB G p s m c b L xs) (hr : meth.sig.returnType = ret) (hlocks : meth.locks = false) (hG : G.2.2 = s.heap.size) {hx hm : Nat} (hap : hx + 106 ≤ hm) : ∀ (n i : Nat), L + 1 ≤ i + n → i ≤ L → ∀ (S : mST) (E : mE) (H : Heap) (locs : List Loc) (ls : Array Slot), st G E hx S → rf G E hm S → mm_M G E H → va_S (mm_A G) s.heap H locs → lv_has ls 4 [(0, .ref b), (1, .ref hx), (2, .ref hm), (3, .int (nI i))] → W p l e room_1 s m #[Value.ref b] below meth c H locs 119 4616 (lw_Z below #[Value.ref b] s) (F0 m 18 ls []) := by
  obtain ⟨C0, hX, hbl, hbA, hL⟩ := id B0
  intro n
  induction n with
  | zero => intro i h1 h2; exact absurd h1 (by omega)
  | succ n ih =>
    intro i hn hi S E H locs ls h1 h2 hM hS hl
    refine lv_iload_n C0.1 C0.2.1 dL_law_18 rfl (lv_at hl 3 rfl) ?_
    refine lv_aload_n C0.1 C0.2.1 dL_law_19 rfl (lv_at hl 0 rfl) ?_
    refine va_slen C0.1 C0.2.1 hX hbl hbA hS dL_law_20 ?_
    refine lv_bipush (v := Int32.ofInt 6) C0.1 C0.2.1 dL_law_21 rfl ?_
    refine lv_isub C0.1 C0.2.1 dL_law_23 ?_
    refine lv_icmp_gt (tgt := 1583) C0.1 C0.2.1 dL_law_24 (by decide) (fun c_5 => ?_) (fun c_5 => ?_)
    · refine lv_iconst (v := 1) C0.1 C0.2.1 dL_law_1583 rfl ?_
      refine va_forget (fun q hq => by rw [← hG]; exact hS.2.2 q hq) ?_
      refine W.widen (k := 600000) (n := 7302250) (Nat.le_of_ble_eq_true rfl) (Nat.le_of_ble_eq_true rfl) ?_
      exact lw_ret C0.1 C0.2.1 hr hlocks dL_law_1584
    · have hi6 : i + 6 ≤ L := by
        have := mt (lw_sub6 (L := L) (i := i) hL (by omega)).mpr c_5
        omega
      have K : ∀ (S1 : mST) (E1 : mE) (H1 : Heap) (locs1 : List Loc), st G E1 hx S1 → rf G E1 hm S1 → mm_M G E1 H1 → va_S (mm_A G) s.heap H1 locs1 → W p l e room_1 s m #[Value.ref b] below meth c H1 locs1 119 4616 (lw_Z below #[Value.ref b] s) (F0 m 1577 ls []) := by
        intro S1 E1 H1 locs1 h1 h2 hM hS
        refine lv_iinc (v := nI (i + 6)) (lv' := [(3, .int (nI (i + 6))), (0, .ref b), (1, .ref hx), (2, .ref hm)]) C0.1 C0.2.1 dL_law_1577 hl (k := 3) rfl (nI_add i 6) (by decide) rfl (fun ls hl => ?_)
        refine lv_goto (tgt := 18) C0.1 C0.2.1 dL_law_1580 (by decide) ?_
        exact ih (i + 6) (by omega) (by omega) S1 E1 H1 locs1 ls h1 h2 hM hS (lv_sub hl [1, 2, 3, 0] rfl)
      refine lv_aload_n C0.1 C0.2.1 dL_law_27 rfl (lv_at hl 0 rfl) ?_
      refine lv_iload_n C0.1 C0.2.1 dL_law_28 rfl (lv_at hl 3 rfl) ?_
      refine va_sld C0.1 C0.2.1 hX hbl hbA hS (vp_in_nI (by omega) (by omega)) dL_law_29 ?_
      refine lv_bipush (v := 63) C0.1 C0.2.1 dL_law_30 rfl ?_
      refine lv_iand C0.1 C0.2.1 dL_law_32 ?_
      generalize xs (nI i).toNatClampNeg &&& 63 = v
      by_cases hv : v.toInt < 0 ∨ 36 < v.toInt
      · exact lv_tableOut (tgt := 1577) C0.1 C0.2.1 dL_law_33 hv (by decide) (K S E H locs h1 h2 hM hS)
      · rcases (show v.toInt = 0 ∨ v.toInt = 1 ∨ v.toInt = 2 ∨ v.toInt = 3 ∨ v.toInt = 4 ∨ v.toInt = 5 ∨ v.toInt = 6 ∨ v.toInt = 7 ∨ v.toInt = 8 ∨ v.toInt = 9 ∨ v.toInt = 10 ∨ v.toInt = 11 ∨ v.toInt = 12 ∨ v.toInt = 13 ∨ v.toInt = 14 ∨ v.toInt = 15 ∨ v.toInt = 16 ∨ v.toInt = 17 ∨ v.toInt = 18 ∨ v.toInt = 19 ∨ v.toInt = 20 ∨ v.toInt = 21 ∨ v.toInt = 22 ∨ v.toInt = 23 ∨ v.toInt = 24 ∨ v.toInt = 25 ∨ v.toInt = 26 ∨ v.toInt = 27 ∨ v.toInt = 28 ∨ v.toInt = 29 ∨ v.toInt = 30 ∨ v.toInt = 31 ∨ v.toInt = 32 ∨ v.toInt = 33 ∨ v.toInt = 34 ∨ v.toInt = 35 ∨ v.toInt = 36 by omega) with hv | hv | hv | hv | hv | hv | hv | hv | hv | hv | hv | hv | hv | hv | hv | hv | hv | hv | hv | hv | hv | hv | hv | hv | hv | hv | hv | hv | hv | hv | hv | hv | hv | hv | hv | hv | hv
        · exact lv_tableIn (off := 163) (tgt := 196) C0.1 C0.2.1 dL_law_33 (by rw [hv]; decide) (by rw [hv]; decide) (by rw [hv]; rfl) (by decide) (lw_case0 B0 hi6 hap h1 h2 hM hS hl K)
        · exact lv_tableIn (off := 226) (tgt := 259) C0.1 C0.2.1 dL_law_33 (by rw [hv]; decide) (by rw [hv]; decide) (by rw [hv]; rfl) (by decide) (lw_case1 B0 hi6 hap h1 h2 hM hS hl K)
        · exact lv_tableIn (off := 269) (tgt := 302) C0.1 C0.2.1 dL_law_33 (by rw [hv]; decide) (by rw [hv]; decide) (by rw [hv]; rfl) (by decide) (lw_case2 B0 hi6 hap h1 h2 hM hS hl K)
        · exact lv_tableIn (off := 292) (tgt := 325) C0.1 C0.2.1 dL_law_33 (by rw [hv]; decide) (by rw [hv]; decide) (by rw [hv]; rfl) (by decide) (lw_case3 B0 hi6 hap h1 h2 hM hS hl K)
        · exact lv_tableIn (off := 315) (tgt := 348) C0.1 C0.2.1 dL_law_33 (by rw [hv]; decide) (by rw [hv]; decide) (by rw [hv]; rfl) (by decide) (lw_case4 B0 hi6 hap h1 h2 hM hS hl K)
        · exact lv_tableIn (off := 378) (tgt := 411) C0.1 C0.2.1 dL_law_33 (by rw [hv]; decide) (by rw [hv]; decide) (by rw [hv]; rfl) (by decide) (lw_case5 B0 hi6 hap h1 h2 hM hS hl K)
        · exact lv_tableIn (off := 401) (tgt := 434) C0.1 C0.2.1 dL_law_33 (by rw [hv]; decide) (by rw [hv]; decide) (by rw [hv]; rfl) (by decide) (lw_case6 B0 hi6 hap h1 h2 hM hS hl K)
        · exact lv_tableIn (off := 424) (tgt := 457) C0.1 C0.2.1 dL_law_33 (by rw [hv]; decide) (by rw [hv]; decide) (by rw [hv]; rfl) (by decide) (lw_case7 B0 hi6 hap h1 h2 hM hS hl K)
        · exact lv_tableIn (off := 457) (tgt := 490) C0.1 C0.2.1 dL_law_33 (by rw [hv]; decide) (by rw [hv]; decide) (by rw [hv]; rfl) (by decide) (lw_case8 B0 hi6 hap h1 h2 hM hS hl K)
        · exact lv_tableIn (off := 510) (tgt := 543) C0.1 C0.2.1 dL_law_33 (by rw [hv]; decide) (by rw [hv]; decide) (by rw [hv]; rfl) (by decide) (lw_case9 B0 hi6 hap h1 h2 hM hS hl K)
        · exact lv_tableIn (off := 543) (tgt := 576) C0.1 C0.2.1 dL_law_33 (by rw [hv]; decide) (by rw [hv]; decide) (by rw [hv]; rfl) (by decide) (lw_case10 B0 hi6 hap h1 h2 hM hS hl K)
        · exact lv_tableIn (off := 576) (tgt := 609) C0.1 C0.2.1 dL_law_33 (by rw [hv]; decide) (by rw [hv]; decide) (by rw [hv]; rfl) (by decide) (lw_case11 B0 hi6 hap h1 h2 hM hS hl K)
        · exact lv_tableIn (off := 619) (tgt := 652) C0.1 C0.2.1 dL_law_33 (by rw [hv]; decide) (by rw [hv]; decide) (by rw [hv]; rfl) (by decide) (lw_case12 B0 hi6 hap h1 h2 hM hS hl K)
        · exact lv_tableIn (off := 662) (tgt := 695) C0.1 C0.2.1 dL_law_33 (by rw [hv]; decide) (by rw [hv]; decide) (by rw [hv]; rfl) (by decide) (lw_case13 B0 hi6 hap h1 h2 hM hS hl K)
        · exact lv_tableIn (off := 695) (tgt := 728) C0.1 C0.2.1 dL_law_33 (by rw [hv]; decide) (by rw [hv]; decide) (by rw [hv]; rfl) (by decide) (lw_case14 B0 hi6 hap h1 h2 hM hS hl K)
        · exact lv_tableIn (off := 738) (tgt := 771) C0.1 C0.2.1 dL_law_33 (by rw [hv]; decide) (by rw [hv]; decide) (by rw [hv]; rfl) (by decide) (lw_case15 B0 hi6 hap h1 h2 hM hS hl K)
        · exact lv_tableIn (off := 791) (tgt := 824) C0.1 C0.2.1 dL_law_33 (by rw [hv]; decide) (by rw [hv]; decide) (by rw [hv]; rfl) (by decide) (lw_case16 B0 hi6 hap h1 h2 hM hS hl K)
        · exact lv_tableIn (off := 814) (tgt := 847) C0.1 C0.2.1 dL_law_33 (by rw [hv]; decide) (by rw [hv]; decide) (by rw [hv]; rfl) (by decide) (lw_case17 B0 hi6 hap h1 h2 hM hS hl K)
        · exact lv_tableIn (off := 847) (tgt := 880) C0.1 C0.2.1 dL_law_33 (by rw [hv]; decide) (by rw [hv]; decide) (by rw [hv]; rfl) (by decide) (lw_case18 B0 hi6 hap h1 h2 hM hS hl K)
        · exact lv_tableIn (off := 900) (tgt := 933) C0.1 C0.2.1 dL_law_33 (by rw [hv]; decide) (by rw [hv]; decide) (by rw [hv]; rfl) (by decide) (lw_case19 B0 hi6 hap h1 h2 hM hS hl K)
        · exact lv_tableIn (off := 943) (tgt := 976) C0.1 C0.2.1 dL_law_33 (by rw [hv]; decide) (by rw [hv]; decide) (by rw [hv]; rfl) (by decide) (lw_case20 B0 hi6 hap h1 h2 hM hS hl K)
        · exact lv_tableIn (off := 996) (tgt := 1029) C0.1 C0.2.1 dL_law_33 (by rw [hv]; decide) (by rw [hv]; decide) (by rw [hv]; rfl) (by decide) (lw_case21 B0 hi6 hap h1 h2 hM hS hl K)
        · exact lv_tableIn (off := 1029) (tgt := 1062) C0.1 C0.2.1 dL_law_33 (by rw [hv]; decide) (by rw [hv]; decide) (by rw [hv]; rfl) (by decide) (lw_case22 B0 hi6 hap h1 h2 hM hS hl K)
        · exact lv_tableIn (off := 1062) (tgt := 1095) C0.1 C0.2.1 dL_law_33 (by rw [hv]; decide) (by rw [hv]; decide) (by rw [hv]; rfl) (by decide) (lw_case23 B0 hi6 hap h1 h2 hM hS hl K)
        · exact lv_tableIn (off := 1095) (tgt := 1128) C0.1 C0.2.1 dL_law_33 (by rw [hv]; decide) (by rw [hv]; decide) (by rw [hv]; rfl) (by decide) (lw_case24 B0 hi6 hap h1 h2 hM hS hl K)
        · exact lv_tableIn (off := 1118) (tgt := 1151) C0.1 C0.2.1 dL_law_33 (by rw [hv]; decide) (by rw [hv]; decide) (by rw [hv]; rfl) (by decide) (lw_case25 B0 hi6 hap h1 h2 hM hS hl K)
        · exact lv_tableIn (off := 1151) (tgt := 1184) C0.1 C0.2.1 dL_law_33 (by rw [hv]; decide) (by rw [hv]; decide) (by rw [hv]; rfl) (by decide) (lw_case26 B0 hi6 hap h1 h2 hM hS hl K)
        · exact lv_tableIn (off := 1184) (tgt := 1217) C0.1 C0.2.1 dL_law_33 (by rw [hv]; decide) (by rw [hv]; decide) (by rw [hv]; rfl) (by decide) (lw_case27 B0 hi6 hap h1 h2 hM hS hl K)
        · exact lv_tableIn (off := 1217) (tgt := 1250) C0.1 C0.2.1 dL_law_33 (by rw [hv]; decide) (by rw [hv]; decide) (by rw [hv]; rfl) (by decide) (lw_case28 B0 hi6 hap h1 h2 hM hS hl K)
        · exact lv_tableIn (off := 1240) (tgt := 1273) C0.1 C0.2.1 dL_law_33 (by rw [hv]; decide) (by rw [hv]; decide) (by rw [hv]; rfl) (by decide) (lw_case29 B0 hi6 hap h1 h2 hM hS hl K)
        · exact lv_tableIn (off := 1253) (tgt := 1286) C0.1 C0.2.1 dL_law_33 (by rw [hv]; decide) (by rw [hv]; decide) (by rw [hv]; rfl) (by decide) (lw_case30 B0 hi6 hap h1 h2 hM hS hl K)
        · exact lv_tableIn (off := 1266) (tgt := 1299) C0.1 C0.2.1 dL_law_33 (by rw [hv]; decide) (by rw [hv]; decide) (by rw [hv]; rfl) (by decide) (lw_case31 B0 hi6 hap h1 h2 hM hS hl K)
        · exact lv_tableIn (off := 1279) (tgt := 1312) C0.1 C0.2.1 dL_law_33 (by rw [hv]; decide) (by rw [hv]; decide) (by rw [hv]; rfl) (by decide) (lw_case32 B0 hi6 hap h1 h2 hM hS hl K)
        · exact lv_tableIn (off := 1342) (tgt := 1375) C0.1 C0.2.1 dL_law_33 (by rw [hv]; decide) (by rw [hv]; decide) (by rw [hv]; rfl) (by decide) (lw_case33 B0 hi6 hap h1 h2 hM hS hl K)
        · exact lv_tableIn (off := 1385) (tgt := 1418) C0.1 C0.2.1 dL_law_33 (by rw [hv]; decide) (by rw [hv]; decide) (by rw [hv]; rfl) (by decide) (lw_case34 B0 hi6 hap h1 h2 hM hS hl K)
        · exact lv_tableIn (off := 1408) (tgt := 1441) C0.1 C0.2.1 dL_law_33 (by rw [hv]; decide) (by rw [hv]; decide) (by rw [hv]; rfl) (by decide) (lw_case35 B0 hi6 hap h1 h2 hM hS hl K)
        · exact lv_tableIn (off := 1491) (tgt := 1524) C0.1 C0.2.1 dL_law_33 (by rw [hv]; decide) (by rw [hv]; decide) (by rw [hv]; rfl) (by decide) (lw_case36 B0 hi6 hap h1 h2 hM hS hl K)
-- ===== YOUR PART BEGINS =====
set_option maxHeartbeats 4000000 in
theorem whole_start {p : Program} {e : Env} {s : State} {m : MethodId} {below : List Frame} {meth : Method} {c : Code} (l : Launch) (hflags : l.flags = flags0) {b L : Nat} {xs : Nat → Int32} (hL : L ≤ 3072) (C0 : lw_At p s m meth c b L xs) : W p l e room_1 s m #[Value.ref b] below meth c s.heap [] 0 0 (lw_Z below #[Value.ref b] s) (entryFrame m ([Value.ref b] : List Value).toArray 4) := by
  obtain ⟨hx, hb, hr, hml, hown, hts, hX, hbl, hlocks, hgv⟩ := C0
  have hw : ∀ w ∈ wsG, w.before #[Value.ref b] s = true := fun w h => hts w (wsG_tbl w h)
  have hg := flat_of_before _ hgv
  obtain ⟨c0, i0, k0⟩ := u_known (C := RX1) (T := TX1) (N := 8) (n := 8) hts (fun w h => wsG_tbl w (iG_X1 w h)) (hw _ tw_164)
  obtain ⟨c1, i1, k1⟩ := u_known (C := RX2) (T := TX2) (N := 5) (n := 5) hts (fun w h => wsG_tbl w (iG_X2 w h)) (hw _ tw_141)
  obtain ⟨c2, i2, k2⟩ := u_known (C := RX3) (T := TX3) (N := 3) (n := 3) hts (fun w h => wsG_tbl w (iG_X3 w h)) (hw _ tw_200)
  obtain ⟨c3, i3, k3⟩ := u_known (C := RX4) (T := TX4) (N := 5) (n := 5) hts (fun w h => wsG_tbl w (iG_X4 w h)) (hw _ tw_69)
  obtain ⟨c4, i4, k4⟩ := u_known (C := RX5) (T := TX5) (N := 7) (n := 7) hts (fun w h => wsG_tbl w (iG_X5 w h)) (hw _ tw_111)
  obtain ⟨c5, i5, k5⟩ := u_known (C := RX6) (T := TX6) (N := 3) (n := 3) hts (fun w h => wsG_tbl w (iG_X6 w h)) (hw _ tw_220)
  obtain ⟨c6, i6, k6⟩ := u_known (C := RX7) (T := TX7) (N := 8) (n := 8) hts (fun w h => wsG_tbl w (iG_X7 w h)) (hw _ tw_31)
  obtain ⟨c7, i7, k7⟩ := u_known (C := RX8) (T := TX8) (N := 2) (n := 2) hts (fun w h => wsG_tbl w (iG_X8 w h)) (hw _ tw_75)
  obtain ⟨c8, i8, k8⟩ := u_known (C := RX9) (T := TX9) (N := 11) (n := 11) hts (fun w h => wsG_tbl w (iG_X9 w h)) (hw _ tw_19)
  obtain ⟨c9, i9, k9⟩ := u_known (C := RX10) (T := TX10) (N := 20) (n := 20) hts (fun w h => wsG_tbl w (iG_X10 w h)) (hw _ tw_911)
  obtain ⟨dC, dI, hKc⟩ : ∃ (dC : Nat → ClassId) (dI : Nat → Nat → Nat), ∀ (k : Nat) (q : vw_C), vwCl[k]? = some q → u_Kn s q.1 q.2.1 q.2.2 (dC k) (dI k) := by
    refine ⟨fun k => match k with | 0 => c0 | 1 => c1 | 2 => c2 | 3 => c3 | 4 => c4 | 5 => c5 | 6 => c6 | 7 => c7 | 8 => c8 | _ => c9, fun k => match k with | 0 => i0 | 1 => i1 | 2 => i2 | 3 => i3 | 4 => i4 | 5 => i5 | 6 => i6 | 7 => i7 | 8 => i8 | _ => i9, ?_⟩
    intro k q hq
    match k, hq with
    | 0, hq => cases hq; exact k0
    | 1, hq => cases hq; exact k1
    | 2, hq => cases hq; exact k2
    | 3, hq => cases hq; exact k3
    | 4, hq => cases hq; exact k4
    | 5, hq => cases hq; exact k5
    | 6, hq => cases hq; exact k6
    | 7, hq => cases hq; exact k7
    | 8, hq => cases hq; exact k8
    | 9, hq => cases hq; exact k9
    | k + 10, hq => simp [vwCl] at hq
  obtain ⟨a0, kA0, p0, f0, g0, t0⟩ := Cond.arrayClass_spec (type := .long) (args := #[Value.ref b]) (first := s) (o := none) (s := s) (idx := []) (hw _ tw_91)
  obtain ⟨a1, kA1, p1, f1, g1, t1⟩ := Cond.arrayClass_spec (type := .int) (args := #[Value.ref b]) (first := s) (o := none) (s := s) (idx := []) (hw _ tw_67)
  have ho2 : (Cond.arrayOver (.object "OrangeHeaps$Place")).before #[Value.ref b] s = true := hts _ (List.mem_of_getElem? (i := 79) (by decide +kernel))
  have ho3 : (Cond.arrayOver (.object "OrangeHeaps$Sheet")).before #[Value.ref b] s = true := hts _ (List.mem_of_getElem? (i := 81) (by decide +kernel))
  obtain ⟨p2, a2, kA2, u2, -, g2, t2, f2⟩ := Cond.arrayOver_spec (n := "OrangeHeaps$Place") (args := #[Value.ref b]) (first := s) (o := none) (s := s) (idx := []) ho2
  obtain ⟨p3, a3, kA3, u3, -, g3, t3, f3⟩ := Cond.arrayOver_spec (n := "OrangeHeaps$Sheet") (args := #[Value.ref b]) (first := s) (o := none) (s := s) (idx := []) ho3
  have hA0 : ∀ a : Nat, a < s.heap.size → ¬ s.heap.size ≤ a := fun a h => Nat.not_le.mpr h
  have q1 : ∀ i : Nat, i < 1 → ((Cond.exactly (Term.string "OrangeHeaps$Tape" 76) "java/lang/String")).before #[Value.ref b] s = true := fun i _ => hg _ (by decide +kernel)
  have q2 : ∀ i : Nat, i < 1 → (Cond.eq (.field (Term.string "OrangeHeaps$Tape" 76) "java/lang/String" "coder" "B") (.int 0)).before #[Value.ref b] s = true := fun i _ => hg _ (by decide +kernel)
  have q3 : ∀ i : Nat, i < 1 → (Cond.arrayOf (.field (Term.string "OrangeHeaps$Tape" 76) "java/lang/String" "value" "[B") .byte).before #[Value.ref b] s = true := fun i _ => hg _ (by decide +kernel)
  have q4 : ∀ i : Nat, i < 1 → (Cond.eq (.length (.field (Term.string "OrangeHeaps$Tape" 76) "java/lang/String" "value" "[B")) (.int (Int32.ofNat (([5] : List Nat).getD i 0)))).before #[Value.ref b] s = true := by
    intro i hi
    obtain rfl : i = 0 := by omega
    exact hg _ (by decide +kernel)
  have q5 : ∀ i : Nat, i < 1 → ∀ j : Nat, j < ([5] : List Nat).getD i 0 → (Cond.eq (.elem (.field (Term.string "OrangeHeaps$Tape" 76) "java/lang/String" "value" "[B") (.int (Int32.ofNat j))) (.int ((([[115, 116, 111, 99, 104]] : List (List Int32)).getD i []).getD j 0))).before #[Value.ref b] s = true := by
    intro i hi j hj
    obtain rfl : i = 0 := by omega
    have hj5 : j < 5 := hj
    rcases (show j = 0 ∨ j = 1 ∨ j = 2 ∨ j = 3 ∨ j = 4 by omega) with rfl | rfl | rfl | rfl | rfl <;> exact hg _ (by decide +kernel)
  have q0 : ∀ i : Nat, i < 1 → ([5] : List Nat).getD i 0 < 2 ^ 31 := by
    intro i hi
    obtain rfl : i = 0 := by omega
    decide
  obtain ⟨adK, adV, hvS, hvE⟩ := vk_Sof (args := #[Value.ref b]) (s := s) (N := 1) (tm := fun _ => Term.string "OrangeHeaps$Tape" 76) (len := [5]) (byt := [[115, 116, 111, 99, 104]]) (A := fun q => s.heap.size ≤ q) q0 q1 q2 q3 q4 q5 (fun i j hi hj hij => absurd (show i = j by omega) hij) hA0
  obtain ⟨cA, e0, e1, e2, e3, e100, e101⟩ : ∃ cA : Nat → Nat, cA 0 = a0 ∧ cA 1 = a1 ∧ cA 2 = a2 ∧ cA 3 = a3 ∧ cA 100 = adK 0 ∧ cA 101 = adV 0 := ⟨fun k => if k = 0 then a0 else if k = 1 then a1 else if k = 2 then a2 else if k = 3 then a3 else if k = 100 then adK 0 else adV 0, rfl, rfl, rfl, rfl, rfl, rfl⟩
  subst e0 e1 e2 e3
  obtain ⟨G, hG⟩ : ∃ G : mG, G = ((dC, dI), cA, s.heap.size) := ⟨_, rfl⟩
  have hK : mm_K G s := by
    subst hG
    refine ⟨hKc, fun k q hk => ?_⟩
    match k, hk with
    | 0, hk => cases hk; exact ⟨fun n z => ⟨fun k h => (by cases h), kA0, g0, p0, t0⟩, f0⟩
    | 1, hk => cases hk; exact ⟨fun n z => ⟨fun k h => (by cases h), kA1, g1, p1, t1⟩, f1⟩
    | 2, hk => cases hk; exact ⟨fun n z => ⟨fun k h => (by cases h), kA2, g2, p2, t2⟩, kA2, p2, g2, t2, u2, f2⟩
    | 3, hk => cases hk; exact ⟨fun n z => ⟨fun k h => (by cases h), kA3, g3, p3, t3⟩, kA3, p3, g3, t3, u3, f3⟩
    | k + 4, hk => simp [mm_tys] at hk
  have hZ0 : (Term.static "java/lang/String" "COMPACT_STRINGS" "Z").eval #[Value.ref b] s none [] s = some (.int 1) := va_eqi (hg _ (by decide +kernel))
  have hkW : kW G s := by
    subst hG
    refine ⟨vk_R.of (A := #[Value.ref b]) (hts _ (List.mem_of_getElem? (i := 806) (by decide +kernel))) ?_, ⟨fun i hi => ?_, fun i j hi hj _ => by omega⟩, va_Zof (hts _ (List.mem_of_getElem? (i := 820) (by decide +kernel))) (hw _ tw_13) hZ0 hA0⟩
    · have h9 := hvE 0 (by decide)
      rw [← e100] at h9
      exact h9
    · obtain rfl : i = 0 := by omega
      have h9 := hvS.1 0 (by decide)
      rw [← e100, ← e101] at h9
      exact h9
  have hGs : G.2.2 = s.heap.size := by rw [hG]
  clear hG
  have C1 : mm_Cx G p s m #[Value.ref b] c code 4 RL := ⟨hx, hb, hml, hown, hw, hK, Nat.le_of_eq hGs, hkW⟩
  have ho : nAO s := ⟨va_AO.of ho2, va_AO.of ho3⟩
  have hM : mm_M G (fun _ => none) s.heap := fun q e h => by cases h
  have hS : va_S (mm_A G) s.heap s.heap [] := va_S.rf
  have hbA : ¬ mm_A G b := fun h => by have h9 : G.2.2 ≤ b := h; omega
  have hl := lv_entry ([.ref b]) (n := 4) (Nat.le_of_ble_eq_true rfl)
  rw [lg_entry_eq]
  generalize (lg_sl ([.ref b]) ++ List.replicate (4 - (lg_sl ([.ref b])).length) Slot.unset).toArray = ls at hl ⊢
  have hl : lv_has ls 4 [(0, .ref b)] := hl
  obtain ⟨hx0, hh0⟩ : ∃ q : Nat, s.heap.size = q := ⟨_, rfl⟩
  refine mm_newA (ci := 8) (fs := [.null, .null, .null, .null, .null, .null, .null, .null, .null, .null, .int 0]) C1 (C := RX9) (T := TX9) (N := 11) iG_X9 tyX9 tyX9_ok tw_18 tw_19 tw_1 hM hS rfl (fun j hj => by rcases (show j = 0 ∨ j = 1 ∨ j = 2 ∨ j = 3 ∨ j = 4 ∨ j = 5 ∨ j = 6 ∨ j = 7 ∨ j = 8 ∨ j = 9 ∨ j = 10 by omega) with rfl | rfl | rfl | rfl | rfl | rfl | rfl | rfl | rfl | rfl | rfl <;> rfl) hh0 (Nat.le_of_ble_eq_true rfl) (Nat.le_of_ble_eq_true rfl) dL_law_0 (fun H hM hS hz => ?_)
  refine lv_dup C1.1 C1.2.1 dL_law_3 rfl ?_
  refine mm_callI (y := yX9_init) (mc := 105) (ms := 2397) (rm := rX9_init) C1 ho iw_X9 tw_20 (As := []) (rest := [.ref hx0]) hz (c_X9_init l G _ (mm_up_s _ _ _)) hM rfl hl.1 rfl (Nat.le_of_ble_eq_true rfl) ⟨rfl, rfl, (Nat.le_of_ble_eq_true rfl), (Nat.le_of_ble_eq_true rfl)⟩ (Nat.le_of_ble_eq_true rfl) (Nat.le_of_ble_eq_true rfl) dL_law_4 hS (fun E1 H locs hp hM hS hz => ?_)
  obtain ⟨h1, hf1⟩ := hp
  refine lv_astore_n (lv' := [(1, .ref hx0), (0, .ref b)]) C1.1 C1.2.1 dL_law_7 rfl hl (by decide) rfl (fun ls hl => ?_)
  have hz : H.size = hx0 + 106 := hz.trans (by omega)
  refine mm_newA (ci := 9) (fs := [.null, .null, .null, .null, .int 0, .int 0, .long 0, .null, .null, .null, .null, .int 0, .int 0, .int 0, .int 0, .int 0, .null, .null, .null, .null]) C1 (C := RX10) (T := TX10) (N := 20) iG_X10 tyX10 tyX10_ok tw_910 tw_911 tw_10 hM hS rfl (fun j hj => by rcases (show j = 0 ∨ j = 1 ∨ j = 2 ∨ j = 3 ∨ j = 4 ∨ j = 5 ∨ j = 6 ∨ j = 7 ∨ j = 8 ∨ j = 9 ∨ j = 10 ∨ j = 11 ∨ j = 12 ∨ j = 13 ∨ j = 14 ∨ j = 15 ∨ j = 16 ∨ j = 17 ∨ j = 18 ∨ j = 19 by omega) with rfl | rfl | rfl | rfl | rfl | rfl | rfl | rfl | rfl | rfl | rfl | rfl | rfl | rfl | rfl | rfl | rfl | rfl | rfl | rfl <;> rfl) hz (Nat.le_of_ble_eq_true rfl) (Nat.le_of_ble_eq_true rfl) dL_law_8 (fun H hM hS hz => ?_)
  refine lv_dup C1.1 C1.2.1 dL_law_11 rfl ?_
  refine mm_callI (y := yX10_init) (mc := 12) (ms := 2188) (rm := rX10_init) C1 ho iw_X10 tw_912 (As := []) (rest := [.ref (hx0 + 106)]) hz (c_X10_init l G _ (mm_up_s _ _ _)) hM rfl hl.1 rfl (Nat.le_of_ble_eq_true rfl) ⟨rfl, rfl, (Nat.le_of_ble_eq_true rfl), (Nat.le_of_ble_eq_true rfl)⟩ (Nat.le_of_ble_eq_true rfl) (Nat.le_of_ble_eq_true rfl) dL_law_12 hS (fun E2 H locs hp hM hS hz => ?_)
  obtain ⟨h2, hf2⟩ := hp
  have h1 := st.kept h1 (fun q hq => (hf2 q (by omega)).trans (mm_up_n _ _ (by omega)))
  refine lv_astore_n (lv' := [(2, .ref (hx0 + 106)), (1, .ref hx0), (0, .ref b)]) C1.1 C1.2.1 dL_law_15 rfl hl (by decide) rfl (fun ls hl => ?_)
  refine lv_iconst (v := nI 0) C1.1 C1.2.1 dL_law_16 rfl ?_
  refine lv_istore_n (lv' := [(3, .int (nI 0)), (2, .ref (hx0 + 106)), (1, .ref hx0), (0, .ref b)]) C1.1 C1.2.1 dL_law_17 rfl hl (by decide) rfl (fun ls hl => ?_)
  refine W.widen (k := 119) (n := 4616) (Nat.le_of_ble_eq_true rfl) (Nat.le_of_ble_eq_true rfl) ?_
  exact law_loop ⟨C1, hX, hbl, hbA, hL⟩ hr hlocks hGs (Nat.le_refl _) (L + 1) 0 (by omega) (Nat.zero_le _) s0 E2 H locs ls h1 h2 hM hS (lv_sub hl [3, 2, 1, 0] rfl)
