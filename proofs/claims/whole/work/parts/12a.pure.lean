/-! shorts, ints and longs of a row; the eight bytes of a long -/
def asLn (ln v : Int) : Int := if ln = 0 then Int.bmod v 65536 else if ln = 1 then Int.bmod v 4294967296 else v
theorem zI_b (a : Int) : zI a = zI (Int.bmod a 4294967296) := Int32.toInt_inj.mp (by
  show (Int32.ofInt a).toInt = (Int32.ofInt (Int.bmod a 4294967296)).toInt
  rw [Int32.toInt_ofInt, Int32.toInt_ofInt, show (Int32.size) = 4294967296 from rfl, Int.bmod_bmod])
theorem rI_b (a : Int) : rI (Int.bmod a 4294967296) := ⟨by have := Int.le_bmod (x := a) (m := 4294967296) (by omega); omega, by have := Int.bmod_lt (x := a) (m := 4294967296) (by omega); omega⟩
theorem rI_h (a : Int) : -32768 ≤ Int.bmod a 65536 ∧ Int.bmod a 65536 < 32768 := ⟨by have := Int.le_bmod (x := a) (m := 65536) (by omega); omega, by have := Int.bmod_lt (x := a) (m := 65536) (by omega); omega⟩
theorem zI_s (a : Int) : (zI a).toInt16.toInt32 = zI (Int.bmod a 65536) := Int32.toInt_inj.mp (by
  have h := rI_h a
  rw [zI_toInt ⟨by omega, by omega⟩, Int16.toInt_toInt32]
  show ((Int32.ofInt a).toInt16).toInt = _
  rw [Int32.toInt16_ofInt, Int16.toInt_ofInt])
theorem asLn_r {ln v : Int} (h : rL v) : rL (asLn ln v) := by
  have h1 := rI_b v; have h2 := rI_h v
  unfold asLn; split
  · exact ⟨by omega, by omega⟩
  · split
    · exact ⟨by have := h1.1; omega, by have := h1.2; omega⟩
    · exact h
def bt (w : Int) (k : Nat) : Int := w / 2 ^ (8 * k) % 256
theorem bt_b (w : Int) (k : Nat) : 0 ≤ bt w k ∧ bt w k < 256 := ⟨Int.emod_nonneg _ (by decide), Int.emod_lt_of_pos _ (by decide)⟩
theorem bt_sh : ∀ k : Nat, k < 8 → (((zI (8 * (k : Int))).toInt64 &&& 63).toBitVec.smod 64).toNat = 8 * k := by decide +kernel
theorem btw {w : Int} (hw : rL w) {k : Nat} (hk : k < 8) : (zL w >>> ((zI (8 * (k : Int))).toInt64 &&& 63)) &&& zL 255 = zL (bt w k) := by
  have hb := bt_b w k
  apply Int64.toBitVec_inj.mp
  rw [Int64.toBitVec_and, Int64.toBitVec_shiftRight]
  show ((zL w).toBitVec.sshiftRight ((((zI (8 * (k : Int))).toInt64 &&& 63).toBitVec.smod 64).toNat)) &&& _ = _
  rw [bt_sh k hk]
  have hq : ((zL w).toBitVec.sshiftRight (8 * k)).toInt = w / 2 ^ (8 * k) := by
    rw [BitVec.toInt_sshiftRight, show (zL w).toBitVec.toInt = w from zL_toInt hw, Int.shiftRight_eq_div_pow]
    norm_cast
  generalize (zL w).toBitVec.sshiftRight (8 * k) = y at hq
  apply BitVec.eq_of_toNat_eq
  rw [BitVec.toNat_and]
  have e1 : (zL 255).toBitVec.toNat = 255 := by decide
  rw [e1, show (255 : Nat) = 2 ^ 8 - 1 from rfl, Nat.and_two_pow_sub_one_eq_mod]
  have e2 : (zL (bt w k)).toBitVec.toNat = (bt w k).toNat := by
    show (BitVec.ofInt 64 (bt w k)).toNat = _
    rw [BitVec.toNat_ofInt]
    omega
  rw [e2]
  unfold bt at hb ⊢
  rw [← hq] at hb ⊢
  rw [BitVec.toInt_eq_toNat_cond] at hb ⊢
  have := y.isLt
  split <;> omega
section ZBY
variable {p : Program} {l : Launch} {e : Env} {R : Room} {s : State} {m : MethodId} {args : Array Value} {below : List Frame} {meth : Method} {c : Code} {H : Heap} {locs : List Loc} {cells slots : Nat} {Q : State → Prop} {cc : ByteArray} {pc : Nat} {ls : Array Slot} {rest : List Value}
theorem z_i2s (hx : p.tables.exec = Jvm.exec) (hb : c.code = cc) {a : Int} (hdg : decode cc pc = .ok (.i2s, 1)) (k : W p l e R s m args below meth c H locs cells slots Q (F0 m (pc + 1) ls (.int (zI (Int.bmod a 65536)) :: rest))) : W p l e R s m args below meth c H locs cells slots Q (F0 m pc ls (.int (zI a) :: rest)) := lv_i2s hx hb hdg (zI_s a) k
theorem z_i2c (hx : p.tables.exec = Jvm.exec) (hb : c.code = cc) {a : Int} (hdg : decode cc pc = .ok (.i2c, 1)) (h : 0 ≤ a ∧ a < 65536) (k : W p l e R s m args below meth c H locs cells slots Q (F0 m (pc + 1) ls (.int (zI a) :: rest))) : W p l e R s m args below meth c H locs cells slots Q (F0 m pc ls (.int (zI a) :: rest)) := lv_i2c hx hb hdg (by
  apply Int32.toInt_inj.mp
  obtain ⟨n, rfl⟩ : ∃ n : Nat, a = (n : Int) := ⟨a.toNat, by omega⟩
  rw [show (zI (n : Int)).toUInt32 % 65536 = (zI (n : Int)).toUInt32 by
    apply UInt32.toNat_inj.mp
    rw [UInt32.toNat_mod]
    have : (zI (n : Int)).toUInt32.toNat = n := by
      show (BitVec.ofInt 32 (n : Int)).toNat = n
      rw [BitVec.toNat_ofInt]; omega
    rw [this]; show n % 65536 = n; omega]
  rfl) k
theorem z_byte (hx : p.tables.exec = Jvm.exec) (hb : c.code = cc) {w : Int} {j : Nat} {r : Int} (d1 : decode cc pc = .ok (.lshr, 1)) (hw : rL w) (hj : j < 8) (hr : r = 8 * (j : Int)) (k : (zL w >>> ((zI (8 * (j : Int))).toInt64 &&& 63)) &&& zL 255 = zL (bt w j) → W p l e R s m args below meth c H locs cells slots Q (F0 m (pc + 1) ls (.long (zL w >>> ((zI (8 * (j : Int))).toInt64 &&& 63)) :: rest))) : W p l e R s m args below meth c H locs cells slots Q (F0 m pc ls (.int (zI r) :: .long (zL w) :: rest)) := by
  subst hr
  exact lv_lshr hx hb d1 rfl (k (btw hw hj))
end ZBY
