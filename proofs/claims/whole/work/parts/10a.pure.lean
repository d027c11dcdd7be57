/-! squares among longs, their marks by 64 and 63; going through numbers in order -/
def sq (v : Int) : Prop := ∃ r : Nat, (r : Int) * (r : Int) = v
noncomputable def bq (P : Prop) : Bool := @decide P (Classical.propDecidable P)
theorem bq_t {P : Prop} (h : P) : bq P = true := by unfold bq; simp [h]
theorem bq_f {P : Prop} (h : ¬ P) : bq P = false := by unfold bq; simp [h]
theorem bq_iff {P Q : Prop} (h : P ↔ Q) : bq P = bq Q := by rw [propext h]
def clo (i : Int) (n : Nat) : Int := if i = -1 then (n : Int) else -4
/-- the i-th of those that are so, from y on, n to be looked at, c found before -/
def scan (p : Nat → Bool) (v : Nat → Int) (i : Int) : Nat → Nat → Nat → Int
  | _, c, 0 => clo i c
  | y, c, n + 1 => if p y = true then (if (c : Int) = i then v y else scan p v i (y + 1) (c + 1) n) else scan p v i (y + 1) c n
theorem scan_0 (p : Nat → Bool) (v : Nat → Int) (i : Int) (y c : Nat) : scan p v i y c 0 = clo i c := rfl
theorem scan_f {p : Nat → Bool} {v : Nat → Int} {i : Int} {y c n m : Nat} (hn : n = m + 1) (h : p y = false) : scan p v i y c n = scan p v i (y + 1) c m := by
  subst hn; rw [scan, if_neg (by rw [h]; decide)]
theorem scan_hit {p : Nat → Bool} {v : Nat → Int} {i : Int} {y c n m : Nat} (hn : n = m + 1) (h : p y = true) (hc : (c : Int) = i) : scan p v i y c n = v y := by
  subst hn; rw [scan, if_pos h, if_pos hc]
theorem scan_t {p : Nat → Bool} {v : Nat → Int} {i : Int} {y c n m : Nat} (hn : n = m + 1) (h : p y = true) (hc : ¬ (c : Int) = i) : scan p v i y c n = scan p v i (y + 1) (c + 1) m := by
  subst hn; rw [scan, if_pos h, if_neg hc]
theorem scan_end {p : Nat → Bool} {v : Nat → Int} {i : Int} : ∀ {n y c : Nat}, (∀ j, y ≤ j → p j = false) → scan p v i y c n = clo i c
  | 0, _, _, _ => rfl
  | n + 1, y, c, h => by rw [scan_f rfl (h y (Nat.le_refl _))]; exact scan_end (fun j hj => h j (by omega))
theorem scan_congr {p q : Nat → Bool} {v : Nat → Int} {i : Int} (h : ∀ j, p j = q j) (y c n : Nat) : scan p v i y c n = scan q v i y c n := by
  rw [show p = q from funext h]
def sqm (m r : Nat) : Bool := (List.range m).any (fun s => s * s % m == r)
theorem sqm_no {m : Nat} {v : Int} (hm : 0 < m) (h : (if sqm m (v % (m : Int)).toNat then (1 : Int) else 0) = 0) : ¬ sq v := by
  rintro ⟨r, hr⟩
  have h2 : sqm m (v % (m : Int)).toNat = true := by
    unfold sqm
    rw [List.any_eq_true]
    refine ⟨r % m, List.mem_range.mpr (Nat.mod_lt _ hm), ?_⟩
    rw [beq_iff_eq, ← hr, ← Int.natCast_mul, ← Int.natCast_emod, Int.toNat_natCast, ← Nat.mul_mod]
  rw [h2] at h
  simp at h
theorem bit64 : ∀ r : Nat, r < 64 → ((zL 144680414395695635) >>> ((zI (r : Int)).toInt64 &&& 63)) &&& zL 1 = zL (if sqm 64 r then 1 else 0) := by decide +kernel
theorem bit63 : ∀ r : Nat, r < 63 → ((zL 288872697407275667) >>> ((zI (r : Int)).toInt64 &&& 63)) &&& zL 1 = zL (if sqm 63 r then 1 else 0) := by decide +kernel
theorem shl1 : ∀ r : Nat, r < 31 → (zL 1) <<< ((zI (r : Int)).toInt64 &&& 63) = zL ((2 ^ r : Nat) : Int) := by decide +kernel
theorem land63 {v : Int} (h : rL v) (h0 : 0 ≤ v) : zL v &&& zL 63 = zL (v % 64) := by
  obtain ⟨n, rfl⟩ : ∃ n : Nat, v = (n : Int) := ⟨v.toNat, by omega⟩
  have h2 := h.2
  apply Int64.toBitVec_inj.mp
  apply BitVec.eq_of_toNat_eq
  have e : ∀ k : Nat, k < 9223372036854775808 → (zL (k : Int)).toBitVec.toNat = k := fun k hk => by
    show (BitVec.ofInt 64 (k : Int)).toNat = k
    rw [BitVec.toNat_ofInt]
    omega
  rw [Int64.toBitVec_and, BitVec.toNat_and, e n (by omega), show (63 : Int) = ((63 : Nat) : Int) from rfl, e 63 (by omega), show ((n : Int) % 64) = ((n % 64 : Nat) : Int) by omega, e (n % 64) (by omega)]
  exact Nat.and_two_pow_sub_one_eq_mod n 6
section ZBT
variable {p : Program} {l : Launch} {e : Env} {R : Room} {s : State} {m : MethodId} {args : Array Value} {below : List Frame} {meth : Method} {c : Code} {H : Heap} {locs : List Loc} {cells slots : Nat} {Q : State → Prop} {cc : ByteArray} {pc : Nat} {ls : Array Slot} {rest : List Value}
theorem z_bit (hx : p.tables.exec = Jvm.exec) (hb : c.code = cc) {M b r : Int} (d1 : decode cc pc = .ok (.lshr, 1)) (d2 : decode cc (pc + 1) = .ok (.lconst 1, 1)) (d3 : decode cc (pc + 1 + 1) = .ok (.land, 1)) (h : (zL M >>> ((zI r).toInt64 &&& 63)) &&& zL 1 = zL b) (k : W p l e R s m args below meth c H locs cells slots Q (F0 m (pc + 1 + 1 + 1) ls (.long (zL b) :: rest))) : W p l e R s m args below meth c H locs cells slots Q (F0 m pc ls (.int (zI r) :: .long (zL M) :: rest)) := by
  refine lv_lshr hx hb d1 rfl ?_
  refine lv_lconst (v := zL 1) hx hb d2 rfl ?_
  refine lv_land hx hb d3 ?_
  rw [h]
  exact k
theorem z_land63 (hx : p.tables.exec = Jvm.exec) (hb : c.code = cc) {a : Int} (d1 : decode cc pc = .ok (.land, 1)) (ha : rL a) (h0 : 0 ≤ a) (k : W p l e R s m args below meth c H locs cells slots Q (F0 m (pc + 1) ls (.long (zL (a % 64)) :: rest))) : W p l e R s m args below meth c H locs cells slots Q (F0 m pc ls (.long (zL 63) :: .long (zL a) :: rest)) := lv_land hx hb d1 (by rw [land63 ha h0]; exact k)
theorem z_shl1 (hx : p.tables.exec = Jvm.exec) (hb : c.code = cc) {k : Nat} {r : Int} (d1 : decode cc pc = .ok (.lshl, 1)) (hr : r = (k : Int)) (hk : k < 31) (kk : W p l e R s m args below meth c H locs cells slots Q (F0 m (pc + 1) ls (.long (zL ((2 ^ k : Nat) : Int)) :: rest))) : W p l e R s m args below meth c H locs cells slots Q (F0 m pc ls (.int (zI r) :: .long (zL 1) :: rest)) := by
  subst hr
  exact lv_lshl hx hb d1 (shl1 k hk) kk
end ZBT
