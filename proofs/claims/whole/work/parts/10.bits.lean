/-! NUMBERS: bits of longs (uN and its rows are pasted from the kit's BITS.to-paste), frames of heaps -/
def uN (x : Int64) : Nat := x.toUInt64.toNat
theorem uN_lt (x : Int64) : uN x < 18446744073709551616 := x.toUInt64.toNat_lt
theorem uN_inj {x y : Int64} (h : uN x = uN y) : x = y := congrArg UInt64.toInt64 (UInt64.toNat_inj.mp h)
theorem uN_shr (x : Int64) (s : UInt64) : uN (x.toUInt64 >>> s).toInt64 = uN x / 2 ^ (s.toNat % 64) := by
  show (x.toUInt64 >>> s).toNat = _
  rw [UInt64.toNat_shiftRight, Nat.shiftRight_eq_div_pow]
  rfl
theorem uN_sk (x : Int64) {k : Nat} (hk : k < 64) : uN (x.toUInt64 >>> ((nI k).toInt64.toUInt64 &&& Int64.toUInt64 63)).toInt64 = uN x / 2 ^ k := by
  have h : ((nI k).toInt64.toUInt64 &&& Int64.toUInt64 63).toNat % 64 = k := by
    rw [nI_l (by omega), UInt64.toNat_and]
    have e : (lN k).toUInt64.toNat = k % 2 ^ 64 := rfl
    have e2 : (Int64.toUInt64 63).toNat = 2 ^ 6 - 1 := by decide
    rw [e, e2, Nat.and_two_pow_sub_one_eq_mod]
    omega
  rw [uN_shr, h]
/-- byte k of w, 0 being the highest -/
def byt (w : Int64) (k : Nat) : Nat := uN w / 2 ^ (56 - 8 * k) % 256
theorem byt_lt (w : Int64) (k : Nat) : byt w k < 256 := Nat.mod_lt _ (by decide)
theorem and255 (x : Int32) : x &&& nI 255 = nI (x.toBitVec.toNat % 256) := pk_and x 8 (by decide)
theorem l2i_nat (y : Int64) : y.toInt32.toBitVec.toNat = uN y % 4294967296 := by
  show (y.toBitVec.signExtend 32).toNat = _
  rw [BitVec.signExtend_eq_setWidth_of_le _ (by decide), BitVec.toNat_setWidth]
  rfl
theorem byt_class (w : Int64) {s : Nat} (hs : s < 64) : ((w.toUInt64 >>> ((nI s).toInt64.toUInt64 &&& Int64.toUInt64 63)).toInt64).toInt32 &&& nI 255 = nI (uN w / 2 ^ s % 256) := by
  rw [and255, l2i_nat, uN_sk w hs]
  congr 1
  omega
def Fr (P : Nat → Prop) (h h' : EH) : Prop := h'.1 = h.1 ∧ ∀ q, ¬ P q → h'.2 q = h.2 q
theorem Fr.rf {P : Nat → Prop} {h : EH} : Fr P h h := ⟨rfl, fun _ _ => rfl⟩
theorem Fr.tr {P : Nat → Prop} {h h' h'' : EH} (a : Fr P h h') (b : Fr P h' h'') : Fr P h h'' := ⟨b.1.trans a.1, fun q hq => (b.2 q hq).trans (a.2 q hq)⟩
theorem Fr.up {P : Nat → Prop} {h h' : EH} {a : Nat} {e : va_E} (f : Fr P h h') (ha : P a) : Fr P h (hup h' a e) := ⟨f.1, fun q hq => (if_neg (fun z => hq (by rw [z]; exact ha))).trans (f.2 q hq)⟩
theorem Fr.wk {P P' : Nat → Prop} {h h' : EH} (f : Fr P h h') (hp : ∀ q, P q → P' q) : Fr P' h h' := ⟨f.1, fun q hq => f.2 q (fun z => hq (hp q z))⟩
theorem Fr.get {P : Nat → Prop} {h h' : EH} (f : Fr P h h') {q : Nat} {x : Option va_E} (hq : ¬ P q) (hx : h.2 q = x) : h'.2 q = x := (f.2 q hq).trans hx
theorem b2i_fit (b : Bool) : fits .boolean (.int (b2i b)) = true := by cases b <;> rfl
theorem upd_nI (t : Nat → Nat) (j c : Nat) : upd (fun i => nI (t i)) j (nI c) = fun i => nI (va_up t j c i) := by
  funext i
  unfold upd va_up
  by_cases h : i = j <;> simp [h]

