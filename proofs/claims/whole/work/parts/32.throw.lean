/-! THROWS: new E("..") and athrow, out of the method; E's own constructor may pass its text on by any index (NoSuchElementException's is 13) -/
def exN : List String := ["java/lang/RuntimeException", "java/lang/Exception"]
def xat (own : String) (ic : Nat) (E : String) (ix : Nat) (rx : ByteArray) : List Cond := (Bundle.ownAtomsX own ic E ix rx exN).filter vx_no
/-- what a throw of E by this constructor asks of the table -/
def ETH (ik ic : Nat) (E : String) : Prop := ∃ (ix : Nat) (rx : ByteArray), (decode rx 0 = .ok (.aload_n 0, 1) ∧ decode rx 1 = .ok (.aload_n 1, 1) ∧ decode rx 2 = .ok (.invokespecial ix, 3) ∧ decode rx 5 = .ok (.return_, 1)) ∧ Bundle.fit E = true ∧ Cond.classLink RX11 ik E ∈ egood ∧ Cond.initialized E ∈ egood ∧ ∀ w ∈ xat RX11 ic E ix rx, w ∈ lw_tbl ∧ (goodWord w = true ∨ (∃ C T : String, w = Cond.castable C T) ∨ ∃ x : MethodName, w = Cond.declares x)
theorem exN_fit : ∀ n ∈ exN, Bundle.fit n = true := by decide +kernel
def cdW (w : Cond) : Bool := match w with
  | .castable _ _ => true
  | .declares _ => true
  | _ => false
theorem cdW_s {w : Cond} (h : cdW w = true) : (∃ C T : String, w = Cond.castable C T) ∨ ∃ x : MethodName, w = Cond.declares x := by
  unfold cdW at h
  split at h
  · exact Or.inl ⟨_, _, rfl⟩
  · exact Or.inr ⟨_, rfl⟩
  · cases h
theorem eg_in {w : Cond} (h : w ∈ lw_tbl) (g : goodWord w = true) : w ∈ egood := List.mem_filter.mpr ⟨h, g⟩
def rx7 : ByteArray := ⟨#[42, 43, 183, 0, 7, 177]⟩
def rx13 : ByteArray := ⟨#[42, 43, 183, 0, 13, 177]⟩
theorem xt_of {ic ix : Nat} {E : String} {rx : ByteArray} (h1 : ∀ w ∈ xat RX11 ic E ix rx, w ∈ lw_tbl) (h2 : (xat RX11 ic E ix rx).all (fun w => goodWord w || cdW w) = true) : ∀ w ∈ xat RX11 ic E ix rx, w ∈ lw_tbl ∧ (goodWord w = true ∨ (∃ C T : String, w = Cond.castable C T) ∨ ∃ x : MethodName, w = Cond.declares x) := by
  intro w hw
  refine ⟨h1 w hw, ?_⟩
  have h3 := List.all_eq_true.mp h2 w hw
  rw [Bool.or_eq_true] at h3
  exact h3.imp id cdW_s
theorem eth_0 : ETH 96 100 "java/lang/IllegalArgumentException" := ⟨7, rx7, ⟨by decide +kernel, by decide +kernel, by decide +kernel, by decide +kernel⟩, by decide +kernel, eg_in (by decide +kernel) rfl, eg_in (by decide +kernel) rfl, xt_of (by decide +kernel) (by decide +kernel)⟩
theorem eth_1 : ETH 107 111 "java/lang/IllegalStateException" := ⟨7, rx7, ⟨by decide +kernel, by decide +kernel, by decide +kernel, by decide +kernel⟩, by decide +kernel, eg_in (by decide +kernel) rfl, eg_in (by decide +kernel) rfl, xt_of (by decide +kernel) (by decide +kernel)⟩
theorem eth_2 : ETH 143 147 "java/util/NoSuchElementException" := ⟨13, rx13, ⟨by decide +kernel, by decide +kernel, by decide +kernel, by decide +kernel⟩, by decide +kernel, eg_in (by decide +kernel) rfl, eg_in (by decide +kernel) rfl, xt_of (by decide +kernel) (by decide +kernel)⟩

