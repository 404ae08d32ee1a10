/-! CONSTANTS of the enum; truth values of propositions -/
noncomputable def bP (P : Prop) : Bool := @decide P (Classical.propDecidable P)
theorem bP_iff {P : Prop} : bP P = true ↔ P := @decide_eq_true_iff P (Classical.propDecidable P)
theorem bP_t {P : Prop} (h : bP P = true) : P := bP_iff.mp h
theorem bP_f {P : Prop} (h : bP P = false) : ¬ P := fun q => by rw [bP_iff.mpr q] at h; cases h
theorem bP_no {P : Prop} (h : ¬ P) : bP P = false := by
  cases hq : bP P with
  | false => rfl
  | true => exact absurd (bP_t hq) h
theorem rT {P : Prop} (h : P) : some (Value.int (nI 1)) = some (Value.int (b2i (bP P))) := by rw [bP_iff.mpr h]; rfl
theorem rF {P : Prop} (h : ¬ P) : some (Value.int (nI 0)) = some (Value.int (b2i (bP P))) := by rw [bP_no h]; rfl
theorem bP_eq {P R : Prop} (h : P ↔ R) : bP P = bP R := by rw [propext h]
theorem eZk {G : EG} {i : Nat} (hi : i < 9) : ("PolicyDesk$Kind", kCon.getD i "", "LPolicyDesk$Kind;", Value.ref (ead G i)) ∈ eZ G := List.mem_append_left _ (List.mem_map.mpr ⟨i, List.mem_range.mpr hi, rfl⟩)
theorem eZo {G : EG} (i : Nat) {z : String × String × String × Value} (h : [("PolicyDesk", "KINDS", "[LPolicyDesk$Kind;", Value.ref (ead G 9)), ("PolicyDesk$1", "$SwitchMap$PolicyDesk$Kind", "[I", .ref (ead G 10)), ("java/lang/String", "COMPACT_STRINGS", "Z", .int 1), ("jdk/internal/util/Preconditions", "SIOOBE_FORMATTER", "Ljava/util/function/BiFunction;", va_rf (efm G))][i]? = some z) : z ∈ eZ G := List.mem_append_right _ (List.mem_of_getElem? h)
section EXK
variable {G : EG} {l : Launch} {d : Nat} {M : EM} {Q : Option Value → EH → Prop} {X : String → EH → Prop} {k n pc : Nat} {lv : List (Nat × Value)} {rest st : List Value} {h : EH}
theorem ex_taldN {t N j : Nat} {f : Nat → Value} (hd : decode (eC M) pc = .ok (.iaload, 1)) (hz : eT G (.int, t, N, f)) (hj : j < N) (hN : N < 2 ^ 31) (kk : Ex G l d M Q X k n (pc + 1) lv (f j :: rest) h) : Ex G l d M Q X k n pc lv (.int (nI j) :: .ref t :: rest) h := ex_tald hd hz (vp_in_nI hj hN) (by rw [nI_clamp (Nat.lt_trans hj hN)]; exact kk)
theorem ex_tbldN {t N j : Nat} {f : Nat → Value} (hd : decode (eC M) pc = .ok (.baload, 1)) (hz : eT G (.byte, t, N, f)) (hj : j < N) (hN : N < 2 ^ 31) (kk : Ex G l d M Q X k n (pc + 1) lv (f j :: rest) h) : Ex G l d M Q X k n pc lv (.int (nI j) :: .ref t :: rest) h := ex_tbld hd hz (vp_in_nI hj hN) (by rw [nI_clamp (Nat.lt_trans hj hN)]; exact kk)
theorem ex_tqldN {t N j : Nat} {E : String} {f : Nat → Value} (hd : decode (eC M) pc = .ok (.aaload, 1)) (hz : eT G (.object E, t, N, f)) (hj : j < N) (hN : N < 2 ^ 31) (kk : Ex G l d M Q X k n (pc + 1) lv (f j :: rest) h) : Ex G l d M Q X k n pc lv (.int (nI j) :: .ref t :: rest) h := ex_tqld hd hz (vp_in_nI hj hN) (by rw [nI_clamp (Nat.lt_trans hj hN)]; exact kk)
end EXK
theorem eTsw {G : EG} : eT G (.int, ead G 10, 9, fun j => .int (nI (j + 1))) := Or.inr (Or.inl rfl)
theorem eTkn {G : EG} : eT G (.object "PolicyDesk$Kind", ead G 9, 9, fun j => .ref (ead G j)) := Or.inr (Or.inr (Or.inl rfl))
theorem eTst {G : EG} {i : Nat} (hi : i < 12) : eT G (.byte, ead G (32 + i), (kStr.getD i []).length, fun j => .int ((kStr.getD i []).getD j 0)) := Or.inr (Or.inr (Or.inr ⟨i, hi, rfl⟩))
theorem eOk {G : EG} {i : Nat} (hi : i < 9) : ("PolicyDesk$Kind", ead G i) ∈ eO G := List.mem_append_left _ (List.mem_map.mpr ⟨i, List.mem_range.mpr hi, rfl⟩)
theorem eOs {G : EG} {i : Nat} (hi : i < 12) : ("java/lang/String", ead G (16 + i)) ∈ eO G := List.mem_append_right _ (List.mem_map.mpr ⟨i, List.mem_range.mpr hi, rfl⟩)
theorem eF1 {G : EG} {i : Nat} (hi : i < 9) (j : Nat) {z : String × String × String × Value × Nat} (h : (eO1 G i)[j]? = some z) : eOF G z := Or.inl ⟨i, hi, List.mem_of_getElem? h⟩
theorem eF2 {G : EG} {i : Nat} (hi : i < 12) (j : Nat) {z : String × String × String × Value × Nat} (h : (eO2 G i)[j]? = some z) : eOF G z := Or.inr ⟨i, hi, List.mem_of_getElem? h⟩
def yKord : MethodName := ⟨"PolicyDesk$Kind", "ordinal", "()I"⟩
theorem kol3 : Cond.methodLink RX3 53 yKord ∈ egood := eg 737 (by decide +kernel) rfl
theorem kol2 : Cond.methodLink RX2 63 yKord ∈ egood := eg 836 (by decide +kernel) rfl
theorem kos : Cond.sameMethod "PolicyDesk$Kind" RJx29ce0 "ordinal" "()I" ∈ egood := eg 738 (by decide +kernel) rfl
theorem kox : Cond.selects "PolicyDesk$Kind" yKord yJx29ce0_ordinal_8abf5 ∈ egood := eg 740 (by decide +kernel) rfl
theorem koi : Cond.instanceMethod yJx29ce0_ordinal_8abf5 ∈ egood := eg 741 (by decide +kernel) rfl
set_option maxHeartbeats 4000000 in
theorem s_ordinal {G : EG} {l : Launch} (h : EH) {i : Nat} (hi : i < 9) : ES G l 0 mJx29ce0_ordinal_8abf5 [.ref (ead G i)] h 0 0 (fun v h' => v = some (.int (nI i)) ∧ h' = h) eNoX := by
  refine es_of (by decide) rfl (Nat.le_of_ble_eq_true rfl) ?_
  refine ex_aload_n rfl dJx29ce0_ordinal_8abf5_0 ?_
  refine ex_getc (z := ("java/lang/Enum", "ordinal", "I", .int (nI i), ead G i)) dJx29ce0_ordinal_8abf5_1 (eF1 hi 5 rfl) gc_Jx29ce0_7 ?_
  exact ex_iret dJx29ce0_ordinal_8abf5_4 rfl ⟨rfl, rfl⟩
