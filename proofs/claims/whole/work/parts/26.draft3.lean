/-! DRAFT, third part: sets of types, masks of permissions -/
def isB (w : Nat) (P : Nat → Prop) : Prop := w < 2 ^ 8 ∧ ∀ j, w.testBit j = true ↔ P j
theorem isB.c {w : Nat} {P R : Nat → Prop} (h : isB w P) (e : ∀ j, P j ↔ R j) : isB w R := ⟨h.1, fun j => (h.2 j).trans (e j)⟩
theorem isB.o {w b : Nat} {P : Nat → Prop} (h : isB w P) (hb : b < 8) : isB (w ||| 2 ^ b) (fun j => P j ∨ j = b) := by
  refine ⟨or_lt h.1 (Nat.pow_lt_pow_right (by decide) hb), fun j => ?_⟩
  rw [tb_or, Bool.or_eq_true, decide_eq_true_iff, h.2 j]
  exact ⟨fun z => z.elim Or.inl (fun z => Or.inr z.symm), fun z => z.elim Or.inl (fun z => Or.inr z.symm)⟩
theorem isB.z : isB 0 (fun _ => False) := ⟨by decide, fun j => by rw [Nat.zero_testBit]; exact ⟨fun z => Bool.noConfusion z, fun z => False.elim z⟩⟩
theorem isB.eq {w w' : Nat} {P : Nat → Prop} (h : isB w P) (h' : isB w' P) : w = w' := Nat.eq_of_testBit_eq fun j => by
  have := (h.2 j).trans (h'.2 j).symm
  cases h1 : w.testBit j <;> cases h2 : w'.testBit j <;> rw [h1, h2] at this <;> first | rfl | exact absurd (this.mp rfl) (by decide) | exact absurd (this.mpr rfl) (by decide)
/-- type number j bears the name x or has it as an attribute (among the first n statements) -/
def tyN (S : Nat → Stm) (n x j : Nat) : Prop := ∃ i, i < n ∧ kd (S i) = 1 ∧ cntk S 1 i = j ∧ ∃ q, q < sz (S i) ∧ wd (S i) q = x
theorem tyN_n {S : Nat → Stm} {k x : Nat} (h : ¬ (kd (S k) = 1 ∧ ∃ q, q < sz (S k) ∧ wd (S k) q = x)) (j : Nat) : tyN S k x j ↔ tyN S (k + 1) x j := by
  constructor
  · rintro ⟨i, i1, i2⟩; exact ⟨i, by omega, i2⟩
  · rintro ⟨i, i1, i2, i3, i4⟩
    rcases Nat.lt_or_ge i k with q | q
    · exact ⟨i, q, i2, i3, i4⟩
    · rw [show i = k by omega] at i2 i4; exact absurd ⟨i2, i4⟩ h
theorem tyN_y {S : Nat → Stm} {k x : Nat} (h1 : kd (S k) = 1) (h2 : ∃ q, q < sz (S k) ∧ wd (S k) q = x) (j : Nat) : (tyN S k x j ∨ j = cntk S 1 k) ↔ tyN S (k + 1) x j := by
  constructor
  · rintro (⟨i, i1, i2⟩ | z)
    · exact ⟨i, by omega, i2⟩
    · exact ⟨k, by omega, h1, z.symm, h2⟩
  · rintro ⟨i, i1, i2, i3, i4⟩
    rcases Nat.lt_or_ge i k with q | q
    · exact Or.inl ⟨i, q, i2, i3, i4⟩
    · rw [show i = k by omega] at i3; exact Or.inr i3.symm
theorem cntk_mono (S : Nat → Stm) (κ : Nat) {i j : Nat} (h : i ≤ j) : cntk S κ i ≤ cntk S κ j := by
  induction j with
  | zero => rw [show i = 0 by omega]; exact Nat.le_refl _
  | succ j ih =>
    rcases Nat.lt_or_ge i (j + 1) with q | q
    · have := ih (by omega); show _ ≤ cntk S κ j + _; omega
    · rw [show i = j + 1 by omega]; exact Nat.le_refl _
theorem ex0 {ws : Nat → Nat} {x r k : Nat} (h : fnd ws x 0 r = some k) : ∃ q, q < r ∧ ws q = x := ⟨k, by have := (fnd_some h).2.1; omega, (fnd_some h).2.2.1⟩
set_option maxHeartbeats 4000000 in
set_option maxRecDepth 100000 in
theorem l_typesNamed {G : EG} {l : Launch} {h : EH} {a n : Nat} {S : Nat → Stm} (hD : DR G h a n S) (hG : eInj G) {x : Nat} (hx : x < 2 ^ 30) (h8 : cntk S 1 n ≤ 8) : ∀ (f k : Nat), n - k < f → k ≤ n → ∀ w, isB w (tyN S k x) → Ex G l 2 mX3_typesNamed (fun v h' => ∃ w, v = some (.int (nI w)) ∧ h' = h ∧ isB w (tyN S n x)) eNoX 0 0 7 [(0, .ref a), (1, .int (nI x)), (2, .int (nI w)), (3, .int (nI (cntk S 1 k))), (4, .int (nI k))] [] h := by
  intro f
  induction f with
  | zero =>
    intro k h1 h2 w hw
    omega
  | succ f ih =>
    intro k h1 h2 w hw
    have hn := hD.2.2.2
    have hw1 := hw.1
    have hsk : k < 41 → sz (S k) ≤ 9 := fun z => (hD.2.2.1 k z).1.2.2.1.1
    have hcl : k < n → kd (S k) = 1 → cntk S 1 k < 8 := fun z y => by have := cntk_mono S 1 (i := k + 1) (j := n) (by omega); rw [cntk_y y] at this; omega
    refine ex_iload rfl dX3_typesNamed_7 ?_
    refine ex_aload_n rfl dX3_typesNamed_9 ?_
    refine ex_get dX3_typesNamed_10 gf_X3_17 hD.1 rfl ?_
    refine ex_icmpN_ge (tgt := 67) (by decide) dX3_typesNamed_13 (by omega) (by omega) (fun c1 => ?_) (fun c1 => ?_)
    · refine ex_iload_n rfl dX3_typesNamed_67 ?_
      refine ex_iret dX3_typesNamed_68 rfl ⟨w, rfl, rfl, by rw [show k = n by omega] at hw; exact hw⟩
    · refine ex_aload_n rfl dX3_typesNamed_16 ?_
      refine ex_get dX3_typesNamed_17 gf_X3_11 hD.1 rfl ?_
      refine ex_iload rfl dX3_typesNamed_20 ?_
      refine ex_aldqN dX3_typesNamed_22 hD.2.1 (by omega) (by decide) (if_pos (by omega)) ?_
      refine ex_invv (k := 0) (n := 0) (mc' := 0) (ms' := 0) (As := []) dX3_typesNamed_23 cv_X3_49 (by decide) (Nat.le_of_ble_eq_true rfl) (Or.inl ⟨_, _, _, _, (hD.2.2.1 k (by omega)).1.1, rfl⟩) (s_kind (hD.2.2.1 k (by omega)).1) (fun v h' q => ?_)
      obtain ⟨rfl, rfl⟩ := q
      refine ex_gets (z := ("PolicyDesk$Kind", "TYPE", "LPolicyDesk$Kind;", .ref (ead G 1))) dX3_typesNamed_26 (eZk (i := 1) (by decide)) gz_X3_30 ?_
      refine ex_acmp_ne (tgt := 61) (by decide) dX3_typesNamed_29 (fun c2 => ?_) (fun c2 => ?_)
      · refine ex_iincN (z := 1) rfl (by decide) rfl dX3_typesNamed_61 ?_
        refine ex_goto (tgt := 7) (by decide) dX3_typesNamed_64 ?_
        have hk0 : kd (S k) ≠ 1 := fun z => c2 (by rw [z])
        exact ex_lv [(0, .ref a), (1, .int (nI x)), (2, .int (nI w)), (3, .int (nI (cntk S 1 (k + 1)))), (4, .int (nI (k + 1)))] ⟨rfl, rfl, rfl, by show some (Value.int (nI (cntk S 1 k))) = _; rw [cntk_n hk0]; rfl, rfl, trivial⟩ (ih (k + 1) (by omega) (by omega) w (hw.c (tyN_n (fun z => hk0 z.1))))
      · refine ex_iload_n rfl dX3_typesNamed_32 ?_
        refine ex_aload_n rfl dX3_typesNamed_33 ?_
        refine ex_get dX3_typesNamed_34 gf_X3_11 hD.1 rfl ?_
        refine ex_iload rfl dX3_typesNamed_37 ?_
        refine ex_aldqN dX3_typesNamed_39 hD.2.1 (by omega) (by decide) (if_pos (by omega)) ?_
        refine ex_iload_n rfl dX3_typesNamed_40 ?_
        refine ex_iconst (v := (nI 0)) (by decide) dX3_typesNamed_41 ?_
        refine ex_invv (k := 0) (n := 0) (mc' := 0) (ms' := 0) (As := [_, _]) dX3_typesNamed_42 cv_X3_88 (by decide) (Nat.le_of_ble_eq_true rfl) (Or.inl ⟨_, _, _, _, (hD.2.2.1 k (by omega)).1.1, rfl⟩) (s_find (hD.2.2.1 k (by omega)).1 (x := x) (fr := 0) (by omega) (by omega)) (fun v h' q => ?_)
        obtain ⟨rfl, rfl⟩ := q
        refine ex_iconst (v := (-1)) (by decide) dX3_typesNamed_45 ?_
        refine ex_icmpO_eq (tgt := 55) (by decide) dX3_typesNamed_46 (fun j hj => by have := hsk (by omega); have := (fnd_some hj).2.1; omega) (fun c3 => ?_) (fun jc3 c3 => ?_)
        · refine ex_iconst (v := (nI 0)) (by decide) dX3_typesNamed_55 ?_
          refine ex_ior dX3_typesNamed_56 ?_
          rw [nx_or]
          refine ex_istore_n (by decide) rfl dX3_typesNamed_57 ?_
          refine ex_iincN (z := 1) rfl (by decide) rfl dX3_typesNamed_58 ?_
          refine ex_iincN (z := 1) rfl (by decide) rfl dX3_typesNamed_61 ?_
          refine ex_goto (tgt := 7) (by decide) dX3_typesNamed_64 ?_
          have hk1 := hG _ _ (hD.2.2.1 k (by omega)).2 (by decide) c2
          rw [Nat.or_zero]
          exact ex_lv [(0, .ref a), (1, .int (nI x)), (2, .int (nI w)), (3, .int (nI (cntk S 1 (k + 1)))), (4, .int (nI (k + 1)))] ⟨rfl, rfl, rfl, by show some (Value.int (nI (cntk S 1 k + 1))) = _; rw [cntk_y hk1], rfl, trivial⟩ (ih (k + 1) (by omega) (by omega) w (hw.c (tyN_n (fun z => by obtain ⟨-, q, q1, q2⟩ := z; exact fnd_none c3 q (by omega) (by omega) q2))))
        · refine ex_iconst (v := (nI 1)) (by decide) dX3_typesNamed_49 ?_
          refine ex_iload_n rfl dX3_typesNamed_50 ?_
          refine ex_ishl dX3_typesNamed_51 ?_
          have hk1 := hG _ _ (hD.2.2.1 k (by omega)).2 (by decide) c2
          rw [shl_1 (by have := hcl (by omega) hk1; omega)]
          refine ex_goto (tgt := 56) (by decide) dX3_typesNamed_52 ?_
          refine ex_ior dX3_typesNamed_56 ?_
          rw [nx_or]
          refine ex_istore_n (by decide) rfl dX3_typesNamed_57 ?_
          refine ex_iincN (z := 1) rfl (by decide) rfl dX3_typesNamed_58 ?_
          refine ex_iincN (z := 1) rfl (by decide) rfl dX3_typesNamed_61 ?_
          refine ex_goto (tgt := 7) (by decide) dX3_typesNamed_64 ?_
          exact ex_lv [(0, .ref a), (1, .int (nI x)), (2, .int (nI (w ||| 2 ^ cntk S 1 k))), (3, .int (nI (cntk S 1 (k + 1)))), (4, .int (nI (k + 1)))] ⟨rfl, rfl, rfl, by show some (Value.int (nI (cntk S 1 k + 1))) = _; rw [cntk_y hk1], rfl, trivial⟩ (ih (k + 1) (by omega) (by omega) _ ((hw.o (hcl (by omega) hk1)).c (tyN_y hk1 (ex0 c3))))
set_option maxHeartbeats 4000000 in
set_option maxRecDepth 100000 in
theorem s_typesNamed {G : EG} {l : Launch} {h : EH} {a n : Nat} {S : Nat → Stm} (hD : DR G h a n S) (hG : eInj G) {x : Nat} (hx : x < 2 ^ 30) (h8 : cntk S 1 n ≤ 8) : ES G l 2 mX3_typesNamed [.ref a, .int (nI x)] h 0 0 (fun v h' => ∃ w, v = some (.int (nI w)) ∧ h' = h ∧ isB w (tyN S n x)) eNoX := by
  refine es_of (by decide) rfl (Nat.le_of_ble_eq_true rfl) ?_
  refine ex_iconst (v := (nI 0)) (by decide) dX3_typesNamed_0 ?_
  refine ex_istore_n (by decide) rfl dX3_typesNamed_1 ?_
  refine ex_iconst (v := (nI 0)) (by decide) dX3_typesNamed_2 ?_
  refine ex_istore_n (by decide) rfl dX3_typesNamed_3 ?_
  refine ex_iconst (v := (nI 0)) (by decide) dX3_typesNamed_4 ?_
  refine ex_istore (by decide) rfl dX3_typesNamed_5 ?_
  exact l_typesNamed hD hG hx h8 (n + 1) 0 (by omega) (by omega) 0 (isB.z.c (fun j => ⟨fun z => z.elim, fun ⟨i, i1, _⟩ => by omega⟩))
/-- permission j of the class that statement i names at word c is one of those that it names behind; classes among the first r statements, and (of class r) names before k -/
def msb (S : Nat → Stm) (i c r k j : Nat) : Prop := ∃ q, kd (S q) = 0 ∧ wo (S q) 0 = wo (S i) c ∧ ∃ m, c + 1 ≤ m ∧ m < sz (S i) ∧ fnd (wd (S q)) (wo (S i) m) 1 (sz (S q) - 1) = some (j + 1) ∧ (q < r ∨ (q = r ∧ m < k))
def msk (S : Nat → Stm) (n i c j : Nat) : Prop := msb S i c n 0 j
theorem msb_up {S : Nat → Stm} {i c r k : Nat} (h : sz (S i) ≤ k) (j : Nat) : msb S i c r k j ↔ msb S i c (r + 1) 0 j := by
  constructor
  · rintro ⟨q, q1, q2, m, m1, m2, m3, m4⟩; exact ⟨q, q1, q2, m, m1, m2, m3, by omega⟩
  · rintro ⟨q, q1, q2, m, m1, m2, m3, m4⟩; exact ⟨q, q1, q2, m, m1, m2, m3, by omega⟩
theorem msb_sk {S : Nat → Stm} {i c r : Nat} (h : ¬ (kd (S r) = 0 ∧ wo (S r) 0 = wo (S i) c)) (j : Nat) : msb S i c r 0 j ↔ msb S i c (r + 1) 0 j := by
  constructor
  · rintro ⟨q, q1, q2, m, m1, m2, m3, m4⟩; exact ⟨q, q1, q2, m, m1, m2, m3, by omega⟩
  · rintro ⟨q, q1, q2, m, m1, m2, m3, m4⟩
    rcases Nat.lt_or_ge q r with z | z
    · exact ⟨q, q1, q2, m, m1, m2, m3, Or.inl z⟩
    · rw [show q = r by omega] at q1 q2; exact absurd ⟨q1, q2⟩ h
theorem msb_st {S : Nat → Stm} {i c r : Nat} (j : Nat) : msb S i c r 0 j ↔ msb S i c r (c + 1) j := by
  constructor
  · rintro ⟨q, q1, q2, m, m1, m2, m3, m4⟩; exact ⟨q, q1, q2, m, m1, m2, m3, by omega⟩
  · rintro ⟨q, q1, q2, m, m1, m2, m3, m4⟩; exact ⟨q, q1, q2, m, m1, m2, m3, by omega⟩
theorem msb_n {S : Nat → Stm} {i c r k : Nat} (h : fnd (wd (S r)) (wo (S i) k) 1 (sz (S r) - 1) = none) (j : Nat) : msb S i c r k j ↔ msb S i c r (k + 1) j := by
  constructor
  · rintro ⟨q, q1, q2, m, m1, m2, m3, m4⟩; exact ⟨q, q1, q2, m, m1, m2, m3, by omega⟩
  · rintro ⟨q, q1, q2, m, m1, m2, m3, m4⟩
    by_cases z : q < r ∨ (q = r ∧ m < k)
    · exact ⟨q, q1, q2, m, m1, m2, m3, z⟩
    · rw [show q = r by omega, show m = k by omega, h] at m3; cases m3
theorem msb_y {S : Nat → Stm} {i c r k b : Nat} (h1 : kd (S r) = 0) (h2 : wo (S r) 0 = wo (S i) c) (h3 : c + 1 ≤ k) (h4 : k < sz (S i)) (h : fnd (wd (S r)) (wo (S i) k) 1 (sz (S r) - 1) = some (b + 1)) (j : Nat) : (msb S i c r k j ∨ j = b) ↔ msb S i c r (k + 1) j := by
  constructor
  · rintro (⟨q, q1, q2, m, m1, m2, m3, m4⟩ | z)
    · exact ⟨q, q1, q2, m, m1, m2, m3, by omega⟩
    · exact ⟨r, h1, h2, k, h3, h4, by rw [z]; exact h, by omega⟩
  · rintro ⟨q, q1, q2, m, m1, m2, m3, m4⟩
    by_cases z : q < r ∨ (q = r ∧ m < k)
    · exact Or.inl ⟨q, q1, q2, m, m1, m2, m3, z⟩
    · rw [show q = r by omega, show m = k by omega, h] at m3
      exact Or.inr (by have := Option.some.inj m3; omega)
set_option maxHeartbeats 4000000 in
set_option maxRecDepth 100000 in
theorem l_mask2 {G : EG} {l : Launch} {h : EH} {a n : Nat} {S : Nat → Stm} (hD : DR G h a n S) {i c : Nat} (hi : i < 41) (hc : c < 9) {r : Nat} (hr : r < n) (hk0 : kd (S r) = 0) (hk1 : wo (S r) 0 = wo (S i) c) (ho : ∀ w, isB w (msb S i c (r + 1) 0) → Ex G l 2 mX3_maskOf (fun v h' => ∃ w, v = some (.int (nI w)) ∧ h' = h ∧ isB w (msk S n i c)) eNoX 0 0 5 [(0, .ref a), (1, .ref (a + 2 + 2 * i)), (2, .int (nI c)), (3, .int (nI w)), (4, .int (nI (r + 1)))] [] h) : ∀ (f k : Nat), sz (S i) - k < f → c + 1 ≤ k → k < 2 ^ 30 → ∀ w, isB w (msb S i c r k) → Ex G l 2 mX3_maskOf (fun v h' => ∃ w, v = some (.int (nI w)) ∧ h' = h ∧ isB w (msk S n i c)) eNoX 0 0 54 [(0, .ref a), (1, .ref (a + 2 + 2 * i)), (2, .int (nI c)), (3, .int (nI w)), (4, .int (nI r)), (5, .int (nI k))] [] h := by
  intro f
  induction f with
  | zero =>
    intro k h1 h2 h3 w hw
    omega
  | succ f ih =>
    intro k h1 h2 h3 w hw
    have hn := hD.2.2.2
    have hsi := (hD.2.2.1 i hi).1.2.2.1.1
    have hwc := wo_lt (hD.2.2.1 i hi).1 c
    have hw1 := hw.1
    have hwk := wo_lt (hD.2.2.1 i hi).1 k
    refine ex_iload rfl dX3_maskOf_54 ?_
    refine ex_aload_n rfl dX3_maskOf_56 ?_
    refine ex_invv (k := 0) (n := 0) (mc' := 0) (ms' := 0) (As := []) dX3_maskOf_57 cv_X3_92 (by decide) (Nat.le_of_ble_eq_true rfl) (Or.inl ⟨_, _, _, _, (hD.2.2.1 i (by omega)).1.1, rfl⟩) (s_size (hD.2.2.1 i (by omega)).1) (fun v h' q => ?_)
    obtain ⟨rfl, rfl⟩ := q
    refine ex_icmpN_ge (tgt := 107) (by decide) dX3_maskOf_60 (by omega) (by omega) (fun c1 => ?_) (fun c1 => ?_)
    · refine ex_iincN (z := 1) rfl (by decide) rfl dX3_maskOf_107 ?_
      refine ex_goto (tgt := 5) (by decide) dX3_maskOf_110 ?_
      exact ex_lv [(0, .ref a), (1, .ref (a + 2 + 2 * i)), (2, .int (nI c)), (3, .int (nI w)), (4, .int (nI (r + 1)))] ⟨rfl, rfl, rfl, rfl, rfl, trivial⟩ (ho w (hw.c (msb_up c1)))
    · refine ex_aload_n rfl dX3_maskOf_63 ?_
      refine ex_get dX3_maskOf_64 gf_X3_11 hD.1 rfl ?_
      refine ex_iload rfl dX3_maskOf_67 ?_
      refine ex_aldqN dX3_maskOf_69 hD.2.1 (by omega) (by decide) (if_pos (by omega)) ?_
      refine ex_aload_n rfl dX3_maskOf_70 ?_
      refine ex_iload rfl dX3_maskOf_71 ?_
      refine ex_invv (k := 0) (n := 0) (mc' := 0) (ms' := 0) (As := [_]) dX3_maskOf_73 cv_X3_64 (by decide) (Nat.le_of_ble_eq_true rfl) (Or.inl ⟨_, _, _, _, (hD.2.2.1 i (by omega)).1.1, rfl⟩) (s_word (hD.2.2.1 i (by omega)).1 (k := k) (by omega)) (fun v h' q => ?_)
      obtain ⟨rfl, rfl⟩ := q
      refine ex_iconst (v := (nI 1)) (by decide) dX3_maskOf_76 ?_
      refine ex_invv (k := 0) (n := 0) (mc' := 0) (ms' := 0) (As := [_, _]) dX3_maskOf_77 cv_X3_88 (by decide) (Nat.le_of_ble_eq_true rfl) (Or.inl ⟨_, _, _, _, (hD.2.2.1 r (by omega)).1.1, rfl⟩) (s_find (hD.2.2.1 r (by omega)).1 (x := wo (S i) k) (fr := 1) (by omega) (by omega)) (fun v h' q => ?_)
      obtain ⟨rfl, rfl⟩ := q
      refine ex_istore (by decide) rfl dX3_maskOf_80 ?_
      refine ex_iload_n rfl dX3_maskOf_82 ?_
      refine ex_iload rfl dX3_maskOf_83 ?_
      refine ex_iconst (v := (-1)) (by decide) dX3_maskOf_85 ?_
      refine ex_icmpO_ne (tgt := 93) (by decide) dX3_maskOf_86 (fun j hj => by have := (fnd_some hj).2.1; have := (hD.2.2.1 r (by omega)).1.2.2.1.1; omega) (fun jc2 c2 => ?_) (fun c2 => ?_)
      · obtain ⟨b, rfl⟩ : ∃ b, jc2 = b + 1 := ⟨jc2 - 1, by have := (fnd_some c2).1; omega⟩
        rw [c2]
        refine ex_iconst (v := (nI 1)) (by decide) dX3_maskOf_93 ?_
        refine ex_iload rfl dX3_maskOf_94 ?_
        refine ex_iconst (v := (nI 1)) (by decide) dX3_maskOf_96 ?_
        refine ex_isubN (by omega) dX3_maskOf_97 ?_
        refine ex_ishl dX3_maskOf_98 ?_
        rw [shl_1 (by have := (fnd_some c2).2.1; have := (hD.2.2.1 r (by omega)).1.2.2.1.1; omega)]
        refine ex_ior dX3_maskOf_99 ?_
        rw [nx_or]
        refine ex_istore_n (by decide) rfl dX3_maskOf_100 ?_
        refine ex_iincN (z := 1) rfl (by decide) rfl dX3_maskOf_101 ?_
        refine ex_goto (tgt := 54) (by decide) dX3_maskOf_104 ?_
        exact ex_lv [(0, .ref a), (1, .ref (a + 2 + 2 * i)), (2, .int (nI c)), (3, .int (nI (w ||| 2 ^ b))), (4, .int (nI r)), (5, .int (nI (k + 1)))] ⟨rfl, rfl, rfl, rfl, rfl, rfl, trivial⟩ (ih (k + 1) (by omega) (by omega) (by omega) _ ((hw.o (by have := (fnd_some c2).2.1; have := (hD.2.2.1 r (by omega)).1.2.2.1.1; omega)).c (msb_y hk0 hk1 h2 c1 c2)))
      · skip
        refine ex_iconst (v := (nI 0)) (by decide) dX3_maskOf_89 ?_
        refine ex_goto (tgt := 99) (by decide) dX3_maskOf_90 ?_
        refine ex_ior dX3_maskOf_99 ?_
        rw [nx_or]
        refine ex_istore_n (by decide) rfl dX3_maskOf_100 ?_
        refine ex_iincN (z := 1) rfl (by decide) rfl dX3_maskOf_101 ?_
        refine ex_goto (tgt := 54) (by decide) dX3_maskOf_104 ?_
        rw [Nat.or_zero]
        exact ex_lv [(0, .ref a), (1, .ref (a + 2 + 2 * i)), (2, .int (nI c)), (3, .int (nI w)), (4, .int (nI r)), (5, .int (nI (k + 1)))] ⟨rfl, rfl, rfl, rfl, rfl, rfl, trivial⟩ (ih (k + 1) (by omega) (by omega) (by omega) w (hw.c (msb_n c2)))
set_option maxHeartbeats 4000000 in
set_option maxRecDepth 100000 in
theorem l_mask1 {G : EG} {l : Launch} {h : EH} {a n : Nat} {S : Nat → Stm} (hD : DR G h a n S) (hG : eInj G) {i c : Nat} (hi : i < 41) (hc : c < 9) : ∀ (f k : Nat), n - k < f → k ≤ n → ∀ w, isB w (msb S i c k 0) → Ex G l 2 mX3_maskOf (fun v h' => ∃ w, v = some (.int (nI w)) ∧ h' = h ∧ isB w (msk S n i c)) eNoX 0 0 5 [(0, .ref a), (1, .ref (a + 2 + 2 * i)), (2, .int (nI c)), (3, .int (nI w)), (4, .int (nI k))] [] h := by
  intro f
  induction f with
  | zero =>
    intro k h1 h2 w hw
    omega
  | succ f ih =>
    intro k h1 h2 w hw
    have hn := hD.2.2.2
    have hsi := (hD.2.2.1 i hi).1.2.2.1.1
    have hwc := wo_lt (hD.2.2.1 i hi).1 c
    have hwk : k < 41 → wo (S k) 0 < 2 ^ 30 := fun z => wo_lt (hD.2.2.1 k z).1 0
    refine ex_iload rfl dX3_maskOf_5 ?_
    refine ex_aload_n rfl dX3_maskOf_7 ?_
    refine ex_get dX3_maskOf_8 gf_X3_17 hD.1 rfl ?_
    refine ex_icmpN_ge (tgt := 113) (by decide) dX3_maskOf_11 (by omega) (by omega) (fun c1 => ?_) (fun c1 => ?_)
    · refine ex_iload_n rfl dX3_maskOf_113 ?_
      refine ex_iret dX3_maskOf_114 rfl ⟨w, rfl, rfl, by rw [show k = n by omega] at hw; exact hw⟩
    · refine ex_aload_n rfl dX3_maskOf_14 ?_
      refine ex_get dX3_maskOf_15 gf_X3_11 hD.1 rfl ?_
      refine ex_iload rfl dX3_maskOf_18 ?_
      refine ex_aldqN dX3_maskOf_20 hD.2.1 (by omega) (by decide) (if_pos (by omega)) ?_
      refine ex_invv (k := 0) (n := 0) (mc' := 0) (ms' := 0) (As := []) dX3_maskOf_21 cv_X3_49 (by decide) (Nat.le_of_ble_eq_true rfl) (Or.inl ⟨_, _, _, _, (hD.2.2.1 k (by omega)).1.1, rfl⟩) (s_kind (hD.2.2.1 k (by omega)).1) (fun v h' q => ?_)
      obtain ⟨rfl, rfl⟩ := q
      refine ex_gets (z := ("PolicyDesk$Kind", "CLASS", "LPolicyDesk$Kind;", .ref (ead G 0))) dX3_maskOf_24 (eZk (i := 0) (by decide)) gz_X3_40 ?_
      refine ex_acmp_ne (tgt := 107) (by decide) dX3_maskOf_27 (fun c2 => ?_) (fun c2 => ?_)
      · refine ex_iincN (z := 1) rfl (by decide) rfl dX3_maskOf_107 ?_
        refine ex_goto (tgt := 5) (by decide) dX3_maskOf_110 ?_
        exact ih (k + 1) (by omega) (by omega) w (hw.c (msb_sk (fun z => c2 (by rw [z.1]))))
      · refine ex_aload_n rfl dX3_maskOf_30 ?_
        refine ex_get dX3_maskOf_31 gf_X3_11 hD.1 rfl ?_
        refine ex_iload rfl dX3_maskOf_34 ?_
        refine ex_aldqN dX3_maskOf_36 hD.2.1 (by omega) (by decide) (if_pos (by omega)) ?_
        refine ex_iconst (v := (nI 0)) (by decide) dX3_maskOf_37 ?_
        refine ex_invv (k := 0) (n := 0) (mc' := 0) (ms' := 0) (As := [_]) dX3_maskOf_38 cv_X3_64 (by decide) (Nat.le_of_ble_eq_true rfl) (Or.inl ⟨_, _, _, _, (hD.2.2.1 k (by omega)).1.1, rfl⟩) (s_word (hD.2.2.1 k (by omega)).1 (k := 0) (by omega)) (fun v h' q => ?_)
        obtain ⟨rfl, rfl⟩ := q
        refine ex_aload_n rfl dX3_maskOf_41 ?_
        refine ex_iload_n rfl dX3_maskOf_42 ?_
        refine ex_invv (k := 0) (n := 0) (mc' := 0) (ms' := 0) (As := [_]) dX3_maskOf_43 cv_X3_64 (by decide) (Nat.le_of_ble_eq_true rfl) (Or.inl ⟨_, _, _, _, (hD.2.2.1 i (by omega)).1.1, rfl⟩) (s_word (hD.2.2.1 i (by omega)).1 (k := c) (by omega)) (fun v h' q => ?_)
        obtain ⟨rfl, rfl⟩ := q
        refine ex_icmpN_ne (tgt := 107) (by decide) dX3_maskOf_46 (Nat.lt_trans (hwk (by omega)) (by decide)) (by omega) (fun c3 => ?_) (fun c3 => ?_)
        · refine ex_iincN (z := 1) rfl (by decide) rfl dX3_maskOf_107 ?_
          refine ex_goto (tgt := 5) (by decide) dX3_maskOf_110 ?_
          exact ih (k + 1) (by omega) (by omega) w (hw.c (msb_sk (fun z => c3 z.2)))
        · refine ex_iload_n rfl dX3_maskOf_49 ?_
          refine ex_iconst (v := (nI 1)) (by decide) dX3_maskOf_50 ?_
          refine ex_iaddN dX3_maskOf_51 ?_
          refine ex_istore (by decide) rfl dX3_maskOf_52 ?_
          exact l_mask2 hD hi hc (by omega) (hG _ _ (hD.2.2.1 k (by omega)).2 (by decide) c2) c3 (fun w hw => ih (k + 1) (by omega) (by omega) w hw) (sz (S i) + 1) (c + 1) (by omega) (by omega) (by omega) w (hw.c msb_st)
set_option maxHeartbeats 4000000 in
set_option maxRecDepth 100000 in
theorem s_maskOf {G : EG} {l : Launch} {h : EH} {a n : Nat} {S : Nat → Stm} (hD : DR G h a n S) (hG : eInj G) {i c : Nat} (hi : i < 41) (hc : c < 9) : ES G l 2 mX3_maskOf [.ref a, .ref (a + 2 + 2 * i), .int (nI c)] h 0 0 (fun v h' => ∃ w, v = some (.int (nI w)) ∧ h' = h ∧ isB w (msk S n i c)) eNoX := by
  refine es_of (by decide) rfl (Nat.le_of_ble_eq_true rfl) ?_
  refine ex_iconst (v := (nI 0)) (by decide) dX3_maskOf_0 ?_
  refine ex_istore_n (by decide) rfl dX3_maskOf_1 ?_
  refine ex_iconst (v := (nI 0)) (by decide) dX3_maskOf_2 ?_
  refine ex_istore (by decide) rfl dX3_maskOf_3 ?_
  exact l_mask1 hD hG hi hc (n + 1) 0 (by omega) (by omega) 0 (isB.z.c (fun j => ⟨fun z => z.elim, fun ⟨q, _, _, m, _, _, _, z⟩ => by omega⟩))
