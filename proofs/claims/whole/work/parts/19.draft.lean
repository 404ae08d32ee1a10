/-! DRAFT: the row of statements (PolicyDesk$Draft), first part -/
def rowsF (a : Nat) : Nat → Option Nat := fun i => if i < 41 then some (a + 2 + 2 * i) else none
def DR (G : EG) (h : EH) (a n : Nat) (S : Nat → Stm) : Prop := h.2 a = some (.inr (1, [.ref (a + 1), .int (nI n)])) ∧ h.2 (a + 1) = some (.inl (eA G 4, 41, .inr (.inr (.inr (.inr (rowsF a)))))) ∧ (∀ i, i < 41 → ST G h (a + 2 + 2 * i) (a + 3 + 2 * i) (S i) ∧ kd (S i) < 9) ∧ n ≤ 40
abbrev atD (a : Nat) : Nat → Prop := fun q => a ≤ q ∧ q ≤ a + 83
theorem DR.fr {G : EG} {h h' : EH} {a n : Nat} {S : Nat → Stm} {P : Nat → Prop} (x : DR G h a n S) (w : Fr P h h') (ha : ∀ q, atD a q → ¬ P q) : DR G h' a n S :=
  ⟨w.get (ha _ ⟨by omega, by omega⟩) x.1, w.get (ha _ ⟨by omega, by omega⟩) x.2.1, fun i hi => ⟨(x.2.2.1 i hi).1.fr w (ha _ ⟨by omega, by omega⟩) (ha _ ⟨by omega, by omega⟩), (x.2.2.1 i hi).2⟩, x.2.2.2⟩
/-- how many of the first statements are of a kind -/
def cntk (S : Nat → Stm) (κ : Nat) : Nat → Nat
  | 0 => 0
  | i + 1 => cntk S κ i + (if kd (S i) = κ then 1 else 0)
theorem cntk_y {S : Nat → Stm} {κ i : Nat} (h : kd (S i) = κ) : cntk S κ (i + 1) = cntk S κ i + 1 := by show _ + _ = _; rw [if_pos h]
theorem cntk_n {S : Nat → Stm} {κ i : Nat} (h : kd (S i) ≠ κ) : cntk S κ (i + 1) = cntk S κ i + 0 := by show _ + _ = _; rw [if_neg h]
theorem cntk_le (S : Nat → Stm) (κ i : Nat) : cntk S κ i ≤ i := by
  induction i with
  | zero => exact Nat.le_refl _
  | succ i ih => show _ + _ ≤ _; split <;> omega
/-- where a kind declares a name -/
def decl (S : Nat → Stm) (κ x : Nat) : Nat → Nat := fun i => if kd (S i) = κ ∧ wo (S i) 0 = x then 1 else 0
theorem decl_y {S : Nat → Stm} {κ x i : Nat} (h1 : kd (S i) = κ) (h2 : wo (S i) 0 = x) : decl S κ x i = 1 := if_pos ⟨h1, h2⟩
theorem decl_n {S : Nat → Stm} {κ x i : Nat} (h : ¬ (kd (S i) = κ ∧ wo (S i) 0 = x)) : decl S κ x i ≠ 1 := by rw [decl, if_neg h]; decide
theorem decl_1 {S : Nat → Stm} {κ x i : Nat} (h : decl S κ x i = 1) : kd (S i) = κ ∧ wo (S i) 0 = x := by
  unfold decl at h
  by_cases q : kd (S i) = κ ∧ wo (S i) 0 = x
  · exact q
  · rw [if_neg q] at h; cases h
def nof (S : Nat → Stm) (κ x n : Nat) : Option Nat := (fnd (decl S κ x) 1 0 n).map (cntk S κ)
/-- some statement of the kind bears the name -/
def isN (S : Nat → Stm) (n κ x : Nat) : Prop := ∃ i, i < n ∧ kd (S i) = κ ∧ wo (S i) 0 = x
theorem nof_none {S : Nat → Stm} {κ x n : Nat} : nof S κ x n = none ↔ ¬ isN S n κ x := by
  unfold nof
  constructor
  · intro h ⟨i, i1, i2, i3⟩
    obtain ⟨k, hk⟩ := fnd_ex (ws := decl S κ x) (x := 1) (j := 0) (r := n) (Nat.zero_le i) (by omega) (decl_y i2 i3)
    rw [hk] at h
    cases h
  · intro h
    cases hq : fnd (decl S κ x) 1 0 n with
    | none => rfl
    | some k =>
      obtain ⟨h1, h2, h3, -⟩ := fnd_some hq
      exact absurd ⟨k, by omega, decl_1 h3⟩ h
def isAt (S : Nat → Stm) (n x : Nat) : Prop := ∃ i, i < n ∧ kd (S i) = 1 ∧ ∃ k, 1 ≤ k ∧ k < sz (S i) ∧ wd (S i) k = x
def isPm (S : Nat → Stm) (n c x : Nat) : Prop := ∃ i, i < n ∧ kd (S i) = 0 ∧ wo (S i) 0 = c ∧ ∃ k, 1 ≤ k ∧ k < sz (S i) ∧ wd (S i) k = x
def rep (S : Nat → Stm) (i m : Nat) : Prop := ∃ k, k < i ∧ kd (S k) = kd (S i) ∧ ∀ j, j < m → wo (S k) j = wo (S i) j
theorem fnd_iff {ws : Nat → Nat} {x j r : Nat} : fnd ws x j r = none ↔ ¬ ∃ k, j ≤ k ∧ k < j + r ∧ ws k = x := by
  constructor
  · intro h ⟨k, k1, k2, k3⟩
    exact fnd_none h k k1 k2 k3
  · intro h
    cases hq : fnd ws x j r with
    | none => rfl
    | some k =>
      obtain ⟨h1, h2, h3, -⟩ := fnd_some hq
      exact absurd ⟨k, h1, h2, h3⟩ h
set_option maxHeartbeats 4000000 in
set_option maxRecDepth 100000 in
theorem s_dsize {G : EG} {l : Launch} {h : EH} {a n : Nat} {S : Nat → Stm} (hD : DR G h a n S) : ES G l 0 mX3_size [.ref a] h 0 0 (fun v h' => v = some (.int (nI n)) ∧ h' = h) eNoX := by
  refine es_of (by decide) rfl (Nat.le_of_ble_eq_true rfl) ?_
  refine ex_aload_n rfl dX3_size_0 ?_
  refine ex_get dX3_size_1 gf_X3_17 hD.1 rfl ?_
  refine ex_iret dX3_size_4 rfl ⟨rfl, rfl⟩
set_option maxHeartbeats 4000000 in
set_option maxRecDepth 100000 in
theorem s_row {G : EG} {l : Launch} {h : EH} {a n : Nat} {S : Nat → Stm} (hD : DR G h a n S) {i : Nat} (hi : i < n) : ES G l 0 mX3_row [.ref a, .int (nI i)] h 0 0 (fun v h' => v = some (.ref (a + 2 + 2 * i)) ∧ h' = h) eNoX := by
  have hn := hD.2.2.2
  refine es_of (by decide) rfl (Nat.le_of_ble_eq_true rfl) ?_
  refine ex_aload_n rfl dX3_row_0 ?_
  refine ex_get dX3_row_1 gf_X3_11 hD.1 rfl ?_
  refine ex_iload_n rfl dX3_row_4 ?_
  refine ex_ifN_lt (tgt := 20) (by decide) dX3_row_5 (by omega) (fun c1 => ?_) (fun c1 => ?_)
  · exact c1.elim
  · refine ex_iload_n rfl dX3_row_8 ?_
    refine ex_aload_n rfl dX3_row_9 ?_
    refine ex_get dX3_row_10 gf_X3_17 hD.1 rfl ?_
    refine ex_icmpN_ge (tgt := 20) (by decide) dX3_row_13 (by omega) (by omega) (fun c2 => ?_) (fun c2 => ?_)
    · refine ex_aload_n rfl dX3_row_20 ?_
      refine ex_get dX3_row_21 gf_X3_17 hD.1 rfl ?_
      refine ex_aldqN dX3_row_24 hD.2.1 (by omega) (by decide) (if_pos (by omega)) ?_
      omega
    · refine ex_iload_n rfl dX3_row_16 ?_
      refine ex_goto (tgt := 24) (by decide) dX3_row_17 ?_
      refine ex_aldqN dX3_row_24 hD.2.1 (by omega) (by decide) (if_pos (by omega)) ?_
      refine ex_aret dX3_row_25 rfl ⟨rfl, rfl⟩
set_option maxHeartbeats 4000000 in
set_option maxRecDepth 100000 in
theorem s_spare {G : EG} {l : Launch} {h : EH} {a n : Nat} {S : Nat → Stm} (hD : DR G h a n S) : ES G l 0 mX3_spare [.ref a] h 0 0 (fun v h' => v = some (.ref (a + 2 + 2 * n)) ∧ h' = h) eNoX := by
  have hn := hD.2.2.2
  refine es_of (by decide) rfl (Nat.le_of_ble_eq_true rfl) ?_
  refine ex_aload_n rfl dX3_spare_0 ?_
  refine ex_get dX3_spare_1 gf_X3_11 hD.1 rfl ?_
  refine ex_aload_n rfl dX3_spare_4 ?_
  refine ex_get dX3_spare_5 gf_X3_17 hD.1 rfl ?_
  refine ex_aldqN dX3_spare_8 hD.2.1 (by omega) (by decide) (if_pos (by omega)) ?_
  refine ex_aret dX3_spare_9 rfl ⟨rfl, rfl⟩
set_option maxHeartbeats 4000000 in
set_option maxRecDepth 100000 in
theorem s_hasRoom {G : EG} {l : Launch} {h : EH} {a n : Nat} {S : Nat → Stm} (hD : DR G h a n S) : ES G l 0 mX3_hasRoom [.ref a] h 0 0 (fun v h' => v = some (.int (b2i (decide (n < 40)))) ∧ h' = h) eNoX := by
  have hn := hD.2.2.2
  refine es_of (by decide) rfl (Nat.le_of_ble_eq_true rfl) ?_
  refine ex_aload_n rfl dX3_hasRoom_0 ?_
  refine ex_get dX3_hasRoom_1 gf_X3_17 hD.1 rfl ?_
  refine ex_bipush (v := (nI 40)) (by decide) dX3_hasRoom_4 ?_
  refine ex_icmpN_ge (tgt := 13) (by decide) dX3_hasRoom_6 (by omega) (by omega) (fun c1 => ?_) (fun c1 => ?_)
  · refine ex_iconst (v := (nI 0)) (by decide) dX3_hasRoom_13 ?_
    refine ex_zret dX3_hasRoom_14 rfl rfl ⟨by rw [decide_eq_false (by omega)]; rfl, rfl⟩
  · refine ex_iconst (v := (nI 1)) (by decide) dX3_hasRoom_9 ?_
    refine ex_goto (tgt := 14) (by decide) dX3_hasRoom_10 ?_
    refine ex_zret dX3_hasRoom_14 rfl rfl ⟨by rw [decide_eq_true (by omega)]; rfl, rfl⟩
set_option maxHeartbeats 4000000 in
set_option maxRecDepth 100000 in
theorem s_keepSpare {G : EG} {l : Launch} {h : EH} {a n : Nat} {S : Nat → Stm} (hD : DR G h a n S) (hr : n < 40) : ES G l 1 mX3_keepSpare [.ref a] h 0 0 (fun v h' => v = some (.int (nI n)) ∧ DR G h' a (n + 1) S ∧ Fr (fun q => q = a) h h') eNoX := by
  have hn := hD.2.2.2
  refine es_of (by decide) rfl (Nat.le_of_ble_eq_true rfl) ?_
  refine ex_aload_n rfl dX3_keepSpare_0 ?_
  refine ex_get dX3_keepSpare_1 gf_X3_17 hD.1 rfl ?_
  refine ex_istore_n (by decide) rfl dX3_keepSpare_4 ?_
  refine ex_aload_n rfl dX3_keepSpare_5 ?_
  refine ex_dup rfl dX3_keepSpare_6 ?_
  refine ex_get dX3_keepSpare_7 gf_X3_17 hD.1 rfl ?_
  refine ex_aload_n rfl dX3_keepSpare_10 ?_
  refine ex_invv (k := 0) (n := 0) (mc' := 0) (ms' := 0) (As := []) dX3_keepSpare_11 cv_X3_22 (by decide) (Nat.le_of_ble_eq_true rfl) (Or.inl ⟨_, _, _, _, hD.1, rfl⟩) (s_hasRoom hD) (fun v h' q => ?_)
  obtain ⟨rfl, rfl⟩ := q
  refine ex_ifB_eq (tgt := 21) (by decide) dX3_keepSpare_14 (fun c1 => ?_) (fun c1 => ?_)
  · refine ex_iconst (v := (nI 0)) (by decide) dX3_keepSpare_21 ?_
    refine ex_iaddN dX3_keepSpare_22 ?_
    refine ex_put dX3_keepSpare_23 pf_X3_17 hD.1 (Nat.le_of_ble_eq_true rfl) rfl rfl ?_
    refine ex_iload_n rfl dX3_keepSpare_26 ?_
    exact absurd (of_decide_eq_false c1) (by omega)
  · refine ex_iconst (v := (nI 1)) (by decide) dX3_keepSpare_17 ?_
    refine ex_goto (tgt := 22) (by decide) dX3_keepSpare_18 ?_
    refine ex_iaddN dX3_keepSpare_22 ?_
    refine ex_put dX3_keepSpare_23 pf_X3_17 hD.1 (Nat.le_of_ble_eq_true rfl) rfl rfl ?_
    refine ex_iload_n rfl dX3_keepSpare_26 ?_
    refine ex_iret dX3_keepSpare_27 rfl ⟨rfl, ⟨hup_eq, hup_ne (by omega) hD.2.1, fun i hi => ⟨(hD.2.2.1 i hi).1.fr (Fr.rf.up (P := fun q => q = a) rfl) (by omega) (by omega), (hD.2.2.1 i hi).2⟩, by omega⟩, Fr.rf.up rfl⟩
set_option maxHeartbeats 4000000 in
set_option maxRecDepth 100000 in
theorem s_shorten {G : EG} {l : Launch} {h : EH} {a n : Nat} {S : Nat → Stm} (hD : DR G h a n S) {m : Nat} (hm : m ≤ n) : ES G l 0 mX3_shorten [.ref a, .int (nI m)] h 0 0 (fun v h' => v = some (.int (nI 1)) ∧ DR G h' a m S ∧ Fr (fun q => q = a) h h') eNoX := by
  have hn := hD.2.2.2
  refine es_of (by decide) rfl (Nat.le_of_ble_eq_true rfl) ?_
  refine ex_iload_n rfl dX3_shorten_0 ?_
  refine ex_ifN_lt (tgt := 12) (by decide) dX3_shorten_1 (by omega) (fun c1 => ?_) (fun c1 => ?_)
  · exact c1.elim
  · refine ex_iload_n rfl dX3_shorten_4 ?_
    refine ex_aload_n rfl dX3_shorten_5 ?_
    refine ex_get dX3_shorten_6 gf_X3_17 hD.1 rfl ?_
    refine ex_icmpN_le (tgt := 14) (by decide) dX3_shorten_9 (by omega) (by omega) (fun c2 => ?_) (fun c2 => ?_)
    · refine ex_aload_n rfl dX3_shorten_14 ?_
      refine ex_iload_n rfl dX3_shorten_15 ?_
      refine ex_put dX3_shorten_16 pf_X3_17 hD.1 (Nat.le_of_ble_eq_true rfl) rfl rfl ?_
      refine ex_iconst (v := (nI 1)) (by decide) dX3_shorten_19 ?_
      refine ex_zret dX3_shorten_20 rfl rfl ⟨rfl, ⟨hup_eq, hup_ne (by omega) hD.2.1, fun i hi => ⟨(hD.2.2.1 i hi).1.fr (Fr.rf.up (P := fun q => q = a) rfl) (by omega) (by omega), (hD.2.2.1 i hi).2⟩, by omega⟩, Fr.rf.up rfl⟩
    · refine ex_iconst (v := (nI 0)) (by decide) dX3_shorten_12 ?_
      omega
set_option maxHeartbeats 4000000 in
set_option maxRecDepth 100000 in
theorem s_shortenNo {G : EG} {l : Launch} {h : EH} {a n : Nat} {S : Nat → Stm} (hD : DR G h a n S) {m : Int32} (hm : m < 0 ∨ nI n < m) : ES G l 0 mX3_shorten [.ref a, .int m] h 0 0 (fun v h' => v = some (.int (nI 0)) ∧ h' = h) eNoX := by
  have hn := hD.2.2.2
  refine es_of (by decide) rfl (Nat.le_of_ble_eq_true rfl) ?_
  refine ex_iload_n rfl dX3_shorten_0 ?_
  refine ex_if_lt (tgt := 12) (by decide) dX3_shorten_1 (fun c1 => ?_) (fun c1 => ?_)
  · refine ex_iconst (v := (nI 0)) (by decide) dX3_shorten_12 ?_
    refine ex_zret dX3_shorten_13 rfl rfl ⟨rfl, rfl⟩
  · refine ex_iload_n rfl dX3_shorten_4 ?_
    refine ex_aload_n rfl dX3_shorten_5 ?_
    refine ex_get dX3_shorten_6 gf_X3_17 hD.1 rfl ?_
    refine ex_icmp_le (tgt := 14) (by decide) dX3_shorten_9 (fun c2 => ?_) (fun c2 => ?_)
    · exact (hm.elim c1 (fun q => absurd c2 (fun z => by rw [Int32.le_iff_toInt_le] at z; rw [Int32.lt_iff_toInt_lt] at q; omega))).elim
    · refine ex_iconst (v := (nI 0)) (by decide) dX3_shorten_12 ?_
      refine ex_zret dX3_shorten_13 rfl rfl ⟨rfl, rfl⟩
set_option maxHeartbeats 4000000 in
set_option maxRecDepth 100000 in
theorem l_howMany {G : EG} {l : Launch} {h : EH} {a n : Nat} {S : Nat → Stm} (hD : DR G h a n S) (hG : eInj G) {κ e : Nat} (hκ : κ < 9) (he : e ≤ 41) : ∀ (f k : Nat), e - k < f → k ≤ e → Ex G l 1 mX3_howMany (fun v h' => v = some (.int (nI (cntk S κ e))) ∧ h' = h) eNoX 0 0 5 [(0, .ref a), (1, .ref (ead G κ)), (2, .int (nI e)), (3, .int (nI (cntk S κ k))), (4, .int (nI k))] [] h := by
  intro f
  induction f with
  | zero =>
    intro k h1 h2
    omega
  | succ f ih =>
    intro k h1 h2
    have hn := hD.2.2.2
    refine ex_iload rfl dX3_howMany_5 ?_
    refine ex_iload_n rfl dX3_howMany_7 ?_
    refine ex_icmpN_ge (tgt := 39) (by decide) dX3_howMany_8 (by omega) (by omega) (fun c1 => ?_) (fun c1 => ?_)
    · refine ex_iload_n rfl dX3_howMany_39 ?_
      refine ex_iret dX3_howMany_40 rfl ⟨by rw [show k = e by omega], rfl⟩
    · refine ex_iload_n rfl dX3_howMany_11 ?_
      refine ex_aload_n rfl dX3_howMany_12 ?_
      refine ex_get dX3_howMany_13 gf_X3_11 hD.1 rfl ?_
      refine ex_iload rfl dX3_howMany_16 ?_
      refine ex_aldqN dX3_howMany_18 hD.2.1 (by omega) (by decide) (if_pos (by omega)) ?_
      refine ex_invv (k := 0) (n := 0) (mc' := 0) (ms' := 0) (As := []) dX3_howMany_19 cv_X3_49 (by decide) (Nat.le_of_ble_eq_true rfl) (Or.inl ⟨_, _, _, _, (hD.2.2.1 k (by omega)).1.1, rfl⟩) (s_kind (hD.2.2.1 k (by omega)).1) (fun v h' q => ?_)
      obtain ⟨rfl, rfl⟩ := q
      refine ex_aload_n rfl dX3_howMany_22 ?_
      refine ex_acmp_ne (tgt := 30) (by decide) dX3_howMany_23 (fun c2 => ?_) (fun c2 => ?_)
      · refine ex_iconst (v := (nI 0)) (by decide) dX3_howMany_30 ?_
        refine ex_iaddN dX3_howMany_31 ?_
        refine ex_istore_n (by decide) rfl dX3_howMany_32 ?_
        refine ex_iincN (z := 1) rfl (by decide) rfl dX3_howMany_33 ?_
        refine ex_goto (tgt := 5) (by decide) dX3_howMany_36 ?_
        exact ex_lv [(0, .ref a), (1, .ref (ead G κ)), (2, .int (nI e)), (3, .int (nI (cntk S κ (k + 1)))), (4, .int (nI (k + 1)))] ⟨rfl, rfl, rfl, by show some (Value.int (nI (cntk S κ k + 0))) = _; rw [cntk_n (fun z => c2 (by rw [z]))], rfl, trivial⟩ (ih (k + 1) (by omega) (by omega))
      · refine ex_iconst (v := (nI 1)) (by decide) dX3_howMany_26 ?_
        refine ex_goto (tgt := 31) (by decide) dX3_howMany_27 ?_
        refine ex_iaddN dX3_howMany_31 ?_
        refine ex_istore_n (by decide) rfl dX3_howMany_32 ?_
        refine ex_iincN (z := 1) rfl (by decide) rfl dX3_howMany_33 ?_
        refine ex_goto (tgt := 5) (by decide) dX3_howMany_36 ?_
        exact ex_lv [(0, .ref a), (1, .ref (ead G κ)), (2, .int (nI e)), (3, .int (nI (cntk S κ (k + 1)))), (4, .int (nI (k + 1)))] ⟨rfl, rfl, rfl, by show some (Value.int (nI (cntk S κ k + 1))) = _; rw [cntk_y (hG _ _ (hD.2.2.1 k (by omega)).2 hκ c2)], rfl, trivial⟩ (ih (k + 1) (by omega) (by omega))
set_option maxHeartbeats 4000000 in
set_option maxRecDepth 100000 in
theorem s_howMany {G : EG} {l : Launch} {h : EH} {a n : Nat} {S : Nat → Stm} (hD : DR G h a n S) (hG : eInj G) {κ e : Nat} (hκ : κ < 9) (he : e ≤ 41) : ES G l 1 mX3_howMany [.ref a, .ref (ead G κ), .int (nI e)] h 0 0 (fun v h' => v = some (.int (nI (cntk S κ e))) ∧ h' = h) eNoX := by
  refine es_of (by decide) rfl (Nat.le_of_ble_eq_true rfl) ?_
  refine ex_iconst (v := (nI 0)) (by decide) dX3_howMany_0 ?_
  refine ex_istore_n (by decide) rfl dX3_howMany_1 ?_
  refine ex_iconst (v := (nI 0)) (by decide) dX3_howMany_2 ?_
  refine ex_istore (by decide) rfl dX3_howMany_3 ?_
  exact l_howMany hD hG hκ he (e + 1) 0 (by omega) (by omega)
set_option maxHeartbeats 4000000 in
set_option maxRecDepth 100000 in
theorem l_numberOf {G : EG} {l : Launch} {h : EH} {a n : Nat} {S : Nat → Stm} (hD : DR G h a n S) (hG : eInj G) {κ x : Nat} (hκ : κ < 9) (hx : x < 2 ^ 30) : ∀ (f k : Nat), n - k < f → k ≤ n → fnd (decl S κ x) 1 0 n = fnd (decl S κ x) 1 k (n - k) → Ex G l 1 mX3_numberOf (fun v h' => v = some (.int (oI (nof S κ x n))) ∧ h' = h) eNoX 0 0 5 [(0, .ref a), (1, .ref (ead G κ)), (2, .int (nI x)), (3, .int (nI (cntk S κ k))), (4, .int (nI k))] [] h := by
  intro f
  induction f with
  | zero =>
    intro k h1 h2 he
    omega
  | succ f ih =>
    intro k h1 h2 he
    have hn := hD.2.2.2
    have hwk : k < 41 → wo (S k) 0 < 2 ^ 30 := fun z => wo_lt (hD.2.2.1 k z).1 0
    refine ex_iload rfl dX3_numberOf_5 ?_
    refine ex_aload_n rfl dX3_numberOf_7 ?_
    refine ex_get dX3_numberOf_8 gf_X3_17 hD.1 rfl ?_
    refine ex_icmpN_ge (tgt := 54) (by decide) dX3_numberOf_11 (by omega) (by omega) (fun c1 => ?_) (fun c1 => ?_)
    · refine ex_iconst (v := (-1)) (by decide) dX3_numberOf_54 ?_
      refine ex_iret dX3_numberOf_55 rfl ⟨by rw [nof, he, show n - k = 0 by omega]; rfl, rfl⟩
    · refine ex_aload_n rfl dX3_numberOf_14 ?_
      refine ex_get dX3_numberOf_15 gf_X3_11 hD.1 rfl ?_
      refine ex_iload rfl dX3_numberOf_18 ?_
      refine ex_aldqN dX3_numberOf_20 hD.2.1 (by omega) (by decide) (if_pos (by omega)) ?_
      refine ex_invv (k := 0) (n := 0) (mc' := 0) (ms' := 0) (As := []) dX3_numberOf_21 cv_X3_49 (by decide) (Nat.le_of_ble_eq_true rfl) (Or.inl ⟨_, _, _, _, (hD.2.2.1 k (by omega)).1.1, rfl⟩) (s_kind (hD.2.2.1 k (by omega)).1) (fun v h' q => ?_)
      obtain ⟨rfl, rfl⟩ := q
      refine ex_aload_n rfl dX3_numberOf_24 ?_
      refine ex_acmp_ne (tgt := 48) (by decide) dX3_numberOf_25 (fun c2 => ?_) (fun c2 => ?_)
      · refine ex_iincN (z := 1) rfl (by decide) rfl dX3_numberOf_48 ?_
        refine ex_goto (tgt := 5) (by decide) dX3_numberOf_51 ?_
        exact ex_lv [(0, .ref a), (1, .ref (ead G κ)), (2, .int (nI x)), (3, .int (nI (cntk S κ (k + 1)))), (4, .int (nI (k + 1)))] ⟨rfl, rfl, rfl, by show some (Value.int (nI (cntk S κ k))) = _; rw [cntk_n (fun z => c2 (by rw [z]))]; rfl, rfl, trivial⟩ (ih (k + 1) (by omega) (by omega) (he.trans (fnd_step (decl_n (fun z => c2 (by rw [z.1]))) (by omega))))
      · refine ex_aload_n rfl dX3_numberOf_28 ?_
        refine ex_get dX3_numberOf_29 gf_X3_11 hD.1 rfl ?_
        refine ex_iload rfl dX3_numberOf_32 ?_
        refine ex_aldqN dX3_numberOf_34 hD.2.1 (by omega) (by decide) (if_pos (by omega)) ?_
        refine ex_iconst (v := (nI 0)) (by decide) dX3_numberOf_35 ?_
        refine ex_invv (k := 0) (n := 0) (mc' := 0) (ms' := 0) (As := [_]) dX3_numberOf_36 cv_X3_64 (by decide) (Nat.le_of_ble_eq_true rfl) (Or.inl ⟨_, _, _, _, (hD.2.2.1 k (by omega)).1.1, rfl⟩) (s_word (hD.2.2.1 k (by omega)).1 (k := 0) (by omega)) (fun v h' q => ?_)
        obtain ⟨rfl, rfl⟩ := q
        refine ex_iload_n rfl dX3_numberOf_39 ?_
        refine ex_icmpN_ne (tgt := 45) (by decide) dX3_numberOf_40 (Nat.lt_trans (hwk (by omega)) (by decide)) (by omega) (fun c3 => ?_) (fun c3 => ?_)
        · refine ex_iincN (z := 1) rfl (by decide) rfl dX3_numberOf_45 ?_
          refine ex_iincN (z := 1) rfl (by decide) rfl dX3_numberOf_48 ?_
          refine ex_goto (tgt := 5) (by decide) dX3_numberOf_51 ?_
          exact ex_lv [(0, .ref a), (1, .ref (ead G κ)), (2, .int (nI x)), (3, .int (nI (cntk S κ (k + 1)))), (4, .int (nI (k + 1)))] ⟨rfl, rfl, rfl, by show some (Value.int (nI (cntk S κ k + 1))) = _; rw [cntk_y (hG _ _ (hD.2.2.1 k (by omega)).2 hκ c2)], rfl, trivial⟩ (ih (k + 1) (by omega) (by omega) (he.trans (fnd_step (decl_n (fun z => c3 z.2)) (by omega))))
        · refine ex_iload_n rfl dX3_numberOf_43 ?_
          refine ex_iret dX3_numberOf_44 rfl ⟨by rw [nof, he, fnd_hit (decl_y (hG _ _ (hD.2.2.1 k (by omega)).2 hκ c2) c3) (by omega)]; rfl, rfl⟩
set_option maxHeartbeats 4000000 in
set_option maxRecDepth 100000 in
theorem s_numberOf {G : EG} {l : Launch} {h : EH} {a n : Nat} {S : Nat → Stm} (hD : DR G h a n S) (hG : eInj G) {κ x : Nat} (hκ : κ < 9) (hx : x < 2 ^ 30) : ES G l 1 mX3_numberOf [.ref a, .ref (ead G κ), .int (nI x)] h 0 0 (fun v h' => v = some (.int (oI (nof S κ x n))) ∧ h' = h) eNoX := by
  refine es_of (by decide) rfl (Nat.le_of_ble_eq_true rfl) ?_
  refine ex_iconst (v := (nI 0)) (by decide) dX3_numberOf_0 ?_
  refine ex_istore_n (by decide) rfl dX3_numberOf_1 ?_
  refine ex_iconst (v := (nI 0)) (by decide) dX3_numberOf_2 ?_
  refine ex_istore (by decide) rfl dX3_numberOf_3 ?_
  exact l_numberOf hD hG hκ hx (n + 1) 0 (by omega) (by omega) rfl
theorem nof_lt {S : Nat → Stm} {κ x n N : Nat} (hn : n ≤ N) : ∀ j, nof S κ x n = some j → j < N + 1 := by
  intro j h
  unfold nof at h
  cases hq : fnd (decl S κ x) 1 0 n with
  | none => rw [hq] at h; cases h
  | some k =>
    rw [hq] at h
    have h1 := (fnd_some hq).2.1
    have h2 := cntk_le S κ k
    have h3 : cntk S κ k = j := Option.some.inj h
    omega
set_option maxHeartbeats 4000000 in
set_option maxRecDepth 100000 in
theorem s_isType {G : EG} {l : Launch} {h : EH} {a n : Nat} {S : Nat → Stm} (hD : DR G h a n S) (hG : eInj G) {x : Nat} (hx : x < 2 ^ 30) : ES G l 2 mX3_isType [.ref a, .int (nI x)] h 0 0 (fun v h' => v = some (.int (b2i (bP (isN S n 1 x)))) ∧ h' = h) eNoX := by
  have hn := hD.2.2.2
  refine es_of (by decide) rfl (Nat.le_of_ble_eq_true rfl) ?_
  refine ex_aload_n rfl dX3_isType_0 ?_
  refine ex_gets (z := ("PolicyDesk$Kind", "TYPE", "LPolicyDesk$Kind;", .ref (ead G 1))) dX3_isType_1 (eZk (i := 1) (by decide)) gz_X3_30 ?_
  refine ex_iload_n rfl dX3_isType_4 ?_
  refine ex_invv (k := 0) (n := 0) (mc' := 0) (ms' := 0) (As := [_, _]) dX3_isType_5 cv_X3_82 (by decide) (Nat.le_of_ble_eq_true rfl) (Or.inl ⟨_, _, _, _, hD.1, rfl⟩) (s_numberOf hD hG (κ := 1) (by decide) hx) (fun v h' q => ?_)
  obtain ⟨rfl, rfl⟩ := q
  refine ex_iconst (v := (-1)) (by decide) dX3_isType_8 ?_
  refine ex_icmpO_eq (tgt := 16) (by decide) dX3_isType_9 (fun j hj => Nat.lt_trans (nof_lt hn j hj) (by decide)) (fun c1 => ?_) (fun jc1 c1 => ?_)
  · refine ex_iconst (v := (nI 0)) (by decide) dX3_isType_16 ?_
    refine ex_zret dX3_isType_17 rfl rfl ⟨rF (nof_none.mp c1), rfl⟩
  · refine ex_iconst (v := (nI 1)) (by decide) dX3_isType_12 ?_
    refine ex_goto (tgt := 17) (by decide) dX3_isType_13 ?_
    refine ex_zret dX3_isType_17 rfl rfl ⟨rT (Classical.not_not.mp (fun z => by rw [nof_none.mpr z] at c1; cases c1)), rfl⟩
set_option maxHeartbeats 4000000 in
set_option maxRecDepth 100000 in
theorem l_isAttribute {G : EG} {l : Launch} {h : EH} {a n : Nat} {S : Nat → Stm} (hD : DR G h a n S) (hG : eInj G) {x : Nat} (hx : x < 2 ^ 30) : ∀ (f k : Nat), n - k < f → k ≤ n → (∀ i, i < k → ¬ (kd (S i) = 1 ∧ ∃ j, 1 ≤ j ∧ j < sz (S i) ∧ wd (S i) j = x)) → Ex G l 2 mX3_isAttribute (fun v h' => v = some (.int (b2i (bP (isAt S n x)))) ∧ h' = h) eNoX 0 0 2 [(0, .ref a), (1, .int (nI x)), (2, .int (nI k))] [] h := by
  intro f
  induction f with
  | zero =>
    intro k h1 h2 he
    omega
  | succ f ih =>
    intro k h1 h2 he
    have hn := hD.2.2.2
    have hsk : k < 41 → sz (S k) ≤ 9 := fun z => (hD.2.2.1 k z).1.2.2.1.1
    refine ex_iload_n rfl dX3_isAttribute_2 ?_
    refine ex_aload_n rfl dX3_isAttribute_3 ?_
    refine ex_get dX3_isAttribute_4 gf_X3_17 hD.1 rfl ?_
    refine ex_icmpN_ge (tgt := 48) (by decide) dX3_isAttribute_7 (by omega) (by omega) (fun c1 => ?_) (fun c1 => ?_)
    · refine ex_iconst (v := (nI 0)) (by decide) dX3_isAttribute_48 ?_
      refine ex_zret dX3_isAttribute_49 rfl rfl ⟨rF (fun ⟨i, i1, i2⟩ => he i (by omega) i2), rfl⟩
    · refine ex_aload_n rfl dX3_isAttribute_10 ?_
      refine ex_get dX3_isAttribute_11 gf_X3_11 hD.1 rfl ?_
      refine ex_iload_n rfl dX3_isAttribute_14 ?_
      refine ex_aldqN dX3_isAttribute_15 hD.2.1 (by omega) (by decide) (if_pos (by omega)) ?_
      refine ex_invv (k := 0) (n := 0) (mc' := 0) (ms' := 0) (As := []) dX3_isAttribute_16 cv_X3_49 (by decide) (Nat.le_of_ble_eq_true rfl) (Or.inl ⟨_, _, _, _, (hD.2.2.1 k (by omega)).1.1, rfl⟩) (s_kind (hD.2.2.1 k (by omega)).1) (fun v h' q => ?_)
      obtain ⟨rfl, rfl⟩ := q
      refine ex_gets (z := ("PolicyDesk$Kind", "TYPE", "LPolicyDesk$Kind;", .ref (ead G 1))) dX3_isAttribute_19 (eZk (i := 1) (by decide)) gz_X3_30 ?_
      refine ex_acmp_ne (tgt := 42) (by decide) dX3_isAttribute_22 (fun c2 => ?_) (fun c2 => ?_)
      · refine ex_iincN (z := 1) rfl (by decide) rfl dX3_isAttribute_42 ?_
        refine ex_goto (tgt := 2) (by decide) dX3_isAttribute_45 ?_
        exact ih (k + 1) (by omega) (by omega) (fun i hi => by rcases Nat.lt_or_ge i k with q | q; exact he i q; rw [show i = k by omega]; exact fun z => c2 (by rw [z.1]))
      · refine ex_aload_n rfl dX3_isAttribute_25 ?_
        refine ex_get dX3_isAttribute_26 gf_X3_11 hD.1 rfl ?_
        refine ex_iload_n rfl dX3_isAttribute_29 ?_
        refine ex_aldqN dX3_isAttribute_30 hD.2.1 (by omega) (by decide) (if_pos (by omega)) ?_
        refine ex_iload_n rfl dX3_isAttribute_31 ?_
        refine ex_iconst (v := (nI 1)) (by decide) dX3_isAttribute_32 ?_
        refine ex_invv (k := 0) (n := 0) (mc' := 0) (ms' := 0) (As := [_, _]) dX3_isAttribute_33 cv_X3_88 (by decide) (Nat.le_of_ble_eq_true rfl) (Or.inl ⟨_, _, _, _, (hD.2.2.1 k (by omega)).1.1, rfl⟩) (s_find (hD.2.2.1 k (by omega)).1 (x := x) (fr := 1) (by omega) (by omega)) (fun v h' q => ?_)
        obtain ⟨rfl, rfl⟩ := q
        refine ex_iconst (v := (-1)) (by decide) dX3_isAttribute_36 ?_
        refine ex_icmpO_eq (tgt := 42) (by decide) dX3_isAttribute_37 (fun j hj => by have := hsk (by omega); have := (fnd_some hj).2.1; omega) (fun c3 => ?_) (fun jc3 c3 => ?_)
        · refine ex_iincN (z := 1) rfl (by decide) rfl dX3_isAttribute_42 ?_
          refine ex_goto (tgt := 2) (by decide) dX3_isAttribute_45 ?_
          exact ih (k + 1) (by omega) (by omega) (fun i hi => by rcases Nat.lt_or_ge i k with q | q; exact he i q; rw [show i = k by omega]; rintro ⟨-, j, j1, j2, j3⟩; exact fnd_none c3 j j1 (by omega) j3)
        · refine ex_iconst (v := (nI 1)) (by decide) dX3_isAttribute_40 ?_
          refine ex_zret dX3_isAttribute_41 rfl rfl ⟨rT ⟨k, by omega, hG _ _ (hD.2.2.1 k (by omega)).2 (by decide) c2, jc3, by have := fnd_some c3; exact ⟨this.1, by omega, this.2.2.1⟩⟩, rfl⟩
set_option maxHeartbeats 4000000 in
set_option maxRecDepth 100000 in
theorem s_isAttribute {G : EG} {l : Launch} {h : EH} {a n : Nat} {S : Nat → Stm} (hD : DR G h a n S) (hG : eInj G) {x : Nat} (hx : x < 2 ^ 30) : ES G l 2 mX3_isAttribute [.ref a, .int (nI x)] h 0 0 (fun v h' => v = some (.int (b2i (bP (isAt S n x)))) ∧ h' = h) eNoX := by
  refine es_of (by decide) rfl (Nat.le_of_ble_eq_true rfl) ?_
  refine ex_iconst (v := (nI 0)) (by decide) dX3_isAttribute_0 ?_
  refine ex_istore_n (by decide) rfl dX3_isAttribute_1 ?_
  exact l_isAttribute hD hG hx (n + 1) 0 (by omega) (by omega) (fun i hi => by omega)
set_option maxHeartbeats 4000000 in
set_option maxRecDepth 100000 in
theorem s_isDoer {G : EG} {l : Launch} {h : EH} {a n : Nat} {S : Nat → Stm} (hD : DR G h a n S) (hG : eInj G) {x : Nat} (hx : x < 2 ^ 30) : ES G l 3 mX3_isDoer [.ref a, .int (nI x)] h 0 0 (fun v h' => v = some (.int (b2i (bP (isN S n 1 x ∨ isAt S n x)))) ∧ h' = h) eNoX := by
  refine es_of (by decide) rfl (Nat.le_of_ble_eq_true rfl) ?_
  refine ex_aload_n rfl dX3_isDoer_0 ?_
  refine ex_iload_n rfl dX3_isDoer_1 ?_
  refine ex_invv (k := 0) (n := 0) (mc' := 0) (ms' := 0) (As := [_]) dX3_isDoer_2 cv_X3_79 (by decide) (Nat.le_of_ble_eq_true rfl) (Or.inl ⟨_, _, _, _, hD.1, rfl⟩) (s_isType hD hG hx) (fun v h' q => ?_)
  obtain ⟨rfl, rfl⟩ := q
  refine ex_ifB_ne (tgt := 16) (by decide) dX3_isDoer_5 (fun c1 => ?_) (fun c1 => ?_)
  · refine ex_iconst (v := (nI 1)) (by decide) dX3_isDoer_16 ?_
    refine ex_goto (tgt := 21) (by decide) dX3_isDoer_17 ?_
    refine ex_zret dX3_isDoer_21 rfl rfl ⟨rT (Or.inl (bP_t c1)), rfl⟩
  · refine ex_aload_n rfl dX3_isDoer_8 ?_
    refine ex_iload_n rfl dX3_isDoer_9 ?_
    refine ex_invv (k := 0) (n := 0) (mc' := 0) (ms' := 0) (As := [_]) dX3_isDoer_10 cv_X3_68 (by decide) (Nat.le_of_ble_eq_true rfl) (Or.inl ⟨_, _, _, _, hD.1, rfl⟩) (s_isAttribute hD hG hx) (fun v h' q => ?_)
    obtain ⟨rfl, rfl⟩ := q
    refine ex_ifB_eq (tgt := 20) (by decide) dX3_isDoer_13 (fun c2 => ?_) (fun c2 => ?_)
    · refine ex_iconst (v := (nI 0)) (by decide) dX3_isDoer_20 ?_
      refine ex_zret dX3_isDoer_21 rfl rfl ⟨rF (fun z => z.elim (bP_f c1) (bP_f c2)), rfl⟩
    · refine ex_iconst (v := (nI 1)) (by decide) dX3_isDoer_16 ?_
      refine ex_goto (tgt := 21) (by decide) dX3_isDoer_17 ?_
      refine ex_zret dX3_isDoer_21 rfl rfl ⟨rT (Or.inr (bP_t c2)), rfl⟩
set_option maxHeartbeats 4000000 in
set_option maxRecDepth 100000 in
theorem l_declPerm {G : EG} {l : Launch} {h : EH} {a n : Nat} {S : Nat → Stm} (hD : DR G h a n S) (hG : eInj G) {c x : Nat} (hc : c < 2 ^ 30) (hx : x < 2 ^ 30) : ∀ (f k : Nat), n - k < f → k ≤ n → (∀ i, i < k → ¬ (kd (S i) = 0 ∧ wo (S i) 0 = c ∧ ∃ j, 1 ≤ j ∧ j < sz (S i) ∧ wd (S i) j = x)) → Ex G l 2 mX3_declaresPermission (fun v h' => v = some (.int (b2i (bP (isPm S n c x)))) ∧ h' = h) eNoX 0 0 2 [(0, .ref a), (1, .int (nI c)), (2, .int (nI x)), (3, .int (nI k))] [] h := by
  intro f
  induction f with
  | zero =>
    intro k h1 h2 he
    omega
  | succ f ih =>
    intro k h1 h2 he
    have hn := hD.2.2.2
    have hsk : k < 41 → sz (S k) ≤ 9 := fun z => (hD.2.2.1 k z).1.2.2.1.1
    have hwk : k < 41 → wo (S k) 0 < 2 ^ 30 := fun z => wo_lt (hD.2.2.1 k z).1 0
    refine ex_iload_n rfl dX3_declaresPermission_2 ?_
    refine ex_aload_n rfl dX3_declaresPermission_3 ?_
    refine ex_get dX3_declaresPermission_4 gf_X3_17 hD.1 rfl ?_
    refine ex_icmpN_ge (tgt := 58) (by decide) dX3_declaresPermission_7 (by omega) (by omega) (fun c1 => ?_) (fun c1 => ?_)
    · refine ex_iconst (v := (nI 0)) (by decide) dX3_declaresPermission_58 ?_
      refine ex_zret dX3_declaresPermission_59 rfl rfl ⟨rF (fun ⟨i, i1, i2⟩ => he i (by omega) i2), rfl⟩
    · refine ex_aload_n rfl dX3_declaresPermission_10 ?_
      refine ex_get dX3_declaresPermission_11 gf_X3_11 hD.1 rfl ?_
      refine ex_iload_n rfl dX3_declaresPermission_14 ?_
      refine ex_aldqN dX3_declaresPermission_15 hD.2.1 (by omega) (by decide) (if_pos (by omega)) ?_
      refine ex_astore (by decide) rfl dX3_declaresPermission_16 ?_
      refine ex_aload rfl dX3_declaresPermission_18 ?_
      refine ex_invv (k := 0) (n := 0) (mc' := 0) (ms' := 0) (As := []) dX3_declaresPermission_20 cv_X3_49 (by decide) (Nat.le_of_ble_eq_true rfl) (Or.inl ⟨_, _, _, _, (hD.2.2.1 k (by omega)).1.1, rfl⟩) (s_kind (hD.2.2.1 k (by omega)).1) (fun v h' q => ?_)
      obtain ⟨rfl, rfl⟩ := q
      refine ex_gets (z := ("PolicyDesk$Kind", "CLASS", "LPolicyDesk$Kind;", .ref (ead G 0))) dX3_declaresPermission_23 (eZk (i := 0) (by decide)) gz_X3_40 ?_
      refine ex_acmp_ne (tgt := 52) (by decide) dX3_declaresPermission_26 (fun c2 => ?_) (fun c2 => ?_)
      · refine ex_iincN (z := 1) rfl (by decide) rfl dX3_declaresPermission_52 ?_
        refine ex_goto (tgt := 2) (by decide) dX3_declaresPermission_55 ?_
        exact ex_lv [(0, .ref a), (1, .int (nI c)), (2, .int (nI x)), (3, .int (nI (k + 1)))] ⟨rfl, rfl, rfl, rfl, trivial⟩ (ih (k + 1) (by omega) (by omega) (fun i hi => by rcases Nat.lt_or_ge i k with q | q; exact he i q; rw [show i = k by omega]; exact fun z => c2 (by rw [z.1])))
      · refine ex_aload rfl dX3_declaresPermission_29 ?_
        refine ex_iconst (v := (nI 0)) (by decide) dX3_declaresPermission_31 ?_
        refine ex_invv (k := 0) (n := 0) (mc' := 0) (ms' := 0) (As := [_]) dX3_declaresPermission_32 cv_X3_64 (by decide) (Nat.le_of_ble_eq_true rfl) (Or.inl ⟨_, _, _, _, (hD.2.2.1 k (by omega)).1.1, rfl⟩) (s_word (hD.2.2.1 k (by omega)).1 (k := 0) (by omega)) (fun v h' q => ?_)
        obtain ⟨rfl, rfl⟩ := q
        refine ex_iload_n rfl dX3_declaresPermission_35 ?_
        refine ex_icmpN_ne (tgt := 52) (by decide) dX3_declaresPermission_36 (Nat.lt_trans (hwk (by omega)) (by decide)) (by omega) (fun c3 => ?_) (fun c3 => ?_)
        · refine ex_iincN (z := 1) rfl (by decide) rfl dX3_declaresPermission_52 ?_
          refine ex_goto (tgt := 2) (by decide) dX3_declaresPermission_55 ?_
          exact ex_lv [(0, .ref a), (1, .int (nI c)), (2, .int (nI x)), (3, .int (nI (k + 1)))] ⟨rfl, rfl, rfl, rfl, trivial⟩ (ih (k + 1) (by omega) (by omega) (fun i hi => by rcases Nat.lt_or_ge i k with q | q; exact he i q; rw [show i = k by omega]; exact fun z => c3 z.2.1))
        · refine ex_aload rfl dX3_declaresPermission_39 ?_
          refine ex_iload_n rfl dX3_declaresPermission_41 ?_
          refine ex_iconst (v := (nI 1)) (by decide) dX3_declaresPermission_42 ?_
          refine ex_invv (k := 0) (n := 0) (mc' := 0) (ms' := 0) (As := [_, _]) dX3_declaresPermission_43 cv_X3_88 (by decide) (Nat.le_of_ble_eq_true rfl) (Or.inl ⟨_, _, _, _, (hD.2.2.1 k (by omega)).1.1, rfl⟩) (s_find (hD.2.2.1 k (by omega)).1 (x := x) (fr := 1) (by omega) (by omega)) (fun v h' q => ?_)
          obtain ⟨rfl, rfl⟩ := q
          refine ex_iconst (v := (-1)) (by decide) dX3_declaresPermission_46 ?_
          refine ex_icmpO_eq (tgt := 52) (by decide) dX3_declaresPermission_47 (fun j hj => by have := hsk (by omega); have := (fnd_some hj).2.1; omega) (fun c4 => ?_) (fun jc4 c4 => ?_)
          · refine ex_iincN (z := 1) rfl (by decide) rfl dX3_declaresPermission_52 ?_
            refine ex_goto (tgt := 2) (by decide) dX3_declaresPermission_55 ?_
            exact ex_lv [(0, .ref a), (1, .int (nI c)), (2, .int (nI x)), (3, .int (nI (k + 1)))] ⟨rfl, rfl, rfl, rfl, trivial⟩ (ih (k + 1) (by omega) (by omega) (fun i hi => by rcases Nat.lt_or_ge i k with q | q; exact he i q; rw [show i = k by omega]; rintro ⟨-, -, j, j1, j2, j3⟩; exact fnd_none c4 j j1 (by omega) j3))
          · refine ex_iconst (v := (nI 1)) (by decide) dX3_declaresPermission_50 ?_
            refine ex_zret dX3_declaresPermission_51 rfl rfl ⟨rT ⟨k, by omega, hG _ _ (hD.2.2.1 k (by omega)).2 (by decide) c2, c3, jc4, by have := fnd_some c4; exact ⟨this.1, by omega, this.2.2.1⟩⟩, rfl⟩
set_option maxHeartbeats 4000000 in
set_option maxRecDepth 100000 in
theorem s_declPerm {G : EG} {l : Launch} {h : EH} {a n : Nat} {S : Nat → Stm} (hD : DR G h a n S) (hG : eInj G) {c x : Nat} (hc : c < 2 ^ 30) (hx : x < 2 ^ 30) : ES G l 2 mX3_declaresPermission [.ref a, .int (nI c), .int (nI x)] h 0 0 (fun v h' => v = some (.int (b2i (bP (isPm S n c x)))) ∧ h' = h) eNoX := by
  refine es_of (by decide) rfl (Nat.le_of_ble_eq_true rfl) ?_
  refine ex_iconst (v := (nI 0)) (by decide) dX3_declaresPermission_0 ?_
  refine ex_istore_n (by decide) rfl dX3_declaresPermission_1 ?_
  exact l_declPerm hD hG hc hx (n + 1) 0 (by omega) (by omega) (fun i hi => by omega)
def areP (S : Nat → Stm) (n i c : Nat) : Prop := ∀ k, c + 1 ≤ k → k < sz (S i) → isPm S n (wo (S i) c) (wo (S i) k)
set_option maxHeartbeats 4000000 in
set_option maxRecDepth 100000 in
theorem l_declPerms {G : EG} {l : Launch} {h : EH} {a n : Nat} {S : Nat → Stm} (hD : DR G h a n S) (hG : eInj G) {i c : Nat} (hi : i < 41) (hc : c < 9) : ∀ (f k : Nat), sz (S i) - k < f → c + 1 ≤ k → k < 2 ^ 30 → (∀ j, c + 1 ≤ j → j < k → j < sz (S i) → isPm S n (wo (S i) c) (wo (S i) j)) → Ex G l 3 mX3_declaresPermissions (fun v h' => v = some (.int (b2i (bP (areP S n i c)))) ∧ h' = h) eNoX 0 0 4 [(0, .ref a), (1, .ref (a + 2 + 2 * i)), (2, .int (nI c)), (3, .int (nI k))] [] h := by
  intro f
  induction f with
  | zero =>
    intro k h1 h2 h3 he
    omega
  | succ f ih =>
    intro k h1 h2 h3 he
    have hn := hD.2.2.2
    have hsk := (hD.2.2.1 i hi).1.2.2.1.1
    have hw1 := wo_lt (hD.2.2.1 i hi).1 c
    have hw2 := wo_lt (hD.2.2.1 i hi).1 k
    refine ex_iload_n rfl dX3_declaresPermissions_4 ?_
    refine ex_aload_n rfl dX3_declaresPermissions_5 ?_
    refine ex_invv (k := 0) (n := 0) (mc' := 0) (ms' := 0) (As := []) dX3_declaresPermissions_6 cv_X3_92 (by decide) (Nat.le_of_ble_eq_true rfl) (Or.inl ⟨_, _, _, _, (hD.2.2.1 i (by omega)).1.1, rfl⟩) (s_size (hD.2.2.1 i (by omega)).1) (fun v h' q => ?_)
    obtain ⟨rfl, rfl⟩ := q
    refine ex_icmpN_ge (tgt := 37) (by decide) dX3_declaresPermissions_9 (by omega) (by omega) (fun c1 => ?_) (fun c1 => ?_)
    · refine ex_iconst (v := (nI 1)) (by decide) dX3_declaresPermissions_37 ?_
      refine ex_zret dX3_declaresPermissions_38 rfl rfl ⟨rT (fun j j1 j2 => he j j1 (by omega) j2), rfl⟩
    · refine ex_aload_n rfl dX3_declaresPermissions_12 ?_
      refine ex_aload_n rfl dX3_declaresPermissions_13 ?_
      refine ex_iload_n rfl dX3_declaresPermissions_14 ?_
      refine ex_invv (k := 0) (n := 0) (mc' := 0) (ms' := 0) (As := [_]) dX3_declaresPermissions_15 cv_X3_64 (by decide) (Nat.le_of_ble_eq_true rfl) (Or.inl ⟨_, _, _, _, (hD.2.2.1 i (by omega)).1.1, rfl⟩) (s_word (hD.2.2.1 i (by omega)).1 (k := c) (by omega)) (fun v h' q => ?_)
      obtain ⟨rfl, rfl⟩ := q
      refine ex_aload_n rfl dX3_declaresPermissions_18 ?_
      refine ex_iload_n rfl dX3_declaresPermissions_19 ?_
      refine ex_invv (k := 0) (n := 0) (mc' := 0) (ms' := 0) (As := [_]) dX3_declaresPermissions_20 cv_X3_64 (by decide) (Nat.le_of_ble_eq_true rfl) (Or.inl ⟨_, _, _, _, (hD.2.2.1 i (by omega)).1.1, rfl⟩) (s_word (hD.2.2.1 i (by omega)).1 (k := k) (by omega)) (fun v h' q => ?_)
      obtain ⟨rfl, rfl⟩ := q
      refine ex_invv (k := 0) (n := 0) (mc' := 0) (ms' := 0) (As := [_, _]) dX3_declaresPermissions_23 cv_X3_94 (by decide) (Nat.le_of_ble_eq_true rfl) (Or.inl ⟨_, _, _, _, hD.1, rfl⟩) (s_declPerm hD hG hw1 hw2) (fun v h' q => ?_)
      obtain ⟨rfl, rfl⟩ := q
      refine ex_ifB_ne (tgt := 31) (by decide) dX3_declaresPermissions_26 (fun c2 => ?_) (fun c2 => ?_)
      · refine ex_iincN (z := 1) rfl (by decide) rfl dX3_declaresPermissions_31 ?_
        refine ex_goto (tgt := 4) (by decide) dX3_declaresPermissions_34 ?_
        exact ih (k + 1) (by omega) (by omega) (by omega) (fun j j1 j2 j3 => by rcases Nat.lt_or_ge j k with q | q; exact he j j1 q j3; rw [show j = k by omega]; exact bP_t c2)
      · refine ex_iconst (v := (nI 0)) (by decide) dX3_declaresPermissions_29 ?_
        refine ex_zret dX3_declaresPermissions_30 rfl rfl ⟨rF (fun z => bP_f c2 (z k h2 c1)), rfl⟩
set_option maxHeartbeats 4000000 in
set_option maxRecDepth 100000 in
theorem s_declPerms {G : EG} {l : Launch} {h : EH} {a n : Nat} {S : Nat → Stm} (hD : DR G h a n S) (hG : eInj G) {i c : Nat} (hi : i < 41) (hc : c < 9) : ES G l 3 mX3_declaresPermissions [.ref a, .ref (a + 2 + 2 * i), .int (nI c)] h 0 0 (fun v h' => v = some (.int (b2i (bP (areP S n i c)))) ∧ h' = h) eNoX := by
  refine es_of (by decide) rfl (Nat.le_of_ble_eq_true rfl) ?_
  refine ex_iload_n rfl dX3_declaresPermissions_0 ?_
  refine ex_iconst (v := (nI 1)) (by decide) dX3_declaresPermissions_1 ?_
  refine ex_iaddN dX3_declaresPermissions_2 ?_
  refine ex_istore_n (by decide) rfl dX3_declaresPermissions_3 ?_
  exact l_declPerms hD hG hi hc (sz (S i) + 1) (c + 1) (by omega) (by omega) (by omega) (fun j j1 j2 => by omega)
set_option maxHeartbeats 4000000 in
set_option maxRecDepth 100000 in
theorem l_repeats {G : EG} {l : Launch} {h : EH} {a n : Nat} {S : Nat → Stm} (hD : DR G h a n S) (hG : eInj G) {i m : Nat} (hi : i < 41) (hm : m ≤ 9) : ∀ (f k : Nat), i - k < f → k ≤ i → (∀ j, j < k → ¬ (kd (S j) = kd (S i) ∧ ∀ q, q < m → wo (S j) q = wo (S i) q)) → Ex G l 2 mX3_repeats (fun v h' => v = some (.int (b2i (bP (rep S i m)))) ∧ h' = h) eNoX 0 0 2 [(0, .ref a), (1, .int (nI i)), (2, .int (nI m)), (3, .int (nI k))] [] h := by
  intro f
  induction f with
  | zero =>
    intro k h1 h2 he
    omega
  | succ f ih =>
    intro k h1 h2 he
    have hn := hD.2.2.2
    refine ex_iload_n rfl dX3_repeats_2 ?_
    refine ex_iload_n rfl dX3_repeats_3 ?_
    refine ex_icmpN_ge (tgt := 34) (by decide) dX3_repeats_4 (by omega) (by omega) (fun c1 => ?_) (fun c1 => ?_)
    · refine ex_iconst (v := (nI 0)) (by decide) dX3_repeats_34 ?_
      refine ex_zret dX3_repeats_35 rfl rfl ⟨rF (fun ⟨j, j1, j2⟩ => he j (by omega) j2), rfl⟩
    · refine ex_aload_n rfl dX3_repeats_7 ?_
      refine ex_get dX3_repeats_8 gf_X3_11 hD.1 rfl ?_
      refine ex_iload_n rfl dX3_repeats_11 ?_
      refine ex_aldqN dX3_repeats_12 hD.2.1 (by omega) (by decide) (if_pos (by omega)) ?_
      refine ex_aload_n rfl dX3_repeats_13 ?_
      refine ex_get dX3_repeats_14 gf_X3_11 hD.1 rfl ?_
      refine ex_iload_n rfl dX3_repeats_17 ?_
      refine ex_aldqN dX3_repeats_18 hD.2.1 (by omega) (by decide) (if_pos (by omega)) ?_
      refine ex_iload_n rfl dX3_repeats_19 ?_
      refine ex_invv (k := 0) (n := 0) (mc' := 0) (ms' := 0) (As := [_, _]) dX3_repeats_20 cv_X3_85 (by decide) (Nat.le_of_ble_eq_true rfl) (Or.inl ⟨_, _, _, _, (hD.2.2.1 k (by omega)).1.1, rfl⟩) (s_begins (hD.2.2.1 k (by omega)).1 (hD.2.2.1 i (by omega)).1 hG (hD.2.2.1 k (by omega)).2 (hD.2.2.1 i (by omega)).2 hm bP_iff) (fun v h' q => ?_)
      obtain ⟨rfl, rfl⟩ := q
      refine ex_ifB_eq (tgt := 28) (by decide) dX3_repeats_23 (fun c2 => ?_) (fun c2 => ?_)
      · refine ex_iincN (z := 1) rfl (by decide) rfl dX3_repeats_28 ?_
        refine ex_goto (tgt := 2) (by decide) dX3_repeats_31 ?_
        exact ih (k + 1) (by omega) (by omega) (fun j hj => by rcases Nat.lt_or_ge j k with q | q; exact he j q; rw [show j = k by omega]; exact bP_f c2)
      · refine ex_iconst (v := (nI 1)) (by decide) dX3_repeats_26 ?_
        refine ex_zret dX3_repeats_27 rfl rfl ⟨rT ⟨k, c1, bP_t c2⟩, rfl⟩
set_option maxHeartbeats 4000000 in
set_option maxRecDepth 100000 in
theorem s_repeats {G : EG} {l : Launch} {h : EH} {a n : Nat} {S : Nat → Stm} (hD : DR G h a n S) (hG : eInj G) {i m : Nat} (hi : i < 41) (hm : m ≤ 9) : ES G l 2 mX3_repeats [.ref a, .int (nI i), .int (nI m)] h 0 0 (fun v h' => v = some (.int (b2i (bP (rep S i m)))) ∧ h' = h) eNoX := by
  refine es_of (by decide) rfl (Nat.le_of_ble_eq_true rfl) ?_
  refine ex_iconst (v := (nI 0)) (by decide) dX3_repeats_0 ?_
  refine ex_istore_n (by decide) rfl dX3_repeats_1 ?_
  exact l_repeats hD hG hi hm (i + 1) 0 (by omega) (by omega) (fun j hj => by omega)
