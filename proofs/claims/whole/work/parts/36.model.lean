/-! THE MODEL (PolicyDeskModel): its state -/
abbrev MS : Type := (Nat → Nat) × (Int32 × Int32) × (Nat → Nat → Nat) × (Nat → Int32) × (Nat → Bool) × (Nat → Bool)
abbrev ms (y : MS) : Nat → Nat := y.1
abbrev mpo (y : MS) : Int32 := y.2.1.1
abbrev mfa (y : MS) : Int32 := y.2.1.2
abbrev mA (y : MS) : Nat → Nat → Nat := y.2.2.1
abbrev mmk (y : MS) : Nat → Int32 := y.2.2.2.1
abbrev mrc (y : MS) : Nat → Bool := y.2.2.2.2.1
abbrev mnx (y : MS) : Nat → Bool := y.2.2.2.2.2
def mOb (M : Nat) (σ : Nat → Nat) (po fa : Int32) : va_E := .inr (8, [.int (nI (σ 0)), .int (nI (σ 1)), .int (nI (σ 2)), .ref (M + 1), .int (nI (σ 4)), .int po, .int (nI (σ 6)), .ref (M + 2), .ref (M + 3), .ref (M + 4), .ref (M + 5), .int fa, .int (nI (σ 12)), .int (nI (σ 13)), .ref (M + 6), .ref (M + 7), .ref (M + 8), .ref (M + 9), .ref (M + 10), .ref (M + 11), .ref (M + 12), .int (nI (σ 21)), .ref (M + 13), .ref (M + 14), .int (nI (σ 24)), .int (nI (σ 25)), .int (nI (σ 26)), .ref (M + 15), .int (nI (σ 28)), .ref (M + 16), .ref (M + 17), .ref (M + 18)])
def aln (i : Nat) : Nat := [0, 72, 41, 41, 410, 41, 3, 8, 192, 192, 15, 8, 3, 9, 9, 420, 420, 8, 8].getD i 0
def mAr (G : EG) (y : MS) (i : Nat) : va_E := if i = 1 then .inl (eA G 2, 72, .inl (fun j => nI (mA y 1 j))) else if i = 9 then .inl (eA G 0, 192, .inl (mmk y)) else if i = 17 then .inl (eA G 3, 8, .inl (fun j => b2i (mrc y j))) else if i = 18 then .inl (eA G 3, 8, .inl (fun j => b2i (mnx y j))) else .inl (eA G 0, aln i, .inl (fun j => nI (mA y i j)))
def MD (G : EG) (h : EH) (M : Nat) (y : MS) : Prop := h.2 M = some (mOb M (ms y) (mpo y) (mfa y)) ∧ ∀ i, 1 ≤ i → i ≤ 18 → h.2 (M + i) = some (mAr G y i)
abbrev atN (M : Nat) : Nat → Prop := fun q => M ≤ q ∧ q ≤ M + 18
theorem MD.sm {G : EG} {h h' : EH} {M : Nat} {y : MS} (x : MD G h M y) (w : ∀ q, atN M q → h'.2 q = h.2 q) : MD G h' M y := ⟨(w _ ⟨by omega, by omega⟩).trans x.1, fun i h1 h2 => (w _ ⟨by omega, by omega⟩).trans (x.2 i h1 h2)⟩
theorem MD.ob {G : EG} {h : EH} {M : Nat} {y : MS} (x : MD G h M y) (σ : Nat → Nat) (po fa : Int32) : MD G (hup h M (mOb M σ po fa)) M (σ, (po, fa), y.2.2) := ⟨hup_eq, fun i h1 h2 => hup_ne (by omega) (x.2 i h1 h2)⟩
theorem mAr_i {G : EG} {y : MS} {i : Nat} (h : i ≠ 1 ∧ i ≠ 9 ∧ i ≠ 17 ∧ i ≠ 18) : mAr G y i = .inl (eA G 0, aln i, .inl (fun j => nI (mA y i j))) := by unfold mAr; rw [if_neg h.1, if_neg h.2.1, if_neg h.2.2.1, if_neg h.2.2.2]
/-- a number put into an array of ints -/
def mUp (y : MS) (i k v : Nat) : MS := (y.1, y.2.1, va_up (mA y) i (va_up (mA y i) k v), y.2.2.2)
theorem mUp_ne {y : MS} {i k v j : Nat} (h : j ≠ i) : mA (mUp y i k v) j = mA y j := if_neg h
theorem mUp_eq {y : MS} {i k v : Nat} : mA (mUp y i k v) i = va_up (mA y i) k v := if_pos rfl
theorem mAr_ne {G : EG} {y : MS} {i k v j : Nat} (h : j ≠ i) : mAr G (mUp y i k v) j = mAr G y j := by
  unfold mAr
  by_cases h1 : j = 1
  · rw [if_pos h1, if_pos h1, mUp_ne (show 1 ≠ i by omega)]
  · rw [if_neg h1, if_neg h1, mUp_ne h]; rfl
theorem MD.st {G : EG} {h : EH} {M : Nat} {y : MS} (x : MD G h M y) (i k v : Nat) (hi : i ≠ 1 ∧ i ≠ 9 ∧ i ≠ 17 ∧ i ≠ 18) (h1 : 1 ≤ i) : MD G (hup h (M + i) (.inl (eA G 0, aln i, .inl (upd (fun j => nI (mA y i j)) k (nI v))))) M (mUp y i k v) := by
  refine ⟨hup_ne (by omega) x.1, fun j h2 h3 => ?_⟩
  by_cases q : j = i
  · rw [q, mAr_i hi, mUp_eq]
    exact (if_pos rfl).trans (by rw [upd_nI])
  · rw [mAr_ne q]
    exact hup_ne (by omega) (x.2 j h2 h3)
theorem MD.tx {G : EG} {h : EH} {M : Nat} {y : MS} (x : MD G h M y) (k v : Nat) : MD G (hup h (M + 1) (.inl (eA G 2, 72, .inl (upd (fun j => nI (mA y 1 j)) k (nI v))))) M (mUp y 1 k v) := by
  refine ⟨hup_ne (by omega) x.1, fun j h2 h3 => ?_⟩
  by_cases q : j = 1
  · rw [q]
    refine (if_pos rfl).trans ?_
    rw [upd_nI]
    unfold mAr
    rw [if_pos rfl, mUp_eq]
  · rw [mAr_ne q]
    exact hup_ne (by omega) (x.2 j h2 h3)
def mUm (y : MS) (k : Nat) (v : Int32) : MS := (y.1, y.2.1, y.2.2.1, upd (mmk y) k v, y.2.2.2.2)
theorem MD.mk {G : EG} {h : EH} {M : Nat} {y : MS} (x : MD G h M y) (k : Nat) (v : Int32) : MD G (hup h (M + 9) (.inl (eA G 0, 192, .inl (upd (mmk y) k v)))) M (mUm y k v) := by
  refine ⟨hup_ne (by omega) x.1, fun j h2 h3 => ?_⟩
  by_cases q : j = 9
  · rw [q]; exact if_pos rfl
  · refine (hup_ne (by omega) (x.2 j h2 h3)).trans (congrArg some ?_)
    unfold mAr
    rw [if_neg q, if_neg q]
    rfl
theorem upd_bI (t : Nat → Bool) (j : Nat) (c : Bool) : upd (fun i => b2i (t i)) j (b2i c) = fun i => b2i (va_up t j c i) := by
  funext i
  unfold upd va_up
  split <;> rfl
def mUr (y : MS) (k : Nat) (v : Bool) : MS := (y.1, y.2.1, y.2.2.1, y.2.2.2.1, va_up (mrc y) k v, y.2.2.2.2.2)
def mUx (y : MS) (k : Nat) (v : Bool) : MS := (y.1, y.2.1, y.2.2.1, y.2.2.2.1, y.2.2.2.2.1, va_up (mnx y) k v)
theorem MD.rc {G : EG} {h : EH} {M : Nat} {y : MS} (x : MD G h M y) (k : Nat) (v : Bool) : MD G (hup h (M + 17) (.inl (eA G 3, 8, .inl (upd (fun j => b2i (mrc y j)) k (b2i v))))) M (mUr y k v) := by
  refine ⟨hup_ne (by omega) x.1, fun j h2 h3 => ?_⟩
  by_cases q : j = 17
  · rw [q, upd_bI]; exact if_pos rfl
  · refine (hup_ne (by omega) (x.2 j h2 h3)).trans (congrArg some ?_)
    unfold mAr
    rw [if_neg q, if_neg q]
    rfl
theorem MD.nx {G : EG} {h : EH} {M : Nat} {y : MS} (x : MD G h M y) (k : Nat) (v : Bool) : MD G (hup h (M + 18) (.inl (eA G 3, 8, .inl (upd (fun j => b2i (mnx y j)) k (b2i v))))) M (mUx y k v) := by
  refine ⟨hup_ne (by omega) x.1, fun j h2 h3 => ?_⟩
  by_cases q : j = 18
  · rw [q, upd_bI]; exact if_pos rfl
  · refine (hup_ne (by omega) (x.2 j h2 h3)).trans (congrArg some ?_)
    unfold mAr
    rw [if_neg q, if_neg q]
    rfl
/-- the statements of the model -/
def mS (y : MS) : Nat → Stm := fun i => (mA y 2 i, mA y 3 i, mA y 5 i, fun k => mA y 4 (10 * i + k))
/-- bounds that hold all along -/
def mB (y : MS) : Prop := ms y 6 ≤ 40 ∧ ms y 2 ≤ 72 ∧ ∀ j, mA y 2 j < 9 ∧ mA y 3 j ≤ 9 ∧ mA y 4 j < 2 ^ 30
theorem mS_sz {y : MS} (h : mB y) (i : Nat) : sz (mS y i) ≤ 9 := (h.2.2 i).2.1
theorem mS_kd {y : MS} (h : mB y) (i : Nat) : kd (mS y i) < 9 := (h.2.2 i).1
theorem mS_wd {y : MS} (h : mB y) (i k : Nat) : wd (mS y i) k < 2 ^ 30 := (h.2.2 _).2.2
/-- found at some pair that comes before (s, k) -/
def ex2 (P : Nat → Nat → Prop) (s k : Nat) : Prop := ∃ i j, P i j ∧ (i < s ∨ (i = s ∧ j < k))
theorem ex2_0 {P : Nat → Nat → Prop} : ¬ ex2 P 0 0 := fun ⟨i, j, _, h⟩ => by omega
theorem ex2_s {P : Nat → Nat → Prop} {s k : Nat} : ex2 P s (k + 1) ↔ ex2 P s k ∨ P s k := by
  constructor
  · rintro ⟨i, j, h1, h2⟩
    by_cases q : i = s ∧ j = k
    · rw [q.1, q.2] at h1; exact Or.inr h1
    · exact Or.inl ⟨i, j, h1, by omega⟩
  · rintro (⟨i, j, h1, h2⟩ | h)
    · exact ⟨i, j, h1, by omega⟩
    · exact ⟨s, k, h, by omega⟩
theorem ex2_n {P : Nat → Nat → Prop} {s k : Nat} (h : ∀ j, k ≤ j → ¬ P s j) : ex2 P s k ↔ ex2 P (s + 1) 0 := by
  constructor
  · rintro ⟨i, j, h1, h2⟩; exact ⟨i, j, h1, by omega⟩
  · rintro ⟨i, j, h1, h2⟩
    rcases Nat.lt_or_ge i s with q | q
    · exact ⟨i, j, h1, Or.inl q⟩
    · rw [show i = s by omega] at h1
      rcases Nat.lt_or_ge j k with w | w
      · exact ⟨s, j, h1, Or.inr ⟨rfl, w⟩⟩
      · exact absurd h1 (h j w)
theorem ex2_b {P : Nat → Nat → Prop} {s k : Nat} (h : ∀ j, j < k → ¬ P s j) : ex2 P s 0 ↔ ex2 P s k := by
  constructor
  · rintro ⟨i, j, h1, h2⟩; exact ⟨i, j, h1, by omega⟩
  · rintro ⟨i, j, h1, h2 | ⟨h2, h3⟩⟩
    · exact ⟨i, j, h1, Or.inl h2⟩
    · rw [h2] at h1; exact absurd h1 (h j h3)
theorem ex2_e {P : Nat → Nat → Prop} {n : Nat} (h : ∀ i j, P i j → i < n) : ex2 P n 0 ↔ ∃ i j, P i j := ⟨fun ⟨i, j, h1, _⟩ => ⟨i, j, h1⟩, fun ⟨i, j, h1⟩ => ⟨i, j, h1, Or.inl (h i j h1)⟩⟩
theorem bI_c {P R : Prop} (h : P ↔ R) : some (Value.int (b2i (bP P))) = some (Value.int (b2i (bP R))) := by rw [bP_eq h]
set_option maxHeartbeats 4000000 in
set_option maxRecDepth 100000 in
theorem t_thrown {G : EG} {l : Launch} {h : EH} {M : Nat} {y : MS} (hM : MD G h M y) : ES G l 0 mX12_thrown [.ref M] h 0 0 (fun v h' => v = some (.int (nI (ms y 1))) ∧ h' = h) eNoX := by
  refine es_of (by decide) rfl (Nat.le_of_ble_eq_true rfl) ?_
  refine ex_aload_n rfl dX12_thrown_0 ?_
  refine ex_get dX12_thrown_1 gf_X12_76 hM.1 rfl ?_
  refine ex_iret dX12_thrown_4 rfl ⟨rfl, rfl⟩
set_option maxHeartbeats 4000000 in
set_option maxRecDepth 100000 in
theorem t_nameAt {G : EG} {l : Launch} {h : EH} {M : Nat} {y : MS} (hM : MD G h M y) {s k : Nat} (hs : s < 41) (hk : k < 10) : ES G l 0 mX12_nameAt [.ref M, .int (nI s), .int (nI k)] h 0 0 (fun v h' => v = some (.int (nI (wd (mS y s) k))) ∧ h' = h) eNoX := by
  have k4 : h.2 (M + 4) = some (.inl (eA G 0, 410, .inl (fun j => nI (mA y 4 j)))) := hM.2 4 (by decide) (by decide)
  refine es_of (by decide) rfl (Nat.le_of_ble_eq_true rfl) ?_
  refine ex_aload_n rfl dX12_nameAt_0 ?_
  refine ex_get dX12_nameAt_1 gf_X12_24 hM.1 rfl ?_
  refine ex_bipush (v := (nI 10)) (by decide) dX12_nameAt_4 ?_
  refine ex_iload_n rfl dX12_nameAt_6 ?_
  refine ex_imulN dX12_nameAt_7 ?_
  refine ex_iload_n rfl dX12_nameAt_8 ?_
  refine ex_iaddN dX12_nameAt_9 ?_
  refine ex_ialdN dX12_nameAt_10 k4 (by omega) (by decide) ?_
  refine ex_iret dX12_nameAt_11 rfl ⟨rfl, rfl⟩
def bef (S : Nat → Stm) (κ x : Nat) : Nat → Nat
  | 0 => 0
  | i + 1 => bef S κ x i + (if kd (S i) = κ ∧ (x = 0 ∨ wd (S i) 0 = x) then 1 else 0)
theorem bef_y {S : Nat → Stm} {κ x i : Nat} (h : kd (S i) = κ ∧ (x = 0 ∨ wd (S i) 0 = x)) : bef S κ x (i + 1) = bef S κ x i + 1 := by show _ + _ = _; rw [if_pos h]
theorem bef_n {S : Nat → Stm} {κ x i : Nat} (h : ¬ (kd (S i) = κ ∧ (x = 0 ∨ wd (S i) 0 = x))) : bef S κ x (i + 1) = bef S κ x i := by show _ + _ = _; rw [if_neg h]; rfl
theorem bef_le (S : Nat → Stm) (κ x i : Nat) : bef S κ x i ≤ i := by
  induction i with
  | zero => exact Nat.le_refl _
  | succ i ih => show _ + _ ≤ _; split <;> omega
theorem bef_0 (S : Nat → Stm) (κ i : Nat) : bef S κ 0 i = cntk S κ i := by
  induction i with
  | zero => rfl
  | succ i ih =>
    show bef S κ 0 i + _ = cntk S κ i + _
    rw [ih]
    by_cases h : kd (S i) = κ
    · rw [if_pos ⟨h, Or.inl rfl⟩, if_pos h]
    · rw [if_neg (fun z => h z.1), if_neg h]
theorem bef_p {S : Nat → Stm} {κ x e : Nat} (hx : x ≠ 0) : 0 < bef S κ x e ↔ ∃ i, i < e ∧ kd (S i) = κ ∧ wd (S i) 0 = x := by
  induction e with
  | zero => exact ⟨fun z => absurd z (by show ¬ 0 < 0; omega), fun ⟨i, i1, _⟩ => by omega⟩
  | succ e ih =>
    by_cases h : kd (S e) = κ ∧ (x = 0 ∨ wd (S e) 0 = x)
    · rw [bef_y h]
      exact ⟨fun _ => ⟨e, by omega, h.1, h.2.elim (fun z => absurd z hx) id⟩, fun _ => by omega⟩
    · rw [bef_n h, ih]
      constructor
      · rintro ⟨i, i1, i2⟩; exact ⟨i, by omega, i2⟩
      · rintro ⟨i, i1, i2, i3⟩
        rcases Nat.lt_or_ge i e with q | q
        · exact ⟨i, q, i2, i3⟩
        · rw [show i = e by omega] at i2 i3; exact absurd ⟨i2, Or.inr i3⟩ h
set_option maxHeartbeats 4000000 in
set_option maxRecDepth 100000 in
theorem l_before {G : EG} {l : Launch} {h : EH} {M : Nat} {y : MS} (hM : MD G h M y) (hB : mB y) {κ x e : Nat} (hκ : κ < 9) (hx : x < 2 ^ 30) (he : e ≤ 41) : ∀ (f k : Nat), e - k < f → k ≤ e → Ex G l 1 mX12_before (fun v h' => v = some (.int (nI (bef (mS y) κ x e))) ∧ h' = h) eNoX 0 0 6 [(0, .ref M), (1, .int (nI κ)), (2, .int (nI x)), (3, .int (nI e)), (4, .int (nI (bef (mS y) κ x k))), (5, .int (nI (k)))] [] h := by
  intro f
  induction f with
  | zero =>
    intro k h1 h2
    omega
  | succ f ih =>
    intro k h1 h2
    have k2 : h.2 (M + 2) = some (.inl (eA G 0, 41, .inl (fun j => nI (mA y 2 j)))) := hM.2 2 (by decide) (by decide)
    have hkk := mS_kd hB k
    have hwk := mS_wd hB k 0
    refine ex_iload rfl dX12_before_6 ?_
    refine ex_iload_n rfl dX12_before_8 ?_
    refine ex_icmpN_ge (tgt := 55) (by decide) dX12_before_9 (by omega) (by omega) (fun c1 => ?_) (fun c1 => ?_)
    · refine ex_iload rfl dX12_before_55 ?_
      refine ex_iret dX12_before_57 rfl ⟨by rw [show k = e by omega], rfl⟩
    · refine ex_aload_n rfl dX12_before_12 ?_
      refine ex_get dX12_before_13 gf_X12_17 hM.1 rfl ?_
      refine ex_iload rfl dX12_before_16 ?_
      refine ex_ialdN dX12_before_18 k2 (by omega) (by decide) ?_
      refine ex_iload_n rfl dX12_before_19 ?_
      refine ex_icmpN_ne (tgt := 45) (by decide) dX12_before_20 (show mA y 2 k < 2 ^ 31 from Nat.lt_trans hkk (by decide)) (by omega) (fun c2 => ?_) (fun c2 => ?_)
      · refine ex_iload rfl dX12_before_45 ?_
        refine ex_istore (by decide) rfl dX12_before_47 ?_
        refine ex_iincN (z := 1) rfl (by decide) rfl dX12_before_49 ?_
        refine ex_goto (tgt := 6) (by decide) dX12_before_52 ?_
        exact ex_lv [(0, .ref M), (1, .int (nI κ)), (2, .int (nI x)), (3, .int (nI e)), (4, .int (nI (bef (mS y) κ x (k + 1)))), (5, .int (nI (k + 1)))] ⟨rfl, rfl, rfl, rfl, by show some (Value.int (nI (bef (mS y) κ x k))) = _; rw [bef_n (fun z => c2 z.1)], rfl, trivial⟩ (ih (k + 1) (by omega) (by omega))
      · refine ex_iload_n rfl dX12_before_23 ?_
        refine ex_ifN_eq (tgt := 38) (by decide) dX12_before_24 (by omega) (fun c3 => ?_) (fun c3 => ?_)
        · refine ex_iload rfl dX12_before_38 ?_
          refine ex_iconst (v := (nI 1)) (by decide) dX12_before_40 ?_
          refine ex_iaddN dX12_before_41 ?_
          refine ex_goto (tgt := 47) (by decide) dX12_before_42 ?_
          refine ex_istore (by decide) rfl dX12_before_47 ?_
          refine ex_iincN (z := 1) rfl (by decide) rfl dX12_before_49 ?_
          refine ex_goto (tgt := 6) (by decide) dX12_before_52 ?_
          exact ex_lv [(0, .ref M), (1, .int (nI κ)), (2, .int (nI x)), (3, .int (nI e)), (4, .int (nI (bef (mS y) κ x (k + 1)))), (5, .int (nI (k + 1)))] ⟨rfl, rfl, rfl, rfl, by show some (Value.int (nI (bef (mS y) κ x k + 1))) = _; rw [bef_y ⟨c2, Or.inl c3⟩], rfl, trivial⟩ (ih (k + 1) (by omega) (by omega))
        · refine ex_aload_n rfl dX12_before_27 ?_
          refine ex_iload rfl dX12_before_28 ?_
          refine ex_iconst (v := (nI 0)) (by decide) dX12_before_30 ?_
          refine ex_invv (k := 0) (n := 0) (mc' := 0) (ms' := 0) (As := [_, _]) dX12_before_31 cv_X12_124 (by decide) (Nat.le_of_ble_eq_true rfl) (Or.inl ⟨_, _, _, _, hM.1, rfl⟩) (t_nameAt hM (s := k) (k := 0) (by omega) (by omega)) (fun v h' q => ?_)
          obtain ⟨rfl, rfl⟩ := q
          refine ex_iload_n rfl dX12_before_34 ?_
          refine ex_icmpN_ne (tgt := 45) (by decide) dX12_before_35 (Nat.lt_trans hwk (by decide)) (by omega) (fun c4 => ?_) (fun c4 => ?_)
          · refine ex_iload rfl dX12_before_45 ?_
            refine ex_istore (by decide) rfl dX12_before_47 ?_
            refine ex_iincN (z := 1) rfl (by decide) rfl dX12_before_49 ?_
            refine ex_goto (tgt := 6) (by decide) dX12_before_52 ?_
            exact ex_lv [(0, .ref M), (1, .int (nI κ)), (2, .int (nI x)), (3, .int (nI e)), (4, .int (nI (bef (mS y) κ x (k + 1)))), (5, .int (nI (k + 1)))] ⟨rfl, rfl, rfl, rfl, by show some (Value.int (nI (bef (mS y) κ x k))) = _; rw [bef_n (fun z => z.2.elim c3 c4)], rfl, trivial⟩ (ih (k + 1) (by omega) (by omega))
          · refine ex_iload rfl dX12_before_38 ?_
            refine ex_iconst (v := (nI 1)) (by decide) dX12_before_40 ?_
            refine ex_iaddN dX12_before_41 ?_
            refine ex_goto (tgt := 47) (by decide) dX12_before_42 ?_
            refine ex_istore (by decide) rfl dX12_before_47 ?_
            refine ex_iincN (z := 1) rfl (by decide) rfl dX12_before_49 ?_
            refine ex_goto (tgt := 6) (by decide) dX12_before_52 ?_
            exact ex_lv [(0, .ref M), (1, .int (nI κ)), (2, .int (nI x)), (3, .int (nI e)), (4, .int (nI (bef (mS y) κ x (k + 1)))), (5, .int (nI (k + 1)))] ⟨rfl, rfl, rfl, rfl, by show some (Value.int (nI (bef (mS y) κ x k + 1))) = _; rw [bef_y ⟨c2, Or.inr c4⟩], rfl, trivial⟩ (ih (k + 1) (by omega) (by omega))
set_option maxHeartbeats 4000000 in
set_option maxRecDepth 100000 in
theorem t_before {G : EG} {l : Launch} {h : EH} {M : Nat} {y : MS} (hM : MD G h M y) (hB : mB y) {κ x e : Nat} (hκ : κ < 9) (hx : x < 2 ^ 30) (he : e ≤ 41) : ES G l 1 mX12_before [.ref M, .int (nI κ), .int (nI x), .int (nI e)] h 0 0 (fun v h' => v = some (.int (nI (bef (mS y) κ x e))) ∧ h' = h) eNoX := by
  refine es_of (by decide) rfl (Nat.le_of_ble_eq_true rfl) ?_
  refine ex_iconst (v := (nI 0)) (by decide) dX12_before_0 ?_
  refine ex_istore (by decide) rfl dX12_before_1 ?_
  refine ex_iconst (v := (nI 0)) (by decide) dX12_before_3 ?_
  refine ex_istore (by decide) rfl dX12_before_4 ?_
  exact l_before hM hB hκ hx he (e + 1) 0 (by omega) (by omega)
/-- the rows in use are shaped and their names are no 0 -/
def mH (y : MS) : Prop := ∀ i, i < ms y 6 → shp (mS y i) ∧ ∀ k, k < sz (mS y i) → wd (mS y i) k ≠ 0
theorem kNm1 : ∀ κ, κ < 9 → 1 ≤ kNm κ + kFw κ := by decide
theorem mH.s1 {y : MS} (h : mH y) (hB : mB y) {i : Nat} (hi : i < ms y 6) : 1 ≤ sz (mS y i) := Nat.le_trans (kNm1 _ (mS_kd hB i)) (h i hi).1.1
theorem wo_wd {s : Stm} {k : Nat} (h : k < sz s) : wo s k = wd s k := if_pos h
theorem isN_m {y : MS} (h : mH y) (hB : mB y) {e κ x : Nat} (he : e ≤ ms y 6) : (∃ i, i < e ∧ kd (mS y i) = κ ∧ wd (mS y i) 0 = x) ↔ isN (mS y) e κ x := by
  constructor
  · rintro ⟨i, i1, i2, i3⟩; exact ⟨i, i1, i2, by rw [wo_wd (h.s1 hB (by omega))]; exact i3⟩
  · rintro ⟨i, i1, i2, i3⟩; exact ⟨i, i1, i2, by rw [wo_wd (h.s1 hB (by omega))] at i3; exact i3⟩
set_option maxHeartbeats 4000000 in
set_option maxRecDepth 100000 in
theorem t_isType {G : EG} {l : Launch} {h : EH} {M : Nat} {y : MS} (hM : MD G h M y) (hB : mB y) (hH : mH y) {x : Nat} (hx : x < 2 ^ 30) (h0 : x ≠ 0) : ES G l 2 mX12_isType [.ref M, .int (nI x)] h 0 0 (fun v h' => v = some (.int (b2i (bP (isN (mS y) (ms y 6) 1 x)))) ∧ h' = h) eNoX := by
  have hn := hB.1
  have hbl := bef_le (mS y) 1 x (ms y 6)
  have hbp := (bef_p (S := mS y) (κ := 1) (e := ms y 6) h0).trans (isN_m hH hB (Nat.le_refl _))
  refine es_of (by decide) rfl (Nat.le_of_ble_eq_true rfl) ?_
  refine ex_aload_n rfl dX12_isType_0 ?_
  refine ex_iconst (v := (nI 1)) (by decide) dX12_isType_1 ?_
  refine ex_iload_n rfl dX12_isType_2 ?_
  refine ex_aload_n rfl dX12_isType_3 ?_
  refine ex_get dX12_isType_4 gf_X12_107 hM.1 rfl ?_
  refine ex_invv (k := 0) (n := 0) (mc' := 0) (ms' := 0) (As := [_, _, _]) dX12_isType_7 cv_X12_128 (by decide) (Nat.le_of_ble_eq_true rfl) (Or.inl ⟨_, _, _, _, hM.1, rfl⟩) (t_before hM hB (κ := 1) (e := ms y 6) (by decide) hx (by omega)) (fun v h' q => ?_)
  obtain ⟨rfl, rfl⟩ := q
  refine ex_ifN_le (tgt := 17) (by decide) dX12_isType_10 (by omega) (fun c1 => ?_) (fun c1 => ?_)
  · refine ex_iconst (v := (nI 0)) (by decide) dX12_isType_17 ?_
    refine ex_zret dX12_isType_18 rfl rfl ⟨rF (fun z => by have := hbp.mpr z; omega), rfl⟩
  · refine ex_iconst (v := (nI 1)) (by decide) dX12_isType_13 ?_
    refine ex_goto (tgt := 18) (by decide) dX12_isType_14 ?_
    refine ex_zret dX12_isType_18 rfl rfl ⟨rT (hbp.mp c1), rfl⟩
set_option maxHeartbeats 4000000 in
set_option maxRecDepth 100000 in
theorem t_isClass {G : EG} {l : Launch} {h : EH} {M : Nat} {y : MS} (hM : MD G h M y) (hB : mB y) (hH : mH y) {x : Nat} (hx : x < 2 ^ 30) (h0 : x ≠ 0) : ES G l 2 mX12_isClass [.ref M, .int (nI x)] h 0 0 (fun v h' => v = some (.int (b2i (bP (isN (mS y) (ms y 6) 0 x)))) ∧ h' = h) eNoX := by
  have hn := hB.1
  have hbl := bef_le (mS y) 0 x (ms y 6)
  have hbp := (bef_p (S := mS y) (κ := 0) (e := ms y 6) h0).trans (isN_m hH hB (Nat.le_refl _))
  refine es_of (by decide) rfl (Nat.le_of_ble_eq_true rfl) ?_
  refine ex_aload_n rfl dX12_isClass_0 ?_
  refine ex_iconst (v := (nI 0)) (by decide) dX12_isClass_1 ?_
  refine ex_iload_n rfl dX12_isClass_2 ?_
  refine ex_aload_n rfl dX12_isClass_3 ?_
  refine ex_get dX12_isClass_4 gf_X12_107 hM.1 rfl ?_
  refine ex_invv (k := 0) (n := 0) (mc' := 0) (ms' := 0) (As := [_, _, _]) dX12_isClass_7 cv_X12_128 (by decide) (Nat.le_of_ble_eq_true rfl) (Or.inl ⟨_, _, _, _, hM.1, rfl⟩) (t_before hM hB (κ := 0) (e := ms y 6) (by decide) hx (by omega)) (fun v h' q => ?_)
  obtain ⟨rfl, rfl⟩ := q
  refine ex_ifN_le (tgt := 17) (by decide) dX12_isClass_10 (by omega) (fun c1 => ?_) (fun c1 => ?_)
  · refine ex_iconst (v := (nI 0)) (by decide) dX12_isClass_17 ?_
    refine ex_zret dX12_isClass_18 rfl rfl ⟨rF (fun z => by have := hbp.mpr z; omega), rfl⟩
  · refine ex_iconst (v := (nI 1)) (by decide) dX12_isClass_13 ?_
    refine ex_goto (tgt := 18) (by decide) dX12_isClass_14 ?_
    refine ex_zret dX12_isClass_18 rfl rfl ⟨rT (hbp.mp c1), rfl⟩
