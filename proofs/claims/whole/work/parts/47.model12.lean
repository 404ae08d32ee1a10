/-! THE MODEL: the text, names -/
def hr (t : Nat → Nat) (n p : Nat) : Nat := if p < n then t p else 0
theorem hr_lt {t : Nat → Nat} {n p : Nat} (h : ∀ j, j < n → t j < 128) : hr t n p < 128 := by unfold hr; split; exact h p ‹_›; decide
theorem hr_y {t : Nat → Nat} {n p : Nat} (h : p < n) : hr t n p = t p := if_pos h
theorem hr_n {t : Nat → Nat} {n p : Nat} (h : ¬ p < n) : hr t n p = 0 := if_neg h
theorem isL_h {t : Nat → Nat} {n p : Nat} : isL t n p = true ↔ 97 ≤ hr t n p ∧ hr t n p ≤ 122 := by
  unfold isL hr
  rw [decide_eq_true_iff]
  split <;> omega
theorem bl_h {t : Nat → Nat} {n p : Nat} : bl t n p = true ↔ hr t n p = 32 := by
  unfold bl hr
  rw [decide_eq_true_iff]
  split <;> omega
theorem rTb {b : Bool} (h : b = true) : some (Value.int (nI 1)) = some (Value.int (b2i b)) := by rw [h]; rfl
theorem rFb {b : Bool} (h : ¬ b = true) : some (Value.int (nI 0)) = some (Value.int (b2i b)) := by rw [Bool.eq_false_iff.mpr h]; rfl
set_option maxHeartbeats 4000000 in
set_option maxRecDepth 100000 in
theorem t_here {G : EG} {l : Launch} {h : EH} {M : Nat} {y : MS} (hM : MD G h M y) (hx : ∀ j, j < ms y 2 → mA y 1 j < 128) (hn : ms y 2 ≤ 72) (hp : ms y 4 < 2 ^ 30) : ES G l 0 mX12_here [.ref M] h 0 0 (fun v h' => v = some (.int (nI (hr (mA y 1) (ms y 2) (ms y 4)))) ∧ h' = h) eNoX := by
  have k1 : h.2 (M + 1) = some (.inl (eA G 2, 72, .inl (fun j => nI (mA y 1 j)))) := hM.2 1 (by decide) (by decide)
  have hh := hr_lt (n := ms y 2) (p := ms y 4) hx
  refine es_of (by decide) rfl (Nat.le_of_ble_eq_true rfl) ?_
  refine ex_aload_n rfl dX12_here_0 ?_
  refine ex_get dX12_here_1 gf_X12_84 hM.1 rfl ?_
  refine ex_aload_n rfl dX12_here_4 ?_
  refine ex_get dX12_here_5 gf_X12_81 hM.1 rfl ?_
  refine ex_icmpN_ge (tgt := 23) (by decide) dX12_here_8 (by omega) (by omega) (fun c1 => ?_) (fun c1 => ?_)
  · refine ex_iconst (v := (nI 0)) (by decide) dX12_here_23 ?_
    exact ex_zret dX12_here_24 rfl (nc_char (by decide)) ⟨by rw [hr_n (by omega)], rfl⟩
  · refine ex_aload_n rfl dX12_here_11 ?_
    refine ex_get dX12_here_12 gf_X12_7 hM.1 rfl ?_
    refine ex_aload_n rfl dX12_here_15 ?_
    refine ex_get dX12_here_16 gf_X12_84 hM.1 rfl ?_
    refine ex_caldN dX12_here_19 k1 (by omega) (by decide) ?_
    refine ex_goto (tgt := 24) (by decide) dX12_here_20 ?_
    exact ex_zret dX12_here_24 rfl (nc_char (by have := hx _ c1; omega)) ⟨by rw [hr_y c1], rfl⟩
set_option maxHeartbeats 4000000 in
set_option maxRecDepth 100000 in
theorem t_isLetter {G : EG} {l : Launch} {h : EH} {M : Nat} {y : MS} (hM : MD G h M y) (hx : ∀ j, j < ms y 2 → mA y 1 j < 128) (hn : ms y 2 ≤ 72) (hp : ms y 4 < 2 ^ 30) : ES G l 1 mX12_isLetter [.ref M] h 0 0 (fun v h' => v = some (.int (b2i (isL (mA y 1) (ms y 2) (ms y 4)))) ∧ h' = h) eNoX := by
  have hh := hr_lt (n := ms y 2) (p := ms y 4) hx
  refine es_of (by decide) rfl (Nat.le_of_ble_eq_true rfl) ?_
  refine ex_aload_n rfl dX12_isLetter_0 ?_
  refine ex_invv (k := 0) (n := 0) (mc' := 0) (ms' := 0) (As := []) dX12_isLetter_1 cv_X12_87 (by decide) (Nat.le_of_ble_eq_true rfl) (Or.inl ⟨_, _, _, _, hM.1, rfl⟩) (t_here hM hx hn hp) (fun v h' q => ?_)
  obtain ⟨rfl, rfl⟩ := q
  refine ex_bipush (v := (nI 97)) (by decide) dX12_isLetter_4 ?_
  refine ex_icmpN_lt (tgt := 22) (by decide) dX12_isLetter_6 (by omega) (by omega) (fun c1 => ?_) (fun c1 => ?_)
  · refine ex_iconst (v := (nI 0)) (by decide) dX12_isLetter_22 ?_
    refine ex_zret dX12_isLetter_23 rfl rfl ⟨rFb (fun z => by have := isL_h.mp z; omega), rfl⟩
  · refine ex_aload_n rfl dX12_isLetter_9 ?_
    refine ex_invv (k := 0) (n := 0) (mc' := 0) (ms' := 0) (As := []) dX12_isLetter_10 cv_X12_87 (by decide) (Nat.le_of_ble_eq_true rfl) (Or.inl ⟨_, _, _, _, hM.1, rfl⟩) (t_here hM hx hn hp) (fun v h' q => ?_)
    obtain ⟨rfl, rfl⟩ := q
    refine ex_bipush (v := (nI 122)) (by decide) dX12_isLetter_13 ?_
    refine ex_icmpN_gt (tgt := 22) (by decide) dX12_isLetter_15 (by omega) (by omega) (fun c2 => ?_) (fun c2 => ?_)
    · refine ex_iconst (v := (nI 0)) (by decide) dX12_isLetter_22 ?_
      refine ex_zret dX12_isLetter_23 rfl rfl ⟨rFb (fun z => by have := isL_h.mp z; omega), rfl⟩
    · refine ex_iconst (v := (nI 1)) (by decide) dX12_isLetter_18 ?_
      refine ex_goto (tgt := 23) (by decide) dX12_isLetter_19 ?_
      refine ex_zret dX12_isLetter_23 rfl rfl ⟨rTb (isL_h.mpr ⟨by omega, by omega⟩), rfl⟩
/-- a name of j letters from k on, its first letter lowest -/
def lpk (t : Nat → Nat) (k : Nat) : Nat → Nat
  | 0 => 0
  | j + 1 => lpk t k j + (t (k + j) - 96) * 2 ^ (5 * j)
theorem lpk_lt {t : Nat → Nat} {k : Nat} : ∀ {j : Nat}, (∀ i, i < j → t (k + i) ≤ 122) → lpk t k j < 2 ^ (5 * j) := by
  intro j
  induction j with
  | zero => intro _; exact Nat.one_pos
  | succ j ih =>
    intro h
    have h1 := ih (fun i hi => h i (by omega))
    have h2 := h j (by omega)
    have h3 : (t (k + j) - 96) * 2 ^ (5 * j) ≤ 31 * 2 ^ (5 * j) := Nat.mul_le_mul_right _ (by omega)
    show lpk t k j + _ < _
    rw [show 5 * (j + 1) = 5 * j + 5 by omega, Nat.pow_add]
    have : 2 ^ (5 * j) * 2 ^ 5 = 32 * 2 ^ (5 * j) := by rw [Nat.mul_comm]
    omega
theorem or_add {a b i : Nat} (h : b < 2 ^ i) : b ||| a * 2 ^ i = b + a * 2 ^ i := by
  have h1 := Nat.shiftLeft_add_eq_or_of_lt h a
  rw [Nat.shiftLeft_eq] at h1
  rw [Nat.or_comm, ← h1, Nat.add_comm]
theorem shl_N {d b : Nat} (hb : b < 32) (h : d * 2 ^ b < 2 ^ 31) : nI d <<< (nI b &&& 31) = nI (d * 2 ^ b) := pk_shlN (n := d) (nI b &&& 31) b (s_l b hb) (Nat.lt_trans h (by decide))
theorem isL_b {t : Nat → Nat} {n p : Nat} (h : isL t n p = true) : p < n ∧ 97 ≤ t p ∧ t p ≤ 122 := of_decide_eq_true h
theorem pow5 {j : Nat} (h : j ≤ 4) : 2 ^ (5 * j) ≤ 2 ^ 20 := Nat.pow_le_pow_right (by decide) (by omega)
theorem lpk_pos {t : Nat → Nat} {k : Nat} : ∀ {j : Nat}, (∀ i, i < j → 97 ≤ t (k + i)) → 0 < j → 0 < lpk t k j := by
  intro j
  cases j with
  | zero => intro _ h; omega
  | succ j =>
    intro h _
    have h1 := h j (by omega)
    have h2 : 1 * 2 ^ (5 * j) ≤ (t (k + j) - 96) * 2 ^ (5 * j) := Nat.mul_le_mul_right _ (by omega)
    have h3 := Nat.two_pow_pos (5 * j)
    show 0 < lpk t k j + _
    omega
def nmY (y : MS) (p : Nat) : MS := (va_up (ms y) 4 p, y.2)
theorem nlet_at {t : Nat → Nat} {n k : Nat} : ∀ {f j : Nat}, j ≤ f → (∀ i, i < j → isL t n (k + i) = true) → (j < f → isL t n (k + j) = false) → nlet t n k f = j := by
  intro f
  induction f generalizing k with
  | zero => intro j h _ _; show 0 = j; omega
  | succ f ih =>
    intro j h h1 h2
    unfold nlet
    cases j with
    | zero =>
      have h20 : isL t n k = false := h2 (by omega)
      rw [if_neg (by rw [h20]; decide)]
    | succ j =>
      rw [if_pos (show isL t n k = true from h1 0 (by omega)), ih (j := j) (by omega) (fun i hi => by have := h1 (i + 1) (by omega); rw [show k + (i + 1) = k + 1 + i by omega] at this; exact this) (fun hj => by have := h2 (by omega); rw [show k + (j + 1) = k + 1 + j by omega] at this; exact this)]
      omega
set_option maxHeartbeats 4000000 in
set_option maxRecDepth 100000 in
theorem l_rn {G : EG} {l : Launch} {h0 : EH} {M : Nat} {y0 : MS} {t : Nat → Nat} {n p : Nat} (ht : mA y0 1 = t) (hn2 : ms y0 2 = n) (hx : ∀ j, j < n → t j < 128) (hn : n ≤ 72) (hp : p ≤ 80) : ∀ (f k : Nat), 4 - k < f → k ≤ 4 → (∀ i, i < k → isL t n (p + i) = true) → ∀ (h : EH), MD G h M (nmY y0 (p + k)) → Fr (atN M) h0 h → Ex G l 2 mX12_readName (fun v h' => v = some (.int (nI (lpk t p (nlet t n p 4)))) ∧ MD G h' M (nmY y0 (p + nlet t n p 4)) ∧ Fr (atN M) h0 h') eNoX 0 0 25 [(0, .ref M), (1, .int (nI (lpk t p k))), (2, .int (nI (k)))] [] h := by
  intro f
  induction f with
  | zero =>
    intro k h1 h2 hL h hM hF
    omega
  | succ f ih =>
    intro k h1 h2 hL h hM hF
    have hx' : ∀ j, j < ms (nmY y0 (p + k)) 2 → mA (nmY y0 (p + k)) 1 j < 128 := by show ∀ j, j < ms y0 2 → mA y0 1 j < 128; rw [ht, hn2]; exact hx
    have hn' : ms (nmY y0 (p + k)) 2 ≤ 72 := by show ms y0 2 ≤ 72; omega
    have hwl := lpk_lt (t := t) (k := p) (j := k) (fun i hi => (isL_b (hL i hi)).2.2)
    have h5 := pow5 (j := k) h2
    refine ex_iload_n rfl dX12_readName_25 ?_
    refine ex_iconst (v := (nI 4)) (by decide) dX12_readName_26 ?_
    refine ex_icmpN_ge (tgt := 67) (by decide) dX12_readName_27 (by omega) (by omega) (fun c1 => ?_) (fun c1 => ?_)
    · refine ex_iload_n rfl dX12_readName_67 ?_
      refine ex_iret dX12_readName_68 rfl ⟨by rw [nlet_at (j := k) (by omega) hL (fun z => by omega)], by rw [nlet_at (j := k) (by omega) hL (fun z => by omega)]; exact hM, hF⟩
    · refine ex_aload_n rfl dX12_readName_30 ?_
      refine ex_invv (k := 0) (n := 0) (mc' := 0) (ms' := 0) (As := []) dX12_readName_31 cv_X12_99 (by decide) (Nat.le_of_ble_eq_true rfl) (Or.inl ⟨_, _, _, _, hM.1, rfl⟩) (t_isLetter hM hx' hn' (show p + k < 2 ^ 30 by omega)) (fun v h' q => ?_)
      obtain ⟨rfl, rfl⟩ := q
      rw [show isL (mA (nmY y0 (p + k)) 1) (ms (nmY y0 (p + k)) 2) (ms (nmY y0 (p + k)) 4) = isL t n (p + k) by show isL (mA y0 1) (ms y0 2) (p + k) = _; rw [ht, hn2]]
      refine ex_ifB_eq (tgt := 67) (by decide) dX12_readName_34 (fun c2 => ?_) (fun c2 => ?_)
      · refine ex_iload_n rfl dX12_readName_67 ?_
        refine ex_iret dX12_readName_68 rfl ⟨by rw [nlet_at (j := k) (by omega) hL (fun z => c2)], by rw [nlet_at (j := k) (by omega) hL (fun z => c2)]; exact hM, hF⟩
      · refine ex_iload_n rfl dX12_readName_37 ?_
        refine ex_aload_n rfl dX12_readName_38 ?_
        refine ex_invv (k := 0) (n := 0) (mc' := 0) (ms' := 0) (As := []) dX12_readName_39 cv_X12_87 (by decide) (Nat.le_of_ble_eq_true rfl) (Or.inl ⟨_, _, _, _, hM.1, rfl⟩) (t_here hM hx' hn' (show p + k < 2 ^ 30 by omega)) (fun v h' q => ?_)
        obtain ⟨rfl, rfl⟩ := q
        have hb := isL_b c2
        have hd : (t (p + k) - 96) * 2 ^ (5 * k) ≤ 26 * 2 ^ (5 * k) := Nat.mul_le_mul_right _ (by omega)
        rw [show hr (mA (nmY y0 (p + k)) 1) (ms (nmY y0 (p + k)) 2) (ms (nmY y0 (p + k)) 4) = t (p + k) by show hr (mA y0 1) (ms y0 2) (p + k) = _; rw [ht, hn2, hr_y hb.1]]
        refine ex_bipush (v := (nI 96)) (by decide) dX12_readName_42 ?_
        refine ex_isubN (by omega) dX12_readName_44 ?_
        refine ex_iconst (v := (nI 5)) (by decide) dX12_readName_45 ?_
        refine ex_iload_n rfl dX12_readName_46 ?_
        refine ex_imulN dX12_readName_47 ?_
        refine ex_ishl dX12_readName_48 ?_
        rw [shl_N (by omega) (by omega)]
        refine ex_ior dX12_readName_49 ?_
        rw [nx_or, or_add hwl]
        refine ex_istore_n (by decide) rfl dX12_readName_50 ?_
        refine ex_iincN (z := 1) rfl (by decide) rfl dX12_readName_51 ?_
        refine ex_aload_n rfl dX12_readName_54 ?_
        refine ex_dup rfl dX12_readName_55 ?_
        refine ex_get dX12_readName_56 gf_X12_84 hM.1 rfl ?_
        refine ex_iconst (v := (nI 1)) (by decide) dX12_readName_59 ?_
        refine ex_iaddN dX12_readName_60 ?_
        refine ex_put dX12_readName_61 pf_X12_84 hM.1 (Nat.le_of_ble_eq_true rfl) rfl rfl ?_
        refine ex_goto (tgt := 25) (by decide) dX12_readName_64 ?_
        exact ex_lv [(0, .ref M), (1, .int (nI (lpk t p (k + 1)))), (2, .int (nI (k + 1)))] ⟨rfl, rfl, rfl, trivial⟩ (ih (k + 1) (by omega) (by omega) (fun i hi => by rcases Nat.lt_or_ge i k with q | q; exact hL i q; rw [show i = k by omega]; exact c2) _ (hM.ob' (va_up (ms y0) 4 (p + (k + 1))) (mpo y0) (mfa y0) rfl) (hF.up ⟨by omega, by omega⟩))
set_option maxHeartbeats 4000000 in
set_option maxRecDepth 100000 in
theorem t_readName {G : EG} {l : Launch} {h : EH} {M : Nat} {y : MS} (hM : MD G h M y) (hx : ∀ j, j < ms y 2 → mA y 1 j < 128) (hn : ms y 2 ≤ 72) (hp : ms y 4 ≤ 76) (hb : (bl (mA y 1) (ms y 2) (ms y 4)) = true) : ES G l 2 mX12_readName [.ref M] h 0 0 (fun v h' => v = some (.int (nI (lpk (mA y 1) (ms y 4 + 1) (nlet (mA y 1) (ms y 2) (ms y 4 + 1) 4)))) ∧ MD G h' M (nmY y (ms y 4 + 1 + (nlet (mA y 1) (ms y 2) (ms y 4 + 1) 4))) ∧ Fr (atN M) h h') eNoX := by
  have hh := hr_lt (n := ms y 2) (p := ms y 4) hx
  refine es_of (by decide) rfl (Nat.le_of_ble_eq_true rfl) ?_
  refine ex_aload_n rfl dX12_readName_0 ?_
  refine ex_invv (k := 0) (n := 0) (mc' := 0) (ms' := 0) (As := []) dX12_readName_1 cv_X12_87 (by decide) (Nat.le_of_ble_eq_true rfl) (Or.inl ⟨_, _, _, _, hM.1, rfl⟩) (t_here hM hx hn (by omega)) (fun v h' q => ?_)
  obtain ⟨rfl, rfl⟩ := q
  refine ex_bipush (v := (nI 32)) (by decide) dX12_readName_4 ?_
  refine ex_icmpN_eq (tgt := 11) (by decide) dX12_readName_6 (by omega) (by omega) (fun c1 => ?_) (fun c1 => ?_)
  · refine ex_aload_n rfl dX12_readName_11 ?_
    refine ex_dup rfl dX12_readName_12 ?_
    refine ex_get dX12_readName_13 gf_X12_84 hM.1 rfl ?_
    refine ex_iconst (v := (nI 1)) (by decide) dX12_readName_16 ?_
    refine ex_iaddN dX12_readName_17 ?_
    refine ex_put dX12_readName_18 pf_X12_84 hM.1 (Nat.le_of_ble_eq_true rfl) rfl rfl ?_
    refine ex_iconst (v := (nI 0)) (by decide) dX12_readName_21 ?_
    refine ex_istore_n (by decide) rfl dX12_readName_22 ?_
    refine ex_iconst (v := (nI 0)) (by decide) dX12_readName_23 ?_
    refine ex_istore_n (by decide) rfl dX12_readName_24 ?_
    exact ex_lv [(0, .ref M), (1, .int (nI (lpk (mA y 1) (ms y 4 + 1) 0))), (2, .int (nI (0)))] ⟨rfl, rfl, rfl, trivial⟩ (l_rn rfl rfl hx hn (by omega) 5 0 (by omega) (by omega) (fun i hi => by omega) _ (hM.ob' (va_up (ms y) 4 (ms y 4 + 1)) (mpo y) (mfa y) rfl) (Fr.rf.up ⟨by omega, by omega⟩))
  · exact absurd (bl_h.mp hb) c1
set_option maxHeartbeats 4000000 in
set_option maxRecDepth 100000 in
theorem t_readNameN {G : EG} {l : Launch} {h : EH} {M : Nat} {y : MS} (hM : MD G h M y) (hx : ∀ j, j < ms y 2 → mA y 1 j < 128) (hn : ms y 2 ≤ 72) (hp : ms y 4 ≤ 76) (hb : (bl (mA y 1) (ms y 2) (ms y 4)) = false) : ES G l 2 mX12_readName [.ref M] h 0 0 (fun v h' => v = some (.int (nI 0)) ∧ h' = h) eNoX := by
  have hh := hr_lt (n := ms y 2) (p := ms y 4) hx
  refine es_of (by decide) rfl (Nat.le_of_ble_eq_true rfl) ?_
  refine ex_aload_n rfl dX12_readName_0 ?_
  refine ex_invv (k := 0) (n := 0) (mc' := 0) (ms' := 0) (As := []) dX12_readName_1 cv_X12_87 (by decide) (Nat.le_of_ble_eq_true rfl) (Or.inl ⟨_, _, _, _, hM.1, rfl⟩) (t_here hM hx hn (by omega)) (fun v h' q => ?_)
  obtain ⟨rfl, rfl⟩ := q
  refine ex_bipush (v := (nI 32)) (by decide) dX12_readName_4 ?_
  refine ex_icmpN_eq (tgt := 11) (by decide) dX12_readName_6 (by omega) (by omega) (fun c1 => ?_) (fun c1 => ?_)
  · exact absurd (bl_h.mpr c1) (by rw [hb]; decide)
  · refine ex_iconst (v := (nI 0)) (by decide) dX12_readName_9 ?_
    refine ex_iret dX12_readName_10 rfl ⟨rfl, rfl⟩
set_option maxHeartbeats 4000000 in
set_option maxRecDepth 100000 in
theorem t_position {G : EG} {l : Launch} {h : EH} {M : Nat} {y : MS} (hM : MD G h M y) : ES G l 0 mX12_position [.ref M] h 0 0 (fun v h' => v = some (.int (mpo y)) ∧ MD G h' M (th0 y 0) ∧ Fr (atN M) h h') eNoX := by
  refine es_of (by decide) rfl (Nat.le_of_ble_eq_true rfl) ?_
  refine ex_aload_n rfl dX12_position_0 ?_
  refine ex_iconst (v := (nI 0)) (by decide) dX12_position_1 ?_
  refine ex_put dX12_position_2 pf_X12_76 hM.1 (Nat.le_of_ble_eq_true rfl) rfl rfl ?_
  refine ex_aload_n rfl dX12_position_5 ?_
  refine ex_get dX12_position_6 gf_X12_13 hup_eq rfl ?_
  refine ex_iret dX12_position_9 rfl ⟨rfl, hM.th 0 rfl, (Fr.rf.up ⟨by omega, by omega⟩)⟩
set_option maxHeartbeats 4000000 in
set_option maxRecDepth 100000 in
theorem t_fault {G : EG} {l : Launch} {h : EH} {M : Nat} {y : MS} (hM : MD G h M y) : ES G l 0 mX12_fault [.ref M] h 0 0 (fun v h' => v = some (.int (mfa y)) ∧ MD G h' M (th0 y 0) ∧ Fr (atN M) h h') eNoX := by
  refine es_of (by decide) rfl (Nat.le_of_ble_eq_true rfl) ?_
  refine ex_aload_n rfl dX12_fault_0 ?_
  refine ex_iconst (v := (nI 0)) (by decide) dX12_fault_1 ?_
  refine ex_put dX12_fault_2 pf_X12_76 hM.1 (Nat.le_of_ble_eq_true rfl) rfl rfl ?_
  refine ex_aload_n rfl dX12_fault_5 ?_
  refine ex_get dX12_fault_6 gf_X12_30 hup_eq rfl ?_
  refine ex_iret dX12_fault_9 rfl ⟨rfl, hM.th 0 rfl, (Fr.rf.up ⟨by omega, by omega⟩)⟩
set_option maxHeartbeats 4000000 in
set_option maxRecDepth 100000 in
theorem t_cut {G : EG} {l : Launch} {h : EH} {M : Nat} {y : MS} (hM : MD G h M y) (h6 : ms y 6 ≤ 40) {m : Nat} (hm : m ≤ ms y 6) : ES G l 0 mX12_cut [.ref M, .int (nI m)] h 0 0 (fun v h' => v = some (.int (nI 1)) ∧ MD G h' M (va_up (va_up (ms y) 1 0) 6 m, y.2) ∧ Fr (atN M) h h') eNoX := by
  refine es_of (by decide) rfl (Nat.le_of_ble_eq_true rfl) ?_
  refine ex_aload_n rfl dX12_cut_0 ?_
  refine ex_iconst (v := (nI 0)) (by decide) dX12_cut_1 ?_
  refine ex_put dX12_cut_2 pf_X12_76 hM.1 (Nat.le_of_ble_eq_true rfl) rfl rfl ?_
  refine ex_iload_n rfl dX12_cut_5 ?_
  refine ex_ifN_lt (tgt := 17) (by decide) dX12_cut_6 (by omega) (fun c1 => ?_) (fun c1 => ?_)
  · exact c1.elim
  · refine ex_iload_n rfl dX12_cut_9 ?_
    refine ex_aload_n rfl dX12_cut_10 ?_
    refine ex_get dX12_cut_11 gf_X12_107 hup_eq rfl ?_
    refine ex_icmpN_le (tgt := 19) (by decide) dX12_cut_14 (by omega) (by omega) (fun c2 => ?_) (fun c2 => ?_)
    · refine ex_aload_n rfl dX12_cut_19 ?_
      refine ex_iload_n rfl dX12_cut_20 ?_
      refine ex_put dX12_cut_21 pf_X12_107 hup_eq (Nat.le_of_ble_eq_true rfl) rfl rfl ?_
      refine ex_iconst (v := (nI 1)) (by decide) dX12_cut_24 ?_
      refine ex_zret dX12_cut_25 rfl rfl ⟨rfl, (hM.th 0 rfl).ob' (va_up (va_up (ms y) 1 0) 6 m) (mpo y) (mfa y) rfl, (Fr.rf.up ⟨by omega, by omega⟩).up ⟨by omega, by omega⟩⟩
    · exfalso
      omega
set_option maxHeartbeats 4000000 in
set_option maxRecDepth 100000 in
theorem t_cutN {G : EG} {l : Launch} {h : EH} {M : Nat} {y : MS} (hM : MD G h M y) {m : Int32} (hm : m < 0 ∨ nI (ms y 6) < m) : ES G l 0 mX12_cut [.ref M, .int m] h 0 0 (fun v h' => v = some (.int (nI 0)) ∧ MD G h' M (th0 y 0) ∧ Fr (atN M) h h') eNoX := by
  refine es_of (by decide) rfl (Nat.le_of_ble_eq_true rfl) ?_
  refine ex_aload_n rfl dX12_cut_0 ?_
  refine ex_iconst (v := (nI 0)) (by decide) dX12_cut_1 ?_
  refine ex_put dX12_cut_2 pf_X12_76 hM.1 (Nat.le_of_ble_eq_true rfl) rfl rfl ?_
  refine ex_iload_n rfl dX12_cut_5 ?_
  refine ex_if_lt (tgt := 17) (by decide) dX12_cut_6 (fun c1 => ?_) (fun c1 => ?_)
  · refine ex_iconst (v := (nI 0)) (by decide) dX12_cut_17 ?_
    refine ex_zret dX12_cut_18 rfl rfl ⟨rfl, hM.th 0 rfl, (Fr.rf.up ⟨by omega, by omega⟩)⟩
  · refine ex_iload_n rfl dX12_cut_9 ?_
    refine ex_aload_n rfl dX12_cut_10 ?_
    refine ex_get dX12_cut_11 gf_X12_107 hup_eq rfl ?_
    refine ex_icmp_le (tgt := 19) (by decide) dX12_cut_14 (fun c2 => ?_) (fun c2 => ?_)
    · exact hm.elim (fun z => absurd z c1) (fun z => absurd c2 (Int32.not_le.mpr z))
    · refine ex_iconst (v := (nI 0)) (by decide) dX12_cut_17 ?_
      refine ex_zret dX12_cut_18 rfl rfl ⟨rfl, hM.th 0 rfl, (Fr.rf.up ⟨by omega, by omega⟩)⟩
def kI (j : Nat) : Int32 := if j < 8 then nI (56 - 8 * j) else -8
theorem kI_y {j : Nat} (h : j < 8) : kI j = nI (56 - 8 * j) := if_pos h
theorem kI_s {j : Nat} (h : j < 8) : nI (56 - 8 * j) - nI 8 = kI (j + 1) := by
  rcases Nat.lt_or_ge j 7 with q | q
  · rw [kI_y (by omega), pk_sub (by omega)]; rfl
  · rw [show j = 7 by omega]; decide
theorem kI_8 {j : Nat} (h : ¬ j < 8) : kI j < 0 := by unfold kI; rw [if_neg h]; decide
theorem byt_w (w : Int64) {j : Nat} (h : j < 8) : ((w.toUInt64 >>> ((nI (56 - 8 * j)).toInt64.toUInt64 &&& Int64.toUInt64 63)).toInt64 &&& 255).toInt32 = nI (byt w j) := byt_m w (by omega)
def wrY (y0 y : MS) (w : Int64) (k : Nat) : Prop := Kp [2] [1] y0 y ∧ mmk y = mmk y0 ∧ ms y 2 = ms y0 2 + cntb w k ∧ mA y 1 = wt (mA y0 1) (ms y0 2) w k
set_option maxHeartbeats 4000000 in
set_option maxRecDepth 100000 in
theorem l_wr2 {G : EG} {l : Launch} {h0 : EH} {M : Nat} {y0 : MS} {w : Int64} (hn : ms y0 2 ≤ 72) (hok : wok w (ms y0 2) = true) (hfit : ms y0 2 + cntb w 8 ≤ 72) : ∀ (f k : Nat), 8 - k < f → k ≤ 8 → ∀ (h : EH) (y : MS), MD G h M y → wrY y0 y w k → Fr (atN M) h0 h → Ex G l 0 mX12_write (fun v h' => v = some (.int (b2i (wok w (ms y0 2)))) ∧ (∃ y', MD G h' M y' ∧ (if wok w (ms y0 2) = true then wrY y0 y' w 8 else y' = y0)) ∧ Fr (atN M) h0 h') eNoX 0 0 88 [(0, .ref M), (1, .long w), (4, .int (kI k))] [] h := by
  intro f
  induction f with
  | zero =>
    intro k h1 h2 h y hM hy hF
    omega
  | succ f ih =>
    intro k h1 h2 h y hM hy hF
    have hbt := byt_lt w k
    have hcm : k < 8 → cntb w (k + 1) ≤ cntb w 8 := fun z => cntb_mono w (by omega)
    have e2 := hy.2.2.1
    have hcs : cntb w (k + 1) = cntb w k + (if byt w k = 0 then 0 else 1) := rfl
    have k1 : h.2 (M + 1) = some (.inl (eA G 2, 72, .inl (fun j => nI (mA y 1 j)))) := hM.2 1 (by decide) (by decide)
    refine ex_iload rfl dX12_write_88 ?_
    rcases Nat.lt_or_ge k 8 with hk | hk
    · rw [kI_y hk]
      refine ex_ifN_lt (tgt := 141) (by decide) dX12_write_90 (by omega) (fun z => z.elim) (fun _ => ?_)
      refine ex_lload_n rfl dX12_write_93 ?_
      refine ex_iload rfl dX12_write_94 ?_
      refine ex_lushr dX12_write_96 ?_
      refine ex_ldc2 lc_X12_79 dX12_write_97 ?_
      refine ex_land dX12_write_100 ?_
      refine ex_l2i dX12_write_101 ?_
      rw [byt_w w hk]
      refine ex_istore (by decide) rfl dX12_write_102 ?_
      refine ex_iload rfl dX12_write_104 ?_
      refine ex_ifN_eq (tgt := 131) (by decide) dX12_write_106 (by omega) (fun c1 => ?_) (fun c1 => ?_)
      · refine ex_iload rfl dX12_write_131 ?_
        refine ex_bipush (v := (nI 8)) (by decide) dX12_write_133 ?_
        refine ex_isub dX12_write_135 ?_
        rw [kI_s hk]
        refine ex_istore (by decide) rfl dX12_write_136 ?_
        refine ex_goto (tgt := 88) (by decide) dX12_write_138 ?_
        exact ex_lv [(0, .ref M), (1, .long w), (4, .int (kI (k + 1)))] ⟨rfl, rfl, rfl, trivial⟩ (ih (k + 1) (by omega) (by omega) _ _ hM ⟨hy.1, hy.2.1, (by rw [if_pos c1] at hcs; rw [hcs]; exact e2), (by show _ = (if byt w k = 0 then wt (mA y0 1) (ms y0 2) w k else _); rw [if_pos c1]; exact hy.2.2.2)⟩ hF)
      · refine ex_aload_n rfl dX12_write_109 ?_
        refine ex_get dX12_write_110 gf_X12_7 hM.1 rfl ?_
        refine ex_aload_n rfl dX12_write_113 ?_
        refine ex_get dX12_write_114 gf_X12_81 hM.1 rfl ?_
        refine ex_iload rfl dX12_write_117 ?_
        refine ex_i2c dX12_write_119 ?_
        rw [i2c_N (by omega)]
        refine ex_castN dX12_write_120 k1 (by have := hcm hk; rw [if_neg c1] at hcs; omega) (by decide) (by omega) ?_
        refine ex_aload_n rfl dX12_write_121 ?_
        refine ex_dup rfl dX12_write_122 ?_
        refine ex_get dX12_write_123 gf_X12_81 (hup_ne (by omega) hM.1) rfl ?_
        refine ex_iconst (v := (nI 1)) (by decide) dX12_write_126 ?_
        refine ex_iaddN dX12_write_127 ?_
        refine ex_put dX12_write_128 pf_X12_81 (hup_ne (by omega) hM.1) (Nat.le_of_ble_eq_true rfl) rfl rfl ?_
        refine ex_iload rfl dX12_write_131 ?_
        refine ex_bipush (v := (nI 8)) (by decide) dX12_write_133 ?_
        refine ex_isub dX12_write_135 ?_
        rw [kI_s hk]
        refine ex_istore (by decide) rfl dX12_write_136 ?_
        refine ex_goto (tgt := 88) (by decide) dX12_write_138 ?_
        exact ex_lv [(0, .ref M), (1, .long w), (4, .int (kI (k + 1)))] ⟨rfl, rfl, rfl, trivial⟩ (ih (k + 1) (by omega) (by omega) _ (va_up (ms y) 2 (ms y 2 + 1), (mUp y 1 (ms y 2) (byt w k)).2) ((hM.tx (ms y 2) (byt w k)).ob' (va_up (ms y) 2 (ms y 2 + 1)) (mpo y) (mfa y) rfl) ⟨(hy.1.up (by decide)).fd (by decide), hy.2.1, (by rw [if_neg c1] at hcs; rw [hcs]; show ms y 2 + 1 = _; rw [e2]; rfl), (by show va_up (mA y 1) (ms y 2) (byt w k) = (if byt w k = 0 then _ else va_up (wt (mA y0 1) (ms y0 2) w k) (ms y0 2 + cntb w k) (byt w k)); rw [if_neg c1, hy.2.2.2, e2])⟩ ((hF.up ⟨by omega, by omega⟩).up ⟨by omega, by omega⟩))
    · refine ex_if_lt (tgt := 141) (by decide) dX12_write_90 (fun _ => ?_) (fun z => absurd (kI_8 (by omega)) z)
      refine ex_iconst (v := (nI 1)) (by decide) dX12_write_141 ?_
      refine ex_zret dX12_write_142 rfl rfl ⟨by rw [hok]; rfl, ⟨y, hM, (by rw [if_pos hok]; rw [show k = 8 by omega] at hy; exact hy)⟩, hF⟩
set_option maxHeartbeats 4000000 in
set_option maxRecDepth 100000 in
theorem l_wr1 {G : EG} {l : Launch} {h0 : EH} {M : Nat} {y0 : MS} {w : Int64} (hn : ms y0 2 ≤ 72) {h : EH} (hM : MD G h M y0) (hF : Fr (atN M) h0 h) : ∀ (f k : Nat), 8 - k < f → k ≤ 8 → (∀ j, j < k → okb (byt w j) = true) → Ex G l 0 mX12_write (fun v h' => v = some (.int (b2i (wok w (ms y0 2)))) ∧ (∃ y', MD G h' M y' ∧ (if wok w (ms y0 2) = true then wrY y0 y' w 8 else y' = y0)) ∧ Fr (atN M) h0 h') eNoX 0 0 11 [(0, .ref M), (1, .long w), (3, .int (nI (cntb w k))), (4, .int (kI k))] [] h := by
  intro f
  induction f with
  | zero =>
    intro k h1 h2 ho
    omega
  | succ f ih =>
    intro k h1 h2 ho
    have hbt := byt_lt w k
    have hcl := cntb_le w k
    have hcs : cntb w (k + 1) = cntb w k + (if byt w k = 0 then 0 else 1) := rfl
    refine ex_iload rfl dX12_write_11 ?_
    rcases Nat.lt_or_ge k 8 with hk | hk
    · rw [kI_y hk]
      refine ex_ifN_lt (tgt := 71) (by decide) dX12_write_13 (by omega) (fun z => z.elim) (fun _ => ?_)
      refine ex_lload_n rfl dX12_write_16 ?_
      refine ex_iload rfl dX12_write_17 ?_
      refine ex_lushr dX12_write_19 ?_
      refine ex_ldc2 lc_X12_79 dX12_write_20 ?_
      refine ex_land dX12_write_23 ?_
      refine ex_l2i dX12_write_24 ?_
      rw [byt_w w hk]
      refine ex_istore (by decide) rfl dX12_write_25 ?_
      refine ex_iload rfl dX12_write_27 ?_
      refine ex_ifN_eq (tgt := 48) (by decide) dX12_write_29 (by omega) (fun c1 => ?_) (fun c1 => ?_)
      · refine ex_iload rfl dX12_write_48 ?_
        refine ex_ifN_eq (tgt := 59) (by decide) dX12_write_50 (by omega) (fun c2 => ?_) (fun c2 => ?_)
        · refine ex_iload_n rfl dX12_write_59 ?_
          refine ex_istore_n (by decide) rfl dX12_write_60 ?_
          refine ex_iload rfl dX12_write_61 ?_
          refine ex_bipush (v := (nI 8)) (by decide) dX12_write_63 ?_
          refine ex_isub dX12_write_65 ?_
          rw [kI_s hk]
          refine ex_istore (by decide) rfl dX12_write_66 ?_
          refine ex_goto (tgt := 11) (by decide) dX12_write_68 ?_
          exact ex_lv [(0, .ref M), (1, .long w), (3, .int (nI (cntb w (k + 1)))), (4, .int (kI (k + 1)))] ⟨rfl, rfl, by rw [hcs, if_pos c1]; rfl, rfl, trivial⟩ (ih (k + 1) (by omega) (by omega) (fun j hj => by rcases Nat.lt_or_ge j k with q | q; exact ho j q; rw [show j = k by omega]; exact decide_eq_true (Or.inl c1)))
        · refine ex_iload_n rfl dX12_write_53 ?_
          refine ex_iconst (v := (nI 1)) (by decide) dX12_write_54 ?_
          refine ex_iaddN dX12_write_55 ?_
          refine ex_goto (tgt := 60) (by decide) dX12_write_56 ?_
          refine ex_istore_n (by decide) rfl dX12_write_60 ?_
          refine ex_iload rfl dX12_write_61 ?_
          refine ex_bipush (v := (nI 8)) (by decide) dX12_write_63 ?_
          refine ex_isub dX12_write_65 ?_
          rw [kI_s hk]
          refine ex_istore (by decide) rfl dX12_write_66 ?_
          refine ex_goto (tgt := 11) (by decide) dX12_write_68 ?_
          exact absurd c1 c2
      · refine ex_iload rfl dX12_write_32 ?_
        refine ex_bipush (v := (nI 32)) (by decide) dX12_write_34 ?_
        refine ex_icmpN_lt (tgt := 46) (by decide) dX12_write_36 (by omega) (by omega) (fun c3 => ?_) (fun c3 => ?_)
        · refine ex_iconst (v := (nI 0)) (by decide) dX12_write_46 ?_
          refine ex_zret dX12_write_47 rfl rfl ⟨by rw [show wok w (ms y0 2) = false from (by unfold wok; rw [oks_no (k := k) hk (decide_eq_false (by omega))]; rfl)]; rfl, ⟨y0, hM, (by rw [if_neg (by rw [show wok w (ms y0 2) = false from (by unfold wok; rw [oks_no (k := k) hk (decide_eq_false (by omega))]; rfl)]; decide)])⟩, hF⟩
        · refine ex_iload rfl dX12_write_39 ?_
          refine ex_bipush (v := (nI 126)) (by decide) dX12_write_41 ?_
          refine ex_icmpN_le (tgt := 48) (by decide) dX12_write_43 (by omega) (by omega) (fun c4 => ?_) (fun c4 => ?_)
          · refine ex_iload rfl dX12_write_48 ?_
            refine ex_ifN_eq (tgt := 59) (by decide) dX12_write_50 (by omega) (fun c5 => ?_) (fun c5 => ?_)
            · refine ex_iload_n rfl dX12_write_59 ?_
              refine ex_istore_n (by decide) rfl dX12_write_60 ?_
              refine ex_iload rfl dX12_write_61 ?_
              refine ex_bipush (v := (nI 8)) (by decide) dX12_write_63 ?_
              refine ex_isub dX12_write_65 ?_
              rw [kI_s hk]
              refine ex_istore (by decide) rfl dX12_write_66 ?_
              refine ex_goto (tgt := 11) (by decide) dX12_write_68 ?_
              exact absurd c5 c1
            · refine ex_iload_n rfl dX12_write_53 ?_
              refine ex_iconst (v := (nI 1)) (by decide) dX12_write_54 ?_
              refine ex_iaddN dX12_write_55 ?_
              refine ex_goto (tgt := 60) (by decide) dX12_write_56 ?_
              refine ex_istore_n (by decide) rfl dX12_write_60 ?_
              refine ex_iload rfl dX12_write_61 ?_
              refine ex_bipush (v := (nI 8)) (by decide) dX12_write_63 ?_
              refine ex_isub dX12_write_65 ?_
              rw [kI_s hk]
              refine ex_istore (by decide) rfl dX12_write_66 ?_
              refine ex_goto (tgt := 11) (by decide) dX12_write_68 ?_
              exact ex_lv [(0, .ref M), (1, .long w), (3, .int (nI (cntb w (k + 1)))), (4, .int (kI (k + 1)))] ⟨rfl, rfl, by rw [hcs, if_neg c1]; rfl, rfl, trivial⟩ (ih (k + 1) (by omega) (by omega) (fun j hj => by rcases Nat.lt_or_ge j k with q | q; exact ho j q; rw [show j = k by omega]; exact decide_eq_true (Or.inr ⟨by omega, by omega⟩)))
          · refine ex_iconst (v := (nI 0)) (by decide) dX12_write_46 ?_
            refine ex_zret dX12_write_47 rfl rfl ⟨by rw [show wok w (ms y0 2) = false from (by unfold wok; rw [oks_no (k := k) hk (decide_eq_false (by omega))]; rfl)]; rfl, ⟨y0, hM, (by rw [if_neg (by rw [show wok w (ms y0 2) = false from (by unfold wok; rw [oks_no (k := k) hk (decide_eq_false (by omega))]; rfl)]; decide)])⟩, hF⟩
    · refine ex_if_lt (tgt := 71) (by decide) dX12_write_13 (fun _ => ?_) (fun z => absurd (kI_8 (by omega)) z)
      refine ex_aload_n rfl dX12_write_71 ?_
      refine ex_get dX12_write_72 gf_X12_81 hM.1 rfl ?_
      refine ex_iload_n rfl dX12_write_75 ?_
      refine ex_iaddN dX12_write_76 ?_
      refine ex_bipush (v := (nI 72)) (by decide) dX12_write_77 ?_
      refine ex_icmpN_le (tgt := 84) (by decide) dX12_write_79 (by omega) (by omega) (fun c6 => ?_) (fun c6 => ?_)
      · refine ex_bipush (v := (nI 56)) (by decide) dX12_write_84 ?_
        refine ex_istore (by decide) rfl dX12_write_86 ?_
        exact ex_lv [(0, .ref M), (1, .long w), (4, .int (kI 0))] ⟨rfl, rfl, rfl, trivial⟩ (l_wr2 hn (by unfold wok; rw [oks_of (fun j hj => ho j (by omega)), decide_eq_true (show ms y0 2 + cntb w 8 ≤ 72 by rw [show 8 = k by omega]; omega)]; rfl) (by rw [show 8 = k by omega]; omega) 9 0 (by omega) (by omega) _ _ hM ⟨Kp.rf, rfl, rfl, rfl⟩ hF)
      · refine ex_iconst (v := (nI 0)) (by decide) dX12_write_82 ?_
        refine ex_zret dX12_write_83 rfl rfl ⟨by rw [show wok w (ms y0 2) = false from (by unfold wok; rw [decide_eq_false (show ¬ (ms y0 2 + cntb w 8 ≤ 72) by rw [show 8 = k by omega]; omega), Bool.and_false])]; rfl, ⟨y0, hM, (by rw [if_neg (by rw [show wok w (ms y0 2) = false from (by unfold wok; rw [decide_eq_false (show ¬ (ms y0 2 + cntb w 8 ≤ 72) by rw [show 8 = k by omega]; omega), Bool.and_false])]; decide)])⟩, hF⟩
set_option maxHeartbeats 4000000 in
set_option maxRecDepth 100000 in
theorem t_write {G : EG} {l : Launch} {h : EH} {M : Nat} {y : MS} (hM : MD G h M y) {w : Int64} (hn : ms y 2 ≤ 72) : ES G l 0 mX12_write [.ref M, .long w] h 0 0 (fun v h' => v = some (.int (b2i (wok w (ms (th0 y 0) 2)))) ∧ (∃ y', MD G h' M y' ∧ (if wok w (ms (th0 y 0) 2) = true then wrY (th0 y 0) y' w 8 else y' = (th0 y 0))) ∧ Fr (atN M) h h') eNoX := by
  refine es_of (by decide) rfl (Nat.le_of_ble_eq_true rfl) ?_
  refine ex_aload_n rfl dX12_write_0 ?_
  refine ex_iconst (v := (nI 0)) (by decide) dX12_write_1 ?_
  refine ex_put dX12_write_2 pf_X12_76 hM.1 (Nat.le_of_ble_eq_true rfl) rfl rfl ?_
  refine ex_iconst (v := (nI 0)) (by decide) dX12_write_5 ?_
  refine ex_istore_n (by decide) rfl dX12_write_6 ?_
  refine ex_bipush (v := (nI 56)) (by decide) dX12_write_7 ?_
  refine ex_istore (by decide) rfl dX12_write_9 ?_
  exact ex_lv [(0, .ref M), (1, .long w), (3, .int (nI (cntb w 0))), (4, .int (kI 0))] ⟨rfl, rfl, rfl, rfl, trivial⟩ (l_wr1 (y0 := th0 y 0) hn (hM.th 0 rfl) (Fr.rf.up ⟨by omega, by omega⟩) 9 0 (by omega) (by omega) (fun j hj => by omega))
