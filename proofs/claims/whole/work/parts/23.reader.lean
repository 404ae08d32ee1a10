/-! READER (PolicyDesk$Reader), first part: blanks, names -/
def RD (h : EH) (r ta p : Nat) : Prop := h.2 r = some (.inr (4, [.ref ta, .int (nI p)]))
theorem RD.fr {h h' : EH} {r ta p : Nat} {P : Nat → Prop} (x : RD h r ta p) (w : Fr P h h') (hr : ¬ P r) : RD h' r ta p := w.get hr x
/-- a letter at k -/
def isL (t : Nat → Nat) (n k : Nat) : Bool := decide (k < n ∧ 97 ≤ t k ∧ t k ≤ 122)
/-- a blank at k -/
def bl (t : Nat → Nat) (n k : Nat) : Bool := decide (k < n ∧ t k = 32)
/-- how many letters from k on, at most f -/
def nlet (t : Nat → Nat) (n k : Nat) : Nat → Nat
  | 0 => 0
  | f + 1 => if isL t n k then 1 + nlet t n (k + 1) f else 0
/-- the name of j letters at k, behind the letters packed already -/
def pck (t : Nat → Nat) (k w : Nat) : Nat → Nat
  | 0 => w
  | j + 1 => pck t k w j * 32 + (t (k + j) - 96)
theorem nlet_le (t : Nat → Nat) (n : Nat) : ∀ f k, nlet t n k f ≤ f := by
  intro f
  induction f with
  | zero => intro k; exact Nat.le_refl _
  | succ f ih => intro k; unfold nlet; split; have := ih (k + 1); omega; omega
theorem nlet_isL {t : Nat → Nat} {n : Nat} : ∀ {f k j : Nat}, j < nlet t n k f → isL t n (k + j) = true := by
  intro f
  induction f with
  | zero => intro k j h; exact absurd h (Nat.not_lt_zero _)
  | succ f ih =>
    intro k j h
    unfold nlet at h
    by_cases q : isL t n k = true
    · rw [if_pos q] at h
      cases j with
      | zero => exact q
      | succ j => have := ih (k := k + 1) (j := j) (by omega); rw [show k + 1 + j = k + (j + 1) by omega] at this; exact this
    · rw [if_neg q] at h; exact absurd h (Nat.not_lt_zero _)
/-- the count of letters is j: j letters, and none behind them (or four) -/
theorem nlet_eq {t : Nat → Nat} {n : Nat} : ∀ {f k j : Nat}, j ≤ f → (∀ i, i < j → isL t n (k + i) = true) → (j = f ∨ isL t n (k + j) = false) → nlet t n k f = j := by
  intro f
  induction f with
  | zero => intro k j h _ _; rw [show j = 0 by omega]; rfl
  | succ f ih =>
    intro k j h1 h2 h3
    unfold nlet
    cases j with
    | zero =>
      rw [if_neg]
      rcases h3 with h3 | h3
      · omega
      · rw [show k = k + 0 by omega, h3]; decide
    | succ j =>
      have h0 := h2 0 (by omega)
      rw [if_pos (show isL t n k = true from h0), ih (k := k + 1) (j := j) (by omega) (fun i hi => by have := h2 (i + 1) (by omega); rw [show k + (i + 1) = k + 1 + i by omega] at this; exact this) (by rcases h3 with h3 | h3; exact Or.inl (by omega); exact Or.inr (by rw [show k + 1 + j = k + (j + 1) by omega]; exact h3))]
      omega
theorem pck_lt {t : Nat → Nat} {n k : Nat} : ∀ {j : Nat}, (∀ i, i < j → isL t n (k + i) = true) → pck t k 0 j < 32 ^ j := by
  intro j
  induction j with
  | zero => intro _; show 0 < 1; omega
  | succ j ih =>
    intro h
    have h1 := ih (fun i hi => h i (by omega))
    have h2 : _ := of_decide_eq_true (h j (by omega))
    show pck t k 0 j * 32 + (t (k + j) - 96) < _
    rw [Nat.pow_succ]
    omega
set_option maxHeartbeats 4000000 in
set_option maxRecDepth 100000 in
theorem s_isLetter {G : EG} {l : Launch} (h : EH) {t : Nat → Nat} {n k : Nat} (hb : ∀ j, t j < 128) : ES G l 0 mX8_isLetter [.int (if k < n then nI (t k) else -1)] h 0 0 (fun v h' => v = some (.int (b2i (isL t n k))) ∧ h' = h) eNoX := by
  have hbk := hb k
  by_cases hc : k < n
  · rw [if_pos hc]
    refine es_of (by decide) rfl (Nat.le_of_ble_eq_true rfl) ?_
    refine ex_iload_n rfl dX8_isLetter_0 ?_
    refine ex_bipush (v := (nI 97)) (by decide) dX8_isLetter_1 ?_
    refine ex_icmpN_lt (tgt := 16) (by decide) dX8_isLetter_3 (by omega) (by omega) (fun c1 => ?_) (fun c1 => ?_)
    · refine ex_iconst (v := (nI 0)) (by decide) dX8_isLetter_16 ?_
      refine ex_zret dX8_isLetter_17 rfl rfl ⟨by rw [isL, decide_eq_false (by omega)]; rfl, rfl⟩
    · refine ex_iload_n rfl dX8_isLetter_6 ?_
      refine ex_bipush (v := (nI 122)) (by decide) dX8_isLetter_7 ?_
      refine ex_icmpN_gt (tgt := 16) (by decide) dX8_isLetter_9 (by omega) (by omega) (fun c2 => ?_) (fun c2 => ?_)
      · refine ex_iconst (v := (nI 0)) (by decide) dX8_isLetter_16 ?_
        refine ex_zret dX8_isLetter_17 rfl rfl ⟨by rw [isL, decide_eq_false (by omega)]; rfl, rfl⟩
      · refine ex_iconst (v := (nI 1)) (by decide) dX8_isLetter_12 ?_
        refine ex_goto (tgt := 17) (by decide) dX8_isLetter_13 ?_
        refine ex_zret dX8_isLetter_17 rfl rfl ⟨by rw [isL, decide_eq_true ⟨hc, by omega, by omega⟩]; rfl, rfl⟩
  · rw [if_neg hc]
    refine es_of (by decide) rfl (Nat.le_of_ble_eq_true rfl) ?_
    refine ex_iload_n rfl dX8_isLetter_0 ?_
    refine ex_bipush (v := (nI 97)) (by decide) dX8_isLetter_1 ?_
    refine ex_icmp_lt (tgt := 16) (by decide) dX8_isLetter_3 (fun c1 => ?_) (fun c1 => ?_)
    · refine ex_iconst (v := (nI 0)) (by decide) dX8_isLetter_16 ?_
      refine ex_zret dX8_isLetter_17 rfl rfl ⟨by rw [isL, decide_eq_false (by omega)]; rfl, rfl⟩
    · refine ex_iload_n rfl dX8_isLetter_6 ?_
      refine ex_bipush (v := (nI 122)) (by decide) dX8_isLetter_7 ?_
      refine ex_icmp_gt (tgt := 16) (by decide) dX8_isLetter_9 (fun c2 => ?_) (fun c2 => ?_)
      · refine ex_iconst (v := (nI 0)) (by decide) dX8_isLetter_16 ?_
        exact absurd (m1_lt (by decide)) c1
      · refine ex_iconst (v := (nI 1)) (by decide) dX8_isLetter_12 ?_
        refine ex_goto (tgt := 17) (by decide) dX8_isLetter_13 ?_
        exact absurd (m1_lt (by decide)) c1
set_option maxHeartbeats 4000000 in
set_option maxRecDepth 100000 in
theorem s_stoppedAt {G : EG} {l : Launch} {h : EH} {r ta p : Nat} (hR : RD h r ta p) : ES G l 0 mX8_stoppedAt [.ref r] h 0 0 (fun v h' => v = some (.int (nI p)) ∧ h' = h) eNoX := by
  refine es_of (by decide) rfl (Nat.le_of_ble_eq_true rfl) ?_
  refine ex_aload_n rfl dX8_stoppedAt_0 ?_
  refine ex_get dX8_stoppedAt_1 gf_X8_9 hR rfl ?_
  refine ex_iret dX8_stoppedAt_4 rfl ⟨rfl, rfl⟩
set_option maxHeartbeats 4000000 in
set_option maxRecDepth 100000 in
theorem s_atEnd {G : EG} {l : Launch} {h : EH} {r ta tb p n : Nat} {t : Nat → Nat} (hR : RD h r ta p) (hT : TX G h ta tb t n) (hb : ∀ j, t j < 128) (hp : p ≤ 80) (hra : r ≠ ta) (hrb : r ≠ tb) : ES G l 1 mX8_atEnd [.ref r] h 0 0 (fun v h' => v = some (.int (b2i (decide (n ≤ p)))) ∧ h' = h) eNoX := by
  have hn := hT.2.2.1
  refine es_of (by decide) rfl (Nat.le_of_ble_eq_true rfl) ?_
  refine ex_aload_n rfl dX8_atEnd_0 ?_
  refine ex_get dX8_atEnd_1 gf_X8_9 hR rfl ?_
  refine ex_aload_n rfl dX8_atEnd_4 ?_
  refine ex_get dX8_atEnd_5 gf_X8_15 hR rfl ?_
  refine ex_invv (k := 0) (n := 0) (mc' := 0) (ms' := 0) (As := []) dX8_atEnd_8 cv_X8_119 (by decide) (Nat.le_of_ble_eq_true rfl) (Or.inl ⟨_, _, _, _, hT.1, rfl⟩) (s_tlength hT) (fun v h' q => ?_)
  obtain ⟨rfl, rfl⟩ := q
  refine ex_icmpN_lt (tgt := 18) (by decide) dX8_atEnd_11 (by omega) (by omega) (fun c1 => ?_) (fun c1 => ?_)
  · refine ex_iconst (v := (nI 0)) (by decide) dX8_atEnd_18 ?_
    refine ex_zret dX8_atEnd_19 rfl rfl ⟨by rw [decide_eq_false (by omega)]; rfl, rfl⟩
  · refine ex_iconst (v := (nI 1)) (by decide) dX8_atEnd_14 ?_
    refine ex_goto (tgt := 19) (by decide) dX8_atEnd_15 ?_
    refine ex_zret dX8_atEnd_19 rfl rfl ⟨by rw [decide_eq_true (by omega)]; rfl, rfl⟩
set_option maxHeartbeats 4000000 in
set_option maxRecDepth 100000 in
theorem s_blank {G : EG} {l : Launch} {h : EH} {r ta tb p n : Nat} {t : Nat → Nat} (hR : RD h r ta p) (hT : TX G h ta tb t n) (hb : ∀ j, t j < 128) (hp : p ≤ 80) (hra : r ≠ ta) (hrb : r ≠ tb) : ES G l 1 mX8_blank [.ref r] h 0 0 (fun v h' => v = some (.int (b2i (bl t n p))) ∧ RD h' r ta (if bl t n p then p + 1 else p) ∧ Fr (fun q => q = r) h h') eNoX := by
  have hbk := hb p
  by_cases hc : p < n
  · refine es_of (by decide) rfl (Nat.le_of_ble_eq_true rfl) ?_
    refine ex_aload_n rfl dX8_blank_0 ?_
    refine ex_get dX8_blank_1 gf_X8_15 hR rfl ?_
    refine ex_aload_n rfl dX8_blank_4 ?_
    refine ex_get dX8_blank_5 gf_X8_9 hR rfl ?_
    refine ex_invv (k := 0) (n := 0) (mc' := 0) (ms' := 0) (As := [_]) dX8_blank_8 cv_X8_82 (by decide) (Nat.le_of_ble_eq_true rfl) (Or.inl ⟨_, _, _, _, hT.1, rfl⟩) (s_codeAt hT (i := p) (by omega)) (fun v h' q => ?_)
    obtain ⟨rfl, rfl⟩ := q
    rw [if_pos hc]
    refine ex_bipush (v := (nI 32)) (by decide) dX8_blank_11 ?_
    refine ex_icmpN_eq (tgt := 18) (by decide) dX8_blank_13 (by omega) (by omega) (fun c1 => ?_) (fun c1 => ?_)
    · refine ex_aload_n rfl dX8_blank_18 ?_
      refine ex_dup rfl dX8_blank_19 ?_
      refine ex_get dX8_blank_20 gf_X8_9 hR rfl ?_
      refine ex_iconst (v := (nI 1)) (by decide) dX8_blank_23 ?_
      refine ex_iaddN dX8_blank_24 ?_
      refine ex_put dX8_blank_25 pf_X8_9 hR (Nat.le_of_ble_eq_true rfl) rfl rfl ?_
      refine ex_iconst (v := (nI 1)) (by decide) dX8_blank_28 ?_
      refine ex_zret dX8_blank_29 rfl rfl ⟨by rw [bl, decide_eq_true ⟨hc, c1⟩]; rfl, by rw [bl, decide_eq_true ⟨hc, c1⟩]; exact hup_eq, Fr.rf.up rfl⟩
    · refine ex_iconst (v := (nI 0)) (by decide) dX8_blank_16 ?_
      refine ex_zret dX8_blank_17 rfl rfl ⟨by rw [bl, decide_eq_false (by omega)]; rfl, by rw [bl, decide_eq_false (by omega)]; exact hR, Fr.rf⟩
  · refine es_of (by decide) rfl (Nat.le_of_ble_eq_true rfl) ?_
    refine ex_aload_n rfl dX8_blank_0 ?_
    refine ex_get dX8_blank_1 gf_X8_15 hR rfl ?_
    refine ex_aload_n rfl dX8_blank_4 ?_
    refine ex_get dX8_blank_5 gf_X8_9 hR rfl ?_
    refine ex_invv (k := 0) (n := 0) (mc' := 0) (ms' := 0) (As := [_]) dX8_blank_8 cv_X8_82 (by decide) (Nat.le_of_ble_eq_true rfl) (Or.inl ⟨_, _, _, _, hT.1, rfl⟩) (s_codeAt hT (i := p) (by omega)) (fun v h' q => ?_)
    obtain ⟨rfl, rfl⟩ := q
    rw [if_neg hc]
    refine ex_bipush (v := (nI 32)) (by decide) dX8_blank_11 ?_
    refine ex_icmp_eq (tgt := 18) (by decide) dX8_blank_13 (fun c1 => ?_) (fun c1 => ?_)
    · refine ex_aload_n rfl dX8_blank_18 ?_
      refine ex_dup rfl dX8_blank_19 ?_
      refine ex_get dX8_blank_20 gf_X8_9 hR rfl ?_
      refine ex_iconst (v := (nI 1)) (by decide) dX8_blank_23 ?_
      refine ex_iaddN dX8_blank_24 ?_
      refine ex_put dX8_blank_25 pf_X8_9 hR (Nat.le_of_ble_eq_true rfl) rfl rfl ?_
      refine ex_iconst (v := (nI 1)) (by decide) dX8_blank_28 ?_
      exact absurd c1.symm (nI_ne_m1 (by decide))
    · refine ex_iconst (v := (nI 0)) (by decide) dX8_blank_16 ?_
      refine ex_zret dX8_blank_17 rfl rfl ⟨by rw [bl, decide_eq_false (by omega)]; rfl, by rw [bl, decide_eq_false (by omega)]; exact hR, Fr.rf⟩
theorem TX.up {G : EG} {h : EH} {ta tb n r : Nat} {t : Nat → Nat} {e : va_E} (x : TX G h ta tb t n) (h1 : r ≠ ta) (h2 : r ≠ tb) : TX G (hup h r e) ta tb t n := ⟨hup_ne h1.symm x.1, hup_ne h2.symm x.2.1, x.2.2⟩
theorem ST.up {G : EG} {h : EH} {a b r : Nat} {s : Stm} {e : va_E} (x : ST G h a b s) (h1 : r ≠ a) (h2 : r ≠ b) : ST G (hup h r e) a b s := ⟨hup_ne h1.symm x.1, hup_ne h2.symm x.2.1, x.2.2⟩
/-- a statement with one name more -/
def psh (s : Stm) (x : Nat) : Stm := (kd s, sz s + 1, mk s, va_up (wd s) (sz s) x)
set_option maxHeartbeats 4000000 in
set_option maxRecDepth 100000 in
theorem l_name {G : EG} {l : Launch} {h0 : EH} {r ta tb p n : Nat} {t : Nat → Nat} (hb : ∀ j, t j < 128) (hp : p ≤ 76) (hra : r ≠ ta) (hrb : r ≠ tb) {a b : Nat} {s : Stm} (h3 : r ≠ a) (h4 : r ≠ b) (hsz : sz s < 9) : ∀ (f k : Nat), 4 - k < f → k ≤ 4 → ∀ h : EH, RD h r ta (p + k) → TX G h ta tb t n → ST G h a b s → Fr (fun q => q = r ∨ q = a ∨ q = b) h0 h → (∀ i, i < k → isL t n (p + i) = true) → Ex G l 1 mX8_name (fun v h' => v = some (.int (b2i (decide (0 < nlet t n p 4)))) ∧ RD h' r ta (p + nlet t n p 4) ∧ ST G h' a b (if 0 < nlet t n p 4 then psh s (pck t p 0 (nlet t n p 4)) else s) ∧ Fr (fun q => q = r ∨ q = a ∨ q = b) h0 h') eNoX 0 0 4 [(0, .ref r), (1, .ref a), (2, .int (nI (pck t p 0 k))), (3, .int (nI k))] [] h := by
  intro f
  induction f with
  | zero =>
    intro k h1 h2 h hR1 hT1 hS1 hF hl0
    omega
  | succ f ih =>
    intro k h1 h2 h hR1 hT1 hS1 hF hl0
    have hn := hT1.2.2.1
    have hbk := hb (p + k)
    have hpk := pck_lt hl0
    have hpk2 : pck t p 0 k < 2 ^ 20 := Nat.lt_of_lt_of_le hpk (Nat.pow_le_pow_right (by decide) h2)
    refine ex_iload_n rfl dX8_name_4 ?_
    refine ex_iconst (v := (nI 4)) (by decide) dX8_name_5 ?_
    refine ex_icmpN_ge (tgt := 64) (by decide) dX8_name_6 (by omega) (by omega) (fun c1 => ?_) (fun c1 => ?_)
    · refine ex_iload_n rfl dX8_name_64 ?_
      refine ex_ifN_ne (tgt := 70) (by decide) dX8_name_65 (by omega) (fun c2 => ?_) (fun c2 => ?_)
      · refine ex_aload_n rfl dX8_name_70 ?_
        refine ex_iload_n rfl dX8_name_71 ?_
        refine ex_invv (k := 0) (n := 0) (mc' := 0) (ms' := 0) (As := [_]) dX8_name_72 cv_X8_116 (by decide) (Nat.le_of_ble_eq_true rfl) (Or.inl ⟨_, _, _, _, hS1.1, rfl⟩) (s_push hS1 (x := pck t p 0 k) (by omega) hsz) (fun v h' q => ?_)
        obtain ⟨rfl, hS2, hF2⟩ := q
        refine ex_iconst (v := (nI 1)) (by decide) dX8_name_75 ?_
        refine ex_zret dX8_name_76 rfl rfl (by have e9 : nlet t n p 4 = k := nlet_eq (by omega) hl0 (Or.inl (by omega)); rw [e9]; exact ⟨by rw [decide_eq_true (by omega)]; rfl, RD.fr hR1 hF2 (fun z => z.elim h3 h4), by rw [if_pos (by omega)]; exact hS2, hF.tr (hF2.wk (fun q z => Or.inr z))⟩)
      · refine ex_iconst (v := (nI 0)) (by decide) dX8_name_68 ?_
        omega
    · refine ex_aload_n rfl dX8_name_9 ?_
      refine ex_get dX8_name_10 gf_X8_15 hR1 rfl ?_
      refine ex_aload_n rfl dX8_name_13 ?_
      refine ex_get dX8_name_14 gf_X8_9 hR1 rfl ?_
      refine ex_invv (k := 0) (n := 0) (mc' := 0) (ms' := 0) (As := [_]) dX8_name_17 cv_X8_82 (by decide) (Nat.le_of_ble_eq_true rfl) (Or.inl ⟨_, _, _, _, hT1.1, rfl⟩) (s_codeAt hT1 (i := p + k) (by omega)) (fun v h' q => ?_)
      obtain ⟨rfl, rfl⟩ := q
      refine ex_invs (k := 0) (n := 0) (mc' := 0) (ms' := 0) (As := [_]) dX8_name_20 cs_X8_112 (by decide) (Nat.le_of_ble_eq_true rfl) (s_isLetter _ (n := n) (k := p + k) hb) (fun v h' q => ?_)
      obtain ⟨rfl, rfl⟩ := q
      refine ex_ifB_eq (tgt := 64) (by decide) dX8_name_23 (fun c3 => ?_) (fun c3 => ?_)
      · refine ex_iload_n rfl dX8_name_64 ?_
        refine ex_ifN_ne (tgt := 70) (by decide) dX8_name_65 (by omega) (fun c4 => ?_) (fun c4 => ?_)
        · refine ex_aload_n rfl dX8_name_70 ?_
          refine ex_iload_n rfl dX8_name_71 ?_
          refine ex_invv (k := 0) (n := 0) (mc' := 0) (ms' := 0) (As := [_]) dX8_name_72 cv_X8_116 (by decide) (Nat.le_of_ble_eq_true rfl) (Or.inl ⟨_, _, _, _, hS1.1, rfl⟩) (s_push hS1 (x := pck t p 0 k) (by omega) hsz) (fun v h' q => ?_)
          obtain ⟨rfl, hS2, hF2⟩ := q
          refine ex_iconst (v := (nI 1)) (by decide) dX8_name_75 ?_
          refine ex_zret dX8_name_76 rfl rfl (by have e9 : nlet t n p 4 = k := nlet_eq h2 hl0 (Or.inr c3); rw [e9]; exact ⟨by rw [decide_eq_true (by omega)]; rfl, RD.fr hR1 hF2 (fun z => z.elim h3 h4), by rw [if_pos (by omega)]; exact hS2, hF.tr (hF2.wk (fun q z => Or.inr z))⟩)
        · refine ex_iconst (v := (nI 0)) (by decide) dX8_name_68 ?_
          refine ex_zret dX8_name_69 rfl rfl (by have e9 : nlet t n p 4 = k := nlet_eq h2 hl0 (Or.inr c3); rw [e9]; exact ⟨by rw [decide_eq_false (by omega)]; rfl, hR1, by rw [if_neg (by omega)]; exact hS1, hF⟩)
      · have hl := of_decide_eq_true c3
        refine ex_iload_n rfl dX8_name_26 ?_
        refine ex_bipush (v := (nI 32)) (by decide) dX8_name_27 ?_
        refine ex_imulN dX8_name_29 ?_
        refine ex_aload_n rfl dX8_name_30 ?_
        refine ex_get dX8_name_31 gf_X8_15 hR1 rfl ?_
        refine ex_aload_n rfl dX8_name_34 ?_
        refine ex_get dX8_name_35 gf_X8_9 hR1 rfl ?_
        refine ex_invv (k := 0) (n := 0) (mc' := 0) (ms' := 0) (As := [_]) dX8_name_38 cv_X8_82 (by decide) (Nat.le_of_ble_eq_true rfl) (Or.inl ⟨_, _, _, _, hT1.1, rfl⟩) (s_codeAt hT1 (i := p + k) (by omega)) (fun v h' q => ?_)
        obtain ⟨rfl, rfl⟩ := q
        rw [if_pos hl.1]
        refine ex_iaddN dX8_name_41 ?_
        refine ex_bipush (v := (nI 97)) (by decide) dX8_name_42 ?_
        refine ex_isubN (by omega) dX8_name_44 ?_
        refine ex_iconst (v := (nI 1)) (by decide) dX8_name_45 ?_
        refine ex_iaddN dX8_name_46 ?_
        refine ex_istore_n (by decide) rfl dX8_name_47 ?_
        refine ex_iincN (z := 1) rfl (by decide) rfl dX8_name_48 ?_
        refine ex_aload_n rfl dX8_name_51 ?_
        refine ex_dup rfl dX8_name_52 ?_
        refine ex_get dX8_name_53 gf_X8_9 hR1 rfl ?_
        refine ex_iconst (v := (nI 1)) (by decide) dX8_name_56 ?_
        refine ex_iaddN dX8_name_57 ?_
        refine ex_put dX8_name_58 pf_X8_9 hR1 (Nat.le_of_ble_eq_true rfl) rfl rfl ?_
        refine ex_goto (tgt := 4) (by decide) dX8_name_61 ?_
        exact ex_lv [(0, .ref r), (1, .ref a), (2, .int (nI (pck t p 0 (k + 1)))), (3, .int (nI (k + 1)))] ⟨rfl, rfl, by show some (Value.int (nI (pck t p 0 k * 32 + t (p + k) - 97 + 1))) = some (Value.int (nI (pck t p 0 k * 32 + (t (p + k) - 96)))); congr 3; omega, rfl, trivial⟩ (ih (k + 1) (by omega) (by omega) _ (by rw [show p + (k + 1) = p + k + 1 by omega]; exact hup_eq) (hT1.up hra hrb) (hS1.up h3 h4) (hF.up (Or.inl rfl)) (fun i hi => by rcases Nat.lt_or_ge i k with q | q; exact hl0 i q; rw [show i = k by omega]; exact c3))
set_option maxHeartbeats 4000000 in
set_option maxRecDepth 100000 in
theorem s_name {G : EG} {l : Launch} {h : EH} {r ta tb p n : Nat} {t : Nat → Nat} (hR : RD h r ta p) (hT : TX G h ta tb t n) (hb : ∀ j, t j < 128) (hp : p ≤ 76) (hra : r ≠ ta) (hrb : r ≠ tb) {a b : Nat} {s : Stm} (hS : ST G h a b s) (h3 : r ≠ a) (h4 : r ≠ b) (h5 : ta ≠ a) (h6 : ta ≠ b) (h7 : tb ≠ a) (h8 : tb ≠ b) (hsz : sz s < 9) : ES G l 1 mX8_name [.ref r, .ref a] h 0 0 (fun v h' => v = some (.int (b2i (decide (0 < nlet t n p 4)))) ∧ RD h' r ta (p + nlet t n p 4) ∧ ST G h' a b (if 0 < nlet t n p 4 then psh s (pck t p 0 (nlet t n p 4)) else s) ∧ Fr (fun q => q = r ∨ q = a ∨ q = b) h h') eNoX := by
  refine es_of (by decide) rfl (Nat.le_of_ble_eq_true rfl) ?_
  refine ex_iconst (v := (nI 0)) (by decide) dX8_name_0 ?_
  refine ex_istore_n (by decide) rfl dX8_name_1 ?_
  refine ex_iconst (v := (nI 0)) (by decide) dX8_name_2 ?_
  refine ex_istore_n (by decide) rfl dX8_name_3 ?_
  exact l_name hb hp hra hrb h3 h4 hsz 5 0 (by omega) (by omega) h hR hT hS Fr.rf (fun i hi => by omega)
/-- blank and name, j times: whether they are there, where it stopped, the statement -/
def pNm (t : Nat → Nat) (n : Nat) : Nat → Nat → Stm → Bool × Nat × Stm
  | 0, p, s => (true, p, s)
  | j + 1, p, s => if bl t n p then (if 0 < nlet t n (p + 1) 4 then pNm t n j (p + 1 + nlet t n (p + 1) 4) (psh s (pck t (p + 1) 0 (nlet t n (p + 1) 4))) else (false, p + 1, s)) else (false, p, s)
theorem pNm_0 {t : Nat → Nat} {n j p : Nat} {s : Stm} (h : bl t n p = false) : pNm t n (j + 1) p s = (false, p, s) := by unfold pNm; rw [h]; rfl
theorem pNm_1 {t : Nat → Nat} {n j p : Nat} {s : Stm} (h : bl t n p = true) (h2 : ¬ 0 < nlet t n (p + 1) 4) : pNm t n (j + 1) p s = (false, p + 1, s) := by unfold pNm; rw [h, if_pos rfl, if_neg h2]
theorem pNm_2 {t : Nat → Nat} {n j p : Nat} {s : Stm} (h : bl t n p = true) (h2 : 0 < nlet t n (p + 1) 4) : pNm t n (j + 1) p s = pNm t n j (p + 1 + nlet t n (p + 1) 4) (psh s (pck t (p + 1) 0 (nlet t n (p + 1) 4))) := by conv => lhs; unfold pNm; rw [h, if_pos rfl, if_pos h2]
abbrev atR (r a b : Nat) : Nat → Prop := fun q => q = r ∨ q = a ∨ q = b
/-- the reader's end: answer, place, statement -/
def QP (G : EG) (h0 : EH) (r ta a b : Nat) (x : Bool × Nat × Stm) : Option Value → EH → Prop := fun v h' => v = some (.int (b2i x.1)) ∧ RD h' r ta x.2.1 ∧ ST G h' a b x.2.2 ∧ Fr (atR r a b) h0 h'
set_option maxHeartbeats 4000000 in
set_option maxRecDepth 100000 in
theorem l_names {G : EG} {l : Launch} {h0 : EH} {r ta tb n : Nat} {t : Nat → Nat} (hb : ∀ j, t j < 128) (hn : n ≤ 72) (hra : r ≠ ta) (hrb : r ≠ tb) {a b : Nat} (h3 : r ≠ a) (h4 : r ≠ b) (h5 : ta ≠ a) (h6 : ta ≠ b) (h7 : tb ≠ a) (h8 : tb ≠ b) {m : Nat} (hm : m ≤ 9) {x : Bool × Nat × Stm} : ∀ (f k : Nat), m - k < f → k ≤ m → ∀ (h : EH) (p : Nat) (s : Stm), p ≤ 1 + 5 * (k + 2) → sz s + (m - k) ≤ 9 → RD h r ta p → TX G h ta tb t n → ST G h a b s → Fr (atR r a b) h0 h → pNm t n (m - k) p s = x → Ex G l 2 mX8_names (QP G h0 r ta a b x) eNoX 0 0 2 [(0, .ref r), (1, .ref a), (2, .int (nI m)), (3, .int (nI k))] [] h := by
  intro f
  induction f with
  | zero =>
    intro k h1 h2 h p s hpp hss hR1 hT1 hS1 hF hx
    omega
  | succ f ih =>
    intro k h1 h2 h p s hpp hss hR1 hT1 hS1 hF hx
    have hnl := nlet_le t n 4 (p + 1)
    refine ex_iload_n rfl dX8_names_2 ?_
    refine ex_iload_n rfl dX8_names_3 ?_
    refine ex_icmpN_ge (tgt := 30) (by decide) dX8_names_4 (by omega) (by omega) (fun c1 => ?_) (fun c1 => ?_)
    · refine ex_iconst (v := (nI 1)) (by decide) dX8_names_30 ?_
      refine ex_zret dX8_names_31 rfl rfl (by rw [show m - k = 0 by omega] at hx; subst hx; exact ⟨rfl, hR1, hS1, hF⟩)
    · refine ex_aload_n rfl dX8_names_7 ?_
      refine ex_invv (k := 0) (n := 0) (mc' := 0) (ms' := 0) (As := []) dX8_names_8 cv_X8_92 (by decide) (Nat.le_of_ble_eq_true rfl) (Or.inl ⟨_, _, _, _, hR1, rfl⟩) (s_blank hR1 hT1 hb (by omega) hra hrb) (fun v h' q => ?_)
      obtain ⟨rfl, hR2, hF2⟩ := q
      have hT2 := hT1.fr hF2 hra.symm hrb.symm
      have hS2 := hS1.fr hF2 h3.symm h4.symm
      refine ex_ifB_eq (tgt := 22) (by decide) dX8_names_11 (fun c2 => ?_) (fun c2 => ?_)
      · refine ex_iconst (v := (nI 0)) (by decide) dX8_names_22 ?_
        refine ex_zret dX8_names_23 rfl rfl (by rw [show m - k = (m - (k + 1)) + 1 by omega, pNm_0 c2] at hx; subst hx; rw [c2] at hR2; exact ⟨rfl, hR2, hS2, hF.tr (hF2.wk (fun q z => Or.inl z))⟩)
      · refine ex_aload_n rfl dX8_names_14 ?_
        refine ex_aload_n rfl dX8_names_15 ?_
        refine ex_invv (k := 0) (n := 0) (mc' := 0) (ms' := 0) (As := [_]) dX8_names_16 cv_X8_96 (by decide) (Nat.le_of_ble_eq_true rfl) (Or.inl ⟨_, _, _, _, hR2, rfl⟩) (s_name (p := p + 1) (by rw [c2] at hR2; exact hR2) hT2 hb (by omega) hra hrb hS2 h3 h4 h5 h6 h7 h8 (by omega)) (fun v h' q => ?_)
        obtain ⟨rfl, hR3, hS3, hF3⟩ := q
        have hT3 := hT2.fr hF3 (by rintro (z | z | z); exact hra z.symm; exact h5 z; exact h6 z) (by rintro (z | z | z); exact hrb z.symm; exact h7 z; exact h8 z)
        refine ex_ifB_ne (tgt := 24) (by decide) dX8_names_19 (fun c3 => ?_) (fun c3 => ?_)
        · refine ex_iincN (z := 1) rfl (by decide) rfl dX8_names_24 ?_
          refine ex_goto (tgt := 2) (by decide) dX8_names_27 ?_
          exact ih (k + 1) (by omega) (by omega) _ _ _ (by omega) (by rw [if_pos (of_decide_eq_true c3)]; show sz s + 1 + _ ≤ 9; omega) hR3 hT3 hS3 ((hF.tr (hF2.wk (fun q z => Or.inl z))).tr hF3) (by rw [if_pos (of_decide_eq_true c3)]; rw [show m - k = (m - (k + 1)) + 1 by omega, pNm_2 c2 (of_decide_eq_true c3)] at hx; exact hx)
        · refine ex_iconst (v := (nI 0)) (by decide) dX8_names_22 ?_
          refine ex_zret dX8_names_23 rfl rfl (by have h9 : ¬ 0 < nlet t n (p + 1) 4 := of_decide_eq_false c3; rw [show m - k = (m - (k + 1)) + 1 by omega, pNm_1 c2 h9] at hx; subst hx; rw [if_neg h9] at hS3; rw [show nlet t n (p + 1) 4 = 0 by omega] at hR3; exact ⟨rfl, hR3, hS3, (hF.tr (hF2.wk (fun q z => Or.inl z))).tr hF3⟩)
set_option maxHeartbeats 4000000 in
set_option maxRecDepth 100000 in
theorem s_names {G : EG} {l : Launch} {h : EH} {r ta tb p n : Nat} {t : Nat → Nat} (hR : RD h r ta p) (hT : TX G h ta tb t n) (hb : ∀ j, t j < 128) (hp : p ≤ 11) (hra : r ≠ ta) (hrb : r ≠ tb) {a b : Nat} {s : Stm} (hS : ST G h a b s) (h3 : r ≠ a) (h4 : r ≠ b) (h5 : ta ≠ a) (h6 : ta ≠ b) (h7 : tb ≠ a) (h8 : tb ≠ b) {m : Nat} (hm : m ≤ 9) (hsz : sz s + m ≤ 9) : ES G l 2 mX8_names [.ref r, .ref a, .int (nI m)] h 0 0 (QP G h r ta a b (pNm t n m p s)) eNoX := by
  refine es_of (by decide) rfl (Nat.le_of_ble_eq_true rfl) ?_
  refine ex_iconst (v := (nI 0)) (by decide) dX8_names_0 ?_
  refine ex_istore_n (by decide) rfl dX8_names_1 ?_
  exact l_names hb hT.2.2.1 hra hrb h3 h4 h5 h6 h7 h8 hm (m + 1) 0 (by omega) (by omega) h p s (by omega) (by omega) hR hT hS Fr.rf rfl
