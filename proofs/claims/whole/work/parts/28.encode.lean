/-! IMAGECODEC, first part: a policy as bytes -/
/-- the row has these bytes -/
def bL (f : Nat → Nat) (n : Nat) (L : List Nat) : Prop := n = L.length ∧ ∀ j, j < n → f j = L.getD j 0
theorem bL.nil (f : Nat → Nat) : bL f 0 [] := ⟨rfl, fun j hj => by omega⟩
theorem bL.push {f : Nat → Nat} {n : Nat} {L : List Nat} (h : bL f n L) (x : Nat) : bL (va_up f n x) (n + 1) (L ++ [x]) := by
  refine ⟨by rw [List.length_append, h.1]; rfl, fun j hj => ?_⟩
  unfold va_up
  by_cases q : j = n
  · rw [if_pos q, q, h.1, List.getD_eq_getElem?_getD, List.getElem?_append_right (Nat.le_refl _), Nat.sub_self]; rfl
  · rw [if_neg q, h.2 j (by omega), List.getD_eq_getElem?_getD, List.getD_eq_getElem?_getD, List.getElem?_append_left (by have := h.1; omega)]
def rmap (g : Nat → Nat) (k : Nat) : List Nat := (List.range k).map g
theorem rmap_0 (g : Nat → Nat) : rmap g 0 = [] := rfl
theorem rmap_s (g : Nat → Nat) (k : Nat) : rmap g (k + 1) = rmap g k ++ [g k] := by unfold rmap; rw [List.range_succ, List.map_append]; rfl
theorem rmap_len (g : Nat → Nat) (k : Nat) : (rmap g k).length = k := by unfold rmap; rw [List.length_map, List.length_range]
def prw (T : Nat) (g : Nat → Nat → Nat) (i : Nat) : List Nat := (List.range i).flatMap (fun s => rmap (g s) T)
theorem prw_s (T : Nat) (g : Nat → Nat → Nat) (i : Nat) : prw T g (i + 1) = prw T g i ++ rmap (g i) T := by unfold prw; rw [List.range_succ, List.flatMap_append]; simp
theorem prw_len (T : Nat) (g : Nat → Nat → Nat) (i : Nat) : (prw T g i).length = i * T := by
  induction i with
  | zero => rw [Nat.zero_mul]; rfl
  | succ i ih => rw [prw_s, List.length_append, ih, rmap_len, Nat.succ_mul]
def imgC (p : Pol) (c : Nat) : List Nat := prw (pT p) (fun s t => pAl p (cel s t c)) (pT p) ++ (prw (pT p) (fun s t => pPr p (cel s t c)) (pT p) ++ rmap (fun w => pMs p (c * 5 + w)) 5)
theorem imgC_len (p : Pol) (c : Nat) : (imgC p c).length = pT p * pT p + (pT p * pT p + 5) := by unfold imgC; rw [List.length_append, List.length_append, prw_len, prw_len, rmap_len]
def cls (p : Pol) (k : Nat) : List Nat := (List.range k).flatMap (imgC p)
theorem cls_s (p : Pol) (k : Nat) : cls p (k + 1) = cls p k ++ imgC p k := by unfold cls; rw [List.range_succ, List.flatMap_append]; simp
theorem sq8 {T : Nat} (h : T ≤ 8) : T * T ≤ 64 := Nat.mul_le_mul h h
theorem cls_len {p : Pol} (h : pT p ≤ 8) (k : Nat) : (cls p k).length ≤ k * 133 := by
  induction k with
  | zero => exact Nat.zero_le _
  | succ k ih => rw [cls_s, List.length_append, imgC_len]; have := sq8 h; omega
def imgL (p : Pol) : List Nat := [pT p, pC p] ++ rmap (pPm p) (pC p) ++ rmap (pRk p) (pT p) ++ cls p (pC p)
theorem row_le {i T : Nat} (h : i < T) : i * T + T ≤ T * T := by have := Nat.mul_le_mul_right T (Nat.succ_le_of_lt h); rw [Nat.succ_mul] at this; exact this
theorem sepPB {a e eb : Nat} (h1 : e < a ∨ a + 5 < e) (h2 : eb < a ∨ a + 5 < eb) : ∀ q, atP a q → ¬ atB e eb q := by rintro q ⟨q1, q2⟩ (z | z) <;> omega
set_option maxHeartbeats 4000000 in
set_option maxRecDepth 100000 in
theorem l_enc1i {G : EG} {l : Launch} {h0 : EH} {a e eb tk : Nat} {br : Bool} {p : Pol} (hs1 : e < a ∨ a + 5 < e) (hs2 : eb < a ∨ a + 5 < eb) {LL L0 : List Nat} {c i : Nat} (hc : c < pC p) (hi : i < pT p) (hL0 : L0.length + pT p ≤ 420) (ho : ∀ (h : EH) (n : Nat) (g : Nat → Nat), PL G h a p → BR G h e eb n tk br g → Fr (atB e eb) h0 h → bL g n (L0 ++ rmap ((fun s t => pAl p (cel s t c)) i) (pT p)) → Ex G l 2 mX4_encodeClass (fun v h' => v = none ∧ ∃ n' g', BR G h' e eb n' tk br g' ∧ bL g' n' (LL) ∧ Fr (atB e eb) h0 h') eNoX 0 0 2 [(0, .ref a), (1, .int (nI c)), (2, .ref e), (3, .int (nI (i + 1)))] [] h) : ∀ (f k : Nat), pT p - k < f → k ≤ pT p → ∀ (h : EH) (n : Nat) (g : Nat → Nat), PL G h a p → BR G h e eb n tk br g → Fr (atB e eb) h0 h → bL g n (L0 ++ rmap ((fun s t => pAl p (cel s t c)) i) k) → Ex G l 2 mX4_encodeClass (fun v h' => v = none ∧ ∃ n' g', BR G h' e eb n' tk br g' ∧ bL g' n' (LL) ∧ Fr (atB e eb) h0 h') eNoX 0 0 13 [(0, .ref a), (1, .int (nI c)), (2, .ref e), (3, .int (nI i)), (4, .int (nI k))] [] h := by
  intro f
  induction f with
  | zero =>
    intro k h1 h2 h n g hP hB hF hb
    omega
  | succ f ih =>
    intro k h1 h2 h n g hP hB hF hb
    have hT8 := hP.2.2.2.2.2.2.1
    have hn1 := hb.1
    rw [List.length_append, rmap_len] at hn1
    refine ex_iload rfl dX4_encodeClass_13 ?_
    refine ex_aload_n rfl dX4_encodeClass_15 ?_
    refine ex_invv (k := 0) (n := 0) (mc' := 0) (ms' := 0) (As := []) dX4_encodeClass_16 cv_X4_14 (by decide) (Nat.le_of_ble_eq_true rfl) (Or.inl ⟨_, _, _, _, hP.1, rfl⟩) (s_ptypes hP) (fun v h' q => ?_)
    obtain ⟨rfl, rfl⟩ := q
    refine ex_icmpN_ge (tgt := 40) (by decide) dX4_encodeClass_19 (by omega) (by omega) (fun c1 => ?_) (fun c1 => ?_)
    · refine ex_iincN (z := 1) rfl (by decide) rfl dX4_encodeClass_40 ?_
      refine ex_goto (tgt := 2) (by decide) dX4_encodeClass_43 ?_
      exact ex_lv [(0, .ref a), (1, .int (nI c)), (2, .ref e), (3, .int (nI (i + 1)))] ⟨rfl, rfl, rfl, rfl, trivial⟩ (ho _ _ _ hP hB hF (by rw [show k = pT p by omega] at hb; exact hb))
    · refine ex_aload_n rfl dX4_encodeClass_22 ?_
      refine ex_aload_n rfl dX4_encodeClass_23 ?_
      refine ex_iload_n rfl dX4_encodeClass_24 ?_
      refine ex_iload rfl dX4_encodeClass_25 ?_
      refine ex_iload_n rfl dX4_encodeClass_27 ?_
      refine ex_invv (k := 0) (n := 0) (mc' := 0) (ms' := 0) (As := [_, _, _]) dX4_encodeClass_28 cv_X4_40 (by decide) (Nat.le_of_ble_eq_true rfl) (Or.inl ⟨_, _, _, _, hP.1, rfl⟩) (s_allowedAt hP hi (t := k) (by omega) hc) (fun v h' q => ?_)
      obtain ⟨rfl, rfl⟩ := q
      refine ex_invv (k := 0) (n := 0) (mc' := 0) (ms' := 0) (As := [_]) dX4_encodeClass_31 cv_X4_20 (by decide) (Nat.le_of_ble_eq_true rfl) (Or.inl ⟨_, _, _, _, hB.1, rfl⟩) (s_bpush hB (pAl p (cel i k c)) (by omega)) (fun v h' q => ?_)
      obtain ⟨rfl, hB1, hF1⟩ := q
      refine ex_iincN (z := 1) rfl (by decide) rfl dX4_encodeClass_34 ?_
      refine ex_goto (tgt := 13) (by decide) dX4_encodeClass_37 ?_
      exact ih (k + 1) (by omega) (by omega) _ _ _ (hP.fr hF1 (sepPB hs1 hs2)) hB1 (hF.tr hF1) (by have := hb.push (pAl p (cel i k c)); rw [List.append_assoc, ← rmap_s ((fun s t => pAl p (cel s t c)) i)] at this; exact this)
set_option maxHeartbeats 4000000 in
set_option maxRecDepth 100000 in
theorem l_enc1o {G : EG} {l : Launch} {h0 : EH} {a e eb tk : Nat} {br : Bool} {p : Pol} (hs1 : e < a ∨ a + 5 < e) (hs2 : eb < a ∨ a + 5 < eb) {LL L0 : List Nat} {c : Nat} (hc : c < pC p) (hL0 : L0.length + 64 ≤ 420) (ho : ∀ (h : EH) (n : Nat) (g : Nat → Nat), PL G h a p → BR G h e eb n tk br g → Fr (atB e eb) h0 h → bL g n (L0 ++ prw (pT p) (fun s t => pAl p (cel s t c)) (pT p)) → Ex G l 2 mX4_encodeClass (fun v h' => v = none ∧ ∃ n' g', BR G h' e eb n' tk br g' ∧ bL g' n' (LL) ∧ Fr (atB e eb) h0 h') eNoX 0 0 48 [(0, .ref a), (1, .int (nI c)), (2, .ref e), (3, .int (nI 0))] [] h) : ∀ (f k : Nat), pT p - k < f → k ≤ pT p → ∀ (h : EH) (n : Nat) (g : Nat → Nat), PL G h a p → BR G h e eb n tk br g → Fr (atB e eb) h0 h → bL g n (L0 ++ prw (pT p) (fun s t => pAl p (cel s t c)) k) → Ex G l 2 mX4_encodeClass (fun v h' => v = none ∧ ∃ n' g', BR G h' e eb n' tk br g' ∧ bL g' n' (LL) ∧ Fr (atB e eb) h0 h') eNoX 0 0 2 [(0, .ref a), (1, .int (nI c)), (2, .ref e), (3, .int (nI k))] [] h := by
  intro f
  induction f with
  | zero =>
    intro k h1 h2 h n g hP hB hF hb
    omega
  | succ f ih =>
    intro k h1 h2 h n g hP hB hF hb
    have hT8 := hP.2.2.2.2.2.2.1
    have hn1 := hb.1
    rw [List.length_append, prw_len] at hn1
    refine ex_iload_n rfl dX4_encodeClass_2 ?_
    refine ex_aload_n rfl dX4_encodeClass_3 ?_
    refine ex_invv (k := 0) (n := 0) (mc' := 0) (ms' := 0) (As := []) dX4_encodeClass_4 cv_X4_14 (by decide) (Nat.le_of_ble_eq_true rfl) (Or.inl ⟨_, _, _, _, hP.1, rfl⟩) (s_ptypes hP) (fun v h' q => ?_)
    obtain ⟨rfl, rfl⟩ := q
    refine ex_icmpN_ge (tgt := 46) (by decide) dX4_encodeClass_7 (by omega) (by omega) (fun c1 => ?_) (fun c1 => ?_)
    · refine ex_iconst (v := (nI 0)) (by decide) dX4_encodeClass_46 ?_
      refine ex_istore_n (by decide) rfl dX4_encodeClass_47 ?_
      exact ex_lv [(0, .ref a), (1, .int (nI c)), (2, .ref e), (3, .int (nI 0))] ⟨rfl, rfl, rfl, rfl, trivial⟩ (ho _ _ _ hP hB hF (by rw [show k = pT p by omega] at hb; exact hb))
    · refine ex_iconst (v := (nI 0)) (by decide) dX4_encodeClass_10 ?_
      refine ex_istore (by decide) rfl dX4_encodeClass_11 ?_
      have hk := row_le c1
      have hsq := sq8 hT8
      exact ex_lv [(0, .ref a), (1, .int (nI c)), (2, .ref e), (3, .int (nI k)), (4, .int (nI 0))] ⟨rfl, rfl, rfl, rfl, rfl, trivial⟩ (l_enc1i hs1 hs2 hc c1 (L0 := L0 ++ prw (pT p) (fun s t => pAl p (cel s t c)) k) (by rw [List.length_append, prw_len]; omega) (fun h n g hP hB hF hb => ih (k + 1) (by omega) (by omega) h n g hP hB hF (by rw [prw_s, ← List.append_assoc]; exact hb)) (pT p + 1) 0 (by omega) (by omega) _ _ _ hP hB hF (by rw [rmap_0, List.append_nil]; exact hb))
set_option maxHeartbeats 4000000 in
set_option maxRecDepth 100000 in
theorem l_enc2i {G : EG} {l : Launch} {h0 : EH} {a e eb tk : Nat} {br : Bool} {p : Pol} (hs1 : e < a ∨ a + 5 < e) (hs2 : eb < a ∨ a + 5 < eb) {LL L0 : List Nat} {c i : Nat} (hc : c < pC p) (hi : i < pT p) (hL0 : L0.length + pT p ≤ 420) (ho : ∀ (h : EH) (n : Nat) (g : Nat → Nat), PL G h a p → BR G h e eb n tk br g → Fr (atB e eb) h0 h → bL g n (L0 ++ rmap ((fun s t => pPr p (cel s t c)) i) (pT p)) → Ex G l 2 mX4_encodeClass (fun v h' => v = none ∧ ∃ n' g', BR G h' e eb n' tk br g' ∧ bL g' n' (LL) ∧ Fr (atB e eb) h0 h') eNoX 0 0 48 [(0, .ref a), (1, .int (nI c)), (2, .ref e), (3, .int (nI (i + 1)))] [] h) : ∀ (f k : Nat), pT p - k < f → k ≤ pT p → ∀ (h : EH) (n : Nat) (g : Nat → Nat), PL G h a p → BR G h e eb n tk br g → Fr (atB e eb) h0 h → bL g n (L0 ++ rmap ((fun s t => pPr p (cel s t c)) i) k) → Ex G l 2 mX4_encodeClass (fun v h' => v = none ∧ ∃ n' g', BR G h' e eb n' tk br g' ∧ bL g' n' (LL) ∧ Fr (atB e eb) h0 h') eNoX 0 0 59 [(0, .ref a), (1, .int (nI c)), (2, .ref e), (3, .int (nI i)), (4, .int (nI k))] [] h := by
  intro f
  induction f with
  | zero =>
    intro k h1 h2 h n g hP hB hF hb
    omega
  | succ f ih =>
    intro k h1 h2 h n g hP hB hF hb
    have hT8 := hP.2.2.2.2.2.2.1
    have hn1 := hb.1
    rw [List.length_append, rmap_len] at hn1
    refine ex_iload rfl dX4_encodeClass_59 ?_
    refine ex_aload_n rfl dX4_encodeClass_61 ?_
    refine ex_invv (k := 0) (n := 0) (mc' := 0) (ms' := 0) (As := []) dX4_encodeClass_62 cv_X4_14 (by decide) (Nat.le_of_ble_eq_true rfl) (Or.inl ⟨_, _, _, _, hP.1, rfl⟩) (s_ptypes hP) (fun v h' q => ?_)
    obtain ⟨rfl, rfl⟩ := q
    refine ex_icmpN_ge (tgt := 86) (by decide) dX4_encodeClass_65 (by omega) (by omega) (fun c1 => ?_) (fun c1 => ?_)
    · refine ex_iincN (z := 1) rfl (by decide) rfl dX4_encodeClass_86 ?_
      refine ex_goto (tgt := 48) (by decide) dX4_encodeClass_89 ?_
      exact ex_lv [(0, .ref a), (1, .int (nI c)), (2, .ref e), (3, .int (nI (i + 1)))] ⟨rfl, rfl, rfl, rfl, trivial⟩ (ho _ _ _ hP hB hF (by rw [show k = pT p by omega] at hb; exact hb))
    · refine ex_aload_n rfl dX4_encodeClass_68 ?_
      refine ex_aload_n rfl dX4_encodeClass_69 ?_
      refine ex_iload_n rfl dX4_encodeClass_70 ?_
      refine ex_iload rfl dX4_encodeClass_71 ?_
      refine ex_iload_n rfl dX4_encodeClass_73 ?_
      refine ex_invv (k := 0) (n := 0) (mc' := 0) (ms' := 0) (As := [_, _, _]) dX4_encodeClass_74 cv_X4_44 (by decide) (Nat.le_of_ble_eq_true rfl) (Or.inl ⟨_, _, _, _, hP.1, rfl⟩) (s_productAt hP hi (t := k) (by omega) hc) (fun v h' q => ?_)
      obtain ⟨rfl, rfl⟩ := q
      refine ex_invv (k := 0) (n := 0) (mc' := 0) (ms' := 0) (As := [_]) dX4_encodeClass_77 cv_X4_20 (by decide) (Nat.le_of_ble_eq_true rfl) (Or.inl ⟨_, _, _, _, hB.1, rfl⟩) (s_bpush hB (pPr p (cel i k c)) (by omega)) (fun v h' q => ?_)
      obtain ⟨rfl, hB1, hF1⟩ := q
      refine ex_iincN (z := 1) rfl (by decide) rfl dX4_encodeClass_80 ?_
      refine ex_goto (tgt := 59) (by decide) dX4_encodeClass_83 ?_
      exact ih (k + 1) (by omega) (by omega) _ _ _ (hP.fr hF1 (sepPB hs1 hs2)) hB1 (hF.tr hF1) (by have := hb.push (pPr p (cel i k c)); rw [List.append_assoc, ← rmap_s ((fun s t => pPr p (cel s t c)) i)] at this; exact this)
set_option maxHeartbeats 4000000 in
set_option maxRecDepth 100000 in
theorem l_enc2o {G : EG} {l : Launch} {h0 : EH} {a e eb tk : Nat} {br : Bool} {p : Pol} (hs1 : e < a ∨ a + 5 < e) (hs2 : eb < a ∨ a + 5 < eb) {LL L0 : List Nat} {c : Nat} (hc : c < pC p) (hL0 : L0.length + 64 ≤ 420) (ho : ∀ (h : EH) (n : Nat) (g : Nat → Nat), PL G h a p → BR G h e eb n tk br g → Fr (atB e eb) h0 h → bL g n (L0 ++ prw (pT p) (fun s t => pPr p (cel s t c)) (pT p)) → Ex G l 2 mX4_encodeClass (fun v h' => v = none ∧ ∃ n' g', BR G h' e eb n' tk br g' ∧ bL g' n' (LL) ∧ Fr (atB e eb) h0 h') eNoX 0 0 94 [(0, .ref a), (1, .int (nI c)), (2, .ref e), (3, .int (nI 0))] [] h) : ∀ (f k : Nat), pT p - k < f → k ≤ pT p → ∀ (h : EH) (n : Nat) (g : Nat → Nat), PL G h a p → BR G h e eb n tk br g → Fr (atB e eb) h0 h → bL g n (L0 ++ prw (pT p) (fun s t => pPr p (cel s t c)) k) → Ex G l 2 mX4_encodeClass (fun v h' => v = none ∧ ∃ n' g', BR G h' e eb n' tk br g' ∧ bL g' n' (LL) ∧ Fr (atB e eb) h0 h') eNoX 0 0 48 [(0, .ref a), (1, .int (nI c)), (2, .ref e), (3, .int (nI k))] [] h := by
  intro f
  induction f with
  | zero =>
    intro k h1 h2 h n g hP hB hF hb
    omega
  | succ f ih =>
    intro k h1 h2 h n g hP hB hF hb
    have hT8 := hP.2.2.2.2.2.2.1
    have hn1 := hb.1
    rw [List.length_append, prw_len] at hn1
    refine ex_iload_n rfl dX4_encodeClass_48 ?_
    refine ex_aload_n rfl dX4_encodeClass_49 ?_
    refine ex_invv (k := 0) (n := 0) (mc' := 0) (ms' := 0) (As := []) dX4_encodeClass_50 cv_X4_14 (by decide) (Nat.le_of_ble_eq_true rfl) (Or.inl ⟨_, _, _, _, hP.1, rfl⟩) (s_ptypes hP) (fun v h' q => ?_)
    obtain ⟨rfl, rfl⟩ := q
    refine ex_icmpN_ge (tgt := 92) (by decide) dX4_encodeClass_53 (by omega) (by omega) (fun c1 => ?_) (fun c1 => ?_)
    · refine ex_iconst (v := (nI 0)) (by decide) dX4_encodeClass_92 ?_
      refine ex_istore_n (by decide) rfl dX4_encodeClass_93 ?_
      exact ex_lv [(0, .ref a), (1, .int (nI c)), (2, .ref e), (3, .int (nI 0))] ⟨rfl, rfl, rfl, rfl, trivial⟩ (ho _ _ _ hP hB hF (by rw [show k = pT p by omega] at hb; exact hb))
    · refine ex_iconst (v := (nI 0)) (by decide) dX4_encodeClass_56 ?_
      refine ex_istore (by decide) rfl dX4_encodeClass_57 ?_
      have hk := row_le c1
      have hsq := sq8 hT8
      exact ex_lv [(0, .ref a), (1, .int (nI c)), (2, .ref e), (3, .int (nI k)), (4, .int (nI 0))] ⟨rfl, rfl, rfl, rfl, rfl, trivial⟩ (l_enc2i hs1 hs2 hc c1 (L0 := L0 ++ prw (pT p) (fun s t => pPr p (cel s t c)) k) (by rw [List.length_append, prw_len]; omega) (fun h n g hP hB hF hb => ih (k + 1) (by omega) (by omega) h n g hP hB hF (by rw [prw_s, ← List.append_assoc]; exact hb)) (pT p + 1) 0 (by omega) (by omega) _ _ _ hP hB hF (by rw [rmap_0, List.append_nil]; exact hb))
set_option maxHeartbeats 4000000 in
set_option maxRecDepth 100000 in
theorem l_enc3 {G : EG} {l : Launch} {h0 : EH} {a e eb tk : Nat} {br : Bool} {p : Pol} (hs1 : e < a ∨ a + 5 < e) (hs2 : eb < a ∨ a + 5 < eb) {L0 : List Nat} {c : Nat} (hc : c < pC p) (hL0 : L0.length + 5 ≤ 420) : ∀ (f k : Nat), 5 - k < f → k ≤ 5 → ∀ (h : EH) (n : Nat) (g : Nat → Nat), PL G h a p → BR G h e eb n tk br g → Fr (atB e eb) h0 h → bL g n (L0 ++ rmap (fun w => pMs p (c * 5 + w)) k) → Ex G l 2 mX4_encodeClass (fun v h' => v = none ∧ ∃ n' g', BR G h' e eb n' tk br g' ∧ bL g' n' (L0 ++ rmap (fun w => pMs p (c * 5 + w)) 5) ∧ Fr (atB e eb) h0 h') eNoX 0 0 94 [(0, .ref a), (1, .int (nI c)), (2, .ref e), (3, .int (nI k))] [] h := by
  intro f
  induction f with
  | zero =>
    intro k h1 h2 h n g hP hB hF hb
    omega
  | succ f ih =>
    intro k h1 h2 h n g hP hB hF hb
    have hn1 := hb.1
    rw [List.length_append, rmap_len] at hn1
    refine ex_iload_n rfl dX4_encodeClass_94 ?_
    refine ex_iconst (v := (nI 5)) (by decide) dX4_encodeClass_95 ?_
    refine ex_icmpN_ge (tgt := 115) (by decide) dX4_encodeClass_96 (by omega) (by omega) (fun c1 => ?_) (fun c1 => ?_)
    · refine ex_vret dX4_encodeClass_115 rfl ⟨rfl, n, g, hB, by rw [show k = 5 by omega] at hb; exact hb, hF⟩
    · refine ex_aload_n rfl dX4_encodeClass_99 ?_
      refine ex_aload_n rfl dX4_encodeClass_100 ?_
      refine ex_iload_n rfl dX4_encodeClass_101 ?_
      refine ex_iload_n rfl dX4_encodeClass_102 ?_
      refine ex_invv (k := 0) (n := 0) (mc' := 0) (ms' := 0) (As := [_, _]) dX4_encodeClass_103 cv_X4_47 (by decide) (Nat.le_of_ble_eq_true rfl) (Or.inl ⟨_, _, _, _, hP.1, rfl⟩) (s_maskAt hP hc (w := k) (by omega)) (fun v h' q => ?_)
      obtain ⟨rfl, rfl⟩ := q
      refine ex_invv (k := 0) (n := 0) (mc' := 0) (ms' := 0) (As := [_]) dX4_encodeClass_106 cv_X4_20 (by decide) (Nat.le_of_ble_eq_true rfl) (Or.inl ⟨_, _, _, _, hB.1, rfl⟩) (s_bpush hB (pMs p (c * 5 + k)) (by omega)) (fun v h' q => ?_)
      obtain ⟨rfl, hB1, hF1⟩ := q
      refine ex_iincN (z := 1) rfl (by decide) rfl dX4_encodeClass_109 ?_
      refine ex_goto (tgt := 94) (by decide) dX4_encodeClass_112 ?_
      exact ih (k + 1) (by omega) (by omega) _ _ _ (hP.fr hF1 (sepPB hs1 hs2)) hB1 (hF.tr hF1) (by have := hb.push (pMs p (c * 5 + k)); rw [List.append_assoc, ← rmap_s (fun w => pMs p (c * 5 + w))] at this; exact this)
set_option maxHeartbeats 4000000 in
set_option maxRecDepth 100000 in
theorem s_encodeClass {G : EG} {l : Launch} {h : EH} {a e eb tk : Nat} {br : Bool} {p : Pol} (hs1 : e < a ∨ a + 5 < e) (hs2 : eb < a ∨ a + 5 < eb) {n c : Nat} {g : Nat → Nat} {L : List Nat} (hP : PL G h a p) (hB : BR G h e eb n tk br g) (hb : bL g n L) (hL : L.length + 133 ≤ 420) (hc : c < pC p) : ES G l 2 mX4_encodeClass [.ref a, .int (nI c), .ref e] h 0 0 (fun v h' => v = none ∧ ∃ n' g', BR G h' e eb n' tk br g' ∧ bL g' n' (L ++ imgC p c) ∧ Fr (atB e eb) h h') eNoX := by
  have hT8 := hP.2.2.2.2.2.2.1
  have hsq := sq8 hT8
  refine es_of (by decide) rfl (Nat.le_of_ble_eq_true rfl) ?_
  refine ex_iconst (v := (nI 0)) (by decide) dX4_encodeClass_0 ?_
  refine ex_istore_n (by decide) rfl dX4_encodeClass_1 ?_
  refine l_enc1o hs1 hs2 (L0 := L) hc (by omega) (fun h1 n1 g1 hP1 hB1 hF1 hb1 => ?_) (pT p + 1) 0 (by omega) (by omega) _ _ _ hP hB Fr.rf (by show bL g n (L ++ []); rw [List.append_nil]; exact hb)
  refine l_enc2o hs1 hs2 (L0 := L ++ prw (pT p) (fun s t => pAl p (cel s t c)) (pT p)) hc (by rw [List.length_append, prw_len]; omega) (fun h2 n2 g2 hP2 hB2 hF2 hb2 => ?_) (pT p + 1) 0 (by omega) (by omega) _ _ _ hP1 hB1 hF1 (by show bL g1 n1 (_ ++ []); rw [List.append_nil]; exact hb1)
  have hz := l_enc3 (l := l) hs1 hs2 (L0 := L ++ prw (pT p) (fun s t => pAl p (cel s t c)) (pT p) ++ prw (pT p) (fun s t => pPr p (cel s t c)) (pT p)) hc (by rw [List.length_append, List.length_append, prw_len, prw_len]; omega) 6 0 (by omega) (by omega) _ _ _ hP2 hB2 hF2 (by show bL g2 n2 (_ ++ []); rw [List.append_nil]; exact hb2)
  rw [List.append_assoc, List.append_assoc] at hz
  exact hz
set_option maxHeartbeats 4000000 in
set_option maxRecDepth 100000 in
theorem l_encode3 {G : EG} {l : Launch} {h0 : EH} {a e eb tk : Nat} {br : Bool} {p : Pol} (hs1 : e < a ∨ a + 5 < e) (hs2 : eb < a ∨ a + 5 < eb) : ∀ (f k : Nat), pC p - k < f → k ≤ pC p → ∀ (h : EH) (n : Nat) (g : Nat → Nat), PL G h a p → BR G h e eb n tk br g → Fr (atB e eb) h0 h → bL g n ([pT p, pC p] ++ rmap (pPm p) (pC p) ++ rmap (pRk p) (pT p) ++ cls p k) → Ex G l 3 mX4_encode (fun v h' => v = none ∧ ∃ n' g', BR G h' e eb n' tk br g' ∧ bL g' n' (imgL p) ∧ Fr (atB e eb) h0 h') eNoX 0 0 72 [(0, .ref a), (1, .ref e), (2, .int (nI k))] [] h := by
  intro f
  induction f with
  | zero =>
    intro k h1 h2 h n g hP hB hF hb
    omega
  | succ f ih =>
    intro k h1 h2 h n g hP hB hF hb
    have hT8 := hP.2.2.2.2.2.2.1
    have hC3 := hP.2.2.2.2.2.2.2.1
    have hcl := cls_len hT8 k
    refine ex_iload_n rfl dX4_encode_72 ?_
    refine ex_aload_n rfl dX4_encode_73 ?_
    refine ex_invv (k := 0) (n := 0) (mc' := 0) (ms' := 0) (As := []) dX4_encode_74 cv_X4_24 (by decide) (Nat.le_of_ble_eq_true rfl) (Or.inl ⟨_, _, _, _, hP.1, rfl⟩) (s_pclasses hP) (fun v h' q => ?_)
    obtain ⟨rfl, rfl⟩ := q
    refine ex_icmpN_ge (tgt := 92) (by decide) dX4_encode_77 (by omega) (by omega) (fun c1 => ?_) (fun c1 => ?_)
    · refine ex_vret dX4_encode_92 rfl ⟨rfl, n, g, hB, by rw [show k = pC p by omega] at hb; exact hb, hF⟩
    · refine ex_aload_n rfl dX4_encode_80 ?_
      refine ex_iload_n rfl dX4_encode_81 ?_
      refine ex_aload_n rfl dX4_encode_82 ?_
      refine ex_invs (k := 0) (n := 0) (mc' := 0) (ms' := 0) (As := [_, _, _]) dX4_encode_83 cs_X4_34 (by decide) (Nat.le_of_ble_eq_true rfl) (s_encodeClass hs1 hs2 hP hB hb (by rw [List.length_append, List.length_append, List.length_append, rmap_len, rmap_len]; show 2 + _ + _ + _ + _ ≤ _; omega) (c := k) (by omega)) (fun v h' q => ?_)
      obtain ⟨rfl, n1, g1, hB1, hb1, hF1⟩ := q
      refine ex_iincN (z := 1) rfl (by decide) rfl dX4_encode_86 ?_
      refine ex_goto (tgt := 72) (by decide) dX4_encode_89 ?_
      exact ih (k + 1) (by omega) (by omega) _ _ _ (hP.fr hF1 (sepPB hs1 hs2)) hB1 (hF.tr hF1) (by rw [List.append_assoc, ← cls_s] at hb1; exact hb1)
set_option maxHeartbeats 4000000 in
set_option maxRecDepth 100000 in
theorem l_encode2 {G : EG} {l : Launch} {h0 : EH} {a e eb tk : Nat} {br : Bool} {p : Pol} (hs1 : e < a ∨ a + 5 < e) (hs2 : eb < a ∨ a + 5 < eb) : ∀ (f k : Nat), pT p - k < f → k ≤ pT p → ∀ (h : EH) (n : Nat) (g : Nat → Nat), PL G h a p → BR G h e eb n tk br g → Fr (atB e eb) h0 h → bL g n ([pT p, pC p] ++ rmap (pPm p) (pC p) ++ rmap (pRk p) k) → Ex G l 3 mX4_encode (fun v h' => v = none ∧ ∃ n' g', BR G h' e eb n' tk br g' ∧ bL g' n' (imgL p) ∧ Fr (atB e eb) h0 h') eNoX 0 0 47 [(0, .ref a), (1, .ref e), (2, .int (nI k))] [] h := by
  intro f
  induction f with
  | zero =>
    intro k h1 h2 h n g hP hB hF hb
    omega
  | succ f ih =>
    intro k h1 h2 h n g hP hB hF hb
    have hT8 := hP.2.2.2.2.2.2.1
    have hC3 := hP.2.2.2.2.2.2.2.1
    have hn1 := hb.1
    rw [List.length_append, rmap_len, List.length_append, rmap_len] at hn1
    rw [show [pT p, pC p].length = 2 from rfl] at hn1
    refine ex_iload_n rfl dX4_encode_47 ?_
    refine ex_aload_n rfl dX4_encode_48 ?_
    refine ex_invv (k := 0) (n := 0) (mc' := 0) (ms' := 0) (As := []) dX4_encode_49 cv_X4_14 (by decide) (Nat.le_of_ble_eq_true rfl) (Or.inl ⟨_, _, _, _, hP.1, rfl⟩) (s_ptypes hP) (fun v h' q => ?_)
    obtain ⟨rfl, rfl⟩ := q
    refine ex_icmpN_ge (tgt := 70) (by decide) dX4_encode_52 (by omega) (by omega) (fun c1 => ?_) (fun c1 => ?_)
    · refine ex_iconst (v := (nI 0)) (by decide) dX4_encode_70 ?_
      refine ex_istore_n (by decide) rfl dX4_encode_71 ?_
      exact ex_lv [(0, .ref a), (1, .ref e), (2, .int (nI 0))] ⟨rfl, rfl, rfl, trivial⟩ (l_encode3 hs1 hs2 (pC p + 1) 0 (by omega) (by omega) _ _ _ hP hB hF (by show bL g n (_ ++ []); rw [List.append_nil]; rw [show k = pT p by omega] at hb; exact hb))
    · refine ex_aload_n rfl dX4_encode_55 ?_
      refine ex_aload_n rfl dX4_encode_56 ?_
      refine ex_iload_n rfl dX4_encode_57 ?_
      refine ex_invv (k := 0) (n := 0) (mc' := 0) (ms' := 0) (As := [_]) dX4_encode_58 cv_X4_31 (by decide) (Nat.le_of_ble_eq_true rfl) (Or.inl ⟨_, _, _, _, hP.1, rfl⟩) (s_rankOf hP (t := k) (by omega)) (fun v h' q => ?_)
      obtain ⟨rfl, rfl⟩ := q
      refine ex_invv (k := 0) (n := 0) (mc' := 0) (ms' := 0) (As := [_]) dX4_encode_61 cv_X4_20 (by decide) (Nat.le_of_ble_eq_true rfl) (Or.inl ⟨_, _, _, _, hB.1, rfl⟩) (s_bpush hB (pRk p k) (by omega)) (fun v h' q => ?_)
      obtain ⟨rfl, hB1, hF1⟩ := q
      refine ex_iincN (z := 1) rfl (by decide) rfl dX4_encode_64 ?_
      refine ex_goto (tgt := 47) (by decide) dX4_encode_67 ?_
      exact ih (k + 1) (by omega) (by omega) _ _ _ (hP.fr hF1 (sepPB hs1 hs2)) hB1 (hF.tr hF1) (by have := hb.push (pRk p k); rw [List.append_assoc, ← rmap_s (pRk p)] at this; exact this)
set_option maxHeartbeats 4000000 in
set_option maxRecDepth 100000 in
theorem l_encode1 {G : EG} {l : Launch} {h0 : EH} {a e eb tk : Nat} {br : Bool} {p : Pol} (hs1 : e < a ∨ a + 5 < e) (hs2 : eb < a ∨ a + 5 < eb) : ∀ (f k : Nat), pC p - k < f → k ≤ pC p → ∀ (h : EH) (n : Nat) (g : Nat → Nat), PL G h a p → BR G h e eb n tk br g → Fr (atB e eb) h0 h → bL g n ([pT p, pC p] ++ rmap (pPm p) k) → Ex G l 3 mX4_encode (fun v h' => v = none ∧ ∃ n' g', BR G h' e eb n' tk br g' ∧ bL g' n' (imgL p) ∧ Fr (atB e eb) h0 h') eNoX 0 0 22 [(0, .ref a), (1, .ref e), (2, .int (nI k))] [] h := by
  intro f
  induction f with
  | zero =>
    intro k h1 h2 h n g hP hB hF hb
    omega
  | succ f ih =>
    intro k h1 h2 h n g hP hB hF hb
    have hT8 := hP.2.2.2.2.2.2.1
    have hC3 := hP.2.2.2.2.2.2.2.1
    have hn1 := hb.1
    rw [List.length_append, rmap_len] at hn1
    rw [show [pT p, pC p].length = 2 from rfl] at hn1
    refine ex_iload_n rfl dX4_encode_22 ?_
    refine ex_aload_n rfl dX4_encode_23 ?_
    refine ex_invv (k := 0) (n := 0) (mc' := 0) (ms' := 0) (As := []) dX4_encode_24 cv_X4_24 (by decide) (Nat.le_of_ble_eq_true rfl) (Or.inl ⟨_, _, _, _, hP.1, rfl⟩) (s_pclasses hP) (fun v h' q => ?_)
    obtain ⟨rfl, rfl⟩ := q
    refine ex_icmpN_ge (tgt := 45) (by decide) dX4_encode_27 (by omega) (by omega) (fun c1 => ?_) (fun c1 => ?_)
    · refine ex_iconst (v := (nI 0)) (by decide) dX4_encode_45 ?_
      refine ex_istore_n (by decide) rfl dX4_encode_46 ?_
      exact ex_lv [(0, .ref a), (1, .ref e), (2, .int (nI 0))] ⟨rfl, rfl, rfl, trivial⟩ (l_encode2 hs1 hs2 (pT p + 1) 0 (by omega) (by omega) _ _ _ hP hB hF (by show bL g n (_ ++ []); rw [List.append_nil]; rw [show k = pC p by omega] at hb; exact hb))
    · refine ex_aload_n rfl dX4_encode_30 ?_
      refine ex_aload_n rfl dX4_encode_31 ?_
      refine ex_iload_n rfl dX4_encode_32 ?_
      refine ex_invv (k := 0) (n := 0) (mc' := 0) (ms' := 0) (As := [_]) dX4_encode_33 cv_X4_27 (by decide) (Nat.le_of_ble_eq_true rfl) (Or.inl ⟨_, _, _, _, hP.1, rfl⟩) (s_permissionsOf hP (c := k) (by omega)) (fun v h' q => ?_)
      obtain ⟨rfl, rfl⟩ := q
      refine ex_invv (k := 0) (n := 0) (mc' := 0) (ms' := 0) (As := [_]) dX4_encode_36 cv_X4_20 (by decide) (Nat.le_of_ble_eq_true rfl) (Or.inl ⟨_, _, _, _, hB.1, rfl⟩) (s_bpush hB (pPm p k) (by omega)) (fun v h' q => ?_)
      obtain ⟨rfl, hB1, hF1⟩ := q
      refine ex_iincN (z := 1) rfl (by decide) rfl dX4_encode_39 ?_
      refine ex_goto (tgt := 22) (by decide) dX4_encode_42 ?_
      exact ih (k + 1) (by omega) (by omega) _ _ _ (hP.fr hF1 (sepPB hs1 hs2)) hB1 (hF.tr hF1) (by have := hb.push (pPm p k); rw [List.append_assoc, ← rmap_s (pPm p)] at this; exact this)
set_option maxHeartbeats 4000000 in
set_option maxRecDepth 100000 in
theorem s_encode {G : EG} {l : Launch} {h : EH} {a e eb tk : Nat} {br : Bool} {p : Pol} (hs1 : e < a ∨ a + 5 < e) (hs2 : eb < a ∨ a + 5 < eb) {n : Nat} {g : Nat → Nat} (hP : PL G h a p) (hB : BR G h e eb n tk br g) : ES G l 3 mX4_encode [.ref a, .ref e] h 0 0 (fun v h' => v = none ∧ ∃ n' g', BR G h' e eb n' tk br g' ∧ bL g' n' (imgL p) ∧ Fr (atB e eb) h h') eNoX := by
  refine es_of (by decide) rfl (Nat.le_of_ble_eq_true rfl) ?_
  refine ex_aload_n rfl dX4_encode_0 ?_
  refine ex_invv (k := 0) (n := 0) (mc' := 0) (ms' := 0) (As := []) dX4_encode_1 cv_X4_9 (by decide) (Nat.le_of_ble_eq_true rfl) (Or.inl ⟨_, _, _, _, hB.1, rfl⟩) (s_bclear hB) (fun v h' q => ?_)
  obtain ⟨rfl, hB1, hF1⟩ := q
  have hP1 := hP.fr hF1 (sepPB hs1 hs2)
  refine ex_aload_n rfl dX4_encode_4 ?_
  refine ex_aload_n rfl dX4_encode_5 ?_
  refine ex_invv (k := 0) (n := 0) (mc' := 0) (ms' := 0) (As := []) dX4_encode_6 cv_X4_14 (by decide) (Nat.le_of_ble_eq_true rfl) (Or.inl ⟨_, _, _, _, hP1.1, rfl⟩) (s_ptypes hP1) (fun v h' q => ?_)
  obtain ⟨rfl, rfl⟩ := q
  refine ex_invv (k := 0) (n := 0) (mc' := 0) (ms' := 0) (As := [_]) dX4_encode_9 cv_X4_20 (by decide) (Nat.le_of_ble_eq_true rfl) (Or.inl ⟨_, _, _, _, hB1.1, rfl⟩) (s_bpush hB1 (pT p) (by omega)) (fun v h' q => ?_)
  obtain ⟨rfl, hB2, hF2⟩ := q
  have hP2 := hP1.fr hF2 (sepPB hs1 hs2)
  refine ex_aload_n rfl dX4_encode_12 ?_
  refine ex_aload_n rfl dX4_encode_13 ?_
  refine ex_invv (k := 0) (n := 0) (mc' := 0) (ms' := 0) (As := []) dX4_encode_14 cv_X4_24 (by decide) (Nat.le_of_ble_eq_true rfl) (Or.inl ⟨_, _, _, _, hP2.1, rfl⟩) (s_pclasses hP2) (fun v h' q => ?_)
  obtain ⟨rfl, rfl⟩ := q
  refine ex_invv (k := 0) (n := 0) (mc' := 0) (ms' := 0) (As := [_]) dX4_encode_17 cv_X4_20 (by decide) (Nat.le_of_ble_eq_true rfl) (Or.inl ⟨_, _, _, _, hB2.1, rfl⟩) (s_bpush hB2 (pC p) (by omega)) (fun v h' q => ?_)
  obtain ⟨rfl, hB3, hF3⟩ := q
  have hP3 := hP2.fr hF3 (sepPB hs1 hs2)
  refine ex_iconst (v := (nI 0)) (by decide) dX4_encode_20 ?_
  refine ex_istore_n (by decide) rfl dX4_encode_21 ?_
  exact ex_lv [(0, .ref a), (1, .ref e), (2, .int (nI 0))] ⟨rfl, rfl, rfl, trivial⟩ (l_encode1 hs1 hs2 (pC p + 1) 0 (by omega) (by omega) _ _ _ hP3 hB3 ((hF1.tr hF2).tr hF3) (by have := ((bL.nil g).push (pT p)).push (pC p); exact this))
