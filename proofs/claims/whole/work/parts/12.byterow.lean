/-! BYTEROW: a row of bytes (PolicyDesk$ByteRow) -/
theorem vp_of {k : Int32} {n N : Nat} (h1 : ¬ k < 0) (h2 : ¬ nI n ≤ k) (h : n ≤ N) (hN : N < 2 ^ 31) : vp_in k N := by
  rw [vp_in_iff]
  rw [Int32.lt_iff_toInt_lt, Int32.toInt_zero] at h1
  rw [Int32.le_iff_toInt_le, nI_toInt (by omega)] at h2
  omega
def BR (G : EG) (h : EH) (a b n tk : Nat) (br : Bool) (f : Nat → Nat) : Prop := h.2 a = some (.inr (0, [.ref b, .int (nI n), .int (nI tk), .int (b2i br)])) ∧ h.2 b = some (.inl (eA G 0, 420, .inl (fun j => nI (f j)))) ∧ n ≤ 420 ∧ a ≠ b
abbrev atB (a b : Nat) : Nat → Prop := fun q => q = a ∨ q = b
theorem BR.fr {G : EG} {h h' : EH} {a b n tk : Nat} {br : Bool} {f : Nat → Nat} {P : Nat → Prop} (x : BR G h a b n tk br f) (w : Fr P h h') (ha : ¬ P a) (hb : ¬ P b) : BR G h' a b n tk br f := ⟨w.get ha x.1, w.get hb x.2.1, x.2.2⟩
/-- a byte of the row, NONE outside -/
def bAt (f : Nat → Nat) (n : Nat) (k : Int32) : Int32 := if k < 0 then -1 else if nI n ≤ k then -1 else nI (f k.toNatClampNeg)
theorem bAt_nI (f : Nat → Nat) {n k : Nat} (hn : n < 2 ^ 31) (hk : k < 2 ^ 31) : bAt f n (nI k) = if k < n then nI (f k) else -1 := by
  unfold bAt
  rw [if_neg (nI_pos hk), nI_clamp hk]
  by_cases h : k < n
  · rw [if_neg (fun q => by have := (nI_leI hn hk).mp q; omega), if_pos h]
  · rw [if_pos ((nI_leI hn hk).mpr (by omega)), if_neg h]
set_option maxHeartbeats 4000000 in
set_option maxRecDepth 100000 in
theorem s_blength {G : EG} {l : Launch} {h : EH} {a b n tk : Nat} {br : Bool} {f : Nat → Nat} (hB : BR G h a b n tk br f) : ES G l 0 mX1_length [.ref a] h 0 0 (fun v h' => v = some (.int (nI n)) ∧ h' = h) eNoX := by
  refine es_of (by decide) rfl (Nat.le_of_ble_eq_true rfl) ?_
  refine ex_aload_n rfl dX1_length_0 ?_
  refine ex_get dX1_length_1 gf_X1_15 hB.1 rfl ?_
  refine ex_iret dX1_length_4 rfl ⟨rfl, rfl⟩
set_option maxHeartbeats 4000000 in
set_option maxRecDepth 100000 in
theorem s_broom {G : EG} {l : Launch} {h : EH} {a b n tk : Nat} {br : Bool} {f : Nat → Nat} (hB : BR G h a b n tk br f) : ES G l 0 mX1_room [.ref a] h 0 0 (fun v h' => v = some (.int (nI (420 - n))) ∧ h' = h) eNoX := by
  have hn := hB.2.2.1
  have hab := hB.2.2.2
  refine es_of (by decide) rfl (Nat.le_of_ble_eq_true rfl) ?_
  refine ex_aload_n rfl dX1_room_0 ?_
  refine ex_get dX1_room_1 gf_X1_9 hB.1 rfl ?_
  refine ex_alen dX1_room_4 hB.2.1 rfl (v := nI 420) rfl ?_
  refine ex_aload_n rfl dX1_room_5 ?_
  refine ex_get dX1_room_6 gf_X1_15 hB.1 rfl ?_
  refine ex_isubN (by omega) dX1_room_9 ?_
  refine ex_iret dX1_room_10 rfl ⟨rfl, rfl⟩
set_option maxHeartbeats 4000000 in
set_option maxRecDepth 100000 in
theorem s_bclear {G : EG} {l : Launch} {h : EH} {a b n tk : Nat} {br : Bool} {f : Nat → Nat} (hB : BR G h a b n tk br f) : ES G l 0 mX1_clear [.ref a] h 0 0 (fun v h' => v = none ∧ BR G h' a b 0 tk br f ∧ Fr (atB a b) h h') eNoX := by
  have hn := hB.2.2.1
  have hab := hB.2.2.2
  refine es_of (by decide) rfl (Nat.le_of_ble_eq_true rfl) ?_
  refine ex_aload_n rfl dX1_clear_0 ?_
  refine ex_iconst (v := (nI 0)) (by decide) dX1_clear_1 ?_
  refine ex_put dX1_clear_2 pf_X1_15 hB.1 (Nat.le_of_ble_eq_true rfl) rfl rfl ?_
  refine ex_vret dX1_clear_5 rfl ⟨rfl, ⟨hup_eq, hup_ne hab.symm hB.2.1, by omega, hab⟩, Fr.rf.up (Or.inl rfl)⟩
set_option maxHeartbeats 4000000 in
set_option maxRecDepth 100000 in
theorem s_bpush {G : EG} {l : Launch} {h : EH} {a b n tk : Nat} {br : Bool} {f : Nat → Nat} (hB : BR G h a b n tk br f) (x : Nat) (hr : n < 420) : ES G l 0 mX1_push [.ref a, .int (nI x)] h 0 0 (fun v h' => v = none ∧ BR G h' a b (n + 1) tk br (va_up f n x) ∧ Fr (atB a b) h h') eNoX := by
  have hn := hB.2.2.1
  have hab := hB.2.2.2
  refine es_of (by decide) rfl (Nat.le_of_ble_eq_true rfl) ?_
  refine ex_aload_n rfl dX1_push_0 ?_
  refine ex_get dX1_push_1 gf_X1_15 hB.1 rfl ?_
  refine ex_aload_n rfl dX1_push_4 ?_
  refine ex_get dX1_push_5 gf_X1_9 hB.1 rfl ?_
  refine ex_alen dX1_push_8 hB.2.1 rfl (v := nI 420) rfl ?_
  refine ex_icmpN_ge (tgt := 32) (by decide) dX1_push_9 (by omega) (by omega) (fun c1 => ?_) (fun c1 => ?_)
  · exact absurd hr (by omega)
  · refine ex_aload_n rfl dX1_push_12 ?_
    refine ex_get dX1_push_13 gf_X1_9 hB.1 rfl ?_
    refine ex_aload_n rfl dX1_push_16 ?_
    refine ex_get dX1_push_17 gf_X1_15 hB.1 rfl ?_
    refine ex_iload_n rfl dX1_push_20 ?_
    refine ex_iastN dX1_push_21 hB.2.1 (by omega) (by decide) ?_
    refine ex_aload_n rfl dX1_push_22 ?_
    refine ex_dup rfl dX1_push_23 ?_
    refine ex_get dX1_push_24 gf_X1_15 (hup_ne hab hB.1) rfl ?_
    refine ex_iconst (v := (nI 1)) (by decide) dX1_push_27 ?_
    refine ex_iaddN dX1_push_28 ?_
    refine ex_put dX1_push_29 pf_X1_15 (hup_ne hab hB.1) (Nat.le_of_ble_eq_true rfl) rfl rfl ?_
    refine ex_vret dX1_push_32 rfl ⟨rfl, ⟨hup_eq, hup_ne hab.symm (by rw [← upd_nI]; exact hup_eq), by omega, hab⟩, (Fr.rf.up (Or.inr rfl)).up (Or.inl rfl)⟩
set_option maxHeartbeats 4000000 in
set_option maxRecDepth 100000 in
theorem s_byteAt {G : EG} {l : Launch} {h : EH} {a b n tk : Nat} {br : Bool} {f : Nat → Nat} (hB : BR G h a b n tk br f) (k : Int32) : ES G l 0 mX1_byteAt [.ref a, .int k] h 0 0 (fun v h' => v = some (.int (bAt f n k)) ∧ h' = h) eNoX := by
  have hn := hB.2.2.1
  have hab := hB.2.2.2
  refine es_of (by decide) rfl (Nat.le_of_ble_eq_true rfl) ?_
  refine ex_iload_n rfl dX1_byteAt_0 ?_
  refine ex_if_lt (tgt := 21) (by decide) dX1_byteAt_1 (fun c1 => ?_) (fun c1 => ?_)
  · refine ex_iconst (v := (-1)) (by decide) dX1_byteAt_21 ?_
    refine ex_iret dX1_byteAt_22 rfl ⟨by rw [bAt, if_pos c1], rfl⟩
  · refine ex_iload_n rfl dX1_byteAt_4 ?_
    refine ex_aload_n rfl dX1_byteAt_5 ?_
    refine ex_get dX1_byteAt_6 gf_X1_15 hB.1 rfl ?_
    refine ex_icmp_ge (tgt := 21) (by decide) dX1_byteAt_9 (fun c2 => ?_) (fun c2 => ?_)
    · refine ex_iconst (v := (-1)) (by decide) dX1_byteAt_21 ?_
      refine ex_iret dX1_byteAt_22 rfl ⟨by rw [bAt, if_neg c1, if_pos c2], rfl⟩
    · refine ex_aload_n rfl dX1_byteAt_12 ?_
      refine ex_get dX1_byteAt_13 gf_X1_9 hB.1 rfl ?_
      refine ex_iload_n rfl dX1_byteAt_16 ?_
      refine ex_iald dX1_byteAt_17 hB.2.1 (vp_of ‹_› ‹_› hn (by decide)) ?_
      refine ex_goto (tgt := 22) (by decide) dX1_byteAt_18 ?_
      refine ex_iret dX1_byteAt_22 rfl ⟨by rw [bAt, if_neg c1, if_neg c2], rfl⟩
set_option maxHeartbeats 4000000 in
set_option maxRecDepth 100000 in
theorem s_brewind {G : EG} {l : Launch} {h : EH} {a b n tk : Nat} {br : Bool} {f : Nat → Nat} (hB : BR G h a b n tk br f) : ES G l 0 mX1_rewind [.ref a] h 0 0 (fun v h' => v = none ∧ BR G h' a b n 0 false f ∧ Fr (atB a b) h h') eNoX := by
  have hn := hB.2.2.1
  have hab := hB.2.2.2
  refine es_of (by decide) rfl (Nat.le_of_ble_eq_true rfl) ?_
  refine ex_aload_n rfl dX1_rewind_0 ?_
  refine ex_iconst (v := (nI 0)) (by decide) dX1_rewind_1 ?_
  refine ex_put dX1_rewind_2 pf_X1_19 hB.1 (Nat.le_of_ble_eq_true rfl) rfl rfl ?_
  refine ex_aload_n rfl dX1_rewind_5 ?_
  refine ex_iconst (v := (nI 0)) (by decide) dX1_rewind_6 ?_
  refine ex_put dX1_rewind_7 pf_X1_22 hup_eq (Nat.le_of_ble_eq_true rfl) rfl rfl ?_
  refine ex_vret dX1_rewind_10 rfl ⟨rfl, ⟨hup_eq, hup_ne hab.symm (hup_ne hab.symm hB.2.1), hn, hab⟩, (Fr.rf.up (Or.inl rfl)).up (Or.inl rfl)⟩
/-- whether the next byte is there, in bounds -/
def tok (f : Nat → Nat) (n tk lo hi : Nat) : Bool := decide (tk < n ∧ lo ≤ f tk ∧ f tk ≤ hi)
theorem m1_lt {a : Nat} (h : a < 2 ^ 31) : (-1 : Int32) < nI a := by
  rw [Int32.lt_iff_toInt_lt, nI_toInt h]
  have : ((-1 : Int32)).toInt = -1 := by decide
  omega
theorem tok_no {f : Nat → Nat} {n tk lo hi : Nat} (h : ¬ (tk < n ∧ lo ≤ f tk ∧ f tk ≤ hi)) : tok f n tk lo hi = false := decide_eq_false h
theorem tok_yes {f : Nat → Nat} {n tk lo hi : Nat} (h1 : tk < n) (h2 : lo ≤ f tk) (h3 : f tk ≤ hi) : tok f n tk lo hi = true := decide_eq_true ⟨h1, h2, h3⟩
set_option maxHeartbeats 4000000 in
set_option maxRecDepth 100000 in
theorem s_btake {G : EG} {l : Launch} {h : EH} {a b n tk : Nat} {br : Bool} {f : Nat → Nat} (hB : BR G h a b n tk br f) {lo hi : Nat} (hlo : lo < 2 ^ 31) (hhi : hi < 2 ^ 31) (htk : tk < 2 ^ 30) (hf : ∀ j, j < n → f j < 2 ^ 31) : ES G l 1 mX1_take [.ref a, .int (nI lo), .int (nI hi)] h 0 0 (fun v h' => v = some (.int (nI (if tok f n tk lo hi then f tk else lo))) ∧ BR G h' a b n (tk + 1) (br || !(tok f n tk lo hi)) f ∧ Fr (atB a b) h h') eNoX := by
  have hn := hB.2.2.1
  have hab := hB.2.2.2
  refine es_of (by decide) rfl (Nat.le_of_ble_eq_true rfl) ?_
  by_cases hc : tk < n
  · have hf1 := hf tk hc
    refine ex_aload_n rfl dX1_take_0 ?_
    refine ex_aload_n rfl dX1_take_1 ?_
    refine ex_get dX1_take_2 gf_X1_19 hB.1 rfl ?_
    refine ex_invv (k := 0) (n := 0) (mc' := 0) (ms' := 0) (As := [_]) dX1_take_5 cv_X1_26 (by decide) (Nat.le_of_ble_eq_true rfl) (Or.inl ⟨_, _, _, _, hB.1, rfl⟩) (s_byteAt hB (nI tk)) (fun v h' q => ?_)
    obtain ⟨rfl, rfl⟩ := q
    rw [bAt_nI f (by omega) (by omega), if_pos hc]
    refine ex_istore_n (by decide) rfl dX1_take_8 ?_
    refine ex_aload_n rfl dX1_take_9 ?_
    refine ex_dup rfl dX1_take_10 ?_
    refine ex_get dX1_take_11 gf_X1_19 hB.1 rfl ?_
    refine ex_iconst (v := (nI 1)) (by decide) dX1_take_14 ?_
    refine ex_iaddN dX1_take_15 ?_
    refine ex_put dX1_take_16 pf_X1_19 hB.1 (Nat.le_of_ble_eq_true rfl) rfl rfl ?_
    refine ex_iload_n rfl dX1_take_19 ?_
    refine ex_iload_n rfl dX1_take_20 ?_
    refine ex_icmpN_lt (tgt := 29) (by decide) dX1_take_21 (by omega) (by omega) (fun c1 => ?_) (fun c1 => ?_)
    · refine ex_aload_n rfl dX1_take_29 ?_
      refine ex_iconst (v := (nI 1)) (by decide) dX1_take_30 ?_
      refine ex_put dX1_take_31 pf_X1_22 hup_eq (Nat.le_of_ble_eq_true rfl) rfl rfl ?_
      refine ex_iload_n rfl dX1_take_34 ?_
      refine ex_iret dX1_take_35 rfl ⟨by rw [tok_no (by omega)]; rfl, ⟨by rw [tok_no (by omega), Bool.not_false, Bool.or_true]; exact hup_eq, hup_ne hab.symm (hup_ne hab.symm hB.2.1), hn, hab⟩, (Fr.rf.up (Or.inl rfl)).up (Or.inl rfl)⟩
    · refine ex_iload_n rfl dX1_take_24 ?_
      refine ex_iload_n rfl dX1_take_25 ?_
      refine ex_icmpN_le (tgt := 36) (by decide) dX1_take_26 (by omega) (by omega) (fun c2 => ?_) (fun c2 => ?_)
      · refine ex_iload_n rfl dX1_take_36 ?_
        refine ex_iret dX1_take_37 rfl ⟨by rw [tok_yes hc (by omega) (by omega)]; rfl, ⟨by rw [tok_yes hc (by omega) (by omega), Bool.not_true, Bool.or_false]; exact hup_eq, hup_ne hab.symm hB.2.1, hn, hab⟩, Fr.rf.up (Or.inl rfl)⟩
      · refine ex_aload_n rfl dX1_take_29 ?_
        refine ex_iconst (v := (nI 1)) (by decide) dX1_take_30 ?_
        refine ex_put dX1_take_31 pf_X1_22 hup_eq (Nat.le_of_ble_eq_true rfl) rfl rfl ?_
        refine ex_iload_n rfl dX1_take_34 ?_
        refine ex_iret dX1_take_35 rfl ⟨by rw [tok_no (by omega)]; rfl, ⟨by rw [tok_no (by omega), Bool.not_false, Bool.or_true]; exact hup_eq, hup_ne hab.symm (hup_ne hab.symm hB.2.1), hn, hab⟩, (Fr.rf.up (Or.inl rfl)).up (Or.inl rfl)⟩
  · refine ex_aload_n rfl dX1_take_0 ?_
    refine ex_aload_n rfl dX1_take_1 ?_
    refine ex_get dX1_take_2 gf_X1_19 hB.1 rfl ?_
    refine ex_invv (k := 0) (n := 0) (mc' := 0) (ms' := 0) (As := [_]) dX1_take_5 cv_X1_26 (by decide) (Nat.le_of_ble_eq_true rfl) (Or.inl ⟨_, _, _, _, hB.1, rfl⟩) (s_byteAt hB (nI tk)) (fun v h' q => ?_)
    obtain ⟨rfl, rfl⟩ := q
    rw [bAt_nI f (by omega) (by omega), if_neg hc]
    refine ex_istore_n (by decide) rfl dX1_take_8 ?_
    refine ex_aload_n rfl dX1_take_9 ?_
    refine ex_dup rfl dX1_take_10 ?_
    refine ex_get dX1_take_11 gf_X1_19 hB.1 rfl ?_
    refine ex_iconst (v := (nI 1)) (by decide) dX1_take_14 ?_
    refine ex_iaddN dX1_take_15 ?_
    refine ex_put dX1_take_16 pf_X1_19 hB.1 (Nat.le_of_ble_eq_true rfl) rfl rfl ?_
    refine ex_iload_n rfl dX1_take_19 ?_
    refine ex_iload_n rfl dX1_take_20 ?_
    refine ex_icmp_lt (tgt := 29) (by decide) dX1_take_21 (fun c1 => ?_) (fun c1 => ?_)
    · refine ex_aload_n rfl dX1_take_29 ?_
      refine ex_iconst (v := (nI 1)) (by decide) dX1_take_30 ?_
      refine ex_put dX1_take_31 pf_X1_22 hup_eq (Nat.le_of_ble_eq_true rfl) rfl rfl ?_
      refine ex_iload_n rfl dX1_take_34 ?_
      refine ex_iret dX1_take_35 rfl ⟨by rw [tok_no (by omega)]; rfl, ⟨by rw [tok_no (by omega), Bool.not_false, Bool.or_true]; exact hup_eq, hup_ne hab.symm (hup_ne hab.symm hB.2.1), hn, hab⟩, (Fr.rf.up (Or.inl rfl)).up (Or.inl rfl)⟩
    · refine ex_iload_n rfl dX1_take_24 ?_
      refine ex_iload_n rfl dX1_take_25 ?_
      refine ex_icmp_le (tgt := 36) (by decide) dX1_take_26 (fun c2 => ?_) (fun c2 => ?_)
      · refine ex_iload_n rfl dX1_take_36 ?_
        exact absurd (m1_lt hlo) c1
      · refine ex_aload_n rfl dX1_take_29 ?_
        refine ex_iconst (v := (nI 1)) (by decide) dX1_take_30 ?_
        refine ex_put dX1_take_31 pf_X1_22 hup_eq (Nat.le_of_ble_eq_true rfl) rfl rfl ?_
        refine ex_iload_n rfl dX1_take_34 ?_
        refine ex_iret dX1_take_35 rfl ⟨by rw [tok_no (by omega)]; rfl, ⟨by rw [tok_no (by omega), Bool.not_false, Bool.or_true]; exact hup_eq, hup_ne hab.symm (hup_ne hab.symm hB.2.1), hn, hab⟩, (Fr.rf.up (Or.inl rfl)).up (Or.inl rfl)⟩
set_option maxHeartbeats 4000000 in
set_option maxRecDepth 100000 in
theorem s_btaken {G : EG} {l : Launch} {h : EH} {a b n tk : Nat} {br : Bool} {f : Nat → Nat} (hB : BR G h a b n tk br f) (htk : tk < 2 ^ 30) : ES G l 0 mX1_isTakenWhole [.ref a] h 0 0 (fun v h' => v = some (.int (b2i (!br && decide (tk = n)))) ∧ h' = h) eNoX := by
  have hn := hB.2.2.1
  have hab := hB.2.2.2
  refine es_of (by decide) rfl (Nat.le_of_ble_eq_true rfl) ?_
  refine ex_aload_n rfl dX1_isTakenWhole_0 ?_
  refine ex_get dX1_isTakenWhole_1 gf_X1_22 hB.1 rfl ?_
  refine ex_ifB_ne (tgt := 22) (by decide) dX1_isTakenWhole_4 (fun c1 => ?_) (fun c1 => ?_)
  · refine ex_iconst (v := (nI 0)) (by decide) dX1_isTakenWhole_22 ?_
    refine ex_zret dX1_isTakenWhole_23 rfl rfl ⟨by rw [c1]; rfl, rfl⟩
  · refine ex_aload_n rfl dX1_isTakenWhole_7 ?_
    refine ex_get dX1_isTakenWhole_8 gf_X1_19 hB.1 rfl ?_
    refine ex_aload_n rfl dX1_isTakenWhole_11 ?_
    refine ex_get dX1_isTakenWhole_12 gf_X1_15 hB.1 rfl ?_
    refine ex_icmpN_ne (tgt := 22) (by decide) dX1_isTakenWhole_15 (by omega) (by omega) (fun c2 => ?_) (fun c2 => ?_)
    · refine ex_iconst (v := (nI 0)) (by decide) dX1_isTakenWhole_22 ?_
      refine ex_zret dX1_isTakenWhole_23 rfl rfl ⟨by rw [c1, decide_eq_false c2]; rfl, rfl⟩
    · refine ex_iconst (v := (nI 1)) (by decide) dX1_isTakenWhole_18 ?_
      refine ex_goto (tgt := 23) (by decide) dX1_isTakenWhole_19 ?_
      refine ex_zret dX1_isTakenWhole_23 rfl rfl ⟨by rw [c1, decide_eq_true c2]; rfl, rfl⟩
