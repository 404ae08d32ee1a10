/-! POLICY, second half -/
set_option maxHeartbeats 4000000 in
set_option maxRecDepth 100000 in
theorem s_productAt {G : EG} {l : Launch} {h : EH} {a : Nat} {p : Pol} (hP : PL G h a p) {s t c : Nat} (hs : s < pT p) (ht : t < pT p) (hc : c < pC p) : ES G l 1 mX7_productAt [.ref a, .int (nI s), .int (nI t), .int (nI c)] h 0 0 (fun v h' => v = some (.int (nI (pPr p (cel s t c)))) ∧ h' = h) eNoX := by
  obtain ⟨bT, bC, bb⟩ := hP.2.2.2.2.2.2
  have hcel : (c * 8 + s) * 8 + t < 192 := by omega
  refine es_of (by decide) rfl (Nat.le_of_ble_eq_true rfl) ?_
  refine ex_aload_n rfl dX7_productAt_0 ?_
  refine ex_iload_n rfl dX7_productAt_1 ?_
  refine ex_iload_n rfl dX7_productAt_2 ?_
  refine ex_iload_n rfl dX7_productAt_3 ?_
  refine ex_invv (k := 0) (n := 0) (mc' := 0) (ms' := 0) (As := [_, _, _]) dX7_productAt_4 cv_X7_44 (by decide) (Nat.le_of_ble_eq_true rfl) (Or.inl ⟨_, _, _, _, hP.1, rfl⟩) (s_has hP (nI s) (nI t) (nI c) (B := true) ⟨fun _ => ⟨(inR_nI (by omega) (by omega)).mpr (by omega), (inR_nI (by omega) (by omega)).mpr (by omega), (inR_nI (by omega) (by omega)).mpr (by omega)⟩, fun _ => rfl⟩) (fun v h' q => ?_)
  obtain ⟨rfl, rfl⟩ := q
  refine ex_ifB_eq (tgt := 24) (by decide) dX7_productAt_7 (fun c1 => ?_) (fun c1 => ?_)
  · refine ex_iconst (v := (nI 0)) (by decide) dX7_productAt_24 ?_
    cases c1
  · refine ex_aload_n rfl dX7_productAt_10 ?_
    refine ex_get dX7_productAt_11 gf_X7_21 hP.1 rfl ?_
    refine ex_iload_n rfl dX7_productAt_14 ?_
    refine ex_iload_n rfl dX7_productAt_15 ?_
    refine ex_iload_n rfl dX7_productAt_16 ?_
    refine ex_invsN (k := 0) (n := 0) (mc' := 0) (ms' := 0) (As := [_, _, _]) dX7_productAt_17 cs_X7_48 (by decide) (Nat.le_of_ble_eq_true rfl) (s_cellOf _ s t c) (fun v h' q => ?_)
    obtain ⟨rfl, rfl⟩ := q
    refine ex_ialdN dX7_productAt_20 hP.2.2.2.2.1 (by omega) (by decide) ?_
    refine ex_goto (tgt := 25) (by decide) dX7_productAt_21 ?_
    refine ex_iret dX7_productAt_25 rfl ⟨rfl, rfl⟩
set_option maxHeartbeats 4000000 in
set_option maxRecDepth 100000 in
theorem s_productOut {G : EG} {l : Launch} {h : EH} {a : Nat} {p : Pol} (hP : PL G h a p) {s t c : Int32} (hn : ¬ (inR s (pT p) ∧ inR t (pT p) ∧ inR c (pC p))) : ES G l 1 mX7_productAt [.ref a, .int s, .int t, .int c] h 0 0 (fun v h' => v = some (.int (nI 0)) ∧ h' = h) eNoX := by
  refine es_of (by decide) rfl (Nat.le_of_ble_eq_true rfl) ?_
  refine ex_aload_n rfl dX7_productAt_0 ?_
  refine ex_iload_n rfl dX7_productAt_1 ?_
  refine ex_iload_n rfl dX7_productAt_2 ?_
  refine ex_iload_n rfl dX7_productAt_3 ?_
  refine ex_invv (k := 0) (n := 0) (mc' := 0) (ms' := 0) (As := [_, _, _]) dX7_productAt_4 cv_X7_44 (by decide) (Nat.le_of_ble_eq_true rfl) (Or.inl ⟨_, _, _, _, hP.1, rfl⟩) (s_has hP s t c (B := false) ⟨fun z => Bool.noConfusion z, fun z => absurd z hn⟩) (fun v h' q => ?_)
  obtain ⟨rfl, rfl⟩ := q
  refine ex_ifB_eq (tgt := 24) (by decide) dX7_productAt_7 (fun c1 => ?_) (fun c1 => ?_)
  · refine ex_iconst (v := (nI 0)) (by decide) dX7_productAt_24 ?_
    refine ex_iret dX7_productAt_25 rfl ⟨rfl, rfl⟩
  · cases c1
theorem pn {a : Nat} (i j : Nat) (h : i ≠ j) : a + i ≠ a + j := fun q => h (Nat.add_left_cancel q)
theorem pn0 {a : Nat} (j : Nat) (h : j ≠ 0) : a ≠ a + j := fun q => h (by omega)
theorem pn1 {a : Nat} (i : Nat) (h : i ≠ 0) : a + i ≠ a := fun q => h (by omega)
theorem pin {a : Nat} (i : Nat) (h : i ≤ 5) : atP a (a + i) := ⟨by omega, by omega⟩
theorem pin0 {a : Nat} : atP a a := ⟨by omega, by omega⟩
theorem hup_aI {G : EG} {h : EH} {a N i x : Nat} {f : Nat → Nat} : (hup h a (.inl (eA G 0, N, .inl (upd (fun j => nI (f j)) i (nI x))))).2 a = some (aI G N (va_up f i x)) := (if_pos rfl).trans (by rw [upd_nI])
theorem vub_ {f : Nat → Nat} {i x : Nat} (hx : x < 2 ^ 30) {j : Nat} (h : f j < 2 ^ 30) : va_up f i x j < 2 ^ 30 := by unfold va_up; split; exact hx; exact h
set_option maxHeartbeats 4000000 in
set_option maxRecDepth 100000 in
theorem s_setRank {G : EG} {l : Launch} {h : EH} {a : Nat} {p : Pol} (hP : PL G h a p) {t x : Nat} (ht : t < pT p) (hx : x < 2 ^ 30) : ES G l 1 mX7_setRank [.ref a, .int (nI t), .int (nI x)] h 0 0 (fun v h' => v = none ∧ PL G h' a (pT p, pC p, pPm p, va_up (pRk p) t x, pAl p, pPr p, pMs p) ∧ Fr (atP a) h h') eNoX := by
  obtain ⟨bT, bC, bb⟩ := hP.2.2.2.2.2.2
  refine es_of (by decide) rfl (Nat.le_of_ble_eq_true rfl) ?_
  refine ex_aload_n rfl dX7_setRank_0 ?_
  refine ex_iload_n rfl dX7_setRank_1 ?_
  refine ex_invv (k := 0) (n := 0) (mc' := 0) (ms' := 0) (As := [_]) dX7_setRank_2 cv_X7_40 (by decide) (Nat.le_of_ble_eq_true rfl) (Or.inl ⟨_, _, _, _, hP.1, rfl⟩) (s_hasType hP (nI t) (B := true) ⟨fun _ => (inR_nI (by omega) (by omega)).mpr (by omega), fun _ => rfl⟩) (fun v h' q => ?_)
  obtain ⟨rfl, rfl⟩ := q
  refine ex_ifB_eq (tgt := 15) (by decide) dX7_setRank_5 (fun c1 => ?_) (fun c1 => ?_)
  · cases c1
  · refine ex_aload_n rfl dX7_setRank_8 ?_
    refine ex_get dX7_setRank_9 gf_X7_15 hP.1 rfl ?_
    refine ex_iload_n rfl dX7_setRank_12 ?_
    refine ex_iload_n rfl dX7_setRank_13 ?_
    refine ex_iastN dX7_setRank_14 hP.2.2.1 (by omega) (by decide) ?_
    refine ex_vret dX7_setRank_15 rfl ⟨rfl, ⟨hup_ne (pn0 2 (by decide)) hP.1, hup_ne (pn 1 2 (by decide)) hP.2.1, hup_aI, hup_ne (pn 3 2 (by decide)) hP.2.2.2.1, hup_ne (pn 4 2 (by decide)) hP.2.2.2.2.1, hup_ne (pn 5 2 (by decide)) hP.2.2.2.2.2.1, ⟨bT, bC, fun j => ⟨(bb j).1, vub_ hx (bb j).2.1, (bb j).2.2.1, (bb j).2.2.2.1, (bb j).2.2.2.2⟩⟩⟩, Fr.rf.up (pin 2 (by decide))⟩
set_option maxHeartbeats 4000000 in
set_option maxRecDepth 100000 in
theorem s_setAllowed {G : EG} {l : Launch} {h : EH} {a : Nat} {p : Pol} (hP : PL G h a p) {s t c : Nat} (hs : s < pT p) (ht : t < pT p) (hc : c < pC p) {x : Nat} (hx : x < 2 ^ 30) : ES G l 1 mX7_setAllowed [.ref a, .int (nI s), .int (nI t), .int (nI c), .int (nI x)] h 0 0 (fun v h' => v = none ∧ PL G h' a (pT p, pC p, pPm p, pRk p, va_up (pAl p) (cel s t c) x, pPr p, pMs p) ∧ Fr (atP a) h h') eNoX := by
  obtain ⟨bT, bC, bb⟩ := hP.2.2.2.2.2.2
  have hcel : (c * 8 + s) * 8 + t < 192 := by omega
  refine es_of (by decide) rfl (Nat.le_of_ble_eq_true rfl) ?_
  refine ex_aload_n rfl dX7_setAllowed_0 ?_
  refine ex_iload_n rfl dX7_setAllowed_1 ?_
  refine ex_iload_n rfl dX7_setAllowed_2 ?_
  refine ex_iload_n rfl dX7_setAllowed_3 ?_
  refine ex_invv (k := 0) (n := 0) (mc' := 0) (ms' := 0) (As := [_, _, _]) dX7_setAllowed_4 cv_X7_44 (by decide) (Nat.le_of_ble_eq_true rfl) (Or.inl ⟨_, _, _, _, hP.1, rfl⟩) (s_has hP (nI s) (nI t) (nI c) (B := true) ⟨fun _ => ⟨(inR_nI (by omega) (by omega)).mpr (by omega), (inR_nI (by omega) (by omega)).mpr (by omega), (inR_nI (by omega) (by omega)).mpr (by omega)⟩, fun _ => rfl⟩) (fun v h' q => ?_)
  obtain ⟨rfl, rfl⟩ := q
  refine ex_ifB_eq (tgt := 23) (by decide) dX7_setAllowed_7 (fun c1 => ?_) (fun c1 => ?_)
  · cases c1
  · refine ex_aload_n rfl dX7_setAllowed_10 ?_
    refine ex_get dX7_setAllowed_11 gf_X7_18 hP.1 rfl ?_
    refine ex_iload_n rfl dX7_setAllowed_14 ?_
    refine ex_iload_n rfl dX7_setAllowed_15 ?_
    refine ex_iload_n rfl dX7_setAllowed_16 ?_
    refine ex_invsN (k := 0) (n := 0) (mc' := 0) (ms' := 0) (As := [_, _, _]) dX7_setAllowed_17 cs_X7_48 (by decide) (Nat.le_of_ble_eq_true rfl) (s_cellOf _ s t c) (fun v h' q => ?_)
    obtain ⟨rfl, rfl⟩ := q
    refine ex_iload rfl dX7_setAllowed_20 ?_
    refine ex_iastN dX7_setAllowed_22 hP.2.2.2.1 (by omega) (by decide) ?_
    refine ex_vret dX7_setAllowed_23 rfl ⟨rfl, ⟨hup_ne (pn0 3 (by decide)) hP.1, hup_ne (pn 1 3 (by decide)) hP.2.1, hup_ne (pn 2 3 (by decide)) hP.2.2.1, hup_aI, hup_ne (pn 4 3 (by decide)) hP.2.2.2.2.1, hup_ne (pn 5 3 (by decide)) hP.2.2.2.2.2.1, ⟨bT, bC, fun j => ⟨(bb j).1, (bb j).2.1, vub_ hx (bb j).2.2.1, (bb j).2.2.2.1, (bb j).2.2.2.2⟩⟩⟩, Fr.rf.up (pin 3 (by decide))⟩
set_option maxHeartbeats 4000000 in
set_option maxRecDepth 100000 in
theorem s_setProduct {G : EG} {l : Launch} {h : EH} {a : Nat} {p : Pol} (hP : PL G h a p) {s t c : Nat} (hs : s < pT p) (ht : t < pT p) (hc : c < pC p) {x : Nat} (hx : x < 2 ^ 30) : ES G l 1 mX7_setProduct [.ref a, .int (nI s), .int (nI t), .int (nI c), .int (nI x)] h 0 0 (fun v h' => v = none ∧ PL G h' a (pT p, pC p, pPm p, pRk p, pAl p, va_up (pPr p) (cel s t c) x, pMs p) ∧ Fr (atP a) h h') eNoX := by
  obtain ⟨bT, bC, bb⟩ := hP.2.2.2.2.2.2
  have hcel : (c * 8 + s) * 8 + t < 192 := by omega
  refine es_of (by decide) rfl (Nat.le_of_ble_eq_true rfl) ?_
  refine ex_aload_n rfl dX7_setProduct_0 ?_
  refine ex_iload_n rfl dX7_setProduct_1 ?_
  refine ex_iload_n rfl dX7_setProduct_2 ?_
  refine ex_iload_n rfl dX7_setProduct_3 ?_
  refine ex_invv (k := 0) (n := 0) (mc' := 0) (ms' := 0) (As := [_, _, _]) dX7_setProduct_4 cv_X7_44 (by decide) (Nat.le_of_ble_eq_true rfl) (Or.inl ⟨_, _, _, _, hP.1, rfl⟩) (s_has hP (nI s) (nI t) (nI c) (B := true) ⟨fun _ => ⟨(inR_nI (by omega) (by omega)).mpr (by omega), (inR_nI (by omega) (by omega)).mpr (by omega), (inR_nI (by omega) (by omega)).mpr (by omega)⟩, fun _ => rfl⟩) (fun v h' q => ?_)
  obtain ⟨rfl, rfl⟩ := q
  refine ex_ifB_eq (tgt := 23) (by decide) dX7_setProduct_7 (fun c1 => ?_) (fun c1 => ?_)
  · cases c1
  · refine ex_aload_n rfl dX7_setProduct_10 ?_
    refine ex_get dX7_setProduct_11 gf_X7_21 hP.1 rfl ?_
    refine ex_iload_n rfl dX7_setProduct_14 ?_
    refine ex_iload_n rfl dX7_setProduct_15 ?_
    refine ex_iload_n rfl dX7_setProduct_16 ?_
    refine ex_invsN (k := 0) (n := 0) (mc' := 0) (ms' := 0) (As := [_, _, _]) dX7_setProduct_17 cs_X7_48 (by decide) (Nat.le_of_ble_eq_true rfl) (s_cellOf _ s t c) (fun v h' q => ?_)
    obtain ⟨rfl, rfl⟩ := q
    refine ex_iload rfl dX7_setProduct_20 ?_
    refine ex_iastN dX7_setProduct_22 hP.2.2.2.2.1 (by omega) (by decide) ?_
    refine ex_vret dX7_setProduct_23 rfl ⟨rfl, ⟨hup_ne (pn0 4 (by decide)) hP.1, hup_ne (pn 1 4 (by decide)) hP.2.1, hup_ne (pn 2 4 (by decide)) hP.2.2.1, hup_ne (pn 3 4 (by decide)) hP.2.2.2.1, hup_aI, hup_ne (pn 5 4 (by decide)) hP.2.2.2.2.2.1, ⟨bT, bC, fun j => ⟨(bb j).1, (bb j).2.1, (bb j).2.2.1, vub_ hx (bb j).2.2.2.1, (bb j).2.2.2.2⟩⟩⟩, Fr.rf.up (pin 4 (by decide))⟩
set_option maxHeartbeats 4000000 in
set_option maxRecDepth 100000 in
theorem s_addToMask {G : EG} {l : Launch} {h : EH} {a : Nat} {p : Pol} (hP : PL G h a p) {c w x : Nat} (hc : c < pC p) (hw : w < 5) (hx : x < 2 ^ 30) : ES G l 1 mX7_addToMask [.ref a, .int (nI c), .int (nI w), .int (nI x)] h 0 0 (fun v h' => v = none ∧ PL G h' a (pT p, pC p, pPm p, pRk p, pAl p, pPr p, va_up (pMs p) (c * 5 + w) (pMs p (c * 5 + w) ||| x)) ∧ Fr (atP a) h h') eNoX := by
  obtain ⟨bT, bC, bb⟩ := hP.2.2.2.2.2.2
  refine es_of (by decide) rfl (Nat.le_of_ble_eq_true rfl) ?_
  refine ex_aload_n rfl dX7_addToMask_0 ?_
  refine ex_iload_n rfl dX7_addToMask_1 ?_
  refine ex_iload_n rfl dX7_addToMask_2 ?_
  refine ex_invv (k := 0) (n := 0) (mc' := 0) (ms' := 0) (As := [_, _]) dX7_addToMask_3 cv_X7_59 (by decide) (Nat.le_of_ble_eq_true rfl) (Or.inl ⟨_, _, _, _, hP.1, rfl⟩) (s_hasMask hP (c := c) (w := w) (by omega) (by omega)) (fun v h' q => ?_)
  obtain ⟨rfl, rfl⟩ := q
  refine ex_ifB_eq (tgt := 23) (by decide) dX7_addToMask_6 (fun c1 => ?_) (fun c1 => ?_)
  · exact absurd (of_decide_eq_false c1) (by omega)
  · refine ex_aload_n rfl dX7_addToMask_9 ?_
    refine ex_get dX7_addToMask_10 gf_X7_24 hP.1 rfl ?_
    refine ex_iload_n rfl dX7_addToMask_13 ?_
    refine ex_iconst (v := (nI 5)) (by decide) dX7_addToMask_14 ?_
    refine ex_imulN dX7_addToMask_15 ?_
    refine ex_iload_n rfl dX7_addToMask_16 ?_
    refine ex_iaddN dX7_addToMask_17 ?_
    refine ex_dup2 rfl rfl dX7_addToMask_18 ?_
    refine ex_ialdN dX7_addToMask_19 hP.2.2.2.2.2.1 (by omega) (by decide) ?_
    refine ex_iload_n rfl dX7_addToMask_20 ?_
    refine ex_ior dX7_addToMask_21 ?_
    rw [nx_or]
    refine ex_iastN dX7_addToMask_22 hP.2.2.2.2.2.1 (by omega) (by decide) ?_
    refine ex_vret dX7_addToMask_23 rfl ⟨rfl, ⟨hup_ne (pn0 5 (by decide)) hP.1, hup_ne (pn 1 5 (by decide)) hP.2.1, hup_ne (pn 2 5 (by decide)) hP.2.2.1, hup_ne (pn 3 5 (by decide)) hP.2.2.2.1, hup_ne (pn 4 5 (by decide)) hP.2.2.2.2.1, hup_aI, ⟨bT, bC, fun j => ⟨(bb j).1, (bb j).2.1, (bb j).2.2.1, (bb j).2.2.2.1, vub_ (or_lt (bb _).2.2.2.2 hx) (bb j).2.2.2.2⟩⟩⟩, Fr.rf.up (pin 5 (by decide))⟩
set_option maxHeartbeats 4000000 in
set_option maxRecDepth 100000 in
theorem s_declareType {G : EG} {l : Launch} {h : EH} {a : Nat} {p : Pol} (hP : PL G h a p) (hr : pT p < 8) : ES G l 0 mX7_declareType [.ref a] h 0 0 (fun v h' => v = none ∧ PL G h' a (pT p + 1, pC p, pPm p, pRk p, pAl p, pPr p, pMs p) ∧ Fr (atP a) h h') eNoX := by
  obtain ⟨bT, bC, bb⟩ := hP.2.2.2.2.2.2
  refine es_of (by decide) rfl (Nat.le_of_ble_eq_true rfl) ?_
  refine ex_aload_n rfl dX7_declareType_0 ?_
  refine ex_get dX7_declareType_1 gf_X7_27 hP.1 rfl ?_
  refine ex_bipush (v := (nI 8)) (by decide) dX7_declareType_4 ?_
  refine ex_icmpN_ge (tgt := 19) (by decide) dX7_declareType_6 (by omega) (by omega) (fun c1 => ?_) (fun c1 => ?_)
  · omega
  · refine ex_aload_n rfl dX7_declareType_9 ?_
    refine ex_dup rfl dX7_declareType_10 ?_
    refine ex_get dX7_declareType_11 gf_X7_27 hP.1 rfl ?_
    refine ex_iconst (v := (nI 1)) (by decide) dX7_declareType_14 ?_
    refine ex_iaddN dX7_declareType_15 ?_
    refine ex_put dX7_declareType_16 pf_X7_27 hP.1 (Nat.le_of_ble_eq_true rfl) rfl rfl ?_
    refine ex_vret dX7_declareType_19 rfl ⟨rfl, ⟨hup_eq, hup_ne (pn1 1 (by decide)) hP.2.1, hup_ne (pn1 2 (by decide)) hP.2.2.1, hup_ne (pn1 3 (by decide)) hP.2.2.2.1, hup_ne (pn1 4 (by decide)) hP.2.2.2.2.1, hup_ne (pn1 5 (by decide)) hP.2.2.2.2.2.1, ⟨hr, bC, bb⟩⟩, Fr.rf.up pin0⟩
set_option maxHeartbeats 4000000 in
set_option maxRecDepth 100000 in
theorem s_declareClass {G : EG} {l : Launch} {h : EH} {a : Nat} {p : Pol} (hP : PL G h a p) {x : Nat} (hx : x < 2 ^ 30) (hr : pC p < 3) : ES G l 0 mX7_declareClass [.ref a, .int (nI x)] h 0 0 (fun v h' => v = none ∧ PL G h' a (pT p, pC p + 1, va_up (pPm p) (pC p) x, pRk p, pAl p, pPr p, pMs p) ∧ Fr (atP a) h h') eNoX := by
  obtain ⟨bT, bC, bb⟩ := hP.2.2.2.2.2.2
  refine es_of (by decide) rfl (Nat.le_of_ble_eq_true rfl) ?_
  refine ex_aload_n rfl dX7_declareClass_0 ?_
  refine ex_get dX7_declareClass_1 gf_X7_31 hP.1 rfl ?_
  refine ex_iconst (v := (nI 3)) (by decide) dX7_declareClass_4 ?_
  refine ex_icmpN_ge (tgt := 28) (by decide) dX7_declareClass_5 (by omega) (by omega) (fun c1 => ?_) (fun c1 => ?_)
  · omega
  · refine ex_aload_n rfl dX7_declareClass_8 ?_
    refine ex_get dX7_declareClass_9 gf_X7_9 hP.1 rfl ?_
    refine ex_aload_n rfl dX7_declareClass_12 ?_
    refine ex_get dX7_declareClass_13 gf_X7_31 hP.1 rfl ?_
    refine ex_iload_n rfl dX7_declareClass_16 ?_
    refine ex_iastN dX7_declareClass_17 hP.2.1 (by omega) (by decide) ?_
    refine ex_aload_n rfl dX7_declareClass_18 ?_
    refine ex_dup rfl dX7_declareClass_19 ?_
    refine ex_get dX7_declareClass_20 gf_X7_31 (hup_ne (pn0 1 (by decide)) hP.1) rfl ?_
    refine ex_iconst (v := (nI 1)) (by decide) dX7_declareClass_23 ?_
    refine ex_iaddN dX7_declareClass_24 ?_
    refine ex_put dX7_declareClass_25 pf_X7_31 (hup_ne (pn0 1 (by decide)) hP.1) (Nat.le_of_ble_eq_true rfl) rfl rfl ?_
    refine ex_vret dX7_declareClass_28 rfl ⟨rfl, ⟨hup_eq, hup_ne (pn1 1 (by decide)) hup_aI, hup_ne (pn1 2 (by decide)) (hup_ne (pn 2 1 (by decide)) hP.2.2.1), hup_ne (pn1 3 (by decide)) (hup_ne (pn 3 1 (by decide)) hP.2.2.2.1), hup_ne (pn1 4 (by decide)) (hup_ne (pn 4 1 (by decide)) hP.2.2.2.2.1), hup_ne (pn1 5 (by decide)) (hup_ne (pn 5 1 (by decide)) hP.2.2.2.2.2.1), ⟨bT, hr, fun j => ⟨vub_ hx (bb j).1, (bb j).2.1, (bb j).2.2.1, (bb j).2.2.2.1, (bb j).2.2.2.2⟩⟩⟩, (Fr.rf.up (pin 1 (by decide))).up pin0⟩
theorem clb {N : Nat} {f : Nat → Nat} {j : Nat} (h : f j < 2 ^ 30) : clr N f j < 2 ^ 30 := by unfold clr; split; omega; exact h
def pClr (p : Pol) : Pol := (0, 0, clr 3 (pPm p), clr 8 (pRk p), clr 192 (pAl p), clr 192 (pPr p), clr 15 (pMs p))
set_option maxHeartbeats 4000000 in
set_option maxRecDepth 100000 in
theorem s_pclear {G : EG} {l : Launch} {h : EH} {a : Nat} {p : Pol} (hP : PL G h a p) : ES G l 1 mX7_clear [.ref a] h 0 0 (fun v h' => v = none ∧ PL G h' a (pClr p) ∧ Fr (atP a) h h') eNoX := by
  obtain ⟨bT, bC, bb⟩ := hP.2.2.2.2.2.2
  refine es_of (by decide) rfl (Nat.le_of_ble_eq_true rfl) ?_
  refine ex_aload_n rfl dX7_clear_0 ?_
  refine ex_iconst (v := (nI 0)) (by decide) dX7_clear_1 ?_
  refine ex_put dX7_clear_2 pf_X7_27 hP.1 (Nat.le_of_ble_eq_true rfl) rfl rfl ?_
  refine ex_aload_n rfl dX7_clear_5 ?_
  refine ex_iconst (v := (nI 0)) (by decide) dX7_clear_6 ?_
  refine ex_put dX7_clear_7 pf_X7_31 hup_eq (Nat.le_of_ble_eq_true rfl) rfl rfl ?_
  refine ex_aload_n rfl dX7_clear_10 ?_
  refine ex_get dX7_clear_11 gf_X7_9 hup_eq rfl ?_
  refine ex_iconst (v := (nI 0)) (by decide) dX7_clear_14 ?_
  refine ex_invs (k := 0) (n := 0) (mc' := 0) (ms' := 0) (As := [_, _]) dX7_clear_15 cs_X7_34 (by decide) (Nat.le_of_ble_eq_true rfl) (s_fill (g := pPm p) (by decide) (hup_ne (pn1 1 (by decide)) (hup_ne (pn1 1 (by decide)) hP.2.1))) (fun v h' q => ?_)
  obtain ⟨rfl, hA1, hF1⟩ := q
  refine ex_aload_n rfl dX7_clear_18 ?_
  refine ex_get dX7_clear_19 gf_X7_15 (hF1.get (pn0 1 (by decide)) hup_eq) rfl ?_
  refine ex_iconst (v := (nI 0)) (by decide) dX7_clear_22 ?_
  refine ex_invs (k := 0) (n := 0) (mc' := 0) (ms' := 0) (As := [_, _]) dX7_clear_23 cs_X7_34 (by decide) (Nat.le_of_ble_eq_true rfl) (s_fill (g := pRk p) (by decide) (hF1.get (pn 2 1 (by decide)) (hup_ne (pn1 2 (by decide)) (hup_ne (pn1 2 (by decide)) hP.2.2.1)))) (fun v h' q => ?_)
  obtain ⟨rfl, hA2, hF2⟩ := q
  refine ex_aload_n rfl dX7_clear_26 ?_
  refine ex_get dX7_clear_27 gf_X7_18 (hF2.get (pn0 2 (by decide)) (hF1.get (pn0 1 (by decide)) hup_eq)) rfl ?_
  refine ex_iconst (v := (nI 0)) (by decide) dX7_clear_30 ?_
  refine ex_invs (k := 0) (n := 0) (mc' := 0) (ms' := 0) (As := [_, _]) dX7_clear_31 cs_X7_34 (by decide) (Nat.le_of_ble_eq_true rfl) (s_fill (g := pAl p) (by decide) (hF2.get (pn 3 2 (by decide)) (hF1.get (pn 3 1 (by decide)) (hup_ne (pn1 3 (by decide)) (hup_ne (pn1 3 (by decide)) hP.2.2.2.1))))) (fun v h' q => ?_)
  obtain ⟨rfl, hA3, hF3⟩ := q
  refine ex_aload_n rfl dX7_clear_34 ?_
  refine ex_get dX7_clear_35 gf_X7_21 (hF3.get (pn0 3 (by decide)) (hF2.get (pn0 2 (by decide)) (hF1.get (pn0 1 (by decide)) hup_eq))) rfl ?_
  refine ex_iconst (v := (nI 0)) (by decide) dX7_clear_38 ?_
  refine ex_invs (k := 0) (n := 0) (mc' := 0) (ms' := 0) (As := [_, _]) dX7_clear_39 cs_X7_34 (by decide) (Nat.le_of_ble_eq_true rfl) (s_fill (g := pPr p) (by decide) (hF3.get (pn 4 3 (by decide)) (hF2.get (pn 4 2 (by decide)) (hF1.get (pn 4 1 (by decide)) (hup_ne (pn1 4 (by decide)) (hup_ne (pn1 4 (by decide)) hP.2.2.2.2.1)))))) (fun v h' q => ?_)
  obtain ⟨rfl, hA4, hF4⟩ := q
  refine ex_aload_n rfl dX7_clear_42 ?_
  refine ex_get dX7_clear_43 gf_X7_24 (hF4.get (pn0 4 (by decide)) (hF3.get (pn0 3 (by decide)) (hF2.get (pn0 2 (by decide)) (hF1.get (pn0 1 (by decide)) hup_eq)))) rfl ?_
  refine ex_iconst (v := (nI 0)) (by decide) dX7_clear_46 ?_
  refine ex_invs (k := 0) (n := 0) (mc' := 0) (ms' := 0) (As := [_, _]) dX7_clear_47 cs_X7_34 (by decide) (Nat.le_of_ble_eq_true rfl) (s_fill (g := pMs p) (by decide) (hF4.get (pn 5 4 (by decide)) (hF3.get (pn 5 3 (by decide)) (hF2.get (pn 5 2 (by decide)) (hF1.get (pn 5 1 (by decide)) (hup_ne (pn1 5 (by decide)) (hup_ne (pn1 5 (by decide)) hP.2.2.2.2.2.1))))))) (fun v h' q => ?_)
  obtain ⟨rfl, hA5, hF5⟩ := q
  refine ex_vret dX7_clear_50 rfl ⟨rfl, ⟨(hF5.get (pn0 5 (by decide)) (hF4.get (pn0 4 (by decide)) (hF3.get (pn0 3 (by decide)) (hF2.get (pn0 2 (by decide)) (hF1.get (pn0 1 (by decide)) hup_eq))))), (hF5.get (pn 1 5 (by decide)) (hF4.get (pn 1 4 (by decide)) (hF3.get (pn 1 3 (by decide)) (hF2.get (pn 1 2 (by decide)) hA1)))), (hF5.get (pn 2 5 (by decide)) (hF4.get (pn 2 4 (by decide)) (hF3.get (pn 2 3 (by decide)) hA2))), (hF5.get (pn 3 5 (by decide)) (hF4.get (pn 3 4 (by decide)) hA3)), (hF5.get (pn 4 5 (by decide)) hA4), hA5, ⟨Nat.zero_le _, Nat.zero_le _, fun j => ⟨clb (bb j).1, clb (bb j).2.1, clb (bb j).2.2.1, clb (bb j).2.2.2.1, clb (bb j).2.2.2.2⟩⟩⟩, (((((((Fr.rf.up pin0).up pin0).tr (hF1.wk (fun q h => h ▸ pin 1 (by decide)))).tr (hF2.wk (fun q h => h ▸ pin 2 (by decide)))).tr (hF3.wk (fun q h => h ▸ pin 3 (by decide)))).tr (hF4.wk (fun q h => h ▸ pin 4 (by decide)))).tr (hF5.wk (fun q h => h ▸ pin 5 (by decide))))⟩
/-- what some need forbids -/
def forb (p : Pol) (s t c : Nat) : Nat :=
  let f1 := if pRk p s < pRk p t then 0 ||| pMs p (c * 5 + 0) else 0
  let f2 := if pRk p s ≠ pRk p t then f1 ||| pMs p (c * 5 + 1) else f1
  if pRk p t < pRk p s then f2 ||| pMs p (c * 5 + 2) else f2
/-- what s may do to t of class c -/
def perm (p : Pol) (s t c : Nat) : Nat := andn (pAl p (cel s t c)) (forb p s t c)
theorem perm_lt {p : Pol} (hb : pB p) (s t c : Nat) : perm p s t c < 2 ^ 30 := andn_lt (hb.2.2 _).2.2.1
set_option maxHeartbeats 4000000 in
set_option maxRecDepth 100000 in
theorem l_perm3 {G : EG} {l : Launch} {h : EH} {a : Nat} {p : Pol} (hP : PL G h a p) {s t c : Nat} (hs : s < pT p) (ht : t < pT p) (hc : c < pC p) (x : Nat) (hx : forb p s t c = x) : Ex G l 2 mX7_permitted (fun v h' => v = some (.int (nI (perm p s t c))) ∧ h' = h) eNoX 0 0 75 [(0, .ref a), (1, .int (nI s)), (2, .int (nI t)), (3, .int (nI c)), (4, .int (nI x))] [] h := by
  obtain ⟨bT, bC, bb⟩ := hP.2.2.2.2.2.2
  have hrs := (bb s).2.1
  have hrt := (bb t).2.1
  refine ex_aload_n rfl dX7_permitted_75 ?_
  refine ex_iload_n rfl dX7_permitted_76 ?_
  refine ex_iload_n rfl dX7_permitted_77 ?_
  refine ex_iload_n rfl dX7_permitted_78 ?_
  refine ex_invv (k := 0) (n := 0) (mc' := 0) (ms' := 0) (As := [_, _, _]) dX7_permitted_79 cv_X7_56 (by decide) (Nat.le_of_ble_eq_true rfl) (Or.inl ⟨_, _, _, _, hP.1, rfl⟩) (s_allowedAt hP (s := s) (t := t) (c := c) hs ht hc) (fun v h' q => ?_)
  obtain ⟨rfl, rfl⟩ := q
  refine ex_iload rfl dX7_permitted_82 ?_
  refine ex_iconst (v := (-1)) (by decide) dX7_permitted_84 ?_
  refine ex_ixor dX7_permitted_85 ?_
  refine ex_iand dX7_permitted_86 ?_
  rw [nx_andn]
  refine ex_iret dX7_permitted_87 rfl ⟨by rw [perm, hx], rfl⟩
set_option maxHeartbeats 4000000 in
set_option maxRecDepth 100000 in
theorem l_perm2 {G : EG} {l : Launch} {h : EH} {a : Nat} {p : Pol} (hP : PL G h a p) {s t c : Nat} (hs : s < pT p) (ht : t < pT p) (hc : c < pC p) (x : Nat) (hx : forb p s t c = if pRk p t < pRk p s then x ||| pMs p (c * 5 + 2) else x) : Ex G l 2 mX7_permitted (fun v h' => v = some (.int (nI (perm p s t c))) ∧ h' = h) eNoX 0 0 51 [(0, .ref a), (1, .int (nI s)), (2, .int (nI t)), (3, .int (nI c)), (4, .int (nI x))] [] h := by
  obtain ⟨bT, bC, bb⟩ := hP.2.2.2.2.2.2
  have hrs := (bb s).2.1
  have hrt := (bb t).2.1
  refine ex_aload_n rfl dX7_permitted_51 ?_
  refine ex_iload_n rfl dX7_permitted_52 ?_
  refine ex_invv (k := 0) (n := 0) (mc' := 0) (ms' := 0) (As := [_]) dX7_permitted_53 cv_X7_62 (by decide) (Nat.le_of_ble_eq_true rfl) (Or.inl ⟨_, _, _, _, hP.1, rfl⟩) (s_rankOf hP (t := s) (by omega)) (fun v h' q => ?_)
  obtain ⟨rfl, rfl⟩ := q
  refine ex_aload_n rfl dX7_permitted_56 ?_
  refine ex_iload_n rfl dX7_permitted_57 ?_
  refine ex_invv (k := 0) (n := 0) (mc' := 0) (ms' := 0) (As := [_]) dX7_permitted_58 cv_X7_62 (by decide) (Nat.le_of_ble_eq_true rfl) (Or.inl ⟨_, _, _, _, hP.1, rfl⟩) (s_rankOf hP (t := t) (by omega)) (fun v h' q => ?_)
  obtain ⟨rfl, rfl⟩ := q
  refine ex_icmpN_le (tgt := 75) (by decide) dX7_permitted_61 (by omega) (by omega) (fun c1 => ?_) (fun c1 => ?_)
  · exact l_perm3 hP hs ht hc _ (hx.trans (if_neg (by omega)))
  · refine ex_iload rfl dX7_permitted_64 ?_
    refine ex_aload_n rfl dX7_permitted_66 ?_
    refine ex_iload_n rfl dX7_permitted_67 ?_
    refine ex_iconst (v := (nI 2)) (by decide) dX7_permitted_68 ?_
    refine ex_invv (k := 0) (n := 0) (mc' := 0) (ms' := 0) (As := [_, _]) dX7_permitted_69 cv_X7_66 (by decide) (Nat.le_of_ble_eq_true rfl) (Or.inl ⟨_, _, _, _, hP.1, rfl⟩) (s_maskAt hP (c := c) (w := 2) hc (by decide)) (fun v h' q => ?_)
    obtain ⟨rfl, rfl⟩ := q
    refine ex_ior dX7_permitted_72 ?_
    rw [nx_or]
    refine ex_istore (by decide) rfl dX7_permitted_73 ?_
    exact l_perm3 hP hs ht hc _ (hx.trans (if_pos (by omega)))
set_option maxHeartbeats 4000000 in
set_option maxRecDepth 100000 in
theorem l_perm1 {G : EG} {l : Launch} {h : EH} {a : Nat} {p : Pol} (hP : PL G h a p) {s t c : Nat} (hs : s < pT p) (ht : t < pT p) (hc : c < pC p) (x : Nat) (hx : forb p s t c = if pRk p t < pRk p s then (if pRk p s ≠ pRk p t then x ||| pMs p (c * 5 + 1) else x) ||| pMs p (c * 5 + 2) else (if pRk p s ≠ pRk p t then x ||| pMs p (c * 5 + 1) else x)) : Ex G l 2 mX7_permitted (fun v h' => v = some (.int (nI (perm p s t c))) ∧ h' = h) eNoX 0 0 27 [(0, .ref a), (1, .int (nI s)), (2, .int (nI t)), (3, .int (nI c)), (4, .int (nI x))] [] h := by
  obtain ⟨bT, bC, bb⟩ := hP.2.2.2.2.2.2
  have hrs := (bb s).2.1
  have hrt := (bb t).2.1
  refine ex_aload_n rfl dX7_permitted_27 ?_
  refine ex_iload_n rfl dX7_permitted_28 ?_
  refine ex_invv (k := 0) (n := 0) (mc' := 0) (ms' := 0) (As := [_]) dX7_permitted_29 cv_X7_62 (by decide) (Nat.le_of_ble_eq_true rfl) (Or.inl ⟨_, _, _, _, hP.1, rfl⟩) (s_rankOf hP (t := s) (by omega)) (fun v h' q => ?_)
  obtain ⟨rfl, rfl⟩ := q
  refine ex_aload_n rfl dX7_permitted_32 ?_
  refine ex_iload_n rfl dX7_permitted_33 ?_
  refine ex_invv (k := 0) (n := 0) (mc' := 0) (ms' := 0) (As := [_]) dX7_permitted_34 cv_X7_62 (by decide) (Nat.le_of_ble_eq_true rfl) (Or.inl ⟨_, _, _, _, hP.1, rfl⟩) (s_rankOf hP (t := t) (by omega)) (fun v h' q => ?_)
  obtain ⟨rfl, rfl⟩ := q
  refine ex_icmpN_eq (tgt := 51) (by decide) dX7_permitted_37 (by omega) (by omega) (fun c1 => ?_) (fun c1 => ?_)
  · exact l_perm2 hP hs ht hc _ (by rw [if_neg (show ¬ pRk p s ≠ pRk p t by omega)] at hx; exact hx)
  · refine ex_iload rfl dX7_permitted_40 ?_
    refine ex_aload_n rfl dX7_permitted_42 ?_
    refine ex_iload_n rfl dX7_permitted_43 ?_
    refine ex_iconst (v := (nI 1)) (by decide) dX7_permitted_44 ?_
    refine ex_invv (k := 0) (n := 0) (mc' := 0) (ms' := 0) (As := [_, _]) dX7_permitted_45 cv_X7_66 (by decide) (Nat.le_of_ble_eq_true rfl) (Or.inl ⟨_, _, _, _, hP.1, rfl⟩) (s_maskAt hP (c := c) (w := 1) hc (by decide)) (fun v h' q => ?_)
    obtain ⟨rfl, rfl⟩ := q
    refine ex_ior dX7_permitted_48 ?_
    rw [nx_or]
    refine ex_istore (by decide) rfl dX7_permitted_49 ?_
    exact l_perm2 hP hs ht hc _ (by rw [if_pos (show pRk p s ≠ pRk p t by omega)] at hx; exact hx)
set_option maxHeartbeats 4000000 in
set_option maxRecDepth 100000 in
theorem s_permitted {G : EG} {l : Launch} {h : EH} {a : Nat} {p : Pol} (hP : PL G h a p) {s t c : Nat} (hs : s < pT p) (ht : t < pT p) (hc : c < pC p) : ES G l 2 mX7_permitted [.ref a, .int (nI s), .int (nI t), .int (nI c)] h 0 0 (fun v h' => v = some (.int (nI (perm p s t c))) ∧ h' = h) eNoX := by
  obtain ⟨bT, bC, bb⟩ := hP.2.2.2.2.2.2
  have hrs := (bb s).2.1
  have hrt := (bb t).2.1
  refine es_of (by decide) rfl (Nat.le_of_ble_eq_true rfl) ?_
  refine ex_iconst (v := (nI 0)) (by decide) dX7_permitted_0 ?_
  refine ex_istore (by decide) rfl dX7_permitted_1 ?_
  refine ex_aload_n rfl dX7_permitted_3 ?_
  refine ex_iload_n rfl dX7_permitted_4 ?_
  refine ex_invv (k := 0) (n := 0) (mc' := 0) (ms' := 0) (As := [_]) dX7_permitted_5 cv_X7_62 (by decide) (Nat.le_of_ble_eq_true rfl) (Or.inl ⟨_, _, _, _, hP.1, rfl⟩) (s_rankOf hP (t := s) (by omega)) (fun v h' q => ?_)
  obtain ⟨rfl, rfl⟩ := q
  refine ex_aload_n rfl dX7_permitted_8 ?_
  refine ex_iload_n rfl dX7_permitted_9 ?_
  refine ex_invv (k := 0) (n := 0) (mc' := 0) (ms' := 0) (As := [_]) dX7_permitted_10 cv_X7_62 (by decide) (Nat.le_of_ble_eq_true rfl) (Or.inl ⟨_, _, _, _, hP.1, rfl⟩) (s_rankOf hP (t := t) (by omega)) (fun v h' q => ?_)
  obtain ⟨rfl, rfl⟩ := q
  refine ex_icmpN_ge (tgt := 27) (by decide) dX7_permitted_13 (by omega) (by omega) (fun c1 => ?_) (fun c1 => ?_)
  · exact l_perm1 hP hs ht hc 0 (by unfold forb; rw [if_neg (show ¬ pRk p s < pRk p t by omega)])
  · refine ex_iload rfl dX7_permitted_16 ?_
    refine ex_aload_n rfl dX7_permitted_18 ?_
    refine ex_iload_n rfl dX7_permitted_19 ?_
    refine ex_iconst (v := (nI 0)) (by decide) dX7_permitted_20 ?_
    refine ex_invv (k := 0) (n := 0) (mc' := 0) (ms' := 0) (As := [_, _]) dX7_permitted_21 cv_X7_66 (by decide) (Nat.le_of_ble_eq_true rfl) (Or.inl ⟨_, _, _, _, hP.1, rfl⟩) (s_maskAt hP (c := c) (w := 0) hc (by decide)) (fun v h' q => ?_)
    obtain ⟨rfl, rfl⟩ := q
    refine ex_ior dX7_permitted_24 ?_
    rw [nx_or]
    refine ex_istore (by decide) rfl dX7_permitted_25 ?_
    exact l_perm1 hP hs ht hc _ (by unfold forb; rw [if_pos (show pRk p s < pRk p t by omega)])
/-- in one step from f to t -/
def flw (p : Pol) (f t : Nat) : Prop := ∃ c, c < pC p ∧ (perm p t f c &&& pMs p (c * 5 + 3) ≠ 0 ∨ perm p f t c &&& pMs p (c * 5 + 4) ≠ 0)
set_option maxHeartbeats 4000000 in
set_option maxRecDepth 100000 in
theorem l_flows {G : EG} {l : Launch} {h : EH} {a : Nat} {p : Pol} (hP : PL G h a p) {u w : Nat} (hu : u < pT p) (hw : w < pT p) {B : Bool} (hB : B = true ↔ flw p u w) : ∀ (f k : Nat), pC p - k < f → k ≤ pC p → (∀ c, c < k → perm p w u c &&& pMs p (c * 5 + 3) = 0 ∧ perm p u w c &&& pMs p (c * 5 + 4) = 0) → Ex G l 3 mX7_flowsInOneStep (fun v h' => v = some (.int (b2i B)) ∧ h' = h) eNoX 0 0 2 [(0, .ref a), (1, .int (nI u)), (2, .int (nI w)), (3, .int (nI k))] [] h := by
  intro f
  induction f with
  | zero =>
    intro k h1 h2 he
    omega
  | succ f ih =>
    intro k h1 h2 he
    obtain ⟨bT, bC, bb⟩ := hP.2.2.2.2.2.2
    have hb1 : ∀ x y z, perm p x y z &&& pMs p (k * 5 + 3) < 2 ^ 31 := fun x y z => Nat.lt_trans (and_lt (perm_lt hP.2.2.2.2.2.2 x y z)) (by decide)
    have hb2 : ∀ x y z, perm p x y z &&& pMs p (k * 5 + 4) < 2 ^ 31 := fun x y z => Nat.lt_trans (and_lt (perm_lt hP.2.2.2.2.2.2 x y z)) (by decide)
    refine ex_iload_n rfl dX7_flowsInOneStep_2 ?_
    refine ex_aload_n rfl dX7_flowsInOneStep_3 ?_
    refine ex_get dX7_flowsInOneStep_4 gf_X7_31 hP.1 rfl ?_
    refine ex_icmpN_ge (tgt := 52) (by decide) dX7_flowsInOneStep_7 (by omega) (by omega) (fun c1 => ?_) (fun c1 => ?_)
    · refine ex_iconst (v := (nI 0)) (by decide) dX7_flowsInOneStep_52 ?_
      refine ex_zret dX7_flowsInOneStep_53 rfl rfl ⟨by cases B with | false => rfl | true => (obtain ⟨c, d1, d2⟩ := hB.mp rfl; have d3 := he c (by omega); rcases d2 with d2 | d2; exact absurd d3.1 d2; exact absurd d3.2 d2), rfl⟩
    · refine ex_aload_n rfl dX7_flowsInOneStep_10 ?_
      refine ex_iload_n rfl dX7_flowsInOneStep_11 ?_
      refine ex_iload_n rfl dX7_flowsInOneStep_12 ?_
      refine ex_iload_n rfl dX7_flowsInOneStep_13 ?_
      refine ex_invv (k := 0) (n := 0) (mc' := 0) (ms' := 0) (As := [_, _, _]) dX7_flowsInOneStep_14 cv_X7_76 (by decide) (Nat.le_of_ble_eq_true rfl) (Or.inl ⟨_, _, _, _, hP.1, rfl⟩) (s_permitted hP (s := w) (t := u) (c := k) (by omega) (by omega) (by omega)) (fun v h' q => ?_)
      obtain ⟨rfl, rfl⟩ := q
      refine ex_aload_n rfl dX7_flowsInOneStep_17 ?_
      refine ex_iload_n rfl dX7_flowsInOneStep_18 ?_
      refine ex_iconst (v := (nI 3)) (by decide) dX7_flowsInOneStep_19 ?_
      refine ex_invv (k := 0) (n := 0) (mc' := 0) (ms' := 0) (As := [_, _]) dX7_flowsInOneStep_20 cv_X7_66 (by decide) (Nat.le_of_ble_eq_true rfl) (Or.inl ⟨_, _, _, _, hP.1, rfl⟩) (s_maskAt hP (c := k) (w := 3) (by omega) (by decide)) (fun v h' q => ?_)
      obtain ⟨rfl, rfl⟩ := q
      refine ex_iand dX7_flowsInOneStep_23 ?_
      rw [nx_and]
      refine ex_ifN_ne (tgt := 44) (by decide) dX7_flowsInOneStep_24 (hb1 _ _ _) (fun c2 => ?_) (fun c2 => ?_)
      · refine ex_iconst (v := (nI 1)) (by decide) dX7_flowsInOneStep_44 ?_
        refine ex_zret dX7_flowsInOneStep_45 rfl rfl ⟨by rw [hB.mpr ⟨k, by omega, by first | exact Or.inl c2 | exact Or.inr c3⟩]; rfl, rfl⟩
      · refine ex_aload_n rfl dX7_flowsInOneStep_27 ?_
        refine ex_iload_n rfl dX7_flowsInOneStep_28 ?_
        refine ex_iload_n rfl dX7_flowsInOneStep_29 ?_
        refine ex_iload_n rfl dX7_flowsInOneStep_30 ?_
        refine ex_invv (k := 0) (n := 0) (mc' := 0) (ms' := 0) (As := [_, _, _]) dX7_flowsInOneStep_31 cv_X7_76 (by decide) (Nat.le_of_ble_eq_true rfl) (Or.inl ⟨_, _, _, _, hP.1, rfl⟩) (s_permitted hP (s := u) (t := w) (c := k) (by omega) (by omega) (by omega)) (fun v h' q => ?_)
        obtain ⟨rfl, rfl⟩ := q
        refine ex_aload_n rfl dX7_flowsInOneStep_34 ?_
        refine ex_iload_n rfl dX7_flowsInOneStep_35 ?_
        refine ex_iconst (v := (nI 4)) (by decide) dX7_flowsInOneStep_36 ?_
        refine ex_invv (k := 0) (n := 0) (mc' := 0) (ms' := 0) (As := [_, _]) dX7_flowsInOneStep_37 cv_X7_66 (by decide) (Nat.le_of_ble_eq_true rfl) (Or.inl ⟨_, _, _, _, hP.1, rfl⟩) (s_maskAt hP (c := k) (w := 4) (by omega) (by decide)) (fun v h' q => ?_)
        obtain ⟨rfl, rfl⟩ := q
        refine ex_iand dX7_flowsInOneStep_40 ?_
        rw [nx_and]
        refine ex_ifN_eq (tgt := 46) (by decide) dX7_flowsInOneStep_41 (hb2 _ _ _) (fun c3 => ?_) (fun c3 => ?_)
        · refine ex_iincN (z := 1) rfl (by decide) rfl dX7_flowsInOneStep_46 ?_
          refine ex_goto (tgt := 2) (by decide) dX7_flowsInOneStep_49 ?_
          exact ih (k + 1) (by omega) (by omega) (fun c hc => by rcases Nat.lt_or_ge c k with q | q; exact he c q; rw [show c = k by omega]; exact ⟨c2, c3⟩)
        · refine ex_iconst (v := (nI 1)) (by decide) dX7_flowsInOneStep_44 ?_
          refine ex_zret dX7_flowsInOneStep_45 rfl rfl ⟨by rw [hB.mpr ⟨k, by omega, by first | exact Or.inl c2 | exact Or.inr c3⟩]; rfl, rfl⟩
set_option maxHeartbeats 4000000 in
set_option maxRecDepth 100000 in
theorem s_flows {G : EG} {l : Launch} {h : EH} {a : Nat} {p : Pol} (hP : PL G h a p) {u w : Nat} (hu : u < pT p) (hw : w < pT p) {B : Bool} (hB : B = true ↔ flw p u w) : ES G l 3 mX7_flowsInOneStep [.ref a, .int (nI u), .int (nI w)] h 0 0 (fun v h' => v = some (.int (b2i B)) ∧ h' = h) eNoX := by
  refine es_of (by decide) rfl (Nat.le_of_ble_eq_true rfl) ?_
  refine ex_iconst (v := (nI 0)) (by decide) dX7_flowsInOneStep_0 ?_
  refine ex_istore_n (by decide) rfl dX7_flowsInOneStep_1 ?_
  exact l_flows hP hu hw hB (pC p + 1) 0 (by omega) (by omega) (fun c hc => by omega)
