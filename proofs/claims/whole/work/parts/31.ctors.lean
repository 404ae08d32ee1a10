/-! CONSTRUCTORS -/
theorem ex_bud {G : EG} {l : Launch} {d : Nat} {M : EM} {Q : Option Value → EH → Prop} {X : String → EH → Prop} {k n k' n' pc : Nat} {lv : List (Nat × Value)} {st : List Value} {h : EH} (hk : k' ≤ k) (hn : n' ≤ n) (kk : Ex G l d M Q X k' n' pc lv st h) : Ex G l d M Q X k n pc lv st h := by
  intro p e s m args below meth c H locs ls cells slots mc ms C R S L e1 e2
  exact W.widen (k := mc - k') (n := ms - n') (by omega) (by omega) (kk p e s m args below meth c H locs ls (mc - k') (ms - n') mc ms C R S L (by omega) (by omega))
theorem TX.sm {G : EG} {h h' : EH} {a b : Nat} {t : Nat → Nat} {n : Nat} (x : TX G h a b t n) (w : ∀ q, atT a b q → h'.2 q = h.2 q) : TX G h' a b t n := ⟨(w a (Or.inl rfl)).trans x.1, (w b (Or.inr rfl)).trans x.2.1, x.2.2⟩
theorem BR.sm {G : EG} {h h' : EH} {a b n tk : Nat} {br : Bool} {f : Nat → Nat} (x : BR G h a b n tk br f) (w : ∀ q, atB a b q → h'.2 q = h.2 q) : BR G h' a b n tk br f := ⟨(w a (Or.inl rfl)).trans x.1, (w b (Or.inr rfl)).trans x.2.1, x.2.2⟩
theorem ST.sm {G : EG} {h h' : EH} {a b : Nat} {s : Stm} (x : ST G h a b s) (w : ∀ q, atS a b q → h'.2 q = h.2 q) : ST G h' a b s := ⟨(w a (Or.inl rfl)).trans x.1, (w b (Or.inr rfl)).trans x.2.1, x.2.2⟩
theorem MM.sm {G : EG} {h h' : EH} {a qa aa cap : Nat} {L : List (Nat × Nat)} {hi mi : Nat} (x : MM G h a qa aa cap L hi mi) (w : ∀ q, atM a qa aa q → h'.2 q = h.2 q) : MM G h' a qa aa cap L hi mi := by
  obtain ⟨qf, af, x1, x2, x3, x4⟩ := x
  exact ⟨qf, af, (w a (Or.inl rfl)).trans x1, (w qa (Or.inr (Or.inl rfl))).trans x2, (w aa (Or.inr (Or.inr rfl))).trans x3, x4⟩
theorem PL.sm {G : EG} {h h' : EH} {a : Nat} {p : Pol} (x : PL G h a p) (w : ∀ q, atP a q → h'.2 q = h.2 q) : PL G h' a p :=
  ⟨(w _ pin0).trans x.1, (w _ (pin 1 (by decide))).trans x.2.1, (w _ (pin 2 (by decide))).trans x.2.2.1, (w _ (pin 3 (by decide))).trans x.2.2.2.1, (w _ (pin 4 (by decide))).trans x.2.2.2.2.1, (w _ (pin 5 (by decide))).trans x.2.2.2.2.2.1, x.2.2.2.2.2.2⟩
theorem DR.sm {G : EG} {h h' : EH} {a n : Nat} {S : Nat → Stm} (x : DR G h a n S) (w : ∀ q, atD a q → h'.2 q = h.2 q) : DR G h' a n S :=
  ⟨(w _ ⟨by omega, by omega⟩).trans x.1, (w _ ⟨by omega, by omega⟩).trans x.2.1, fun i hi => ⟨(x.2.2.1 i hi).1.sm (by rintro q (rfl | rfl); exact w _ ⟨by omega, by omega⟩; exact w _ ⟨by omega, by omega⟩), (x.2.2.1 i hi).2⟩, x.2.2.2⟩
theorem RD.sm {h h' : EH} {r ta p : Nat} (x : RD h r ta p) (w : h'.2 r = h.2 r) : RD h' r ta p := w.trans x
set_option maxHeartbeats 4000000 in
set_option maxRecDepth 100000 in
theorem s_iText {G : EG} {l : Launch} {h : EH} {a : Nat}  (hh : h.1 = a + 1) (ha : h.2 a = some (.inr (6, [.null, .int 0]))) : ES G l 1 mX10_init [.ref a] h 1 72 (fun v h' => v = none ∧ h'.1 = a + 2 ∧ TX G h' a (a + 1) (fun _ => 0) 0 ∧ ∀ q, q < a → h'.2 q = h.2 q) eNoX := by
  obtain ⟨hs, hf⟩ := h
  change hs = a + 1 at hh
  subst hh
  refine es_of (by decide) rfl (Nat.le_of_ble_eq_true rfl) ?_
  refine ex_aload_n rfl dX10_init_0 ?_
  refine ex_obj dX10_init_1 ob_X10_3 ob_i ob_c (by decide) (Nat.le_of_ble_eq_true rfl) ?_
  refine ex_aload_n rfl dX10_init_4 ?_
  refine ex_bipush (v := (nI 72)) (by decide) dX10_init_5 ?_
  refine ex_newa_int (k := 0) (n := 0) dX10_init_7 ac_int (N := 72) (by decide) (by decide) (by decide) ?_
  refine ex_putF dX10_init_9 pf_X10_9 rfl (hnew_ne (show a ≠ a + 1 by omega) ha) (Nat.le_of_ble_eq_true rfl) rfl rfl ?_
  refine ex_aload_n rfl dX10_init_12 ?_
  refine ex_iconst (v := (nI 0)) (by decide) dX10_init_13 ?_
  refine ex_put dX10_init_14 pf_X10_15 hup_eq (Nat.le_of_ble_eq_true rfl) rfl rfl ?_
  refine ex_vret dX10_init_17 rfl ⟨rfl, rfl, ⟨hup_eq, (hup_ne (show a + 1 ≠ a by omega) (hup_ne (show a + 1 ≠ a by omega) hnew_eq)), by decide, by omega⟩, fun q hq => (hup_ne (show q ≠ a by omega) (hup_ne (show q ≠ a by omega) (hnew_ne (show q ≠ a + 1 by omega) rfl)))⟩
set_option maxHeartbeats 4000000 in
set_option maxRecDepth 100000 in
theorem s_iRow {G : EG} {l : Launch} {h : EH} {a : Nat}  (hh : h.1 = a + 1) (ha : h.2 a = some (.inr (0, [.null, .int 0, .int 0, .int 0]))) : ES G l 1 mX1_init [.ref a] h 1 420 (fun v h' => v = none ∧ h'.1 = a + 2 ∧ BR G h' a (a + 1) 0 0 false (fun _ => 0) ∧ ∀ q, q < a → h'.2 q = h.2 q) eNoX := by
  obtain ⟨hs, hf⟩ := h
  change hs = a + 1 at hh
  subst hh
  refine es_of (by decide) rfl (Nat.le_of_ble_eq_true rfl) ?_
  refine ex_aload_n rfl dX1_init_0 ?_
  refine ex_obj dX1_init_1 ob_X1_3 ob_i ob_c (by decide) (Nat.le_of_ble_eq_true rfl) ?_
  refine ex_aload_n rfl dX1_init_4 ?_
  refine ex_sipush (v := (nI 420)) (by decide) dX1_init_5 ?_
  refine ex_newa_int (k := 0) (n := 0) dX1_init_8 ac_int (N := 420) (by decide) (by decide) (by decide) ?_
  refine ex_putF dX1_init_10 pf_X1_9 rfl (hnew_ne (show a ≠ a + 1 by omega) ha) (Nat.le_of_ble_eq_true rfl) rfl rfl ?_
  refine ex_aload_n rfl dX1_init_13 ?_
  refine ex_iconst (v := (nI 0)) (by decide) dX1_init_14 ?_
  refine ex_put dX1_init_15 pf_X1_15 hup_eq (Nat.le_of_ble_eq_true rfl) rfl rfl ?_
  refine ex_aload_n rfl dX1_init_18 ?_
  refine ex_iconst (v := (nI 0)) (by decide) dX1_init_19 ?_
  refine ex_put dX1_init_20 pf_X1_19 hup_eq (Nat.le_of_ble_eq_true rfl) rfl rfl ?_
  refine ex_aload_n rfl dX1_init_23 ?_
  refine ex_iconst (v := (nI 0)) (by decide) dX1_init_24 ?_
  refine ex_put dX1_init_25 pf_X1_22 hup_eq (Nat.le_of_ble_eq_true rfl) rfl rfl ?_
  refine ex_vret dX1_init_28 rfl ⟨rfl, rfl, ⟨hup_eq, (hup_ne (show a + 1 ≠ a by omega) (hup_ne (show a + 1 ≠ a by omega) (hup_ne (show a + 1 ≠ a by omega) (hup_ne (show a + 1 ≠ a by omega) hnew_eq)))), by decide, by omega⟩, fun q hq => (hup_ne (show q ≠ a by omega) (hup_ne (show q ≠ a by omega) (hup_ne (show q ≠ a by omega) (hup_ne (show q ≠ a by omega) (hnew_ne (show q ≠ a + 1 by omega) rfl)))))⟩
set_option maxHeartbeats 4000000 in
set_option maxRecDepth 100000 in
theorem s_iStm {G : EG} {l : Launch} {h : EH} {a : Nat}  (hh : h.1 = a + 1) (ha : h.2 a = some (.inr (5, [.null, .null, .int 0, .int 0]))) : ES G l 1 mX9_init [.ref a] h 1 9 (fun v h' => v = none ∧ h'.1 = a + 2 ∧ ST G h' a (a + 1) (0, 0, 0, fun _ => 0) ∧ ∀ q, q < a → h'.2 q = h.2 q) eNoX := by
  obtain ⟨hs, hf⟩ := h
  change hs = a + 1 at hh
  subst hh
  refine es_of (by decide) rfl (Nat.le_of_ble_eq_true rfl) ?_
  refine ex_aload_n rfl dX9_init_0 ?_
  refine ex_obj dX9_init_1 ob_X9_3 ob_i ob_c (by decide) (Nat.le_of_ble_eq_true rfl) ?_
  refine ex_aload_n rfl dX9_init_4 ?_
  refine ex_bipush (v := (nI 9)) (by decide) dX9_init_5 ?_
  refine ex_newa_int (k := 0) (n := 0) dX9_init_7 ac_int (N := 9) (by decide) (by decide) (by decide) ?_
  refine ex_putF dX9_init_9 pf_X9_9 rfl (hnew_ne (show a ≠ a + 1 by omega) ha) (Nat.le_of_ble_eq_true rfl) rfl rfl ?_
  refine ex_aload_n rfl dX9_init_12 ?_
  refine ex_gets (z := ("PolicyDesk$Kind", "CLASS", "LPolicyDesk$Kind;", .ref (ead G 0))) dX9_init_13 (eZk (i := 0) (by decide)) gz_X9_15 ?_
  refine ex_put dX9_init_16 pf_X9_21 hup_eq (Nat.le_of_ble_eq_true rfl) rfl rfl ?_
  refine ex_aload_n rfl dX9_init_19 ?_
  refine ex_iconst (v := (nI 0)) (by decide) dX9_init_20 ?_
  refine ex_put dX9_init_21 pf_X9_24 hup_eq (Nat.le_of_ble_eq_true rfl) rfl rfl ?_
  refine ex_aload_n rfl dX9_init_24 ?_
  refine ex_iconst (v := (nI 0)) (by decide) dX9_init_25 ?_
  refine ex_put dX9_init_26 pf_X9_28 hup_eq (Nat.le_of_ble_eq_true rfl) rfl rfl ?_
  refine ex_vret dX9_init_29 rfl ⟨rfl, rfl, ⟨hup_eq, (hup_ne (show a + 1 ≠ a by omega) (hup_ne (show a + 1 ≠ a by omega) (hup_ne (show a + 1 ≠ a by omega) (hup_ne (show a + 1 ≠ a by omega) hnew_eq)))), ⟨by decide, fun j => by show 0 < 2 ^ 30; decide⟩, by omega⟩, fun q hq => (hup_ne (show q ≠ a by omega) (hup_ne (show q ≠ a by omega) (hup_ne (show q ≠ a by omega) (hup_ne (show q ≠ a by omega) (hnew_ne (show q ≠ a + 1 by omega) rfl)))))⟩
set_option maxHeartbeats 4000000 in
set_option maxRecDepth 100000 in
theorem s_iPol {G : EG} {l : Launch} {h : EH} {a : Nat}  (hh : h.1 = a + 1) (ha : h.2 a = some (.inr (3, [.null, .null, .null, .null, .null, .int 0, .int 0]))) : ES G l 1 mX7_init [.ref a] h 5 410 (fun v h' => v = none ∧ h'.1 = a + 6 ∧ PL G h' a (0, 0, fun _ => 0, fun _ => 0, fun _ => 0, fun _ => 0, fun _ => 0) ∧ ∀ q, q < a → h'.2 q = h.2 q) eNoX := by
  obtain ⟨hs, hf⟩ := h
  change hs = a + 1 at hh
  subst hh
  refine es_of (by decide) rfl (Nat.le_of_ble_eq_true rfl) ?_
  refine ex_aload_n rfl dX7_init_0 ?_
  refine ex_obj dX7_init_1 ob_X7_3 ob_i ob_c (by decide) (Nat.le_of_ble_eq_true rfl) ?_
  refine ex_aload_n rfl dX7_init_4 ?_
  refine ex_iconst (v := (nI 3)) (by decide) dX7_init_5 ?_
  refine ex_newa_int (k := 4) (n := 407) dX7_init_6 ac_int (N := 3) (by decide) (by decide) (by decide) ?_
  refine ex_putF dX7_init_8 pf_X7_9 rfl (hnew_ne (show a ≠ a + 1 by omega) ha) (Nat.le_of_ble_eq_true rfl) rfl rfl ?_
  refine ex_aload_n rfl dX7_init_11 ?_
  refine ex_bipush (v := (nI 8)) (by decide) dX7_init_12 ?_
  refine ex_newa_int (k := 3) (n := 399) dX7_init_14 ac_int (N := 8) (by decide) (by decide) (by decide) ?_
  refine ex_putF dX7_init_16 pf_X7_15 rfl (hnew_ne (show a ≠ a + 2 by omega) hup_eq) (Nat.le_of_ble_eq_true rfl) rfl rfl ?_
  refine ex_aload_n rfl dX7_init_19 ?_
  refine ex_sipush (v := (nI 192)) (by decide) dX7_init_20 ?_
  refine ex_newa_int (k := 2) (n := 207) dX7_init_23 ac_int (N := 192) (by decide) (by decide) (by decide) ?_
  refine ex_putF dX7_init_25 pf_X7_18 rfl (hnew_ne (show a ≠ a + 3 by omega) hup_eq) (Nat.le_of_ble_eq_true rfl) rfl rfl ?_
  refine ex_aload_n rfl dX7_init_28 ?_
  refine ex_sipush (v := (nI 192)) (by decide) dX7_init_29 ?_
  refine ex_newa_int (k := 1) (n := 15) dX7_init_32 ac_int (N := 192) (by decide) (by decide) (by decide) ?_
  refine ex_putF dX7_init_34 pf_X7_21 rfl (hnew_ne (show a ≠ a + 4 by omega) hup_eq) (Nat.le_of_ble_eq_true rfl) rfl rfl ?_
  refine ex_aload_n rfl dX7_init_37 ?_
  refine ex_bipush (v := (nI 15)) (by decide) dX7_init_38 ?_
  refine ex_newa_int (k := 0) (n := 0) dX7_init_40 ac_int (N := 15) (by decide) (by decide) (by decide) ?_
  refine ex_putF dX7_init_42 pf_X7_24 rfl (hnew_ne (show a ≠ a + 5 by omega) hup_eq) (Nat.le_of_ble_eq_true rfl) rfl rfl ?_
  refine ex_aload_n rfl dX7_init_45 ?_
  refine ex_iconst (v := (nI 0)) (by decide) dX7_init_46 ?_
  refine ex_put dX7_init_47 pf_X7_27 hup_eq (Nat.le_of_ble_eq_true rfl) rfl rfl ?_
  refine ex_aload_n rfl dX7_init_50 ?_
  refine ex_iconst (v := (nI 0)) (by decide) dX7_init_51 ?_
  refine ex_put dX7_init_52 pf_X7_31 hup_eq (Nat.le_of_ble_eq_true rfl) rfl rfl ?_
  refine ex_vret dX7_init_55 rfl ⟨rfl, rfl, ⟨hup_eq, (hup_ne (show a + 1 ≠ a by omega) (hup_ne (show a + 1 ≠ a by omega) (hup_ne (show a + 1 ≠ a by omega) (hnew_ne (show a + 1 ≠ a + 5 by omega) (hup_ne (show a + 1 ≠ a by omega) (hnew_ne (show a + 1 ≠ a + 4 by omega) (hup_ne (show a + 1 ≠ a by omega) (hnew_ne (show a + 1 ≠ a + 3 by omega) (hup_ne (show a + 1 ≠ a by omega) (hnew_ne (show a + 1 ≠ a + 2 by omega) (hup_ne (show a + 1 ≠ a by omega) hnew_eq))))))))))), (hup_ne (show a + 2 ≠ a by omega) (hup_ne (show a + 2 ≠ a by omega) (hup_ne (show a + 2 ≠ a by omega) (hnew_ne (show a + 2 ≠ a + 5 by omega) (hup_ne (show a + 2 ≠ a by omega) (hnew_ne (show a + 2 ≠ a + 4 by omega) (hup_ne (show a + 2 ≠ a by omega) (hnew_ne (show a + 2 ≠ a + 3 by omega) (hup_ne (show a + 2 ≠ a by omega) hnew_eq))))))))), (hup_ne (show a + 3 ≠ a by omega) (hup_ne (show a + 3 ≠ a by omega) (hup_ne (show a + 3 ≠ a by omega) (hnew_ne (show a + 3 ≠ a + 5 by omega) (hup_ne (show a + 3 ≠ a by omega) (hnew_ne (show a + 3 ≠ a + 4 by omega) (hup_ne (show a + 3 ≠ a by omega) hnew_eq))))))), (hup_ne (show a + 4 ≠ a by omega) (hup_ne (show a + 4 ≠ a by omega) (hup_ne (show a + 4 ≠ a by omega) (hnew_ne (show a + 4 ≠ a + 5 by omega) (hup_ne (show a + 4 ≠ a by omega) hnew_eq))))), (hup_ne (show a + 5 ≠ a by omega) (hup_ne (show a + 5 ≠ a by omega) (hup_ne (show a + 5 ≠ a by omega) hnew_eq))), ⟨by decide, by decide, fun j => by show 0 < 2 ^ 30 ∧ 0 < 2 ^ 30 ∧ 0 < 2 ^ 30 ∧ 0 < 2 ^ 30 ∧ 0 < 2 ^ 30; decide⟩⟩, fun q hq => (hup_ne (show q ≠ a by omega) (hup_ne (show q ≠ a by omega) (hup_ne (show q ≠ a by omega) (hnew_ne (show q ≠ a + 5 by omega) (hup_ne (show q ≠ a by omega) (hnew_ne (show q ≠ a + 4 by omega) (hup_ne (show q ≠ a by omega) (hnew_ne (show q ≠ a + 3 by omega) (hup_ne (show q ≠ a by omega) (hnew_ne (show q ≠ a + 2 by omega) (hup_ne (show q ≠ a by omega) (hnew_ne (show q ≠ a + 1 by omega) rfl))))))))))))⟩
set_option maxHeartbeats 4000000 in
set_option maxRecDepth 100000 in
theorem s_iRd {G : EG} {l : Launch} {h : EH} {a : Nat} {ta : Nat} (hh : h.1 = a + 1) (ha : h.2 a = some (.inr (4, [.null, .int 0]))) : ES G l 1 mX8_init [.ref a, .ref ta] h 0 0 (fun v h' => v = none ∧ h'.1 = a + 1 ∧ RD h' a ta 0 ∧ ∀ q, q < a → h'.2 q = h.2 q) eNoX := by
  obtain ⟨hs, hf⟩ := h
  change hs = a + 1 at hh
  subst hh
  refine es_of (by decide) rfl (Nat.le_of_ble_eq_true rfl) ?_
  refine ex_aload_n rfl dX8_init_0 ?_
  refine ex_obj dX8_init_1 ob_X8_3 ob_i ob_c (by decide) (Nat.le_of_ble_eq_true rfl) ?_
  refine ex_aload_n rfl dX8_init_4 ?_
  refine ex_iconst (v := (nI 0)) (by decide) dX8_init_5 ?_
  refine ex_put dX8_init_6 pf_X8_9 ha (Nat.le_of_ble_eq_true rfl) rfl rfl ?_
  refine ex_aload_n rfl dX8_init_9 ?_
  refine ex_aload_n rfl dX8_init_10 ?_
  refine ex_putF dX8_init_11 pf_X8_15 rfl hup_eq (Nat.le_of_ble_eq_true rfl) rfl rfl ?_
  refine ex_vret dX8_init_14 rfl ⟨rfl, rfl, hup_eq, fun q hq => (hup_ne (show q ≠ a by omega) (hup_ne (show q ≠ a by omega) rfl))⟩
theorem nI_nn {n : Nat} (h : n < 2 ^ 31) : ¬ nI n < 0 := by rw [Int32.lt_iff_toInt_lt, nI_toInt h, Int32.toInt_zero]; omega
set_option maxHeartbeats 4000000 in
set_option maxRecDepth 100000 in
theorem s_iMem {G : EG} {l : Launch} {h : EH} {a : Nat} {cap : Nat} (hc1 : 1 ≤ cap) (hc8 : cap ≤ 8) (hh : h.1 = a + 1) (ha : h.2 a = some (.inr (2, [.null, .null, .int 0, .int 0, .int 0]))) : ES G l 1 mX6_init [.ref a, .int (nI cap)] h 2 16 (fun v h' => v = none ∧ h'.1 = a + 3 ∧ MM G h' a (a + 1) (a + 2) cap [] 0 0 ∧ ∀ q, q < a → h'.2 q = h.2 q) eNoX := by
  obtain ⟨hs, hf⟩ := h
  change hs = a + 1 at hh
  subst hh
  refine es_of (by decide) rfl (Nat.le_of_ble_eq_true rfl) ?_
  refine ex_bud (k' := 2) (n' := 0 + cap + cap) (by omega) (by omega) ?_
  refine ex_aload_n rfl dX6_init_0 ?_
  refine ex_obj dX6_init_1 ob_X6_3 ob_i ob_c (by decide) (Nat.le_of_ble_eq_true rfl) ?_
  refine ex_aload_n rfl dX6_init_4 ?_
  refine ex_iconst (v := (nI 0)) (by decide) dX6_init_5 ?_
  refine ex_put dX6_init_6 pf_X6_9 ha (Nat.le_of_ble_eq_true rfl) rfl rfl ?_
  refine ex_aload_n rfl dX6_init_9 ?_
  refine ex_iconst (v := (nI 0)) (by decide) dX6_init_10 ?_
  refine ex_put dX6_init_11 pf_X6_15 hup_eq (Nat.le_of_ble_eq_true rfl) rfl rfl ?_
  refine ex_aload_n rfl dX6_init_14 ?_
  refine ex_iconst (v := (nI 0)) (by decide) dX6_init_15 ?_
  refine ex_put dX6_init_16 pf_X6_18 hup_eq (Nat.le_of_ble_eq_true rfl) rfl rfl ?_
  refine ex_aload_n rfl dX6_init_19 ?_
  refine ex_iload_n rfl dX6_init_20 ?_
  refine ex_newa_int (k := 1) (n := 0 + cap) dX6_init_21 ac_int (N := cap) (nI_nn (by omega)) (nI_clamp (by omega)) (by omega) ?_
  refine ex_putF dX6_init_23 pf_X6_21 rfl (hnew_ne (show a ≠ a + 1 by omega) hup_eq) (Nat.le_of_ble_eq_true rfl) rfl rfl ?_
  refine ex_aload_n rfl dX6_init_26 ?_
  refine ex_iload_n rfl dX6_init_27 ?_
  refine ex_newa_int (k := 0) (n := 0) dX6_init_28 ac_int (N := cap) (nI_nn (by omega)) (nI_clamp (by omega)) (by omega) ?_
  refine ex_putF dX6_init_30 pf_X6_25 rfl (hnew_ne (show a ≠ a + 2 by omega) hup_eq) (Nat.le_of_ble_eq_true rfl) rfl rfl ?_
  refine ex_vret dX6_init_33 rfl ⟨rfl, rfl, ⟨fun _ => 0, fun _ => 0, hup_eq, (hup_ne (show a + 1 ≠ a by omega) (hnew_ne (show a + 1 ≠ a + 2 by omega) (hup_ne (show a + 1 ≠ a by omega) hnew_eq))), (hup_ne (show a + 2 ≠ a by omega) hnew_eq), fun j hj => absurd hj (Nat.not_lt_zero _), ⟨Nat.zero_le _, hc1, hc8, fun j hj => absurd hj (Nat.not_lt_zero _)⟩, by omega, by omega, by omega⟩, fun q hq => (hup_ne (show q ≠ a by omega) (hnew_ne (show q ≠ a + 2 by omega) (hup_ne (show q ≠ a by omega) (hnew_ne (show q ≠ a + 1 by omega) (hup_ne (show q ≠ a by omega) (hup_ne (show q ≠ a by omega) (hup_ne (show q ≠ a by omega) rfl)))))))⟩
/-- the rows of a draft that are made so far -/
def rowsK (a k : Nat) : Nat → Option Nat := fun i => if i < k then some (a + 2 + 2 * i) else none
theorem rowsK_s (a k : Nat) : va_up (rowsK a k) k (some (a + 2 + 2 * k)) = rowsK a (k + 1) := by
  funext i
  unfold va_up rowsK
  by_cases q : i = k
  · rw [if_pos q, if_pos (by omega), q]
  · rw [if_neg q]
    by_cases w : i < k
    · rw [if_pos w, if_pos (by omega)]
    · rw [if_neg w, if_neg (by omega)]
theorem rowsK_41 (a : Nat) : rowsK a 41 = rowsF a := rfl
def DM (G : EG) (h : EH) (a k : Nat) : Prop := h.1 = a + 2 + 2 * k ∧ h.2 a = some (.inr (1, [.ref (a + 1), .int (nI 0)])) ∧ h.2 (a + 1) = some (.inl (eA G 4, 41, .inr (.inr (.inr (.inr (rowsK a k)))))) ∧ ∀ i, i < k → ST G h (a + 2 + 2 * i) (a + 3 + 2 * i) (0, 0, 0, fun _ => 0)
set_option maxHeartbeats 4000000 in
set_option maxRecDepth 100000 in
theorem l_iDraft {G : EG} {l : Launch} {h0 : EH} {a : Nat} : ∀ (f k : Nat), 41 - k < f → k ≤ 41 → ∀ (h : EH), DM G h a k → (∀ q, q < a → h.2 q = h0.2 q) → Ex G l 2 mX3_init (fun v h' => v = none ∧ h'.1 = a + 84 ∧ DR G h' a 0 (fun _ => (0, 0, 0, fun _ => 0)) ∧ ∀ q, q < a → h'.2 q = h0.2 q) eNoX (2 * (41 - k)) (13 * (41 - k)) 20 [(0, .ref a), (1, .int (nI k))] [] h := by
  intro f
  induction f with
  | zero =>
    intro k h1 h2 h hD hF
    omega
  | succ f ih =>
    intro k h1 h2 h hD hF
    obtain ⟨hs, hf⟩ := h
    obtain ⟨d1, d2, d3, d4⟩ := hD
    change hs = a + 2 + 2 * k at d1
    subst d1
    refine ex_iload_n rfl dX3_init_20 ?_
    refine ex_aload_n rfl dX3_init_21 ?_
    refine ex_get dX3_init_22 gf_X3_11 d2 rfl ?_
    refine ex_alen dX3_init_25 d3 rfl (v := nI 41) rfl ?_
    refine ex_icmpN_ge (tgt := 48) (by decide) dX3_init_26 (by omega) (by omega) (fun c1 => ?_) (fun c1 => ?_)
    · refine ex_vret dX3_init_48 rfl (by
      have hk : k = 41 := by omega
      subst hk
      exact ⟨rfl, rfl, ⟨d2, d3, fun i hi => ⟨d4 i hi, by show 0 < 9; decide⟩, by decide⟩, hF⟩)
    · refine ex_aload_n rfl dX3_init_29 ?_
      refine ex_get dX3_init_30 gf_X3_11 d2 rfl ?_
      refine ex_iload_n rfl dX3_init_33 ?_
      refine ex_bud (k' := 2 * (40 - k) + 1 + 1) (n' := 13 * (40 - k) + 9 + 4) (by omega) (by omega) ?_
      refine ex_new (k := 2 * (40 - k) + 1) (n := 13 * (40 - k) + 9) dX3_init_34 nw_X3_9 ?_
      refine ex_dup rfl dX3_init_37 ?_
      refine ex_inviN (k := 2 * (40 - k)) (n := 13 * (40 - k)) (mc' := 1) (ms' := 9) (As := []) dX3_init_38 ci_X3_21 (by decide) (Nat.le_of_ble_eq_true rfl) (s_iStm rfl hnew_eq) (fun v h' q => ?_)
      obtain ⟨rfl, q1, q2, q3⟩ := q
      have g1 : h'.2 (a + 1) = some (.inl (eA G 4, 41, .inr (.inr (.inr (.inr (rowsK a k)))))) := (q3 _ (by show a + 1 < a + 2 + 2 * k; omega)).trans (hnew_ne (by show a + 1 ≠ a + 2 + 2 * k; omega) d3)
      have g0 : h'.2 a = some (.inr (1, [.ref (a + 1), .int (nI 0)])) := (q3 _ (by show a < a + 2 + 2 * k; omega)).trans (hnew_ne (by show a ≠ a + 2 + 2 * k; omega) d2)
      refine ex_astqN dX3_init_41 g1 (by omega) (by decide) q2.1 ?_
      refine ex_iincN (z := 1) rfl (by decide) rfl dX3_init_42 ?_
      refine ex_goto (tgt := 20) (by decide) dX3_init_45 ?_
      have ee : va_up (rowsK a k) k (some (a + 2 + 2 * k)) = rowsK a (k + 1) := rowsK_s a k
      refine ex_bud (k' := 2 * (41 - (k + 1))) (n' := 13 * (41 - (k + 1))) (by omega) (by omega) (ih (k + 1) (by omega) (by omega) _ ⟨?_, ?_, ?_, ?_⟩ ?_)
      · exact q1.trans (by show a + 2 + 2 * k + 2 = _; omega)
      · exact hup_ne (by omega) g0
      · rw [← ee]; exact hup_eq
      · intro i hi
        rcases Nat.lt_or_ge i k with w | w
        · exact (d4 i w).sm (by rintro q (rfl | rfl); exact hup_ne (by omega) ((q3 _ (by show a + 2 + 2 * i < a + 2 + 2 * k; omega)).trans (hnew_ne (by show a + 2 + 2 * i ≠ a + 2 + 2 * k; omega) rfl)); exact hup_ne (by omega) ((q3 _ (by show a + 3 + 2 * i < a + 2 + 2 * k; omega)).trans (hnew_ne (by show a + 3 + 2 * i ≠ a + 2 + 2 * k; omega) rfl)))
        · rw [show i = k by omega, show a + 3 + 2 * k = a + 2 + 2 * k + 1 by omega]
          exact q2.sm (by rintro q (rfl | rfl); exact hup_ne (by show a + 2 + 2 * k ≠ a + 1; omega) rfl; exact hup_ne (by show a + 2 + 2 * k + 1 ≠ a + 1; omega) rfl)
      · exact fun q hq => hup_ne (by omega) ((q3 q (by show q < a + 2 + 2 * k; omega)).trans ((hnew_ne (by show q ≠ a + 2 + 2 * k; omega) (hF q hq))))
set_option maxHeartbeats 4000000 in
set_option maxRecDepth 100000 in
theorem s_iDraft {G : EG} {l : Launch} {h : EH} {a : Nat} (hh : h.1 = a + 1) (ha : h.2 a = some (.inr (1, [.null, .int 0]))) : ES G l 2 mX3_init [.ref a] h 83 574 (fun v h' => v = none ∧ h'.1 = a + 84 ∧ DR G h' a 0 (fun _ => (0, 0, 0, fun _ => 0)) ∧ ∀ q, q < a → h'.2 q = h.2 q) eNoX := by
  obtain ⟨hs, hf⟩ := h
  change hs = a + 1 at hh
  subst hh
  refine es_of (by decide) rfl (Nat.le_of_ble_eq_true rfl) ?_
  refine ex_aload_n rfl dX3_init_0 ?_
  refine ex_obj dX3_init_1 ob_X3_3 ob_i ob_c (by decide) (Nat.le_of_ble_eq_true rfl) ?_
  refine ex_aload_n rfl dX3_init_4 ?_
  refine ex_bipush (v := (nI 41)) (by decide) dX3_init_5 ?_
  refine ex_newq (k := 82) (n := 533) dX3_init_7 (eg 126 (by decide +kernel) rfl) (N := 41) (by decide) (by decide) (by decide) ?_
  refine ex_putF dX3_init_10 pf_X3_11 rfl (hnew_ne (show a ≠ a + 1 by omega) ha) (Nat.le_of_ble_eq_true rfl) rfl rfl ?_
  refine ex_aload_n rfl dX3_init_13 ?_
  refine ex_iconst (v := (nI 0)) (by decide) dX3_init_14 ?_
  refine ex_put dX3_init_15 pf_X3_17 hup_eq (Nat.le_of_ble_eq_true rfl) rfl rfl ?_
  refine ex_iconst (v := (nI 0)) (by decide) dX3_init_18 ?_
  refine ex_istore_n (by decide) rfl dX3_init_19 ?_
  exact l_iDraft 42 0 (by omega) (by omega) _ ⟨rfl, hup_eq, hup_ne (show a + 1 ≠ a by omega) (hup_ne (show a + 1 ≠ a by omega) hnew_eq), fun i hi => by omega⟩ (fun q hq => hup_ne (show q ≠ a by omega) (hup_ne (show q ≠ a by omega) (hnew_ne (show q ≠ a + 1 by omega) rfl)))
