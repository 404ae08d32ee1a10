/-! THE DESK, second part: what may throw -/
theorem DR.put {G : EG} {h h' : EH} {a n i : Nat} {S : Nat → Stm} {s' : Stm} (x : DR G h a n S) (hi : i < 41) (hs : ST G h' (a + 2 + 2 * i) (a + 3 + 2 * i) s') (hk : kd s' < 9) (w : ∀ q, atD a q → q ≠ a + 2 + 2 * i → q ≠ a + 3 + 2 * i → h'.2 q = h.2 q) : DR G h' a n (va_up S i s') := by
  refine ⟨(w _ ⟨by omega, by omega⟩ (by omega) (by omega)).trans x.1, (w _ ⟨by omega, by omega⟩ (by omega) (by omega)).trans x.2.1, fun j hj => ?_, x.2.2.2⟩
  by_cases q : j = i
  · rw [q]
    have e : va_up S i s' i = s' := if_pos rfl
    rw [e]
    exact ⟨hs, hk⟩
  · have e : va_up S i s' j = S j := if_neg q
    rw [e]
    exact ⟨(x.2.2.1 j hj).1.sm (by rintro z (rfl | rfl); exact w _ ⟨by omega, by omega⟩ (by omega) (by omega); exact w _ ⟨by omega, by omega⟩ (by omega) (by omega)), (x.2.2.1 j hj).2⟩
theorem kd_psh (s : Stm) (x : Nat) : kd (psh s x) = kd s := rfl
theorem pNm_kd {t : Nat → Nat} {n : Nat} : ∀ {m p : Nat} {s : Stm}, kd (pNm t n m p s).2.2 = kd s ∧ mk (pNm t n m p s).2.2 = mk s := by
  intro m
  induction m with
  | zero => intro p s; exact ⟨rfl, rfl⟩
  | succ m ih =>
    intro p s
    by_cases h1 : bl t n p = true
    · by_cases h2 : 0 < nlet t n (p + 1) 4
      · rw [pNm_2 h1 h2]; exact ih
      · rw [pNm_1 h1 h2]; exact ⟨rfl, rfl⟩
    · rw [pNm_0 (by simpa using h1)]; exact ⟨rfl, rfl⟩
theorem pMk_kd {t : Nat → Nat} {n i p : Nat} {s : Stm} : kd (pMk t n i p s).2.2 = kd s ∧ ((pMk t n i p s).1 = true → kLen i ≠ 0 → mk (pMk t n i p s).2.2 < kLen i) := by
  unfold pMk
  split
  · exact ⟨rfl, fun _ z => absurd (by assumption) z⟩
  · split
    · split
      · exact ⟨rfl, fun z => by cases z⟩
      · split
        · exact ⟨rfl, fun z => by cases z⟩
        · rename_i j hj
          exact ⟨rfl, fun _ _ => by show j < kLen i; have := (fnd_some hj).2.1; omega⟩
    · exact ⟨rfl, fun z => by cases z⟩
theorem pLs_ok {t : Nat → Nat} {n few : Nat} (hn : n ≤ 72) : ∀ {m k p : Nat} {s : Stm}, p ≤ 76 → few ≤ k + m → kd (pLs t n few m k p s).2.2 = kd s ∧ mk (pLs t n few m k p s).2.2 = mk s ∧ (pLs t n few m k p s).2.1 ≤ 76 ∧ ((pLs t n few m k p s).1 = true → ∃ j, j ≤ m ∧ few ≤ k + j ∧ sz (pLs t n few m k p s).2.2 = sz s + j) := by
  intro m
  induction m with
  | zero => intro k p s hp hf; exact ⟨rfl, rfl, hp, fun _ => ⟨0, Nat.le_refl _, hf, rfl⟩⟩
  | succ m ih =>
    intro k p s hp hf
    by_cases h0 : few ≤ k ∧ n ≤ p
    · rw [pLs_e h0.1 h0.2]; exact ⟨rfl, rfl, hp, fun _ => ⟨0, by omega, h0.1, rfl⟩⟩
    · by_cases h1 : bl t n p = true
      · have hlt := bl_lt h1
        by_cases h2 : 0 < nlet t n (p + 1) 4
        · rw [pLs_2 h0 h1 h2]
          have := nlet_le t n 4 (p + 1)
          obtain ⟨i1, i2, i3, i4⟩ := ih (k := k + 1) (p := p + 1 + nlet t n (p + 1) 4) (s := psh s (pck t (p + 1) 0 (nlet t n (p + 1) 4))) (by omega) (by omega)
          refine ⟨i1, i2, i3, fun z => ?_⟩
          obtain ⟨j, j1, j2, j3⟩ := i4 z
          exact ⟨j + 1, by omega, by omega, by rw [j3]; show sz s + 1 + j = _; omega⟩
        · rw [pLs_1 h0 h1 h2]; exact ⟨rfl, rfl, by show p + 1 ≤ 76; omega, fun z => by cases z⟩
      · rw [pLs_0 h0 (by simpa using h1)]; exact ⟨rfl, rfl, hp, fun z => by cases z⟩
theorem kMk : ∀ κ, κ < 9 → (κ = 5 → kLen (kMarks.getD κ 0) = 8) ∧ (κ = 6 → kLen (kMarks.getD κ 0) = 3) := by decide
theorem kFM : ∀ κ, κ < 9 → kFw κ ≤ kMs κ ∧ kLen κ ≤ 5 := by decide
theorem pKw_p {t : Nat → Nat} {n : Nat} : ∀ {j k p : Nat}, k + j ≤ 9 → p ≤ 8 → (pKw t n j k p).2.1 ≤ 8 := by
  intro j
  induction j with
  | zero => intro k p _ h; exact h
  | succ j ih =>
    intro k p hk hp
    have h5 := (kFM k (by omega)).2
    by_cases h1 : lsh t n k 0 (kLen k) = kLen k
    · rw [pKw_y h1]; show kLen k ≤ 8; omega
    · rw [pKw_n h1]
      have := lsh_le (t := t) (n := n) (i := k) (kLen k) 0
      exact ih (by omega) (by omega)
theorem pPs_ok {t : Nat → Nat} {n : Nat} {s : Stm} (hn : n ≤ 72) (hs : kd s < 9) : kd (pPs t n s).2.2 < 9 ∧ (pPs t n s).2.1 ≤ 80 ∧ ((pPs t n s).1 = true → shp (pPs t n s).2.2) := by
  by_cases c1 : (pKw t n 9 0 0).1 = true
  · obtain ⟨hκ, hkp⟩ := pKw_ok (by omega) c1
    have hp8 := pKw_p (t := t) (n := n) (j := 9) (k := 0) (p := 0) (by omega) (by omega)
    have e0 : pPs t n s = (let y := pNm t n (kNm (pKw t n 9 0 0).2.2) (pKw t n 9 0 0).2.1 ((pKw t n 9 0 0).2.2, 0, 0, wd s); if y.1 then (let z := pMk t n (kMarks.getD (pKw t n 9 0 0).2.2 0) y.2.1 y.2.2; if z.1 then pLs t n (kFw (pKw t n 9 0 0).2.2) (kMs (pKw t n 9 0 0).2.2) 0 z.2.1 z.2.2 else z) else y) := if_pos c1
    rw [e0]
    clear e0
    generalize (pKw t n 9 0 0).2.2 = κ at hκ ⊢
    generalize (pKw t n 9 0 0).2.1 = p0 at hp8 ⊢
    obtain ⟨hnm, hfw, hmk, hkl⟩ := kAll κ hκ
    obtain ⟨k5, k6⟩ := kMk κ hκ
    have hfm := (kFM κ hκ).1
    have y1 := pNm_kd (t := t) (n := n) (m := kNm κ) (p := p0) (s := (κ, 0, 0, wd s))
    have y2 := pNm_p (t := t) hn (m := kNm κ) (p := p0) (s := (κ, 0, 0, wd s)) (by omega)
    have y3 := pNm_sz (t := t) (n := n) (m := kNm κ) (p := p0) (s := (κ, 0, 0, wd s))
    generalize pNm t n (kNm κ) p0 (κ, 0, 0, wd s) = y at y1 y2 y3
    show kd (if y.1 then (if (pMk t n (kMarks.getD κ 0) y.2.1 y.2.2).1 then pLs t n (kFw κ) (kMs κ) 0 (pMk t n (kMarks.getD κ 0) y.2.1 y.2.2).2.1 (pMk t n (kMarks.getD κ 0) y.2.1 y.2.2).2.2 else pMk t n (kMarks.getD κ 0) y.2.1 y.2.2) else y).2.2 < 9 ∧ (if y.1 then (if (pMk t n (kMarks.getD κ 0) y.2.1 y.2.2).1 then pLs t n (kFw κ) (kMs κ) 0 (pMk t n (kMarks.getD κ 0) y.2.1 y.2.2).2.1 (pMk t n (kMarks.getD κ 0) y.2.1 y.2.2).2.2 else pMk t n (kMarks.getD κ 0) y.2.1 y.2.2) else y).2.1 ≤ 80 ∧ ((if y.1 then (if (pMk t n (kMarks.getD κ 0) y.2.1 y.2.2).1 then pLs t n (kFw κ) (kMs κ) 0 (pMk t n (kMarks.getD κ 0) y.2.1 y.2.2).2.1 (pMk t n (kMarks.getD κ 0) y.2.1 y.2.2).2.2 else pMk t n (kMarks.getD κ 0) y.2.1 y.2.2) else y).1 = true → shp (if y.1 then (if (pMk t n (kMarks.getD κ 0) y.2.1 y.2.2).1 then pLs t n (kFw κ) (kMs κ) 0 (pMk t n (kMarks.getD κ 0) y.2.1 y.2.2).2.1 (pMk t n (kMarks.getD κ 0) y.2.1 y.2.2).2.2 else pMk t n (kMarks.getD κ 0) y.2.1 y.2.2) else y).2.2)
    by_cases c2 : y.1 = true
    · rw [if_pos c2]
      have z1 := pMk_kd (t := t) (n := n) (i := kMarks.getD κ 0) (p := y.2.1) (s := y.2.2)
      have z2 := pMk_ok (t := t) (n := n) (i := kMarks.getD κ 0) (p := y.2.1) (s := y.2.2) hn y2
      generalize pMk t n (kMarks.getD κ 0) y.2.1 y.2.2 = z at z1 z2
      have hkz : kd z.2.2 = κ := z1.1.trans y1.1
      by_cases c3 : z.1 = true
      · rw [if_pos c3]
        obtain ⟨l1, l2, l3, l4⟩ := pLs_ok (t := t) hn (few := kFw κ) (m := kMs κ) (k := 0) (p := z.2.1) (s := z.2.2) z2.2 (by omega)
        refine ⟨by rw [l1, hkz]; exact hκ, by omega, fun c4 => ?_⟩
        obtain ⟨j, j1, j2, j3⟩ := l4 c4
        have hsz : sz z.2.2 = kNm κ := by rw [z2.1, y3 c2]; show 0 + kNm κ = kNm κ; omega
        refine ⟨by rw [l1, hkz, j3, hsz]; omega, by rw [l1, hkz, j3, hsz]; omega, fun q => ?_, fun q => ?_⟩
        · rw [l1, hkz] at q
          rw [l2]
          have := z1.2 c3 (by rw [k5 q]; decide)
          rw [k5 q] at this
          exact this
        · rw [l1, hkz] at q
          rw [l2]
          have := z1.2 c3 (by rw [k6 q]; decide)
          rw [k6 q] at this
          exact this
      · rw [if_neg c3]
        exact ⟨by rw [hkz]; exact hκ, by omega, fun q => absurd q c3⟩
    · rw [if_neg c2]
      exact ⟨by rw [y1.1]; exact hκ, by omega, fun q => absurd q c2⟩
  · have e0 : pPs t n s = (false, (pKw t n 9 0 0).2.1, s) := if_neg c1
    rw [e0]
    have hp8 := pKw_p (t := t) (n := n) (j := 9) (k := 0) (p := 0) (by omega) (by omega)
    exact ⟨hs, by show (pKw t n 9 0 0).2.1 ≤ 80; omega, fun z => by cases z⟩
def IAE : String := "java/lang/IllegalArgumentException"
def ISE : String := "java/lang/IllegalStateException"
def NSE : String := "java/util/NoSuchElementException"
set_option maxHeartbeats 4000000 in
set_option maxRecDepth 100000 in
theorem s_putInForce {G : EG} {l : Launch} {h : EH} {D pa ca cap hi mi : Nat} {er fa : Int32} {L : List (Nat × Nat)} {p_ q_ : Pol} (hpc : (pa = D + 95 ∧ ca = D + 101) ∨ (pa = D + 101 ∧ ca = D + 95)) (h0 : h.2 D = some (dOb D pa ca er fa)) (hM : MM G h (D + 88) (D + 89) (D + 90) cap L hi mi) (hQ : PL G h ca q_) : ES G l 1 mX11_putInForce [.ref D] h 0 0 (fun v h' => v = some (.int (nI (pT q_))) ∧ h'.2 D = some (dOb D ca pa er fa) ∧ MM G h' (D + 88) (D + 89) (D + 90) cap [] hi mi ∧ Fr (fun q => q = D ∨ q = D + 88 ∨ q = D + 89 ∨ q = D + 90) h h') eNoX := by
  have ⟨qf_, af_, hM_, hM_2⟩ := hM
  refine es_of (by decide) rfl (Nat.le_of_ble_eq_true rfl) ?_
  refine ex_aload_n rfl dX11_putInForce_0 ?_
  refine ex_get dX11_putInForce_1 gf_X11_63 h0 rfl ?_
  refine ex_astore_n (by decide) rfl dX11_putInForce_4 ?_
  refine ex_aload_n rfl dX11_putInForce_5 ?_
  refine ex_aload_n rfl dX11_putInForce_6 ?_
  refine ex_get dX11_putInForce_7 gf_X11_67 h0 rfl ?_
  refine ex_put dX11_putInForce_10 pf_X11_63 h0 (Nat.le_of_ble_eq_true rfl) rfl rfl ?_
  refine ex_aload_n rfl dX11_putInForce_13 ?_
  refine ex_aload_n rfl dX11_putInForce_14 ?_
  refine ex_put dX11_putInForce_15 pf_X11_67 hup_eq (Nat.le_of_ble_eq_true rfl) rfl rfl ?_
  refine ex_aload_n rfl dX11_putInForce_18 ?_
  refine ex_get dX11_putInForce_19 gf_X11_46 hup_eq rfl ?_
  refine ex_invv (k := 0) (n := 0) (mc' := 0) (ms' := 0) (As := []) dX11_putInForce_22 cv_X11_217 (by decide) (Nat.le_of_ble_eq_true rfl) (Or.inl ⟨_, _, _, _, (hup_ne (show D + 88 ≠ D by omega) (hup_ne (show D + 88 ≠ D by omega) hM_)), rfl⟩) (s_mforget (hM.sm (fun q (hq : q = D + 88 ∨ q = D + 89 ∨ q = D + 90) => hup_ne (by omega) (hup_ne (by omega) rfl)))) (fun v h' q => ?_)
  obtain ⟨rfl, hM2, hF2⟩ := q
  have hD2 := (hF2.2 D (fun (z : D = D + 88 ∨ D = D + 89 ∨ D = D + 90) => by omega)).trans (hup_eq (h := hup h D (dOb D ca ca er fa)) (a := D) (e := dOb D ca pa er fa))
  have hQ2 : PL G _ ca q_ := hQ.sm (fun q (hq : ca ≤ q ∧ q ≤ ca + 5) => (hF2.2 q (fun (z : q = D + 88 ∨ q = D + 89 ∨ q = D + 90) => by omega)).trans (hup_ne (by omega) (hup_ne (by omega) rfl)))
  refine ex_aload_n rfl dX11_putInForce_25 ?_
  refine ex_get dX11_putInForce_26 gf_X11_63 hD2 rfl ?_
  refine ex_invv (k := 0) (n := 0) (mc' := 0) (ms' := 0) (As := []) dX11_putInForce_29 cv_X11_172 (by decide) (Nat.le_of_ble_eq_true rfl) (Or.inl ⟨_, _, _, _, hQ2.1, rfl⟩) (s_ptypes hQ2) (fun v h' q => ?_)
  obtain ⟨rfl, rfl⟩ := q
  refine ex_iret dX11_putInForce_32 rfl ⟨rfl, hD2, hM2, ((Fr.rf.up (Or.inl rfl)).up (Or.inl rfl)).tr (hF2.wk (fun q (z : q = D + 88 ∨ q = D + 89 ∨ q = D + 90) => Or.inr z))⟩
def aPs (x : DS) : Bool × Nat × Stm := pPs (dt x) (dn x) (dS x (dm x))
/-- the desk behind a text that was read, before it is kept -/
def addE (x : DS) : Int32 := if (aPs x).1 then -1 else nI (aPs x).2.1
def addD (x : DS) : DS := ((dt x, 0), (dm x, va_up (dS x) (dm x) (aPs x).2.2), x.2.2.1, x.2.2.2.1, dp x, (addE x, dfa x))
def addK (x : DS) : DS := ((dt x, 0), (dm x + 1, va_up (dS x) (dm x) (aPs x).2.2), x.2.2.1, x.2.2.2.1, dp x, (addE x, dfa x))
set_option maxHeartbeats 4000000 in
set_option maxRecDepth 100000 in
theorem s_add {G : EG} {l : Launch} (hl : l.stackTraces = false) {h : EH} {D : Nat} {x : DS} (hx : DSK G h D x) (hI : dI x) : ES G l 7 mX11_add [.ref D] h 1 6 (fun v h' => v = some (.int (nI (dm x))) ∧ (aPs x).1 = true ∧ dm x < 40 ∧ DSK G h' D (addK x) ∧ GF D h h') (fun E h' => DSK G h' D (addD x) ∧ GF D h h' ∧ ((E = IAE ∧ (aPs x).1 = false) ∨ (E = ISE ∧ (aPs x).1 = true ∧ dm x = 40))) := by
  obtain ⟨pa, ca, rp, wtk, wbr, wf, ftk, fbr, ff, qp, hpc, h0, hT, hR, hDr, hM, ⟨hB1, hb1⟩, ⟨hB2, hb2⟩, hP, hQ, hrp⟩ := hx
  have ⟨qf_, af_, hM_, hM_2⟩ := hM
  have hm40 := hDr.2.2.2
  obtain ⟨ok1, ok2, ok3⟩ := pPs_ok (t := dt x) hT.2.2.1 (hDr.2.2.1 (dm x) (by omega)).2
  refine es_of (by decide) rfl (Nat.le_of_ble_eq_true rfl) ?_
  refine ex_aload_n rfl dX11_add_0 ?_
  refine ex_get dX11_add_1 gf_X11_21 h0 rfl ?_
  refine ex_aload_n rfl dX11_add_4 ?_
  refine ex_get dX11_add_5 gf_X11_28 h0 rfl ?_
  refine ex_invv (k := 1) (n := 6) (mc' := 0) (ms' := 0) (As := []) dX11_add_8 cv_X11_81 (by decide) (Nat.le_of_ble_eq_true rfl) (Or.inl ⟨_, _, _, _, hDr.1, rfl⟩) (s_spare hDr) (fun v h' q => ?_)
  obtain ⟨rfl, rfl⟩ := q
  refine ex_invv (k := 1) (n := 6) (mc' := 0) (ms' := 0) (As := [_]) dX11_add_11 cv_X11_85 (by decide) (Nat.le_of_ble_eq_true rfl) (Or.inl ⟨_, _, _, _, hR, rfl⟩) (s_parse hR hT hI.1 hrp (by omega) (by omega) (hDr.2.2.1 (dm x) (by omega)).1 (by omega) (by omega) (by omega) (by omega) (by omega) (by omega)) (fun v h' q => ?_)
  obtain ⟨rfl, hR1, hS1, hF1⟩ := q
  have hD1 := (hF1.2 D (fun (z : D = D + 3 ∨ D = D + 4 + 2 + 2 * dm x ∨ D = D + 4 + 3 + 2 * dm x) => by omega)).trans h0
  have hT1 := hT.sm (h' := _) (fun q (hq : q = D + 1 ∨ q = D + 2) => hF1.2 q (fun (z : q = D + 3 ∨ q = D + 4 + 2 + 2 * dm x ∨ q = D + 4 + 3 + 2 * dm x) => by omega))
  have hDr1 := hDr.put (by omega) hS1 ok1 (fun q hq n1 n2 => hF1.2 q (fun (z : q = D + 3 ∨ q = D + 4 + 2 + 2 * dm x ∨ q = D + 4 + 3 + 2 * dm x) => by have := hq.1; omega))
  refine ex_istore_n (by decide) rfl dX11_add_14 ?_
  refine ex_aload_n rfl dX11_add_15 ?_
  refine ex_iload_n rfl dX11_add_16 ?_
  refine ex_ifB_eq (tgt := 24) (by decide) dX11_add_17 (fun c1 => ?_) (fun c1 => ?_)
  · refine ex_aload_n rfl dX11_add_24 ?_
    refine ex_get dX11_add_25 gf_X11_21 hD1 rfl ?_
    refine ex_invv (k := 1) (n := 6) (mc' := 0) (ms' := 0) (As := []) dX11_add_28 cv_X11_89 (by decide) (Nat.le_of_ble_eq_true rfl) (Or.inl ⟨_, _, _, _, hR1, rfl⟩) (s_stoppedAt hR1) (fun v h' q => ?_)
    obtain ⟨rfl, rfl⟩ := q
    rw [show nI (pPs (dt x) (dn x) (dS x (dm x))).2.1 = addE x from (if_neg (by rw [show (aPs x).1 = false from c1]; decide)).symm]
    refine ex_put dX11_add_31 pf_X11_70 hD1 (Nat.le_of_ble_eq_true rfl) rfl rfl ?_
    refine ex_aload_n rfl dX11_add_34 ?_
    refine ex_get dX11_add_35 gf_X11_10 hup_eq rfl ?_
    refine ex_invv (k := 1) (n := 6) (mc' := 0) (ms' := 0) (As := []) dX11_add_38 cv_X11_93 (by decide) (Nat.le_of_ble_eq_true rfl) (Or.inl ⟨_, _, _, _, (hup_ne (by omega) hT1.1), rfl⟩) (s_tclear (hT1.sm (fun q (hq : q = D + 1 ∨ q = D + 2) => hup_ne (by omega) rfl))) (fun v h' q => ?_)
    obtain ⟨rfl, hT3, hF3⟩ := q
    have hF := ((hF1.wk (P' := fun q => q = D ∨ q = D + 1 ∨ q = D + 2 ∨ q = D + 3 ∨ q = D + 4 + 2 + 2 * dm x ∨ q = D + 4 + 3 + 2 * dm x) (fun q (z : q = D + 3 ∨ q = D + 4 + 2 + 2 * dm x ∨ q = D + 4 + 3 + 2 * dm x) => by omega)).up (a := D) (e := dOb D pa ca (addE x) (dfa x)) (Or.inl rfl)).tr (hF3.wk (P' := fun q => q = D ∨ q = D + 1 ∨ q = D + 2 ∨ q = D + 3 ∨ q = D + 4 + 2 + 2 * dm x ∨ q = D + 4 + 3 + 2 * dm x) (fun q (z : q = D + 1 ∨ q = D + 2) => by omega))
    have hD3 := (hF3.2 D (fun (z : D = D + 1 ∨ D = D + 2) => by omega)).trans (hup_eq (e := dOb D pa ca (addE x) (dfa x)))
    have hDr3 := hDr1.sm (h' := _) (fun q (hq : D + 4 ≤ q ∧ q ≤ D + 4 + 83) => (hF3.2 q (fun (z : q = D + 1 ∨ q = D + 2) => by omega)).trans (hup_ne (by omega) rfl))
    have hR3 := hR1.sm ((hF3.2 (D + 3) (fun (z : D + 3 = D + 1 ∨ D + 3 = D + 2) => by omega)).trans (hup_ne (by omega) rfl))
    have hK3 : DSK G _ D (addD x) := ⟨pa, ca, _, wtk, wbr, wf, ftk, fbr, ff, qp, hpc, hD3, hT3, hR3, hDr3, hM.sm (fun q (hq : q = D + 88 ∨ q = D + 89 ∨ q = D + 90) => hF.2 q (fun (z : q = D ∨ q = D + 1 ∨ q = D + 2 ∨ q = D + 3 ∨ q = D + 4 + 2 + 2 * dm x ∨ q = D + 4 + 3 + 2 * dm x) => by omega)), ⟨hB1.sm (fun q (hq : q = D + 91 ∨ q = D + 92) => hF.2 q (fun (z : q = D ∨ q = D + 1 ∨ q = D + 2 ∨ q = D + 3 ∨ q = D + 4 + 2 + 2 * dm x ∨ q = D + 4 + 3 + 2 * dm x) => by omega)), hb1⟩, ⟨hB2.sm (fun q (hq : q = D + 93 ∨ q = D + 94) => hF.2 q (fun (z : q = D ∨ q = D + 1 ∨ q = D + 2 ∨ q = D + 3 ∨ q = D + 4 + 2 + 2 * dm x ∨ q = D + 4 + 3 + 2 * dm x) => by omega)), hb2⟩, hP.sm (fun q (hq : pa ≤ q ∧ q ≤ pa + 5) => hF.2 q (fun (z : q = D ∨ q = D + 1 ∨ q = D + 2 ∨ q = D + 3 ∨ q = D + 4 + 2 + 2 * dm x ∨ q = D + 4 + 3 + 2 * dm x) => by omega)), hQ.sm (fun q (hq : ca ≤ q ∧ q ≤ ca + 5) => hF.2 q (fun (z : q = D ∨ q = D + 1 ∨ q = D + 2 ∨ q = D + 3 ∨ q = D + 4 + 2 + 2 * dm x ∨ q = D + 4 + 3 + 2 * dm x) => by omega)), ok2⟩
    have hG3 : GF D _ _ := GF.of hF (fun q (z : q = D ∨ q = D + 1 ∨ q = D + 2 ∨ q = D + 3 ∨ q = D + 4 + 2 + 2 * dm x ∨ q = D + 4 + 3 + 2 * dm x) => by omega)
    refine ex_iload_n rfl dX11_add_41 ?_
    refine ex_ifB_ne (tgt := 55) (by decide) dX11_add_42 (fun c2 => ?_) (fun c2 => ?_)
    · exact absurd (c1.symm.trans c2) (by decide)
    · exact ex_throw (k := 0) (n := 0) hl rfl rfl eth_0 (i := 0) (by decide) dX11_add_45 dX11_add_48 dX11_add_49 dX11_add_51 dX11_add_54 (by decide) (Nat.le_of_ble_eq_true rfl) (fun z hz => ⟨hK3, ⟨Nat.le_trans hG3.1 hz, hG3.2⟩, Or.inl ⟨rfl, c1⟩⟩)
  · refine ex_iconst (v := (-1)) (by decide) dX11_add_20 ?_
    rw [show (-1 : Int32) = addE x from (if_pos c1).symm]
    refine ex_goto (tgt := 31) (by decide) dX11_add_21 ?_
    refine ex_put dX11_add_31 pf_X11_70 hD1 (Nat.le_of_ble_eq_true rfl) rfl rfl ?_
    refine ex_aload_n rfl dX11_add_34 ?_
    refine ex_get dX11_add_35 gf_X11_10 hup_eq rfl ?_
    refine ex_invv (k := 1) (n := 6) (mc' := 0) (ms' := 0) (As := []) dX11_add_38 cv_X11_93 (by decide) (Nat.le_of_ble_eq_true rfl) (Or.inl ⟨_, _, _, _, (hup_ne (by omega) hT1.1), rfl⟩) (s_tclear (hT1.sm (fun q (hq : q = D + 1 ∨ q = D + 2) => hup_ne (by omega) rfl))) (fun v h' q => ?_)
    obtain ⟨rfl, hT3, hF3⟩ := q
    have hF := ((hF1.wk (P' := fun q => q = D ∨ q = D + 1 ∨ q = D + 2 ∨ q = D + 3 ∨ q = D + 4 + 2 + 2 * dm x ∨ q = D + 4 + 3 + 2 * dm x) (fun q (z : q = D + 3 ∨ q = D + 4 + 2 + 2 * dm x ∨ q = D + 4 + 3 + 2 * dm x) => by omega)).up (a := D) (e := dOb D pa ca (addE x) (dfa x)) (Or.inl rfl)).tr (hF3.wk (P' := fun q => q = D ∨ q = D + 1 ∨ q = D + 2 ∨ q = D + 3 ∨ q = D + 4 + 2 + 2 * dm x ∨ q = D + 4 + 3 + 2 * dm x) (fun q (z : q = D + 1 ∨ q = D + 2) => by omega))
    have hD3 := (hF3.2 D (fun (z : D = D + 1 ∨ D = D + 2) => by omega)).trans (hup_eq (e := dOb D pa ca (addE x) (dfa x)))
    have hDr3 := hDr1.sm (h' := _) (fun q (hq : D + 4 ≤ q ∧ q ≤ D + 4 + 83) => (hF3.2 q (fun (z : q = D + 1 ∨ q = D + 2) => by omega)).trans (hup_ne (by omega) rfl))
    have hR3 := hR1.sm ((hF3.2 (D + 3) (fun (z : D + 3 = D + 1 ∨ D + 3 = D + 2) => by omega)).trans (hup_ne (by omega) rfl))
    have hK3 : DSK G _ D (addD x) := ⟨pa, ca, _, wtk, wbr, wf, ftk, fbr, ff, qp, hpc, hD3, hT3, hR3, hDr3, hM.sm (fun q (hq : q = D + 88 ∨ q = D + 89 ∨ q = D + 90) => hF.2 q (fun (z : q = D ∨ q = D + 1 ∨ q = D + 2 ∨ q = D + 3 ∨ q = D + 4 + 2 + 2 * dm x ∨ q = D + 4 + 3 + 2 * dm x) => by omega)), ⟨hB1.sm (fun q (hq : q = D + 91 ∨ q = D + 92) => hF.2 q (fun (z : q = D ∨ q = D + 1 ∨ q = D + 2 ∨ q = D + 3 ∨ q = D + 4 + 2 + 2 * dm x ∨ q = D + 4 + 3 + 2 * dm x) => by omega)), hb1⟩, ⟨hB2.sm (fun q (hq : q = D + 93 ∨ q = D + 94) => hF.2 q (fun (z : q = D ∨ q = D + 1 ∨ q = D + 2 ∨ q = D + 3 ∨ q = D + 4 + 2 + 2 * dm x ∨ q = D + 4 + 3 + 2 * dm x) => by omega)), hb2⟩, hP.sm (fun q (hq : pa ≤ q ∧ q ≤ pa + 5) => hF.2 q (fun (z : q = D ∨ q = D + 1 ∨ q = D + 2 ∨ q = D + 3 ∨ q = D + 4 + 2 + 2 * dm x ∨ q = D + 4 + 3 + 2 * dm x) => by omega)), hQ.sm (fun q (hq : ca ≤ q ∧ q ≤ ca + 5) => hF.2 q (fun (z : q = D ∨ q = D + 1 ∨ q = D + 2 ∨ q = D + 3 ∨ q = D + 4 + 2 + 2 * dm x ∨ q = D + 4 + 3 + 2 * dm x) => by omega)), ok2⟩
    have hG3 : GF D _ _ := GF.of hF (fun q (z : q = D ∨ q = D + 1 ∨ q = D + 2 ∨ q = D + 3 ∨ q = D + 4 + 2 + 2 * dm x ∨ q = D + 4 + 3 + 2 * dm x) => by omega)
    refine ex_iload_n rfl dX11_add_41 ?_
    refine ex_ifB_ne (tgt := 55) (by decide) dX11_add_42 (fun c3 => ?_) (fun c3 => ?_)
    · refine ex_aload_n rfl dX11_add_55 ?_
      refine ex_get dX11_add_56 gf_X11_28 hD3 rfl ?_
      refine ex_invv (k := 1) (n := 6) (mc' := 0) (ms' := 0) (As := []) dX11_add_59 cv_X11_103 (by decide) (Nat.le_of_ble_eq_true rfl) (Or.inl ⟨_, _, _, _, hDr3.1, rfl⟩) (s_hasRoom hDr3) (fun v h' q => ?_)
      obtain ⟨rfl, rfl⟩ := q
      refine ex_ifB_ne (tgt := 75) (by decide) dX11_add_62 (fun c4 => ?_) (fun c4 => ?_)
      · refine ex_aload_n rfl dX11_add_75 ?_
        refine ex_get dX11_add_76 gf_X11_28 hD3 rfl ?_
        refine ex_invv (k := 1) (n := 6) (mc' := 0) (ms' := 0) (As := []) dX11_add_79 cv_X11_112 (by decide) (Nat.le_of_ble_eq_true rfl) (Or.inl ⟨_, _, _, _, hDr3.1, rfl⟩) (s_keepSpare hDr3 (of_decide_eq_true c4)) (fun v h' q => ?_)
        obtain ⟨rfl, hDr4, hF4⟩ := q
        have hFF := (hF.wk (P' := fun q => (q = D ∨ q = D + 1 ∨ q = D + 2 ∨ q = D + 3 ∨ q = D + 4 + 2 + 2 * dm x ∨ q = D + 4 + 3 + 2 * dm x) ∨ q = D + 4) (fun q z => Or.inl z)).tr (hF4.wk (P' := fun q => (q = D ∨ q = D + 1 ∨ q = D + 2 ∨ q = D + 3 ∨ q = D + 4 + 2 + 2 * dm x ∨ q = D + 4 + 3 + 2 * dm x) ∨ q = D + 4) (fun q z => Or.inr z))
        refine ex_iret dX11_add_82 rfl ⟨rfl, c1, of_decide_eq_true c4, ⟨pa, ca, _, wtk, wbr, wf, ftk, fbr, ff, qp, hpc, (hF4.2 D (fun (z : D = D + 4) => by omega)).trans hD3, hT3.sm (fun q (hq : q = D + 1 ∨ q = D + 2) => hF4.2 q (fun (z : q = D + 4) => by omega)), hR3.sm (hF4.2 _ (fun (z : D + 3 = D + 4) => by omega)), hDr4, hM.sm (fun q (hq : q = D + 88 ∨ q = D + 89 ∨ q = D + 90) => hFF.2 q (fun (z : (q = D ∨ q = D + 1 ∨ q = D + 2 ∨ q = D + 3 ∨ q = D + 4 + 2 + 2 * dm x ∨ q = D + 4 + 3 + 2 * dm x) ∨ q = D + 4) => by omega)), ⟨hB1.sm (fun q (hq : q = D + 91 ∨ q = D + 92) => hFF.2 q (fun (z : (q = D ∨ q = D + 1 ∨ q = D + 2 ∨ q = D + 3 ∨ q = D + 4 + 2 + 2 * dm x ∨ q = D + 4 + 3 + 2 * dm x) ∨ q = D + 4) => by omega)), hb1⟩, ⟨hB2.sm (fun q (hq : q = D + 93 ∨ q = D + 94) => hFF.2 q (fun (z : (q = D ∨ q = D + 1 ∨ q = D + 2 ∨ q = D + 3 ∨ q = D + 4 + 2 + 2 * dm x ∨ q = D + 4 + 3 + 2 * dm x) ∨ q = D + 4) => by omega)), hb2⟩, hP.sm (fun q (hq : pa ≤ q ∧ q ≤ pa + 5) => hFF.2 q (fun (z : (q = D ∨ q = D + 1 ∨ q = D + 2 ∨ q = D + 3 ∨ q = D + 4 + 2 + 2 * dm x ∨ q = D + 4 + 3 + 2 * dm x) ∨ q = D + 4) => by omega)), hQ.sm (fun q (hq : ca ≤ q ∧ q ≤ ca + 5) => hFF.2 q (fun (z : (q = D ∨ q = D + 1 ∨ q = D + 2 ∨ q = D + 3 ∨ q = D + 4 + 2 + 2 * dm x ∨ q = D + 4 + 3 + 2 * dm x) ∨ q = D + 4) => by omega)), ok2⟩, GF.of hFF (fun q (z : (q = D ∨ q = D + 1 ∨ q = D + 2 ∨ q = D + 3 ∨ q = D + 4 + 2 + 2 * dm x ∨ q = D + 4 + 3 + 2 * dm x) ∨ q = D + 4) => by omega)⟩
      · exact ex_throw (k := 0) (n := 0) hl rfl rfl eth_1 (i := 1) (by decide) dX11_add_65 dX11_add_68 dX11_add_69 dX11_add_71 dX11_add_74 (by decide) (Nat.le_of_ble_eq_true rfl) (fun z hz => ⟨hK3, ⟨Nat.le_trans hG3.1 hz, hG3.2⟩, Or.inr ⟨rfl, c1, by have := of_decide_eq_false c4; have := hDr.2.2.2; omega⟩⟩)
    · exact absurd (c1.symm.trans c3) (by decide)
def mayH (x : DS) (q k : Nat) : DS := (x.1, x.2.1, (dcap x, mhit (dL x) q k, dhi x + 1, dmi x), x.2.2.2)
def mayM (x : DS) (q a : Nat) : DS := (x.1, x.2.1, (dcap x, mmiss (dcap x) (dL x) q a, dhi x, dmi x + 1), x.2.2.2)
theorem cel_lt {s t c : Nat} (hs : s < 8) (ht : t < 8) (hc : c < 3) : cel s t c < 192 := by unfold cel; omega
set_option maxHeartbeats 4000000 in
set_option maxRecDepth 100000 in
theorem s_may {G : EG} {l : Launch} {h : EH} {D : Nat} {x : DS} (hx : DSK G h D x) (hI : dI x) {s t c : Nat} (hs : s < pT (dp x)) (ht : t < pT (dp x)) (hc : c < pC (dp x)) : ES G l 6 mX11_may [.ref D, .int (nI s), .int (nI t), .int (nI c)] h 1 6 (fun v h' => (lk (dL x) (cel s t c) = none ∧ v = some (.int (nI (perm (dp x) s t c))) ∧ DSK G h' D (mayM x (cel s t c) (perm (dp x) s t c)) ∧ GF D h h') ∨ ∃ k, lk (dL x) (cel s t c) = some k ∧ v = some (.int (nI (la (dL x) k))) ∧ DSK G h' D (mayH x (cel s t c) k) ∧ GF D h h') eNoX := by
  obtain ⟨pa, ca, rp, wtk, wbr, wf, ftk, fbr, ff, qp, hpc, h0, hT, hR, hDr, hM, ⟨hB1, hb1⟩, ⟨hB2, hb2⟩, hP, hQ, hrp⟩ := hx
  have ⟨qf_, af_, hM_, hM_2⟩ := hM
  have hT8 := hP.2.2.2.2.2.2.1
  have hC3 := hP.2.2.2.2.2.2.2.1
  have hcl := cel_lt (s := s) (t := t) (c := c) (by omega) (by omega) (by omega)
  refine es_of (by decide) rfl (Nat.le_of_ble_eq_true rfl) ?_
  refine ex_aload_n rfl dX11_may_0 ?_
  refine ex_get dX11_may_1 gf_X11_63 h0 rfl ?_
  refine ex_iload_n rfl dX11_may_4 ?_
  refine ex_iload_n rfl dX11_may_5 ?_
  refine ex_iload_n rfl dX11_may_6 ?_
  refine ex_invv (k := 1) (n := 6) (mc' := 0) (ms' := 0) (As := [_, _, _]) dX11_may_7 cv_X11_139 (by decide) (Nat.le_of_ble_eq_true rfl) (Or.inl ⟨_, _, _, _, hP.1, rfl⟩) (s_has hP _ _ _ (B := true) ⟨fun _ => ⟨(inR_nI (by omega) (by omega)).mpr hs, (inR_nI (by omega) (by omega)).mpr ht, (inR_nI (by omega) (by omega)).mpr hc⟩, fun _ => rfl⟩) (fun v h' q => ?_)
  obtain ⟨rfl, rfl⟩ := q
  refine ex_ifB_ne (tgt := 23) (by decide) dX11_may_10 (fun c1 => ?_) (fun c1 => ?_)
  · refine ex_iload_n rfl dX11_may_23 ?_
    refine ex_iload_n rfl dX11_may_24 ?_
    refine ex_iload_n rfl dX11_may_25 ?_
    refine ex_invs (k := 1) (n := 6) (mc' := 0) (ms' := 0) (As := [_, _, _]) dX11_may_26 cs_X11_148 (by decide) (Nat.le_of_ble_eq_true rfl) (s_cellOf _ s t c) (fun v h' q => ?_)
    obtain ⟨rfl, rfl⟩ := q
    change Ex G l 6 mX11_may _ _ 1 6 29 _ [.int (nI (cel s t c))] _
    refine ex_istore (by decide) rfl dX11_may_29 ?_
    refine ex_aload_n rfl dX11_may_31 ?_
    refine ex_get dX11_may_32 gf_X11_46 h0 rfl ?_
    refine ex_iload rfl dX11_may_35 ?_
    cases hk : lk (dL x) (cel s t c) with
    | none =>
      refine ex_invv (k := 1) (n := 6) (mc' := 0) (ms' := 0) (As := [_]) dX11_may_37 cv_X11_152 (by decide) (Nat.le_of_ble_eq_true rfl) (Or.inl ⟨_, _, _, _, hM_, rfl⟩) (s_mrecall hM (q := cel s t c) (by omega)) (fun v h' q => ?_)
      obtain ⟨rfl, rfl⟩ := q.1 hk
      refine ex_istore (by decide) rfl dX11_may_40 ?_
      refine ex_iload rfl dX11_may_42 ?_
      refine ex_iconst (v := (-1)) (by decide) dX11_may_44 ?_
      refine ex_icmp_eq (tgt := 51) (by decide) dX11_may_45 (fun c2 => ?_) (fun c2 => ?_)
      · refine ex_aload_n rfl dX11_may_51 ?_
        refine ex_get dX11_may_52 gf_X11_63 h0 rfl ?_
        refine ex_iload_n rfl dX11_may_55 ?_
        refine ex_iload_n rfl dX11_may_56 ?_
        refine ex_iload_n rfl dX11_may_57 ?_
        refine ex_invv (k := 1) (n := 6) (mc' := 0) (ms' := 0) (As := [_, _, _]) dX11_may_58 cv_X11_156 (by decide) (Nat.le_of_ble_eq_true rfl) (Or.inl ⟨_, _, _, _, hP.1, rfl⟩) (s_permitted hP hs ht hc) (fun v h' q => ?_)
        obtain ⟨rfl, rfl⟩ := q
        refine ex_istore (by decide) rfl dX11_may_61 ?_
        refine ex_aload_n rfl dX11_may_63 ?_
        refine ex_get dX11_may_64 gf_X11_46 h0 rfl ?_
        refine ex_iload rfl dX11_may_67 ?_
        refine ex_iload rfl dX11_may_69 ?_
        refine ex_invv (k := 1) (n := 6) (mc' := 0) (ms' := 0) (As := [_, _]) dX11_may_71 cv_X11_159 (by decide) (Nat.le_of_ble_eq_true rfl) (Or.inl ⟨_, _, _, _, hM_, rfl⟩) (s_mkeep hM (q := cel s t c) (x := perm (dp x) s t c) (by omega)) (fun v h' q => ?_)
        obtain ⟨rfl, hM1, hF1⟩ := q
        refine ex_iload rfl dX11_may_74 ?_
        refine ex_iret dX11_may_76 rfl (Or.inl ⟨rfl, rfl, ⟨pa, ca, rp, wtk, wbr, wf, ftk, fbr, ff, qp, hpc, (hF1.2 D (fun (z : D = D + 88 ∨ D = D + 89 ∨ D = D + 90) => by omega)).trans h0, hT.sm (fun q (hq : q = D + 1 ∨ q = D + 2) => hF1.2 q (fun (z : q = D + 88 ∨ q = D + 89 ∨ q = D + 90) => by omega)), hR.sm (hF1.2 _ (fun (z : (D + 3) = D + 88 ∨ (D + 3) = D + 89 ∨ (D + 3) = D + 90) => by omega)), hDr.sm (fun q (hq : D + 4 ≤ q ∧ q ≤ D + 4 + 83) => hF1.2 q (fun (z : q = D + 88 ∨ q = D + 89 ∨ q = D + 90) => by omega)), hM1, ⟨hB1.sm (fun q (hq : q = D + 91 ∨ q = D + 92) => hF1.2 q (fun (z : q = D + 88 ∨ q = D + 89 ∨ q = D + 90) => by omega)), hb1⟩, ⟨hB2.sm (fun q (hq : q = D + 93 ∨ q = D + 94) => hF1.2 q (fun (z : q = D + 88 ∨ q = D + 89 ∨ q = D + 90) => by omega)), hb2⟩, hP.sm (fun q (hq : pa ≤ q ∧ q ≤ pa + 5) => hF1.2 q (fun (z : q = D + 88 ∨ q = D + 89 ∨ q = D + 90) => by omega)), hQ.sm (fun q (hq : ca ≤ q ∧ q ≤ ca + 5) => hF1.2 q (fun (z : q = D + 88 ∨ q = D + 89 ∨ q = D + 90) => by omega)), hrp⟩, GF.of hF1 (fun q (z : q = D + 88 ∨ q = D + 89 ∨ q = D + 90) => by omega)⟩)
      · exact absurd rfl c2
    | some k =>
      refine ex_invv (k := 1) (n := 6) (mc' := 0) (ms' := 0) (As := [_]) dX11_may_37 cv_X11_152 (by decide) (Nat.le_of_ble_eq_true rfl) (Or.inl ⟨_, _, _, _, hM_, rfl⟩) (s_mrecall hM (q := cel s t c) (by omega)) (fun v h' q => ?_)
      obtain ⟨rfl, hM1, hF1⟩ := q.2 k hk
      refine ex_istore (by decide) rfl dX11_may_40 ?_
      refine ex_iload rfl dX11_may_42 ?_
      refine ex_iconst (v := (-1)) (by decide) dX11_may_44 ?_
      refine ex_icmp_eq (tgt := 51) (by decide) dX11_may_45 (fun c3 => ?_) (fun c3 => ?_)
      · exact absurd c3 (nI_ne_m1 (Nat.lt_trans (hI.2.2.1 k) (by decide)))
      · refine ex_iload rfl dX11_may_48 ?_
        refine ex_iret dX11_may_50 rfl (Or.inr ⟨k, rfl, rfl, ⟨pa, ca, rp, wtk, wbr, wf, ftk, fbr, ff, qp, hpc, (hF1.2 D (fun (z : D = D + 88 ∨ D = D + 89 ∨ D = D + 90) => by omega)).trans h0, hT.sm (fun q (hq : q = D + 1 ∨ q = D + 2) => hF1.2 q (fun (z : q = D + 88 ∨ q = D + 89 ∨ q = D + 90) => by omega)), hR.sm (hF1.2 _ (fun (z : (D + 3) = D + 88 ∨ (D + 3) = D + 89 ∨ (D + 3) = D + 90) => by omega)), hDr.sm (fun q (hq : D + 4 ≤ q ∧ q ≤ D + 4 + 83) => hF1.2 q (fun (z : q = D + 88 ∨ q = D + 89 ∨ q = D + 90) => by omega)), hM1, ⟨hB1.sm (fun q (hq : q = D + 91 ∨ q = D + 92) => hF1.2 q (fun (z : q = D + 88 ∨ q = D + 89 ∨ q = D + 90) => by omega)), hb1⟩, ⟨hB2.sm (fun q (hq : q = D + 93 ∨ q = D + 94) => hF1.2 q (fun (z : q = D + 88 ∨ q = D + 89 ∨ q = D + 90) => by omega)), hb2⟩, hP.sm (fun q (hq : pa ≤ q ∧ q ≤ pa + 5) => hF1.2 q (fun (z : q = D + 88 ∨ q = D + 89 ∨ q = D + 90) => by omega)), hQ.sm (fun q (hq : ca ≤ q ∧ q ≤ ca + 5) => hF1.2 q (fun (z : q = D + 88 ∨ q = D + 89 ∨ q = D + 90) => by omega)), hrp⟩, GF.of hF1 (fun q (z : q = D + 88 ∨ q = D + 89 ∨ q = D + 90) => by omega)⟩)
  · cases c1
set_option maxHeartbeats 4000000 in
set_option maxRecDepth 100000 in
theorem s_mayNo {G : EG} {l : Launch} (hl : l.stackTraces = false) {h : EH} {D : Nat} {x : DS} (hx : DSK G h D x) {s t c : Int32} (hn : ¬ (inR s (pT (dp x)) ∧ inR t (pT (dp x)) ∧ inR c (pC (dp x)))) : ES G l 6 mX11_may [.ref D, .int s, .int t, .int c] h 1 6 (fun _ _ => False) (fun E h' => E = NSE ∧ DSK G h' D x ∧ GF D h h') := by
  have hx0 := hx
  obtain ⟨pa, ca, rp, wtk, wbr, wf, ftk, fbr, ff, qp, hpc, h0, hT, hR, hDr, hM, ⟨hB1, hb1⟩, ⟨hB2, hb2⟩, hP, hQ, hrp⟩ := hx
  have ⟨qf_, af_, hM_, hM_2⟩ := hM
  refine es_of (by decide) rfl (Nat.le_of_ble_eq_true rfl) ?_
  refine ex_aload_n rfl dX11_may_0 ?_
  refine ex_get dX11_may_1 gf_X11_63 h0 rfl ?_
  refine ex_iload_n rfl dX11_may_4 ?_
  refine ex_iload_n rfl dX11_may_5 ?_
  refine ex_iload_n rfl dX11_may_6 ?_
  refine ex_invv (k := 1) (n := 6) (mc' := 0) (ms' := 0) (As := [_, _, _]) dX11_may_7 cv_X11_139 (by decide) (Nat.le_of_ble_eq_true rfl) (Or.inl ⟨_, _, _, _, hP.1, rfl⟩) (s_has hP _ _ _ (B := false) ⟨fun z => (by cases z), fun z => absurd z hn⟩) (fun v h' q => ?_)
  obtain ⟨rfl, rfl⟩ := q
  refine ex_ifB_ne (tgt := 23) (by decide) dX11_may_10 (fun c1 => ?_) (fun c1 => ?_)
  · cases c1
  · exact ex_throw (k := 0) (n := 0) hl rfl rfl eth_2 (i := 4) (by decide) dX11_may_13 dX11_may_16 dX11_may_17 dX11_may_19 dX11_may_22 (by decide) (Nat.le_of_ble_eq_true rfl) (fun z hz => ⟨rfl, hx0, hz, fun _ _ _ => rfl⟩)
/-- the desk when a policy came into force -/
def putD (x : DS) (p : Pol) (F : List Nat) (fa : Int32) : DS := (x.1, x.2.1, (dcap x, [], dhi x, dmi x), (dW x, F), p, (der x, fa))
def ffn (x : DS) : Nat → Nat := fun j => (dF x).getD j 0
theorem WF_c {f g : Nat → Nat} {n : Nat} (e : ∀ j, j < n → f j = g j) (h : WF f n) : WF g n := by
  have hh := h
  obtain ⟨⟨h1, h2, h3⟩, h4, h5, h6, h7⟩ := h
  have e0 := e 0 (by omega)
  have e1 := e 1 (by omega)
  have hn : ∀ c, c < f 1 → ∀ k, k < 2 * (f 0 * f 0) + 5 → bAtc (f 0) (f 1) c + k < n := fun c hc k hk => by rw [h4]; exact blk_lt hc hk
  refine ⟨⟨h1, by rw [← e0]; exact h2, by rw [← e1]; exact h3⟩, by rw [← e0, ← e1]; exact h4, fun c hc => ?_, fun t ht => ?_, fun c hc k hk => ?_⟩
  · rw [← e1] at hc
    rw [← e _ (by rw [h4]; show 2 + c < 2 + f 1 + f 0 + _; omega)]
    exact h5 c hc
  · rw [← e0] at ht
    rw [← e1, ← e _ (by rw [h4]; show 2 + f 1 + t < 2 + f 1 + f 0 + _; omega)]
    exact h6 t ht
  · rw [← e1] at hc
    rw [← e0] at hk
    rw [← e0, ← e1, ← e _ (hn c hc k hk), ← e (2 + c) (by rw [h4]; show 2 + c < 2 + f 1 + f 0 + _; omega)]
    exact h7 c hc k hk
theorem RDP_c {f g : Nat → Nat} {n : Nat} {p : Pol} (e : ∀ j, j < n → f j = g j) (h : WF f n) (hr : RDP f p) : RDP g p := by
  obtain ⟨⟨h1, h2, h3⟩, h4, h5, h6, h7⟩ := h
  have e0 := e 0 (by omega)
  have e1 := e 1 (by omega)
  have hn : ∀ c, c < f 1 → ∀ k, k < 2 * (f 0 * f 0) + 5 → bAtc (f 0) (f 1) c + k < n := fun c hc k hk => by rw [h4]; exact blk_lt hc hk
  obtain ⟨⟨r1, r2⟩, r3, r4, r5⟩ := hr
  refine ⟨⟨by rw [← e0]; exact r1, by rw [← e1]; exact r2⟩, fun c hc => ?_, fun t ht => ?_, fun c hc => ?_⟩
  · rw [← e1] at hc
    rw [← e _ (by rw [h4]; show 2 + c < 2 + f 1 + f 0 + _; omega)]
    exact r3 c hc
  · rw [← e0] at ht
    rw [← e1, ← e _ (by rw [h4]; show 2 + f 1 + t < 2 + f 1 + f 0 + _; omega)]
    exact r4 t ht
  · rw [← e1] at hc
    rw [← e0, ← e1]
    obtain ⟨a1, a2, a3⟩ := r5 c hc
    refine ⟨fun s t hs ht => ?_, fun s t hs ht => ?_, fun w hw => ?_⟩
    · rw [← e _ (hn c hc _ (by have := row_le hs; omega))]; exact a1 s t hs ht
    · rw [← e _ (hn c hc _ (by have := row_le hs; omega))]; exact a2 s t hs ht
    · rw [← e _ (hn c hc _ (by omega))]; exact a3 w hw
set_option maxHeartbeats 4000000 in
set_option maxRecDepth 100000 in
theorem s_read {G : EG} {l : Launch} (hl : l.stackTraces = false) {h : EH} {D : Nat} {x : DS} (hx : DSK G h D x) (hI : dI x) : ES G l 6 mX11_read [.ref D] h 1 6 (fun v h' => ∃ p', v = some (.int (nI (pT p'))) ∧ WF (ffn x) (dF x).length ∧ RDP (ffn x) p' ∧ DSK G h' D (putD x p' [] (dfa x)) ∧ GF D h h') (fun E h' => E = IAE ∧ ¬ WF (ffn x) (dF x).length ∧ DSK G h' D (x.1, x.2.1, x.2.2.1, (dW x, []), x.2.2.2.2) ∧ GF D h h') := by
  obtain ⟨pa, ca, rp, wtk, wbr, wf, ftk, fbr, ff, qp, hpc, h0, hT, hR, hDr, hM, ⟨hB1, hb1⟩, ⟨hB2, hb2⟩, hP, hQ, hrp⟩ := hx
  have ⟨qf_, af_, hM_, hM_2⟩ := hM
  refine es_of (by decide) rfl (Nat.le_of_ble_eq_true rfl) ?_
  refine ex_aload_n rfl dX11_read_0 ?_
  refine ex_get dX11_read_1 gf_X11_57 h0 rfl ?_
  refine ex_aload_n rfl dX11_read_4 ?_
  refine ex_get dX11_read_5 gf_X11_67 h0 rfl ?_
  refine ex_invs (k := 1) (n := 6) (mc' := 0) (ms' := 0) (As := [_, _]) dX11_read_8 cs_X11_210 (by decide) (Nat.le_of_ble_eq_true rfl) (s_decode (e := D + 93) (eb := D + 94) (b := ca) (by omega) (by omega) (fun j hj => by rw [hb2.2 j hj]; exact Nat.lt_trans (hI.2.2.2 j) (by decide)) hQ hB2) (fun v h' q => ?_)
  obtain ⟨p1, tk1, br1, rfl, hQ1, hB3, hrd, hF1⟩ := q
  have hD1 := (hF1.2 D (fun (z : (D = D + 93 ∨ D = D + 94) ∨ (ca ≤ D ∧ D ≤ ca + 5)) => by omega)).trans h0
  have hM1 := hM.sm (h' := _) (fun q (hq : q = D + 88 ∨ q = D + 89 ∨ q = D + 90) => hF1.2 q (fun (z : (q = D + 93 ∨ q = D + 94) ∨ (ca ≤ q ∧ q ≤ ca + 5)) => by omega))
  refine ex_istore_n (by decide) rfl dX11_read_11 ?_
  refine ex_aload_n rfl dX11_read_12 ?_
  refine ex_get dX11_read_13 gf_X11_57 hD1 rfl ?_
  refine ex_invv (k := 1) (n := 6) (mc' := 0) (ms' := 0) (As := []) dX11_read_16 cv_X11_214 (by decide) (Nat.le_of_ble_eq_true rfl) (Or.inl ⟨_, _, _, _, hB3.1, rfl⟩) (s_bclear hB3) (fun v h' q => ?_)
  obtain ⟨rfl, hB4, hF2⟩ := q
  have hD2 := (hF2.2 D (fun (z : D = D + 93 ∨ D = D + 94) => by omega)).trans hD1
  have hF := hF1.tr (hF2.wk (P' := fun q => (q = D + 93 ∨ q = D + 94) ∨ (ca ≤ q ∧ q ≤ ca + 5)) (fun q (z : q = D + 93 ∨ q = D + 94) => Or.inl z))
  have hM2 := hM1.sm (h' := _) (fun q (hq : q = D + 88 ∨ q = D + 89 ∨ q = D + 90) => hF2.2 q (fun (z : q = D + 93 ∨ q = D + 94) => by omega))
  have hQ2 := hQ1.sm (h' := _) (fun q (hq : ca ≤ q ∧ q ≤ ca + 5) => hF2.2 q (fun (z : q = D + 93 ∨ q = D + 94) => by omega))
  refine ex_iload_n rfl dX11_read_19 ?_
  refine ex_ifB_ne (tgt := 33) (by decide) dX11_read_20 (fun c1 => ?_) (fun c1 => ?_)
  · refine ex_aload_n rfl dX11_read_33 ?_
    refine ex_invv (k := 1) (n := 6) (mc' := 0) (ms' := 0) (As := []) dX11_read_34 cv_X11_136 (by decide) (Nat.le_of_ble_eq_true rfl) (Or.inl ⟨_, _, _, _, hD2, rfl⟩) (s_putInForce (p_ := dp x) hpc hD2 hM2 hQ2) (fun v h' q => ?_)
    obtain ⟨rfl, hD3, hM3, hF3⟩ := q
    have hFF := (hF.wk (P' := fun q => ((q = D + 93 ∨ q = D + 94) ∨ (ca ≤ q ∧ q ≤ ca + 5)) ∨ (q = D ∨ q = D + 88 ∨ q = D + 89 ∨ q = D + 90)) (fun q z => Or.inl z)).tr (hF3.wk (P' := fun q => ((q = D + 93 ∨ q = D + 94) ∨ (ca ≤ q ∧ q ≤ ca + 5)) ∨ (q = D ∨ q = D + 88 ∨ q = D + 89 ∨ q = D + 90)) (fun q z => Or.inr z))
    refine ex_iret dX11_read_37 rfl ⟨p1, rfl, WF_c hb2.2 (bP_t c1), RDP_c hb2.2 (bP_t c1) (hrd (bP_t c1)), ⟨ca, pa, rp, wtk, wbr, wf, _, _, _, dp x, hpc.symm.imp (fun z => ⟨z.2, z.1⟩) (fun z => ⟨z.2, z.1⟩), hD3, hT.sm (fun q (hq : q = D + 1 ∨ q = D + 2) => hFF.2 q (fun (z : ((q = D + 93 ∨ q = D + 94) ∨ (ca ≤ q ∧ q ≤ ca + 5)) ∨ (q = D ∨ q = D + 88 ∨ q = D + 89 ∨ q = D + 90)) => by omega)), hR.sm (hFF.2 _ (fun (z : (((D + 3) = D + 93 ∨ (D + 3) = D + 94) ∨ (ca ≤ (D + 3) ∧ (D + 3) ≤ ca + 5)) ∨ ((D + 3) = D ∨ (D + 3) = D + 88 ∨ (D + 3) = D + 89 ∨ (D + 3) = D + 90)) => by omega)), hDr.sm (fun q (hq : D + 4 ≤ q ∧ q ≤ D + 4 + 83) => hFF.2 q (fun (z : ((q = D + 93 ∨ q = D + 94) ∨ (ca ≤ q ∧ q ≤ ca + 5)) ∨ (q = D ∨ q = D + 88 ∨ q = D + 89 ∨ q = D + 90)) => by omega)), hM3, ⟨hB1.sm (fun q (hq : q = D + 91 ∨ q = D + 92) => hFF.2 q (fun (z : ((q = D + 93 ∨ q = D + 94) ∨ (ca ≤ q ∧ q ≤ ca + 5)) ∨ (q = D ∨ q = D + 88 ∨ q = D + 89 ∨ q = D + 90)) => by omega)), hb1⟩, ⟨hB4.sm (fun q (hq : q = D + 93 ∨ q = D + 94) => hF3.2 q (fun (z : q = D ∨ q = D + 88 ∨ q = D + 89 ∨ q = D + 90) => by omega)), bL.nil _⟩, hQ2.sm (fun q (hq : ca ≤ q ∧ q ≤ ca + 5) => hF3.2 q (fun (z : q = D ∨ q = D + 88 ∨ q = D + 89 ∨ q = D + 90) => by omega)), hP.sm (fun q (hq : pa ≤ q ∧ q ≤ pa + 5) => hFF.2 q (fun (z : ((q = D + 93 ∨ q = D + 94) ∨ (ca ≤ q ∧ q ≤ ca + 5)) ∨ (q = D ∨ q = D + 88 ∨ q = D + 89 ∨ q = D + 90)) => by omega)), hrp⟩, GF.of hFF (fun q (z : ((q = D + 93 ∨ q = D + 94) ∨ (ca ≤ q ∧ q ≤ ca + 5)) ∨ (q = D ∨ q = D + 88 ∨ q = D + 89 ∨ q = D + 90)) => by omega)⟩
  · exact ex_throw (k := 0) (n := 0) hl rfl rfl eth_0 (i := 5) (by decide) dX11_read_23 dX11_read_26 dX11_read_27 dX11_read_29 dX11_read_32 (by decide) (Nat.le_of_ble_eq_true rfl) (fun z hz => ⟨rfl, fun y => bP_f c1 (WF_c (fun j hj => (hb2.2 j hj).symm) y), ⟨pa, ca, rp, wtk, wbr, wf, _, _, _, _, hpc, hD2, hT.sm (fun q (hq : q = D + 1 ∨ q = D + 2) => hF.2 q (fun (z : (q = D + 93 ∨ q = D + 94) ∨ (ca ≤ q ∧ q ≤ ca + 5)) => by omega)), hR.sm (hF.2 _ (fun (z : ((D + 3) = D + 93 ∨ (D + 3) = D + 94) ∨ (ca ≤ (D + 3) ∧ (D + 3) ≤ ca + 5)) => by omega)), hDr.sm (fun q (hq : D + 4 ≤ q ∧ q ≤ D + 4 + 83) => hF.2 q (fun (z : (q = D + 93 ∨ q = D + 94) ∨ (ca ≤ q ∧ q ≤ ca + 5)) => by omega)), hM2, ⟨hB1.sm (fun q (hq : q = D + 91 ∨ q = D + 92) => hF.2 q (fun (z : (q = D + 93 ∨ q = D + 94) ∨ (ca ≤ q ∧ q ≤ ca + 5)) => by omega)), hb1⟩, ⟨hB4, bL.nil _⟩, hP.sm (fun q (hq : pa ≤ q ∧ q ≤ pa + 5) => hF.2 q (fun (z : (q = D + 93 ∨ q = D + 94) ∨ (ca ≤ q ∧ q ≤ ca + 5)) => by omega)), hQ2, hrp⟩, ⟨Nat.le_trans (Nat.le_of_eq hF.1.symm) hz, (GF.of hF (fun q (z : (q = D + 93 ∨ q = D + 94) ∨ (ca ≤ q ∧ q ≤ ca + 5)) => by omega)).2⟩⟩)
def faD (x : DS) (z : Int32) : DS := (x.1, x.2.1, x.2.2.1, x.2.2.2.1, dp x, (der x, z))
set_option maxHeartbeats 4000000 in
set_option maxRecDepth 100000 in
theorem s_accept {G : EG} {l : Launch} (hl : l.stackTraces = false) (hG : eInj G) {h : EH} {D : Nat} {x : DS} (hx : DSK G h D x) (hI : dI x) : ES G l 7 mX11_accept [.ref D] h 1 6 (fun v h' => ∃ p', v = some (.int (nI (pT p'))) ∧ FW dSelf (dS x) (dm x) none ∧ CP dSelf (dS x) (dm x) (dm x) p' ∧ FA dSelf (dS x) (dm x) p' none ∧ DSK G h' D (putD x p' (dF x) (-1)) ∧ GF D h h') (fun E h' => GF D h h' ∧ ((E = IAE ∧ ∃ i, FW dSelf (dS x) (dm x) (some i) ∧ DSK G h' D (faD x (nI i))) ∨ (E = ISE ∧ ∃ i p', FW dSelf (dS x) (dm x) none ∧ CP dSelf (dS x) (dm x) (dm x) p' ∧ FA dSelf (dS x) (dm x) p' (some i) ∧ DSK G h' D (faD x (nI i))))) := by
  obtain ⟨pa, ca, rp, wtk, wbr, wf, ftk, fbr, ff, qp, hpc, h0, hT, hR, hDr, hM, ⟨hB1, hb1⟩, ⟨hB2, hb2⟩, hP, hQ, hrp⟩ := hx
  have ⟨qf_, af_, hM_, hM_2⟩ := hM
  have hm40 := hDr.2.2.2
  refine es_of (by decide) rfl (Nat.le_of_ble_eq_true rfl) ?_
  refine ex_aload_n rfl dX11_accept_0 ?_
  refine ex_aload_n rfl dX11_accept_1 ?_
  refine ex_get dX11_accept_2 gf_X11_28 h0 rfl ?_
  refine ex_invv (k := 1) (n := 6) (mc' := 0) (ms' := 0) (As := []) dX11_accept_5 cv_X11_119 (by decide) (Nat.le_of_ble_eq_true rfl) (Or.inl ⟨_, _, _, _, hDr.1, rfl⟩) (s_firstWrong hDr hG) (fun v h' q => ?_)
  obtain ⟨r1, rfl, rfl, hfw⟩ := q
  refine ex_put dX11_accept_8 pf_X11_74 h0 (Nat.le_of_ble_eq_true rfl) rfl rfl ?_
  refine ex_aload_n rfl dX11_accept_11 ?_
  refine ex_get dX11_accept_12 gf_X11_74 hup_eq rfl ?_
  refine ex_iconst (v := (-1)) (by decide) dX11_accept_15 ?_
  refine ex_icmpO_eq (tgt := 29) (by decide) dX11_accept_16 (fun j hj => by rcases hfw.1 j hj with z | z <;> omega) (fun c1 => ?_) (fun jc1 c1 => ?_)
  · refine ex_aload_n rfl dX11_accept_29 ?_
    refine ex_get dX11_accept_30 gf_X11_28 hup_eq rfl ?_
    refine ex_aload_n rfl dX11_accept_33 ?_
    refine ex_get dX11_accept_34 gf_X11_67 hup_eq rfl ?_
    refine ex_invs (k := 1) (n := 6) (mc' := 0) (ms' := 0) (As := [_, _]) dX11_accept_37 cs_X11_124 (by decide) (Nat.le_of_ble_eq_true rfl) (s_compose (hDr.sm (fun q (hq : D + 4 ≤ q ∧ q ≤ D + 4 + 83) => hup_ne (by omega) rfl)) (hQ.sm (fun q (hq : ca ≤ q ∧ q ≤ ca + 5) => hup_ne (by omega) rfl)) (by omega) hG (hfw.2 c1).1 hI.2.1) (fun v h' q => ?_)
    obtain ⟨rfl, p1, hQ1, hcp, hF1⟩ := q
    have hD1 := (hF1.2 D (fun (z : ca ≤ D ∧ D ≤ ca + 5) => by omega)).trans (hup_eq (e := dOb D pa ca (der x) (oI r1)))
    have hDr1 := hDr.sm (h' := _) (fun q (hq : D + 4 ≤ q ∧ q ≤ D + 4 + 83) => (hF1.2 q (fun (z : ca ≤ q ∧ q ≤ ca + 5) => by omega)).trans (hup_ne (by omega) rfl))
    have hFc := (Fr.rf.up (P := fun q => q = D ∨ (ca ≤ q ∧ q ≤ ca + 5)) (h := _) (a := D) (e := dOb D pa ca (der x) (oI r1)) (Or.inl rfl)).tr (hF1.wk (fun q z => Or.inr z))
    have hM1 := hM.sm (h' := _) (fun q (hq : q = D + 88 ∨ q = D + 89 ∨ q = D + 90) => hFc.2 q (fun (z : q = D ∨ (ca ≤ q ∧ q ≤ ca + 5)) => by omega))
    refine ex_aload_n rfl dX11_accept_40 ?_
    refine ex_aload_n rfl dX11_accept_41 ?_
    refine ex_get dX11_accept_42 gf_X11_28 hD1 rfl ?_
    refine ex_aload_n rfl dX11_accept_45 ?_
    refine ex_get dX11_accept_46 gf_X11_67 hD1 rfl ?_
    refine ex_invs (k := 1) (n := 6) (mc' := 0) (ms' := 0) (As := [_, _]) dX11_accept_49 cs_X11_130 (by decide) (Nat.le_of_ble_eq_true rfl) (s_firstAgainst hDr1 hQ1 (by omega) hG (hfw.2 c1).1 hI.2.1 hcp.1.2.1) (fun v h' q => ?_)
    obtain ⟨r2, rfl, rfl, hfa⟩ := q
    refine ex_put dX11_accept_52 pf_X11_74 hD1 (Nat.le_of_ble_eq_true rfl) rfl rfl ?_
    refine ex_aload_n rfl dX11_accept_55 ?_
    refine ex_get dX11_accept_56 gf_X11_74 hup_eq rfl ?_
    refine ex_iconst (v := (-1)) (by decide) dX11_accept_59 ?_
    refine ex_icmpO_eq (tgt := 73) (by decide) dX11_accept_60 (fun j hj => by have := (hfa.1 j hj).1; omega) (fun c2 => ?_) (fun jc2 c2 => ?_)
    · refine ex_aload_n rfl dX11_accept_73 ?_
      refine ex_invv (k := 1) (n := 6) (mc' := 0) (ms' := 0) (As := []) dX11_accept_74 cv_X11_136 (by decide) (Nat.le_of_ble_eq_true rfl) (Or.inl ⟨_, _, _, _, hup_eq, rfl⟩) (s_putInForce (p_ := dp x) (fa := oI r2) hpc hup_eq (hM1.sm (fun q (hq : q = D + 88 ∨ q = D + 89 ∨ q = D + 90) => hup_ne (by omega) rfl)) (hQ1.sm (fun q (hq : ca ≤ q ∧ q ≤ ca + 5) => hup_ne (by omega) rfl))) (fun v h' q => ?_)
      obtain ⟨rfl, hD3, hM3, hF3⟩ := q
      have hFF := ((hFc.wk (P' := fun q => (q = D ∨ (ca ≤ q ∧ q ≤ ca + 5)) ∨ (q = D ∨ q = D + 88 ∨ q = D + 89 ∨ q = D + 90)) (fun q z => Or.inl z)).up (a := D) (e := dOb D pa ca (der x) (oI r2)) (Or.inl (Or.inl rfl))).tr (hF3.wk (P' := fun q => (q = D ∨ (ca ≤ q ∧ q ≤ ca + 5)) ∨ (q = D ∨ q = D + 88 ∨ q = D + 89 ∨ q = D + 90)) (fun q z => Or.inr z))
      refine ex_iret dX11_accept_77 rfl ⟨p1, rfl, by rw [c1] at hfw; exact hfw, hcp, by rw [c2] at hfa; exact hfa, by rw [c2] at hD3; exact ⟨ca, pa, rp, wtk, wbr, wf, _, _, _, dp x, hpc.symm.imp (fun z => ⟨z.2, z.1⟩) (fun z => ⟨z.2, z.1⟩), hD3, hT.sm (fun q (hq : q = D + 1 ∨ q = D + 2) => hFF.2 q (fun (z : (q = D ∨ (ca ≤ q ∧ q ≤ ca + 5)) ∨ (q = D ∨ q = D + 88 ∨ q = D + 89 ∨ q = D + 90)) => by omega)), hR.sm (hFF.2 _ (fun (z : ((D + 3) = D ∨ (ca ≤ (D + 3) ∧ (D + 3) ≤ ca + 5)) ∨ ((D + 3) = D ∨ (D + 3) = D + 88 ∨ (D + 3) = D + 89 ∨ (D + 3) = D + 90)) => by omega)), hDr.sm (fun q (hq : D + 4 ≤ q ∧ q ≤ D + 4 + 83) => hFF.2 q (fun (z : (q = D ∨ (ca ≤ q ∧ q ≤ ca + 5)) ∨ (q = D ∨ q = D + 88 ∨ q = D + 89 ∨ q = D + 90)) => by omega)), hM3, ⟨hB1.sm (fun q (hq : q = D + 91 ∨ q = D + 92) => hFF.2 q (fun (z : (q = D ∨ (ca ≤ q ∧ q ≤ ca + 5)) ∨ (q = D ∨ q = D + 88 ∨ q = D + 89 ∨ q = D + 90)) => by omega)), hb1⟩, ⟨hB2.sm (fun q (hq : q = D + 93 ∨ q = D + 94) => hFF.2 q (fun (z : (q = D ∨ (ca ≤ q ∧ q ≤ ca + 5)) ∨ (q = D ∨ q = D + 88 ∨ q = D + 89 ∨ q = D + 90)) => by omega)), hb2⟩, hQ1.sm (fun q (hq : ca ≤ q ∧ q ≤ ca + 5) => (hF3.2 q (fun (z : q = D ∨ q = D + 88 ∨ q = D + 89 ∨ q = D + 90) => by omega)).trans (hup_ne (by omega) rfl)), hP.sm (fun q (hq : pa ≤ q ∧ q ≤ pa + 5) => hFF.2 q (fun (z : (q = D ∨ (ca ≤ q ∧ q ≤ ca + 5)) ∨ (q = D ∨ q = D + 88 ∨ q = D + 89 ∨ q = D + 90)) => by omega)), hrp⟩, GF.of hFF (fun q (z : (q = D ∨ (ca ≤ q ∧ q ≤ ca + 5)) ∨ (q = D ∨ q = D + 88 ∨ q = D + 89 ∨ q = D + 90)) => by omega)⟩
    · obtain rfl := c2
      have hFd := hFc.up (a := D) (e := dOb D pa ca (der x) (oI (some jc2))) (Or.inl rfl)
      exact ex_throw (k := 0) (n := 0) hl rfl rfl eth_1 (i := 3) (by decide) dX11_accept_63 dX11_accept_66 dX11_accept_67 dX11_accept_69 dX11_accept_72 (by decide) (Nat.le_of_ble_eq_true rfl) (fun z hz => ⟨⟨Nat.le_trans (Nat.le_of_eq hFd.1.symm) hz, (GF.of hFd (fun q (z : q = D ∨ (ca ≤ q ∧ q ≤ ca + 5)) => by omega)).2⟩, Or.inr ⟨rfl, jc2, p1, by rw [c1] at hfw; exact hfw, hcp, hfa, ⟨pa, ca, rp, wtk, wbr, wf, ftk, fbr, ff, p1, hpc, hup_eq, hT.sm (fun q (hq : q = D + 1 ∨ q = D + 2) => hFd.2 q (fun (z : q = D ∨ (ca ≤ q ∧ q ≤ ca + 5)) => by omega)), hR.sm (hFd.2 _ (fun (z : (D + 3) = D ∨ (ca ≤ (D + 3) ∧ (D + 3) ≤ ca + 5)) => by omega)), hDr.sm (fun q (hq : D + 4 ≤ q ∧ q ≤ D + 4 + 83) => hFd.2 q (fun (z : q = D ∨ (ca ≤ q ∧ q ≤ ca + 5)) => by omega)), hM.sm (fun q (hq : q = D + 88 ∨ q = D + 89 ∨ q = D + 90) => hFd.2 q (fun (z : q = D ∨ (ca ≤ q ∧ q ≤ ca + 5)) => by omega)), ⟨hB1.sm (fun q (hq : q = D + 91 ∨ q = D + 92) => hFd.2 q (fun (z : q = D ∨ (ca ≤ q ∧ q ≤ ca + 5)) => by omega)), hb1⟩, ⟨hB2.sm (fun q (hq : q = D + 93 ∨ q = D + 94) => hFd.2 q (fun (z : q = D ∨ (ca ≤ q ∧ q ≤ ca + 5)) => by omega)), hb2⟩, hP.sm (fun q (hq : pa ≤ q ∧ q ≤ pa + 5) => hFd.2 q (fun (z : q = D ∨ (ca ≤ q ∧ q ≤ ca + 5)) => by omega)), hQ1.sm (fun q (hq : ca ≤ q ∧ q ≤ ca + 5) => hup_ne (by omega) rfl), hrp⟩⟩⟩)
  · obtain rfl := c1
    exact ex_throw (k := 0) (n := 0) hl rfl rfl eth_0 (i := 2) (by decide) dX11_accept_19 dX11_accept_22 dX11_accept_23 dX11_accept_25 dX11_accept_28 (by decide) (Nat.le_of_ble_eq_true rfl) (fun z hz => ⟨⟨hz, (GF.of (Fr.rf.up (P := fun q => q = D) rfl) (fun q (z : q = D) => by omega)).2⟩, Or.inl ⟨rfl, jc1, hfw, ⟨pa, ca, rp, wtk, wbr, wf, ftk, fbr, ff, qp, hpc, hup_eq, hT.sm (fun q (hq : q = D + 1 ∨ q = D + 2) => (Fr.rf.up (P := fun q => q = D) rfl).2 q (fun (z : q = D) => by omega)), hR.sm ((Fr.rf.up (P := fun q => q = D) rfl).2 _ (fun (z : (D + 3) = D) => by omega)), hDr.sm (fun q (hq : D + 4 ≤ q ∧ q ≤ D + 4 + 83) => (Fr.rf.up (P := fun q => q = D) rfl).2 q (fun (z : q = D) => by omega)), hM.sm (fun q (hq : q = D + 88 ∨ q = D + 89 ∨ q = D + 90) => (Fr.rf.up (P := fun q => q = D) rfl).2 q (fun (z : q = D) => by omega)), ⟨hB1.sm (fun q (hq : q = D + 91 ∨ q = D + 92) => (Fr.rf.up (P := fun q => q = D) rfl).2 q (fun (z : q = D) => by omega)), hb1⟩, ⟨hB2.sm (fun q (hq : q = D + 93 ∨ q = D + 94) => (Fr.rf.up (P := fun q => q = D) rfl).2 q (fun (z : q = D) => by omega)), hb2⟩, hP.sm (fun q (hq : pa ≤ q ∧ q ≤ pa + 5) => (Fr.rf.up (P := fun q => q = D) rfl).2 q (fun (z : q = D) => by omega)), hQ.sm (fun q (hq : ca ≤ q ∧ q ≤ ca + 5) => (Fr.rf.up (P := fun q => q = D) rfl).2 q (fun (z : q = D) => by omega)), hrp⟩⟩⟩)
