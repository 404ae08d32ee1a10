/-! READER, third part: the keyword, a whole statement -/
def pKw (t : Nat → Nat) (n : Nat) : Nat → Nat → Nat → Bool × Nat × Nat
  | 0, _, p => (false, p, 0)
  | j + 1, k, p => if lsh t n k 0 (kLen k) = kLen k then (true, kLen k, k) else pKw t n j (k + 1) (max p (lsh t n k 0 (kLen k)))
theorem pKw_y {t : Nat → Nat} {n j k p : Nat} (h : lsh t n k 0 (kLen k) = kLen k) : pKw t n (j + 1) k p = (true, kLen k, k) := by unfold pKw; rw [if_pos h]
theorem pKw_n {t : Nat → Nat} {n j k p : Nat} (h : lsh t n k 0 (kLen k) ≠ kLen k) : pKw t n (j + 1) k p = pKw t n j (k + 1) (max p (lsh t n k 0 (kLen k))) := by conv => lhs; unfold pKw; rw [if_neg h]
def QK (G : EG) (h0 : EH) (r ta a b : Nat) (s : Stm) (x : Bool × Nat × Nat) : Option Value → EH → Prop := fun v h' => v = some (.int (b2i x.1)) ∧ RD h' r ta x.2.1 ∧ ST G h' a b (if x.1 then (x.2.2, 0, 0, wd s) else s) ∧ Fr (atR r a b) h0 h'
set_option maxHeartbeats 4000000 in
set_option maxRecDepth 100000 in
theorem l_keyword {G : EG} {l : Launch} {h0 : EH} {r ta tb n : Nat} {t : Nat → Nat} (hb : ∀ j, t j < 128) (hn : n ≤ 72) (hra : r ≠ ta) (hrb : r ≠ tb) {a b : Nat} (h3 : r ≠ a) (h4 : r ≠ b) (h5 : ta ≠ a) (h6 : ta ≠ b) (h7 : tb ≠ a) (h8 : tb ≠ b) {s : Stm} {x : Bool × Nat × Nat} : ∀ (f k : Nat), 9 - k < f → k ≤ 9 → ∀ (h : EH) (p : Nat), p ≤ 8 → RD h r ta p → TX G h ta tb t n → ST G h a b s → Fr (atR r a b) h0 h → pKw t n (9 - k) k p = x → Ex G l 5 mX8_keyword (QK G h0 r ta a b s x) eNoX 0 0 7 [(0, .ref r), (1, .ref a), (2, .int (nI k))] [] h := by
  intro f
  induction f with
  | zero =>
    intro k h1 h2 h p hpp hR1 hT1 hS1 hF hx
    omega
  | succ f ih =>
    intro k h1 h2 h p hpp hR1 hT1 hS1 hF hx
    have hkl : k < 9 → kLen k ≤ 8 := fun z => kLen_le k (by omega)
    have hls := lsh_le (t := t) (n := n) (i := k) (kLen k) 0
    refine ex_iload_n rfl dX8_keyword_7 ?_
    refine ex_getsN (z := ("PolicyDesk", "KINDS", "[LPolicyDesk$Kind;", .ref (ead G 9))) dX8_keyword_8 (eZo 0 rfl) gz_X8_55 ?_
    refine ex_tlen (v := nI (9)) dX8_keyword_11 eTkn rfl ?_
    refine ex_icmpN_ge (tgt := 77) (by decide) dX8_keyword_12 (by omega) (by omega) (fun c1 => ?_) (fun c1 => ?_)
    · refine ex_iconst (v := (nI 0)) (by decide) dX8_keyword_77 ?_
      refine ex_zret dX8_keyword_78 rfl rfl (by rw [show 9 - k = 0 by omega] at hx; subst hx; exact ⟨rfl, hR1, hS1, hF⟩)
    · refine ex_aload_n rfl dX8_keyword_15 ?_
      refine ex_getsN (z := ("PolicyDesk", "KINDS", "[LPolicyDesk$Kind;", .ref (ead G 9))) dX8_keyword_16 (eZo 0 rfl) gz_X8_55 ?_
      refine ex_iload_n rfl dX8_keyword_19 ?_
      refine ex_tqldN dX8_keyword_20 eTkn (by omega) (by decide) ?_
      refine ex_getcN (z := ("PolicyDesk$Kind", "word", "Ljava/lang/String;", .ref (ead G (16 + k)), ead G k)) dX8_keyword_21 (eF1 (show k < 9 by omega) 0 rfl) gn_X8_59 ?_
      refine ex_invv (k := 0) (n := 0) (mc' := 0) (ms' := 0) (As := [_]) dX8_keyword_24 cv_X8_62 (by decide) (Nat.le_of_ble_eq_true rfl) (Or.inl ⟨_, _, _, _, hR1, rfl⟩) (s_letters hR1 hT1 hb (by omega) hra hrb (i := k) (by omega)) (fun v h' q => ?_)
      obtain ⟨rfl, rfl⟩ := q
      refine ex_istore_n (by decide) rfl dX8_keyword_27 ?_
      refine ex_iload_n rfl dX8_keyword_28 ?_
      refine ex_getsN (z := ("PolicyDesk", "KINDS", "[LPolicyDesk$Kind;", .ref (ead G 9))) dX8_keyword_29 (eZo 0 rfl) gz_X8_55 ?_
      refine ex_iload_n rfl dX8_keyword_32 ?_
      refine ex_tqldN dX8_keyword_33 eTkn (by omega) (by decide) ?_
      refine ex_getcN (z := ("PolicyDesk$Kind", "word", "Ljava/lang/String;", .ref (ead G (16 + k)), ead G k)) dX8_keyword_34 (eF1 (show k < 9 by omega) 0 rfl) gn_X8_59 ?_
      refine ex_invv (k := 0) (n := 0) (mc' := 0) (ms' := 0) (As := []) dX8_keyword_37 cv_X8_66 (by decide) (Nat.le_of_ble_eq_true rfl) (Or.inr (eOs (show k < 12 by omega))) (s_slength _ (i := k) (by omega)) (fun v h' q => ?_)
      obtain ⟨rfl, rfl⟩ := q
      refine ex_icmpN_ne (tgt := 59) (by decide) dX8_keyword_40 (by have := hkl (by omega); omega) (by have := hkl (by omega); omega) (fun c2 => ?_) (fun c2 => ?_)
      · refine ex_aload_n rfl dX8_keyword_59 ?_
        refine ex_aload_n rfl dX8_keyword_60 ?_
        refine ex_get dX8_keyword_61 gf_X8_9 hR1 rfl ?_
        refine ex_iload_n rfl dX8_keyword_64 ?_
        refine ex_mmaxN dX8_keyword_65 cs_X8_76 (by decide) (Nat.le_of_ble_eq_true rfl) (by omega) (by have := hkl (by omega); omega) ?_
        refine ex_put dX8_keyword_68 pf_X8_9 hR1 (Nat.le_of_ble_eq_true rfl) rfl rfl ?_
        refine ex_iincN (z := 1) rfl (by decide) rfl dX8_keyword_71 ?_
        refine ex_goto (tgt := 7) (by decide) dX8_keyword_74 ?_
        exact ex_lv [(0, .ref r), (1, .ref a), (2, .int (nI (k + 1)))] ⟨rfl, rfl, rfl, trivial⟩ (ih (k + 1) (by omega) (by omega) _ _ (by have := hkl (by omega); omega) hup_eq (hT1.up hra hrb) (hS1.up h3 h4) (hF.up (Or.inl rfl)) (by rw [show 9 - k = (9 - (k + 1)) + 1 by omega, pKw_n c2] at hx; exact hx))
      · refine ex_aload_n rfl dX8_keyword_43 ?_
        refine ex_iload_n rfl dX8_keyword_44 ?_
        refine ex_put dX8_keyword_45 pf_X8_9 hR1 (Nat.le_of_ble_eq_true rfl) rfl rfl ?_
        refine ex_aload_n rfl dX8_keyword_48 ?_
        refine ex_getsN (z := ("PolicyDesk", "KINDS", "[LPolicyDesk$Kind;", .ref (ead G 9))) dX8_keyword_49 (eZo 0 rfl) gz_X8_55 ?_
        refine ex_iload_n rfl dX8_keyword_52 ?_
        refine ex_tqldN dX8_keyword_53 eTkn (by omega) (by decide) ?_
        refine ex_invv (k := 0) (n := 0) (mc' := 0) (ms' := 0) (As := [_]) dX8_keyword_54 cv_X8_72 (by decide) (Nat.le_of_ble_eq_true rfl) (Or.inl ⟨_, _, _, _, (hup_ne h3.symm hS1.1), rfl⟩) (s_begin (hS1.up h3 h4) k) (fun v h' q => ?_)
        obtain ⟨rfl, hS2, hF2⟩ := q
        refine ex_iconst (v := (nI 1)) (by decide) dX8_keyword_57 ?_
        refine ex_zret dX8_keyword_58 rfl rfl (by rw [show 9 - k = (9 - (k + 1)) + 1 by omega, pKw_y c2] at hx; subst hx; exact ⟨rfl, RD.fr (by rw [c2]; exact hup_eq) hF2 (fun z => z.elim h3 h4), hS2, (hF.up (Or.inl rfl)).tr (hF2.wk (fun q z => Or.inr z))⟩)
set_option maxHeartbeats 4000000 in
set_option maxRecDepth 100000 in
theorem s_keyword {G : EG} {l : Launch} {h : EH} {r ta tb p n : Nat} {t : Nat → Nat} (hR : RD h r ta p) (hT : TX G h ta tb t n) (hb : ∀ j, t j < 128) (hp : p ≤ 80) (hra : r ≠ ta) (hrb : r ≠ tb) {a b : Nat} {s : Stm} (hS : ST G h a b s) (h3 : r ≠ a) (h4 : r ≠ b) (h5 : ta ≠ a) (h6 : ta ≠ b) (h7 : tb ≠ a) (h8 : tb ≠ b) : ES G l 5 mX8_keyword [.ref r, .ref a] h 0 0 (QK G h r ta a b s (pKw t n 9 0 0)) eNoX := by
  refine es_of (by decide) rfl (Nat.le_of_ble_eq_true rfl) ?_
  refine ex_aload_n rfl dX8_keyword_0 ?_
  refine ex_iconst (v := (nI 0)) (by decide) dX8_keyword_1 ?_
  refine ex_put dX8_keyword_2 pf_X8_9 hR (Nat.le_of_ble_eq_true rfl) rfl rfl ?_
  refine ex_iconst (v := (nI 0)) (by decide) dX8_keyword_5 ?_
  refine ex_istore_n (by decide) rfl dX8_keyword_6 ?_
  exact l_keyword hb hT.2.2.1 hra hrb h3 h4 h5 h6 h7 h8 10 0 (by omega) (by omega) _ 0 (by omega) hup_eq (hT.up hra hrb) (hS.up h3 h4) (Fr.rf.up (Or.inl rfl)) rfl
def kNm (κ : Nat) : Nat := [1, 1, 3, 3, 4, 1, 1, 1, 1].getD κ 0
def kFw (κ : Nat) : Nat := [1, 0, 1, 1, 0, 0, 1, 1, 1].getD κ 0
def kMs (κ : Nat) : Nat := [6, 4, 6, 6, 0, 0, 6, 6, 6].getD κ 0
theorem kNm_i : ∀ κ, κ < 9 → kNames.getD κ 0 = nI (kNm κ) := by decide
theorem kFw_i : ∀ κ, κ < 9 → kFewest.getD κ 0 = nI (kFw κ) := by decide
theorem kMs_i : ∀ κ, κ < 9 → kMost.getD κ 0 = nI (kMs κ) := by decide
theorem kAll : ∀ κ, κ < 9 → kNm κ + kMs κ ≤ 9 ∧ kFw κ ≤ 9 ∧ kMarks.getD κ 0 < 12 ∧ kLen κ ≤ 5 := by decide
theorem pNm_sz {t : Nat → Nat} {n : Nat} : ∀ {m p : Nat} {s : Stm}, (pNm t n m p s).1 = true → sz (pNm t n m p s).2.2 = sz s + m := by
  intro m
  induction m with
  | zero => intro p s _; rfl
  | succ m ih =>
    intro p s h
    by_cases h1 : bl t n p = true
    · by_cases h2 : 0 < nlet t n (p + 1) 4
      · rw [pNm_2 h1 h2] at h ⊢
        rw [ih h]
        show sz s + 1 + m = _
        omega
      · rw [pNm_1 h1 h2] at h; cases h
    · rw [pNm_0 (by simpa using h1)] at h; cases h
theorem pNm_p {t : Nat → Nat} {n : Nat} (hn : n ≤ 72) : ∀ {m p : Nat} {s : Stm}, p ≤ 76 → (pNm t n m p s).2.1 ≤ 76 := by
  intro m
  induction m with
  | zero => intro p s h; exact h
  | succ m ih =>
    intro p s h
    by_cases h1 : bl t n p = true
    · have h0 := bl_lt h1
      by_cases h2 : 0 < nlet t n (p + 1) 4
      · rw [pNm_2 h1 h2]
        have := nlet_le t n 4 (p + 1)
        exact ih (by omega)
      · rw [pNm_1 h1 h2]; show p + 1 ≤ 76; omega
    · rw [pNm_0 (by simpa using h1)]; exact h
theorem pMk_ok {t : Nat → Nat} {n i p : Nat} {s : Stm} (hn : n ≤ 72) (hp : p ≤ 76) : sz (pMk t n i p s).2.2 = sz s ∧ (pMk t n i p s).2.1 ≤ 76 := by
  unfold pMk
  split
  · exact ⟨rfl, hp⟩
  · split
    · have h0 := bl_lt (by assumption)
      split
      · exact ⟨rfl, by show p + 1 ≤ 76; omega⟩
      · split
        · exact ⟨rfl, by show p + 1 ≤ 76; omega⟩
        · exact ⟨rfl, by show p + 2 ≤ 76; omega⟩
    · exact ⟨rfl, hp⟩
theorem pKw_ok {t : Nat → Nat} {n : Nat} : ∀ {j k p : Nat}, k + j ≤ 9 → (pKw t n j k p).1 = true → (pKw t n j k p).2.2 < 9 ∧ (pKw t n j k p).2.1 = kLen (pKw t n j k p).2.2 := by
  intro j
  induction j with
  | zero => intro k p _ h; cases h
  | succ j ih =>
    intro k p hk h
    by_cases h1 : lsh t n k 0 (kLen k) = kLen k
    · rw [pKw_y h1]; exact ⟨by show k < 9; omega, rfl⟩
    · rw [pKw_n h1] at h ⊢; exact ih (by omega) h
/-- a whole statement read into s: whether it is one, where it stopped, what was read -/
def pPs (t : Nat → Nat) (n : Nat) (s : Stm) : Bool × Nat × Stm :=
  let x := pKw t n 9 0 0
  if x.1 then
    let y := pNm t n (kNm x.2.2) x.2.1 (x.2.2, 0, 0, wd s)
    if y.1 then
      let z := pMk t n (kMarks.getD x.2.2 0) y.2.1 y.2.2
      if z.1 then pLs t n (kFw x.2.2) (kMs x.2.2) 0 z.2.1 z.2.2 else z
    else y
  else (false, x.2.1, s)
set_option maxHeartbeats 4000000 in
set_option maxRecDepth 100000 in
theorem s_parse {G : EG} {l : Launch} {h : EH} {r ta tb p n : Nat} {t : Nat → Nat} (hR : RD h r ta p) (hT : TX G h ta tb t n) (hb : ∀ j, t j < 128) (hp : p ≤ 80) (hra : r ≠ ta) (hrb : r ≠ tb) {a b : Nat} {s : Stm} (hS : ST G h a b s) (h3 : r ≠ a) (h4 : r ≠ b) (h5 : ta ≠ a) (h6 : ta ≠ b) (h7 : tb ≠ a) (h8 : tb ≠ b) : ES G l 6 mX8_parse [.ref r, .ref a] h 0 0 (QP G h r ta a b (pPs t n s)) eNoX := by
  refine es_of (by decide) rfl (Nat.le_of_ble_eq_true rfl) ?_
  refine ex_aload_n rfl dX8_parse_0 ?_
  refine ex_aload_n rfl dX8_parse_1 ?_
  refine ex_invv (k := 0) (n := 0) (mc' := 0) (ms' := 0) (As := [_]) dX8_parse_2 cv_X8_19 (by decide) (Nat.le_of_ble_eq_true rfl) (Or.inl ⟨_, _, _, _, hR, rfl⟩) (s_keyword hR hT hb hp hra hrb hS h3 h4 h5 h6 h7 h8) (fun v h' q => ?_)
  obtain ⟨rfl, hR1, hS1, hF1⟩ := q
  have hT1 := hT.fr hF1 (by rintro (z | z | z); exact hra z.symm; exact h5 z; exact h6 z) (by rintro (z | z | z); exact hrb z.symm; exact h7 z; exact h8 z)
  refine ex_ifB_ne (tgt := 10) (by decide) dX8_parse_5 (fun c1 => ?_) (fun c1 => ?_)
  · obtain ⟨hκ, hkp⟩ := pKw_ok (by omega) c1
    rw [c1, if_pos rfl] at hS1
    rw [hkp] at hR1
    have e0 : pPs t n s = (if (pNm t n (kNm (pKw t n 9 0 0).2.2) (pKw t n 9 0 0).2.1 ((pKw t n 9 0 0).2.2, 0, 0, wd s)).1 then (if (pMk t n (kMarks.getD (pKw t n 9 0 0).2.2 0) (pNm t n (kNm (pKw t n 9 0 0).2.2) (pKw t n 9 0 0).2.1 ((pKw t n 9 0 0).2.2, 0, 0, wd s)).2.1 (pNm t n (kNm (pKw t n 9 0 0).2.2) (pKw t n 9 0 0).2.1 ((pKw t n 9 0 0).2.2, 0, 0, wd s)).2.2).1 then pLs t n (kFw (pKw t n 9 0 0).2.2) (kMs (pKw t n 9 0 0).2.2) 0 (pMk t n (kMarks.getD (pKw t n 9 0 0).2.2 0) (pNm t n (kNm (pKw t n 9 0 0).2.2) (pKw t n 9 0 0).2.1 ((pKw t n 9 0 0).2.2, 0, 0, wd s)).2.1 (pNm t n (kNm (pKw t n 9 0 0).2.2) (pKw t n 9 0 0).2.1 ((pKw t n 9 0 0).2.2, 0, 0, wd s)).2.2).2.1 (pMk t n (kMarks.getD (pKw t n 9 0 0).2.2 0) (pNm t n (kNm (pKw t n 9 0 0).2.2) (pKw t n 9 0 0).2.1 ((pKw t n 9 0 0).2.2, 0, 0, wd s)).2.1 (pNm t n (kNm (pKw t n 9 0 0).2.2) (pKw t n 9 0 0).2.1 ((pKw t n 9 0 0).2.2, 0, 0, wd s)).2.2).2.2 else (pMk t n (kMarks.getD (pKw t n 9 0 0).2.2 0) (pNm t n (kNm (pKw t n 9 0 0).2.2) (pKw t n 9 0 0).2.1 ((pKw t n 9 0 0).2.2, 0, 0, wd s)).2.1 (pNm t n (kNm (pKw t n 9 0 0).2.2) (pKw t n 9 0 0).2.1 ((pKw t n 9 0 0).2.2, 0, 0, wd s)).2.2)) else (pNm t n (kNm (pKw t n 9 0 0).2.2) (pKw t n 9 0 0).2.1 ((pKw t n 9 0 0).2.2, 0, 0, wd s))) := if_pos c1
    rw [hkp] at e0
    generalize (pKw t n 9 0 0).2.2 = κ at hκ hS1 hR1 e0 ⊢
    obtain ⟨hnm, hfw, hmk, hkl⟩ := kAll κ hκ
    refine ex_aload_n rfl dX8_parse_10 ?_
    refine ex_invv (k := 0) (n := 0) (mc' := 0) (ms' := 0) (As := []) dX8_parse_11 cv_X8_23 (by decide) (Nat.le_of_ble_eq_true rfl) (Or.inl ⟨_, _, _, _, hS1.1, rfl⟩) (s_kind hS1) (fun v h' q => ?_)
    obtain ⟨rfl, rfl⟩ := q
    refine ex_astore_n (by decide) rfl dX8_parse_14 ?_
    refine ex_aload_n rfl dX8_parse_15 ?_
    refine ex_aload_n rfl dX8_parse_16 ?_
    refine ex_aload_n rfl dX8_parse_17 ?_
    refine ex_getcN (z := ("PolicyDesk$Kind", "names", "I", .int (kNames.getD κ 0), ead G κ)) dX8_parse_18 (eF1 hκ 1 rfl) gn_X8_29 ?_
    rw [kNm_i κ hκ]
    refine ex_invv (k := 0) (n := 0) (mc' := 0) (ms' := 0) (As := [_, _]) dX8_parse_21 cv_X8_34 (by decide) (Nat.le_of_ble_eq_true rfl) (Or.inl ⟨_, _, _, _, hR1, rfl⟩) (s_names hR1 hT1 hb (by omega) hra hrb hS1 h3 h4 h5 h6 h7 h8 (m := kNm κ) (by omega) (by show 0 + kNm κ ≤ 9; omega)) (fun v h' q => ?_)
    obtain ⟨rfl, hR2, hS2, hF2⟩ := q
    have hT2 := hT1.fr hF2 (by rintro (z | z | z); exact hra z.symm; exact h5 z; exact h6 z) (by rintro (z | z | z); exact hrb z.symm; exact h7 z; exact h8 z)
    refine ex_ifB_eq (tgt := 59) (by decide) dX8_parse_24 (fun c2 => ?_) (fun c2 => ?_)
    · refine ex_iconst (v := (nI 0)) (by decide) dX8_parse_59 ?_
      refine ex_zret dX8_parse_60 rfl rfl (by rw [e0, if_neg (by rw [c2]; decide)]; exact ⟨by rw [c2]; rfl, hR2, hS2, hF1.tr hF2⟩)
    · refine ex_aload_n rfl dX8_parse_27 ?_
      refine ex_aload_n rfl dX8_parse_28 ?_
      refine ex_aload_n rfl dX8_parse_29 ?_
      refine ex_getcN (z := ("PolicyDesk$Kind", "marks", "Ljava/lang/String;", .ref (ead G (16 + kMarks.getD κ 0)), ead G κ)) dX8_parse_30 (eF1 hκ 2 rfl) gn_X8_37 ?_
      refine ex_invv (k := 0) (n := 0) (mc' := 0) (ms' := 0) (As := [_, _]) dX8_parse_33 cv_X8_41 (by decide) (Nat.le_of_ble_eq_true rfl) (Or.inl ⟨_, _, _, _, hR2, rfl⟩) (s_mark_ hR2 hT2 hb (pNm_p hT.2.2.1 (by omega)) hra hrb hS2 h3 h4 h5 h6 h7 h8 hmk) (fun v h' q => ?_)
      obtain ⟨rfl, hR3, hS3, hF3⟩ := q
      have hT3 := hT2.fr hF3 (by rintro (z | z | z); exact hra z.symm; exact h5 z; exact h6 z) (by rintro (z | z | z); exact hrb z.symm; exact h7 z; exact h8 z)
      refine ex_ifB_eq (tgt := 59) (by decide) dX8_parse_36 (fun c3 => ?_) (fun c3 => ?_)
      · refine ex_iconst (v := (nI 0)) (by decide) dX8_parse_59 ?_
        refine ex_zret dX8_parse_60 rfl rfl (by rw [e0, if_pos c2, if_neg (by rw [c3]; decide)]; exact ⟨by rw [c3]; rfl, hR3, hS3, (hF1.tr hF2).tr hF3⟩)
      · refine ex_aload_n rfl dX8_parse_39 ?_
        refine ex_aload_n rfl dX8_parse_40 ?_
        refine ex_aload_n rfl dX8_parse_41 ?_
        refine ex_getcN (z := ("PolicyDesk$Kind", "fewest", "I", .int (kFewest.getD κ 0), ead G κ)) dX8_parse_42 (eF1 hκ 3 rfl) gn_X8_45 ?_
        rw [kFw_i κ hκ]
        refine ex_aload_n rfl dX8_parse_45 ?_
        refine ex_getcN (z := ("PolicyDesk$Kind", "most", "I", .int (kMost.getD κ 0), ead G κ)) dX8_parse_46 (eF1 hκ 4 rfl) gn_X8_48 ?_
        rw [kMs_i κ hκ]
        refine ex_invv (k := 0) (n := 0) (mc' := 0) (ms' := 0) (As := [_, _, _]) dX8_parse_49 cv_X8_51 (by decide) (Nat.le_of_ble_eq_true rfl) (Or.inl ⟨_, _, _, _, hR3, rfl⟩) (s_list hR3 hT3 hb (pMk_ok hT.2.2.1 (pNm_p hT.2.2.1 (by omega))).2 hra hrb hS3 h3 h4 h5 h6 h7 h8 (few := kFw κ) (m := kMs κ) hfw (by omega) (by rw [(pMk_ok hT.2.2.1 (pNm_p hT.2.2.1 (by omega))).1, pNm_sz c2]; show 0 + kNm κ + kMs κ ≤ 9; omega)) (fun v h' q => ?_)
        obtain ⟨rfl, hR4, hS4, hF4⟩ := q
        refine ex_ifB_eq (tgt := 59) (by decide) dX8_parse_52 (fun c4 => ?_) (fun c4 => ?_)
        · refine ex_iconst (v := (nI 0)) (by decide) dX8_parse_59 ?_
          refine ex_zret dX8_parse_60 rfl rfl (by rw [e0, if_pos c2, if_pos c3]; exact ⟨by rw [c4]; rfl, hR4, hS4, ((hF1.tr hF2).tr hF3).tr hF4⟩)
        · refine ex_iconst (v := (nI 1)) (by decide) dX8_parse_55 ?_
          refine ex_goto (tgt := 60) (by decide) dX8_parse_56 ?_
          refine ex_zret dX8_parse_60 rfl rfl (by rw [e0, if_pos c2, if_pos c3]; exact ⟨by rw [c4]; rfl, hR4, hS4, ((hF1.tr hF2).tr hF3).tr hF4⟩)
  · refine ex_iconst (v := (nI 0)) (by decide) dX8_parse_8 ?_
    refine ex_zret dX8_parse_9 rfl rfl (by rw [c1] at hS1; unfold pPs; simp only [c1]; exact ⟨rfl, hR1, hS1, hF1⟩)
