/-! THE MODEL: a whole statement, add, the constructor -/
def fin (n : Nat) (x : Bool × Nat × Stm) : Bool × Nat × Stm := (x.1 && decide (x.2.1 = n), x.2.1, x.2.2)
def mP56 (t : Nat → Nat) (n κ p : Nat) (w0 : Nat → Nat) : Bool × Nat × Stm :=
  if (rNs t n 1 1 1 0 p (κ, 0, 0, w0)).1 then
    if (pMk t n (κ + 5) (rNs t n 1 1 1 0 p (κ, 0, 0, w0)).2.1 (rNs t n 1 1 1 0 p (κ, 0, 0, w0)).2.2).1 then
      (if κ = 5 then fin n (pMk t n (κ + 5) (rNs t n 1 1 1 0 p (κ, 0, 0, w0)).2.1 (rNs t n 1 1 1 0 p (κ, 0, 0, w0)).2.2) else fin n (rNs t n 1 6 6 0 (pMk t n (κ + 5) (rNs t n 1 1 1 0 p (κ, 0, 0, w0)).2.1 (rNs t n 1 1 1 0 p (κ, 0, 0, w0)).2.2).2.1 (pMk t n (κ + 5) (rNs t n 1 1 1 0 p (κ, 0, 0, w0)).2.1 (rNs t n 1 1 1 0 p (κ, 0, 0, w0)).2.2).2.2))
    else pMk t n (κ + 5) (rNs t n 1 1 1 0 p (κ, 0, 0, w0)).2.1 (rNs t n 1 1 1 0 p (κ, 0, 0, w0)).2.2
  else rNs t n 1 1 1 0 p (κ, 0, 0, w0)
def mPk (t : Nat → Nat) (n κ p : Nat) (w0 : Nat → Nat) : Bool × Nat × Stm := if κ = 5 ∨ κ = 6 then mP56 t n κ p w0 else fin n (rNs t n (kNm κ + kFw κ) (kNm κ + kMs κ) (kNm κ + kMs κ) 0 p (κ, 0, 0, w0))
def mPs (t : Nat → Nat) (n : Nat) (w0 : Nat → Nat) : Bool × Nat × Stm := if (pKw t n 9 0 0).1 then mPk t n (pKw t n 9 0 0).2.2 (pKw t n 9 0 0).2.1 w0 else (false, (pKw t n 9 0 0).2.1, (0, 0, 0, w0))
theorem rNs_le {t : Nat → Nat} {n least most : Nat} : ∀ f k p s, p ≤ n → (rNs t n least most f k p s).2.1 ≤ n := by
  intro f
  induction f with
  | zero => intro k p s h; exact h
  | succ f ih =>
    intro k p s h
    by_cases c : k < least ∨ (k < most ∧ p < n)
    · cases hb : bl t n p with
      | false => rw [rNs_0 c hb]; exact h
      | true =>
        have := bl_lt hb
        by_cases z : 0 < nlet t n (p + 1) 4
        · rw [rNs_2 c hb z]; exact ih _ _ _ (nlet_n (by omega))
        · rw [rNs_1 c hb z]; show p + 1 ≤ n; omega
    · rw [rNs_e c]; exact h
theorem rNs_sz {t : Nat → Nat} {n least most : Nat} : ∀ f k p s, sz (rNs t n least most f k p s).2.2 ≤ sz s + f := by
  intro f
  induction f with
  | zero => intro k p s; exact Nat.le_refl _
  | succ f ih =>
    intro k p s
    by_cases c : k < least ∨ (k < most ∧ p < n)
    · cases hb : bl t n p with
      | false => rw [rNs_0 c hb]; show sz s ≤ _; omega
      | true =>
        by_cases z : 0 < nlet t n (p + 1) 4
        · rw [rNs_2 c hb z]; have := ih (k + 1) (p + 1 + nlet t n (p + 1) 4) (psh s (lpk t (p + 1) (nlet t n (p + 1) 4))); have e : sz (psh s (lpk t (p + 1) (nlet t n (p + 1) 4))) = sz s + 1 := rfl; omega
        · rw [rNs_1 c hb z]; show sz s ≤ _; omega
    · rw [rNs_e c]; show sz s ≤ _; omega
theorem pMk_le {t : Nat → Nat} {n i p : Nat} {s : Stm} (h : p ≤ n) : (pMk t n i p s).2.1 ≤ n ∧ ((pMk t n i p s).1 = true → sz (pMk t n i p s).2.2 = sz s) := by
  unfold pMk
  by_cases c : kLen i = 0
  · rw [if_pos c]; exact ⟨h, fun _ => rfl⟩
  · rw [if_neg c]
    cases hb : bl t n p with
    | false => rw [if_neg (by decide)]; exact ⟨h, fun z => by cases z⟩
    | true =>
      have := bl_lt hb
      rw [if_pos rfl]
      by_cases q : n ≤ p + 1
      · rw [if_pos q]; exact ⟨by show p + 1 ≤ n; omega, fun z => by cases z⟩
      · rw [if_neg q]
        cases fnd (kCh i) (t (p + 1)) 0 (kLen i) with
        | none => exact ⟨by show p + 1 ≤ n; omega, fun z => by cases z⟩
        | some j => exact ⟨by show p + 2 ≤ n; omega, fun _ => rfl⟩
theorem RW.tr {a : Nat} {y y' y'' : MS} (h : RW a y y') (h' : RW a y' y'') : RW a y y'' := ⟨h.1.tr h'.1, fun i hi => ⟨(h'.2.1 i hi).1.trans (h.2.1 i hi).1, (h'.2.1 i hi).2.1.trans (h.2.1 i hi).2.1, (h'.2.1 i hi).2.2.trans (h.2.1 i hi).2.2⟩, fun j hj => (h'.2.2.1 j hj).trans (h.2.2.1 j hj), h'.2.2.2⟩
theorem RW.st {a κ : Nat} {y0 y : MS} (h : RW a y0 y) (hκ : κ < 9) : RW a y0 (mUp (mUp (mUp y 2 a κ) 3 a 0) 5 a 0) := by
  obtain ⟨h1, h2, h3, h4⟩ := h
  refine ⟨((h1.up (by decide)).up (by decide)).up (by decide), fun i hi => ⟨?_, ?_, ?_⟩, h3, h4.1, h4.2.1, fun j => ⟨?_, ?_, (h4.2.2 j).2.2⟩⟩
  · show va_up (mA y 2) a κ i = _; exact (if_neg hi).trans (h2 i hi).1
  · show va_up (mA y 3) a 0 i = _; exact (if_neg hi).trans (h2 i hi).2.1
  · show va_up (mA y 5) a 0 i = _; exact (if_neg hi).trans (h2 i hi).2.2
  · show va_up (mA y 2) a κ j < 9; unfold va_up; split; exact hκ; exact (h4.2.2 j).1
  · show va_up (mA y 3) a 0 j ≤ 9; unfold va_up; split; omega; exact (h4.2.2 j).2.1
theorem mS_st {a κ : Nat} {y : MS} : mS (mUp (mUp (mUp y 2 a κ) 3 a 0) 5 a 0) a = (κ, 0, 0, wd (mS y a)) := by
  show (va_up (mA y 2) a κ a, va_up (mA y 3) a 0 a, va_up (mA y 5) a 0 a, fun k => mA y 4 (10 * a + k)) = _
  rw [show va_up (mA y 2) a κ a = κ from if_pos rfl, show va_up (mA y 3) a 0 a = 0 from if_pos rfl, show va_up (mA y 5) a 0 a = 0 from if_pos rfl]
  rfl
def QS (G : EG) (M a : Nat) (y0 : MS) (h0 : EH) (X : Bool × Nat × Stm) : Option Value → EH → Prop := fun v h' => v = some (.int (b2i X.1)) ∧ (∃ y', MD G h' M y' ∧ RW a y0 y' ∧ ms y' 4 = X.2.1 ∧ (X.1 = true → mS y' a = X.2.2)) ∧ Fr (atN M) h0 h'
theorem QS.no {G : EG} {M a : Nat} {y0 y : MS} {h0 h : EH} {X : Bool × Nat × Stm} (hM : MD G h M y) (hR : RW a y0 y) (h1 : X.1 = false) (h2 : ms y 4 = X.2.1) (hF : Fr (atN M) h0 h) : QS G M a y0 h0 X (some (.int (nI 0))) h := ⟨by rw [h1]; rfl, ⟨y, hM, hR, h2, fun z => by rw [h1] at z; cases z⟩, hF⟩
theorem QS.yes {G : EG} {M a : Nat} {y0 y : MS} {h0 h : EH} {X : Bool × Nat × Stm} (hM : MD G h M y) (hR : RW a y0 y) (h1 : X.1 = true) (h2 : ms y 4 = X.2.1) (h3 : mS y a = X.2.2) (hF : Fr (atN M) h0 h) : QS G M a y0 h0 X (some (.int (nI 1))) h := ⟨by rw [h1]; rfl, ⟨y, hM, hR, h2, fun _ => h3⟩, hF⟩
theorem fin_n {n : Nat} {x : Bool × Nat × Stm} (h : x.1 = false ∨ x.2.1 ≠ n) : (fin n x).1 = false := by
  show (x.1 && decide (x.2.1 = n)) = false
  rcases h with h | h
  · rw [h]; rfl
  · rw [decide_eq_false h, Bool.and_false]
theorem fin_y {n : Nat} {x : Bool × Nat × Stm} (h1 : x.1 = true) (h2 : x.2.1 = n) : (fin n x).1 = true := by
  show (x.1 && decide (x.2.1 = n)) = true
  rw [h1, decide_eq_true h2]
  rfl
theorem pKw_ls {t : Nat → Nat} {n κ : Nat} (h : pKw t n 9 0 0 = (true, kLen κ, κ)) (hκ : κ < 9) : LSH t n κ = kLen κ := by
  obtain ⟨k, k1, k2, k3, k4⟩ := pKw_t (t := t) (n := n) 9 0 0 (by rw [h])
  rw [h] at k4
  injection k4 with a b
  injection b with c d
  rw [d]; exact k3
set_option maxHeartbeats 4000000 in
set_option maxRecDepth 100000 in
theorem l_rs0 {G : EG} {l : Launch} {h0 : EH} {M : Nat} {y0 y : MS} {h : EH} (hM : MD G h M y) {t : Nat → Nat} {n a p : Nat} {w0 : Nat → Nat} (ht : mA y0 1 = t) (hn2 : ms y0 2 = n) (hx : ∀ j, j < n → t j < 128) (hn : n ≤ 72) (ha : a < 41) (hR : RW a y0 y) (hp4 : ms y 4 = p) (hp : p ≤ n) (hF : Fr (atN M) h0 h) (hs0 : mS y a = (0, 0, 0, w0)) : Ex G l 4 mX12_readStatement (QS G M a y0 h0 (mPk t n 0 p w0)) eNoX 0 0 44 [(0, .ref M), (1, .int (nI (a))), (2, .int (nI 0)), (3, .int (nI 1))] [] h := by
  have et : mA y 1 = t := (hR.1.2.2 1 (by decide)).trans ht
  have en : ms y 2 = n := (hR.1.1 2 (by decide)).trans hn2
  have eX : (mPk t n 0 p w0) = fin n (rNs t n 2 7 7 0 p (0, 0, 0, w0)) := if_neg (by decide)
  have hle := rNs_le (t := t) (n := n) (least := 2) (most := 7) 7 0 p (0, 0, 0, w0) hp
  refine ex_iload_n rfl dX12_readStatement_44 ?_
  refine ex_ifN_eq (tgt := 60) (by decide) dX12_readStatement_45 (by omega) (fun c1 => ?_) (fun c1 => ?_)
  · refine ex_aload_n rfl dX12_readStatement_60 ?_
    refine ex_iload_n rfl dX12_readStatement_61 ?_
    refine ex_iconst (v := (nI 2)) (by decide) dX12_readStatement_62 ?_
    refine ex_bipush (v := (nI 7)) (by decide) dX12_readStatement_63 ?_
    refine ex_invv (k := 0) (n := 0) (mc' := 0) (ms' := 0) (As := [_, _, _]) dX12_readStatement_65 cv_X12_113 (by decide) (Nat.le_of_ble_eq_true rfl) (Or.inl ⟨_, _, _, _, hM.1, rfl⟩) (t_readNames hM hR.2.2.2 (least := 2) (most := 7) et en hx hn ha (by decide) (by rw [hs0]; show 0 + 7 ≤ 9; decide) (by omega)) (fun v h' q => ?_)
    obtain ⟨rfl, ⟨y1, hM1, hR1, e4_1, eS1⟩, hF1⟩ := q
    rw [hp4, hs0]
    rw [hp4, hs0] at e4_1 eS1
    have f2 : ms y1 2 = n := (hR1.1.1 2 (by decide)).trans en
    have f4 : ms y1 4 < 2 ^ 31 := by omega
    refine ex_istore_n (by decide) rfl dX12_readStatement_68 ?_
    refine ex_goto (tgt := 167) (by decide) dX12_readStatement_69 ?_
    refine ex_iload_n rfl dX12_readStatement_167 ?_
    refine ex_ifB_eq (tgt := 186) (by decide) dX12_readStatement_168 (fun c2 => ?_) (fun c2 => ?_)
    · refine ex_iconst (v := (nI 0)) (by decide) dX12_readStatement_186 ?_
      refine ex_zret dX12_readStatement_187 rfl rfl (QS.no hM1 (hR.tr hR1) (by rw [eX]; exact fin_n (Or.inl c2)) (by rw [eX]; exact e4_1) (hF.tr hF1))
    · refine ex_aload_n rfl dX12_readStatement_171 ?_
      refine ex_get dX12_readStatement_172 gf_X12_84 hM1.1 rfl ?_
      refine ex_aload_n rfl dX12_readStatement_175 ?_
      refine ex_get dX12_readStatement_176 gf_X12_81 hM1.1 rfl ?_
      refine ex_icmpN_ne (tgt := 186) (by decide) dX12_readStatement_179 (by omega) (by omega) (fun c3 => ?_) (fun c3 => ?_)
      · refine ex_iconst (v := (nI 0)) (by decide) dX12_readStatement_186 ?_
        refine ex_zret dX12_readStatement_187 rfl rfl (QS.no hM1 (hR.tr hR1) (by rw [eX]; exact fin_n (Or.inr (by rw [← e4_1, ← f2]; exact c3))) (by rw [eX]; exact e4_1) (hF.tr hF1))
      · refine ex_iconst (v := (nI 1)) (by decide) dX12_readStatement_182 ?_
        refine ex_goto (tgt := 187) (by decide) dX12_readStatement_183 ?_
        refine ex_zret dX12_readStatement_187 rfl rfl (QS.yes hM1 (hR.tr hR1) (by rw [eX]; exact fin_y c2 (by rw [← e4_1, ← f2]; exact c3)) (by rw [eX]; exact e4_1) (by rw [eX]; exact eS1) (hF.tr hF1))
  · exact absurd c1 (by decide)
set_option maxHeartbeats 4000000 in
set_option maxRecDepth 100000 in
theorem l_rs1 {G : EG} {l : Launch} {h0 : EH} {M : Nat} {y0 y : MS} {h : EH} (hM : MD G h M y) {t : Nat → Nat} {n a p : Nat} {w0 : Nat → Nat} (ht : mA y0 1 = t) (hn2 : ms y0 2 = n) (hx : ∀ j, j < n → t j < 128) (hn : n ≤ 72) (ha : a < 41) (hR : RW a y0 y) (hp4 : ms y 4 = p) (hp : p ≤ n) (hF : Fr (atN M) h0 h) (hs0 : mS y a = (1, 0, 0, w0)) : Ex G l 4 mX12_readStatement (QS G M a y0 h0 (mPk t n 1 p w0)) eNoX 0 0 44 [(0, .ref M), (1, .int (nI (a))), (2, .int (nI 1)), (3, .int (nI 1))] [] h := by
  have et : mA y 1 = t := (hR.1.2.2 1 (by decide)).trans ht
  have en : ms y 2 = n := (hR.1.1 2 (by decide)).trans hn2
  have eX : (mPk t n 1 p w0) = fin n (rNs t n 1 5 5 0 p (1, 0, 0, w0)) := if_neg (by decide)
  have hle := rNs_le (t := t) (n := n) (least := 1) (most := 5) 5 0 p (1, 0, 0, w0) hp
  refine ex_iload_n rfl dX12_readStatement_44 ?_
  refine ex_ifN_eq (tgt := 60) (by decide) dX12_readStatement_45 (by omega) (fun c1 => ?_) (fun c1 => ?_)
  · exact absurd c1 (by decide)
  · refine ex_iload_n rfl dX12_readStatement_48 ?_
    refine ex_bipush (v := (nI 7)) (by decide) dX12_readStatement_49 ?_
    refine ex_icmpN_eq (tgt := 60) (by decide) dX12_readStatement_51 (by omega) (by omega) (fun c2 => ?_) (fun c2 => ?_)
    · exact absurd c2 (by decide)
    · refine ex_iload_n rfl dX12_readStatement_54 ?_
      refine ex_bipush (v := (nI 8)) (by decide) dX12_readStatement_55 ?_
      refine ex_icmpN_ne (tgt := 72) (by decide) dX12_readStatement_57 (by omega) (by omega) (fun c3 => ?_) (fun c3 => ?_)
      · refine ex_iload_n rfl dX12_readStatement_72 ?_
        refine ex_iconst (v := (nI 1)) (by decide) dX12_readStatement_73 ?_
        refine ex_icmpN_ne (tgt := 88) (by decide) dX12_readStatement_74 (by omega) (by omega) (fun c4 => ?_) (fun c4 => ?_)
        · exact absurd c4 (by decide)
        · refine ex_aload_n rfl dX12_readStatement_77 ?_
          refine ex_iload_n rfl dX12_readStatement_78 ?_
          refine ex_iconst (v := (nI 1)) (by decide) dX12_readStatement_79 ?_
          refine ex_iconst (v := (nI 5)) (by decide) dX12_readStatement_80 ?_
          refine ex_invv (k := 0) (n := 0) (mc' := 0) (ms' := 0) (As := [_, _, _]) dX12_readStatement_81 cv_X12_113 (by decide) (Nat.le_of_ble_eq_true rfl) (Or.inl ⟨_, _, _, _, hM.1, rfl⟩) (t_readNames hM hR.2.2.2 (least := 1) (most := 5) et en hx hn ha (by decide) (by rw [hs0]; show 0 + 5 ≤ 9; decide) (by omega)) (fun v h' q => ?_)
          obtain ⟨rfl, ⟨y1, hM1, hR1, e4_1, eS1⟩, hF1⟩ := q
          rw [hp4, hs0]
          rw [hp4, hs0] at e4_1 eS1
          have f2 : ms y1 2 = n := (hR1.1.1 2 (by decide)).trans en
          have f4 : ms y1 4 < 2 ^ 31 := by omega
          refine ex_istore_n (by decide) rfl dX12_readStatement_84 ?_
          refine ex_goto (tgt := 167) (by decide) dX12_readStatement_85 ?_
          refine ex_iload_n rfl dX12_readStatement_167 ?_
          refine ex_ifB_eq (tgt := 186) (by decide) dX12_readStatement_168 (fun c5 => ?_) (fun c5 => ?_)
          · refine ex_iconst (v := (nI 0)) (by decide) dX12_readStatement_186 ?_
            refine ex_zret dX12_readStatement_187 rfl rfl (QS.no hM1 (hR.tr hR1) (by rw [eX]; exact fin_n (Or.inl c5)) (by rw [eX]; exact e4_1) (hF.tr hF1))
          · refine ex_aload_n rfl dX12_readStatement_171 ?_
            refine ex_get dX12_readStatement_172 gf_X12_84 hM1.1 rfl ?_
            refine ex_aload_n rfl dX12_readStatement_175 ?_
            refine ex_get dX12_readStatement_176 gf_X12_81 hM1.1 rfl ?_
            refine ex_icmpN_ne (tgt := 186) (by decide) dX12_readStatement_179 (by omega) (by omega) (fun c6 => ?_) (fun c6 => ?_)
            · refine ex_iconst (v := (nI 0)) (by decide) dX12_readStatement_186 ?_
              refine ex_zret dX12_readStatement_187 rfl rfl (QS.no hM1 (hR.tr hR1) (by rw [eX]; exact fin_n (Or.inr (by rw [← e4_1, ← f2]; exact c6))) (by rw [eX]; exact e4_1) (hF.tr hF1))
            · refine ex_iconst (v := (nI 1)) (by decide) dX12_readStatement_182 ?_
              refine ex_goto (tgt := 187) (by decide) dX12_readStatement_183 ?_
              refine ex_zret dX12_readStatement_187 rfl rfl (QS.yes hM1 (hR.tr hR1) (by rw [eX]; exact fin_y c5 (by rw [← e4_1, ← f2]; exact c6)) (by rw [eX]; exact e4_1) (by rw [eX]; exact eS1) (hF.tr hF1))
      · exact absurd c3 (by decide)
set_option maxHeartbeats 4000000 in
set_option maxRecDepth 100000 in
theorem l_rs2 {G : EG} {l : Launch} {h0 : EH} {M : Nat} {y0 y : MS} {h : EH} (hM : MD G h M y) {t : Nat → Nat} {n a p : Nat} {w0 : Nat → Nat} (ht : mA y0 1 = t) (hn2 : ms y0 2 = n) (hx : ∀ j, j < n → t j < 128) (hn : n ≤ 72) (ha : a < 41) (hR : RW a y0 y) (hp4 : ms y 4 = p) (hp : p ≤ n) (hF : Fr (atN M) h0 h) (hs0 : mS y a = (2, 0, 0, w0)) : Ex G l 4 mX12_readStatement (QS G M a y0 h0 (mPk t n 2 p w0)) eNoX 0 0 44 [(0, .ref M), (1, .int (nI (a))), (2, .int (nI 2)), (3, .int (nI 1))] [] h := by
  have et : mA y 1 = t := (hR.1.2.2 1 (by decide)).trans ht
  have en : ms y 2 = n := (hR.1.1 2 (by decide)).trans hn2
  have eX : (mPk t n 2 p w0) = fin n (rNs t n 4 9 9 0 p (2, 0, 0, w0)) := if_neg (by decide)
  have hle := rNs_le (t := t) (n := n) (least := 4) (most := 9) 9 0 p (2, 0, 0, w0) hp
  refine ex_iload_n rfl dX12_readStatement_44 ?_
  refine ex_ifN_eq (tgt := 60) (by decide) dX12_readStatement_45 (by omega) (fun c1 => ?_) (fun c1 => ?_)
  · exact absurd c1 (by decide)
  · refine ex_iload_n rfl dX12_readStatement_48 ?_
    refine ex_bipush (v := (nI 7)) (by decide) dX12_readStatement_49 ?_
    refine ex_icmpN_eq (tgt := 60) (by decide) dX12_readStatement_51 (by omega) (by omega) (fun c2 => ?_) (fun c2 => ?_)
    · exact absurd c2 (by decide)
    · refine ex_iload_n rfl dX12_readStatement_54 ?_
      refine ex_bipush (v := (nI 8)) (by decide) dX12_readStatement_55 ?_
      refine ex_icmpN_ne (tgt := 72) (by decide) dX12_readStatement_57 (by omega) (by omega) (fun c3 => ?_) (fun c3 => ?_)
      · refine ex_iload_n rfl dX12_readStatement_72 ?_
        refine ex_iconst (v := (nI 1)) (by decide) dX12_readStatement_73 ?_
        refine ex_icmpN_ne (tgt := 88) (by decide) dX12_readStatement_74 (by omega) (by omega) (fun c4 => ?_) (fun c4 => ?_)
        · refine ex_iload_n rfl dX12_readStatement_88 ?_
          refine ex_iconst (v := (nI 2)) (by decide) dX12_readStatement_89 ?_
          refine ex_icmpN_eq (tgt := 98) (by decide) dX12_readStatement_90 (by omega) (by omega) (fun c5 => ?_) (fun c5 => ?_)
          · refine ex_aload_n rfl dX12_readStatement_98 ?_
            refine ex_iload_n rfl dX12_readStatement_99 ?_
            refine ex_iconst (v := (nI 4)) (by decide) dX12_readStatement_100 ?_
            refine ex_bipush (v := (nI 9)) (by decide) dX12_readStatement_101 ?_
            refine ex_invv (k := 0) (n := 0) (mc' := 0) (ms' := 0) (As := [_, _, _]) dX12_readStatement_103 cv_X12_113 (by decide) (Nat.le_of_ble_eq_true rfl) (Or.inl ⟨_, _, _, _, hM.1, rfl⟩) (t_readNames hM hR.2.2.2 (least := 4) (most := 9) et en hx hn ha (by decide) (by rw [hs0]; show 0 + 9 ≤ 9; decide) (by omega)) (fun v h' q => ?_)
            obtain ⟨rfl, ⟨y1, hM1, hR1, e4_1, eS1⟩, hF1⟩ := q
            rw [hp4, hs0]
            rw [hp4, hs0] at e4_1 eS1
            have f2 : ms y1 2 = n := (hR1.1.1 2 (by decide)).trans en
            have f4 : ms y1 4 < 2 ^ 31 := by omega
            refine ex_istore_n (by decide) rfl dX12_readStatement_106 ?_
            refine ex_goto (tgt := 167) (by decide) dX12_readStatement_107 ?_
            refine ex_iload_n rfl dX12_readStatement_167 ?_
            refine ex_ifB_eq (tgt := 186) (by decide) dX12_readStatement_168 (fun c6 => ?_) (fun c6 => ?_)
            · refine ex_iconst (v := (nI 0)) (by decide) dX12_readStatement_186 ?_
              refine ex_zret dX12_readStatement_187 rfl rfl (QS.no hM1 (hR.tr hR1) (by rw [eX]; exact fin_n (Or.inl c6)) (by rw [eX]; exact e4_1) (hF.tr hF1))
            · refine ex_aload_n rfl dX12_readStatement_171 ?_
              refine ex_get dX12_readStatement_172 gf_X12_84 hM1.1 rfl ?_
              refine ex_aload_n rfl dX12_readStatement_175 ?_
              refine ex_get dX12_readStatement_176 gf_X12_81 hM1.1 rfl ?_
              refine ex_icmpN_ne (tgt := 186) (by decide) dX12_readStatement_179 (by omega) (by omega) (fun c7 => ?_) (fun c7 => ?_)
              · refine ex_iconst (v := (nI 0)) (by decide) dX12_readStatement_186 ?_
                refine ex_zret dX12_readStatement_187 rfl rfl (QS.no hM1 (hR.tr hR1) (by rw [eX]; exact fin_n (Or.inr (by rw [← e4_1, ← f2]; exact c7))) (by rw [eX]; exact e4_1) (hF.tr hF1))
              · refine ex_iconst (v := (nI 1)) (by decide) dX12_readStatement_182 ?_
                refine ex_goto (tgt := 187) (by decide) dX12_readStatement_183 ?_
                refine ex_zret dX12_readStatement_187 rfl rfl (QS.yes hM1 (hR.tr hR1) (by rw [eX]; exact fin_y c6 (by rw [← e4_1, ← f2]; exact c7)) (by rw [eX]; exact e4_1) (by rw [eX]; exact eS1) (hF.tr hF1))
          · exact absurd c5 (by decide)
        · exact absurd c4 (by decide)
      · exact absurd c3 (by decide)
set_option maxHeartbeats 4000000 in
set_option maxRecDepth 100000 in
theorem l_rs3 {G : EG} {l : Launch} {h0 : EH} {M : Nat} {y0 y : MS} {h : EH} (hM : MD G h M y) {t : Nat → Nat} {n a p : Nat} {w0 : Nat → Nat} (ht : mA y0 1 = t) (hn2 : ms y0 2 = n) (hx : ∀ j, j < n → t j < 128) (hn : n ≤ 72) (ha : a < 41) (hR : RW a y0 y) (hp4 : ms y 4 = p) (hp : p ≤ n) (hF : Fr (atN M) h0 h) (hs0 : mS y a = (3, 0, 0, w0)) : Ex G l 4 mX12_readStatement (QS G M a y0 h0 (mPk t n 3 p w0)) eNoX 0 0 44 [(0, .ref M), (1, .int (nI (a))), (2, .int (nI 3)), (3, .int (nI 1))] [] h := by
  have et : mA y 1 = t := (hR.1.2.2 1 (by decide)).trans ht
  have en : ms y 2 = n := (hR.1.1 2 (by decide)).trans hn2
  have eX : (mPk t n 3 p w0) = fin n (rNs t n 4 9 9 0 p (3, 0, 0, w0)) := if_neg (by decide)
  have hle := rNs_le (t := t) (n := n) (least := 4) (most := 9) 9 0 p (3, 0, 0, w0) hp
  refine ex_iload_n rfl dX12_readStatement_44 ?_
  refine ex_ifN_eq (tgt := 60) (by decide) dX12_readStatement_45 (by omega) (fun c1 => ?_) (fun c1 => ?_)
  · exact absurd c1 (by decide)
  · refine ex_iload_n rfl dX12_readStatement_48 ?_
    refine ex_bipush (v := (nI 7)) (by decide) dX12_readStatement_49 ?_
    refine ex_icmpN_eq (tgt := 60) (by decide) dX12_readStatement_51 (by omega) (by omega) (fun c2 => ?_) (fun c2 => ?_)
    · exact absurd c2 (by decide)
    · refine ex_iload_n rfl dX12_readStatement_54 ?_
      refine ex_bipush (v := (nI 8)) (by decide) dX12_readStatement_55 ?_
      refine ex_icmpN_ne (tgt := 72) (by decide) dX12_readStatement_57 (by omega) (by omega) (fun c3 => ?_) (fun c3 => ?_)
      · refine ex_iload_n rfl dX12_readStatement_72 ?_
        refine ex_iconst (v := (nI 1)) (by decide) dX12_readStatement_73 ?_
        refine ex_icmpN_ne (tgt := 88) (by decide) dX12_readStatement_74 (by omega) (by omega) (fun c4 => ?_) (fun c4 => ?_)
        · refine ex_iload_n rfl dX12_readStatement_88 ?_
          refine ex_iconst (v := (nI 2)) (by decide) dX12_readStatement_89 ?_
          refine ex_icmpN_eq (tgt := 98) (by decide) dX12_readStatement_90 (by omega) (by omega) (fun c5 => ?_) (fun c5 => ?_)
          · exact absurd c5 (by decide)
          · refine ex_iload_n rfl dX12_readStatement_93 ?_
            refine ex_iconst (v := (nI 3)) (by decide) dX12_readStatement_94 ?_
            refine ex_icmpN_ne (tgt := 110) (by decide) dX12_readStatement_95 (by omega) (by omega) (fun c6 => ?_) (fun c6 => ?_)
            · exact absurd c6 (by decide)
            · refine ex_aload_n rfl dX12_readStatement_98 ?_
              refine ex_iload_n rfl dX12_readStatement_99 ?_
              refine ex_iconst (v := (nI 4)) (by decide) dX12_readStatement_100 ?_
              refine ex_bipush (v := (nI 9)) (by decide) dX12_readStatement_101 ?_
              refine ex_invv (k := 0) (n := 0) (mc' := 0) (ms' := 0) (As := [_, _, _]) dX12_readStatement_103 cv_X12_113 (by decide) (Nat.le_of_ble_eq_true rfl) (Or.inl ⟨_, _, _, _, hM.1, rfl⟩) (t_readNames hM hR.2.2.2 (least := 4) (most := 9) et en hx hn ha (by decide) (by rw [hs0]; show 0 + 9 ≤ 9; decide) (by omega)) (fun v h' q => ?_)
              obtain ⟨rfl, ⟨y1, hM1, hR1, e4_1, eS1⟩, hF1⟩ := q
              rw [hp4, hs0]
              rw [hp4, hs0] at e4_1 eS1
              have f2 : ms y1 2 = n := (hR1.1.1 2 (by decide)).trans en
              have f4 : ms y1 4 < 2 ^ 31 := by omega
              refine ex_istore_n (by decide) rfl dX12_readStatement_106 ?_
              refine ex_goto (tgt := 167) (by decide) dX12_readStatement_107 ?_
              refine ex_iload_n rfl dX12_readStatement_167 ?_
              refine ex_ifB_eq (tgt := 186) (by decide) dX12_readStatement_168 (fun c7 => ?_) (fun c7 => ?_)
              · refine ex_iconst (v := (nI 0)) (by decide) dX12_readStatement_186 ?_
                refine ex_zret dX12_readStatement_187 rfl rfl (QS.no hM1 (hR.tr hR1) (by rw [eX]; exact fin_n (Or.inl c7)) (by rw [eX]; exact e4_1) (hF.tr hF1))
              · refine ex_aload_n rfl dX12_readStatement_171 ?_
                refine ex_get dX12_readStatement_172 gf_X12_84 hM1.1 rfl ?_
                refine ex_aload_n rfl dX12_readStatement_175 ?_
                refine ex_get dX12_readStatement_176 gf_X12_81 hM1.1 rfl ?_
                refine ex_icmpN_ne (tgt := 186) (by decide) dX12_readStatement_179 (by omega) (by omega) (fun c8 => ?_) (fun c8 => ?_)
                · refine ex_iconst (v := (nI 0)) (by decide) dX12_readStatement_186 ?_
                  refine ex_zret dX12_readStatement_187 rfl rfl (QS.no hM1 (hR.tr hR1) (by rw [eX]; exact fin_n (Or.inr (by rw [← e4_1, ← f2]; exact c8))) (by rw [eX]; exact e4_1) (hF.tr hF1))
                · refine ex_iconst (v := (nI 1)) (by decide) dX12_readStatement_182 ?_
                  refine ex_goto (tgt := 187) (by decide) dX12_readStatement_183 ?_
                  refine ex_zret dX12_readStatement_187 rfl rfl (QS.yes hM1 (hR.tr hR1) (by rw [eX]; exact fin_y c7 (by rw [← e4_1, ← f2]; exact c8)) (by rw [eX]; exact e4_1) (by rw [eX]; exact eS1) (hF.tr hF1))
        · exact absurd c4 (by decide)
      · exact absurd c3 (by decide)
set_option maxHeartbeats 4000000 in
set_option maxRecDepth 100000 in
theorem l_rs4 {G : EG} {l : Launch} {h0 : EH} {M : Nat} {y0 y : MS} {h : EH} (hM : MD G h M y) {t : Nat → Nat} {n a p : Nat} {w0 : Nat → Nat} (ht : mA y0 1 = t) (hn2 : ms y0 2 = n) (hx : ∀ j, j < n → t j < 128) (hn : n ≤ 72) (ha : a < 41) (hR : RW a y0 y) (hp4 : ms y 4 = p) (hp : p ≤ n) (hF : Fr (atN M) h0 h) (hs0 : mS y a = (4, 0, 0, w0)) : Ex G l 4 mX12_readStatement (QS G M a y0 h0 (mPk t n 4 p w0)) eNoX 0 0 44 [(0, .ref M), (1, .int (nI (a))), (2, .int (nI 4)), (3, .int (nI 1))] [] h := by
  have et : mA y 1 = t := (hR.1.2.2 1 (by decide)).trans ht
  have en : ms y 2 = n := (hR.1.1 2 (by decide)).trans hn2
  have eX : (mPk t n 4 p w0) = fin n (rNs t n 4 4 4 0 p (4, 0, 0, w0)) := if_neg (by decide)
  have hle := rNs_le (t := t) (n := n) (least := 4) (most := 4) 4 0 p (4, 0, 0, w0) hp
  refine ex_iload_n rfl dX12_readStatement_44 ?_
  refine ex_ifN_eq (tgt := 60) (by decide) dX12_readStatement_45 (by omega) (fun c1 => ?_) (fun c1 => ?_)
  · exact absurd c1 (by decide)
  · refine ex_iload_n rfl dX12_readStatement_48 ?_
    refine ex_bipush (v := (nI 7)) (by decide) dX12_readStatement_49 ?_
    refine ex_icmpN_eq (tgt := 60) (by decide) dX12_readStatement_51 (by omega) (by omega) (fun c2 => ?_) (fun c2 => ?_)
    · exact absurd c2 (by decide)
    · refine ex_iload_n rfl dX12_readStatement_54 ?_
      refine ex_bipush (v := (nI 8)) (by decide) dX12_readStatement_55 ?_
      refine ex_icmpN_ne (tgt := 72) (by decide) dX12_readStatement_57 (by omega) (by omega) (fun c3 => ?_) (fun c3 => ?_)
      · refine ex_iload_n rfl dX12_readStatement_72 ?_
        refine ex_iconst (v := (nI 1)) (by decide) dX12_readStatement_73 ?_
        refine ex_icmpN_ne (tgt := 88) (by decide) dX12_readStatement_74 (by omega) (by omega) (fun c4 => ?_) (fun c4 => ?_)
        · refine ex_iload_n rfl dX12_readStatement_88 ?_
          refine ex_iconst (v := (nI 2)) (by decide) dX12_readStatement_89 ?_
          refine ex_icmpN_eq (tgt := 98) (by decide) dX12_readStatement_90 (by omega) (by omega) (fun c5 => ?_) (fun c5 => ?_)
          · exact absurd c5 (by decide)
          · refine ex_iload_n rfl dX12_readStatement_93 ?_
            refine ex_iconst (v := (nI 3)) (by decide) dX12_readStatement_94 ?_
            refine ex_icmpN_ne (tgt := 110) (by decide) dX12_readStatement_95 (by omega) (by omega) (fun c6 => ?_) (fun c6 => ?_)
            · refine ex_iload_n rfl dX12_readStatement_110 ?_
              refine ex_iconst (v := (nI 4)) (by decide) dX12_readStatement_111 ?_
              refine ex_icmpN_ne (tgt := 126) (by decide) dX12_readStatement_112 (by omega) (by omega) (fun c7 => ?_) (fun c7 => ?_)
              · exact absurd c7 (by decide)
              · refine ex_aload_n rfl dX12_readStatement_115 ?_
                refine ex_iload_n rfl dX12_readStatement_116 ?_
                refine ex_iconst (v := (nI 4)) (by decide) dX12_readStatement_117 ?_
                refine ex_iconst (v := (nI 4)) (by decide) dX12_readStatement_118 ?_
                refine ex_invv (k := 0) (n := 0) (mc' := 0) (ms' := 0) (As := [_, _, _]) dX12_readStatement_119 cv_X12_113 (by decide) (Nat.le_of_ble_eq_true rfl) (Or.inl ⟨_, _, _, _, hM.1, rfl⟩) (t_readNames hM hR.2.2.2 (least := 4) (most := 4) et en hx hn ha (by decide) (by rw [hs0]; show 0 + 4 ≤ 9; decide) (by omega)) (fun v h' q => ?_)
                obtain ⟨rfl, ⟨y1, hM1, hR1, e4_1, eS1⟩, hF1⟩ := q
                rw [hp4, hs0]
                rw [hp4, hs0] at e4_1 eS1
                have f2 : ms y1 2 = n := (hR1.1.1 2 (by decide)).trans en
                have f4 : ms y1 4 < 2 ^ 31 := by omega
                refine ex_istore_n (by decide) rfl dX12_readStatement_122 ?_
                refine ex_goto (tgt := 167) (by decide) dX12_readStatement_123 ?_
                refine ex_iload_n rfl dX12_readStatement_167 ?_
                refine ex_ifB_eq (tgt := 186) (by decide) dX12_readStatement_168 (fun c8 => ?_) (fun c8 => ?_)
                · refine ex_iconst (v := (nI 0)) (by decide) dX12_readStatement_186 ?_
                  refine ex_zret dX12_readStatement_187 rfl rfl (QS.no hM1 (hR.tr hR1) (by rw [eX]; exact fin_n (Or.inl c8)) (by rw [eX]; exact e4_1) (hF.tr hF1))
                · refine ex_aload_n rfl dX12_readStatement_171 ?_
                  refine ex_get dX12_readStatement_172 gf_X12_84 hM1.1 rfl ?_
                  refine ex_aload_n rfl dX12_readStatement_175 ?_
                  refine ex_get dX12_readStatement_176 gf_X12_81 hM1.1 rfl ?_
                  refine ex_icmpN_ne (tgt := 186) (by decide) dX12_readStatement_179 (by omega) (by omega) (fun c9 => ?_) (fun c9 => ?_)
                  · refine ex_iconst (v := (nI 0)) (by decide) dX12_readStatement_186 ?_
                    refine ex_zret dX12_readStatement_187 rfl rfl (QS.no hM1 (hR.tr hR1) (by rw [eX]; exact fin_n (Or.inr (by rw [← e4_1, ← f2]; exact c9))) (by rw [eX]; exact e4_1) (hF.tr hF1))
                  · refine ex_iconst (v := (nI 1)) (by decide) dX12_readStatement_182 ?_
                    refine ex_goto (tgt := 187) (by decide) dX12_readStatement_183 ?_
                    refine ex_zret dX12_readStatement_187 rfl rfl (QS.yes hM1 (hR.tr hR1) (by rw [eX]; exact fin_y c8 (by rw [← e4_1, ← f2]; exact c9)) (by rw [eX]; exact e4_1) (by rw [eX]; exact eS1) (hF.tr hF1))
            · exact absurd c6 (by decide)
        · exact absurd c4 (by decide)
      · exact absurd c3 (by decide)
set_option maxHeartbeats 4000000 in
set_option maxRecDepth 100000 in
theorem l_rs7 {G : EG} {l : Launch} {h0 : EH} {M : Nat} {y0 y : MS} {h : EH} (hM : MD G h M y) {t : Nat → Nat} {n a p : Nat} {w0 : Nat → Nat} (ht : mA y0 1 = t) (hn2 : ms y0 2 = n) (hx : ∀ j, j < n → t j < 128) (hn : n ≤ 72) (ha : a < 41) (hR : RW a y0 y) (hp4 : ms y 4 = p) (hp : p ≤ n) (hF : Fr (atN M) h0 h) (hs0 : mS y a = (7, 0, 0, w0)) : Ex G l 4 mX12_readStatement (QS G M a y0 h0 (mPk t n 7 p w0)) eNoX 0 0 44 [(0, .ref M), (1, .int (nI (a))), (2, .int (nI 7)), (3, .int (nI 1))] [] h := by
  have et : mA y 1 = t := (hR.1.2.2 1 (by decide)).trans ht
  have en : ms y 2 = n := (hR.1.1 2 (by decide)).trans hn2
  have eX : (mPk t n 7 p w0) = fin n (rNs t n 2 7 7 0 p (7, 0, 0, w0)) := if_neg (by decide)
  have hle := rNs_le (t := t) (n := n) (least := 2) (most := 7) 7 0 p (7, 0, 0, w0) hp
  refine ex_iload_n rfl dX12_readStatement_44 ?_
  refine ex_ifN_eq (tgt := 60) (by decide) dX12_readStatement_45 (by omega) (fun c1 => ?_) (fun c1 => ?_)
  · exact absurd c1 (by decide)
  · refine ex_iload_n rfl dX12_readStatement_48 ?_
    refine ex_bipush (v := (nI 7)) (by decide) dX12_readStatement_49 ?_
    refine ex_icmpN_eq (tgt := 60) (by decide) dX12_readStatement_51 (by omega) (by omega) (fun c2 => ?_) (fun c2 => ?_)
    · refine ex_aload_n rfl dX12_readStatement_60 ?_
      refine ex_iload_n rfl dX12_readStatement_61 ?_
      refine ex_iconst (v := (nI 2)) (by decide) dX12_readStatement_62 ?_
      refine ex_bipush (v := (nI 7)) (by decide) dX12_readStatement_63 ?_
      refine ex_invv (k := 0) (n := 0) (mc' := 0) (ms' := 0) (As := [_, _, _]) dX12_readStatement_65 cv_X12_113 (by decide) (Nat.le_of_ble_eq_true rfl) (Or.inl ⟨_, _, _, _, hM.1, rfl⟩) (t_readNames hM hR.2.2.2 (least := 2) (most := 7) et en hx hn ha (by decide) (by rw [hs0]; show 0 + 7 ≤ 9; decide) (by omega)) (fun v h' q => ?_)
      obtain ⟨rfl, ⟨y1, hM1, hR1, e4_1, eS1⟩, hF1⟩ := q
      rw [hp4, hs0]
      rw [hp4, hs0] at e4_1 eS1
      have f2 : ms y1 2 = n := (hR1.1.1 2 (by decide)).trans en
      have f4 : ms y1 4 < 2 ^ 31 := by omega
      refine ex_istore_n (by decide) rfl dX12_readStatement_68 ?_
      refine ex_goto (tgt := 167) (by decide) dX12_readStatement_69 ?_
      refine ex_iload_n rfl dX12_readStatement_167 ?_
      refine ex_ifB_eq (tgt := 186) (by decide) dX12_readStatement_168 (fun c3 => ?_) (fun c3 => ?_)
      · refine ex_iconst (v := (nI 0)) (by decide) dX12_readStatement_186 ?_
        refine ex_zret dX12_readStatement_187 rfl rfl (QS.no hM1 (hR.tr hR1) (by rw [eX]; exact fin_n (Or.inl c3)) (by rw [eX]; exact e4_1) (hF.tr hF1))
      · refine ex_aload_n rfl dX12_readStatement_171 ?_
        refine ex_get dX12_readStatement_172 gf_X12_84 hM1.1 rfl ?_
        refine ex_aload_n rfl dX12_readStatement_175 ?_
        refine ex_get dX12_readStatement_176 gf_X12_81 hM1.1 rfl ?_
        refine ex_icmpN_ne (tgt := 186) (by decide) dX12_readStatement_179 (by omega) (by omega) (fun c4 => ?_) (fun c4 => ?_)
        · refine ex_iconst (v := (nI 0)) (by decide) dX12_readStatement_186 ?_
          refine ex_zret dX12_readStatement_187 rfl rfl (QS.no hM1 (hR.tr hR1) (by rw [eX]; exact fin_n (Or.inr (by rw [← e4_1, ← f2]; exact c4))) (by rw [eX]; exact e4_1) (hF.tr hF1))
        · refine ex_iconst (v := (nI 1)) (by decide) dX12_readStatement_182 ?_
          refine ex_goto (tgt := 187) (by decide) dX12_readStatement_183 ?_
          refine ex_zret dX12_readStatement_187 rfl rfl (QS.yes hM1 (hR.tr hR1) (by rw [eX]; exact fin_y c3 (by rw [← e4_1, ← f2]; exact c4)) (by rw [eX]; exact e4_1) (by rw [eX]; exact eS1) (hF.tr hF1))
    · exact absurd c2 (by decide)
set_option maxHeartbeats 4000000 in
set_option maxRecDepth 100000 in
theorem l_rs8 {G : EG} {l : Launch} {h0 : EH} {M : Nat} {y0 y : MS} {h : EH} (hM : MD G h M y) {t : Nat → Nat} {n a p : Nat} {w0 : Nat → Nat} (ht : mA y0 1 = t) (hn2 : ms y0 2 = n) (hx : ∀ j, j < n → t j < 128) (hn : n ≤ 72) (ha : a < 41) (hR : RW a y0 y) (hp4 : ms y 4 = p) (hp : p ≤ n) (hF : Fr (atN M) h0 h) (hs0 : mS y a = (8, 0, 0, w0)) : Ex G l 4 mX12_readStatement (QS G M a y0 h0 (mPk t n 8 p w0)) eNoX 0 0 44 [(0, .ref M), (1, .int (nI (a))), (2, .int (nI 8)), (3, .int (nI 1))] [] h := by
  have et : mA y 1 = t := (hR.1.2.2 1 (by decide)).trans ht
  have en : ms y 2 = n := (hR.1.1 2 (by decide)).trans hn2
  have eX : (mPk t n 8 p w0) = fin n (rNs t n 2 7 7 0 p (8, 0, 0, w0)) := if_neg (by decide)
  have hle := rNs_le (t := t) (n := n) (least := 2) (most := 7) 7 0 p (8, 0, 0, w0) hp
  refine ex_iload_n rfl dX12_readStatement_44 ?_
  refine ex_ifN_eq (tgt := 60) (by decide) dX12_readStatement_45 (by omega) (fun c1 => ?_) (fun c1 => ?_)
  · exact absurd c1 (by decide)
  · refine ex_iload_n rfl dX12_readStatement_48 ?_
    refine ex_bipush (v := (nI 7)) (by decide) dX12_readStatement_49 ?_
    refine ex_icmpN_eq (tgt := 60) (by decide) dX12_readStatement_51 (by omega) (by omega) (fun c2 => ?_) (fun c2 => ?_)
    · exact absurd c2 (by decide)
    · refine ex_iload_n rfl dX12_readStatement_54 ?_
      refine ex_bipush (v := (nI 8)) (by decide) dX12_readStatement_55 ?_
      refine ex_icmpN_ne (tgt := 72) (by decide) dX12_readStatement_57 (by omega) (by omega) (fun c3 => ?_) (fun c3 => ?_)
      · exact absurd c3 (by decide)
      · refine ex_aload_n rfl dX12_readStatement_60 ?_
        refine ex_iload_n rfl dX12_readStatement_61 ?_
        refine ex_iconst (v := (nI 2)) (by decide) dX12_readStatement_62 ?_
        refine ex_bipush (v := (nI 7)) (by decide) dX12_readStatement_63 ?_
        refine ex_invv (k := 0) (n := 0) (mc' := 0) (ms' := 0) (As := [_, _, _]) dX12_readStatement_65 cv_X12_113 (by decide) (Nat.le_of_ble_eq_true rfl) (Or.inl ⟨_, _, _, _, hM.1, rfl⟩) (t_readNames hM hR.2.2.2 (least := 2) (most := 7) et en hx hn ha (by decide) (by rw [hs0]; show 0 + 7 ≤ 9; decide) (by omega)) (fun v h' q => ?_)
        obtain ⟨rfl, ⟨y1, hM1, hR1, e4_1, eS1⟩, hF1⟩ := q
        rw [hp4, hs0]
        rw [hp4, hs0] at e4_1 eS1
        have f2 : ms y1 2 = n := (hR1.1.1 2 (by decide)).trans en
        have f4 : ms y1 4 < 2 ^ 31 := by omega
        refine ex_istore_n (by decide) rfl dX12_readStatement_68 ?_
        refine ex_goto (tgt := 167) (by decide) dX12_readStatement_69 ?_
        refine ex_iload_n rfl dX12_readStatement_167 ?_
        refine ex_ifB_eq (tgt := 186) (by decide) dX12_readStatement_168 (fun c4 => ?_) (fun c4 => ?_)
        · refine ex_iconst (v := (nI 0)) (by decide) dX12_readStatement_186 ?_
          refine ex_zret dX12_readStatement_187 rfl rfl (QS.no hM1 (hR.tr hR1) (by rw [eX]; exact fin_n (Or.inl c4)) (by rw [eX]; exact e4_1) (hF.tr hF1))
        · refine ex_aload_n rfl dX12_readStatement_171 ?_
          refine ex_get dX12_readStatement_172 gf_X12_84 hM1.1 rfl ?_
          refine ex_aload_n rfl dX12_readStatement_175 ?_
          refine ex_get dX12_readStatement_176 gf_X12_81 hM1.1 rfl ?_
          refine ex_icmpN_ne (tgt := 186) (by decide) dX12_readStatement_179 (by omega) (by omega) (fun c5 => ?_) (fun c5 => ?_)
          · refine ex_iconst (v := (nI 0)) (by decide) dX12_readStatement_186 ?_
            refine ex_zret dX12_readStatement_187 rfl rfl (QS.no hM1 (hR.tr hR1) (by rw [eX]; exact fin_n (Or.inr (by rw [← e4_1, ← f2]; exact c5))) (by rw [eX]; exact e4_1) (hF.tr hF1))
          · refine ex_iconst (v := (nI 1)) (by decide) dX12_readStatement_182 ?_
            refine ex_goto (tgt := 187) (by decide) dX12_readStatement_183 ?_
            refine ex_zret dX12_readStatement_187 rfl rfl (QS.yes hM1 (hR.tr hR1) (by rw [eX]; exact fin_y c4 (by rw [← e4_1, ← f2]; exact c5)) (by rw [eX]; exact e4_1) (by rw [eX]; exact eS1) (hF.tr hF1))
set_option maxHeartbeats 4000000 in
set_option maxRecDepth 100000 in
theorem l_rs5 {G : EG} {l : Launch} {h0 : EH} {M : Nat} {y0 y : MS} {h : EH} (hM : MD G h M y) {t : Nat → Nat} {n a p : Nat} {w0 : Nat → Nat} (ht : mA y0 1 = t) (hn2 : ms y0 2 = n) (hx : ∀ j, j < n → t j < 128) (hn : n ≤ 72) (ha : a < 41) (hR : RW a y0 y) (hp4 : ms y 4 = p) (hp : p ≤ n) (hF : Fr (atN M) h0 h) (hs0 : mS y a = (5, 0, 0, w0)) : Ex G l 4 mX12_readStatement (QS G M a y0 h0 (mPk t n 5 p w0)) eNoX 0 0 44 [(0, .ref M), (1, .int (nI (a))), (2, .int (nI 5)), (3, .int (nI 1))] [] h := by
  have et : mA y 1 = t := (hR.1.2.2 1 (by decide)).trans ht
  have en : ms y 2 = n := (hR.1.1 2 (by decide)).trans hn2
  have eX : (mPk t n 5 p w0) = mP56 t n 5 p w0 := if_pos (by decide)
  have x0 : (rNs t n 1 1 1 0 p (5, 0, 0, w0)).1 = false → (mPk t n 5 p w0) = (rNs t n 1 1 1 0 p (5, 0, 0, w0)) := fun z => by rw [eX]; unfold mP56; rw [if_neg (by rw [z]; decide)]
  have x1 : (rNs t n 1 1 1 0 p (5, 0, 0, w0)).1 = true → (pMk t n 10 (rNs t n 1 1 1 0 p (5, 0, 0, w0)).2.1 (rNs t n 1 1 1 0 p (5, 0, 0, w0)).2.2).1 = false → (mPk t n 5 p w0) = (pMk t n 10 (rNs t n 1 1 1 0 p (5, 0, 0, w0)).2.1 (rNs t n 1 1 1 0 p (5, 0, 0, w0)).2.2) := fun z w => by rw [eX]; unfold mP56; rw [if_pos z]; exact if_neg (by rw [w]; decide)
  have x2 : (rNs t n 1 1 1 0 p (5, 0, 0, w0)).1 = true → (pMk t n 10 (rNs t n 1 1 1 0 p (5, 0, 0, w0)).2.1 (rNs t n 1 1 1 0 p (5, 0, 0, w0)).2.2).1 = true → (mPk t n 5 p w0) = fin n (pMk t n 10 (rNs t n 1 1 1 0 p (5, 0, 0, w0)).2.1 (rNs t n 1 1 1 0 p (5, 0, 0, w0)).2.2) := fun z w => by rw [eX]; unfold mP56; rw [if_pos z]; exact (if_pos w).trans (if_pos rfl)
  have hle := rNs_le (t := t) (n := n) (least := 1) (most := 1) 1 0 p (5, 0, 0, w0) hp
  have hsz := rNs_sz (t := t) (n := n) (least := 1) (most := 1) 1 0 p (5, 0, 0, w0)
  have hsz1 : sz (rNs t n 1 1 1 0 p (5, 0, 0, w0)).2.2 ≤ 1 := by have : sz ((5, 0, 0, w0) : Stm) = 0 := rfl; omega
  have hzl := pMk_le (t := t) (n := n) (i := 10) (p := (rNs t n 1 1 1 0 p (5, 0, 0, w0)).2.1) (s := (rNs t n 1 1 1 0 p (5, 0, 0, w0)).2.2) hle
  refine ex_iload_n rfl dX12_readStatement_44 ?_
  refine ex_ifN_eq (tgt := 60) (by decide) dX12_readStatement_45 (by omega) (fun c1 => ?_) (fun c1 => ?_)
  · exact absurd c1 (by decide)
  · refine ex_iload_n rfl dX12_readStatement_48 ?_
    refine ex_bipush (v := (nI 7)) (by decide) dX12_readStatement_49 ?_
    refine ex_icmpN_eq (tgt := 60) (by decide) dX12_readStatement_51 (by omega) (by omega) (fun c2 => ?_) (fun c2 => ?_)
    · exact absurd c2 (by decide)
    · refine ex_iload_n rfl dX12_readStatement_54 ?_
      refine ex_bipush (v := (nI 8)) (by decide) dX12_readStatement_55 ?_
      refine ex_icmpN_ne (tgt := 72) (by decide) dX12_readStatement_57 (by omega) (by omega) (fun c3 => ?_) (fun c3 => ?_)
      · refine ex_iload_n rfl dX12_readStatement_72 ?_
        refine ex_iconst (v := (nI 1)) (by decide) dX12_readStatement_73 ?_
        refine ex_icmpN_ne (tgt := 88) (by decide) dX12_readStatement_74 (by omega) (by omega) (fun c4 => ?_) (fun c4 => ?_)
        · refine ex_iload_n rfl dX12_readStatement_88 ?_
          refine ex_iconst (v := (nI 2)) (by decide) dX12_readStatement_89 ?_
          refine ex_icmpN_eq (tgt := 98) (by decide) dX12_readStatement_90 (by omega) (by omega) (fun c5 => ?_) (fun c5 => ?_)
          · exact absurd c5 (by decide)
          · refine ex_iload_n rfl dX12_readStatement_93 ?_
            refine ex_iconst (v := (nI 3)) (by decide) dX12_readStatement_94 ?_
            refine ex_icmpN_ne (tgt := 110) (by decide) dX12_readStatement_95 (by omega) (by omega) (fun c6 => ?_) (fun c6 => ?_)
            · refine ex_iload_n rfl dX12_readStatement_110 ?_
              refine ex_iconst (v := (nI 4)) (by decide) dX12_readStatement_111 ?_
              refine ex_icmpN_ne (tgt := 126) (by decide) dX12_readStatement_112 (by omega) (by omega) (fun c7 => ?_) (fun c7 => ?_)
              · refine ex_aload_n rfl dX12_readStatement_126 ?_
                refine ex_iload_n rfl dX12_readStatement_127 ?_
                refine ex_iconst (v := (nI 1)) (by decide) dX12_readStatement_128 ?_
                refine ex_iconst (v := (nI 1)) (by decide) dX12_readStatement_129 ?_
                refine ex_invv (k := 0) (n := 0) (mc' := 0) (ms' := 0) (As := [_, _, _]) dX12_readStatement_130 cv_X12_113 (by decide) (Nat.le_of_ble_eq_true rfl) (Or.inl ⟨_, _, _, _, hM.1, rfl⟩) (t_readNames hM hR.2.2.2 (least := 1) (most := 1) et en hx hn ha (by decide) (by rw [hs0]; show 0 + 1 ≤ 9; decide) (by omega)) (fun v h' q => ?_)
                obtain ⟨rfl, ⟨y1, hM1, hR1, e4_1, eS1⟩, hF1⟩ := q
                rw [hp4, hs0]
                rw [hp4, hs0] at e4_1 eS1
                have et1 : mA y1 1 = t := (hR1.1.2.2 1 (by decide)).trans et
                have en1 : ms y1 2 = n := (hR1.1.1 2 (by decide)).trans en
                refine ex_ifB_eq (tgt := 165) (by decide) dX12_readStatement_133 (fun c8 => ?_) (fun c8 => ?_)
                · refine ex_iconst (v := (nI 0)) (by decide) dX12_readStatement_165 ?_
                  refine ex_istore_n (by decide) rfl dX12_readStatement_166 ?_
                  refine ex_iload_n rfl dX12_readStatement_167 ?_
                  refine ex_ifN_eq (tgt := 186) (by decide) dX12_readStatement_168 (by omega) (fun c9 => ?_) (fun c9 => ?_)
                  · refine ex_iconst (v := (nI 0)) (by decide) dX12_readStatement_186 ?_
                    refine ex_zret dX12_readStatement_187 rfl rfl (QS.no hM1 (hR.tr hR1) (by rw [x0 c8]; exact c8) (by rw [x0 c8]; exact e4_1) (hF.tr hF1))
                  · exact absurd c9 (by decide)
                · refine ex_aload_n rfl dX12_readStatement_136 ?_
                  refine ex_iload_n rfl dX12_readStatement_137 ?_
                  refine ex_iload_n rfl dX12_readStatement_138 ?_
                  refine ex_invv (k := 0) (n := 0) (mc' := 0) (ms' := 0) (As := [_, _]) dX12_readStatement_139 cv_X12_117 (by decide) (Nat.le_of_ble_eq_true rfl) (Or.inl ⟨_, _, _, _, hM1.1, rfl⟩) (t_readExtra5 hM1 hR1.2.2.2 et1 en1 hx hn ha (by rw [e4_1]; exact hle)) (fun v h' q => ?_)
                  obtain ⟨rfl, ⟨y2, hM2, hR2, e4_2, eS2⟩, hF2⟩ := q
                  rw [e4_1, eS1]
                  rw [e4_1, eS1] at e4_2 eS2
                  have f2 : ms y2 2 = n := (hR2.1.1 2 (by decide)).trans en1
                  have et2 : mA y2 1 = t := (hR2.1.2.2 1 (by decide)).trans et1
                  have f4 : ms y2 4 < 2 ^ 31 := by have := hzl.1; omega
                  refine ex_ifB_eq (tgt := 165) (by decide) dX12_readStatement_142 (fun c10 => ?_) (fun c10 => ?_)
                  · refine ex_iconst (v := (nI 0)) (by decide) dX12_readStatement_165 ?_
                    refine ex_istore_n (by decide) rfl dX12_readStatement_166 ?_
                    refine ex_iload_n rfl dX12_readStatement_167 ?_
                    refine ex_ifN_eq (tgt := 186) (by decide) dX12_readStatement_168 (by omega) (fun c11 => ?_) (fun c11 => ?_)
                    · refine ex_iconst (v := (nI 0)) (by decide) dX12_readStatement_186 ?_
                      refine ex_zret dX12_readStatement_187 rfl rfl (QS.no hM2 ((hR.tr hR1).tr hR2) (by rw [x1 c8 c10]; exact c10) (by rw [x1 c8 c10]; exact e4_2) ((hF.tr hF1).tr hF2))
                    · exact absurd c11 (by decide)
                  · refine ex_iload_n rfl dX12_readStatement_145 ?_
                    refine ex_iconst (v := (nI 5)) (by decide) dX12_readStatement_146 ?_
                    refine ex_icmpN_eq (tgt := 161) (by decide) dX12_readStatement_147 (by omega) (by omega) (fun c12 => ?_) (fun c12 => ?_)
                    · refine ex_iconst (v := (nI 1)) (by decide) dX12_readStatement_161 ?_
                      refine ex_goto (tgt := 166) (by decide) dX12_readStatement_162 ?_
                      refine ex_istore_n (by decide) rfl dX12_readStatement_166 ?_
                      refine ex_iload_n rfl dX12_readStatement_167 ?_
                      refine ex_ifN_eq (tgt := 186) (by decide) dX12_readStatement_168 (by omega) (fun c13 => ?_) (fun c13 => ?_)
                      · exact absurd c13 (by decide)
                      · refine ex_aload_n rfl dX12_readStatement_171 ?_
                        refine ex_get dX12_readStatement_172 gf_X12_84 hM2.1 rfl ?_
                        refine ex_aload_n rfl dX12_readStatement_175 ?_
                        refine ex_get dX12_readStatement_176 gf_X12_81 hM2.1 rfl ?_
                        refine ex_icmpN_ne (tgt := 186) (by decide) dX12_readStatement_179 (by omega) (by omega) (fun c14 => ?_) (fun c14 => ?_)
                        · refine ex_iconst (v := (nI 0)) (by decide) dX12_readStatement_186 ?_
                          refine ex_zret dX12_readStatement_187 rfl rfl (QS.no hM2 ((hR.tr hR1).tr hR2) (by rw [x2 c8 c10]; exact fin_n (Or.inr (by rw [← e4_2, ← f2]; exact c14))) (by rw [x2 c8 c10]; exact e4_2) ((hF.tr hF1).tr hF2))
                        · refine ex_iconst (v := (nI 1)) (by decide) dX12_readStatement_182 ?_
                          refine ex_goto (tgt := 187) (by decide) dX12_readStatement_183 ?_
                          refine ex_zret dX12_readStatement_187 rfl rfl (QS.yes hM2 ((hR.tr hR1).tr hR2) (by rw [x2 c8 c10]; exact fin_y c10 (by rw [← e4_2, ← f2]; exact c14)) (by rw [x2 c8 c10]; exact e4_2) (by rw [x2 c8 c10]; exact eS2 c10) ((hF.tr hF1).tr hF2))
                    · exact absurd c12 (by decide)
              · exact absurd c7 (by decide)
            · exact absurd c6 (by decide)
        · exact absurd c4 (by decide)
      · exact absurd c3 (by decide)
set_option maxHeartbeats 4000000 in
set_option maxRecDepth 100000 in
theorem l_rs6 {G : EG} {l : Launch} {h0 : EH} {M : Nat} {y0 y : MS} {h : EH} (hM : MD G h M y) {t : Nat → Nat} {n a p : Nat} {w0 : Nat → Nat} (ht : mA y0 1 = t) (hn2 : ms y0 2 = n) (hx : ∀ j, j < n → t j < 128) (hn : n ≤ 72) (ha : a < 41) (hR : RW a y0 y) (hp4 : ms y 4 = p) (hp : p ≤ n) (hF : Fr (atN M) h0 h) (hs0 : mS y a = (6, 0, 0, w0)) : Ex G l 4 mX12_readStatement (QS G M a y0 h0 (mPk t n 6 p w0)) eNoX 0 0 44 [(0, .ref M), (1, .int (nI (a))), (2, .int (nI 6)), (3, .int (nI 1))] [] h := by
  have et : mA y 1 = t := (hR.1.2.2 1 (by decide)).trans ht
  have en : ms y 2 = n := (hR.1.1 2 (by decide)).trans hn2
  have eX : (mPk t n 6 p w0) = mP56 t n 6 p w0 := if_pos (by decide)
  have x0 : (rNs t n 1 1 1 0 p (6, 0, 0, w0)).1 = false → (mPk t n 6 p w0) = (rNs t n 1 1 1 0 p (6, 0, 0, w0)) := fun z => by rw [eX]; unfold mP56; rw [if_neg (by rw [z]; decide)]
  have x1 : (rNs t n 1 1 1 0 p (6, 0, 0, w0)).1 = true → (pMk t n 11 (rNs t n 1 1 1 0 p (6, 0, 0, w0)).2.1 (rNs t n 1 1 1 0 p (6, 0, 0, w0)).2.2).1 = false → (mPk t n 6 p w0) = (pMk t n 11 (rNs t n 1 1 1 0 p (6, 0, 0, w0)).2.1 (rNs t n 1 1 1 0 p (6, 0, 0, w0)).2.2) := fun z w => by rw [eX]; unfold mP56; rw [if_pos z]; exact if_neg (by rw [w]; decide)
  have x2 : (rNs t n 1 1 1 0 p (6, 0, 0, w0)).1 = true → (pMk t n 11 (rNs t n 1 1 1 0 p (6, 0, 0, w0)).2.1 (rNs t n 1 1 1 0 p (6, 0, 0, w0)).2.2).1 = true → (mPk t n 6 p w0) = fin n (rNs t n 1 6 6 0 (pMk t n 11 (rNs t n 1 1 1 0 p (6, 0, 0, w0)).2.1 (rNs t n 1 1 1 0 p (6, 0, 0, w0)).2.2).2.1 (pMk t n 11 (rNs t n 1 1 1 0 p (6, 0, 0, w0)).2.1 (rNs t n 1 1 1 0 p (6, 0, 0, w0)).2.2).2.2) := fun z w => by rw [eX]; unfold mP56; rw [if_pos z]; exact (if_pos w).trans (if_neg (by decide))
  have hle := rNs_le (t := t) (n := n) (least := 1) (most := 1) 1 0 p (6, 0, 0, w0) hp
  have hsz := rNs_sz (t := t) (n := n) (least := 1) (most := 1) 1 0 p (6, 0, 0, w0)
  have hsz1 : sz (rNs t n 1 1 1 0 p (6, 0, 0, w0)).2.2 ≤ 1 := by have : sz ((6, 0, 0, w0) : Stm) = 0 := rfl; omega
  have hzl := pMk_le (t := t) (n := n) (i := 11) (p := (rNs t n 1 1 1 0 p (6, 0, 0, w0)).2.1) (s := (rNs t n 1 1 1 0 p (6, 0, 0, w0)).2.2) hle
  have hul := rNs_le (t := t) (n := n) (least := 1) (most := 6) 6 0 (pMk t n 11 (rNs t n 1 1 1 0 p (6, 0, 0, w0)).2.1 (rNs t n 1 1 1 0 p (6, 0, 0, w0)).2.2).2.1 (pMk t n 11 (rNs t n 1 1 1 0 p (6, 0, 0, w0)).2.1 (rNs t n 1 1 1 0 p (6, 0, 0, w0)).2.2).2.2 hzl.1
  refine ex_iload_n rfl dX12_readStatement_44 ?_
  refine ex_ifN_eq (tgt := 60) (by decide) dX12_readStatement_45 (by omega) (fun c1 => ?_) (fun c1 => ?_)
  · exact absurd c1 (by decide)
  · refine ex_iload_n rfl dX12_readStatement_48 ?_
    refine ex_bipush (v := (nI 7)) (by decide) dX12_readStatement_49 ?_
    refine ex_icmpN_eq (tgt := 60) (by decide) dX12_readStatement_51 (by omega) (by omega) (fun c2 => ?_) (fun c2 => ?_)
    · exact absurd c2 (by decide)
    · refine ex_iload_n rfl dX12_readStatement_54 ?_
      refine ex_bipush (v := (nI 8)) (by decide) dX12_readStatement_55 ?_
      refine ex_icmpN_ne (tgt := 72) (by decide) dX12_readStatement_57 (by omega) (by omega) (fun c3 => ?_) (fun c3 => ?_)
      · refine ex_iload_n rfl dX12_readStatement_72 ?_
        refine ex_iconst (v := (nI 1)) (by decide) dX12_readStatement_73 ?_
        refine ex_icmpN_ne (tgt := 88) (by decide) dX12_readStatement_74 (by omega) (by omega) (fun c4 => ?_) (fun c4 => ?_)
        · refine ex_iload_n rfl dX12_readStatement_88 ?_
          refine ex_iconst (v := (nI 2)) (by decide) dX12_readStatement_89 ?_
          refine ex_icmpN_eq (tgt := 98) (by decide) dX12_readStatement_90 (by omega) (by omega) (fun c5 => ?_) (fun c5 => ?_)
          · exact absurd c5 (by decide)
          · refine ex_iload_n rfl dX12_readStatement_93 ?_
            refine ex_iconst (v := (nI 3)) (by decide) dX12_readStatement_94 ?_
            refine ex_icmpN_ne (tgt := 110) (by decide) dX12_readStatement_95 (by omega) (by omega) (fun c6 => ?_) (fun c6 => ?_)
            · refine ex_iload_n rfl dX12_readStatement_110 ?_
              refine ex_iconst (v := (nI 4)) (by decide) dX12_readStatement_111 ?_
              refine ex_icmpN_ne (tgt := 126) (by decide) dX12_readStatement_112 (by omega) (by omega) (fun c7 => ?_) (fun c7 => ?_)
              · refine ex_aload_n rfl dX12_readStatement_126 ?_
                refine ex_iload_n rfl dX12_readStatement_127 ?_
                refine ex_iconst (v := (nI 1)) (by decide) dX12_readStatement_128 ?_
                refine ex_iconst (v := (nI 1)) (by decide) dX12_readStatement_129 ?_
                refine ex_invv (k := 0) (n := 0) (mc' := 0) (ms' := 0) (As := [_, _, _]) dX12_readStatement_130 cv_X12_113 (by decide) (Nat.le_of_ble_eq_true rfl) (Or.inl ⟨_, _, _, _, hM.1, rfl⟩) (t_readNames hM hR.2.2.2 (least := 1) (most := 1) et en hx hn ha (by decide) (by rw [hs0]; show 0 + 1 ≤ 9; decide) (by omega)) (fun v h' q => ?_)
                obtain ⟨rfl, ⟨y1, hM1, hR1, e4_1, eS1⟩, hF1⟩ := q
                rw [hp4, hs0]
                rw [hp4, hs0] at e4_1 eS1
                have et1 : mA y1 1 = t := (hR1.1.2.2 1 (by decide)).trans et
                have en1 : ms y1 2 = n := (hR1.1.1 2 (by decide)).trans en
                refine ex_ifB_eq (tgt := 165) (by decide) dX12_readStatement_133 (fun c8 => ?_) (fun c8 => ?_)
                · refine ex_iconst (v := (nI 0)) (by decide) dX12_readStatement_165 ?_
                  refine ex_istore_n (by decide) rfl dX12_readStatement_166 ?_
                  refine ex_iload_n rfl dX12_readStatement_167 ?_
                  refine ex_ifN_eq (tgt := 186) (by decide) dX12_readStatement_168 (by omega) (fun c9 => ?_) (fun c9 => ?_)
                  · refine ex_iconst (v := (nI 0)) (by decide) dX12_readStatement_186 ?_
                    refine ex_zret dX12_readStatement_187 rfl rfl (QS.no hM1 (hR.tr hR1) (by rw [x0 c8]; exact c8) (by rw [x0 c8]; exact e4_1) (hF.tr hF1))
                  · exact absurd c9 (by decide)
                · refine ex_aload_n rfl dX12_readStatement_136 ?_
                  refine ex_iload_n rfl dX12_readStatement_137 ?_
                  refine ex_iload_n rfl dX12_readStatement_138 ?_
                  refine ex_invv (k := 0) (n := 0) (mc' := 0) (ms' := 0) (As := [_, _]) dX12_readStatement_139 cv_X12_117 (by decide) (Nat.le_of_ble_eq_true rfl) (Or.inl ⟨_, _, _, _, hM1.1, rfl⟩) (t_readExtra6 hM1 hR1.2.2.2 et1 en1 hx hn ha (by rw [e4_1]; exact hle)) (fun v h' q => ?_)
                  obtain ⟨rfl, ⟨y2, hM2, hR2, e4_2, eS2⟩, hF2⟩ := q
                  rw [e4_1, eS1]
                  rw [e4_1, eS1] at e4_2 eS2
                  have f2 : ms y2 2 = n := (hR2.1.1 2 (by decide)).trans en1
                  have et2 : mA y2 1 = t := (hR2.1.2.2 1 (by decide)).trans et1
                  have f4 : ms y2 4 < 2 ^ 31 := by have := hzl.1; omega
                  refine ex_ifB_eq (tgt := 165) (by decide) dX12_readStatement_142 (fun c10 => ?_) (fun c10 => ?_)
                  · refine ex_iconst (v := (nI 0)) (by decide) dX12_readStatement_165 ?_
                    refine ex_istore_n (by decide) rfl dX12_readStatement_166 ?_
                    refine ex_iload_n rfl dX12_readStatement_167 ?_
                    refine ex_ifN_eq (tgt := 186) (by decide) dX12_readStatement_168 (by omega) (fun c11 => ?_) (fun c11 => ?_)
                    · refine ex_iconst (v := (nI 0)) (by decide) dX12_readStatement_186 ?_
                      refine ex_zret dX12_readStatement_187 rfl rfl (QS.no hM2 ((hR.tr hR1).tr hR2) (by rw [x1 c8 c10]; exact c10) (by rw [x1 c8 c10]; exact e4_2) ((hF.tr hF1).tr hF2))
                    · exact absurd c11 (by decide)
                  · refine ex_iload_n rfl dX12_readStatement_145 ?_
                    refine ex_iconst (v := (nI 5)) (by decide) dX12_readStatement_146 ?_
                    refine ex_icmpN_eq (tgt := 161) (by decide) dX12_readStatement_147 (by omega) (by omega) (fun c12 => ?_) (fun c12 => ?_)
                    · exact absurd c12 (by decide)
                    · refine ex_aload_n rfl dX12_readStatement_150 ?_
                      refine ex_iload_n rfl dX12_readStatement_151 ?_
                      refine ex_iconst (v := (nI 1)) (by decide) dX12_readStatement_152 ?_
                      refine ex_bipush (v := (nI 6)) (by decide) dX12_readStatement_153 ?_
                      refine ex_invv (k := 0) (n := 0) (mc' := 0) (ms' := 0) (As := [_, _, _]) dX12_readStatement_155 cv_X12_113 (by decide) (Nat.le_of_ble_eq_true rfl) (Or.inl ⟨_, _, _, _, hM2.1, rfl⟩) (t_readNames hM2 hR2.2.2.2 (least := 1) (most := 6) et2 f2 hx hn ha (by decide) (by have q := hzl.2 c10; have z : mS y2 a = (pMk t n 11 (rNs t n 1 1 1 0 p (6, 0, 0, w0)).2.1 (rNs t n 1 1 1 0 p (6, 0, 0, w0)).2.2).2.2 := eS2 c10; rw [z, q]; omega) (by rw [e4_2]; exact hzl.1)) (fun v h' q => ?_)
                      obtain ⟨rfl, ⟨y3, hM3, hR3, e4_3, eS3⟩, hF3⟩ := q
                      have es2 : mS y2 a = (pMk t n 11 (rNs t n 1 1 1 0 p (6, 0, 0, w0)).2.1 (rNs t n 1 1 1 0 p (6, 0, 0, w0)).2.2).2.2 := eS2 c10
                      rw [e4_2, es2]
                      rw [e4_2, es2] at e4_3 eS3
                      have f3 : ms y3 2 = n := (hR3.1.1 2 (by decide)).trans f2
                      have f5 : ms y3 4 < 2 ^ 31 := by omega
                      refine ex_ifB_eq (tgt := 165) (by decide) dX12_readStatement_158 (fun c13 => ?_) (fun c13 => ?_)
                      · refine ex_iconst (v := (nI 0)) (by decide) dX12_readStatement_165 ?_
                        refine ex_istore_n (by decide) rfl dX12_readStatement_166 ?_
                        refine ex_iload_n rfl dX12_readStatement_167 ?_
                        refine ex_ifN_eq (tgt := 186) (by decide) dX12_readStatement_168 (by omega) (fun c14 => ?_) (fun c14 => ?_)
                        · refine ex_iconst (v := (nI 0)) (by decide) dX12_readStatement_186 ?_
                          refine ex_zret dX12_readStatement_187 rfl rfl (QS.no hM3 (((hR.tr hR1).tr hR2).tr hR3) (by rw [x2 c8 c10]; exact fin_n (Or.inl c13)) (by rw [x2 c8 c10]; exact e4_3) (((hF.tr hF1).tr hF2).tr hF3))
                        · exact absurd c14 (by decide)
                      · refine ex_iconst (v := (nI 1)) (by decide) dX12_readStatement_161 ?_
                        refine ex_goto (tgt := 166) (by decide) dX12_readStatement_162 ?_
                        refine ex_istore_n (by decide) rfl dX12_readStatement_166 ?_
                        refine ex_iload_n rfl dX12_readStatement_167 ?_
                        refine ex_ifN_eq (tgt := 186) (by decide) dX12_readStatement_168 (by omega) (fun c15 => ?_) (fun c15 => ?_)
                        · exact absurd c15 (by decide)
                        · refine ex_aload_n rfl dX12_readStatement_171 ?_
                          refine ex_get dX12_readStatement_172 gf_X12_84 hM3.1 rfl ?_
                          refine ex_aload_n rfl dX12_readStatement_175 ?_
                          refine ex_get dX12_readStatement_176 gf_X12_81 hM3.1 rfl ?_
                          refine ex_icmpN_ne (tgt := 186) (by decide) dX12_readStatement_179 (by omega) (by omega) (fun c16 => ?_) (fun c16 => ?_)
                          · refine ex_iconst (v := (nI 0)) (by decide) dX12_readStatement_186 ?_
                            refine ex_zret dX12_readStatement_187 rfl rfl (QS.no hM3 (((hR.tr hR1).tr hR2).tr hR3) (by rw [x2 c8 c10]; exact fin_n (Or.inr (by rw [← e4_3, ← f3]; exact c16))) (by rw [x2 c8 c10]; exact e4_3) (((hF.tr hF1).tr hF2).tr hF3))
                          · refine ex_iconst (v := (nI 1)) (by decide) dX12_readStatement_182 ?_
                            refine ex_goto (tgt := 187) (by decide) dX12_readStatement_183 ?_
                            refine ex_zret dX12_readStatement_187 rfl rfl (QS.yes hM3 (((hR.tr hR1).tr hR2).tr hR3) (by rw [x2 c8 c10]; exact fin_y c13 (by rw [← e4_3, ← f3]; exact c16)) (by rw [x2 c8 c10]; exact e4_3) (by rw [x2 c8 c10]; exact eS3) (((hF.tr hF1).tr hF2).tr hF3))
              · exact absurd c7 (by decide)
            · exact absurd c6 (by decide)
        · exact absurd c4 (by decide)
      · exact absurd c3 (by decide)
set_option maxHeartbeats 4000000 in
set_option maxRecDepth 100000 in
theorem l_rsA {G : EG} {l : Launch} {h0 : EH} {M : Nat} {y0 y : MS} {h : EH} (hM : MD G h M y) {t : Nat → Nat} {n a κ : Nat} (hκ : κ < 9) (ht : mA y0 1 = t) (hn2 : ms y0 2 = n) (hx : ∀ j, j < n → t j < 128) (hn : n ≤ 72) (ha : a < 41) (hR : RW a y0 y) (hp : ms y 4 ≤ n) (hF : Fr (atN M) h0 h) : Ex G l 4 mX12_readStatement (QS G M a y0 h0 (mPk t n κ (ms y 4) (wd (mS y a)))) eNoX 0 0 21 [(0, .ref M), (1, .int (nI (a))), (2, .int (nI (κ)))] [] h := by
  have k2 : h.2 (M + 2) = some (.inl (eA G 0, 41, .inl (fun j => nI (mA y 2 j)))) := hM.2 2 (by decide) (by decide)
  have k3 : h.2 (M + 3) = some (.inl (eA G 0, 41, .inl (fun j => nI (mA y 3 j)))) := hM.2 3 (by decide) (by decide)
  have k5 : h.2 (M + 5) = some (.inl (eA G 0, 41, .inl (fun j => nI (mA y 5 j)))) := hM.2 5 (by decide) (by decide)
  refine ex_aload_n rfl dX12_readStatement_21 ?_
  refine ex_get dX12_readStatement_22 gf_X12_17 hM.1 rfl ?_
  refine ex_iload_n rfl dX12_readStatement_25 ?_
  refine ex_iload_n rfl dX12_readStatement_26 ?_
  refine ex_iastN dX12_readStatement_27 k2 (by omega) (by decide) ?_
  refine ex_aload_n rfl dX12_readStatement_28 ?_
  refine ex_get dX12_readStatement_29 gf_X12_21 (hup_ne (by omega) hM.1) rfl ?_
  refine ex_iload_n rfl dX12_readStatement_32 ?_
  refine ex_iconst (v := (nI 0)) (by decide) dX12_readStatement_33 ?_
  refine ex_iastN dX12_readStatement_34 (hup_ne (by omega) k3) (by omega) (by decide) ?_
  refine ex_aload_n rfl dX12_readStatement_35 ?_
  refine ex_get dX12_readStatement_36 gf_X12_27 (hup_ne (by omega) (hup_ne (by omega) hM.1)) rfl ?_
  refine ex_iload_n rfl dX12_readStatement_39 ?_
  refine ex_iconst (v := (nI 0)) (by decide) dX12_readStatement_40 ?_
  refine ex_iastN dX12_readStatement_41 (hup_ne (by omega) (hup_ne (by omega) k5)) (by omega) (by decide) ?_
  refine ex_iconst (v := (nI 1)) (by decide) dX12_readStatement_42 ?_
  refine ex_istore_n (by decide) rfl dX12_readStatement_43 ?_
  rcases (show κ = 0 ∨ κ = 1 ∨ κ = 2 ∨ κ = 3 ∨ κ = 4 ∨ κ = 5 ∨ κ = 6 ∨ κ = 7 ∨ κ = 8 by omega) with e | e | e | e | e | e | e | e | e
  · subst e
    exact ex_lv [(0, .ref M), (1, .int (nI (a))), (2, .int (nI 0)), (3, .int (nI 1))] ⟨rfl, rfl, rfl, rfl, trivial⟩ (l_rs0 (((hM.st 2 a 0 (by decide) (by decide)).st 3 a 0 (by decide) (by decide)).st 5 a 0 (by decide) (by decide)) ht hn2 hx hn ha (hR.st (by decide)) rfl hp (((hF.up ⟨by omega, by omega⟩).up ⟨by omega, by omega⟩).up ⟨by omega, by omega⟩) mS_st)
  · subst e
    exact ex_lv [(0, .ref M), (1, .int (nI (a))), (2, .int (nI 1)), (3, .int (nI 1))] ⟨rfl, rfl, rfl, rfl, trivial⟩ (l_rs1 (((hM.st 2 a 1 (by decide) (by decide)).st 3 a 0 (by decide) (by decide)).st 5 a 0 (by decide) (by decide)) ht hn2 hx hn ha (hR.st (by decide)) rfl hp (((hF.up ⟨by omega, by omega⟩).up ⟨by omega, by omega⟩).up ⟨by omega, by omega⟩) mS_st)
  · subst e
    exact ex_lv [(0, .ref M), (1, .int (nI (a))), (2, .int (nI 2)), (3, .int (nI 1))] ⟨rfl, rfl, rfl, rfl, trivial⟩ (l_rs2 (((hM.st 2 a 2 (by decide) (by decide)).st 3 a 0 (by decide) (by decide)).st 5 a 0 (by decide) (by decide)) ht hn2 hx hn ha (hR.st (by decide)) rfl hp (((hF.up ⟨by omega, by omega⟩).up ⟨by omega, by omega⟩).up ⟨by omega, by omega⟩) mS_st)
  · subst e
    exact ex_lv [(0, .ref M), (1, .int (nI (a))), (2, .int (nI 3)), (3, .int (nI 1))] ⟨rfl, rfl, rfl, rfl, trivial⟩ (l_rs3 (((hM.st 2 a 3 (by decide) (by decide)).st 3 a 0 (by decide) (by decide)).st 5 a 0 (by decide) (by decide)) ht hn2 hx hn ha (hR.st (by decide)) rfl hp (((hF.up ⟨by omega, by omega⟩).up ⟨by omega, by omega⟩).up ⟨by omega, by omega⟩) mS_st)
  · subst e
    exact ex_lv [(0, .ref M), (1, .int (nI (a))), (2, .int (nI 4)), (3, .int (nI 1))] ⟨rfl, rfl, rfl, rfl, trivial⟩ (l_rs4 (((hM.st 2 a 4 (by decide) (by decide)).st 3 a 0 (by decide) (by decide)).st 5 a 0 (by decide) (by decide)) ht hn2 hx hn ha (hR.st (by decide)) rfl hp (((hF.up ⟨by omega, by omega⟩).up ⟨by omega, by omega⟩).up ⟨by omega, by omega⟩) mS_st)
  · subst e
    exact ex_lv [(0, .ref M), (1, .int (nI (a))), (2, .int (nI 5)), (3, .int (nI 1))] ⟨rfl, rfl, rfl, rfl, trivial⟩ (l_rs5 (((hM.st 2 a 5 (by decide) (by decide)).st 3 a 0 (by decide) (by decide)).st 5 a 0 (by decide) (by decide)) ht hn2 hx hn ha (hR.st (by decide)) rfl hp (((hF.up ⟨by omega, by omega⟩).up ⟨by omega, by omega⟩).up ⟨by omega, by omega⟩) mS_st)
  · subst e
    exact ex_lv [(0, .ref M), (1, .int (nI (a))), (2, .int (nI 6)), (3, .int (nI 1))] ⟨rfl, rfl, rfl, rfl, trivial⟩ (l_rs6 (((hM.st 2 a 6 (by decide) (by decide)).st 3 a 0 (by decide) (by decide)).st 5 a 0 (by decide) (by decide)) ht hn2 hx hn ha (hR.st (by decide)) rfl hp (((hF.up ⟨by omega, by omega⟩).up ⟨by omega, by omega⟩).up ⟨by omega, by omega⟩) mS_st)
  · subst e
    exact ex_lv [(0, .ref M), (1, .int (nI (a))), (2, .int (nI 7)), (3, .int (nI 1))] ⟨rfl, rfl, rfl, rfl, trivial⟩ (l_rs7 (((hM.st 2 a 7 (by decide) (by decide)).st 3 a 0 (by decide) (by decide)).st 5 a 0 (by decide) (by decide)) ht hn2 hx hn ha (hR.st (by decide)) rfl hp (((hF.up ⟨by omega, by omega⟩).up ⟨by omega, by omega⟩).up ⟨by omega, by omega⟩) mS_st)
  · subst e
    exact ex_lv [(0, .ref M), (1, .int (nI (a))), (2, .int (nI 8)), (3, .int (nI 1))] ⟨rfl, rfl, rfl, rfl, trivial⟩ (l_rs8 (((hM.st 2 a 8 (by decide) (by decide)).st 3 a 0 (by decide) (by decide)).st 5 a 0 (by decide) (by decide)) ht hn2 hx hn ha (hR.st (by decide)) rfl hp (((hF.up ⟨by omega, by omega⟩).up ⟨by omega, by omega⟩).up ⟨by omega, by omega⟩) mS_st)
set_option maxHeartbeats 4000000 in
set_option maxRecDepth 100000 in
theorem t_readStatement {G : EG} {l : Launch} {h : EH} {M : Nat} {y : MS} (hM : MD G h M y) (hB : mB y) {t : Nat → Nat} {n : Nat} (ht : mA y 1 = t) (hn2 : ms y 2 = n) (hx : ∀ j, j < n → t j < 128) (hn : n ≤ 72) : ES G l 4 mX12_readStatement [.ref M] h 0 0 (QS G M (ms y 6) y h (mPs t n (wd (mS y (ms y 6))))) eNoX := by
  have h40 := hB.1
  refine es_of (by decide) rfl (Nat.le_of_ble_eq_true rfl) ?_
  refine ex_aload_n rfl dX12_readStatement_0 ?_
  refine ex_iconst (v := (nI 0)) (by decide) dX12_readStatement_1 ?_
  refine ex_put dX12_readStatement_2 pf_X12_84 hM.1 (Nat.le_of_ble_eq_true rfl) rfl rfl ?_
  refine ex_aload_n rfl dX12_readStatement_5 ?_
  refine ex_get dX12_readStatement_6 gf_X12_107 hup_eq rfl ?_
  refine ex_istore_n (by decide) rfl dX12_readStatement_9 ?_
  refine ex_aload_n rfl dX12_readStatement_10 ?_
  refine ex_invv (k := 0) (n := 0) (mc' := 0) (ms' := 0) (As := []) dX12_readStatement_11 cv_X12_110 (by decide) (Nat.le_of_ble_eq_true rfl) (Or.inl ⟨_, _, _, _, hup_eq, rfl⟩) (t_readKind (y := nmY y 0) (hM.ob' (va_up (ms y) 4 0) (mpo y) (mfa y) rfl) ht hn2 hx hn rfl) (fun v h' q => ?_)
  skip
  rcases q with ⟨⟨κ, hκ, ek, rfl, hM1⟩ | ⟨ek, rfl, hM1⟩, hF1⟩
  · refine ex_istore_n (by decide) rfl dX12_readStatement_14 ?_
    refine ex_iload_n rfl dX12_readStatement_15 ?_
    refine ex_ifN_ge (tgt := 21) (by decide) dX12_readStatement_16 (by omega) (fun c1 => ?_) (fun c1 => ?_)
    · have eX : (mPs t n (wd (mS y (ms y 6)))) = mPk t n κ (kLen κ) (wd (mS y (ms y 6))) := by unfold mPs; rw [ek]; rfl
      have hkn : kLen κ ≤ n := by have z := LSH_ag.mpr (Nat.le_of_eq (pKw_ls ek hκ).symm); rcases Nat.eq_zero_or_pos (kLen κ) with w | w; omega; have := (z (kLen κ - 1) (by omega)).1; omega
      rw [eX]
      exact ex_lv [(0, .ref M), (1, .int (nI (ms y 6))), (2, .int (nI (κ)))] ⟨rfl, rfl, rfl, trivial⟩ (l_rsA hM1 hκ ht hn2 hx hn (by omega) (((RW.rf hB).p 0).p (kLen κ)) hkn (((Fr.rf.up ⟨by omega, by omega⟩)).tr hF1))
    · exact c1.elim
  · refine ex_istore_n (by decide) rfl dX12_readStatement_14 ?_
    refine ex_iload_n rfl dX12_readStatement_15 ?_
    refine ex_if_ge (tgt := 21) (by decide) dX12_readStatement_16 (fun c2 => ?_) (fun c2 => ?_)
    · exact absurd c2 (by decide)
    · refine ex_iconst (v := (nI 0)) (by decide) dX12_readStatement_19 ?_
      refine ex_zret dX12_readStatement_20 rfl rfl (by have eX : (mPs t n (wd (mS y (ms y 6)))) = (false, (pKw t n 9 0 0).2.1, (0, 0, 0, wd (mS y (ms y 6)))) := (by unfold mPs; rw [ek]; rfl); exact QS.no hM1 (((RW.rf hB).p 0).p _) (by rw [eX]) (by rw [eX]; rfl) (((Fr.rf.up ⟨by omega, by omega⟩)).tr hF1))
def ADQ (G : EG) (M : Nat) (y : MS) (h : EH) (X : Bool × Nat × Stm) : Option Value → EH → Prop := fun v h' => Fr (atN M) h h' ∧ ∃ y2, RW (ms y 6) y y2 ∧ (X.1 = true → mS y2 (ms y 6) = X.2.2) ∧ ((X.1 = false ∧ v = some (.int (nI 0)) ∧ MD G h' M (va_up (va_up (ms y2) 1 1) 2 0, (nI X.2.1, mfa y2), y2.2.2)) ∨ (X.1 = true ∧ ms y 6 = 40 ∧ v = some (.int (nI 0)) ∧ MD G h' M (va_up (va_up (ms y2) 1 2) 2 0, (-1, mfa y2), y2.2.2)) ∨ (X.1 = true ∧ ms y 6 < 40 ∧ v = some (.int (nI (ms y 6))) ∧ MD G h' M (va_up (va_up (va_up (ms y2) 1 0) 2 0) 6 (ms y 6 + 1), (-1, mfa y2), y2.2.2)))
set_option maxHeartbeats 4000000 in
set_option maxRecDepth 100000 in
theorem t_add {G : EG} {l : Launch} {h : EH} {M : Nat} {y : MS} (hM : MD G h M y) (hB : mB y) {t : Nat → Nat} {n : Nat} (ht : mA y 1 = t) (hn2 : ms y 2 = n) (hx : ∀ j, j < n → t j < 128) (hn : n ≤ 72) : ES G l 5 mX12_add [.ref M] h 0 0 (ADQ G M y h (mPs t n (wd (mS y (ms y 6))))) eNoX := by
  have h40 := hB.1
  refine es_of (by decide) rfl (Nat.le_of_ble_eq_true rfl) ?_
  refine ex_aload_n rfl dX12_add_0 ?_
  refine ex_invv (k := 0) (n := 0) (mc' := 0) (ms' := 0) (As := []) dX12_add_1 cv_X12_121 (by decide) (Nat.le_of_ble_eq_true rfl) (Or.inl ⟨_, _, _, _, hM.1, rfl⟩) (t_readStatement hM hB ht hn2 hx hn) (fun v h' q => ?_)
  obtain ⟨rfl, ⟨y2, hM2, hR2, e4, eS⟩, hF2⟩ := q
  have e6 : ms y2 6 = ms y 6 := hR2.1.1 6 (by decide)
  refine ex_istore_n (by decide) rfl dX12_add_4 ?_
  refine ex_aload_n rfl dX12_add_5 ?_
  refine ex_iload_n rfl dX12_add_6 ?_
  refine ex_ifB_eq (tgt := 14) (by decide) dX12_add_7 (fun c1 => ?_) (fun c1 => ?_)
  · refine ex_aload_n rfl dX12_add_14 ?_
    refine ex_get dX12_add_15 gf_X12_84 hM2.1 rfl ?_
    refine ex_put dX12_add_18 pf_X12_13 hM2.1 (Nat.le_of_ble_eq_true rfl) rfl rfl ?_
    refine ex_aload_n rfl dX12_add_21 ?_
    refine ex_iload_n rfl dX12_add_22 ?_
    refine ex_ifB_ne (tgt := 30) (by decide) dX12_add_23 (fun c2 => ?_) (fun c2 => ?_)
    · refine ex_aload_n rfl dX12_add_30 ?_
      refine ex_get dX12_add_31 gf_X12_107 hup_eq rfl ?_
      refine ex_bipush (v := (nI 40)) (by decide) dX12_add_34 ?_
      refine ex_icmpN_ne (tgt := 43) (by decide) dX12_add_36 (by omega) (by omega) (fun c3 => ?_) (fun c3 => ?_)
      · refine ex_iconst (v := (nI 0)) (by decide) dX12_add_43 ?_
        refine ex_put dX12_add_44 pf_X12_76 hup_eq (Nat.le_of_ble_eq_true rfl) rfl rfl ?_
        refine ex_aload_n rfl dX12_add_47 ?_
        refine ex_iconst (v := (nI 0)) (by decide) dX12_add_48 ?_
        refine ex_put dX12_add_49 pf_X12_81 hup_eq (Nat.le_of_ble_eq_true rfl) rfl rfl ?_
        refine ex_aload_n rfl dX12_add_52 ?_
        refine ex_get dX12_add_53 gf_X12_76 hup_eq rfl ?_
        refine ex_ifN_le (tgt := 61) (by decide) dX12_add_56 (by omega) (fun c4 => ?_) (fun c4 => ?_)
        · refine ex_aload_n rfl dX12_add_61 ?_
          refine ex_dup rfl dX12_add_62 ?_
          refine ex_get dX12_add_63 gf_X12_107 hup_eq rfl ?_
          refine ex_iconst (v := (nI 1)) (by decide) dX12_add_66 ?_
          refine ex_iaddN dX12_add_67 ?_
          refine ex_put dX12_add_68 pf_X12_107 hup_eq (Nat.le_of_ble_eq_true rfl) rfl rfl ?_
          refine ex_aload_n rfl dX12_add_71 ?_
          refine ex_get dX12_add_72 gf_X12_107 hup_eq rfl ?_
          refine ex_iconst (v := (nI 1)) (by decide) dX12_add_75 ?_
          refine ex_isubN (by omega) dX12_add_76 ?_
          refine ex_iret dX12_add_77 rfl (by first | (exfalso; simp_all; done) | (exact ⟨(((hF2.up ⟨by omega, by omega⟩).up ⟨by omega, by omega⟩).up ⟨by omega, by omega⟩), y2, hR2, eS, Or.inl ⟨by assumption, rfl, by rw [← e4]; exact ((hM2.ob' (ms y2) (nI (ms y2 4)) (mfa y2) rfl).ob' (va_up (ms y2) 1 1) (nI (ms y2 4)) (mfa y2) rfl).ob' (va_up (va_up (ms y2) 1 1) 2 0) (nI (ms y2 4)) (mfa y2) rfl⟩⟩) | (exact ⟨(((hF2.up ⟨by omega, by omega⟩).up ⟨by omega, by omega⟩).up ⟨by omega, by omega⟩), y2, hR2, eS, Or.inr (Or.inl ⟨by assumption, by omega, rfl, ((hM2.ob' (ms y2) (-1) (mfa y2) rfl).ob' (va_up (ms y2) 1 2) (-1) (mfa y2) rfl).ob' (va_up (va_up (ms y2) 1 2) 2 0) (-1) (mfa y2) rfl⟩)⟩) | (exact ⟨((((hF2.up ⟨by omega, by omega⟩).up ⟨by omega, by omega⟩).up ⟨by omega, by omega⟩).up ⟨by omega, by omega⟩), y2, hR2, eS, Or.inr (Or.inr ⟨by assumption, by omega, by rw [← e6]; rfl, by rw [← e6]; exact (((hM2.ob' (ms y2) (-1) (mfa y2) rfl).ob' (va_up (ms y2) 1 0) (-1) (mfa y2) rfl).ob' (va_up (va_up (ms y2) 1 0) 2 0) (-1) (mfa y2) rfl).ob' (va_up (va_up (va_up (ms y2) 1 0) 2 0) 6 (ms y2 6 + 1)) (-1) (mfa y2) rfl⟩)⟩))
        · exact absurd c4 (by decide)
      · refine ex_iconst (v := (nI 2)) (by decide) dX12_add_39 ?_
        refine ex_goto (tgt := 44) (by decide) dX12_add_40 ?_
        refine ex_put dX12_add_44 pf_X12_76 hup_eq (Nat.le_of_ble_eq_true rfl) rfl rfl ?_
        refine ex_aload_n rfl dX12_add_47 ?_
        refine ex_iconst (v := (nI 0)) (by decide) dX12_add_48 ?_
        refine ex_put dX12_add_49 pf_X12_81 hup_eq (Nat.le_of_ble_eq_true rfl) rfl rfl ?_
        refine ex_aload_n rfl dX12_add_52 ?_
        refine ex_get dX12_add_53 gf_X12_76 hup_eq rfl ?_
        refine ex_ifN_le (tgt := 61) (by decide) dX12_add_56 (by omega) (fun c5 => ?_) (fun c5 => ?_)
        · exact absurd c5 (by decide)
        · refine ex_iconst (v := (nI 0)) (by decide) dX12_add_59 ?_
          refine ex_iret dX12_add_60 rfl (by first | (exfalso; simp_all; done) | (exact ⟨(((hF2.up ⟨by omega, by omega⟩).up ⟨by omega, by omega⟩).up ⟨by omega, by omega⟩), y2, hR2, eS, Or.inl ⟨by assumption, rfl, by rw [← e4]; exact ((hM2.ob' (ms y2) (nI (ms y2 4)) (mfa y2) rfl).ob' (va_up (ms y2) 1 1) (nI (ms y2 4)) (mfa y2) rfl).ob' (va_up (va_up (ms y2) 1 1) 2 0) (nI (ms y2 4)) (mfa y2) rfl⟩⟩) | (exact ⟨(((hF2.up ⟨by omega, by omega⟩).up ⟨by omega, by omega⟩).up ⟨by omega, by omega⟩), y2, hR2, eS, Or.inr (Or.inl ⟨by assumption, by omega, rfl, ((hM2.ob' (ms y2) (-1) (mfa y2) rfl).ob' (va_up (ms y2) 1 2) (-1) (mfa y2) rfl).ob' (va_up (va_up (ms y2) 1 2) 2 0) (-1) (mfa y2) rfl⟩)⟩) | (exact ⟨((((hF2.up ⟨by omega, by omega⟩).up ⟨by omega, by omega⟩).up ⟨by omega, by omega⟩).up ⟨by omega, by omega⟩), y2, hR2, eS, Or.inr (Or.inr ⟨by assumption, by omega, by rw [← e6]; rfl, by rw [← e6]; exact (((hM2.ob' (ms y2) (-1) (mfa y2) rfl).ob' (va_up (ms y2) 1 0) (-1) (mfa y2) rfl).ob' (va_up (va_up (ms y2) 1 0) 2 0) (-1) (mfa y2) rfl).ob' (va_up (va_up (va_up (ms y2) 1 0) 2 0) 6 (ms y2 6 + 1)) (-1) (mfa y2) rfl⟩)⟩))
    · refine ex_iconst (v := (nI 1)) (by decide) dX12_add_26 ?_
      refine ex_goto (tgt := 44) (by decide) dX12_add_27 ?_
      refine ex_put dX12_add_44 pf_X12_76 hup_eq (Nat.le_of_ble_eq_true rfl) rfl rfl ?_
      refine ex_aload_n rfl dX12_add_47 ?_
      refine ex_iconst (v := (nI 0)) (by decide) dX12_add_48 ?_
      refine ex_put dX12_add_49 pf_X12_81 hup_eq (Nat.le_of_ble_eq_true rfl) rfl rfl ?_
      refine ex_aload_n rfl dX12_add_52 ?_
      refine ex_get dX12_add_53 gf_X12_76 hup_eq rfl ?_
      refine ex_ifN_le (tgt := 61) (by decide) dX12_add_56 (by omega) (fun c6 => ?_) (fun c6 => ?_)
      · exact absurd c6 (by decide)
      · refine ex_iconst (v := (nI 0)) (by decide) dX12_add_59 ?_
        refine ex_iret dX12_add_60 rfl (by first | (exfalso; simp_all; done) | (exact ⟨(((hF2.up ⟨by omega, by omega⟩).up ⟨by omega, by omega⟩).up ⟨by omega, by omega⟩), y2, hR2, eS, Or.inl ⟨by assumption, rfl, by rw [← e4]; exact ((hM2.ob' (ms y2) (nI (ms y2 4)) (mfa y2) rfl).ob' (va_up (ms y2) 1 1) (nI (ms y2 4)) (mfa y2) rfl).ob' (va_up (va_up (ms y2) 1 1) 2 0) (nI (ms y2 4)) (mfa y2) rfl⟩⟩) | (exact ⟨(((hF2.up ⟨by omega, by omega⟩).up ⟨by omega, by omega⟩).up ⟨by omega, by omega⟩), y2, hR2, eS, Or.inr (Or.inl ⟨by assumption, by omega, rfl, ((hM2.ob' (ms y2) (-1) (mfa y2) rfl).ob' (va_up (ms y2) 1 2) (-1) (mfa y2) rfl).ob' (va_up (va_up (ms y2) 1 2) 2 0) (-1) (mfa y2) rfl⟩)⟩) | (exact ⟨((((hF2.up ⟨by omega, by omega⟩).up ⟨by omega, by omega⟩).up ⟨by omega, by omega⟩).up ⟨by omega, by omega⟩), y2, hR2, eS, Or.inr (Or.inr ⟨by assumption, by omega, by rw [← e6]; rfl, by rw [← e6]; exact (((hM2.ob' (ms y2) (-1) (mfa y2) rfl).ob' (va_up (ms y2) 1 0) (-1) (mfa y2) rfl).ob' (va_up (va_up (ms y2) 1 0) 2 0) (-1) (mfa y2) rfl).ob' (va_up (va_up (va_up (ms y2) 1 0) 2 0) 6 (ms y2 6 + 1)) (-1) (mfa y2) rfl⟩)⟩))
  · refine ex_iconst (v := (-1)) (by decide) dX12_add_10 ?_
    refine ex_goto (tgt := 18) (by decide) dX12_add_11 ?_
    refine ex_put dX12_add_18 pf_X12_13 hM2.1 (Nat.le_of_ble_eq_true rfl) rfl rfl ?_
    refine ex_aload_n rfl dX12_add_21 ?_
    refine ex_iload_n rfl dX12_add_22 ?_
    refine ex_ifB_ne (tgt := 30) (by decide) dX12_add_23 (fun c7 => ?_) (fun c7 => ?_)
    · refine ex_aload_n rfl dX12_add_30 ?_
      refine ex_get dX12_add_31 gf_X12_107 hup_eq rfl ?_
      refine ex_bipush (v := (nI 40)) (by decide) dX12_add_34 ?_
      refine ex_icmpN_ne (tgt := 43) (by decide) dX12_add_36 (by omega) (by omega) (fun c8 => ?_) (fun c8 => ?_)
      · refine ex_iconst (v := (nI 0)) (by decide) dX12_add_43 ?_
        refine ex_put dX12_add_44 pf_X12_76 hup_eq (Nat.le_of_ble_eq_true rfl) rfl rfl ?_
        refine ex_aload_n rfl dX12_add_47 ?_
        refine ex_iconst (v := (nI 0)) (by decide) dX12_add_48 ?_
        refine ex_put dX12_add_49 pf_X12_81 hup_eq (Nat.le_of_ble_eq_true rfl) rfl rfl ?_
        refine ex_aload_n rfl dX12_add_52 ?_
        refine ex_get dX12_add_53 gf_X12_76 hup_eq rfl ?_
        refine ex_ifN_le (tgt := 61) (by decide) dX12_add_56 (by omega) (fun c9 => ?_) (fun c9 => ?_)
        · refine ex_aload_n rfl dX12_add_61 ?_
          refine ex_dup rfl dX12_add_62 ?_
          refine ex_get dX12_add_63 gf_X12_107 hup_eq rfl ?_
          refine ex_iconst (v := (nI 1)) (by decide) dX12_add_66 ?_
          refine ex_iaddN dX12_add_67 ?_
          refine ex_put dX12_add_68 pf_X12_107 hup_eq (Nat.le_of_ble_eq_true rfl) rfl rfl ?_
          refine ex_aload_n rfl dX12_add_71 ?_
          refine ex_get dX12_add_72 gf_X12_107 hup_eq rfl ?_
          refine ex_iconst (v := (nI 1)) (by decide) dX12_add_75 ?_
          refine ex_isubN (by omega) dX12_add_76 ?_
          refine ex_iret dX12_add_77 rfl (by first | (exfalso; simp_all; done) | (exact ⟨(((hF2.up ⟨by omega, by omega⟩).up ⟨by omega, by omega⟩).up ⟨by omega, by omega⟩), y2, hR2, eS, Or.inl ⟨by assumption, rfl, by rw [← e4]; exact ((hM2.ob' (ms y2) (nI (ms y2 4)) (mfa y2) rfl).ob' (va_up (ms y2) 1 1) (nI (ms y2 4)) (mfa y2) rfl).ob' (va_up (va_up (ms y2) 1 1) 2 0) (nI (ms y2 4)) (mfa y2) rfl⟩⟩) | (exact ⟨(((hF2.up ⟨by omega, by omega⟩).up ⟨by omega, by omega⟩).up ⟨by omega, by omega⟩), y2, hR2, eS, Or.inr (Or.inl ⟨by assumption, by omega, rfl, ((hM2.ob' (ms y2) (-1) (mfa y2) rfl).ob' (va_up (ms y2) 1 2) (-1) (mfa y2) rfl).ob' (va_up (va_up (ms y2) 1 2) 2 0) (-1) (mfa y2) rfl⟩)⟩) | (exact ⟨((((hF2.up ⟨by omega, by omega⟩).up ⟨by omega, by omega⟩).up ⟨by omega, by omega⟩).up ⟨by omega, by omega⟩), y2, hR2, eS, Or.inr (Or.inr ⟨by assumption, by omega, by rw [← e6]; rfl, by rw [← e6]; exact (((hM2.ob' (ms y2) (-1) (mfa y2) rfl).ob' (va_up (ms y2) 1 0) (-1) (mfa y2) rfl).ob' (va_up (va_up (ms y2) 1 0) 2 0) (-1) (mfa y2) rfl).ob' (va_up (va_up (va_up (ms y2) 1 0) 2 0) 6 (ms y2 6 + 1)) (-1) (mfa y2) rfl⟩)⟩))
        · exact absurd c9 (by decide)
      · refine ex_iconst (v := (nI 2)) (by decide) dX12_add_39 ?_
        refine ex_goto (tgt := 44) (by decide) dX12_add_40 ?_
        refine ex_put dX12_add_44 pf_X12_76 hup_eq (Nat.le_of_ble_eq_true rfl) rfl rfl ?_
        refine ex_aload_n rfl dX12_add_47 ?_
        refine ex_iconst (v := (nI 0)) (by decide) dX12_add_48 ?_
        refine ex_put dX12_add_49 pf_X12_81 hup_eq (Nat.le_of_ble_eq_true rfl) rfl rfl ?_
        refine ex_aload_n rfl dX12_add_52 ?_
        refine ex_get dX12_add_53 gf_X12_76 hup_eq rfl ?_
        refine ex_ifN_le (tgt := 61) (by decide) dX12_add_56 (by omega) (fun c10 => ?_) (fun c10 => ?_)
        · exact absurd c10 (by decide)
        · refine ex_iconst (v := (nI 0)) (by decide) dX12_add_59 ?_
          refine ex_iret dX12_add_60 rfl (by first | (exfalso; simp_all; done) | (exact ⟨(((hF2.up ⟨by omega, by omega⟩).up ⟨by omega, by omega⟩).up ⟨by omega, by omega⟩), y2, hR2, eS, Or.inl ⟨by assumption, rfl, by rw [← e4]; exact ((hM2.ob' (ms y2) (nI (ms y2 4)) (mfa y2) rfl).ob' (va_up (ms y2) 1 1) (nI (ms y2 4)) (mfa y2) rfl).ob' (va_up (va_up (ms y2) 1 1) 2 0) (nI (ms y2 4)) (mfa y2) rfl⟩⟩) | (exact ⟨(((hF2.up ⟨by omega, by omega⟩).up ⟨by omega, by omega⟩).up ⟨by omega, by omega⟩), y2, hR2, eS, Or.inr (Or.inl ⟨by assumption, by omega, rfl, ((hM2.ob' (ms y2) (-1) (mfa y2) rfl).ob' (va_up (ms y2) 1 2) (-1) (mfa y2) rfl).ob' (va_up (va_up (ms y2) 1 2) 2 0) (-1) (mfa y2) rfl⟩)⟩) | (exact ⟨((((hF2.up ⟨by omega, by omega⟩).up ⟨by omega, by omega⟩).up ⟨by omega, by omega⟩).up ⟨by omega, by omega⟩), y2, hR2, eS, Or.inr (Or.inr ⟨by assumption, by omega, by rw [← e6]; rfl, by rw [← e6]; exact (((hM2.ob' (ms y2) (-1) (mfa y2) rfl).ob' (va_up (ms y2) 1 0) (-1) (mfa y2) rfl).ob' (va_up (va_up (ms y2) 1 0) 2 0) (-1) (mfa y2) rfl).ob' (va_up (va_up (va_up (ms y2) 1 0) 2 0) 6 (ms y2 6 + 1)) (-1) (mfa y2) rfl⟩)⟩))
    · refine ex_iconst (v := (nI 1)) (by decide) dX12_add_26 ?_
      refine ex_goto (tgt := 44) (by decide) dX12_add_27 ?_
      refine ex_put dX12_add_44 pf_X12_76 hup_eq (Nat.le_of_ble_eq_true rfl) rfl rfl ?_
      refine ex_aload_n rfl dX12_add_47 ?_
      refine ex_iconst (v := (nI 0)) (by decide) dX12_add_48 ?_
      refine ex_put dX12_add_49 pf_X12_81 hup_eq (Nat.le_of_ble_eq_true rfl) rfl rfl ?_
      refine ex_aload_n rfl dX12_add_52 ?_
      refine ex_get dX12_add_53 gf_X12_76 hup_eq rfl ?_
      refine ex_ifN_le (tgt := 61) (by decide) dX12_add_56 (by omega) (fun c11 => ?_) (fun c11 => ?_)
      · exact absurd c11 (by decide)
      · refine ex_iconst (v := (nI 0)) (by decide) dX12_add_59 ?_
        refine ex_iret dX12_add_60 rfl (by first | (exfalso; simp_all; done) | (exact ⟨(((hF2.up ⟨by omega, by omega⟩).up ⟨by omega, by omega⟩).up ⟨by omega, by omega⟩), y2, hR2, eS, Or.inl ⟨by assumption, rfl, by rw [← e4]; exact ((hM2.ob' (ms y2) (nI (ms y2 4)) (mfa y2) rfl).ob' (va_up (ms y2) 1 1) (nI (ms y2 4)) (mfa y2) rfl).ob' (va_up (va_up (ms y2) 1 1) 2 0) (nI (ms y2 4)) (mfa y2) rfl⟩⟩) | (exact ⟨(((hF2.up ⟨by omega, by omega⟩).up ⟨by omega, by omega⟩).up ⟨by omega, by omega⟩), y2, hR2, eS, Or.inr (Or.inl ⟨by assumption, by omega, rfl, ((hM2.ob' (ms y2) (-1) (mfa y2) rfl).ob' (va_up (ms y2) 1 2) (-1) (mfa y2) rfl).ob' (va_up (va_up (ms y2) 1 2) 2 0) (-1) (mfa y2) rfl⟩)⟩) | (exact ⟨((((hF2.up ⟨by omega, by omega⟩).up ⟨by omega, by omega⟩).up ⟨by omega, by omega⟩).up ⟨by omega, by omega⟩), y2, hR2, eS, Or.inr (Or.inr ⟨by assumption, by omega, by rw [← e6]; rfl, by rw [← e6]; exact (((hM2.ob' (ms y2) (-1) (mfa y2) rfl).ob' (va_up (ms y2) 1 0) (-1) (mfa y2) rfl).ob' (va_up (va_up (ms y2) 1 0) 2 0) (-1) (mfa y2) rfl).ob' (va_up (va_up (va_up (ms y2) 1 0) 2 0) 6 (ms y2 6 + 1)) (-1) (mfa y2) rfl⟩)⟩))
