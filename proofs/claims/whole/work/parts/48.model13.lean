/-! THE MODEL: rows of names, marks -/
/-- names read by the model: whether they are there, where it stopped, the statement -/
def rNs (t : Nat → Nat) (n least most : Nat) : Nat → Nat → Nat → Stm → Bool × Nat × Stm
  | 0, _, p, s => (true, p, s)
  | f + 1, k, p, s => if k < least ∨ (k < most ∧ p < n) then (if bl t n p then (if 0 < nlet t n (p + 1) 4 then rNs t n least most f (k + 1) (p + 1 + nlet t n (p + 1) 4) (psh s (lpk t (p + 1) (nlet t n (p + 1) 4))) else (false, p + 1, s)) else (false, p, s)) else (true, p, s)
theorem rNs_e {t : Nat → Nat} {n least most f k p : Nat} {s : Stm} (h : ¬ (k < least ∨ (k < most ∧ p < n))) : rNs t n least most f k p s = (true, p, s) := by
  cases f with
  | zero => rfl
  | succ f => unfold rNs; rw [if_neg h]
theorem rNs_0 {t : Nat → Nat} {n least most f k p : Nat} {s : Stm} (h : k < least ∨ (k < most ∧ p < n)) (hb : bl t n p = false) : rNs t n least most (f + 1) k p s = (false, p, s) := by unfold rNs; rw [if_pos h, hb]; rfl
theorem rNs_1 {t : Nat → Nat} {n least most f k p : Nat} {s : Stm} (h : k < least ∨ (k < most ∧ p < n)) (hb : bl t n p = true) (hz : ¬ 0 < nlet t n (p + 1) 4) : rNs t n least most (f + 1) k p s = (false, p + 1, s) := by unfold rNs; rw [if_pos h, hb, if_pos rfl, if_neg hz]
theorem rNs_2 {t : Nat → Nat} {n least most f k p : Nat} {s : Stm} (h : k < least ∨ (k < most ∧ p < n)) (hb : bl t n p = true) (hz : 0 < nlet t n (p + 1) 4) : rNs t n least most (f + 1) k p s = rNs t n least most f (k + 1) (p + 1 + nlet t n (p + 1) 4) (psh s (lpk t (p + 1) (nlet t n (p + 1) 4))) := by conv => lhs; unfold rNs; rw [if_pos h, hb, if_pos rfl, if_pos hz]
theorem nlet_n {t : Nat → Nat} {n p f : Nat} (h : p ≤ n) : p + nlet t n p f ≤ n := by
  rcases Nat.eq_zero_or_pos (nlet t n p f) with q | q
  · omega
  · have := (isL_b (nlet_isL (t := t) (n := n) (k := p) (f := f) (j := nlet t n p f - 1) (by omega))).1
    omega
theorem nlet_l {t : Nat → Nat} {n p f i : Nat} (h : i < nlet t n p f) : 97 ≤ t (p + i) ∧ t (p + i) ≤ 122 := (isL_b (nlet_isL h)).2
theorem lpk_30 {t : Nat → Nat} {n p : Nat} : lpk t p (nlet t n p 4) < 2 ^ 30 := by
  have h1 := lpk_lt (t := t) (k := p) (j := nlet t n p 4) (fun i hi => (nlet_l hi).2)
  have h2 := pow5 (nlet_le t n 4 p)
  exact Nat.lt_of_lt_of_le h1 (Nat.le_trans h2 (by decide))
theorem lpk_0 {t : Nat → Nat} {n p : Nat} : lpk t p (nlet t n p 4) ≠ 0 ↔ 0 < nlet t n p 4 := by
  constructor
  · intro h
    rcases Nat.eq_zero_or_pos (nlet t n p 4) with q | q
    · rw [q] at h; exact absurd rfl h
    · exact q
  · intro h
    have := lpk_pos (t := t) (k := p) (fun i hi => (nlet_l hi).1) h
    omega
/-- the rows but row a are as they were -/
def RW (a : Nat) (y0 y : MS) : Prop := Kp [4] [2, 3, 4, 5] y0 y ∧ (∀ i, i ≠ a → mA y 2 i = mA y0 2 i ∧ mA y 3 i = mA y0 3 i ∧ mA y 5 i = mA y0 5 i) ∧ (∀ j, j < 10 * a ∨ 10 * a + 10 ≤ j → mA y 4 j = mA y0 4 j) ∧ mB y
theorem RW.rf {a : Nat} {y : MS} (h : mB y) : RW a y y := ⟨Kp.rf, fun _ _ => ⟨rfl, rfl, rfl⟩, fun _ _ => rfl, h⟩
theorem RW.p {a : Nat} {y0 y : MS} (h : RW a y0 y) (p : Nat) : RW a y0 (nmY y p) := ⟨h.1.fd (by decide), h.2.1, h.2.2.1, h.2.2.2⟩
theorem RW.psh {a w : Nat} {y0 y : MS} (h : RW a y0 y) (hz : mA y 3 a < 9) (hw : w < 2 ^ 30) : RW a y0 (mUp (mUp y 4 (10 * a + mA y 3 a) w) 3 a (mA y 3 a + 1)) := by
  obtain ⟨h1, h2, h3, h4⟩ := h
  refine ⟨(h1.up (by decide)).up (by decide), fun i hi => ⟨(h2 i hi).1, ?_, (h2 i hi).2.2⟩, fun j hj => ?_, h4.1, h4.2.1, fun j => ⟨(h4.2.2 j).1, ?_, ?_⟩⟩
  · show va_up (mA y 3) a (mA y 3 a + 1) i = _
    exact (if_neg hi).trans (h2 i hi).2.1
  · show va_up (mA y 4) (10 * a + mA y 3 a) w j = _
    exact (if_neg (by omega)).trans (h3 j hj)
  · show va_up (mA y 3) a (mA y 3 a + 1) j ≤ 9
    unfold va_up
    split
    · omega
    · exact (h4.2.2 j).2.1
  · show va_up (mA y 4) (10 * a + mA y 3 a) w j < _
    unfold va_up
    split
    · exact hw
    · exact (h4.2.2 j).2.2
theorem mS_psh {a w : Nat} {y : MS} : mS (mUp (mUp y 4 (10 * a + mA y 3 a) w) 3 a (mA y 3 a + 1)) a = psh (mS y a) w := by
  have e1 : va_up (mA y 3) a (mA y 3 a + 1) a = mA y 3 a + 1 := if_pos rfl
  have e2 : (fun k => va_up (mA y 4) (10 * a + mA y 3 a) w (10 * a + k)) = va_up (fun k => mA y 4 (10 * a + k)) (mA y 3 a) w := by
    funext k
    unfold va_up
    by_cases e : k = mA y 3 a
    · rw [if_pos (by omega), if_pos e]
    · rw [if_neg (by omega), if_neg e]
  show (mA y 2 a, va_up (mA y 3) a (mA y 3 a + 1) a, mA y 5 a, fun k => va_up (mA y 4) (10 * a + mA y 3 a) w (10 * a + k)) = _
  rw [e1, e2]
  rfl
set_option maxHeartbeats 4000000 in
set_option maxRecDepth 100000 in
theorem l_rnsB {G : EG} {l : Launch} {h : EH} {M : Nat} {y : MS} (hM : MD G h M y) {a least most k w : Nat} (ha : a < 41) (hz : mA y 3 a < 9) {Q : Option Value → EH → Prop} (ho : ∀ h', MD G h' M (mUp (mUp y 4 (10 * a + mA y 3 a) w) 3 a (mA y 3 a + 1)) → Fr (atN M) h h' → Ex G l 3 mX12_readNames Q eNoX 0 0 3 [(0, .ref M), (1, .int (nI (a))), (2, .int (nI (least))), (3, .int (nI (most))), (4, .int (nI (k + 1)))] [] h') : Ex G l 3 mX12_readNames Q eNoX 0 0 39 [(0, .ref M), (1, .int (nI (a))), (2, .int (nI (least))), (3, .int (nI (most))), (4, .int (nI (k))), (5, .int (nI (w)))] [] h := by
  have k3 : h.2 (M + 3) = some (.inl (eA G 0, 41, .inl (fun j => nI (mA y 3 j)))) := hM.2 3 (by decide) (by decide)
  have k4 : h.2 (M + 4) = some (.inl (eA G 0, 410, .inl (fun j => nI (mA y 4 j)))) := hM.2 4 (by decide) (by decide)
  refine ex_aload_n rfl dX12_readNames_39 ?_
  refine ex_get dX12_readNames_40 gf_X12_24 hM.1 rfl ?_
  refine ex_bipush (v := (nI 10)) (by decide) dX12_readNames_43 ?_
  refine ex_iload_n rfl dX12_readNames_45 ?_
  refine ex_imulN dX12_readNames_46 ?_
  refine ex_aload_n rfl dX12_readNames_47 ?_
  refine ex_get dX12_readNames_48 gf_X12_21 hM.1 rfl ?_
  refine ex_iload_n rfl dX12_readNames_51 ?_
  refine ex_ialdN dX12_readNames_52 k3 (by omega) (by decide) ?_
  refine ex_iaddN dX12_readNames_53 ?_
  refine ex_iload rfl dX12_readNames_54 ?_
  refine ex_iastN dX12_readNames_56 k4 (by omega) (by decide) ?_
  refine ex_aload_n rfl dX12_readNames_57 ?_
  refine ex_get dX12_readNames_58 gf_X12_21 (hup_ne (by omega) hM.1) rfl ?_
  refine ex_iload_n rfl dX12_readNames_61 ?_
  refine ex_dup2 rfl rfl dX12_readNames_62 ?_
  refine ex_ialdN dX12_readNames_63 (hup_ne (by omega) k3) (by omega) (by decide) ?_
  refine ex_iconst (v := (nI 1)) (by decide) dX12_readNames_64 ?_
  refine ex_iaddN dX12_readNames_65 ?_
  refine ex_iastN dX12_readNames_66 (hup_ne (by omega) k3) (by omega) (by decide) ?_
  refine ex_iincN (z := 1) rfl (by decide) rfl dX12_readNames_67 ?_
  refine ex_goto (tgt := 3) (by decide) dX12_readNames_70 ?_
  exact ex_lv [(0, .ref M), (1, .int (nI (a))), (2, .int (nI (least))), (3, .int (nI (most))), (4, .int (nI (k + 1)))] ⟨rfl, rfl, rfl, rfl, rfl, trivial⟩ (ho _ ((hM.st 4 (10 * a + mA y 3 a) w (by decide) (by decide)).st 3 a (mA y 3 a + 1) (by decide) (by decide)) ((Fr.rf.up ⟨by omega, by omega⟩).up ⟨by omega, by omega⟩))
set_option maxHeartbeats 4000000 in
set_option maxRecDepth 100000 in
theorem l_rnsA0 {G : EG} {l : Launch} {h0 : EH} {M : Nat} {y0 : MS} {t : Nat → Nat} {n a least most : Nat} (ht : mA y0 1 = t) (hn2 : ms y0 2 = n) (hx : ∀ j, j < n → t j < 128) (hn : n ≤ 72) (ha : a < 41) (hlm : least ≤ most) (hm9 : most ≤ 9) {X : Bool × Nat × Stm} {h : EH} {y : MS} {k : Nat} (hk : k < most) (hc : k < least ∨ (k < most ∧ ms y 4 < n)) (hM : MD G h M y) (hR : RW a y0 y) (hs : sz (mS y a) + (most - k) ≤ 9) (hp : ms y 4 ≤ n) (hX : X = rNs t n least most (most - k) k (ms y 4) (mS y a)) (hF : Fr (atN M) h0 h) (hb : bl t n (ms y 4) = false) : Ex G l 3 mX12_readNames (fun v h' => v = some (.int (b2i X.1)) ∧ (∃ y', MD G h' M y' ∧ RW a y0 y' ∧ ms y' 4 = X.2.1 ∧ mS y' a = X.2.2) ∧ Fr (atN M) h0 h') eNoX 0 0 26 [(0, .ref M), (1, .int (nI (a))), (2, .int (nI (least))), (3, .int (nI (most))), (4, .int (nI (k)))] [] h := by
  have et : mA y 1 = t := (hR.1.2.2 1 (by decide)).trans ht
  have en : ms y 2 = n := (hR.1.1 2 (by decide)).trans hn2
  have hx' : ∀ j, j < ms y 2 → mA y 1 j < 128 := by rw [et, en]; exact hx
  have hbl : bl (mA y 1) (ms y 2) (ms y 4) = bl t n (ms y 4) := by rw [et, en]
  have hmk : most - k = (most - (k + 1)) + 1 := by omega
  have hzs : sz (mS y a) = mA y 3 a := rfl
  refine ex_aload_n rfl dX12_readNames_26 ?_
  refine ex_invv (k := 0) (n := 0) (mc' := 0) (ms' := 0) (As := []) dX12_readNames_27 cv_X12_103 (by decide) (Nat.le_of_ble_eq_true rfl) (Or.inl ⟨_, _, _, _, hM.1, rfl⟩) (t_readNameN hM hx' (by omega) (by omega) (hbl.trans hb)) (fun v h' q => ?_)
  obtain ⟨rfl, rfl⟩ := q
  refine ex_istore (by decide) rfl dX12_readNames_30 ?_
  refine ex_iload rfl dX12_readNames_32 ?_
  refine ex_ifN_ne (tgt := 39) (by decide) dX12_readNames_34 (by omega) (fun c1 => ?_) (fun c1 => ?_)
  · exact absurd c1 (by decide)
  · refine ex_iconst (v := (nI 0)) (by decide) dX12_readNames_37 ?_
    refine ex_zret dX12_readNames_38 rfl rfl ⟨by rw [hX, hmk, rNs_0 hc hb]; rfl, ⟨y, hM, hR, by rw [hX, hmk, rNs_0 hc hb], by rw [hX, hmk, rNs_0 hc hb]⟩, hF⟩
set_option maxHeartbeats 4000000 in
set_option maxRecDepth 100000 in
theorem l_rnsA1 {G : EG} {l : Launch} {h0 : EH} {M : Nat} {y0 : MS} {t : Nat → Nat} {n a least most : Nat} (ht : mA y0 1 = t) (hn2 : ms y0 2 = n) (hx : ∀ j, j < n → t j < 128) (hn : n ≤ 72) (ha : a < 41) (hlm : least ≤ most) (hm9 : most ≤ 9) {X : Bool × Nat × Stm} {h : EH} {y : MS} {k : Nat} (hk : k < most) (hc : k < least ∨ (k < most ∧ ms y 4 < n)) (hM : MD G h M y) (hR : RW a y0 y) (hs : sz (mS y a) + (most - k) ≤ 9) (hp : ms y 4 ≤ n) (hX : X = rNs t n least most (most - k) k (ms y 4) (mS y a)) (hF : Fr (atN M) h0 h) (hb : bl t n (ms y 4) = true) (ih : ∀ (h : EH) (y : MS), MD G h M y → RW a y0 y → sz (mS y a) + (most - (k + 1)) ≤ 9 → ms y 4 ≤ n → X = rNs t n least most (most - (k + 1)) (k + 1) (ms y 4) (mS y a) → Fr (atN M) h0 h → Ex G l 3 mX12_readNames (fun v h' => v = some (.int (b2i X.1)) ∧ (∃ y', MD G h' M y' ∧ RW a y0 y' ∧ ms y' 4 = X.2.1 ∧ mS y' a = X.2.2) ∧ Fr (atN M) h0 h') eNoX 0 0 3 [(0, .ref M), (1, .int (nI (a))), (2, .int (nI (least))), (3, .int (nI (most))), (4, .int (nI (k + 1)))] [] h) : Ex G l 3 mX12_readNames (fun v h' => v = some (.int (b2i X.1)) ∧ (∃ y', MD G h' M y' ∧ RW a y0 y' ∧ ms y' 4 = X.2.1 ∧ mS y' a = X.2.2) ∧ Fr (atN M) h0 h') eNoX 0 0 26 [(0, .ref M), (1, .int (nI (a))), (2, .int (nI (least))), (3, .int (nI (most))), (4, .int (nI (k)))] [] h := by
  have et : mA y 1 = t := (hR.1.2.2 1 (by decide)).trans ht
  have en : ms y 2 = n := (hR.1.1 2 (by decide)).trans hn2
  have hx' : ∀ j, j < ms y 2 → mA y 1 j < 128 := by rw [et, en]; exact hx
  have hbl : bl (mA y 1) (ms y 2) (ms y 4) = bl t n (ms y 4) := by rw [et, en]
  have hmk : most - k = (most - (k + 1)) + 1 := by omega
  have hzs : sz (mS y a) = mA y 3 a := rfl
  have hpn := bl_lt hb
  have hnl := nlet_n (t := t) (n := n) (p := ms y 4 + 1) (f := 4) (by omega)
  refine ex_aload_n rfl dX12_readNames_26 ?_
  refine ex_invv (k := 0) (n := 0) (mc' := 0) (ms' := 0) (As := []) dX12_readNames_27 cv_X12_103 (by decide) (Nat.le_of_ble_eq_true rfl) (Or.inl ⟨_, _, _, _, hM.1, rfl⟩) (t_readName hM hx' (by omega) (by omega) (hbl.trans hb)) (fun v h' q => ?_)
  obtain ⟨rfl, hM1, hF1⟩ := q
  rw [et, en] at hM1
  rw [et, en]
  have hw30 := lpk_30 (t := t) (n := n) (p := ms y 4 + 1)
  refine ex_istore (by decide) rfl dX12_readNames_30 ?_
  refine ex_iload rfl dX12_readNames_32 ?_
  refine ex_ifN_ne (tgt := 39) (by decide) dX12_readNames_34 (by omega) (fun c1 => ?_) (fun c1 => ?_)
  · exact ex_lv [(0, .ref M), (1, .int (nI (a))), (2, .int (nI (least))), (3, .int (nI (most))), (4, .int (nI (k))), (5, .int (nI (lpk t (ms y 4 + 1) (nlet t n (ms y 4 + 1) 4))))] ⟨rfl, rfl, rfl, rfl, rfl, rfl, trivial⟩ (l_rnsB hM1 ha (show mA y 3 a < 9 by omega) (fun h' hM2 hF2 => ih h' _ hM2 ((hR.p (ms y 4 + 1 + nlet t n (ms y 4 + 1) 4)).psh (show mA y 3 a < 9 by omega) hw30) (by rw [mS_psh]; show sz (mS y a) + 1 + (most - (k + 1)) ≤ 9; omega) (show ms y 4 + 1 + nlet t n (ms y 4 + 1) 4 ≤ n by omega) (by rw [mS_psh]; rw [hX, hmk, rNs_2 hc hb (lpk_0.mp c1)]; rfl) ((hF.tr hF1).tr hF2)))
  · refine ex_iconst (v := (nI 0)) (by decide) dX12_readNames_37 ?_
    refine ex_zret dX12_readNames_38 rfl rfl ⟨by rw [hX, hmk, rNs_1 hc hb (fun z => absurd c1 (lpk_0.mpr z))]; rfl, ⟨_, hM1, hR.p _, by rw [hX, hmk, rNs_1 hc hb (fun z => absurd c1 (lpk_0.mpr z))]; show ms y 4 + 1 + nlet t n (ms y 4 + 1) 4 = ms y 4 + 1; have z9 : ¬ 0 < nlet t n (ms y 4 + 1) 4 := fun z => absurd c1 (lpk_0.mpr z); omega, by rw [hX, hmk, rNs_1 hc hb (fun z => absurd c1 (lpk_0.mpr z))]; rfl⟩, hF.tr hF1⟩
set_option maxHeartbeats 4000000 in
set_option maxRecDepth 100000 in
theorem l_rns {G : EG} {l : Launch} {h0 : EH} {M : Nat} {y0 : MS} {t : Nat → Nat} {n a least most : Nat} (ht : mA y0 1 = t) (hn2 : ms y0 2 = n) (hx : ∀ j, j < n → t j < 128) (hn : n ≤ 72) (ha : a < 41) (hlm : least ≤ most) (hm9 : most ≤ 9) {X : Bool × Nat × Stm} : ∀ (f k : Nat), most - k < f → k ≤ most → ∀ (h : EH) (y : MS), MD G h M y → RW a y0 y → sz (mS y a) + (most - (k)) ≤ 9 → ms y 4 ≤ n → X = rNs t n least most (most - (k)) (k) (ms y 4) (mS y a) → Fr (atN M) h0 h → Ex G l 3 mX12_readNames (fun v h' => v = some (.int (b2i X.1)) ∧ (∃ y', MD G h' M y' ∧ RW a y0 y' ∧ ms y' 4 = X.2.1 ∧ mS y' a = X.2.2) ∧ Fr (atN M) h0 h') eNoX 0 0 3 [(0, .ref M), (1, .int (nI (a))), (2, .int (nI (least))), (3, .int (nI (most))), (4, .int (nI (k)))] [] h := by
  intro f
  induction f with
  | zero =>
    intro k h1 h2 h y hM hR hs hp hX hF
    omega
  | succ f ih =>
    intro k h1 h2 h y hM hR hs hp hX hF
    have en : ms y 2 = n := (hR.1.1 2 (by decide)).trans hn2
    refine ex_iload rfl dX12_readNames_3 ?_
    refine ex_iload_n rfl dX12_readNames_5 ?_
    refine ex_icmpN_lt (tgt := 26) (by decide) dX12_readNames_6 (by omega) (by omega) (fun c1 => ?_) (fun c1 => ?_)
    · cases hb : bl t n (ms y 4) with
      | false => exact l_rnsA0 ht hn2 hx hn ha hlm hm9 (show k < most by omega) (Or.inl c1) hM hR hs hp hX hF hb
      | true => exact l_rnsA1 ht hn2 hx hn ha hlm hm9 (show k < most by omega) (Or.inl c1) hM hR hs hp hX hF hb (fun h y a1 a2 a3 a4 a5 a6 => ih (k + 1) (by omega) (by omega) h y a1 a2 a3 a4 a5 a6)
    · refine ex_iload rfl dX12_readNames_9 ?_
      refine ex_iload_n rfl dX12_readNames_11 ?_
      refine ex_icmpN_ge (tgt := 73) (by decide) dX12_readNames_12 (by omega) (by omega) (fun c2 => ?_) (fun c2 => ?_)
      · refine ex_iconst (v := (nI 1)) (by decide) dX12_readNames_73 ?_
        refine ex_zret dX12_readNames_74 rfl rfl ⟨by rw [hX, rNs_e (by omega)]; rfl, ⟨y, hM, hR, by rw [hX, rNs_e (by omega)], by rw [hX, rNs_e (by omega)]⟩, hF⟩
      · refine ex_aload_n rfl dX12_readNames_15 ?_
        refine ex_get dX12_readNames_16 gf_X12_84 hM.1 rfl ?_
        refine ex_aload_n rfl dX12_readNames_19 ?_
        refine ex_get dX12_readNames_20 gf_X12_81 hM.1 rfl ?_
        rw [en]
        refine ex_icmpN_ge (tgt := 73) (by decide) dX12_readNames_23 (by omega) (by omega) (fun c3 => ?_) (fun c3 => ?_)
        · refine ex_iconst (v := (nI 1)) (by decide) dX12_readNames_73 ?_
          refine ex_zret dX12_readNames_74 rfl rfl ⟨by rw [hX, rNs_e (by omega)]; rfl, ⟨y, hM, hR, by rw [hX, rNs_e (by omega)], by rw [hX, rNs_e (by omega)]⟩, hF⟩
        · cases hb : bl t n (ms y 4) with
          | false => exact l_rnsA0 ht hn2 hx hn ha hlm hm9 (show k < most by omega) (Or.inr ⟨c2, c3⟩) hM hR hs hp hX hF hb
          | true => exact l_rnsA1 ht hn2 hx hn ha hlm hm9 (show k < most by omega) (Or.inr ⟨c2, c3⟩) hM hR hs hp hX hF hb (fun h y a1 a2 a3 a4 a5 a6 => ih (k + 1) (by omega) (by omega) h y a1 a2 a3 a4 a5 a6)
set_option maxHeartbeats 4000000 in
set_option maxRecDepth 100000 in
theorem t_readNames {G : EG} {l : Launch} {h : EH} {M : Nat} {y : MS} (hM : MD G h M y) (hB : mB y) {t : Nat → Nat} {n a least most : Nat} (ht : mA y 1 = t) (hn2 : ms y 2 = n) (hx : ∀ j, j < n → t j < 128) (hn : n ≤ 72) (ha : a < 41) (hlm : least ≤ most) (hm9 : sz (mS y a) + most ≤ 9) (hp : ms y 4 ≤ n) : ES G l 3 mX12_readNames [.ref M, .int (nI a), .int (nI least), .int (nI most)] h 0 0 (fun v h' => v = some (.int (b2i (rNs t n least most most 0 (ms y 4) (mS y a)).1)) ∧ (∃ y', MD G h' M y' ∧ RW a y y' ∧ ms y' 4 = (rNs t n least most most 0 (ms y 4) (mS y a)).2.1 ∧ mS y' a = (rNs t n least most most 0 (ms y 4) (mS y a)).2.2) ∧ Fr (atN M) h h') eNoX := by
  refine es_of (by decide) rfl (Nat.le_of_ble_eq_true rfl) ?_
  refine ex_iconst (v := (nI 0)) (by decide) dX12_readNames_0 ?_
  refine ex_istore (by decide) rfl dX12_readNames_1 ?_
  exact ex_lv [(0, .ref M), (1, .int (nI (a))), (2, .int (nI (least))), (3, .int (nI (most))), (4, .int (nI (0)))] ⟨rfl, rfl, rfl, rfl, rfl, trivial⟩ (l_rns ht hn2 hx hn ha hlm (by omega) (most + 1) 0 (by omega) (by omega) _ y hM (RW.rf hB) hm9 hp rfl Fr.rf)
theorem fnd10 : ∀ c, c < 128 → fnd (kCh 10) c 0 (kLen 10) = if 48 ≤ c ∧ c ≤ 55 then some (c - 48) else none := by decide
theorem fnd11 : ∀ c, c < 128 → fnd (kCh 11) c 0 (kLen 11) = if c = 62 then some 0 else if c = 61 then some 1 else if c = 60 then some 2 else none := by decide
def c48 (c : Nat) : Nat := if 48 ≤ c then c - 48 else 4294967248 + c
theorem sub48 {c : Nat} : nI c - nI 48 = nI (c48 c) := by
  unfold c48
  by_cases h : 48 ≤ c
  · rw [if_pos h, pk_sub h]
  · rw [if_neg h]
    exact (by decide : ∀ c, c < 48 → nI c - nI 48 = nI (4294967248 + c)) c (by omega)
theorem RW.mk {a v : Nat} {y0 y : MS} (h : RW a y0 y) : RW a y0 (mUp y 5 a v) := by
  obtain ⟨h1, h2, h3, h4⟩ := h
  refine ⟨h1.up (by decide), fun i hi => ⟨(h2 i hi).1, (h2 i hi).2.1, ?_⟩, h3, h4⟩
  show va_up (mA y 5) a v i = _
  exact (if_neg hi).trans (h2 i hi).2.2
theorem mS_mk {a v p : Nat} {y : MS} : mS (nmY (mUp y 5 a v) p) a = (kd (mS y a), sz (mS y a), v, wd (mS y a)) := by
  show (mA y 2 a, mA y 3 a, va_up (mA y 5) a v a, fun k => mA y 4 (10 * a + k)) = _
  rw [show va_up (mA y 5) a v a = v from if_pos rfl]
  rfl
theorem pMk_b {t : Nat → Nat} {n i p : Nat} {s : Stm} (h : kLen i ≠ 0) (hb : bl t n p = false) : pMk t n i p s = (false, p, s) := by unfold pMk; rw [if_neg h, hb]; rfl
theorem pMk_n {t : Nat → Nat} {n i p : Nat} {s : Stm} (h : kLen i ≠ 0) (hb : bl t n p = true) (hf : p + 1 < n → fnd (kCh i) (t (p + 1)) 0 (kLen i) = none) : pMk t n i p s = (false, p + 1, s) := by
  unfold pMk
  rw [if_neg h, hb, if_pos rfl]
  by_cases q : n ≤ p + 1
  · rw [if_pos q]
  · rw [if_neg q, hf (by omega)]
theorem pMk_y {t : Nat → Nat} {n i p j : Nat} {s : Stm} (h : kLen i ≠ 0) (hb : bl t n p = true) (hp : p + 1 < n) (hf : fnd (kCh i) (t (p + 1)) 0 (kLen i) = some j) : pMk t n i p s = (true, p + 2, (kd s, sz s, j, wd s)) := by
  unfold pMk
  rw [if_neg h, hb, if_pos rfl, if_neg (by omega), hf]
def EXQ (G : EG) (M : Nat) (y : MS) (a : Nat) (t : Nat → Nat) (n i : Nat) (h : EH) : Option Value → EH → Prop := fun v h' => v = some (.int (b2i (pMk t n i (ms y 4) (mS y a)).1)) ∧ (∃ y', MD G h' M y' ∧ RW a y y' ∧ ms y' 4 = (pMk t n i (ms y 4) (mS y a)).2.1 ∧ ((pMk t n i (ms y 4) (mS y a)).1 = true → mS y' a = (pMk t n i (ms y 4) (mS y a)).2.2)) ∧ Fr (atN M) h h'
theorem rx_b {G : EG} {M : Nat} {y : MS} {a : Nat} {t : Nat → Nat} {n i : Nat} {h : EH} (hM : MD G h M y) (hB : mB y) (hk : kLen i ≠ 0) (hb : ¬ bl t n (ms y 4) = true) : EXQ G M y a t n i h (some (.int (nI 0))) h := by
  have e := pMk_b (s := mS y a) hk (Bool.eq_false_iff.mpr hb)
  unfold EXQ
  rw [e]
  exact ⟨rfl, ⟨y, hM, RW.rf hB, rfl, fun z => by cases z⟩, Fr.rf⟩
theorem rx_no {G : EG} {M : Nat} {y : MS} {a v : Nat} {t : Nat → Nat} {n i : Nat} {h h' : EH} (hM : MD G h' M (nmY (mUp (nmY y (ms y 4 + 1)) 5 a v) (ms y 4 + 1))) (hB : mB y) (hk : kLen i ≠ 0) (hb : bl t n (ms y 4) = true) (hf : ms y 4 + 1 < n → fnd (kCh i) (t (ms y 4 + 1)) 0 (kLen i) = none) (hF : Fr (atN M) h h') : EXQ G M y a t n i h (some (.int (nI 0))) h' := by
  have e := pMk_n (s := mS y a) hk hb hf
  unfold EXQ
  rw [e]
  exact ⟨rfl, ⟨_, hM, ((RW.rf hB).p _).mk.p _, rfl, fun z => by cases z⟩, hF⟩
theorem rx_yes {G : EG} {M : Nat} {y : MS} {a v : Nat} {t : Nat → Nat} {n i : Nat} {h h' : EH} (hM : MD G h' M (nmY (mUp (nmY y (ms y 4 + 1)) 5 a v) (ms y 4 + 1 + 1))) (hB : mB y) (hk : kLen i ≠ 0) (hb : bl t n (ms y 4) = true) (hf : ms y 4 + 1 < n ∧ fnd (kCh i) (t (ms y 4 + 1)) 0 (kLen i) = some v) (hF : Fr (atN M) h h') : EXQ G M y a t n i h (some (.int (nI 1))) h' := by
  have e := pMk_y (s := mS y a) hk hb hf.1 hf.2
  unfold EXQ
  rw [e]
  exact ⟨rfl, ⟨_, hM, ((RW.rf hB).p _).mk.p _, rfl, fun _ => mS_mk (y := nmY y (ms y 4 + 1))⟩, hF⟩
theorem f10n {t : Nat → Nat} {n p : Nat} (hg : hr t n p < 128) (h : hr t n p < 48 ∨ 55 < hr t n p) : p < n → fnd (kCh 10) (t p) 0 (kLen 10) = none := fun hp => by
  rw [hr_y hp] at hg h
  rw [fnd10 _ hg, if_neg (by omega)]
theorem f10y {t : Nat → Nat} {n p : Nat} (hg : hr t n p < 128) (h : 48 ≤ hr t n p ∧ hr t n p ≤ 55) : p < n ∧ fnd (kCh 10) (t p) 0 (kLen 10) = some (c48 (hr t n p)) := by
  have hp : p < n := Classical.byContradiction fun z => by rw [hr_n z] at h; omega
  refine ⟨hp, ?_⟩
  rw [hr_y hp] at hg h ⊢
  rw [fnd10 _ hg, if_pos h]
  unfold c48
  rw [if_pos h.1]
theorem f11n {t : Nat → Nat} {n p : Nat} (hg : hr t n p < 128) (h : hr t n p ≠ 62 ∧ hr t n p ≠ 61 ∧ hr t n p ≠ 60) : p < n → fnd (kCh 11) (t p) 0 (kLen 11) = none := fun hp => by
  rw [hr_y hp] at hg h
  rw [fnd11 _ hg, if_neg h.1, if_neg h.2.1, if_neg h.2.2]
theorem f11y {t : Nat → Nat} {n p v : Nat} (hg : hr t n p < 128) (h : (hr t n p = 62 ∧ v = 0) ∨ (hr t n p = 61 ∧ v = 1) ∨ (hr t n p = 60 ∧ v = 2)) : p < n ∧ fnd (kCh 11) (t p) 0 (kLen 11) = some v := by
  have hp : p < n := Classical.byContradiction fun z => by rw [hr_n z] at h; omega
  refine ⟨hp, ?_⟩
  rw [hr_y hp] at hg h
  rw [fnd11 _ hg]
  rcases h with ⟨h, rfl⟩ | ⟨h, rfl⟩ | ⟨h, rfl⟩
  · rw [if_pos h]
  · rw [if_neg (by omega), if_pos h]
  · rw [if_neg (by omega), if_neg (by omega), if_pos h]
set_option maxHeartbeats 4000000 in
set_option maxRecDepth 100000 in
theorem t_readExtra5 {G : EG} {l : Launch} {h : EH} {M : Nat} {y : MS} (hM : MD G h M y) (hB : mB y) {t : Nat → Nat} {n a : Nat} (ht : mA y 1 = t) (hn2 : ms y 2 = n) (hx : ∀ j, j < n → t j < 128) (hn : n ≤ 72) (ha : a < 41) (hp : ms y 4 ≤ n) : ES G l 1 mX12_readExtra [.ref M, .int (nI a), .int (nI 5)] h 0 0 (EXQ G M y a t n 10 h) eNoX := by
  have hx' : ∀ j, j < ms y 2 → mA y 1 j < 128 := by rw [ht, hn2]; exact hx
  have hbi : bl t n (ms y 4) = true ↔ hr (mA y 1) (ms y 2) (ms y 4) = 32 := by rw [ht, hn2]; exact bl_h
  have hh := hr_lt (n := ms y 2) (p := ms y 4) hx'
  have hg := hr_lt (n := n) (p := ms y 4 + 1) hx
  have hkl : kLen 10 ≠ 0 := by decide
  have k5 : h.2 (M + 5) = some (.inl (eA G 0, 41, .inl (fun j => nI (mA y 5 j)))) := hM.2 5 (by decide) (by decide)
  refine es_of (by decide) rfl (Nat.le_of_ble_eq_true rfl) ?_
  refine ex_aload_n rfl dX12_readExtra_0 ?_
  refine ex_invv (k := 0) (n := 0) (mc' := 0) (ms' := 0) (As := []) dX12_readExtra_1 cv_X12_87 (by decide) (Nat.le_of_ble_eq_true rfl) (Or.inl ⟨_, _, _, _, hM.1, rfl⟩) (t_here hM hx' (by omega) (by omega)) (fun v h' q => ?_)
  obtain ⟨rfl, rfl⟩ := q
  refine ex_bipush (v := (nI 32)) (by decide) dX12_readExtra_4 ?_
  refine ex_icmpN_eq (tgt := 11) (by decide) dX12_readExtra_6 (by omega) (by omega) (fun c1 => ?_) (fun c1 => ?_)
  · refine ex_aload_n rfl dX12_readExtra_11 ?_
    refine ex_dup rfl dX12_readExtra_12 ?_
    refine ex_get dX12_readExtra_13 gf_X12_84 hM.1 rfl ?_
    refine ex_iconst (v := (nI 1)) (by decide) dX12_readExtra_16 ?_
    refine ex_iaddN dX12_readExtra_17 ?_
    refine ex_put dX12_readExtra_18 pf_X12_84 hM.1 (Nat.le_of_ble_eq_true rfl) rfl rfl ?_
    refine ex_aload_n rfl dX12_readExtra_21 ?_
    refine ex_invv (k := 0) (n := 0) (mc' := 0) (ms' := 0) (As := []) dX12_readExtra_22 cv_X12_87 (by decide) (Nat.le_of_ble_eq_true rfl) (Or.inl ⟨_, _, _, _, hup_eq, rfl⟩) (t_here (y := nmY y (ms y 4 + 1)) (hM.ob' (va_up (ms y) 4 (ms y 4 + 1)) (mpo y) (mfa y) rfl) hx' (by show ms y 2 ≤ 72; omega) (show ms y 4 + 1 < 2 ^ 30 by omega)) (fun v h' q => ?_)
    obtain ⟨rfl, rfl⟩ := q
    rw [show hr (mA (nmY y (ms y 4 + 1)) 1) (ms (nmY y (ms y 4 + 1)) 2) (ms (nmY y (ms y 4 + 1)) 4) = hr t n (ms y 4 + 1) by show hr (mA y 1) (ms y 2) (ms y 4 + 1) = _; rw [ht, hn2]]
    have hb := hbi.mpr c1
    refine ex_istore_n (by decide) rfl dX12_readExtra_25 ?_
    refine ex_iload_n rfl dX12_readExtra_26 ?_
    refine ex_iconst (v := (nI 5)) (by decide) dX12_readExtra_27 ?_
    refine ex_icmpN_ne (tgt := 51) (by decide) dX12_readExtra_28 (by omega) (by omega) (fun c2 => ?_) (fun c2 => ?_)
    · exact absurd c2 (by decide)
    · refine ex_iload_n rfl dX12_readExtra_31 ?_
      refine ex_bipush (v := (nI 48)) (by decide) dX12_readExtra_32 ?_
      refine ex_icmpN_lt (tgt := 47) (by decide) dX12_readExtra_34 (by omega) (by omega) (fun c3 => ?_) (fun c3 => ?_)
      · refine ex_iconst (v := (nI 0)) (by decide) dX12_readExtra_47 ?_
        refine ex_goto (tgt := 74) (by decide) dX12_readExtra_48 ?_
        refine ex_istore (by decide) rfl dX12_readExtra_74 ?_
        refine ex_aload_n rfl dX12_readExtra_76 ?_
        refine ex_get dX12_readExtra_77 gf_X12_27 hup_eq rfl ?_
        refine ex_iload_n rfl dX12_readExtra_80 ?_
        refine ex_iload_n rfl dX12_readExtra_81 ?_
        refine ex_iconst (v := (nI 5)) (by decide) dX12_readExtra_82 ?_
        refine ex_icmpN_ne (tgt := 93) (by decide) dX12_readExtra_83 (by omega) (by omega) (fun c4 => ?_) (fun c4 => ?_)
        · exact absurd c4 (by decide)
        · refine ex_iload_n rfl dX12_readExtra_86 ?_
          refine ex_bipush (v := (nI 48)) (by decide) dX12_readExtra_87 ?_
          refine ex_isub dX12_readExtra_89 ?_
          rw [sub48]
          refine ex_goto (tgt := 114) (by decide) dX12_readExtra_90 ?_
          refine ex_iastN dX12_readExtra_114 (hup_ne (by omega) k5) (by omega) (by decide) ?_
          refine ex_aload_n rfl dX12_readExtra_115 ?_
          refine ex_iload rfl dX12_readExtra_116 ?_
          refine ex_ifN_eq (tgt := 130) (by decide) dX12_readExtra_118 (by omega) (fun c5 => ?_) (fun c5 => ?_)
          · refine ex_aload_n rfl dX12_readExtra_130 ?_
            refine ex_get dX12_readExtra_131 gf_X12_84 (hup_ne (by omega) hup_eq) rfl ?_
            refine ex_put dX12_readExtra_134 pf_X12_84 (hup_ne (by omega) hup_eq) (Nat.le_of_ble_eq_true rfl) rfl rfl ?_
            refine ex_iload rfl dX12_readExtra_137 ?_
            refine ex_zret dX12_readExtra_139 rfl rfl (by first | (exfalso; omega) | (exact rx_no (v := c48 (hr t n (ms y 4 + 1))) (((hM.ob' (va_up (ms y) 4 (ms y 4 + 1)) (mpo y) (mfa y) rfl).st 5 a (c48 (hr t n (ms y 4 + 1))) (by decide) (by decide)).ob' (va_up (va_up (ms y) 4 (ms y 4 + 1)) 4 (ms y 4 + 1)) (mpo y) (mfa y) rfl) hB hkl hb (f10n hg (by omega)) (((Fr.rf.up ⟨by omega, by omega⟩).up ⟨by omega, by omega⟩).up ⟨by omega, by omega⟩)) | (exact rx_yes (v := c48 (hr t n (ms y 4 + 1))) (((hM.ob' (va_up (ms y) 4 (ms y 4 + 1)) (mpo y) (mfa y) rfl).st 5 a (c48 (hr t n (ms y 4 + 1))) (by decide) (by decide)).ob' (va_up (va_up (ms y) 4 (ms y 4 + 1)) 4 (ms y 4 + 1 + 1)) (mpo y) (mfa y) rfl) hB hkl hb (f10y hg (by omega)) (((Fr.rf.up ⟨by omega, by omega⟩).up ⟨by omega, by omega⟩).up ⟨by omega, by omega⟩)))
          · exact absurd c5 (by decide)
      · refine ex_iload_n rfl dX12_readExtra_37 ?_
        refine ex_bipush (v := (nI 55)) (by decide) dX12_readExtra_38 ?_
        refine ex_icmpN_gt (tgt := 47) (by decide) dX12_readExtra_40 (by omega) (by omega) (fun c6 => ?_) (fun c6 => ?_)
        · refine ex_iconst (v := (nI 0)) (by decide) dX12_readExtra_47 ?_
          refine ex_goto (tgt := 74) (by decide) dX12_readExtra_48 ?_
          refine ex_istore (by decide) rfl dX12_readExtra_74 ?_
          refine ex_aload_n rfl dX12_readExtra_76 ?_
          refine ex_get dX12_readExtra_77 gf_X12_27 hup_eq rfl ?_
          refine ex_iload_n rfl dX12_readExtra_80 ?_
          refine ex_iload_n rfl dX12_readExtra_81 ?_
          refine ex_iconst (v := (nI 5)) (by decide) dX12_readExtra_82 ?_
          refine ex_icmpN_ne (tgt := 93) (by decide) dX12_readExtra_83 (by omega) (by omega) (fun c7 => ?_) (fun c7 => ?_)
          · exact absurd c7 (by decide)
          · refine ex_iload_n rfl dX12_readExtra_86 ?_
            refine ex_bipush (v := (nI 48)) (by decide) dX12_readExtra_87 ?_
            refine ex_isub dX12_readExtra_89 ?_
            rw [sub48]
            refine ex_goto (tgt := 114) (by decide) dX12_readExtra_90 ?_
            refine ex_iastN dX12_readExtra_114 (hup_ne (by omega) k5) (by omega) (by decide) ?_
            refine ex_aload_n rfl dX12_readExtra_115 ?_
            refine ex_iload rfl dX12_readExtra_116 ?_
            refine ex_ifN_eq (tgt := 130) (by decide) dX12_readExtra_118 (by omega) (fun c8 => ?_) (fun c8 => ?_)
            · refine ex_aload_n rfl dX12_readExtra_130 ?_
              refine ex_get dX12_readExtra_131 gf_X12_84 (hup_ne (by omega) hup_eq) rfl ?_
              refine ex_put dX12_readExtra_134 pf_X12_84 (hup_ne (by omega) hup_eq) (Nat.le_of_ble_eq_true rfl) rfl rfl ?_
              refine ex_iload rfl dX12_readExtra_137 ?_
              refine ex_zret dX12_readExtra_139 rfl rfl (by first | (exfalso; omega) | (exact rx_no (v := c48 (hr t n (ms y 4 + 1))) (((hM.ob' (va_up (ms y) 4 (ms y 4 + 1)) (mpo y) (mfa y) rfl).st 5 a (c48 (hr t n (ms y 4 + 1))) (by decide) (by decide)).ob' (va_up (va_up (ms y) 4 (ms y 4 + 1)) 4 (ms y 4 + 1)) (mpo y) (mfa y) rfl) hB hkl hb (f10n hg (by omega)) (((Fr.rf.up ⟨by omega, by omega⟩).up ⟨by omega, by omega⟩).up ⟨by omega, by omega⟩)) | (exact rx_yes (v := c48 (hr t n (ms y 4 + 1))) (((hM.ob' (va_up (ms y) 4 (ms y 4 + 1)) (mpo y) (mfa y) rfl).st 5 a (c48 (hr t n (ms y 4 + 1))) (by decide) (by decide)).ob' (va_up (va_up (ms y) 4 (ms y 4 + 1)) 4 (ms y 4 + 1 + 1)) (mpo y) (mfa y) rfl) hB hkl hb (f10y hg (by omega)) (((Fr.rf.up ⟨by omega, by omega⟩).up ⟨by omega, by omega⟩).up ⟨by omega, by omega⟩)))
            · exact absurd c8 (by decide)
        · refine ex_iconst (v := (nI 1)) (by decide) dX12_readExtra_43 ?_
          refine ex_goto (tgt := 74) (by decide) dX12_readExtra_44 ?_
          refine ex_istore (by decide) rfl dX12_readExtra_74 ?_
          refine ex_aload_n rfl dX12_readExtra_76 ?_
          refine ex_get dX12_readExtra_77 gf_X12_27 hup_eq rfl ?_
          refine ex_iload_n rfl dX12_readExtra_80 ?_
          refine ex_iload_n rfl dX12_readExtra_81 ?_
          refine ex_iconst (v := (nI 5)) (by decide) dX12_readExtra_82 ?_
          refine ex_icmpN_ne (tgt := 93) (by decide) dX12_readExtra_83 (by omega) (by omega) (fun c9 => ?_) (fun c9 => ?_)
          · exact absurd c9 (by decide)
          · refine ex_iload_n rfl dX12_readExtra_86 ?_
            refine ex_bipush (v := (nI 48)) (by decide) dX12_readExtra_87 ?_
            refine ex_isub dX12_readExtra_89 ?_
            rw [sub48]
            refine ex_goto (tgt := 114) (by decide) dX12_readExtra_90 ?_
            refine ex_iastN dX12_readExtra_114 (hup_ne (by omega) k5) (by omega) (by decide) ?_
            refine ex_aload_n rfl dX12_readExtra_115 ?_
            refine ex_iload rfl dX12_readExtra_116 ?_
            refine ex_ifN_eq (tgt := 130) (by decide) dX12_readExtra_118 (by omega) (fun c10 => ?_) (fun c10 => ?_)
            · exact absurd c10 (by decide)
            · refine ex_aload_n rfl dX12_readExtra_121 ?_
              refine ex_get dX12_readExtra_122 gf_X12_84 (hup_ne (by omega) hup_eq) rfl ?_
              refine ex_iconst (v := (nI 1)) (by decide) dX12_readExtra_125 ?_
              refine ex_iaddN dX12_readExtra_126 ?_
              refine ex_goto (tgt := 134) (by decide) dX12_readExtra_127 ?_
              refine ex_put dX12_readExtra_134 pf_X12_84 (hup_ne (by omega) hup_eq) (Nat.le_of_ble_eq_true rfl) rfl rfl ?_
              refine ex_iload rfl dX12_readExtra_137 ?_
              refine ex_zret dX12_readExtra_139 rfl rfl (by first | (exfalso; omega) | (exact rx_no (v := c48 (hr t n (ms y 4 + 1))) (((hM.ob' (va_up (ms y) 4 (ms y 4 + 1)) (mpo y) (mfa y) rfl).st 5 a (c48 (hr t n (ms y 4 + 1))) (by decide) (by decide)).ob' (va_up (va_up (ms y) 4 (ms y 4 + 1)) 4 (ms y 4 + 1)) (mpo y) (mfa y) rfl) hB hkl hb (f10n hg (by omega)) (((Fr.rf.up ⟨by omega, by omega⟩).up ⟨by omega, by omega⟩).up ⟨by omega, by omega⟩)) | (exact rx_yes (v := c48 (hr t n (ms y 4 + 1))) (((hM.ob' (va_up (ms y) 4 (ms y 4 + 1)) (mpo y) (mfa y) rfl).st 5 a (c48 (hr t n (ms y 4 + 1))) (by decide) (by decide)).ob' (va_up (va_up (ms y) 4 (ms y 4 + 1)) 4 (ms y 4 + 1 + 1)) (mpo y) (mfa y) rfl) hB hkl hb (f10y hg (by omega)) (((Fr.rf.up ⟨by omega, by omega⟩).up ⟨by omega, by omega⟩).up ⟨by omega, by omega⟩)))
  · refine ex_iconst (v := (nI 0)) (by decide) dX12_readExtra_9 ?_
    refine ex_zret dX12_readExtra_10 rfl rfl (rx_b hM hB hkl (fun z => c1 (hbi.mp z)))
set_option maxHeartbeats 4000000 in
set_option maxRecDepth 100000 in
theorem t_readExtra6 {G : EG} {l : Launch} {h : EH} {M : Nat} {y : MS} (hM : MD G h M y) (hB : mB y) {t : Nat → Nat} {n a : Nat} (ht : mA y 1 = t) (hn2 : ms y 2 = n) (hx : ∀ j, j < n → t j < 128) (hn : n ≤ 72) (ha : a < 41) (hp : ms y 4 ≤ n) : ES G l 1 mX12_readExtra [.ref M, .int (nI a), .int (nI 6)] h 0 0 (EXQ G M y a t n 11 h) eNoX := by
  have hx' : ∀ j, j < ms y 2 → mA y 1 j < 128 := by rw [ht, hn2]; exact hx
  have hbi : bl t n (ms y 4) = true ↔ hr (mA y 1) (ms y 2) (ms y 4) = 32 := by rw [ht, hn2]; exact bl_h
  have hh := hr_lt (n := ms y 2) (p := ms y 4) hx'
  have hg := hr_lt (n := n) (p := ms y 4 + 1) hx
  have hkl : kLen 11 ≠ 0 := by decide
  have k5 : h.2 (M + 5) = some (.inl (eA G 0, 41, .inl (fun j => nI (mA y 5 j)))) := hM.2 5 (by decide) (by decide)
  refine es_of (by decide) rfl (Nat.le_of_ble_eq_true rfl) ?_
  refine ex_aload_n rfl dX12_readExtra_0 ?_
  refine ex_invv (k := 0) (n := 0) (mc' := 0) (ms' := 0) (As := []) dX12_readExtra_1 cv_X12_87 (by decide) (Nat.le_of_ble_eq_true rfl) (Or.inl ⟨_, _, _, _, hM.1, rfl⟩) (t_here hM hx' (by omega) (by omega)) (fun v h' q => ?_)
  obtain ⟨rfl, rfl⟩ := q
  refine ex_bipush (v := (nI 32)) (by decide) dX12_readExtra_4 ?_
  refine ex_icmpN_eq (tgt := 11) (by decide) dX12_readExtra_6 (by omega) (by omega) (fun c1 => ?_) (fun c1 => ?_)
  · refine ex_aload_n rfl dX12_readExtra_11 ?_
    refine ex_dup rfl dX12_readExtra_12 ?_
    refine ex_get dX12_readExtra_13 gf_X12_84 hM.1 rfl ?_
    refine ex_iconst (v := (nI 1)) (by decide) dX12_readExtra_16 ?_
    refine ex_iaddN dX12_readExtra_17 ?_
    refine ex_put dX12_readExtra_18 pf_X12_84 hM.1 (Nat.le_of_ble_eq_true rfl) rfl rfl ?_
    refine ex_aload_n rfl dX12_readExtra_21 ?_
    refine ex_invv (k := 0) (n := 0) (mc' := 0) (ms' := 0) (As := []) dX12_readExtra_22 cv_X12_87 (by decide) (Nat.le_of_ble_eq_true rfl) (Or.inl ⟨_, _, _, _, hup_eq, rfl⟩) (t_here (y := nmY y (ms y 4 + 1)) (hM.ob' (va_up (ms y) 4 (ms y 4 + 1)) (mpo y) (mfa y) rfl) hx' (by show ms y 2 ≤ 72; omega) (show ms y 4 + 1 < 2 ^ 30 by omega)) (fun v h' q => ?_)
    obtain ⟨rfl, rfl⟩ := q
    rw [show hr (mA (nmY y (ms y 4 + 1)) 1) (ms (nmY y (ms y 4 + 1)) 2) (ms (nmY y (ms y 4 + 1)) 4) = hr t n (ms y 4 + 1) by show hr (mA y 1) (ms y 2) (ms y 4 + 1) = _; rw [ht, hn2]]
    have hb := hbi.mpr c1
    refine ex_istore_n (by decide) rfl dX12_readExtra_25 ?_
    refine ex_iload_n rfl dX12_readExtra_26 ?_
    refine ex_iconst (v := (nI 5)) (by decide) dX12_readExtra_27 ?_
    refine ex_icmpN_ne (tgt := 51) (by decide) dX12_readExtra_28 (by omega) (by omega) (fun c2 => ?_) (fun c2 => ?_)
    · refine ex_iload_n rfl dX12_readExtra_51 ?_
      refine ex_bipush (v := (nI 62)) (by decide) dX12_readExtra_52 ?_
      refine ex_icmpN_eq (tgt := 69) (by decide) dX12_readExtra_54 (by omega) (by omega) (fun c3 => ?_) (fun c3 => ?_)
      · refine ex_iconst (v := (nI 1)) (by decide) dX12_readExtra_69 ?_
        refine ex_goto (tgt := 74) (by decide) dX12_readExtra_70 ?_
        refine ex_istore (by decide) rfl dX12_readExtra_74 ?_
        refine ex_aload_n rfl dX12_readExtra_76 ?_
        refine ex_get dX12_readExtra_77 gf_X12_27 hup_eq rfl ?_
        refine ex_iload_n rfl dX12_readExtra_80 ?_
        refine ex_iload_n rfl dX12_readExtra_81 ?_
        refine ex_iconst (v := (nI 5)) (by decide) dX12_readExtra_82 ?_
        refine ex_icmpN_ne (tgt := 93) (by decide) dX12_readExtra_83 (by omega) (by omega) (fun c4 => ?_) (fun c4 => ?_)
        · refine ex_iload_n rfl dX12_readExtra_93 ?_
          refine ex_bipush (v := (nI 62)) (by decide) dX12_readExtra_94 ?_
          refine ex_icmpN_ne (tgt := 103) (by decide) dX12_readExtra_96 (by omega) (by omega) (fun c5 => ?_) (fun c5 => ?_)
          · refine ex_iload_n rfl dX12_readExtra_103 ?_
            refine ex_bipush (v := (nI 61)) (by decide) dX12_readExtra_104 ?_
            refine ex_icmpN_ne (tgt := 113) (by decide) dX12_readExtra_106 (by omega) (by omega) (fun c6 => ?_) (fun c6 => ?_)
            · refine ex_iconst (v := (nI 2)) (by decide) dX12_readExtra_113 ?_
              refine ex_iastN dX12_readExtra_114 (hup_ne (by omega) k5) (by omega) (by decide) ?_
              refine ex_aload_n rfl dX12_readExtra_115 ?_
              refine ex_iload rfl dX12_readExtra_116 ?_
              refine ex_ifN_eq (tgt := 130) (by decide) dX12_readExtra_118 (by omega) (fun c7 => ?_) (fun c7 => ?_)
              · exact absurd c7 (by decide)
              · refine ex_aload_n rfl dX12_readExtra_121 ?_
                refine ex_get dX12_readExtra_122 gf_X12_84 (hup_ne (by omega) hup_eq) rfl ?_
                refine ex_iconst (v := (nI 1)) (by decide) dX12_readExtra_125 ?_
                refine ex_iaddN dX12_readExtra_126 ?_
                refine ex_goto (tgt := 134) (by decide) dX12_readExtra_127 ?_
                refine ex_put dX12_readExtra_134 pf_X12_84 (hup_ne (by omega) hup_eq) (Nat.le_of_ble_eq_true rfl) rfl rfl ?_
                refine ex_iload rfl dX12_readExtra_137 ?_
                refine ex_zret dX12_readExtra_139 rfl rfl (by first | (exfalso; omega) | (exact rx_no (v := 2) (((hM.ob' (va_up (ms y) 4 (ms y 4 + 1)) (mpo y) (mfa y) rfl).st 5 a (2) (by decide) (by decide)).ob' (va_up (va_up (ms y) 4 (ms y 4 + 1)) 4 (ms y 4 + 1)) (mpo y) (mfa y) rfl) hB hkl hb (f11n hg (by omega)) (((Fr.rf.up ⟨by omega, by omega⟩).up ⟨by omega, by omega⟩).up ⟨by omega, by omega⟩)) | (exact rx_yes (v := 0) (((hM.ob' (va_up (ms y) 4 (ms y 4 + 1)) (mpo y) (mfa y) rfl).st 5 a (0) (by decide) (by decide)).ob' (va_up (va_up (ms y) 4 (ms y 4 + 1)) 4 (ms y 4 + 1 + 1)) (mpo y) (mfa y) rfl) hB hkl hb (f11y hg (by omega)) (((Fr.rf.up ⟨by omega, by omega⟩).up ⟨by omega, by omega⟩).up ⟨by omega, by omega⟩)) | (exact rx_yes (v := 1) (((hM.ob' (va_up (ms y) 4 (ms y 4 + 1)) (mpo y) (mfa y) rfl).st 5 a (1) (by decide) (by decide)).ob' (va_up (va_up (ms y) 4 (ms y 4 + 1)) 4 (ms y 4 + 1 + 1)) (mpo y) (mfa y) rfl) hB hkl hb (f11y hg (by omega)) (((Fr.rf.up ⟨by omega, by omega⟩).up ⟨by omega, by omega⟩).up ⟨by omega, by omega⟩)) | (exact rx_yes (v := 2) (((hM.ob' (va_up (ms y) 4 (ms y 4 + 1)) (mpo y) (mfa y) rfl).st 5 a (2) (by decide) (by decide)).ob' (va_up (va_up (ms y) 4 (ms y 4 + 1)) 4 (ms y 4 + 1 + 1)) (mpo y) (mfa y) rfl) hB hkl hb (f11y hg (by omega)) (((Fr.rf.up ⟨by omega, by omega⟩).up ⟨by omega, by omega⟩).up ⟨by omega, by omega⟩)))
            · refine ex_iconst (v := (nI 1)) (by decide) dX12_readExtra_109 ?_
              refine ex_goto (tgt := 114) (by decide) dX12_readExtra_110 ?_
              refine ex_iastN dX12_readExtra_114 (hup_ne (by omega) k5) (by omega) (by decide) ?_
              refine ex_aload_n rfl dX12_readExtra_115 ?_
              refine ex_iload rfl dX12_readExtra_116 ?_
              refine ex_ifN_eq (tgt := 130) (by decide) dX12_readExtra_118 (by omega) (fun c8 => ?_) (fun c8 => ?_)
              · exact absurd c8 (by decide)
              · refine ex_aload_n rfl dX12_readExtra_121 ?_
                refine ex_get dX12_readExtra_122 gf_X12_84 (hup_ne (by omega) hup_eq) rfl ?_
                refine ex_iconst (v := (nI 1)) (by decide) dX12_readExtra_125 ?_
                refine ex_iaddN dX12_readExtra_126 ?_
                refine ex_goto (tgt := 134) (by decide) dX12_readExtra_127 ?_
                refine ex_put dX12_readExtra_134 pf_X12_84 (hup_ne (by omega) hup_eq) (Nat.le_of_ble_eq_true rfl) rfl rfl ?_
                refine ex_iload rfl dX12_readExtra_137 ?_
                refine ex_zret dX12_readExtra_139 rfl rfl (by first | (exfalso; omega) | (exact rx_no (v := 2) (((hM.ob' (va_up (ms y) 4 (ms y 4 + 1)) (mpo y) (mfa y) rfl).st 5 a (2) (by decide) (by decide)).ob' (va_up (va_up (ms y) 4 (ms y 4 + 1)) 4 (ms y 4 + 1)) (mpo y) (mfa y) rfl) hB hkl hb (f11n hg (by omega)) (((Fr.rf.up ⟨by omega, by omega⟩).up ⟨by omega, by omega⟩).up ⟨by omega, by omega⟩)) | (exact rx_yes (v := 0) (((hM.ob' (va_up (ms y) 4 (ms y 4 + 1)) (mpo y) (mfa y) rfl).st 5 a (0) (by decide) (by decide)).ob' (va_up (va_up (ms y) 4 (ms y 4 + 1)) 4 (ms y 4 + 1 + 1)) (mpo y) (mfa y) rfl) hB hkl hb (f11y hg (by omega)) (((Fr.rf.up ⟨by omega, by omega⟩).up ⟨by omega, by omega⟩).up ⟨by omega, by omega⟩)) | (exact rx_yes (v := 1) (((hM.ob' (va_up (ms y) 4 (ms y 4 + 1)) (mpo y) (mfa y) rfl).st 5 a (1) (by decide) (by decide)).ob' (va_up (va_up (ms y) 4 (ms y 4 + 1)) 4 (ms y 4 + 1 + 1)) (mpo y) (mfa y) rfl) hB hkl hb (f11y hg (by omega)) (((Fr.rf.up ⟨by omega, by omega⟩).up ⟨by omega, by omega⟩).up ⟨by omega, by omega⟩)) | (exact rx_yes (v := 2) (((hM.ob' (va_up (ms y) 4 (ms y 4 + 1)) (mpo y) (mfa y) rfl).st 5 a (2) (by decide) (by decide)).ob' (va_up (va_up (ms y) 4 (ms y 4 + 1)) 4 (ms y 4 + 1 + 1)) (mpo y) (mfa y) rfl) hB hkl hb (f11y hg (by omega)) (((Fr.rf.up ⟨by omega, by omega⟩).up ⟨by omega, by omega⟩).up ⟨by omega, by omega⟩)))
          · refine ex_iconst (v := (nI 0)) (by decide) dX12_readExtra_99 ?_
            refine ex_goto (tgt := 114) (by decide) dX12_readExtra_100 ?_
            refine ex_iastN dX12_readExtra_114 (hup_ne (by omega) k5) (by omega) (by decide) ?_
            refine ex_aload_n rfl dX12_readExtra_115 ?_
            refine ex_iload rfl dX12_readExtra_116 ?_
            refine ex_ifN_eq (tgt := 130) (by decide) dX12_readExtra_118 (by omega) (fun c9 => ?_) (fun c9 => ?_)
            · exact absurd c9 (by decide)
            · refine ex_aload_n rfl dX12_readExtra_121 ?_
              refine ex_get dX12_readExtra_122 gf_X12_84 (hup_ne (by omega) hup_eq) rfl ?_
              refine ex_iconst (v := (nI 1)) (by decide) dX12_readExtra_125 ?_
              refine ex_iaddN dX12_readExtra_126 ?_
              refine ex_goto (tgt := 134) (by decide) dX12_readExtra_127 ?_
              refine ex_put dX12_readExtra_134 pf_X12_84 (hup_ne (by omega) hup_eq) (Nat.le_of_ble_eq_true rfl) rfl rfl ?_
              refine ex_iload rfl dX12_readExtra_137 ?_
              refine ex_zret dX12_readExtra_139 rfl rfl (by first | (exfalso; omega) | (exact rx_no (v := 2) (((hM.ob' (va_up (ms y) 4 (ms y 4 + 1)) (mpo y) (mfa y) rfl).st 5 a (2) (by decide) (by decide)).ob' (va_up (va_up (ms y) 4 (ms y 4 + 1)) 4 (ms y 4 + 1)) (mpo y) (mfa y) rfl) hB hkl hb (f11n hg (by omega)) (((Fr.rf.up ⟨by omega, by omega⟩).up ⟨by omega, by omega⟩).up ⟨by omega, by omega⟩)) | (exact rx_yes (v := 0) (((hM.ob' (va_up (ms y) 4 (ms y 4 + 1)) (mpo y) (mfa y) rfl).st 5 a (0) (by decide) (by decide)).ob' (va_up (va_up (ms y) 4 (ms y 4 + 1)) 4 (ms y 4 + 1 + 1)) (mpo y) (mfa y) rfl) hB hkl hb (f11y hg (by omega)) (((Fr.rf.up ⟨by omega, by omega⟩).up ⟨by omega, by omega⟩).up ⟨by omega, by omega⟩)) | (exact rx_yes (v := 1) (((hM.ob' (va_up (ms y) 4 (ms y 4 + 1)) (mpo y) (mfa y) rfl).st 5 a (1) (by decide) (by decide)).ob' (va_up (va_up (ms y) 4 (ms y 4 + 1)) 4 (ms y 4 + 1 + 1)) (mpo y) (mfa y) rfl) hB hkl hb (f11y hg (by omega)) (((Fr.rf.up ⟨by omega, by omega⟩).up ⟨by omega, by omega⟩).up ⟨by omega, by omega⟩)) | (exact rx_yes (v := 2) (((hM.ob' (va_up (ms y) 4 (ms y 4 + 1)) (mpo y) (mfa y) rfl).st 5 a (2) (by decide) (by decide)).ob' (va_up (va_up (ms y) 4 (ms y 4 + 1)) 4 (ms y 4 + 1 + 1)) (mpo y) (mfa y) rfl) hB hkl hb (f11y hg (by omega)) (((Fr.rf.up ⟨by omega, by omega⟩).up ⟨by omega, by omega⟩).up ⟨by omega, by omega⟩)))
        · exact absurd c4 (by decide)
      · refine ex_iload_n rfl dX12_readExtra_57 ?_
        refine ex_bipush (v := (nI 61)) (by decide) dX12_readExtra_58 ?_
        refine ex_icmpN_eq (tgt := 69) (by decide) dX12_readExtra_60 (by omega) (by omega) (fun c10 => ?_) (fun c10 => ?_)
        · refine ex_iconst (v := (nI 1)) (by decide) dX12_readExtra_69 ?_
          refine ex_goto (tgt := 74) (by decide) dX12_readExtra_70 ?_
          refine ex_istore (by decide) rfl dX12_readExtra_74 ?_
          refine ex_aload_n rfl dX12_readExtra_76 ?_
          refine ex_get dX12_readExtra_77 gf_X12_27 hup_eq rfl ?_
          refine ex_iload_n rfl dX12_readExtra_80 ?_
          refine ex_iload_n rfl dX12_readExtra_81 ?_
          refine ex_iconst (v := (nI 5)) (by decide) dX12_readExtra_82 ?_
          refine ex_icmpN_ne (tgt := 93) (by decide) dX12_readExtra_83 (by omega) (by omega) (fun c11 => ?_) (fun c11 => ?_)
          · refine ex_iload_n rfl dX12_readExtra_93 ?_
            refine ex_bipush (v := (nI 62)) (by decide) dX12_readExtra_94 ?_
            refine ex_icmpN_ne (tgt := 103) (by decide) dX12_readExtra_96 (by omega) (by omega) (fun c12 => ?_) (fun c12 => ?_)
            · refine ex_iload_n rfl dX12_readExtra_103 ?_
              refine ex_bipush (v := (nI 61)) (by decide) dX12_readExtra_104 ?_
              refine ex_icmpN_ne (tgt := 113) (by decide) dX12_readExtra_106 (by omega) (by omega) (fun c13 => ?_) (fun c13 => ?_)
              · refine ex_iconst (v := (nI 2)) (by decide) dX12_readExtra_113 ?_
                refine ex_iastN dX12_readExtra_114 (hup_ne (by omega) k5) (by omega) (by decide) ?_
                refine ex_aload_n rfl dX12_readExtra_115 ?_
                refine ex_iload rfl dX12_readExtra_116 ?_
                refine ex_ifN_eq (tgt := 130) (by decide) dX12_readExtra_118 (by omega) (fun c14 => ?_) (fun c14 => ?_)
                · exact absurd c14 (by decide)
                · refine ex_aload_n rfl dX12_readExtra_121 ?_
                  refine ex_get dX12_readExtra_122 gf_X12_84 (hup_ne (by omega) hup_eq) rfl ?_
                  refine ex_iconst (v := (nI 1)) (by decide) dX12_readExtra_125 ?_
                  refine ex_iaddN dX12_readExtra_126 ?_
                  refine ex_goto (tgt := 134) (by decide) dX12_readExtra_127 ?_
                  refine ex_put dX12_readExtra_134 pf_X12_84 (hup_ne (by omega) hup_eq) (Nat.le_of_ble_eq_true rfl) rfl rfl ?_
                  refine ex_iload rfl dX12_readExtra_137 ?_
                  refine ex_zret dX12_readExtra_139 rfl rfl (by first | (exfalso; omega) | (exact rx_no (v := 2) (((hM.ob' (va_up (ms y) 4 (ms y 4 + 1)) (mpo y) (mfa y) rfl).st 5 a (2) (by decide) (by decide)).ob' (va_up (va_up (ms y) 4 (ms y 4 + 1)) 4 (ms y 4 + 1)) (mpo y) (mfa y) rfl) hB hkl hb (f11n hg (by omega)) (((Fr.rf.up ⟨by omega, by omega⟩).up ⟨by omega, by omega⟩).up ⟨by omega, by omega⟩)) | (exact rx_yes (v := 0) (((hM.ob' (va_up (ms y) 4 (ms y 4 + 1)) (mpo y) (mfa y) rfl).st 5 a (0) (by decide) (by decide)).ob' (va_up (va_up (ms y) 4 (ms y 4 + 1)) 4 (ms y 4 + 1 + 1)) (mpo y) (mfa y) rfl) hB hkl hb (f11y hg (by omega)) (((Fr.rf.up ⟨by omega, by omega⟩).up ⟨by omega, by omega⟩).up ⟨by omega, by omega⟩)) | (exact rx_yes (v := 1) (((hM.ob' (va_up (ms y) 4 (ms y 4 + 1)) (mpo y) (mfa y) rfl).st 5 a (1) (by decide) (by decide)).ob' (va_up (va_up (ms y) 4 (ms y 4 + 1)) 4 (ms y 4 + 1 + 1)) (mpo y) (mfa y) rfl) hB hkl hb (f11y hg (by omega)) (((Fr.rf.up ⟨by omega, by omega⟩).up ⟨by omega, by omega⟩).up ⟨by omega, by omega⟩)) | (exact rx_yes (v := 2) (((hM.ob' (va_up (ms y) 4 (ms y 4 + 1)) (mpo y) (mfa y) rfl).st 5 a (2) (by decide) (by decide)).ob' (va_up (va_up (ms y) 4 (ms y 4 + 1)) 4 (ms y 4 + 1 + 1)) (mpo y) (mfa y) rfl) hB hkl hb (f11y hg (by omega)) (((Fr.rf.up ⟨by omega, by omega⟩).up ⟨by omega, by omega⟩).up ⟨by omega, by omega⟩)))
              · refine ex_iconst (v := (nI 1)) (by decide) dX12_readExtra_109 ?_
                refine ex_goto (tgt := 114) (by decide) dX12_readExtra_110 ?_
                refine ex_iastN dX12_readExtra_114 (hup_ne (by omega) k5) (by omega) (by decide) ?_
                refine ex_aload_n rfl dX12_readExtra_115 ?_
                refine ex_iload rfl dX12_readExtra_116 ?_
                refine ex_ifN_eq (tgt := 130) (by decide) dX12_readExtra_118 (by omega) (fun c15 => ?_) (fun c15 => ?_)
                · exact absurd c15 (by decide)
                · refine ex_aload_n rfl dX12_readExtra_121 ?_
                  refine ex_get dX12_readExtra_122 gf_X12_84 (hup_ne (by omega) hup_eq) rfl ?_
                  refine ex_iconst (v := (nI 1)) (by decide) dX12_readExtra_125 ?_
                  refine ex_iaddN dX12_readExtra_126 ?_
                  refine ex_goto (tgt := 134) (by decide) dX12_readExtra_127 ?_
                  refine ex_put dX12_readExtra_134 pf_X12_84 (hup_ne (by omega) hup_eq) (Nat.le_of_ble_eq_true rfl) rfl rfl ?_
                  refine ex_iload rfl dX12_readExtra_137 ?_
                  refine ex_zret dX12_readExtra_139 rfl rfl (by first | (exfalso; omega) | (exact rx_no (v := 2) (((hM.ob' (va_up (ms y) 4 (ms y 4 + 1)) (mpo y) (mfa y) rfl).st 5 a (2) (by decide) (by decide)).ob' (va_up (va_up (ms y) 4 (ms y 4 + 1)) 4 (ms y 4 + 1)) (mpo y) (mfa y) rfl) hB hkl hb (f11n hg (by omega)) (((Fr.rf.up ⟨by omega, by omega⟩).up ⟨by omega, by omega⟩).up ⟨by omega, by omega⟩)) | (exact rx_yes (v := 0) (((hM.ob' (va_up (ms y) 4 (ms y 4 + 1)) (mpo y) (mfa y) rfl).st 5 a (0) (by decide) (by decide)).ob' (va_up (va_up (ms y) 4 (ms y 4 + 1)) 4 (ms y 4 + 1 + 1)) (mpo y) (mfa y) rfl) hB hkl hb (f11y hg (by omega)) (((Fr.rf.up ⟨by omega, by omega⟩).up ⟨by omega, by omega⟩).up ⟨by omega, by omega⟩)) | (exact rx_yes (v := 1) (((hM.ob' (va_up (ms y) 4 (ms y 4 + 1)) (mpo y) (mfa y) rfl).st 5 a (1) (by decide) (by decide)).ob' (va_up (va_up (ms y) 4 (ms y 4 + 1)) 4 (ms y 4 + 1 + 1)) (mpo y) (mfa y) rfl) hB hkl hb (f11y hg (by omega)) (((Fr.rf.up ⟨by omega, by omega⟩).up ⟨by omega, by omega⟩).up ⟨by omega, by omega⟩)) | (exact rx_yes (v := 2) (((hM.ob' (va_up (ms y) 4 (ms y 4 + 1)) (mpo y) (mfa y) rfl).st 5 a (2) (by decide) (by decide)).ob' (va_up (va_up (ms y) 4 (ms y 4 + 1)) 4 (ms y 4 + 1 + 1)) (mpo y) (mfa y) rfl) hB hkl hb (f11y hg (by omega)) (((Fr.rf.up ⟨by omega, by omega⟩).up ⟨by omega, by omega⟩).up ⟨by omega, by omega⟩)))
            · refine ex_iconst (v := (nI 0)) (by decide) dX12_readExtra_99 ?_
              refine ex_goto (tgt := 114) (by decide) dX12_readExtra_100 ?_
              refine ex_iastN dX12_readExtra_114 (hup_ne (by omega) k5) (by omega) (by decide) ?_
              refine ex_aload_n rfl dX12_readExtra_115 ?_
              refine ex_iload rfl dX12_readExtra_116 ?_
              refine ex_ifN_eq (tgt := 130) (by decide) dX12_readExtra_118 (by omega) (fun c16 => ?_) (fun c16 => ?_)
              · exact absurd c16 (by decide)
              · refine ex_aload_n rfl dX12_readExtra_121 ?_
                refine ex_get dX12_readExtra_122 gf_X12_84 (hup_ne (by omega) hup_eq) rfl ?_
                refine ex_iconst (v := (nI 1)) (by decide) dX12_readExtra_125 ?_
                refine ex_iaddN dX12_readExtra_126 ?_
                refine ex_goto (tgt := 134) (by decide) dX12_readExtra_127 ?_
                refine ex_put dX12_readExtra_134 pf_X12_84 (hup_ne (by omega) hup_eq) (Nat.le_of_ble_eq_true rfl) rfl rfl ?_
                refine ex_iload rfl dX12_readExtra_137 ?_
                refine ex_zret dX12_readExtra_139 rfl rfl (by first | (exfalso; omega) | (exact rx_no (v := 2) (((hM.ob' (va_up (ms y) 4 (ms y 4 + 1)) (mpo y) (mfa y) rfl).st 5 a (2) (by decide) (by decide)).ob' (va_up (va_up (ms y) 4 (ms y 4 + 1)) 4 (ms y 4 + 1)) (mpo y) (mfa y) rfl) hB hkl hb (f11n hg (by omega)) (((Fr.rf.up ⟨by omega, by omega⟩).up ⟨by omega, by omega⟩).up ⟨by omega, by omega⟩)) | (exact rx_yes (v := 0) (((hM.ob' (va_up (ms y) 4 (ms y 4 + 1)) (mpo y) (mfa y) rfl).st 5 a (0) (by decide) (by decide)).ob' (va_up (va_up (ms y) 4 (ms y 4 + 1)) 4 (ms y 4 + 1 + 1)) (mpo y) (mfa y) rfl) hB hkl hb (f11y hg (by omega)) (((Fr.rf.up ⟨by omega, by omega⟩).up ⟨by omega, by omega⟩).up ⟨by omega, by omega⟩)) | (exact rx_yes (v := 1) (((hM.ob' (va_up (ms y) 4 (ms y 4 + 1)) (mpo y) (mfa y) rfl).st 5 a (1) (by decide) (by decide)).ob' (va_up (va_up (ms y) 4 (ms y 4 + 1)) 4 (ms y 4 + 1 + 1)) (mpo y) (mfa y) rfl) hB hkl hb (f11y hg (by omega)) (((Fr.rf.up ⟨by omega, by omega⟩).up ⟨by omega, by omega⟩).up ⟨by omega, by omega⟩)) | (exact rx_yes (v := 2) (((hM.ob' (va_up (ms y) 4 (ms y 4 + 1)) (mpo y) (mfa y) rfl).st 5 a (2) (by decide) (by decide)).ob' (va_up (va_up (ms y) 4 (ms y 4 + 1)) 4 (ms y 4 + 1 + 1)) (mpo y) (mfa y) rfl) hB hkl hb (f11y hg (by omega)) (((Fr.rf.up ⟨by omega, by omega⟩).up ⟨by omega, by omega⟩).up ⟨by omega, by omega⟩)))
          · exact absurd c11 (by decide)
        · refine ex_iload_n rfl dX12_readExtra_63 ?_
          refine ex_bipush (v := (nI 60)) (by decide) dX12_readExtra_64 ?_
          refine ex_icmpN_ne (tgt := 73) (by decide) dX12_readExtra_66 (by omega) (by omega) (fun c17 => ?_) (fun c17 => ?_)
          · refine ex_iconst (v := (nI 0)) (by decide) dX12_readExtra_73 ?_
            refine ex_istore (by decide) rfl dX12_readExtra_74 ?_
            refine ex_aload_n rfl dX12_readExtra_76 ?_
            refine ex_get dX12_readExtra_77 gf_X12_27 hup_eq rfl ?_
            refine ex_iload_n rfl dX12_readExtra_80 ?_
            refine ex_iload_n rfl dX12_readExtra_81 ?_
            refine ex_iconst (v := (nI 5)) (by decide) dX12_readExtra_82 ?_
            refine ex_icmpN_ne (tgt := 93) (by decide) dX12_readExtra_83 (by omega) (by omega) (fun c18 => ?_) (fun c18 => ?_)
            · refine ex_iload_n rfl dX12_readExtra_93 ?_
              refine ex_bipush (v := (nI 62)) (by decide) dX12_readExtra_94 ?_
              refine ex_icmpN_ne (tgt := 103) (by decide) dX12_readExtra_96 (by omega) (by omega) (fun c19 => ?_) (fun c19 => ?_)
              · refine ex_iload_n rfl dX12_readExtra_103 ?_
                refine ex_bipush (v := (nI 61)) (by decide) dX12_readExtra_104 ?_
                refine ex_icmpN_ne (tgt := 113) (by decide) dX12_readExtra_106 (by omega) (by omega) (fun c20 => ?_) (fun c20 => ?_)
                · refine ex_iconst (v := (nI 2)) (by decide) dX12_readExtra_113 ?_
                  refine ex_iastN dX12_readExtra_114 (hup_ne (by omega) k5) (by omega) (by decide) ?_
                  refine ex_aload_n rfl dX12_readExtra_115 ?_
                  refine ex_iload rfl dX12_readExtra_116 ?_
                  refine ex_ifN_eq (tgt := 130) (by decide) dX12_readExtra_118 (by omega) (fun c21 => ?_) (fun c21 => ?_)
                  · refine ex_aload_n rfl dX12_readExtra_130 ?_
                    refine ex_get dX12_readExtra_131 gf_X12_84 (hup_ne (by omega) hup_eq) rfl ?_
                    refine ex_put dX12_readExtra_134 pf_X12_84 (hup_ne (by omega) hup_eq) (Nat.le_of_ble_eq_true rfl) rfl rfl ?_
                    refine ex_iload rfl dX12_readExtra_137 ?_
                    refine ex_zret dX12_readExtra_139 rfl rfl (by first | (exfalso; omega) | (exact rx_no (v := 2) (((hM.ob' (va_up (ms y) 4 (ms y 4 + 1)) (mpo y) (mfa y) rfl).st 5 a (2) (by decide) (by decide)).ob' (va_up (va_up (ms y) 4 (ms y 4 + 1)) 4 (ms y 4 + 1)) (mpo y) (mfa y) rfl) hB hkl hb (f11n hg (by omega)) (((Fr.rf.up ⟨by omega, by omega⟩).up ⟨by omega, by omega⟩).up ⟨by omega, by omega⟩)) | (exact rx_yes (v := 0) (((hM.ob' (va_up (ms y) 4 (ms y 4 + 1)) (mpo y) (mfa y) rfl).st 5 a (0) (by decide) (by decide)).ob' (va_up (va_up (ms y) 4 (ms y 4 + 1)) 4 (ms y 4 + 1 + 1)) (mpo y) (mfa y) rfl) hB hkl hb (f11y hg (by omega)) (((Fr.rf.up ⟨by omega, by omega⟩).up ⟨by omega, by omega⟩).up ⟨by omega, by omega⟩)) | (exact rx_yes (v := 1) (((hM.ob' (va_up (ms y) 4 (ms y 4 + 1)) (mpo y) (mfa y) rfl).st 5 a (1) (by decide) (by decide)).ob' (va_up (va_up (ms y) 4 (ms y 4 + 1)) 4 (ms y 4 + 1 + 1)) (mpo y) (mfa y) rfl) hB hkl hb (f11y hg (by omega)) (((Fr.rf.up ⟨by omega, by omega⟩).up ⟨by omega, by omega⟩).up ⟨by omega, by omega⟩)) | (exact rx_yes (v := 2) (((hM.ob' (va_up (ms y) 4 (ms y 4 + 1)) (mpo y) (mfa y) rfl).st 5 a (2) (by decide) (by decide)).ob' (va_up (va_up (ms y) 4 (ms y 4 + 1)) 4 (ms y 4 + 1 + 1)) (mpo y) (mfa y) rfl) hB hkl hb (f11y hg (by omega)) (((Fr.rf.up ⟨by omega, by omega⟩).up ⟨by omega, by omega⟩).up ⟨by omega, by omega⟩)))
                  · exact absurd c21 (by decide)
                · refine ex_iconst (v := (nI 1)) (by decide) dX12_readExtra_109 ?_
                  refine ex_goto (tgt := 114) (by decide) dX12_readExtra_110 ?_
                  refine ex_iastN dX12_readExtra_114 (hup_ne (by omega) k5) (by omega) (by decide) ?_
                  refine ex_aload_n rfl dX12_readExtra_115 ?_
                  refine ex_iload rfl dX12_readExtra_116 ?_
                  refine ex_ifN_eq (tgt := 130) (by decide) dX12_readExtra_118 (by omega) (fun c22 => ?_) (fun c22 => ?_)
                  · refine ex_aload_n rfl dX12_readExtra_130 ?_
                    refine ex_get dX12_readExtra_131 gf_X12_84 (hup_ne (by omega) hup_eq) rfl ?_
                    refine ex_put dX12_readExtra_134 pf_X12_84 (hup_ne (by omega) hup_eq) (Nat.le_of_ble_eq_true rfl) rfl rfl ?_
                    refine ex_iload rfl dX12_readExtra_137 ?_
                    refine ex_zret dX12_readExtra_139 rfl rfl (by first | (exfalso; omega) | (exact rx_no (v := 2) (((hM.ob' (va_up (ms y) 4 (ms y 4 + 1)) (mpo y) (mfa y) rfl).st 5 a (2) (by decide) (by decide)).ob' (va_up (va_up (ms y) 4 (ms y 4 + 1)) 4 (ms y 4 + 1)) (mpo y) (mfa y) rfl) hB hkl hb (f11n hg (by omega)) (((Fr.rf.up ⟨by omega, by omega⟩).up ⟨by omega, by omega⟩).up ⟨by omega, by omega⟩)) | (exact rx_yes (v := 0) (((hM.ob' (va_up (ms y) 4 (ms y 4 + 1)) (mpo y) (mfa y) rfl).st 5 a (0) (by decide) (by decide)).ob' (va_up (va_up (ms y) 4 (ms y 4 + 1)) 4 (ms y 4 + 1 + 1)) (mpo y) (mfa y) rfl) hB hkl hb (f11y hg (by omega)) (((Fr.rf.up ⟨by omega, by omega⟩).up ⟨by omega, by omega⟩).up ⟨by omega, by omega⟩)) | (exact rx_yes (v := 1) (((hM.ob' (va_up (ms y) 4 (ms y 4 + 1)) (mpo y) (mfa y) rfl).st 5 a (1) (by decide) (by decide)).ob' (va_up (va_up (ms y) 4 (ms y 4 + 1)) 4 (ms y 4 + 1 + 1)) (mpo y) (mfa y) rfl) hB hkl hb (f11y hg (by omega)) (((Fr.rf.up ⟨by omega, by omega⟩).up ⟨by omega, by omega⟩).up ⟨by omega, by omega⟩)) | (exact rx_yes (v := 2) (((hM.ob' (va_up (ms y) 4 (ms y 4 + 1)) (mpo y) (mfa y) rfl).st 5 a (2) (by decide) (by decide)).ob' (va_up (va_up (ms y) 4 (ms y 4 + 1)) 4 (ms y 4 + 1 + 1)) (mpo y) (mfa y) rfl) hB hkl hb (f11y hg (by omega)) (((Fr.rf.up ⟨by omega, by omega⟩).up ⟨by omega, by omega⟩).up ⟨by omega, by omega⟩)))
                  · exact absurd c22 (by decide)
              · refine ex_iconst (v := (nI 0)) (by decide) dX12_readExtra_99 ?_
                refine ex_goto (tgt := 114) (by decide) dX12_readExtra_100 ?_
                refine ex_iastN dX12_readExtra_114 (hup_ne (by omega) k5) (by omega) (by decide) ?_
                refine ex_aload_n rfl dX12_readExtra_115 ?_
                refine ex_iload rfl dX12_readExtra_116 ?_
                refine ex_ifN_eq (tgt := 130) (by decide) dX12_readExtra_118 (by omega) (fun c23 => ?_) (fun c23 => ?_)
                · refine ex_aload_n rfl dX12_readExtra_130 ?_
                  refine ex_get dX12_readExtra_131 gf_X12_84 (hup_ne (by omega) hup_eq) rfl ?_
                  refine ex_put dX12_readExtra_134 pf_X12_84 (hup_ne (by omega) hup_eq) (Nat.le_of_ble_eq_true rfl) rfl rfl ?_
                  refine ex_iload rfl dX12_readExtra_137 ?_
                  refine ex_zret dX12_readExtra_139 rfl rfl (by first | (exfalso; omega) | (exact rx_no (v := 2) (((hM.ob' (va_up (ms y) 4 (ms y 4 + 1)) (mpo y) (mfa y) rfl).st 5 a (2) (by decide) (by decide)).ob' (va_up (va_up (ms y) 4 (ms y 4 + 1)) 4 (ms y 4 + 1)) (mpo y) (mfa y) rfl) hB hkl hb (f11n hg (by omega)) (((Fr.rf.up ⟨by omega, by omega⟩).up ⟨by omega, by omega⟩).up ⟨by omega, by omega⟩)) | (exact rx_yes (v := 0) (((hM.ob' (va_up (ms y) 4 (ms y 4 + 1)) (mpo y) (mfa y) rfl).st 5 a (0) (by decide) (by decide)).ob' (va_up (va_up (ms y) 4 (ms y 4 + 1)) 4 (ms y 4 + 1 + 1)) (mpo y) (mfa y) rfl) hB hkl hb (f11y hg (by omega)) (((Fr.rf.up ⟨by omega, by omega⟩).up ⟨by omega, by omega⟩).up ⟨by omega, by omega⟩)) | (exact rx_yes (v := 1) (((hM.ob' (va_up (ms y) 4 (ms y 4 + 1)) (mpo y) (mfa y) rfl).st 5 a (1) (by decide) (by decide)).ob' (va_up (va_up (ms y) 4 (ms y 4 + 1)) 4 (ms y 4 + 1 + 1)) (mpo y) (mfa y) rfl) hB hkl hb (f11y hg (by omega)) (((Fr.rf.up ⟨by omega, by omega⟩).up ⟨by omega, by omega⟩).up ⟨by omega, by omega⟩)) | (exact rx_yes (v := 2) (((hM.ob' (va_up (ms y) 4 (ms y 4 + 1)) (mpo y) (mfa y) rfl).st 5 a (2) (by decide) (by decide)).ob' (va_up (va_up (ms y) 4 (ms y 4 + 1)) 4 (ms y 4 + 1 + 1)) (mpo y) (mfa y) rfl) hB hkl hb (f11y hg (by omega)) (((Fr.rf.up ⟨by omega, by omega⟩).up ⟨by omega, by omega⟩).up ⟨by omega, by omega⟩)))
                · exact absurd c23 (by decide)
            · exact absurd c18 (by decide)
          · refine ex_iconst (v := (nI 1)) (by decide) dX12_readExtra_69 ?_
            refine ex_goto (tgt := 74) (by decide) dX12_readExtra_70 ?_
            refine ex_istore (by decide) rfl dX12_readExtra_74 ?_
            refine ex_aload_n rfl dX12_readExtra_76 ?_
            refine ex_get dX12_readExtra_77 gf_X12_27 hup_eq rfl ?_
            refine ex_iload_n rfl dX12_readExtra_80 ?_
            refine ex_iload_n rfl dX12_readExtra_81 ?_
            refine ex_iconst (v := (nI 5)) (by decide) dX12_readExtra_82 ?_
            refine ex_icmpN_ne (tgt := 93) (by decide) dX12_readExtra_83 (by omega) (by omega) (fun c24 => ?_) (fun c24 => ?_)
            · refine ex_iload_n rfl dX12_readExtra_93 ?_
              refine ex_bipush (v := (nI 62)) (by decide) dX12_readExtra_94 ?_
              refine ex_icmpN_ne (tgt := 103) (by decide) dX12_readExtra_96 (by omega) (by omega) (fun c25 => ?_) (fun c25 => ?_)
              · refine ex_iload_n rfl dX12_readExtra_103 ?_
                refine ex_bipush (v := (nI 61)) (by decide) dX12_readExtra_104 ?_
                refine ex_icmpN_ne (tgt := 113) (by decide) dX12_readExtra_106 (by omega) (by omega) (fun c26 => ?_) (fun c26 => ?_)
                · refine ex_iconst (v := (nI 2)) (by decide) dX12_readExtra_113 ?_
                  refine ex_iastN dX12_readExtra_114 (hup_ne (by omega) k5) (by omega) (by decide) ?_
                  refine ex_aload_n rfl dX12_readExtra_115 ?_
                  refine ex_iload rfl dX12_readExtra_116 ?_
                  refine ex_ifN_eq (tgt := 130) (by decide) dX12_readExtra_118 (by omega) (fun c27 => ?_) (fun c27 => ?_)
                  · exact absurd c27 (by decide)
                  · refine ex_aload_n rfl dX12_readExtra_121 ?_
                    refine ex_get dX12_readExtra_122 gf_X12_84 (hup_ne (by omega) hup_eq) rfl ?_
                    refine ex_iconst (v := (nI 1)) (by decide) dX12_readExtra_125 ?_
                    refine ex_iaddN dX12_readExtra_126 ?_
                    refine ex_goto (tgt := 134) (by decide) dX12_readExtra_127 ?_
                    refine ex_put dX12_readExtra_134 pf_X12_84 (hup_ne (by omega) hup_eq) (Nat.le_of_ble_eq_true rfl) rfl rfl ?_
                    refine ex_iload rfl dX12_readExtra_137 ?_
                    refine ex_zret dX12_readExtra_139 rfl rfl (by first | (exfalso; omega) | (exact rx_no (v := 2) (((hM.ob' (va_up (ms y) 4 (ms y 4 + 1)) (mpo y) (mfa y) rfl).st 5 a (2) (by decide) (by decide)).ob' (va_up (va_up (ms y) 4 (ms y 4 + 1)) 4 (ms y 4 + 1)) (mpo y) (mfa y) rfl) hB hkl hb (f11n hg (by omega)) (((Fr.rf.up ⟨by omega, by omega⟩).up ⟨by omega, by omega⟩).up ⟨by omega, by omega⟩)) | (exact rx_yes (v := 0) (((hM.ob' (va_up (ms y) 4 (ms y 4 + 1)) (mpo y) (mfa y) rfl).st 5 a (0) (by decide) (by decide)).ob' (va_up (va_up (ms y) 4 (ms y 4 + 1)) 4 (ms y 4 + 1 + 1)) (mpo y) (mfa y) rfl) hB hkl hb (f11y hg (by omega)) (((Fr.rf.up ⟨by omega, by omega⟩).up ⟨by omega, by omega⟩).up ⟨by omega, by omega⟩)) | (exact rx_yes (v := 1) (((hM.ob' (va_up (ms y) 4 (ms y 4 + 1)) (mpo y) (mfa y) rfl).st 5 a (1) (by decide) (by decide)).ob' (va_up (va_up (ms y) 4 (ms y 4 + 1)) 4 (ms y 4 + 1 + 1)) (mpo y) (mfa y) rfl) hB hkl hb (f11y hg (by omega)) (((Fr.rf.up ⟨by omega, by omega⟩).up ⟨by omega, by omega⟩).up ⟨by omega, by omega⟩)) | (exact rx_yes (v := 2) (((hM.ob' (va_up (ms y) 4 (ms y 4 + 1)) (mpo y) (mfa y) rfl).st 5 a (2) (by decide) (by decide)).ob' (va_up (va_up (ms y) 4 (ms y 4 + 1)) 4 (ms y 4 + 1 + 1)) (mpo y) (mfa y) rfl) hB hkl hb (f11y hg (by omega)) (((Fr.rf.up ⟨by omega, by omega⟩).up ⟨by omega, by omega⟩).up ⟨by omega, by omega⟩)))
                · refine ex_iconst (v := (nI 1)) (by decide) dX12_readExtra_109 ?_
                  refine ex_goto (tgt := 114) (by decide) dX12_readExtra_110 ?_
                  refine ex_iastN dX12_readExtra_114 (hup_ne (by omega) k5) (by omega) (by decide) ?_
                  refine ex_aload_n rfl dX12_readExtra_115 ?_
                  refine ex_iload rfl dX12_readExtra_116 ?_
                  refine ex_ifN_eq (tgt := 130) (by decide) dX12_readExtra_118 (by omega) (fun c28 => ?_) (fun c28 => ?_)
                  · exact absurd c28 (by decide)
                  · refine ex_aload_n rfl dX12_readExtra_121 ?_
                    refine ex_get dX12_readExtra_122 gf_X12_84 (hup_ne (by omega) hup_eq) rfl ?_
                    refine ex_iconst (v := (nI 1)) (by decide) dX12_readExtra_125 ?_
                    refine ex_iaddN dX12_readExtra_126 ?_
                    refine ex_goto (tgt := 134) (by decide) dX12_readExtra_127 ?_
                    refine ex_put dX12_readExtra_134 pf_X12_84 (hup_ne (by omega) hup_eq) (Nat.le_of_ble_eq_true rfl) rfl rfl ?_
                    refine ex_iload rfl dX12_readExtra_137 ?_
                    refine ex_zret dX12_readExtra_139 rfl rfl (by first | (exfalso; omega) | (exact rx_no (v := 2) (((hM.ob' (va_up (ms y) 4 (ms y 4 + 1)) (mpo y) (mfa y) rfl).st 5 a (2) (by decide) (by decide)).ob' (va_up (va_up (ms y) 4 (ms y 4 + 1)) 4 (ms y 4 + 1)) (mpo y) (mfa y) rfl) hB hkl hb (f11n hg (by omega)) (((Fr.rf.up ⟨by omega, by omega⟩).up ⟨by omega, by omega⟩).up ⟨by omega, by omega⟩)) | (exact rx_yes (v := 0) (((hM.ob' (va_up (ms y) 4 (ms y 4 + 1)) (mpo y) (mfa y) rfl).st 5 a (0) (by decide) (by decide)).ob' (va_up (va_up (ms y) 4 (ms y 4 + 1)) 4 (ms y 4 + 1 + 1)) (mpo y) (mfa y) rfl) hB hkl hb (f11y hg (by omega)) (((Fr.rf.up ⟨by omega, by omega⟩).up ⟨by omega, by omega⟩).up ⟨by omega, by omega⟩)) | (exact rx_yes (v := 1) (((hM.ob' (va_up (ms y) 4 (ms y 4 + 1)) (mpo y) (mfa y) rfl).st 5 a (1) (by decide) (by decide)).ob' (va_up (va_up (ms y) 4 (ms y 4 + 1)) 4 (ms y 4 + 1 + 1)) (mpo y) (mfa y) rfl) hB hkl hb (f11y hg (by omega)) (((Fr.rf.up ⟨by omega, by omega⟩).up ⟨by omega, by omega⟩).up ⟨by omega, by omega⟩)) | (exact rx_yes (v := 2) (((hM.ob' (va_up (ms y) 4 (ms y 4 + 1)) (mpo y) (mfa y) rfl).st 5 a (2) (by decide) (by decide)).ob' (va_up (va_up (ms y) 4 (ms y 4 + 1)) 4 (ms y 4 + 1 + 1)) (mpo y) (mfa y) rfl) hB hkl hb (f11y hg (by omega)) (((Fr.rf.up ⟨by omega, by omega⟩).up ⟨by omega, by omega⟩).up ⟨by omega, by omega⟩)))
              · refine ex_iconst (v := (nI 0)) (by decide) dX12_readExtra_99 ?_
                refine ex_goto (tgt := 114) (by decide) dX12_readExtra_100 ?_
                refine ex_iastN dX12_readExtra_114 (hup_ne (by omega) k5) (by omega) (by decide) ?_
                refine ex_aload_n rfl dX12_readExtra_115 ?_
                refine ex_iload rfl dX12_readExtra_116 ?_
                refine ex_ifN_eq (tgt := 130) (by decide) dX12_readExtra_118 (by omega) (fun c29 => ?_) (fun c29 => ?_)
                · exact absurd c29 (by decide)
                · refine ex_aload_n rfl dX12_readExtra_121 ?_
                  refine ex_get dX12_readExtra_122 gf_X12_84 (hup_ne (by omega) hup_eq) rfl ?_
                  refine ex_iconst (v := (nI 1)) (by decide) dX12_readExtra_125 ?_
                  refine ex_iaddN dX12_readExtra_126 ?_
                  refine ex_goto (tgt := 134) (by decide) dX12_readExtra_127 ?_
                  refine ex_put dX12_readExtra_134 pf_X12_84 (hup_ne (by omega) hup_eq) (Nat.le_of_ble_eq_true rfl) rfl rfl ?_
                  refine ex_iload rfl dX12_readExtra_137 ?_
                  refine ex_zret dX12_readExtra_139 rfl rfl (by first | (exfalso; omega) | (exact rx_no (v := 2) (((hM.ob' (va_up (ms y) 4 (ms y 4 + 1)) (mpo y) (mfa y) rfl).st 5 a (2) (by decide) (by decide)).ob' (va_up (va_up (ms y) 4 (ms y 4 + 1)) 4 (ms y 4 + 1)) (mpo y) (mfa y) rfl) hB hkl hb (f11n hg (by omega)) (((Fr.rf.up ⟨by omega, by omega⟩).up ⟨by omega, by omega⟩).up ⟨by omega, by omega⟩)) | (exact rx_yes (v := 0) (((hM.ob' (va_up (ms y) 4 (ms y 4 + 1)) (mpo y) (mfa y) rfl).st 5 a (0) (by decide) (by decide)).ob' (va_up (va_up (ms y) 4 (ms y 4 + 1)) 4 (ms y 4 + 1 + 1)) (mpo y) (mfa y) rfl) hB hkl hb (f11y hg (by omega)) (((Fr.rf.up ⟨by omega, by omega⟩).up ⟨by omega, by omega⟩).up ⟨by omega, by omega⟩)) | (exact rx_yes (v := 1) (((hM.ob' (va_up (ms y) 4 (ms y 4 + 1)) (mpo y) (mfa y) rfl).st 5 a (1) (by decide) (by decide)).ob' (va_up (va_up (ms y) 4 (ms y 4 + 1)) 4 (ms y 4 + 1 + 1)) (mpo y) (mfa y) rfl) hB hkl hb (f11y hg (by omega)) (((Fr.rf.up ⟨by omega, by omega⟩).up ⟨by omega, by omega⟩).up ⟨by omega, by omega⟩)) | (exact rx_yes (v := 2) (((hM.ob' (va_up (ms y) 4 (ms y 4 + 1)) (mpo y) (mfa y) rfl).st 5 a (2) (by decide) (by decide)).ob' (va_up (va_up (ms y) 4 (ms y 4 + 1)) 4 (ms y 4 + 1 + 1)) (mpo y) (mfa y) rfl) hB hkl hb (f11y hg (by omega)) (((Fr.rf.up ⟨by omega, by omega⟩).up ⟨by omega, by omega⟩).up ⟨by omega, by omega⟩)))
            · exact absurd c24 (by decide)
    · exact absurd c2 (by decide)
  · refine ex_iconst (v := (nI 0)) (by decide) dX12_readExtra_9 ?_
    refine ex_zret dX12_readExtra_10 rfl rfl (rx_b hM hB hkl (fun z => c1 (hbi.mp z)))
