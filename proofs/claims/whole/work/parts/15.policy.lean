/-! POLICY (PolicyDesk$Policy), and PolicyDesk.cellOf, hasBit; Arrays.fill (nx_and, nx_xor, s_l are pasted from the kit's BITS.to-paste) -/
theorem s_l : ∀ n, n < 32 → ((nI n &&& 31).toBitVec.smod 32).toNat = n := by decide +kernel
theorem nx_and (a b : Nat) : nI a &&& nI b = nI (a &&& b) := by
  apply Int32.toBitVec_inj.1
  show BitVec.ofNat 32 a &&& BitVec.ofNat 32 b = BitVec.ofNat 32 (a &&& b)
  apply BitVec.eq_of_getLsbD_eq
  intro i hi
  simp [hi]
theorem nx_xor (a b : Nat) : nI a ^^^ nI b = nI (a ^^^ b) := by
  apply Int32.toBitVec_inj.1
  show BitVec.ofNat 32 a ^^^ BitVec.ofNat 32 b = BitVec.ofNat 32 (a ^^^ b)
  apply BitVec.eq_of_getLsbD_eq
  intro i hi
  simp [hi]
theorem nx_or (a b : Nat) : nI a ||| nI b = nI (a ||| b) := by
  apply Int32.toBitVec_inj.mp
  rw [Int32.toBitVec_or]
  show BitVec.ofNat 32 a ||| BitVec.ofNat 32 b = BitVec.ofNat 32 (a ||| b)
  exact (BitVec.ofNat_or).symm
theorem shr_N {m b : Nat} (hm : m < 2 ^ 31) (hb : b < 32) : nI m >>> (nI b &&& 31) = nI (m / 2 ^ b) := pk_shrN hm _ b (s_l b hb)
theorem and1_N {m : Nat} (hm : m < 2 ^ 32) : nI m &&& nI 1 = nI (m % 2) := pk_andN hm 1 (by decide)
theorem shl_1 {b : Nat} (hb : b < 31) : nI 1 <<< (nI b &&& 31) = nI (2 ^ b) := by
  have := pk_shlN (n := 1) (nI b &&& 31) b (s_l b (by omega)) (by have : 2 ^ b < 2 ^ 31 := Nat.pow_lt_pow_right (by decide) hb; omega)
  rw [this, Nat.one_mul]
/-- m without the bits of f -/
def andn (m f : Nat) : Nat := (BitVec.ofNat 32 m &&& ~~~ BitVec.ofNat 32 f).toNat
theorem nx_andn (m f : Nat) : nI m &&& (nI f ^^^ (-1)) = nI (andn m f) := by
  apply Int32.toBitVec_inj.mp
  show BitVec.ofNat 32 m &&& (BitVec.ofNat 32 f ^^^ (-1 : Int32).toBitVec) = BitVec.ofNat 32 (andn m f)
  unfold andn
  rw [BitVec.ofNat_toNat, BitVec.setWidth_eq]
  congr 1
  show BitVec.ofNat 32 f ^^^ BitVec.allOnes 32 = _
  rw [BitVec.xor_allOnes]
theorem andn_lt {m f : Nat} (h : m < 2 ^ 30) : andn m f < 2 ^ 30 := by
  unfold andn
  rw [BitVec.toNat_and]
  refine Nat.lt_of_le_of_lt Nat.and_le_left ?_
  rw [BitVec.toNat_ofNat]
  exact Nat.lt_of_le_of_lt (Nat.mod_le _ _) h
theorem andn_andn (m a b : Nat) : andn (andn m a) b = andn m (a ||| b) := by
  unfold andn
  rw [BitVec.ofNat_toNat, BitVec.setWidth_eq, BitVec.ofNat_or, BitVec.not_or, BitVec.and_assoc]
theorem or_lt {a b n : Nat} (ha : a < 2 ^ n) (hb : b < 2 ^ n) : a ||| b < 2 ^ n := Nat.or_lt_two_pow ha hb
theorem and_lt {a b n : Nat} (ha : a < 2 ^ n) : a &&& b < 2 ^ n := Nat.lt_of_le_of_lt Nat.and_le_left ha
set_option maxHeartbeats 4000000 in
set_option maxRecDepth 100000 in
theorem s_cellOf {G : EG} {l : Launch} (h : EH) (s t c : Nat) : ES G l 0 mX11_cellOf [.int (nI s), .int (nI t), .int (nI c)] h 0 0 (fun v h' => v = some (.int (nI ((c * 8 + s) * 8 + t))) ∧ h' = h) eNoX := by
  refine es_of (by decide) rfl (Nat.le_of_ble_eq_true rfl) ?_
  refine ex_iload_n rfl dX11_cellOf_0 ?_
  refine ex_bipush (v := (nI 8)) (by decide) dX11_cellOf_1 ?_
  refine ex_imulN dX11_cellOf_3 ?_
  refine ex_iload_n rfl dX11_cellOf_4 ?_
  refine ex_iaddN dX11_cellOf_5 ?_
  refine ex_bipush (v := (nI 8)) (by decide) dX11_cellOf_6 ?_
  refine ex_imulN dX11_cellOf_8 ?_
  refine ex_iload_n rfl dX11_cellOf_9 ?_
  refine ex_iaddN dX11_cellOf_10 ?_
  refine ex_iret dX11_cellOf_11 rfl ⟨rfl, rfl⟩
set_option maxHeartbeats 4000000 in
set_option maxRecDepth 100000 in
theorem s_hasBit {G : EG} {l : Launch} (h : EH) {m b : Nat} (hm : m < 2 ^ 31) (hb : b < 32) : ES G l 0 mX11_hasBit [.int (nI m), .int (nI b)] h 0 0 (fun v h' => v = some (.int (b2i (m.testBit b))) ∧ h' = h) eNoX := by
  have hdm : m / 2 ^ b < 2 ^ 31 := Nat.lt_of_le_of_lt (Nat.div_le_self _ _) hm
  refine es_of (by decide) rfl (Nat.le_of_ble_eq_true rfl) ?_
  refine ex_iload_n rfl dX11_hasBit_0 ?_
  refine ex_iload_n rfl dX11_hasBit_1 ?_
  refine ex_ishr dX11_hasBit_2 ?_
  rw [shr_N hm hb]
  refine ex_iconst (v := (nI 1)) (by decide) dX11_hasBit_3 ?_
  refine ex_iand dX11_hasBit_4 ?_
  rw [and1_N (by omega)]
  refine ex_ifN_eq (tgt := 12) (by decide) dX11_hasBit_5 (by omega) (fun c1 => ?_) (fun c1 => ?_)
  · refine ex_iconst (v := (nI 0)) (by decide) dX11_hasBit_12 ?_
    refine ex_zret dX11_hasBit_13 rfl rfl ⟨by rw [Nat.testBit_eq_decide_div_mod_eq, decide_eq_false (by omega)]; rfl, rfl⟩
  · refine ex_iconst (v := (nI 1)) (by decide) dX11_hasBit_8 ?_
    refine ex_goto (tgt := 13) (by decide) dX11_hasBit_9 ?_
    refine ex_zret dX11_hasBit_13 rfl rfl ⟨by rw [Nat.testBit_eq_decide_div_mod_eq, decide_eq_true (by omega)]; rfl, rfl⟩
/-- the first N places 0 -/
def clr (N : Nat) (f : Nat → Nat) : Nat → Nat := fun j => if j < N then 0 else f j
def clk (k : Nat) (f : Nat → Nat) : Nat → Nat := fun j => if j < k then 0 else f j
theorem clk_1 (k : Nat) (f : Nat → Nat) : va_up (clk k f) k 0 = clk (k + 1) f := by
  funext j
  unfold va_up clk
  by_cases h : j = k
  · rw [if_pos h, if_pos (by omega)]
  · rw [if_neg h]
    by_cases h2 : j < k
    · rw [if_pos h2, if_pos (by omega)]
    · rw [if_neg h2, if_neg (by omega)]
theorem clk_0 (f : Nat → Nat) : clk 0 f = f := funext fun j => if_neg (by omega)
set_option maxHeartbeats 4000000 in
set_option maxRecDepth 100000 in
theorem l_fill {G : EG} {l : Launch} {h0 : EH} {a N : Nat} {g : Nat → Nat} (hN : N < 2 ^ 30) : ∀ (f k : Nat), N - k < f → k ≤ N → ∀ h : EH, h.2 a = some (.inl (eA G 0, N, .inl (fun j => nI (clk k g j)))) → Fr (fun q => q = a) h0 h → Ex G l 0 mJ7_fill_53178 (fun v h' => v = none ∧ h'.2 a = some (.inl (eA G 0, N, .inl (fun j => nI (clr N g j)))) ∧ Fr (fun q => q = a) h0 h') eNoX 0 0 5 [(0, .ref a), (1, .int (nI 0)), (2, .int (nI k)), (3, .int (nI N))] [] h := by
  intro f
  induction f with
  | zero =>
    intro k h1 h2 h hA hF
    omega
  | succ f ih =>
    intro k h1 h2 h hA hF
    refine ex_iload_n rfl dJ7_fill_53178_5 ?_
    refine ex_iload_n rfl dJ7_fill_53178_6 ?_
    refine ex_icmpN_ge (tgt := 20) (by decide) dJ7_fill_53178_7 (by omega) (by omega) (fun c1 => ?_) (fun c1 => ?_)
    · refine ex_vret dJ7_fill_53178_20 rfl ⟨rfl, by rw [show k = N by omega] at hA; exact hA, hF⟩
    · refine ex_aload_n rfl dJ7_fill_53178_10 ?_
      refine ex_iload_n rfl dJ7_fill_53178_11 ?_
      refine ex_iload_n rfl dJ7_fill_53178_12 ?_
      refine ex_iastN dJ7_fill_53178_13 hA (by omega) (by omega) ?_
      refine ex_iincN (z := 1) rfl (by decide) rfl dJ7_fill_53178_14 ?_
      refine ex_goto (tgt := 5) (by decide) dJ7_fill_53178_17 ?_
      exact ih (k + 1) (by omega) (by omega) _ (by rw [← clk_1 k g, ← upd_nI]; exact hup_eq) (hF.up rfl)
set_option maxHeartbeats 4000000 in
set_option maxRecDepth 100000 in
theorem s_fill {G : EG} {l : Launch} {h : EH} {a N : Nat} {g : Nat → Nat} (hN : N < 2 ^ 30) (hA : h.2 a = some (.inl (eA G 0, N, .inl (fun j => nI (g j))))) : ES G l 0 mJ7_fill_53178 [.ref a, .int (nI 0)] h 0 0 (fun v h' => v = none ∧ h'.2 a = some (.inl (eA G 0, N, .inl (fun j => nI (clr N g j)))) ∧ Fr (fun q => q = a) h h') eNoX := by
  refine es_of (by decide) rfl (Nat.le_of_ble_eq_true rfl) ?_
  refine ex_iconst (v := (nI 0)) (by decide) dJ7_fill_53178_0 ?_
  refine ex_istore_n (by decide) rfl dJ7_fill_53178_1 ?_
  refine ex_aload_n rfl dJ7_fill_53178_2 ?_
  refine ex_alen dJ7_fill_53178_3 hA rfl (v := nI N) rfl ?_
  refine ex_istore_n (by decide) rfl dJ7_fill_53178_4 ?_
  exact l_fill hN (N + 1) 0 (by omega) (by omega) h (by rw [clk_0]; exact hA) Fr.rf
/-- types, classes, permissions, ranks, allowed, products, masks -/
abbrev Pol : Type := Nat × Nat × (Nat → Nat) × (Nat → Nat) × (Nat → Nat) × (Nat → Nat) × (Nat → Nat)
abbrev pT (p : Pol) : Nat := p.1
abbrev pC (p : Pol) : Nat := p.2.1
abbrev pPm (p : Pol) : Nat → Nat := p.2.2.1
abbrev pRk (p : Pol) : Nat → Nat := p.2.2.2.1
abbrev pAl (p : Pol) : Nat → Nat := p.2.2.2.2.1
abbrev pPr (p : Pol) : Nat → Nat := p.2.2.2.2.2.1
abbrev pMs (p : Pol) : Nat → Nat := p.2.2.2.2.2.2
def pB (p : Pol) : Prop := pT p ≤ 8 ∧ pC p ≤ 3 ∧ ∀ j, pPm p j < 2 ^ 30 ∧ pRk p j < 2 ^ 30 ∧ pAl p j < 2 ^ 30 ∧ pPr p j < 2 ^ 30 ∧ pMs p j < 2 ^ 30
abbrev aI (G : EG) (N : Nat) (f : Nat → Nat) : va_E := .inl (eA G 0, N, .inl (fun j => nI (f j)))
def PL (G : EG) (h : EH) (a : Nat) (p : Pol) : Prop := h.2 a = some (.inr (3, [.ref (a + 1), .ref (a + 2), .ref (a + 3), .ref (a + 4), .ref (a + 5), .int (nI (pT p)), .int (nI (pC p))])) ∧ h.2 (a + 1) = some (aI G 3 (pPm p)) ∧ h.2 (a + 2) = some (aI G 8 (pRk p)) ∧ h.2 (a + 3) = some (aI G 192 (pAl p)) ∧ h.2 (a + 4) = some (aI G 192 (pPr p)) ∧ h.2 (a + 5) = some (aI G 15 (pMs p)) ∧ pB p
abbrev atP (a : Nat) : Nat → Prop := fun q => a ≤ q ∧ q ≤ a + 5
theorem PL.fr {G : EG} {h h' : EH} {a : Nat} {p : Pol} {P : Nat → Prop} (x : PL G h a p) (w : Fr P h h') (ha : ∀ q, atP a q → ¬ P q) : PL G h' a p :=
  ⟨w.get (ha _ ⟨by omega, by omega⟩) x.1, w.get (ha _ ⟨by omega, by omega⟩) x.2.1, w.get (ha _ ⟨by omega, by omega⟩) x.2.2.1, w.get (ha _ ⟨by omega, by omega⟩) x.2.2.2.1, w.get (ha _ ⟨by omega, by omega⟩) x.2.2.2.2.1, w.get (ha _ ⟨by omega, by omega⟩) x.2.2.2.2.2.1, x.2.2.2.2.2.2⟩
/-- an int that is one of the first n numbers -/
def inR (x : Int32) (n : Nat) : Prop := ¬ x < 0 ∧ ¬ nI n ≤ x
theorem inR.out {x : Int32} {n : Nat} (h : inR x n) (hn : n < 2 ^ 31) : ∃ j, j < n ∧ x = nI j := vp_in_of (vp_of h.1 h.2 (Nat.le_refl _) hn) hn
theorem inR_nI {j n : Nat} (hj : j < 2 ^ 31) (hn : n < 2 ^ 31) : inR (nI j) n ↔ j < n := by
  unfold inR
  constructor
  · intro h
    exact Nat.lt_of_not_le (fun q => h.2 ((nI_leI hn hj).mpr q))
  · intro h
    exact ⟨nI_pos hj, fun q => by have := (nI_leI hn hj).mp q; omega⟩
def cel (s t c : Nat) : Nat := (c * 8 + s) * 8 + t
set_option maxHeartbeats 4000000 in
set_option maxRecDepth 100000 in
theorem s_ptypes {G : EG} {l : Launch} {h : EH} {a : Nat} {p : Pol} (hP : PL G h a p) : ES G l 0 mX7_types [.ref a] h 0 0 (fun v h' => v = some (.int (nI (pT p))) ∧ h' = h) eNoX := by
  refine es_of (by decide) rfl (Nat.le_of_ble_eq_true rfl) ?_
  refine ex_aload_n rfl dX7_types_0 ?_
  refine ex_get dX7_types_1 gf_X7_27 hP.1 rfl ?_
  refine ex_iret dX7_types_4 rfl ⟨rfl, rfl⟩
set_option maxHeartbeats 4000000 in
set_option maxRecDepth 100000 in
theorem s_pclasses {G : EG} {l : Launch} {h : EH} {a : Nat} {p : Pol} (hP : PL G h a p) : ES G l 0 mX7_classes [.ref a] h 0 0 (fun v h' => v = some (.int (nI (pC p))) ∧ h' = h) eNoX := by
  refine es_of (by decide) rfl (Nat.le_of_ble_eq_true rfl) ?_
  refine ex_aload_n rfl dX7_classes_0 ?_
  refine ex_get dX7_classes_1 gf_X7_31 hP.1 rfl ?_
  refine ex_iret dX7_classes_4 rfl ⟨rfl, rfl⟩
set_option maxHeartbeats 4000000 in
set_option maxRecDepth 100000 in
theorem s_hasType {G : EG} {l : Launch} {h : EH} {a : Nat} {p : Pol} (hP : PL G h a p) (t : Int32) {B : Bool} (hB : B = true ↔ inR t (pT p)) : ES G l 0 mX7_hasType [.ref a, .int t] h 0 0 (fun v h' => v = some (.int (b2i B)) ∧ h' = h) eNoX := by
  refine es_of (by decide) rfl (Nat.le_of_ble_eq_true rfl) ?_
  refine ex_iload_n rfl dX7_hasType_0 ?_
  refine ex_if_lt (tgt := 16) (by decide) dX7_hasType_1 (fun c1 => ?_) (fun c1 => ?_)
  · refine ex_iconst (v := (nI 0)) (by decide) dX7_hasType_16 ?_
    refine ex_zret dX7_hasType_17 rfl rfl ⟨by cases B with | false => rfl | true => exact absurd c1 (hB.mp rfl).1, rfl⟩
  · refine ex_iload_n rfl dX7_hasType_4 ?_
    refine ex_aload_n rfl dX7_hasType_5 ?_
    refine ex_get dX7_hasType_6 gf_X7_27 hP.1 rfl ?_
    refine ex_icmp_ge (tgt := 16) (by decide) dX7_hasType_9 (fun c2 => ?_) (fun c2 => ?_)
    · refine ex_iconst (v := (nI 0)) (by decide) dX7_hasType_16 ?_
      refine ex_zret dX7_hasType_17 rfl rfl ⟨by cases B with | false => rfl | true => exact absurd c2 (hB.mp rfl).2, rfl⟩
    · refine ex_iconst (v := (nI 1)) (by decide) dX7_hasType_12 ?_
      refine ex_goto (tgt := 17) (by decide) dX7_hasType_13 ?_
      refine ex_zret dX7_hasType_17 rfl rfl ⟨by rw [hB.mpr ⟨c1, c2⟩]; rfl, rfl⟩
set_option maxHeartbeats 4000000 in
set_option maxRecDepth 100000 in
theorem s_has {G : EG} {l : Launch} {h : EH} {a : Nat} {p : Pol} (hP : PL G h a p) (s t c : Int32) {B : Bool} (hB : B = true ↔ inR s (pT p) ∧ inR t (pT p) ∧ inR c (pC p)) : ES G l 0 mX7_has [.ref a, .int s, .int t, .int c] h 0 0 (fun v h' => v = some (.int (b2i B)) ∧ h' = h) eNoX := by
  refine es_of (by decide) rfl (Nat.le_of_ble_eq_true rfl) ?_
  refine ex_iload_n rfl dX7_has_0 ?_
  refine ex_if_lt (tgt := 40) (by decide) dX7_has_1 (fun c1 => ?_) (fun c1 => ?_)
  · refine ex_iconst (v := (nI 0)) (by decide) dX7_has_40 ?_
    refine ex_zret dX7_has_41 rfl rfl ⟨by cases B with | false => rfl | true => exact absurd c1 (hB.mp rfl).1.1, rfl⟩
  · refine ex_iload_n rfl dX7_has_4 ?_
    refine ex_aload_n rfl dX7_has_5 ?_
    refine ex_get dX7_has_6 gf_X7_27 hP.1 rfl ?_
    refine ex_icmp_ge (tgt := 40) (by decide) dX7_has_9 (fun c2 => ?_) (fun c2 => ?_)
    · refine ex_iconst (v := (nI 0)) (by decide) dX7_has_40 ?_
      refine ex_zret dX7_has_41 rfl rfl ⟨by cases B with | false => rfl | true => exact absurd c2 (hB.mp rfl).1.2, rfl⟩
    · refine ex_iload_n rfl dX7_has_12 ?_
      refine ex_if_lt (tgt := 40) (by decide) dX7_has_13 (fun c3 => ?_) (fun c3 => ?_)
      · refine ex_iconst (v := (nI 0)) (by decide) dX7_has_40 ?_
        refine ex_zret dX7_has_41 rfl rfl ⟨by cases B with | false => rfl | true => exact absurd c3 (hB.mp rfl).2.1.1, rfl⟩
      · refine ex_iload_n rfl dX7_has_16 ?_
        refine ex_aload_n rfl dX7_has_17 ?_
        refine ex_get dX7_has_18 gf_X7_27 hP.1 rfl ?_
        refine ex_icmp_ge (tgt := 40) (by decide) dX7_has_21 (fun c4 => ?_) (fun c4 => ?_)
        · refine ex_iconst (v := (nI 0)) (by decide) dX7_has_40 ?_
          refine ex_zret dX7_has_41 rfl rfl ⟨by cases B with | false => rfl | true => exact absurd c4 (hB.mp rfl).2.1.2, rfl⟩
        · refine ex_iload_n rfl dX7_has_24 ?_
          refine ex_if_lt (tgt := 40) (by decide) dX7_has_25 (fun c5 => ?_) (fun c5 => ?_)
          · refine ex_iconst (v := (nI 0)) (by decide) dX7_has_40 ?_
            refine ex_zret dX7_has_41 rfl rfl ⟨by cases B with | false => rfl | true => exact absurd c5 (hB.mp rfl).2.2.1, rfl⟩
          · refine ex_iload_n rfl dX7_has_28 ?_
            refine ex_aload_n rfl dX7_has_29 ?_
            refine ex_get dX7_has_30 gf_X7_31 hP.1 rfl ?_
            refine ex_icmp_ge (tgt := 40) (by decide) dX7_has_33 (fun c6 => ?_) (fun c6 => ?_)
            · refine ex_iconst (v := (nI 0)) (by decide) dX7_has_40 ?_
              refine ex_zret dX7_has_41 rfl rfl ⟨by cases B with | false => rfl | true => exact absurd c6 (hB.mp rfl).2.2.2, rfl⟩
            · refine ex_iconst (v := (nI 1)) (by decide) dX7_has_36 ?_
              refine ex_goto (tgt := 41) (by decide) dX7_has_37 ?_
              refine ex_zret dX7_has_41 rfl rfl ⟨by rw [hB.mpr ⟨⟨c1, c2⟩, ⟨c3, c4⟩, ⟨c5, c6⟩⟩]; rfl, rfl⟩
set_option maxHeartbeats 4000000 in
set_option maxRecDepth 100000 in
theorem s_hasMask {G : EG} {l : Launch} {h : EH} {a : Nat} {p : Pol} (hP : PL G h a p) {c w : Nat} (hc : c < 2 ^ 30) (hw : w < 2 ^ 30) : ES G l 0 mX7_hasMask [.ref a, .int (nI c), .int (nI w)] h 0 0 (fun v h' => v = some (.int (b2i (decide (c < pC p ∧ w < 5)))) ∧ h' = h) eNoX := by
  obtain ⟨bT, bC, bb⟩ := hP.2.2.2.2.2.2
  refine es_of (by decide) rfl (Nat.le_of_ble_eq_true rfl) ?_
  refine ex_iload_n rfl dX7_hasMask_0 ?_
  refine ex_ifN_lt (tgt := 25) (by decide) dX7_hasMask_1 (by omega) (fun c1 => ?_) (fun c1 => ?_)
  · exact c1.elim
  · refine ex_iload_n rfl dX7_hasMask_4 ?_
    refine ex_aload_n rfl dX7_hasMask_5 ?_
    refine ex_get dX7_hasMask_6 gf_X7_31 hP.1 rfl ?_
    refine ex_icmpN_ge (tgt := 25) (by decide) dX7_hasMask_9 (by omega) (by omega) (fun c2 => ?_) (fun c2 => ?_)
    · refine ex_iconst (v := (nI 0)) (by decide) dX7_hasMask_25 ?_
      refine ex_zret dX7_hasMask_26 rfl rfl ⟨by first | rw [decide_eq_true (show _ ∧ _ from ⟨by omega, by omega⟩)]; rfl | rw [decide_eq_false (by omega)]; rfl, rfl⟩
    · refine ex_iload_n rfl dX7_hasMask_12 ?_
      refine ex_ifN_lt (tgt := 25) (by decide) dX7_hasMask_13 (by omega) (fun c3 => ?_) (fun c3 => ?_)
      · exact c3.elim
      · refine ex_iload_n rfl dX7_hasMask_16 ?_
        refine ex_iconst (v := (nI 5)) (by decide) dX7_hasMask_17 ?_
        refine ex_icmpN_ge (tgt := 25) (by decide) dX7_hasMask_18 (by omega) (by omega) (fun c4 => ?_) (fun c4 => ?_)
        · refine ex_iconst (v := (nI 0)) (by decide) dX7_hasMask_25 ?_
          refine ex_zret dX7_hasMask_26 rfl rfl ⟨by first | rw [decide_eq_true (show _ ∧ _ from ⟨by omega, by omega⟩)]; rfl | rw [decide_eq_false (by omega)]; rfl, rfl⟩
        · refine ex_iconst (v := (nI 1)) (by decide) dX7_hasMask_21 ?_
          refine ex_goto (tgt := 26) (by decide) dX7_hasMask_22 ?_
          refine ex_zret dX7_hasMask_26 rfl rfl ⟨by first | rw [decide_eq_true (show _ ∧ _ from ⟨by omega, by omega⟩)]; rfl | rw [decide_eq_false (by omega)]; rfl, rfl⟩
set_option maxHeartbeats 4000000 in
set_option maxRecDepth 100000 in
theorem s_permissionsOf {G : EG} {l : Launch} {h : EH} {a : Nat} {p : Pol} (hP : PL G h a p) {c : Nat} (hc : c < pC p) : ES G l 0 mX7_permissionsOf [.ref a, .int (nI c)] h 0 0 (fun v h' => v = some (.int (nI (pPm p c))) ∧ h' = h) eNoX := by
  obtain ⟨bT, bC, bb⟩ := hP.2.2.2.2.2.2
  refine es_of (by decide) rfl (Nat.le_of_ble_eq_true rfl) ?_
  refine ex_iload_n rfl dX7_permissionsOf_0 ?_
  refine ex_ifN_lt (tgt := 21) (by decide) dX7_permissionsOf_1 (by omega) (fun c1 => ?_) (fun c1 => ?_)
  · exact c1.elim
  · refine ex_iload_n rfl dX7_permissionsOf_4 ?_
    refine ex_aload_n rfl dX7_permissionsOf_5 ?_
    refine ex_get dX7_permissionsOf_6 gf_X7_31 hP.1 rfl ?_
    refine ex_icmpN_ge (tgt := 21) (by decide) dX7_permissionsOf_9 (by omega) (by omega) (fun c2 => ?_) (fun c2 => ?_)
    · refine ex_iconst (v := (nI 0)) (by decide) dX7_permissionsOf_21 ?_
      omega
    · refine ex_aload_n rfl dX7_permissionsOf_12 ?_
      refine ex_get dX7_permissionsOf_13 gf_X7_9 hP.1 rfl ?_
      refine ex_iload_n rfl dX7_permissionsOf_16 ?_
      refine ex_ialdN dX7_permissionsOf_17 hP.2.1 (by omega) (by decide) ?_
      refine ex_goto (tgt := 22) (by decide) dX7_permissionsOf_18 ?_
      refine ex_iret dX7_permissionsOf_22 rfl ⟨rfl, rfl⟩
set_option maxHeartbeats 4000000 in
set_option maxRecDepth 100000 in
theorem s_rankOf {G : EG} {l : Launch} {h : EH} {a : Nat} {p : Pol} (hP : PL G h a p) {t : Nat} (ht : t < pT p) : ES G l 1 mX7_rankOf [.ref a, .int (nI t)] h 0 0 (fun v h' => v = some (.int (nI (pRk p t))) ∧ h' = h) eNoX := by
  obtain ⟨bT, bC, bb⟩ := hP.2.2.2.2.2.2
  refine es_of (by decide) rfl (Nat.le_of_ble_eq_true rfl) ?_
  refine ex_aload_n rfl dX7_rankOf_0 ?_
  refine ex_iload_n rfl dX7_rankOf_1 ?_
  refine ex_invv (k := 0) (n := 0) (mc' := 0) (ms' := 0) (As := [_]) dX7_rankOf_2 cv_X7_40 (by decide) (Nat.le_of_ble_eq_true rfl) (Or.inl ⟨_, _, _, _, hP.1, rfl⟩) (s_hasType hP (nI t) (B := true) ⟨fun _ => (inR_nI (by omega) (by omega)).mpr (by omega), fun _ => rfl⟩) (fun v h' q => ?_)
  obtain ⟨rfl, rfl⟩ := q
  refine ex_ifB_eq (tgt := 17) (by decide) dX7_rankOf_5 (fun c1 => ?_) (fun c1 => ?_)
  · refine ex_iconst (v := (nI 0)) (by decide) dX7_rankOf_17 ?_
    cases c1
  · refine ex_aload_n rfl dX7_rankOf_8 ?_
    refine ex_get dX7_rankOf_9 gf_X7_15 hP.1 rfl ?_
    refine ex_iload_n rfl dX7_rankOf_12 ?_
    refine ex_ialdN dX7_rankOf_13 hP.2.2.1 (by omega) (by decide) ?_
    refine ex_goto (tgt := 18) (by decide) dX7_rankOf_14 ?_
    refine ex_iret dX7_rankOf_18 rfl ⟨rfl, rfl⟩
set_option maxHeartbeats 4000000 in
set_option maxRecDepth 100000 in
theorem s_allowedAt {G : EG} {l : Launch} {h : EH} {a : Nat} {p : Pol} (hP : PL G h a p) {s t c : Nat} (hs : s < pT p) (ht : t < pT p) (hc : c < pC p) : ES G l 1 mX7_allowedAt [.ref a, .int (nI s), .int (nI t), .int (nI c)] h 0 0 (fun v h' => v = some (.int (nI (pAl p (cel s t c)))) ∧ h' = h) eNoX := by
  obtain ⟨bT, bC, bb⟩ := hP.2.2.2.2.2.2
  have hcel : (c * 8 + s) * 8 + t < 192 := by omega
  refine es_of (by decide) rfl (Nat.le_of_ble_eq_true rfl) ?_
  refine ex_aload_n rfl dX7_allowedAt_0 ?_
  refine ex_iload_n rfl dX7_allowedAt_1 ?_
  refine ex_iload_n rfl dX7_allowedAt_2 ?_
  refine ex_iload_n rfl dX7_allowedAt_3 ?_
  refine ex_invv (k := 0) (n := 0) (mc' := 0) (ms' := 0) (As := [_, _, _]) dX7_allowedAt_4 cv_X7_44 (by decide) (Nat.le_of_ble_eq_true rfl) (Or.inl ⟨_, _, _, _, hP.1, rfl⟩) (s_has hP (nI s) (nI t) (nI c) (B := true) ⟨fun _ => ⟨(inR_nI (by omega) (by omega)).mpr (by omega), (inR_nI (by omega) (by omega)).mpr (by omega), (inR_nI (by omega) (by omega)).mpr (by omega)⟩, fun _ => rfl⟩) (fun v h' q => ?_)
  obtain ⟨rfl, rfl⟩ := q
  refine ex_ifB_eq (tgt := 24) (by decide) dX7_allowedAt_7 (fun c1 => ?_) (fun c1 => ?_)
  · refine ex_iconst (v := (nI 0)) (by decide) dX7_allowedAt_24 ?_
    cases c1
  · refine ex_aload_n rfl dX7_allowedAt_10 ?_
    refine ex_get dX7_allowedAt_11 gf_X7_18 hP.1 rfl ?_
    refine ex_iload_n rfl dX7_allowedAt_14 ?_
    refine ex_iload_n rfl dX7_allowedAt_15 ?_
    refine ex_iload_n rfl dX7_allowedAt_16 ?_
    refine ex_invsN (k := 0) (n := 0) (mc' := 0) (ms' := 0) (As := [_, _, _]) dX7_allowedAt_17 cs_X7_48 (by decide) (Nat.le_of_ble_eq_true rfl) (s_cellOf _ s t c) (fun v h' q => ?_)
    obtain ⟨rfl, rfl⟩ := q
    refine ex_ialdN dX7_allowedAt_20 hP.2.2.2.1 (by omega) (by decide) ?_
    refine ex_goto (tgt := 25) (by decide) dX7_allowedAt_21 ?_
    refine ex_iret dX7_allowedAt_25 rfl ⟨rfl, rfl⟩
set_option maxHeartbeats 4000000 in
set_option maxRecDepth 100000 in
theorem s_maskAt {G : EG} {l : Launch} {h : EH} {a : Nat} {p : Pol} (hP : PL G h a p) {c w : Nat} (hc : c < pC p) (hw : w < 5) : ES G l 1 mX7_maskAt [.ref a, .int (nI c), .int (nI w)] h 0 0 (fun v h' => v = some (.int (nI (pMs p (c * 5 + w)))) ∧ h' = h) eNoX := by
  obtain ⟨bT, bC, bb⟩ := hP.2.2.2.2.2.2
  refine es_of (by decide) rfl (Nat.le_of_ble_eq_true rfl) ?_
  refine ex_aload_n rfl dX7_maskAt_0 ?_
  refine ex_iload_n rfl dX7_maskAt_1 ?_
  refine ex_iload_n rfl dX7_maskAt_2 ?_
  refine ex_invv (k := 0) (n := 0) (mc' := 0) (ms' := 0) (As := [_, _]) dX7_maskAt_3 cv_X7_59 (by decide) (Nat.le_of_ble_eq_true rfl) (Or.inl ⟨_, _, _, _, hP.1, rfl⟩) (s_hasMask hP (c := c) (w := w) (by omega) (by omega)) (fun v h' q => ?_)
  obtain ⟨rfl, rfl⟩ := q
  refine ex_ifB_eq (tgt := 22) (by decide) dX7_maskAt_6 (fun c1 => ?_) (fun c1 => ?_)
  · refine ex_iconst (v := (nI 0)) (by decide) dX7_maskAt_22 ?_
    exact absurd (of_decide_eq_false c1) (by omega)
  · refine ex_aload_n rfl dX7_maskAt_9 ?_
    refine ex_get dX7_maskAt_10 gf_X7_24 hP.1 rfl ?_
    refine ex_iload_n rfl dX7_maskAt_13 ?_
    refine ex_iconst (v := (nI 5)) (by decide) dX7_maskAt_14 ?_
    refine ex_imulN dX7_maskAt_15 ?_
    refine ex_iload_n rfl dX7_maskAt_16 ?_
    refine ex_iaddN dX7_maskAt_17 ?_
    refine ex_ialdN dX7_maskAt_18 hP.2.2.2.2.2.1 (by omega) (by decide) ?_
    refine ex_goto (tgt := 23) (by decide) dX7_maskAt_19 ?_
    refine ex_iret dX7_maskAt_23 rfl ⟨rfl, rfl⟩
