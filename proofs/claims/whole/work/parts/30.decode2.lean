/-! IMAGECODEC, third part: the whole image read -/
def bv (f : Nat → Nat) (n T M at_ c : Nat) (p : Pol) : Prop := (∀ s t, s < T → t < T → pAl p (cel s t c) = gv f n (at_ + (s * T + t)) 0 M) ∧ (∀ s t, s < T → t < T → pPr p (cel s t c) = gv f n (at_ + (T * T + (s * T + t))) 0 T) ∧ ∀ w, w < 5 → pMs p (c * 5 + w) = gv f n (at_ + (2 * (T * T) + w)) 0 M
abbrev bAtc (T C c : Nat) : Nat := 2 + C + T + c * (2 * (T * T) + 5)
abbrev mskc (f : Nat → Nat) (n c : Nat) : Nat := 2 ^ gv f n (2 + c) 1 6 - 1
def dcc (f : Nat → Nat) (n T C : Nat) (kc kt kb : Nat) : Prop := (tok f n 0 1 8 = true ∧ tok f n 1 1 3 = true) ∧ (∀ i, i < kc → tok f n (2 + i) 1 6 = true) ∧ (∀ i, i < kt → tok f n (2 + C + i) 0 7 = true) ∧ ∀ c, c < kb → ∀ k, k < 2 * (T * T) + 5 → tok f n (bAtc T C c + k) 0 (dHi T (mskc f n c) k) = true
def dc (f : Nat → Nat) (n T C : Nat) (p : Pol) (kc kt kb : Nat) (br : Bool) : Prop := (pT p = kt ∧ pC p = kc) ∧ (br = false ↔ dcc f n T C kc kt kb) ∧ (∀ i, i < kc → pPm p i = gv f n (2 + i) 1 6) ∧ (∀ i, i < kt → pRk p i = gv f n (2 + C + i) 0 7) ∧ (∀ c, c < kb → bv f n T (mskc f n c) (bAtc T C c) c p) ∧ ∀ j, j < 15 → kb * 5 ≤ j → pMs p j = 0
theorem dc.c {f : Nat → Nat} {n T C : Nat} {p : Pol} {k : Nat} {br : Bool} (h : dc f n T C p k 0 0 br) : dc f n T C (pT p, pC p + 1, va_up (pPm p) (pC p) (gv f n (2 + k) 1 6), pRk p, pAl p, pPr p, pMs p) (k + 1) 0 0 (br || !(tok f n (2 + k) 1 6)) := by
  obtain ⟨⟨h1, h2⟩, h3, h4, h5, h6, h7⟩ := h
  refine ⟨⟨h1, by show pC p + 1 = _; rw [h2]⟩, ?_, fun i hi => ?_, fun i hi => by omega, fun c hc => by omega, h7⟩
  · rw [bnot, h3]
    constructor
    · rintro ⟨⟨a1, a2, a3, a4⟩, a5⟩
      refine ⟨a1, fun i hi => ?_, a3, a4⟩
      rcases Nat.lt_or_ge i k with w | w
      · exact a2 i w
      · rw [show i = k by omega]; exact a5
    · rintro ⟨a1, a2, a3, a4⟩
      exact ⟨⟨a1, fun i hi => a2 i (by omega), a3, a4⟩, a2 k (by omega)⟩
  · show va_up (pPm p) (pC p) _ i = _
    by_cases z : i = k
    · rw [vup_e (by omega), z]
    · rw [vup_n (by omega)]; exact h4 i (by omega)
theorem dc.t {f : Nat → Nat} {n T C : Nat} {p : Pol} {k : Nat} {br : Bool} (h : dc f n T C p C k 0 br) : dc f n T C (pT p + 1, pC p, pPm p, va_up (pRk p) k (gv f n (2 + C + k) 0 7), pAl p, pPr p, pMs p) C (k + 1) 0 (br || !(tok f n (2 + C + k) 0 7)) := by
  obtain ⟨⟨h1, h2⟩, h3, h4, h5, h6, h7⟩ := h
  refine ⟨⟨by show pT p + 1 = _; rw [h1], h2⟩, ?_, h4, fun i hi => ?_, fun c hc => by omega, h7⟩
  · rw [bnot, h3]
    constructor
    · rintro ⟨⟨a1, a2, a3, a4⟩, a5⟩
      refine ⟨a1, a2, fun i hi => ?_, a4⟩
      rcases Nat.lt_or_ge i k with w | w
      · exact a3 i w
      · rw [show i = k by omega]; exact a5
    · rintro ⟨a1, a2, a3, a4⟩
      exact ⟨⟨a1, a2, fun i hi => a3 i (by omega), a4⟩, a3 k (by omega)⟩
  · show va_up (pRk p) k _ i = _
    by_cases z : i = k
    · rw [vup_e z, z]
    · rw [vup_n z]; exact h5 i (by omega)
theorem dc.b {f : Nat → Nat} {n T C : Nat} {p p' : Pol} {k : Nat} {br br' : Bool} (h : dc f n T C p C T k br) (hT : T ≤ 8) (hC : C ≤ 3) (hk : k < C) (hd : dk f n T k (mskc f n k) (bAtc T C k) p p' br (2 * (T * T) + 5) br') : dc f n T C p' C T (k + 1) br' := by
  obtain ⟨⟨h1, h2⟩, h3, h4, h5, h6, h7⟩ := h
  obtain ⟨⟨d1, d2, d3, d4⟩, d5, d6, d7, d8, d9, d10, d11⟩ := hd
  refine ⟨⟨d1.trans h1, d2.trans h2⟩, ?_, fun i hi => by rw [d3]; exact h4 i hi, fun i hi => by rw [d4]; exact h5 i hi, fun c hc => ?_, fun j hj hl => ?_⟩
  · rw [d5, h3]
    constructor
    · rintro ⟨⟨a1, a2, a3, a4⟩, a5⟩
      refine ⟨a1, a2, a3, fun c hc => ?_⟩
      rcases Nat.lt_or_ge c k with w | w
      · exact a4 c w
      · rw [show c = k by omega]; exact a5
    · rintro ⟨a1, a2, a3, a4⟩
      exact ⟨⟨a1, a2, a3, fun c hc => a4 c (by omega)⟩, a4 k (by omega)⟩
  · rcases Nat.lt_or_ge c k with w | w
    · obtain ⟨b1, b2, b3⟩ := h6 c w
      refine ⟨fun s t hs ht => ?_, fun s t hs ht => ?_, fun v hv => ?_⟩
      · rw [(d6 _ (by rw [cel_C (by omega) (by omega)]; omega)).1]; exact b1 s t hs ht
      · rw [(d6 _ (by rw [cel_C (by omega) (by omega)]; omega)).2]; exact b2 s t hs ht
      · rw [d11 _ (by omega)]; exact b3 v hv
    · rw [show c = k by omega]
      exact ⟨fun s t hs ht => d7 s t hs ht (by have := row_le hs; omega), fun s t hs ht => d8 s t hs ht (by have := row_le hs; omega), fun v hv => d9 v hv (by omega)⟩
  · rw [d11 j (by omega)]; exact h7 j hj (by omega)
/-- what was fed is an image -/
def WF (f : Nat → Nat) (n : Nat) : Prop := (2 ≤ n ∧ (1 ≤ f 0 ∧ f 0 ≤ 8) ∧ 1 ≤ f 1 ∧ f 1 ≤ 3) ∧ n = bAtc (f 0) (f 1) (f 1) ∧ (∀ c, c < f 1 → 1 ≤ f (2 + c) ∧ f (2 + c) ≤ 6) ∧ (∀ t, t < f 0 → f (2 + f 1 + t) ≤ 7) ∧ ∀ c, c < f 1 → ∀ k, k < 2 * (f 0 * f 0) + 5 → f (bAtc (f 0) (f 1) c + k) ≤ dHi (f 0) (2 ^ f (2 + c) - 1) k
/-- the policy that an image says -/
def RDP (f : Nat → Nat) (p : Pol) : Prop := (pT p = f 0 ∧ pC p = f 1) ∧ (∀ c, c < f 1 → pPm p c = f (2 + c)) ∧ (∀ t, t < f 0 → pRk p t = f (2 + f 1 + t)) ∧ ∀ c, c < f 1 → (∀ s t, s < f 0 → t < f 0 → pAl p (cel s t c) = f (bAtc (f 0) (f 1) c + (s * f 0 + t))) ∧ (∀ s t, s < f 0 → t < f 0 → pPr p (cel s t c) = f (bAtc (f 0) (f 1) c + (f 0 * f 0 + (s * f 0 + t)))) ∧ ∀ w, w < 5 → pMs p (c * 5 + w) = f (bAtc (f 0) (f 1) c + (2 * (f 0 * f 0) + w))
theorem tok_i {f : Nat → Nat} {n tk lo hi : Nat} : tok f n tk lo hi = true ↔ tk < n ∧ lo ≤ f tk ∧ f tk ≤ hi := decide_eq_true_iff
theorem blk_lt {T C c k : Nat} (hc : c < C) (hk : k < 2 * (T * T) + 5) : bAtc T C c + k < bAtc T C C := by
  have := Nat.mul_le_mul_right (2 * (T * T) + 5) (Nat.succ_le_of_lt hc)
  rw [Nat.succ_mul] at this
  show 2 + C + T + c * (2 * (T * T) + 5) + k < 2 + C + T + C * (2 * (T * T) + 5)
  omega
theorem dc_wf {f : Nat → Nat} {n : Nat} : WF f n ↔ dcc f n (gv f n 0 1 8) (gv f n 1 1 3) (gv f n 1 1 3) (gv f n 0 1 8) (gv f n 1 1 3) ∧ bAtc (gv f n 0 1 8) (gv f n 1 1 3) (gv f n 1 1 3) = n := by
  constructor
  · rintro ⟨⟨h1, h2, h3⟩, h4, h5, h6, h7⟩
    have t0 : tok f n 0 1 8 = true := tok_i.mpr ⟨by omega, h2⟩
    have t1 : tok f n 1 1 3 = true := tok_i.mpr ⟨by omega, h3⟩
    rw [gv_ok t0, gv_ok t1]
    refine ⟨⟨⟨t0, t1⟩, fun i hi => tok_i.mpr ⟨?_, h5 i hi⟩, fun i hi => tok_i.mpr ⟨?_, Nat.zero_le _, h6 i hi⟩, fun c hc k hk => tok_i.mpr ⟨?_, Nat.zero_le _, ?_⟩⟩, h4.symm⟩
    · rw [h4]; show 2 + i < 2 + f 1 + f 0 + _; omega
    · rw [h4]; show 2 + f 1 + i < 2 + f 1 + f 0 + _; omega
    · have := blk_lt hc hk; rw [← h4] at this; exact this
    · have q : tok f n (2 + c) 1 6 = true := tok_i.mpr ⟨by rw [h4]; show 2 + c < 2 + f 1 + f 0 + _; omega, h5 c hc⟩
      show _ ≤ dHi (f 0) (2 ^ gv f n (2 + c) 1 6 - 1) k
      rw [gv_ok q]
      exact h7 c hc k hk
  · rintro ⟨⟨⟨t0, t1⟩, a2, a3, a4⟩, a5⟩
    have e0 := gv_ok t0
    have e1 := gv_ok t1
    rw [e0, e1] at a4 a5
    rw [e1] at a2 a3
    rw [e0] at a3
    have b0 := tok_i.mp t0
    have b1 := tok_i.mp t1
    refine ⟨⟨by omega, b0.2, b1.2⟩, a5.symm, fun c hc => (tok_i.mp (a2 c hc)).2, fun t ht => (tok_i.mp (a3 t ht)).2.2, fun c hc k hk => ?_⟩
    have := (tok_i.mp (a4 c hc k hk)).2.2
    rw [show mskc f n c = 2 ^ gv f n (2 + c) 1 6 - 1 from rfl, gv_ok (a2 c hc)] at this
    exact this
theorem dc_rd {f : Nat → Nat} {n : Nat} {p : Pol} {br : Bool} (h : WF f n) (hd : dc f n (gv f n 0 1 8) (gv f n 1 1 3) p (gv f n 1 1 3) (gv f n 0 1 8) (gv f n 1 1 3) br) : RDP f p := by
  obtain ⟨⟨⟨t0, t1⟩, a2, a3, a4⟩, a5⟩ := dc_wf.mp h
  have e0 := gv_ok t0
  have e1 := gv_ok t1
  rw [e0, e1] at a4 a5 hd
  rw [e1] at a2 a3
  rw [e0] at a3
  obtain ⟨⟨h1, h2⟩, h3, h4, h5, h6, h7⟩ := hd
  refine ⟨⟨h1, h2⟩, fun c hc => (h4 c hc).trans (gv_ok (a2 c hc)), fun t ht => (h5 t ht).trans (gv_ok (a3 t ht)), fun c hc => ?_⟩
  obtain ⟨b1, b2, b3⟩ := h6 c hc
  refine ⟨fun s t hs ht => ?_, fun s t hs ht => ?_, fun w hw => ?_⟩
  · have hr := row_le hs
    have hk := a4 c hc (s * f 0 + t) (by omega)
    rw [dHi, if_neg (by omega)] at hk
    exact (b1 s t hs ht).trans (gv_ok hk)
  · have hr := row_le hs
    have hk := a4 c hc (f 0 * f 0 + (s * f 0 + t)) (by omega)
    rw [dHi, if_pos (by omega)] at hk
    exact (b2 s t hs ht).trans (gv_ok hk)
  · have hk := a4 c hc (2 * (f 0 * f 0) + w) (by omega)
    rw [dHi, if_neg (by omega)] at hk
    exact (b3 w hw).trans (gv_ok hk)
set_option maxHeartbeats 4000000 in
set_option maxRecDepth 100000 in
theorem l_decode3 {G : EG} {l : Launch} {e eb b n : Nat} {f : Nat → Nat} (hs1 : e < b ∨ b + 5 < e) (hs2 : eb < b ∨ b + 5 < eb) (hf : ∀ j, j < n → f j < 2 ^ 31) {h0 : EH} {T C : Nat} (hTe : T = gv f n 0 1 8) (hCe : C = gv f n 1 1 3) : ∀ (g k : Nat), C - k < g → k ≤ C → ∀ (h : EH) (p : Pol) (br : Bool), PL G h b p → BR G h e eb n (bAtc T C k) br f → Fr (atBP e eb b) h0 h → dc f n T C p C T k br → Ex G l 3 mX4_decode (fun v h' => ∃ p' tk' br', v = some (.int (b2i (bP (WF f n)))) ∧ PL G h' b p' ∧ BR G h' e eb n tk' br' f ∧ (WF f n → RDP f p') ∧ Fr (atBP e eb b) h0 h') eNoX 0 0 84 [(0, .ref e), (1, .ref b), (2, .int (nI T)), (3, .int (nI C)), (4, .int (nI k))] [] h := by
  intro g
  induction g with
  | zero =>
    intro k h1 h2 h p br hP hB hF hd
    omega
  | succ g ih =>
    intro k h1 h2 h p br hP hB hF hd
    have hT8 : T ≤ 8 := by rw [hTe]; exact (gv_b (by decide)).2
    have hC3 : C ≤ 3 := by rw [hCe]; exact (gv_b (by decide)).2
    have hsq := sq8 hT8
    have hg6 := fun t => (gv_b (f := f) (n := n) (tk := t) (lo := 1) (hi := 6) (by decide)).2
    have hg7 := fun t => (gv_b (f := f) (n := n) (tk := t) (lo := 0) (hi := 7) (by decide)).2
    have hE : bAtc T C C ≤ 420 := by show 2 + C + T + C * (2 * (T * T) + 5) ≤ 420; have := Nat.mul_le_mul hC3 (show 2 * (T * T) + 5 ≤ 133 by omega); omega
    refine ex_iload rfl dX4_decode_84 ?_
    refine ex_iload_n rfl dX4_decode_86 ?_
    refine ex_icmpN_ge (tgt := 103) (by decide) dX4_decode_87 (by omega) (by omega) (fun c1 => ?_) (fun c1 => ?_)
    · have hk : k = C := by omega
      refine ex_aload_n rfl dX4_decode_103 ?_
      refine ex_invv (k := 0) (n := 0) (mc' := 0) (ms' := 0) (As := []) dX4_decode_104 cv_X4_72 (by decide) (Nat.le_of_ble_eq_true rfl) (Or.inl ⟨_, _, _, _, hB.1, rfl⟩) (s_btaken hB (by rw [hk]; omega)) (fun v h' q => ?_)
      obtain ⟨rfl, rfl⟩ := q
      refine ex_zret dX4_decode_107 rfl (b2i_nb _) (by
      rw [hk] at hd ⊢
      have hw : (!br && decide (bAtc T C C = n)) = bP (WF f n) := by
        have e1 := hd.2.1
        have e2 := dc_wf (f := f) (n := n)
        rw [← hTe, ← hCe, ← e1] at e2
        rw [bP_eq e2]
        cases br with
        | true => rw [bP_no (fun z => by cases z.1)]; rfl
        | false =>
          by_cases y : bAtc T C C = n
          · rw [decide_eq_true y, bP_iff.mpr ⟨rfl, y⟩]; rfl
          · rw [decide_eq_false y, bP_no (fun z => y z.2)]; rfl
      rw [hw]
      exact ⟨p, bAtc T C k, br, rfl, hP, hB, fun z => by rw [hTe, hCe] at hd; exact dc_rd z hd, hF⟩)
    · refine ex_aload_n rfl dX4_decode_90 ?_
      refine ex_iload rfl dX4_decode_91 ?_
      refine ex_aload_n rfl dX4_decode_93 ?_
      refine ex_invs (k := 0) (n := 0) (mc' := 0) (ms' := 0) (As := [_, _, _]) dX4_decode_94 cs_X4_68 (by decide) (Nat.le_of_ble_eq_true rfl) (s_decodeClass hs1 hs2 hf hP hB (T := T) (c := k) (M := mskc f n k) (at_ := bAtc T C k) hd.1.1 (by have := hd.1.2; omega) (by rw [hd.2.2.1 k (by omega)]; exact hg6 _) (by rw [hd.2.2.1 k (by omega)]) (by show 2 + C + T + k * (2 * (T * T) + 5) ≤ 420; have := Nat.mul_le_mul (show k ≤ 3 by omega) (show 2 * (T * T) + 5 ≤ 133 by omega); omega) (fun w hw => hd.2.2.2.2.2 _ (by omega) (by omega))) (fun v h' q => ?_)
      obtain ⟨rfl, p1, br1, hP1, hB1, hd1, hF1⟩ := q
      refine ex_iincN (z := 1) rfl (by decide) rfl dX4_decode_97 ?_
      refine ex_goto (tgt := 84) (by decide) dX4_decode_100 ?_
      exact ih (k + 1) (by omega) (by omega) _ _ _ hP1 (hB1.cast (by show 2 + C + T + k * (2 * (T * T) + 5) + (2 * (T * T) + 5) = 2 + C + T + (k + 1) * (2 * (T * T) + 5); rw [Nat.succ_mul k]; omega)) (hF.tr hF1) (hd.b hT8 hC3 (by omega) hd1)
set_option maxHeartbeats 4000000 in
set_option maxRecDepth 100000 in
theorem l_decode2 {G : EG} {l : Launch} {e eb b n : Nat} {f : Nat → Nat} (hs1 : e < b ∨ b + 5 < e) (hs2 : eb < b ∨ b + 5 < eb) (hf : ∀ j, j < n → f j < 2 ^ 31) {h0 : EH} {T C : Nat} (hTe : T = gv f n 0 1 8) (hCe : C = gv f n 1 1 3) : ∀ (g k : Nat), T - k < g → k ≤ T → ∀ (h : EH) (p : Pol) (br : Bool), PL G h b p → BR G h e eb n (2 + C + k) br f → Fr (atBP e eb b) h0 h → dc f n T C p C k 0 br → Ex G l 3 mX4_decode (fun v h' => ∃ p' tk' br', v = some (.int (b2i (bP (WF f n)))) ∧ PL G h' b p' ∧ BR G h' e eb n tk' br' f ∧ (WF f n → RDP f p') ∧ Fr (atBP e eb b) h0 h') eNoX 0 0 52 [(0, .ref e), (1, .ref b), (2, .int (nI T)), (3, .int (nI C)), (4, .int (nI k))] [] h := by
  intro g
  induction g with
  | zero =>
    intro k h1 h2 h p br hP hB hF hd
    omega
  | succ g ih =>
    intro k h1 h2 h p br hP hB hF hd
    have hT8 : T ≤ 8 := by rw [hTe]; exact (gv_b (by decide)).2
    have hC3 : C ≤ 3 := by rw [hCe]; exact (gv_b (by decide)).2
    have hsq := sq8 hT8
    have hg6 := fun t => (gv_b (f := f) (n := n) (tk := t) (lo := 1) (hi := 6) (by decide)).2
    have hg7 := fun t => (gv_b (f := f) (n := n) (tk := t) (lo := 0) (hi := 7) (by decide)).2
    refine ex_iload rfl dX4_decode_52 ?_
    refine ex_iload_n rfl dX4_decode_54 ?_
    refine ex_icmpN_ge (tgt := 81) (by decide) dX4_decode_55 (by omega) (by omega) (fun c1 => ?_) (fun c1 => ?_)
    · refine ex_iconst (v := (nI 0)) (by decide) dX4_decode_81 ?_
      refine ex_istore (by decide) rfl dX4_decode_82 ?_
      have hk : k = T := by omega
      exact ex_lv [(0, .ref e), (1, .ref b), (2, .int (nI T)), (3, .int (nI C)), (4, .int (nI 0))] ⟨rfl, rfl, rfl, rfl, rfl, trivial⟩ (l_decode3 hs1 hs2 hf hTe hCe (C + 1) 0 (by omega) (by omega) _ _ _ hP (hB.cast (by show 2 + C + k = 2 + C + T + 0 * _; omega)) hF (by rw [hk] at hd; exact hd))
    · refine ex_aload_n rfl dX4_decode_58 ?_
      refine ex_invv (k := 0) (n := 0) (mc' := 0) (ms' := 0) (As := []) dX4_decode_59 cv_X4_61 (by decide) (Nat.le_of_ble_eq_true rfl) (Or.inl ⟨_, _, _, _, hP.1, rfl⟩) (s_declareType hP (by have := hd.1.1; omega)) (fun v h' q => ?_)
      obtain ⟨rfl, hP0, hF0⟩ := q
      have hB0 := hB.fr hF0 (sepBP1 hs1) (sepBP1 hs2)
      refine ex_aload_n rfl dX4_decode_62 ?_
      refine ex_iload rfl dX4_decode_63 ?_
      refine ex_aload_n rfl dX4_decode_65 ?_
      refine ex_iconst (v := (nI 0)) (by decide) dX4_decode_66 ?_
      refine ex_bipush (v := (nI 7)) (by decide) dX4_decode_67 ?_
      refine ex_invv (k := 0) (n := 0) (mc' := 0) (ms' := 0) (As := [_, _]) dX4_decode_69 cv_X4_55 (by decide) (Nat.le_of_ble_eq_true rfl) (Or.inl ⟨_, _, _, _, hB0.1, rfl⟩) (s_btake hB0 (lo := 0) (hi := 7) (by decide) (by decide) (by omega) hf) (fun v h' q => ?_)
      obtain ⟨rfl, hB1, hF1⟩ := q
      have hP1 := hP0.fr hF1 (sepPB hs1 hs2)
      refine ex_invv (k := 0) (n := 0) (mc' := 0) (ms' := 0) (As := [_, _]) dX4_decode_72 cv_X4_64 (by decide) (Nat.le_of_ble_eq_true rfl) (Or.inl ⟨_, _, _, _, hP1.1, rfl⟩) (s_setRank hP1 (t := k) (x := gv f n (2 + C + k) 0 7) (by show k < pT p + 1; have := hd.1.1; omega) (by have := hg7 (2 + C + k); omega)) (fun v h' q => ?_)
      obtain ⟨rfl, hP2, hF2⟩ := q
      have hB2 := hB1.fr hF2 (sepBP1 hs1) (sepBP1 hs2)
      refine ex_iincN (z := 1) rfl (by decide) rfl dX4_decode_75 ?_
      refine ex_goto (tgt := 52) (by decide) dX4_decode_78 ?_
      exact ih (k + 1) (by omega) (by omega) _ _ _ hP2 hB2 (((hF.tr (hF0.wk (fun q => Or.inr))).tr (hF1.wk (fun q => Or.inl))).tr (hF2.wk (fun q => Or.inr))) hd.t
set_option maxHeartbeats 4000000 in
set_option maxRecDepth 100000 in
theorem l_decode1 {G : EG} {l : Launch} {e eb b n : Nat} {f : Nat → Nat} (hs1 : e < b ∨ b + 5 < e) (hs2 : eb < b ∨ b + 5 < eb) (hf : ∀ j, j < n → f j < 2 ^ 31) {h0 : EH} {T C : Nat} (hTe : T = gv f n 0 1 8) (hCe : C = gv f n 1 1 3) : ∀ (g k : Nat), C - k < g → k ≤ C → ∀ (h : EH) (p : Pol) (br : Bool), PL G h b p → BR G h e eb n (2 + k) br f → Fr (atBP e eb b) h0 h → dc f n T C p k 0 0 br → Ex G l 3 mX4_decode (fun v h' => ∃ p' tk' br', v = some (.int (b2i (bP (WF f n)))) ∧ PL G h' b p' ∧ BR G h' e eb n tk' br' f ∧ (WF f n → RDP f p') ∧ Fr (atBP e eb b) h0 h') eNoX 0 0 26 [(0, .ref e), (1, .ref b), (2, .int (nI T)), (3, .int (nI C)), (4, .int (nI k))] [] h := by
  intro g
  induction g with
  | zero =>
    intro k h1 h2 h p br hP hB hF hd
    omega
  | succ g ih =>
    intro k h1 h2 h p br hP hB hF hd
    have hT8 : T ≤ 8 := by rw [hTe]; exact (gv_b (by decide)).2
    have hC3 : C ≤ 3 := by rw [hCe]; exact (gv_b (by decide)).2
    have hsq := sq8 hT8
    have hg6 := fun t => (gv_b (f := f) (n := n) (tk := t) (lo := 1) (hi := 6) (by decide)).2
    have hg7 := fun t => (gv_b (f := f) (n := n) (tk := t) (lo := 0) (hi := 7) (by decide)).2
    refine ex_iload rfl dX4_decode_26 ?_
    refine ex_iload_n rfl dX4_decode_28 ?_
    refine ex_icmpN_ge (tgt := 49) (by decide) dX4_decode_29 (by omega) (by omega) (fun c1 => ?_) (fun c1 => ?_)
    · refine ex_iconst (v := (nI 0)) (by decide) dX4_decode_49 ?_
      refine ex_istore (by decide) rfl dX4_decode_50 ?_
      have hk : k = C := by omega
      exact ex_lv [(0, .ref e), (1, .ref b), (2, .int (nI T)), (3, .int (nI C)), (4, .int (nI 0))] ⟨rfl, rfl, rfl, rfl, rfl, trivial⟩ (l_decode2 hs1 hs2 hf hTe hCe (T + 1) 0 (by omega) (by omega) _ _ _ hP (hB.cast (by omega)) hF (by rw [hk] at hd; exact hd))
    · refine ex_aload_n rfl dX4_decode_32 ?_
      refine ex_aload_n rfl dX4_decode_33 ?_
      refine ex_iconst (v := (nI 1)) (by decide) dX4_decode_34 ?_
      refine ex_bipush (v := (nI 6)) (by decide) dX4_decode_35 ?_
      refine ex_invv (k := 0) (n := 0) (mc' := 0) (ms' := 0) (As := [_, _]) dX4_decode_37 cv_X4_55 (by decide) (Nat.le_of_ble_eq_true rfl) (Or.inl ⟨_, _, _, _, hB.1, rfl⟩) (s_btake hB (lo := 1) (hi := 6) (by decide) (by decide) (by omega) hf) (fun v h' q => ?_)
      obtain ⟨rfl, hB1, hF1⟩ := q
      have hP1 := hP.fr hF1 (sepPB hs1 hs2)
      refine ex_invv (k := 0) (n := 0) (mc' := 0) (ms' := 0) (As := [_]) dX4_decode_40 cv_X4_58 (by decide) (Nat.le_of_ble_eq_true rfl) (Or.inl ⟨_, _, _, _, hP1.1, rfl⟩) (s_declareClass hP1 (x := gv f n (2 + k) 1 6) (by have := hg6 (2 + k); omega) (by have := hd.1.2; omega)) (fun v h' q => ?_)
      obtain ⟨rfl, hP2, hF2⟩ := q
      have hB2 := hB1.fr hF2 (sepBP1 hs1) (sepBP1 hs2)
      refine ex_iincN (z := 1) rfl (by decide) rfl dX4_decode_43 ?_
      refine ex_goto (tgt := 26) (by decide) dX4_decode_46 ?_
      exact ih (k + 1) (by omega) (by omega) _ _ _ hP2 hB2 ((hF.tr (hF1.wk (fun q => Or.inl))).tr (hF2.wk (fun q => Or.inr))) hd.c
set_option maxHeartbeats 4000000 in
set_option maxRecDepth 100000 in
theorem s_decode {G : EG} {l : Launch} {e eb b n : Nat} {f : Nat → Nat} (hs1 : e < b ∨ b + 5 < e) (hs2 : eb < b ∨ b + 5 < eb) (hf : ∀ j, j < n → f j < 2 ^ 31) {h : EH} {p : Pol} {tk : Nat} {br : Bool} (hP : PL G h b p) (hB : BR G h e eb n tk br f) : ES G l 3 mX4_decode [.ref e, .ref b] h 0 0 (fun v h' => ∃ p' tk' br', v = some (.int (b2i (bP (WF f n)))) ∧ PL G h' b p' ∧ BR G h' e eb n tk' br' f ∧ (WF f n → RDP f p') ∧ Fr (atBP e eb b) h h') eNoX := by
  refine es_of (by decide) rfl (Nat.le_of_ble_eq_true rfl) ?_
  refine ex_aload_n rfl dX4_decode_0 ?_
  refine ex_invv (k := 0) (n := 0) (mc' := 0) (ms' := 0) (As := []) dX4_decode_1 cv_X4_51 (by decide) (Nat.le_of_ble_eq_true rfl) (Or.inl ⟨_, _, _, _, hP.1, rfl⟩) (s_pclear hP) (fun v h' q => ?_)
  obtain ⟨rfl, hP1, hF1⟩ := q
  have hB1 := hB.fr hF1 (sepBP1 hs1) (sepBP1 hs2)
  refine ex_aload_n rfl dX4_decode_4 ?_
  refine ex_invv (k := 0) (n := 0) (mc' := 0) (ms' := 0) (As := []) dX4_decode_5 cv_X4_52 (by decide) (Nat.le_of_ble_eq_true rfl) (Or.inl ⟨_, _, _, _, hB1.1, rfl⟩) (s_brewind hB1) (fun v h' q => ?_)
  obtain ⟨rfl, hB2, hF2⟩ := q
  have hP2 := hP1.fr hF2 (sepPB hs1 hs2)
  refine ex_aload_n rfl dX4_decode_8 ?_
  refine ex_iconst (v := (nI 1)) (by decide) dX4_decode_9 ?_
  refine ex_bipush (v := (nI 8)) (by decide) dX4_decode_10 ?_
  refine ex_invv (k := 0) (n := 0) (mc' := 0) (ms' := 0) (As := [_, _]) dX4_decode_12 cv_X4_55 (by decide) (Nat.le_of_ble_eq_true rfl) (Or.inl ⟨_, _, _, _, hB2.1, rfl⟩) (s_btake hB2 (lo := 1) (hi := 8) (by decide) (by decide) (by decide) hf) (fun v h' q => ?_)
  obtain ⟨rfl, hB3, hF3⟩ := q
  have hP3 := hP2.fr hF3 (sepPB hs1 hs2)
  refine ex_istore_n (by decide) rfl dX4_decode_15 ?_
  refine ex_aload_n rfl dX4_decode_16 ?_
  refine ex_iconst (v := (nI 1)) (by decide) dX4_decode_17 ?_
  refine ex_iconst (v := (nI 3)) (by decide) dX4_decode_18 ?_
  refine ex_invv (k := 0) (n := 0) (mc' := 0) (ms' := 0) (As := [_, _]) dX4_decode_19 cv_X4_55 (by decide) (Nat.le_of_ble_eq_true rfl) (Or.inl ⟨_, _, _, _, hB3.1, rfl⟩) (s_btake hB3 (lo := 1) (hi := 3) (by decide) (by decide) (by decide) hf) (fun v h' q => ?_)
  obtain ⟨rfl, hB4, hF4⟩ := q
  have hP4 := hP3.fr hF4 (sepPB hs1 hs2)
  refine ex_istore_n (by decide) rfl dX4_decode_22 ?_
  refine ex_iconst (v := (nI 0)) (by decide) dX4_decode_23 ?_
  refine ex_istore (by decide) rfl dX4_decode_24 ?_
  exact ex_lv [(0, .ref e), (1, .ref b), (2, .int (nI (gv f n 0 1 8))), (3, .int (nI (gv f n 1 1 3))), (4, .int (nI 0))] ⟨rfl, rfl, rfl, rfl, rfl, trivial⟩ (l_decode1 hs1 hs2 hf rfl rfl (gv f n 1 1 3 + 1) 0 (by omega) (by omega) _ _ _ hP4 hB4 ((((hF1.wk (fun q => Or.inr)).tr (hF2.wk (fun q => Or.inl))).tr (hF3.wk (fun q => Or.inl))).tr (hF4.wk (fun q => Or.inl))) ⟨⟨rfl, rfl⟩, (by
      rw [bnot, bnot]
      exact ⟨fun z => ⟨⟨z.1.2, z.2⟩, fun i hi => by omega, fun i hi => by omega, fun c hc => by omega⟩, fun z => ⟨⟨rfl, z.1.1⟩, z.1.2⟩⟩), fun i hi => by omega, fun i hi => by omega, fun c hc => by omega, fun j hj _ => if_pos hj⟩)
