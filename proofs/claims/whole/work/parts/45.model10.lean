/-! THE MODEL: feed, wellFormed, read -/
theorem byt_m (w : Int64) {s : Nat} (hs : s < 64) : ((w.toUInt64 >>> ((nI s).toInt64.toUInt64 &&& Int64.toUInt64 63)).toInt64 &&& 255).toInt32 = nI (uN w / 2 ^ s % 256) := by
  rw [← byt_class w hs, Int64.toInt32_and]
  rfl
def fedY (y : MS) (x : Nat) : MS := (va_up (ms y) 28 (ms y 28 + 1), (mUp y 16 (ms y 28) x).2)
def FED (y0 y : MS) (LL : List Nat) : Prop := Kp [28] [16] y0 y ∧ bL (mA y 16) (ms y 28) LL ∧ mmk y = mmk y0
theorem FED.say {y0 y : MS} {LL : List Nat} (h : FED y0 y LL) (x : Nat) : FED y0 (fedY y x) (LL ++ [x]) := ⟨(h.1.up (by decide)).fd (by decide), h.2.1.push x, h.2.2⟩
set_option maxHeartbeats 4000000 in
set_option maxRecDepth 100000 in
theorem l_mfeed {G : EG} {l : Launch} {h0 : EH} {M : Nat} {y0 : MS} {LF : List Nat} {w : Int64} {m : Nat} (h1 : 1 ≤ m) (hm : m ≤ 8) (hr : LF.length + m ≤ 420) : ∀ (f k : Nat), m - k < f → k ≤ m → ∀ (h : EH) (y : MS), MD G h M y → FED y0 y (LF ++ fdL w k) → Fr (atN M) h0 h → Ex G l 0 mX12_feed (fun v h' => v = some (.int (nI (LF.length + m))) ∧ (∃ y', MD G h' M y' ∧ FED y0 y' (LF ++ fdL w m)) ∧ Fr (atN M) h0 h') eNoX 0 0 33 [(0, .ref M), (1, .long w), (3, .int (nI (m))), (4, .int (nI (k)))] [] h := by
  intro f
  induction f with
  | zero =>
    intro k j1 j2 h y hM hI hF
    omega
  | succ f ih =>
    intro k j1 j2 h y hM hI hF
    have hl := hI.2.1.1
    have hfl : (fdL w k).length = k := rmap_len _ _
    rw [List.length_append, hfl] at hl
    have k16 : h.2 (M + 16) = some (.inl (eA G 0, 420, .inl (fun j => nI (mA y 16 j)))) := hM.2 16 (by decide) (by decide)
    refine ex_iload rfl dX12_feed_33 ?_
    refine ex_iload_n rfl dX12_feed_35 ?_
    refine ex_icmpN_ge (tgt := 79) (by decide) dX12_feed_36 (by omega) (by omega) (fun c1 => ?_) (fun c1 => ?_)
    · refine ex_aload_n rfl dX12_feed_79 ?_
      refine ex_get dX12_feed_80 gf_X12_224 hM.1 rfl ?_
      refine ex_iret dX12_feed_83 rfl ⟨by rw [hl, show k = m by omega], ⟨y, hM, (by rw [show k = m by omega] at hI; exact hI)⟩, hF⟩
    · refine ex_aload_n rfl dX12_feed_39 ?_
      refine ex_get dX12_feed_40 gf_X12_63 hM.1 rfl ?_
      refine ex_aload_n rfl dX12_feed_43 ?_
      refine ex_get dX12_feed_44 gf_X12_224 hM.1 rfl ?_
      refine ex_lload_n rfl dX12_feed_47 ?_
      refine ex_bipush (v := (nI 56)) (by decide) dX12_feed_48 ?_
      refine ex_bipush (v := (nI 8)) (by decide) dX12_feed_50 ?_
      refine ex_iload rfl dX12_feed_52 ?_
      refine ex_imulN dX12_feed_54 ?_
      refine ex_isubN (by omega) dX12_feed_55 ?_
      refine ex_lushr dX12_feed_56 ?_
      refine ex_ldc2 lc_X12_79 dX12_feed_57 ?_
      refine ex_land dX12_feed_60 ?_
      refine ex_l2i dX12_feed_61 ?_
      rw [byt_m w (by omega)]
      refine ex_iastN dX12_feed_62 k16 (by omega) (by decide) ?_
      refine ex_aload_n rfl dX12_feed_63 ?_
      refine ex_dup rfl dX12_feed_64 ?_
      refine ex_get dX12_feed_65 gf_X12_224 (hup_ne (by omega) hM.1) rfl ?_
      refine ex_iconst (v := (nI 1)) (by decide) dX12_feed_68 ?_
      refine ex_iaddN dX12_feed_69 ?_
      refine ex_put dX12_feed_70 pf_X12_224 (hup_ne (by omega) hM.1) (Nat.le_of_ble_eq_true rfl) rfl rfl ?_
      refine ex_iincN (z := 1) rfl (by decide) rfl dX12_feed_73 ?_
      refine ex_goto (tgt := 33) (by decide) dX12_feed_76 ?_
      exact ex_lv [(0, .ref M), (1, .long w), (3, .int (nI (m))), (4, .int (nI (k + 1)))] ⟨rfl, rfl, rfl, rfl, trivial⟩ (ih (k + 1) (by omega) (by omega) _ (fedY y (byt w k)) ((hM.st 16 (ms y 28) (byt w k) (by decide) (by decide)).ob' (va_up (ms y) 28 (ms y 28 + 1)) (mpo y) (mfa y) rfl) (by have z := hI.say (byt w k); rw [List.append_assoc, show fdL w k ++ [byt w k] = fdL w (k + 1) from (rmap_s _ _).symm] at z; exact z) ((hF.up ⟨by omega, by omega⟩).up ⟨by omega, by omega⟩))
set_option maxHeartbeats 4000000 in
set_option maxRecDepth 100000 in
theorem t_feed {G : EG} {l : Launch} {h : EH} {M : Nat} {y : MS} (hM : MD G h M y) {LF : List Nat} (hL : bL (mA y 16) (ms y 28) LF) {w : Int64} {m : Nat} (h1 : 1 ≤ m) (hm : m ≤ 8) (hr : LF.length + m ≤ 420) : ES G l 0 mX12_feed [.ref M, .long w, .int (nI m)] h 0 0 (fun v h' => v = some (.int (nI (LF.length + m))) ∧ (∃ y', MD G h' M y' ∧ FED (th0 y 0) y' (LF ++ fdL w m)) ∧ Fr (atN M) h h') eNoX := by
  have hl := hL.1
  refine es_of (by decide) rfl (Nat.le_of_ble_eq_true rfl) ?_
  refine ex_aload_n rfl dX12_feed_0 ?_
  refine ex_iconst (v := (nI 0)) (by decide) dX12_feed_1 ?_
  refine ex_put dX12_feed_2 pf_X12_76 hM.1 (Nat.le_of_ble_eq_true rfl) rfl rfl ?_
  refine ex_iload_n rfl dX12_feed_5 ?_
  refine ex_iconst (v := (nI 1)) (by decide) dX12_feed_6 ?_
  refine ex_icmpN_lt (tgt := 28) (by decide) dX12_feed_7 (by omega) (by omega) (fun c1 => ?_) (fun c1 => ?_)
  · exfalso
    omega
  · refine ex_iload_n rfl dX12_feed_10 ?_
    refine ex_bipush (v := (nI 8)) (by decide) dX12_feed_11 ?_
    refine ex_icmpN_gt (tgt := 28) (by decide) dX12_feed_13 (by omega) (by omega) (fun c2 => ?_) (fun c2 => ?_)
    · exfalso
      omega
    · refine ex_aload_n rfl dX12_feed_16 ?_
      refine ex_get dX12_feed_17 gf_X12_224 hup_eq rfl ?_
      refine ex_iload_n rfl dX12_feed_20 ?_
      refine ex_iaddN dX12_feed_21 ?_
      refine ex_sipush (v := (nI 420)) (by decide) dX12_feed_22 ?_
      refine ex_icmpN_le (tgt := 30) (by decide) dX12_feed_25 (by omega) (by omega) (fun c3 => ?_) (fun c3 => ?_)
      · refine ex_iconst (v := (nI 0)) (by decide) dX12_feed_30 ?_
        refine ex_istore (by decide) rfl dX12_feed_31 ?_
        exact ex_lv [(0, .ref M), (1, .long w), (3, .int (nI (m))), (4, .int (nI (0)))] ⟨rfl, rfl, rfl, rfl, trivial⟩ (l_mfeed (y0 := th0 y 0) h1 hm hr (m + 1) 0 (by omega) (by omega) _ _ (hM.th 0 rfl) ⟨Kp.rf, (by rw [show fdL w 0 = [] from rfl, List.append_nil]; exact hL), rfl⟩ (Fr.rf.up ⟨by omega, by omega⟩))
      · exfalso
        omega
set_option maxHeartbeats 4000000 in
set_option maxRecDepth 100000 in
theorem t_feedN {G : EG} {l : Launch} {h : EH} {M : Nat} {y : MS} (hM : MD G h M y) (hl : ms y 28 ≤ 420) {w : Int64} {m : Int32} (hn : m < nI 1 ∨ nI 8 < m ∨ ∃ n, m = nI n ∧ n ≤ 8 ∧ 420 < ms y 28 + n) : ES G l 0 mX12_feed [.ref M, .long w, .int m] h 0 0 (fun v h' => v = some (.int (-1)) ∧ MD G h' M (th0 y 0) ∧ Fr (atN M) h h') eNoX := by
  refine es_of (by decide) rfl (Nat.le_of_ble_eq_true rfl) ?_
  refine ex_aload_n rfl dX12_feed_0 ?_
  refine ex_iconst (v := (nI 0)) (by decide) dX12_feed_1 ?_
  refine ex_put dX12_feed_2 pf_X12_76 hM.1 (Nat.le_of_ble_eq_true rfl) rfl rfl ?_
  refine ex_iload_n rfl dX12_feed_5 ?_
  refine ex_iconst (v := (nI 1)) (by decide) dX12_feed_6 ?_
  refine ex_icmp_lt (tgt := 28) (by decide) dX12_feed_7 (fun c1 => ?_) (fun c1 => ?_)
  · refine ex_iconst (v := (-1)) (by decide) dX12_feed_28 ?_
    refine ex_iret dX12_feed_29 rfl ⟨rfl, hM.th 0 rfl, (Fr.rf.up ⟨by omega, by omega⟩)⟩
  · refine ex_iload_n rfl dX12_feed_10 ?_
    refine ex_bipush (v := (nI 8)) (by decide) dX12_feed_11 ?_
    refine ex_icmp_gt (tgt := 28) (by decide) dX12_feed_13 (fun c2 => ?_) (fun c2 => ?_)
    · refine ex_iconst (v := (-1)) (by decide) dX12_feed_28 ?_
      refine ex_iret dX12_feed_29 rfl ⟨rfl, hM.th 0 rfl, (Fr.rf.up ⟨by omega, by omega⟩)⟩
    · refine ex_aload_n rfl dX12_feed_16 ?_
      refine ex_get dX12_feed_17 gf_X12_224 hup_eq rfl ?_
      refine ex_iload_n rfl dX12_feed_20 ?_
      refine ex_iadd dX12_feed_21 ?_
      refine ex_sipush (v := (nI 420)) (by decide) dX12_feed_22 ?_
      refine ex_icmp_le (tgt := 30) (by decide) dX12_feed_25 (fun c3 => ?_) (fun c3 => ?_)
      · exact hn.elim (fun z => absurd z c1) (fun z => z.elim (fun z => absurd z c2) (fun ⟨n, n1, n2, n3⟩ => by rw [n1, nI_add] at c3; exact absurd ((nI_leI (by omega) (by decide)).mp c3) (by omega)))
      · refine ex_iconst (v := (-1)) (by decide) dX12_feed_28 ?_
        refine ex_iret dX12_feed_29 rfl ⟨rfl, hM.th 0 rfl, (Fr.rf.up ⟨by omega, by omega⟩)⟩
set_option maxHeartbeats 4000000 in
set_option maxRecDepth 100000 in
theorem t_in {G : EG} {l : Launch} (h : EH) {x a b : Nat} (hx : x < 2 ^ 31) (ha : a < 2 ^ 31) (hb : b < 2 ^ 31) : ES G l 0 mX12_in [.int (nI x), .int (nI a), .int (nI b)] h 0 0 (fun v h' => v = some (.int (b2i (bP (a ≤ x ∧ x ≤ b)))) ∧ h' = h) eNoX := by
  refine es_of (by decide) rfl (Nat.le_of_ble_eq_true rfl) ?_
  refine ex_iload_n rfl dX12_in_0 ?_
  refine ex_iload_n rfl dX12_in_1 ?_
  refine ex_icmpN_lt (tgt := 14) (by decide) dX12_in_2 (by omega) (by omega) (fun c1 => ?_) (fun c1 => ?_)
  · refine ex_iconst (v := (nI 0)) (by decide) dX12_in_14 ?_
    refine ex_zret dX12_in_15 rfl rfl ⟨rF (fun z => by omega), rfl⟩
  · refine ex_iload_n rfl dX12_in_5 ?_
    refine ex_iload_n rfl dX12_in_6 ?_
    refine ex_icmpN_gt (tgt := 14) (by decide) dX12_in_7 (by omega) (by omega) (fun c2 => ?_) (fun c2 => ?_)
    · refine ex_iconst (v := (nI 0)) (by decide) dX12_in_14 ?_
      refine ex_zret dX12_in_15 rfl rfl ⟨rF (fun z => by omega), rfl⟩
    · refine ex_iconst (v := (nI 1)) (by decide) dX12_in_10 ?_
      refine ex_goto (tgt := 15) (by decide) dX12_in_11 ?_
      refine ex_zret dX12_in_15 rfl rfl ⟨rT ⟨by omega, by omega⟩, rfl⟩
def w1 (f : Nat → Nat) (k : Nat) : Prop := ∀ c, c < k → 1 ≤ f (2 + c) ∧ f (2 + c) ≤ 6
def w2 (f : Nat → Nat) (C k : Nat) : Prop := ∀ t, t < k → f (2 + C + t) ≤ 7
def w3 (f : Nat → Nat) (T C c k : Nat) : Prop := ∀ j, j < k → f (bAtc T C c + j) ≤ dHi T (2 ^ f (2 + c) - 1) j
def w4 (f : Nat → Nat) (T C k : Nat) : Prop := ∀ c, c < k → w3 f T C c (2 * (T * T) + 5)
theorem bA_lt {T C c : Nat} (h : c < C) : bAtc T C c + (2 * (T * T) + 5) ≤ bAtc T C C := by
  have := Nat.mul_le_mul_right (2 * (T * T) + 5) (Nat.succ_le_of_lt h)
  rw [Nat.succ_mul] at this
  show 2 + C + T + c * (2 * (T * T) + 5) + (2 * (T * T) + 5) ≤ 2 + C + T + C * (2 * (T * T) + 5)
  omega
theorem all_s {P : Nat → Prop} {k : Nat} : (∀ j, j < k + 1 → P j) ↔ (∀ j, j < k → P j) ∧ P k := ⟨fun h => ⟨fun j hj => h j (by omega), h k (by omega)⟩, fun h j hj => by rcases Nat.lt_or_ge j k with q | q; exact h.1 j q; rw [show j = k by omega]; exact h.2⟩
theorem dHi_y {T M k : Nat} (h : T * T ≤ k ∧ k < 2 * (T * T)) : dHi T M k = T := if_pos h
theorem dHi_n {T M k : Nat} (h : ¬ (T * T ≤ k ∧ k < 2 * (T * T))) : dHi T M k = M := if_neg h
theorem shr0 {m b : Nat} : m / 2 ^ b = 0 ↔ m ≤ 2 ^ b - 1 := by
  have := Nat.two_pow_pos b
  rw [Nat.div_eq_zero_iff]
  omega
set_option maxHeartbeats 4000000 in
set_option maxRecDepth 100000 in
theorem l_w4 {G : EG} {l : Launch} {h : EH} {M : Nat} {y : MS} (hM : MD G h M y) {f : Nat → Nat} (hf : mA y 16 = f) {N T C : Nat} (hN : ms y 28 = N) (hT : f 0 = T) (hC : f 1 = C) (h2 : 2 ≤ N) (hT1 : 1 ≤ T) (hT8 : T ≤ 8) (hC1 : 1 ≤ C) (hC3 : C ≤ 3) (hNe : N = bAtc T C C) (hb : ∀ j, j < N → f j < 256) {c : Nat} (hc : c < C) (ho : Ex G l 1 mX12_wellFormed (fun v h' => v = some (.int (b2i (bP (WF f N)))) ∧ h' = h) eNoX 0 0 177 [(0, .ref M), (1, .int (nI (T))), (2, .int (nI (C))), (3, .int (nI (2 * (T * T) + 5))), (4, .int (b2i (bP ((w1 f C ∧ w2 f C T) ∧ w4 f T C (c + 1))))), (5, .int (nI (c + 1)))] [] h) : ∀ (n k : Nat), 2 * (T * T) + 5 - k < n → k ≤ 2 * (T * T) + 5 → Ex G l 1 mX12_wellFormed (fun v h' => v = some (.int (b2i (bP (WF f N)))) ∧ h' = h) eNoX 0 0 203 [(0, .ref M), (1, .int (nI (T))), (2, .int (nI (C))), (3, .int (nI (2 * (T * T) + 5))), (4, .int (b2i (bP (((w1 f C ∧ w2 f C T) ∧ w4 f T C c) ∧ w3 f T C c k)))), (5, .int (nI (c))), (6, .int (nI (bAtc T C c))), (7, .int (nI (k)))] [] h := by
  intro n
  induction n with
  | zero =>
    intro k h1 h3
    omega
  | succ n ih =>
    intro k h1 h3
    have hTT : T * T ≤ 64 := sq8 hT8
    have k16 : h.2 (M + 16) = some (.inl (eA G 0, 420, .inl (fun j => nI (f j)))) := by rw [← hf]; exact hM.2 16 (by decide) (by decide)
    have hN4 : bAtc T C C ≤ 420 := by show 2 + C + T + C * (2 * (T * T) + 5) ≤ 420; have := Nat.mul_le_mul hC3 (show 2 * (T * T) + 5 ≤ 133 by omega); omega
    have hv : k < 2 * (T * T) + 5 → f (bAtc T C c + k) < 256 := fun z => hb _ (by have q := bA_lt (T := T) hc; omega)
    have hp : f (2 + c) < 256 := hb _ (by rw [hNe]; show 2 + c < 2 + C + T + C * (2 * (T * T) + 5); omega)
    have hQ0 := bA_lt (T := T) hc
    refine ex_iload rfl dX12_wellFormed_203 ?_
    refine ex_iload_n rfl dX12_wellFormed_205 ?_
    refine ex_icmpN_ge (tgt := 297) (by decide) dX12_wellFormed_206 (by omega) (by omega) (fun c1 => ?_) (fun c1 => ?_)
    · refine ex_iincN (z := 1) rfl (by decide) rfl dX12_wellFormed_297 ?_
      refine ex_goto (tgt := 177) (by decide) dX12_wellFormed_300 ?_
      exact ex_lv [(0, .ref M), (1, .int (nI (T))), (2, .int (nI (C))), (3, .int (nI (2 * (T * T) + 5))), (4, .int (b2i (bP ((w1 f C ∧ w2 f C T) ∧ w4 f T C (c + 1))))), (5, .int (nI (c + 1)))] ⟨rfl, rfl, rfl, rfl, bI_c (by rw [show k = 2 * (T * T) + 5 by omega]; exact ⟨fun z => ⟨z.1.1, all_s.mpr ⟨z.1.2, z.2⟩⟩, fun z => ⟨⟨z.1, (all_s.mp z.2).1⟩, (all_s.mp z.2).2⟩⟩), rfl, trivial⟩ ho
    · refine ex_iload rfl dX12_wellFormed_209 ?_
      refine ex_iload_n rfl dX12_wellFormed_211 ?_
      refine ex_iload_n rfl dX12_wellFormed_212 ?_
      refine ex_imulN dX12_wellFormed_213 ?_
      refine ex_icmpN_lt (tgt := 231) (by decide) dX12_wellFormed_214 (by omega) (by omega) (fun c2 => ?_) (fun c2 => ?_)
      · refine ex_iconst (v := (nI 0)) (by decide) dX12_wellFormed_231 ?_
        refine ex_istore (by decide) rfl dX12_wellFormed_232 ?_
        refine ex_iload rfl dX12_wellFormed_234 ?_
        refine ex_ifB_eq (tgt := 288) (by decide) dX12_wellFormed_236 (fun c3 => ?_) (fun c3 => ?_)
        · refine ex_iconst (v := (nI 0)) (by decide) dX12_wellFormed_288 ?_
          refine ex_istore (by decide) rfl dX12_wellFormed_289 ?_
          refine ex_iincN (z := 1) rfl (by decide) rfl dX12_wellFormed_291 ?_
          refine ex_goto (tgt := 203) (by decide) dX12_wellFormed_294 ?_
          exact ex_lv [(0, .ref M), (1, .int (nI (T))), (2, .int (nI (C))), (3, .int (nI (2 * (T * T) + 5))), (4, .int (b2i (bP (((w1 f C ∧ w2 f C T) ∧ w4 f T C c) ∧ w3 f T C c (k + 1))))), (5, .int (nI (c))), (6, .int (nI (bAtc T C c))), (7, .int (nI (k + 1)))] ⟨rfl, rfl, rfl, rfl, rF (fun z => bP_f c3 ⟨z.1, (all_s.mp z.2).1⟩), rfl, rfl, rfl, trivial⟩ (ih (k + 1) (by omega) (by omega))
        · refine ex_iload rfl dX12_wellFormed_239 ?_
          refine ex_ifN_eq (tgt := 261) (by decide) dX12_wellFormed_241 (by omega) (fun c4 => ?_) (fun c4 => ?_)
          · refine ex_aload_n rfl dX12_wellFormed_261 ?_
            refine ex_get dX12_wellFormed_262 gf_X12_63 hM.1 rfl ?_
            refine ex_iload rfl dX12_wellFormed_265 ?_
            refine ex_iload rfl dX12_wellFormed_267 ?_
            refine ex_iaddN dX12_wellFormed_269 ?_
            refine ex_ialdN dX12_wellFormed_270 k16 (by have q := bA_lt (T := T) hc; omega) (by decide) ?_
            refine ex_aload_n rfl dX12_wellFormed_271 ?_
            refine ex_get dX12_wellFormed_272 gf_X12_63 hM.1 rfl ?_
            refine ex_iconst (v := (nI 2)) (by decide) dX12_wellFormed_275 ?_
            refine ex_iload rfl dX12_wellFormed_276 ?_
            refine ex_iaddN dX12_wellFormed_278 ?_
            refine ex_ialdN dX12_wellFormed_279 k16 (by omega) (by decide) ?_
            refine ex_ishr dX12_wellFormed_280 ?_
            rw [shr_N (by have := hv (by omega); omega) (by have := ((bP_t c3).1.1.1 c hc).2; omega)]
            refine ex_ifN_ne (tgt := 288) (by decide) dX12_wellFormed_281 (by exact Nat.lt_of_le_of_lt (Nat.div_le_self _ _) (by have := hv (by omega); omega)) (fun c5 => ?_) (fun c5 => ?_)
            · refine ex_iconst (v := (nI 0)) (by decide) dX12_wellFormed_288 ?_
              refine ex_istore (by decide) rfl dX12_wellFormed_289 ?_
              refine ex_iincN (z := 1) rfl (by decide) rfl dX12_wellFormed_291 ?_
              refine ex_goto (tgt := 203) (by decide) dX12_wellFormed_294 ?_
              exact ex_lv [(0, .ref M), (1, .int (nI (T))), (2, .int (nI (C))), (3, .int (nI (2 * (T * T) + 5))), (4, .int (b2i (bP (((w1 f C ∧ w2 f C T) ∧ w4 f T C c) ∧ w3 f T C c (k + 1))))), (5, .int (nI (c))), (6, .int (nI (bAtc T C c))), (7, .int (nI (k + 1)))] ⟨rfl, rfl, rfl, rfl, rF (fun z => c5 (shr0.mpr (by have q := (all_s.mp z.2).2; rw [dHi_n (fun z => by omega)] at q; exact q))), rfl, rfl, rfl, trivial⟩ (ih (k + 1) (by omega) (by omega))
            · refine ex_iconst (v := (nI 1)) (by decide) dX12_wellFormed_284 ?_
              refine ex_goto (tgt := 289) (by decide) dX12_wellFormed_285 ?_
              refine ex_istore (by decide) rfl dX12_wellFormed_289 ?_
              refine ex_iincN (z := 1) rfl (by decide) rfl dX12_wellFormed_291 ?_
              refine ex_goto (tgt := 203) (by decide) dX12_wellFormed_294 ?_
              exact ex_lv [(0, .ref M), (1, .int (nI (T))), (2, .int (nI (C))), (3, .int (nI (2 * (T * T) + 5))), (4, .int (b2i (bP (((w1 f C ∧ w2 f C T) ∧ w4 f T C c) ∧ w3 f T C c (k + 1))))), (5, .int (nI (c))), (6, .int (nI (bAtc T C c))), (7, .int (nI (k + 1)))] ⟨rfl, rfl, rfl, rfl, rT ⟨(bP_t c3).1, all_s.mpr ⟨(bP_t c3).2, by rw [dHi_n (fun z => by omega)]; exact shr0.mp c5⟩⟩, rfl, rfl, rfl, trivial⟩ (ih (k + 1) (by omega) (by omega))
          · exact absurd c4 (by decide)
      · refine ex_iload rfl dX12_wellFormed_217 ?_
        refine ex_iconst (v := (nI 2)) (by decide) dX12_wellFormed_219 ?_
        refine ex_iload_n rfl dX12_wellFormed_220 ?_
        refine ex_imulN dX12_wellFormed_221 ?_
        refine ex_iload_n rfl dX12_wellFormed_222 ?_
        refine ex_imulN dX12_wellFormed_223 ?_
        rw [Nat.mul_assoc]
        refine ex_icmpN_ge (tgt := 231) (by decide) dX12_wellFormed_224 (by omega) (by omega) (fun c6 => ?_) (fun c6 => ?_)
        · refine ex_iconst (v := (nI 0)) (by decide) dX12_wellFormed_231 ?_
          refine ex_istore (by decide) rfl dX12_wellFormed_232 ?_
          refine ex_iload rfl dX12_wellFormed_234 ?_
          refine ex_ifB_eq (tgt := 288) (by decide) dX12_wellFormed_236 (fun c7 => ?_) (fun c7 => ?_)
          · refine ex_iconst (v := (nI 0)) (by decide) dX12_wellFormed_288 ?_
            refine ex_istore (by decide) rfl dX12_wellFormed_289 ?_
            refine ex_iincN (z := 1) rfl (by decide) rfl dX12_wellFormed_291 ?_
            refine ex_goto (tgt := 203) (by decide) dX12_wellFormed_294 ?_
            exact ex_lv [(0, .ref M), (1, .int (nI (T))), (2, .int (nI (C))), (3, .int (nI (2 * (T * T) + 5))), (4, .int (b2i (bP (((w1 f C ∧ w2 f C T) ∧ w4 f T C c) ∧ w3 f T C c (k + 1))))), (5, .int (nI (c))), (6, .int (nI (bAtc T C c))), (7, .int (nI (k + 1)))] ⟨rfl, rfl, rfl, rfl, rF (fun z => bP_f c7 ⟨z.1, (all_s.mp z.2).1⟩), rfl, rfl, rfl, trivial⟩ (ih (k + 1) (by omega) (by omega))
          · refine ex_iload rfl dX12_wellFormed_239 ?_
            refine ex_ifN_eq (tgt := 261) (by decide) dX12_wellFormed_241 (by omega) (fun c8 => ?_) (fun c8 => ?_)
            · refine ex_aload_n rfl dX12_wellFormed_261 ?_
              refine ex_get dX12_wellFormed_262 gf_X12_63 hM.1 rfl ?_
              refine ex_iload rfl dX12_wellFormed_265 ?_
              refine ex_iload rfl dX12_wellFormed_267 ?_
              refine ex_iaddN dX12_wellFormed_269 ?_
              refine ex_ialdN dX12_wellFormed_270 k16 (by have q := bA_lt (T := T) hc; omega) (by decide) ?_
              refine ex_aload_n rfl dX12_wellFormed_271 ?_
              refine ex_get dX12_wellFormed_272 gf_X12_63 hM.1 rfl ?_
              refine ex_iconst (v := (nI 2)) (by decide) dX12_wellFormed_275 ?_
              refine ex_iload rfl dX12_wellFormed_276 ?_
              refine ex_iaddN dX12_wellFormed_278 ?_
              refine ex_ialdN dX12_wellFormed_279 k16 (by omega) (by decide) ?_
              refine ex_ishr dX12_wellFormed_280 ?_
              rw [shr_N (by have := hv (by omega); omega) (by have := ((bP_t c7).1.1.1 c hc).2; omega)]
              refine ex_ifN_ne (tgt := 288) (by decide) dX12_wellFormed_281 (by exact Nat.lt_of_le_of_lt (Nat.div_le_self _ _) (by have := hv (by omega); omega)) (fun c9 => ?_) (fun c9 => ?_)
              · refine ex_iconst (v := (nI 0)) (by decide) dX12_wellFormed_288 ?_
                refine ex_istore (by decide) rfl dX12_wellFormed_289 ?_
                refine ex_iincN (z := 1) rfl (by decide) rfl dX12_wellFormed_291 ?_
                refine ex_goto (tgt := 203) (by decide) dX12_wellFormed_294 ?_
                exact ex_lv [(0, .ref M), (1, .int (nI (T))), (2, .int (nI (C))), (3, .int (nI (2 * (T * T) + 5))), (4, .int (b2i (bP (((w1 f C ∧ w2 f C T) ∧ w4 f T C c) ∧ w3 f T C c (k + 1))))), (5, .int (nI (c))), (6, .int (nI (bAtc T C c))), (7, .int (nI (k + 1)))] ⟨rfl, rfl, rfl, rfl, rF (fun z => c9 (shr0.mpr (by have q := (all_s.mp z.2).2; rw [dHi_n (fun z => by omega)] at q; exact q))), rfl, rfl, rfl, trivial⟩ (ih (k + 1) (by omega) (by omega))
              · refine ex_iconst (v := (nI 1)) (by decide) dX12_wellFormed_284 ?_
                refine ex_goto (tgt := 289) (by decide) dX12_wellFormed_285 ?_
                refine ex_istore (by decide) rfl dX12_wellFormed_289 ?_
                refine ex_iincN (z := 1) rfl (by decide) rfl dX12_wellFormed_291 ?_
                refine ex_goto (tgt := 203) (by decide) dX12_wellFormed_294 ?_
                exact ex_lv [(0, .ref M), (1, .int (nI (T))), (2, .int (nI (C))), (3, .int (nI (2 * (T * T) + 5))), (4, .int (b2i (bP (((w1 f C ∧ w2 f C T) ∧ w4 f T C c) ∧ w3 f T C c (k + 1))))), (5, .int (nI (c))), (6, .int (nI (bAtc T C c))), (7, .int (nI (k + 1)))] ⟨rfl, rfl, rfl, rfl, rT ⟨(bP_t c7).1, all_s.mpr ⟨(bP_t c7).2, by rw [dHi_n (fun z => by omega)]; exact shr0.mp c9⟩⟩, rfl, rfl, rfl, trivial⟩ (ih (k + 1) (by omega) (by omega))
            · exact absurd c8 (by decide)
        · refine ex_iconst (v := (nI 1)) (by decide) dX12_wellFormed_227 ?_
          refine ex_goto (tgt := 232) (by decide) dX12_wellFormed_228 ?_
          refine ex_istore (by decide) rfl dX12_wellFormed_232 ?_
          refine ex_iload rfl dX12_wellFormed_234 ?_
          refine ex_ifB_eq (tgt := 288) (by decide) dX12_wellFormed_236 (fun c10 => ?_) (fun c10 => ?_)
          · refine ex_iconst (v := (nI 0)) (by decide) dX12_wellFormed_288 ?_
            refine ex_istore (by decide) rfl dX12_wellFormed_289 ?_
            refine ex_iincN (z := 1) rfl (by decide) rfl dX12_wellFormed_291 ?_
            refine ex_goto (tgt := 203) (by decide) dX12_wellFormed_294 ?_
            exact ex_lv [(0, .ref M), (1, .int (nI (T))), (2, .int (nI (C))), (3, .int (nI (2 * (T * T) + 5))), (4, .int (b2i (bP (((w1 f C ∧ w2 f C T) ∧ w4 f T C c) ∧ w3 f T C c (k + 1))))), (5, .int (nI (c))), (6, .int (nI (bAtc T C c))), (7, .int (nI (k + 1)))] ⟨rfl, rfl, rfl, rfl, rF (fun z => bP_f c10 ⟨z.1, (all_s.mp z.2).1⟩), rfl, rfl, rfl, trivial⟩ (ih (k + 1) (by omega) (by omega))
          · refine ex_iload rfl dX12_wellFormed_239 ?_
            refine ex_ifN_eq (tgt := 261) (by decide) dX12_wellFormed_241 (by omega) (fun c11 => ?_) (fun c11 => ?_)
            · exact absurd c11 (by decide)
            · refine ex_aload_n rfl dX12_wellFormed_244 ?_
              refine ex_get dX12_wellFormed_245 gf_X12_63 hM.1 rfl ?_
              refine ex_iload rfl dX12_wellFormed_248 ?_
              refine ex_iload rfl dX12_wellFormed_250 ?_
              refine ex_iaddN dX12_wellFormed_252 ?_
              refine ex_ialdN dX12_wellFormed_253 k16 (by have q := bA_lt (T := T) hc; omega) (by decide) ?_
              refine ex_iload_n rfl dX12_wellFormed_254 ?_
              refine ex_icmpN_gt (tgt := 288) (by decide) dX12_wellFormed_255 (by have := hv (by omega); omega) (by omega) (fun c12 => ?_) (fun c12 => ?_)
              · refine ex_iconst (v := (nI 0)) (by decide) dX12_wellFormed_288 ?_
                refine ex_istore (by decide) rfl dX12_wellFormed_289 ?_
                refine ex_iincN (z := 1) rfl (by decide) rfl dX12_wellFormed_291 ?_
                refine ex_goto (tgt := 203) (by decide) dX12_wellFormed_294 ?_
                exact ex_lv [(0, .ref M), (1, .int (nI (T))), (2, .int (nI (C))), (3, .int (nI (2 * (T * T) + 5))), (4, .int (b2i (bP (((w1 f C ∧ w2 f C T) ∧ w4 f T C c) ∧ w3 f T C c (k + 1))))), (5, .int (nI (c))), (6, .int (nI (bAtc T C c))), (7, .int (nI (k + 1)))] ⟨rfl, rfl, rfl, rfl, rF (fun z => by have q := (all_s.mp z.2).2; rw [dHi_y ⟨by omega, by omega⟩] at q; omega), rfl, rfl, rfl, trivial⟩ (ih (k + 1) (by omega) (by omega))
              · refine ex_goto (tgt := 284) (by decide) dX12_wellFormed_258 ?_
                refine ex_iconst (v := (nI 1)) (by decide) dX12_wellFormed_284 ?_
                refine ex_goto (tgt := 289) (by decide) dX12_wellFormed_285 ?_
                refine ex_istore (by decide) rfl dX12_wellFormed_289 ?_
                refine ex_iincN (z := 1) rfl (by decide) rfl dX12_wellFormed_291 ?_
                refine ex_goto (tgt := 203) (by decide) dX12_wellFormed_294 ?_
                exact ex_lv [(0, .ref M), (1, .int (nI (T))), (2, .int (nI (C))), (3, .int (nI (2 * (T * T) + 5))), (4, .int (b2i (bP (((w1 f C ∧ w2 f C T) ∧ w4 f T C c) ∧ w3 f T C c (k + 1))))), (5, .int (nI (c))), (6, .int (nI (bAtc T C c))), (7, .int (nI (k + 1)))] ⟨rfl, rfl, rfl, rfl, rT ⟨(bP_t c10).1, all_s.mpr ⟨(bP_t c10).2, by rw [dHi_y ⟨by omega, by omega⟩]; omega⟩⟩, rfl, rfl, rfl, trivial⟩ (ih (k + 1) (by omega) (by omega))
set_option maxHeartbeats 4000000 in
set_option maxRecDepth 100000 in
theorem l_w3 {G : EG} {l : Launch} {h : EH} {M : Nat} {y : MS} (hM : MD G h M y) {f : Nat → Nat} (hf : mA y 16 = f) {N T C : Nat} (hN : ms y 28 = N) (hT : f 0 = T) (hC : f 1 = C) (h2 : 2 ≤ N) (hT1 : 1 ≤ T) (hT8 : T ≤ 8) (hC1 : 1 ≤ C) (hC3 : C ≤ 3) (hNe : N = bAtc T C C) (hb : ∀ j, j < N → f j < 256) : ∀ (f_ k : Nat), C - k < f_ → k ≤ C → Ex G l 1 mX12_wellFormed (fun v h' => v = some (.int (b2i (bP (WF f N)))) ∧ h' = h) eNoX 0 0 177 [(0, .ref M), (1, .int (nI (T))), (2, .int (nI (C))), (3, .int (nI (2 * (T * T) + 5))), (4, .int (b2i (bP ((w1 f C ∧ w2 f C T) ∧ w4 f T C k)))), (5, .int (nI (k)))] [] h := by
  intro f_
  induction f_ with
  | zero =>
    intro k h1 h3
    omega
  | succ f_ ih =>
    intro k h1 h3
    have hTT : T * T ≤ 64 := sq8 hT8
    have k16 : h.2 (M + 16) = some (.inl (eA G 0, 420, .inl (fun j => nI (f j)))) := by rw [← hf]; exact hM.2 16 (by decide) (by decide)
    have hN4 : bAtc T C C ≤ 420 := by show 2 + C + T + C * (2 * (T * T) + 5) ≤ 420; have := Nat.mul_le_mul hC3 (show 2 * (T * T) + 5 ≤ 133 by omega); omega
    refine ex_iload rfl dX12_wellFormed_177 ?_
    refine ex_iload_n rfl dX12_wellFormed_179 ?_
    refine ex_icmpN_ge (tgt := 303) (by decide) dX12_wellFormed_180 (by omega) (by omega) (fun c1 => ?_) (fun c1 => ?_)
    · refine ex_iload rfl dX12_wellFormed_303 ?_
      refine ex_zret dX12_wellFormed_305 rfl (b2i_nb _) ⟨by rw [show k = C by omega]; exact bI_c (⟨fun z => ⟨⟨h2, ⟨by rw [hT]; exact hT1, by rw [hT]; exact hT8⟩, by rw [hC]; exact hC1, by rw [hC]; exact hC3⟩, by rw [hT, hC]; exact hNe, by rw [hC]; exact z.1.1, by rw [hC, hT]; exact z.1.2, by rw [hC, hT]; exact z.2⟩, fun z => ⟨⟨by have q := z.2.2.1; rw [hC] at q; exact q, by have q := z.2.2.2.1; rw [hC, hT] at q; exact q⟩, by have q := z.2.2.2.2; rw [hC, hT] at q; exact q⟩⟩ : ((w1 f C ∧ w2 f C T) ∧ w4 f T C C) ↔ WF f N), rfl⟩
    · refine ex_iload rfl dX12_wellFormed_183 ?_
      refine ex_ifB_eq (tgt := 303) (by decide) dX12_wellFormed_185 (fun c2 => ?_) (fun c2 => ?_)
      · refine ex_iload rfl dX12_wellFormed_303 ?_
        refine ex_zret dX12_wellFormed_305 rfl (b2i_nb _) ⟨by rw [c2]; exact rF (fun z => bP_f c2 (by have q := (⟨fun z => ⟨⟨h2, ⟨by rw [hT]; exact hT1, by rw [hT]; exact hT8⟩, by rw [hC]; exact hC1, by rw [hC]; exact hC3⟩, by rw [hT, hC]; exact hNe, by rw [hC]; exact z.1.1, by rw [hC, hT]; exact z.1.2, by rw [hC, hT]; exact z.2⟩, fun z => ⟨⟨by have q := z.2.2.1; rw [hC] at q; exact q, by have q := z.2.2.2.1; rw [hC, hT] at q; exact q⟩, by have q := z.2.2.2.2; rw [hC, hT] at q; exact q⟩⟩ : ((w1 f C ∧ w2 f C T) ∧ w4 f T C C) ↔ WF f N).mpr z; exact ⟨q.1, fun j hj => q.2 j (by omega)⟩)), rfl⟩
      · refine ex_iconst (v := (nI 2)) (by decide) dX12_wellFormed_188 ?_
        refine ex_iload_n rfl dX12_wellFormed_189 ?_
        refine ex_iaddN dX12_wellFormed_190 ?_
        refine ex_iload_n rfl dX12_wellFormed_191 ?_
        refine ex_iaddN dX12_wellFormed_192 ?_
        refine ex_iload rfl dX12_wellFormed_193 ?_
        refine ex_iload_n rfl dX12_wellFormed_195 ?_
        refine ex_imulN dX12_wellFormed_196 ?_
        refine ex_iaddN dX12_wellFormed_197 ?_
        refine ex_istore (by decide) rfl dX12_wellFormed_198 ?_
        refine ex_iconst (v := (nI 0)) (by decide) dX12_wellFormed_200 ?_
        refine ex_istore (by decide) rfl dX12_wellFormed_201 ?_
        exact ex_lv [(0, .ref M), (1, .int (nI (T))), (2, .int (nI (C))), (3, .int (nI (2 * (T * T) + 5))), (4, .int (b2i (bP (((w1 f C ∧ w2 f C T) ∧ w4 f T C k) ∧ w3 f T C k 0)))), (5, .int (nI k)), (6, .int (nI (bAtc T C k))), (7, .int (nI (0)))] ⟨rfl, rfl, rfl, rfl, bI_c ⟨fun z => ⟨z, fun j hj => by omega⟩, fun z => z.1⟩, rfl, rfl, rfl, trivial⟩ (l_w4 hM hf hN hT hC h2 hT1 hT8 hC1 hC3 hNe hb c1 (ih (k + 1) (by omega) (by omega)) (2 * (T * T) + 5 + 1) 0 (by omega) (by omega))
set_option maxHeartbeats 4000000 in
set_option maxRecDepth 100000 in
theorem l_w2 {G : EG} {l : Launch} {h : EH} {M : Nat} {y : MS} (hM : MD G h M y) {f : Nat → Nat} (hf : mA y 16 = f) {N T C : Nat} (hN : ms y 28 = N) (hT : f 0 = T) (hC : f 1 = C) (h2 : 2 ≤ N) (hT1 : 1 ≤ T) (hT8 : T ≤ 8) (hC1 : 1 ≤ C) (hC3 : C ≤ 3) (hNe : N = bAtc T C C) (hb : ∀ j, j < N → f j < 256) : ∀ (f_ k : Nat), T - k < f_ → k ≤ T → Ex G l 1 mX12_wellFormed (fun v h' => v = some (.int (b2i (bP (WF f N)))) ∧ h' = h) eNoX 0 0 130 [(0, .ref M), (1, .int (nI (T))), (2, .int (nI (C))), (3, .int (nI (2 * (T * T) + 5))), (4, .int (b2i (bP (w1 f C ∧ w2 f C k)))), (5, .int (nI (k)))] [] h := by
  intro f_
  induction f_ with
  | zero =>
    intro k h1 h3
    omega
  | succ f_ ih =>
    intro k h1 h3
    have hTT : T * T ≤ 64 := sq8 hT8
    have k16 : h.2 (M + 16) = some (.inl (eA G 0, 420, .inl (fun j => nI (f j)))) := by rw [← hf]; exact hM.2 16 (by decide) (by decide)
    have hN4 : bAtc T C C ≤ 420 := by show 2 + C + T + C * (2 * (T * T) + 5) ≤ 420; have := Nat.mul_le_mul hC3 (show 2 * (T * T) + 5 ≤ 133 by omega); omega
    have hv : k < T → f (2 + C + k) < 256 := fun z => hb _ (by rw [hNe]; show 2 + C + k < 2 + C + T + C * (2 * (T * T) + 5); omega)
    refine ex_iload rfl dX12_wellFormed_130 ?_
    refine ex_iload_n rfl dX12_wellFormed_132 ?_
    refine ex_icmpN_ge (tgt := 174) (by decide) dX12_wellFormed_133 (by omega) (by omega) (fun c1 => ?_) (fun c1 => ?_)
    · refine ex_iconst (v := (nI 0)) (by decide) dX12_wellFormed_174 ?_
      refine ex_istore (by decide) rfl dX12_wellFormed_175 ?_
      exact ex_lv [(0, .ref M), (1, .int (nI (T))), (2, .int (nI (C))), (3, .int (nI (2 * (T * T) + 5))), (4, .int (b2i (bP ((w1 f C ∧ w2 f C T) ∧ w4 f T C 0)))), (5, .int (nI (0)))] ⟨rfl, rfl, rfl, rfl, bI_c (by rw [show k = T by omega]; exact ⟨fun z => ⟨z, fun c hc => by omega⟩, fun z => z.1⟩), rfl, trivial⟩ (l_w3 hM hf hN hT hC h2 hT1 hT8 hC1 hC3 hNe hb (C + 1) 0 (by omega) (by omega))
    · refine ex_iload rfl dX12_wellFormed_136 ?_
      refine ex_ifB_eq (tgt := 165) (by decide) dX12_wellFormed_138 (fun c2 => ?_) (fun c2 => ?_)
      · refine ex_iconst (v := (nI 0)) (by decide) dX12_wellFormed_165 ?_
        refine ex_istore (by decide) rfl dX12_wellFormed_166 ?_
        refine ex_iincN (z := 1) rfl (by decide) rfl dX12_wellFormed_168 ?_
        refine ex_goto (tgt := 130) (by decide) dX12_wellFormed_171 ?_
        exact ex_lv [(0, .ref M), (1, .int (nI (T))), (2, .int (nI (C))), (3, .int (nI (2 * (T * T) + 5))), (4, .int (b2i (bP (w1 f C ∧ w2 f C (k + 1))))), (5, .int (nI (k + 1)))] ⟨rfl, rfl, rfl, rfl, rF (fun z => bP_f c2 ⟨z.1, (all_s.mp z.2).1⟩), rfl, trivial⟩ (ih (k + 1) (by omega) (by omega))
      · refine ex_aload_n rfl dX12_wellFormed_141 ?_
        refine ex_get dX12_wellFormed_142 gf_X12_63 hM.1 rfl ?_
        refine ex_iconst (v := (nI 2)) (by decide) dX12_wellFormed_145 ?_
        refine ex_iload_n rfl dX12_wellFormed_146 ?_
        refine ex_iaddN dX12_wellFormed_147 ?_
        refine ex_iload rfl dX12_wellFormed_148 ?_
        refine ex_iaddN dX12_wellFormed_150 ?_
        refine ex_ialdN dX12_wellFormed_151 k16 (by omega) (by decide) ?_
        refine ex_iconst (v := (nI 0)) (by decide) dX12_wellFormed_152 ?_
        refine ex_bipush (v := (nI 7)) (by decide) dX12_wellFormed_153 ?_
        refine ex_invs (k := 0) (n := 0) (mc' := 0) (ms' := 0) (As := [_, _, _]) dX12_wellFormed_155 cs_X12_227 (by decide) (Nat.le_of_ble_eq_true rfl) (t_in _ (x := f (2 + C + k)) (a := 0) (b := 7) (by have := hv (by omega); omega) (by decide) (by decide)) (fun v h' q => ?_)
        obtain ⟨rfl, rfl⟩ := q
        refine ex_ifB_eq (tgt := 165) (by decide) dX12_wellFormed_158 (fun c3 => ?_) (fun c3 => ?_)
        · refine ex_iconst (v := (nI 0)) (by decide) dX12_wellFormed_165 ?_
          refine ex_istore (by decide) rfl dX12_wellFormed_166 ?_
          refine ex_iincN (z := 1) rfl (by decide) rfl dX12_wellFormed_168 ?_
          refine ex_goto (tgt := 130) (by decide) dX12_wellFormed_171 ?_
          exact ex_lv [(0, .ref M), (1, .int (nI (T))), (2, .int (nI (C))), (3, .int (nI (2 * (T * T) + 5))), (4, .int (b2i (bP (w1 f C ∧ w2 f C (k + 1))))), (5, .int (nI (k + 1)))] ⟨rfl, rfl, rfl, rfl, rF (fun z => bP_f c3 ⟨by omega, (all_s.mp z.2).2⟩), rfl, trivial⟩ (ih (k + 1) (by omega) (by omega))
        · refine ex_iconst (v := (nI 1)) (by decide) dX12_wellFormed_161 ?_
          refine ex_goto (tgt := 166) (by decide) dX12_wellFormed_162 ?_
          refine ex_istore (by decide) rfl dX12_wellFormed_166 ?_
          refine ex_iincN (z := 1) rfl (by decide) rfl dX12_wellFormed_168 ?_
          refine ex_goto (tgt := 130) (by decide) dX12_wellFormed_171 ?_
          exact ex_lv [(0, .ref M), (1, .int (nI (T))), (2, .int (nI (C))), (3, .int (nI (2 * (T * T) + 5))), (4, .int (b2i (bP (w1 f C ∧ w2 f C (k + 1))))), (5, .int (nI (k + 1)))] ⟨rfl, rfl, rfl, rfl, rT ⟨(bP_t c2).1, all_s.mpr ⟨(bP_t c2).2, (bP_t c3).2⟩⟩, rfl, trivial⟩ (ih (k + 1) (by omega) (by omega))
set_option maxHeartbeats 4000000 in
set_option maxRecDepth 100000 in
theorem l_w1 {G : EG} {l : Launch} {h : EH} {M : Nat} {y : MS} (hM : MD G h M y) {f : Nat → Nat} (hf : mA y 16 = f) {N T C : Nat} (hN : ms y 28 = N) (hT : f 0 = T) (hC : f 1 = C) (h2 : 2 ≤ N) (hT1 : 1 ≤ T) (hT8 : T ≤ 8) (hC1 : 1 ≤ C) (hC3 : C ≤ 3) (hNe : N = bAtc T C C) (hb : ∀ j, j < N → f j < 256) : ∀ (f_ k : Nat), C - k < f_ → k ≤ C → Ex G l 1 mX12_wellFormed (fun v h' => v = some (.int (b2i (bP (WF f N)))) ∧ h' = h) eNoX 0 0 85 [(0, .ref M), (1, .int (nI (T))), (2, .int (nI (C))), (3, .int (nI (2 * (T * T) + 5))), (4, .int (b2i (bP (w1 f k)))), (5, .int (nI (k)))] [] h := by
  intro f_
  induction f_ with
  | zero =>
    intro k h1 h3
    omega
  | succ f_ ih =>
    intro k h1 h3
    have hTT : T * T ≤ 64 := sq8 hT8
    have k16 : h.2 (M + 16) = some (.inl (eA G 0, 420, .inl (fun j => nI (f j)))) := by rw [← hf]; exact hM.2 16 (by decide) (by decide)
    have hN4 : bAtc T C C ≤ 420 := by show 2 + C + T + C * (2 * (T * T) + 5) ≤ 420; have := Nat.mul_le_mul hC3 (show 2 * (T * T) + 5 ≤ 133 by omega); omega
    have hv : k < C → f (2 + k) < 256 := fun z => hb _ (by rw [hNe]; show 2 + k < 2 + C + T + C * (2 * (T * T) + 5); omega)
    refine ex_iload rfl dX12_wellFormed_85 ?_
    refine ex_iload_n rfl dX12_wellFormed_87 ?_
    refine ex_icmpN_ge (tgt := 127) (by decide) dX12_wellFormed_88 (by omega) (by omega) (fun c1 => ?_) (fun c1 => ?_)
    · refine ex_iconst (v := (nI 0)) (by decide) dX12_wellFormed_127 ?_
      refine ex_istore (by decide) rfl dX12_wellFormed_128 ?_
      exact ex_lv [(0, .ref M), (1, .int (nI (T))), (2, .int (nI (C))), (3, .int (nI (2 * (T * T) + 5))), (4, .int (b2i (bP (w1 f C ∧ w2 f C 0)))), (5, .int (nI (0)))] ⟨rfl, rfl, rfl, rfl, bI_c (by rw [show k = C by omega]; exact ⟨fun z => ⟨z, fun c hc => by omega⟩, fun z => z.1⟩), rfl, trivial⟩ (l_w2 hM hf hN hT hC h2 hT1 hT8 hC1 hC3 hNe hb (T + 1) 0 (by omega) (by omega))
    · refine ex_iload rfl dX12_wellFormed_91 ?_
      refine ex_ifB_eq (tgt := 118) (by decide) dX12_wellFormed_93 (fun c2 => ?_) (fun c2 => ?_)
      · refine ex_iconst (v := (nI 0)) (by decide) dX12_wellFormed_118 ?_
        refine ex_istore (by decide) rfl dX12_wellFormed_119 ?_
        refine ex_iincN (z := 1) rfl (by decide) rfl dX12_wellFormed_121 ?_
        refine ex_goto (tgt := 85) (by decide) dX12_wellFormed_124 ?_
        exact ex_lv [(0, .ref M), (1, .int (nI (T))), (2, .int (nI (C))), (3, .int (nI (2 * (T * T) + 5))), (4, .int (b2i (bP (w1 f (k + 1))))), (5, .int (nI (k + 1)))] ⟨rfl, rfl, rfl, rfl, rF (fun z => bP_f c2 (all_s.mp z).1), rfl, trivial⟩ (ih (k + 1) (by omega) (by omega))
      · refine ex_aload_n rfl dX12_wellFormed_96 ?_
        refine ex_get dX12_wellFormed_97 gf_X12_63 hM.1 rfl ?_
        refine ex_iconst (v := (nI 2)) (by decide) dX12_wellFormed_100 ?_
        refine ex_iload rfl dX12_wellFormed_101 ?_
        refine ex_iaddN dX12_wellFormed_103 ?_
        refine ex_ialdN dX12_wellFormed_104 k16 (by omega) (by decide) ?_
        refine ex_iconst (v := (nI 1)) (by decide) dX12_wellFormed_105 ?_
        refine ex_bipush (v := (nI 6)) (by decide) dX12_wellFormed_106 ?_
        refine ex_invs (k := 0) (n := 0) (mc' := 0) (ms' := 0) (As := [_, _, _]) dX12_wellFormed_108 cs_X12_227 (by decide) (Nat.le_of_ble_eq_true rfl) (t_in _ (x := f (2 + k)) (a := 1) (b := 6) (by have := hv (by omega); omega) (by decide) (by decide)) (fun v h' q => ?_)
        obtain ⟨rfl, rfl⟩ := q
        refine ex_ifB_eq (tgt := 118) (by decide) dX12_wellFormed_111 (fun c3 => ?_) (fun c3 => ?_)
        · refine ex_iconst (v := (nI 0)) (by decide) dX12_wellFormed_118 ?_
          refine ex_istore (by decide) rfl dX12_wellFormed_119 ?_
          refine ex_iincN (z := 1) rfl (by decide) rfl dX12_wellFormed_121 ?_
          refine ex_goto (tgt := 85) (by decide) dX12_wellFormed_124 ?_
          exact ex_lv [(0, .ref M), (1, .int (nI (T))), (2, .int (nI (C))), (3, .int (nI (2 * (T * T) + 5))), (4, .int (b2i (bP (w1 f (k + 1))))), (5, .int (nI (k + 1)))] ⟨rfl, rfl, rfl, rfl, rF (fun z => bP_f c3 (all_s.mp z).2), rfl, trivial⟩ (ih (k + 1) (by omega) (by omega))
        · refine ex_iconst (v := (nI 1)) (by decide) dX12_wellFormed_114 ?_
          refine ex_goto (tgt := 119) (by decide) dX12_wellFormed_115 ?_
          refine ex_istore (by decide) rfl dX12_wellFormed_119 ?_
          refine ex_iincN (z := 1) rfl (by decide) rfl dX12_wellFormed_121 ?_
          refine ex_goto (tgt := 85) (by decide) dX12_wellFormed_124 ?_
          exact ex_lv [(0, .ref M), (1, .int (nI (T))), (2, .int (nI (C))), (3, .int (nI (2 * (T * T) + 5))), (4, .int (b2i (bP (w1 f (k + 1))))), (5, .int (nI (k + 1)))] ⟨rfl, rfl, rfl, rfl, rT (all_s.mpr ⟨bP_t c2, bP_t c3⟩), rfl, trivial⟩ (ih (k + 1) (by omega) (by omega))
set_option maxHeartbeats 4000000 in
set_option maxRecDepth 100000 in
theorem t_wellFormed {G : EG} {l : Launch} {h : EH} {M : Nat} {y : MS} (hM : MD G h M y) (hl : ms y 28 ≤ 420) (hb : ∀ j, j < ms y 28 → mA y 16 j < 256) : ES G l 1 mX12_wellFormed [.ref M] h 0 0 (fun v h' => v = some (.int (b2i (bP (WF (mA y 16) (ms y 28))))) ∧ h' = h) eNoX := by
  have b0 : 2 ≤ ms y 28 → mA y 16 0 < 256 := fun z => hb 0 (by omega)
  have b1 : 2 ≤ ms y 28 → mA y 16 1 < 256 := fun z => hb 1 (by omega)
  have k16 : h.2 (M + 16) = some (.inl (eA G 0, 420, .inl (fun j => nI (mA y 16 j)))) := hM.2 16 (by decide) (by decide)
  refine es_of (by decide) rfl (Nat.le_of_ble_eq_true rfl) ?_
  refine ex_aload_n rfl dX12_wellFormed_0 ?_
  refine ex_get dX12_wellFormed_1 gf_X12_224 hM.1 rfl ?_
  refine ex_iconst (v := (nI 2)) (by decide) dX12_wellFormed_4 ?_
  refine ex_icmpN_lt (tgt := 37) (by decide) dX12_wellFormed_5 (by omega) (by omega) (fun c1 => ?_) (fun c1 => ?_)
  · refine ex_iconst (v := (nI 0)) (by decide) dX12_wellFormed_37 ?_
    refine ex_zret dX12_wellFormed_38 rfl rfl ⟨rF (fun z => by have := z.1.1; omega), rfl⟩
  · refine ex_aload_n rfl dX12_wellFormed_8 ?_
    refine ex_get dX12_wellFormed_9 gf_X12_63 hM.1 rfl ?_
    refine ex_iconst (v := (nI 0)) (by decide) dX12_wellFormed_12 ?_
    refine ex_ialdN dX12_wellFormed_13 k16 (by omega) (by decide) ?_
    refine ex_iconst (v := (nI 1)) (by decide) dX12_wellFormed_14 ?_
    refine ex_bipush (v := (nI 8)) (by decide) dX12_wellFormed_15 ?_
    refine ex_invs (k := 0) (n := 0) (mc' := 0) (ms' := 0) (As := [_, _, _]) dX12_wellFormed_17 cs_X12_227 (by decide) (Nat.le_of_ble_eq_true rfl) (t_in _ (x := mA y 16 0) (a := 1) (b := 8) (by have := b0 (by omega); omega) (by decide) (by decide)) (fun v h' q => ?_)
    obtain ⟨rfl, rfl⟩ := q
    refine ex_ifB_eq (tgt := 37) (by decide) dX12_wellFormed_20 (fun c2 => ?_) (fun c2 => ?_)
    · refine ex_iconst (v := (nI 0)) (by decide) dX12_wellFormed_37 ?_
      refine ex_zret dX12_wellFormed_38 rfl rfl ⟨rF (fun z => bP_f c2 z.1.2.1), rfl⟩
    · refine ex_aload_n rfl dX12_wellFormed_23 ?_
      refine ex_get dX12_wellFormed_24 gf_X12_63 hM.1 rfl ?_
      refine ex_iconst (v := (nI 1)) (by decide) dX12_wellFormed_27 ?_
      refine ex_ialdN dX12_wellFormed_28 k16 (by omega) (by decide) ?_
      refine ex_iconst (v := (nI 1)) (by decide) dX12_wellFormed_29 ?_
      refine ex_iconst (v := (nI 3)) (by decide) dX12_wellFormed_30 ?_
      refine ex_invs (k := 0) (n := 0) (mc' := 0) (ms' := 0) (As := [_, _, _]) dX12_wellFormed_31 cs_X12_227 (by decide) (Nat.le_of_ble_eq_true rfl) (t_in _ (x := mA y 16 1) (a := 1) (b := 3) (by have := b1 (by omega); omega) (by decide) (by decide)) (fun v h' q => ?_)
      obtain ⟨rfl, rfl⟩ := q
      refine ex_ifB_ne (tgt := 39) (by decide) dX12_wellFormed_34 (fun c3 => ?_) (fun c3 => ?_)
      · refine ex_aload_n rfl dX12_wellFormed_39 ?_
        refine ex_get dX12_wellFormed_40 gf_X12_63 hM.1 rfl ?_
        refine ex_iconst (v := (nI 0)) (by decide) dX12_wellFormed_43 ?_
        refine ex_ialdN dX12_wellFormed_44 k16 (by omega) (by decide) ?_
        refine ex_istore_n (by decide) rfl dX12_wellFormed_45 ?_
        refine ex_aload_n rfl dX12_wellFormed_46 ?_
        refine ex_get dX12_wellFormed_47 gf_X12_63 hM.1 rfl ?_
        refine ex_iconst (v := (nI 1)) (by decide) dX12_wellFormed_50 ?_
        refine ex_ialdN dX12_wellFormed_51 k16 (by omega) (by decide) ?_
        refine ex_istore_n (by decide) rfl dX12_wellFormed_52 ?_
        refine ex_iconst (v := (nI 2)) (by decide) dX12_wellFormed_53 ?_
        refine ex_iload_n rfl dX12_wellFormed_54 ?_
        refine ex_imulN dX12_wellFormed_55 ?_
        refine ex_iload_n rfl dX12_wellFormed_56 ?_
        refine ex_imulN dX12_wellFormed_57 ?_
        rw [Nat.mul_assoc]
        have t8 := bP_t c2
        have t3 := bP_t c3
        have hTT := sq8 t8.2
        have hCE : mA y 16 1 * (2 * (mA y 16 0 * mA y 16 0) + 5) ≤ 3 * 133 := Nat.mul_le_mul t3.2 (by omega)
        refine ex_iconst (v := (nI 5)) (by decide) dX12_wellFormed_58 ?_
        refine ex_iaddN dX12_wellFormed_59 ?_
        refine ex_istore_n (by decide) rfl dX12_wellFormed_60 ?_
        refine ex_aload_n rfl dX12_wellFormed_61 ?_
        refine ex_get dX12_wellFormed_62 gf_X12_224 hM.1 rfl ?_
        refine ex_iconst (v := (nI 2)) (by decide) dX12_wellFormed_65 ?_
        refine ex_iload_n rfl dX12_wellFormed_66 ?_
        refine ex_iaddN dX12_wellFormed_67 ?_
        refine ex_iload_n rfl dX12_wellFormed_68 ?_
        refine ex_iaddN dX12_wellFormed_69 ?_
        refine ex_iload_n rfl dX12_wellFormed_70 ?_
        refine ex_iload_n rfl dX12_wellFormed_71 ?_
        refine ex_imulN dX12_wellFormed_72 ?_
        refine ex_iaddN dX12_wellFormed_73 ?_
        refine ex_icmpN_eq (tgt := 79) (by decide) dX12_wellFormed_74 (by omega) (by omega) (fun c4 => ?_) (fun c4 => ?_)
        · refine ex_iconst (v := (nI 1)) (by decide) dX12_wellFormed_79 ?_
          refine ex_istore (by decide) rfl dX12_wellFormed_80 ?_
          refine ex_iconst (v := (nI 0)) (by decide) dX12_wellFormed_82 ?_
          refine ex_istore (by decide) rfl dX12_wellFormed_83 ?_
          exact ex_lv [(0, .ref M), (1, .int (nI (mA y 16 0))), (2, .int (nI (mA y 16 1))), (3, .int (nI (2 * (mA y 16 0 * mA y 16 0) + 5))), (4, .int (b2i (bP (w1 (mA y 16) 0)))), (5, .int (nI (0)))] ⟨rfl, rfl, rfl, rfl, rT (fun c hc => by omega), rfl, trivial⟩ (l_w1 hM rfl rfl rfl rfl (by omega) t8.1 t8.2 t3.1 t3.2 c4 hb (mA y 16 1 + 1) 0 (by omega) (by omega))
        · refine ex_iconst (v := (nI 0)) (by decide) dX12_wellFormed_77 ?_
          refine ex_zret dX12_wellFormed_78 rfl rfl ⟨rF (fun z => c4 z.2.1), rfl⟩
      · refine ex_iconst (v := (nI 0)) (by decide) dX12_wellFormed_37 ?_
        refine ex_zret dX12_wellFormed_38 rfl rfl ⟨rF (fun z => bP_f c3 z.1.2.2), rfl⟩
