/-! THE MODEL: shared names, the first never against an allow, numbers of names, masks -/
def pSh (y : MS) (r s i j : Nat) : Prop := 3 ≤ i ∧ i < sz (mS y r) ∧ 3 ≤ j ∧ j < sz (mS y s) ∧ wd (mS y r) i = wd (mS y s) j
def shr (y : MS) (r s : Nat) : Prop := ∃ i j, pSh y r s i j
set_option maxHeartbeats 4000000 in
set_option maxRecDepth 100000 in
theorem l_shr2 {G : EG} {l : Launch} {h : EH} {M : Nat} {y : MS} (hM : MD G h M y) (hB : mB y) {r s : Nat} (hr : r < 41) (hs : s < 41) {j : Nat} (hj : 3 ≤ j) (hj9 : j < sz (mS y r)) (ho : Ex G l 1 mX12_shared (fun v h' => v = some (.int (b2i (bP (shr y r s)))) ∧ h' = h) eNoX 0 0 5 [(0, .ref M), (1, .int (nI (r))), (2, .int (nI (s))), (3, .int (b2i (bP (ex2 (pSh y r s) (j + 1) 0)))), (4, .int (nI (j + 1)))] [] h) : ∀ (f k : Nat), 10 - k < f → 3 ≤ k → k ≤ 10 → Ex G l 1 mX12_shared (fun v h' => v = some (.int (b2i (bP (shr y r s)))) ∧ h' = h) eNoX 0 0 19 [(0, .ref M), (1, .int (nI (r))), (2, .int (nI (s))), (3, .int (b2i (bP (ex2 (pSh y r s) j k)))), (4, .int (nI (j))), (5, .int (nI (k)))] [] h := by
  intro f
  induction f with
  | zero =>
    intro k h1 h2 h3
    omega
  | succ f ih =>
    intro k h1 h2 h3
    have k3 : h.2 (M + 3) = some (.inl (eA G 0, 41, .inl (fun j => nI (mA y 3 j)))) := hM.2 3 (by decide) (by decide)
    have s1 : mA y 3 s ≤ 9 := (hB.2.2 s).2.1
    have z1 : sz (mS y s) ≤ 9 := s1
    have s2 : mA y 3 r ≤ 9 := (hB.2.2 r).2.1
    have z2 : sz (mS y r) ≤ 9 := s2
    have hwk := mS_wd hB s k
    have hwj := mS_wd hB r j
    refine ex_iload rfl dX12_shared_19 ?_
    refine ex_aload_n rfl dX12_shared_21 ?_
    refine ex_get dX12_shared_22 gf_X12_21 hM.1 rfl ?_
    refine ex_iload_n rfl dX12_shared_25 ?_
    refine ex_ialdN dX12_shared_26 k3 (by omega) (by decide) ?_
    refine ex_icmpN_ge (tgt := 63) (by decide) dX12_shared_27 (by omega) (show sz (mS y s) < 2 ^ 31 by omega) (fun c1 => ?_) (fun c1 => ?_)
    · refine ex_iincN (z := 1) rfl (by decide) rfl dX12_shared_63 ?_
      refine ex_goto (tgt := 5) (by decide) dX12_shared_66 ?_
      exact ex_lv [(0, .ref M), (1, .int (nI (r))), (2, .int (nI (s))), (3, .int (b2i (bP (ex2 (pSh y r s) (j + 1) 0)))), (4, .int (nI (j + 1)))] ⟨rfl, rfl, rfl, bI_c (ex2_n (fun i hi z => by have := z.2.2.2.1; have : sz (mS y s) ≤ k := c1; omega)), rfl, trivial⟩ ho
    · refine ex_iload_n rfl dX12_shared_30 ?_
      refine ex_ifB_ne (tgt := 51) (by decide) dX12_shared_31 (fun c2 => ?_) (fun c2 => ?_)
      · refine ex_iconst (v := (nI 1)) (by decide) dX12_shared_51 ?_
        refine ex_goto (tgt := 56) (by decide) dX12_shared_52 ?_
        refine ex_istore_n (by decide) rfl dX12_shared_56 ?_
        refine ex_iincN (z := 1) rfl (by decide) rfl dX12_shared_57 ?_
        refine ex_goto (tgt := 19) (by decide) dX12_shared_60 ?_
        exact ex_lv [(0, .ref M), (1, .int (nI (r))), (2, .int (nI (s))), (3, .int (b2i (bP (ex2 (pSh y r s) j (k + 1))))), (4, .int (nI (j))), (5, .int (nI (k + 1)))] ⟨rfl, rfl, rfl, rT (ex2_s.mpr (Or.inl (bP_t c2))), rfl, rfl, trivial⟩ (ih (k + 1) (by omega) (by omega) (by have hk1 : k < sz (mS y s) := c1; omega))
      · refine ex_aload_n rfl dX12_shared_34 ?_
        refine ex_iload_n rfl dX12_shared_35 ?_
        refine ex_iload rfl dX12_shared_36 ?_
        refine ex_invv (k := 0) (n := 0) (mc' := 0) (ms' := 0) (As := [_, _]) dX12_shared_38 cv_X12_124 (by decide) (Nat.le_of_ble_eq_true rfl) (Or.inl ⟨_, _, _, _, hM.1, rfl⟩) (t_nameAt hM (s := r) (k := j) (by omega) (by omega)) (fun v h' q => ?_)
        obtain ⟨rfl, rfl⟩ := q
        refine ex_aload_n rfl dX12_shared_41 ?_
        refine ex_iload_n rfl dX12_shared_42 ?_
        refine ex_iload rfl dX12_shared_43 ?_
        refine ex_invv (k := 0) (n := 0) (mc' := 0) (ms' := 0) (As := [_, _]) dX12_shared_45 cv_X12_124 (by decide) (Nat.le_of_ble_eq_true rfl) (Or.inl ⟨_, _, _, _, hM.1, rfl⟩) (t_nameAt hM (s := s) (k := k) (by omega) (by have hk1 : k < sz (mS y s) := c1; omega)) (fun v h' q => ?_)
        obtain ⟨rfl, rfl⟩ := q
        refine ex_icmpN_ne (tgt := 55) (by decide) dX12_shared_48 (Nat.lt_trans hwj (by decide)) (Nat.lt_trans hwk (by decide)) (fun c3 => ?_) (fun c3 => ?_)
        · refine ex_iconst (v := (nI 0)) (by decide) dX12_shared_55 ?_
          refine ex_istore_n (by decide) rfl dX12_shared_56 ?_
          refine ex_iincN (z := 1) rfl (by decide) rfl dX12_shared_57 ?_
          refine ex_goto (tgt := 19) (by decide) dX12_shared_60 ?_
          exact ex_lv [(0, .ref M), (1, .int (nI (r))), (2, .int (nI (s))), (3, .int (b2i (bP (ex2 (pSh y r s) j (k + 1))))), (4, .int (nI (j))), (5, .int (nI (k + 1)))] ⟨rfl, rfl, rfl, rF (fun z => (ex2_s.mp z).elim (bP_f c2) (fun z => c3 z.2.2.2.2)), rfl, rfl, trivial⟩ (ih (k + 1) (by omega) (by omega) (by have hk1 : k < sz (mS y s) := c1; omega))
        · refine ex_iconst (v := (nI 1)) (by decide) dX12_shared_51 ?_
          refine ex_goto (tgt := 56) (by decide) dX12_shared_52 ?_
          refine ex_istore_n (by decide) rfl dX12_shared_56 ?_
          refine ex_iincN (z := 1) rfl (by decide) rfl dX12_shared_57 ?_
          refine ex_goto (tgt := 19) (by decide) dX12_shared_60 ?_
          exact ex_lv [(0, .ref M), (1, .int (nI (r))), (2, .int (nI (s))), (3, .int (b2i (bP (ex2 (pSh y r s) j (k + 1))))), (4, .int (nI (j))), (5, .int (nI (k + 1)))] ⟨rfl, rfl, rfl, rT (ex2_s.mpr (Or.inr ⟨hj, hj9, h2, c1, c3⟩)), rfl, rfl, trivial⟩ (ih (k + 1) (by omega) (by omega) (by have hk1 : k < sz (mS y s) := c1; omega))
set_option maxHeartbeats 4000000 in
set_option maxRecDepth 100000 in
theorem l_shr1 {G : EG} {l : Launch} {h : EH} {M : Nat} {y : MS} (hM : MD G h M y) (hB : mB y) {r s : Nat} (hr : r < 41) (hs : s < 41) : ∀ (f k : Nat), 10 - k < f → 3 ≤ k → k ≤ 10 → Ex G l 1 mX12_shared (fun v h' => v = some (.int (b2i (bP (shr y r s)))) ∧ h' = h) eNoX 0 0 5 [(0, .ref M), (1, .int (nI (r))), (2, .int (nI (s))), (3, .int (b2i (bP (ex2 (pSh y r s) k 0)))), (4, .int (nI (k)))] [] h := by
  intro f
  induction f with
  | zero =>
    intro k h1 h2 h3
    omega
  | succ f ih =>
    intro k h1 h2 h3
    have k3 : h.2 (M + 3) = some (.inl (eA G 0, 41, .inl (fun j => nI (mA y 3 j)))) := hM.2 3 (by decide) (by decide)
    have s2 : mA y 3 r ≤ 9 := (hB.2.2 r).2.1
    have z2 : sz (mS y r) ≤ 9 := s2
    refine ex_iload rfl dX12_shared_5 ?_
    refine ex_aload_n rfl dX12_shared_7 ?_
    refine ex_get dX12_shared_8 gf_X12_21 hM.1 rfl ?_
    refine ex_iload_n rfl dX12_shared_11 ?_
    refine ex_ialdN dX12_shared_12 k3 (by omega) (by decide) ?_
    refine ex_icmpN_ge (tgt := 69) (by decide) dX12_shared_13 (by omega) (show sz (mS y r) < 2 ^ 31 by omega) (fun c1 => ?_) (fun c1 => ?_)
    · refine ex_iload_n rfl dX12_shared_69 ?_
      refine ex_zret dX12_shared_70 rfl (b2i_nb _) ⟨bI_c (ex2_e (fun i j z => Nat.lt_of_lt_of_le z.2.1 c1)), rfl⟩
    · refine ex_iconst (v := (nI 3)) (by decide) dX12_shared_16 ?_
      refine ex_istore (by decide) rfl dX12_shared_17 ?_
      have hk1 : k < sz (mS y r) := c1
      exact ex_lv [(0, .ref M), (1, .int (nI (r))), (2, .int (nI (s))), (3, .int (b2i (bP (ex2 (pSh y r s) k 3)))), (4, .int (nI k)), (5, .int (nI (3)))] ⟨rfl, rfl, rfl, bI_c (ex2_b (fun j hj z => by have := z.2.2.1; omega)), rfl, rfl, trivial⟩ (l_shr2 hM hB hr hs h2 c1 (ih (k + 1) (by omega) (by omega) (by omega)) 11 3 (by omega) (by omega) (by omega))
set_option maxHeartbeats 4000000 in
set_option maxRecDepth 100000 in
theorem t_shared {G : EG} {l : Launch} {h : EH} {M : Nat} {y : MS} (hM : MD G h M y) (hB : mB y) {r s : Nat} (hr : r < 41) (hs : s < 41) : ES G l 1 mX12_shared [.ref M, .int (nI r), .int (nI s)] h 0 0 (fun v h' => v = some (.int (b2i (bP (shr y r s)))) ∧ h' = h) eNoX := by
  refine es_of (by decide) rfl (Nat.le_of_ble_eq_true rfl) ?_
  refine ex_iconst (v := (nI 0)) (by decide) dX12_shared_0 ?_
  refine ex_istore_n (by decide) rfl dX12_shared_1 ?_
  refine ex_iconst (v := (nI 3)) (by decide) dX12_shared_2 ?_
  refine ex_istore (by decide) rfl dX12_shared_3 ?_
  exact ex_lv [(0, .ref M), (1, .int (nI (r))), (2, .int (nI (s))), (3, .int (b2i (bP (ex2 (pSh y r s) 3 0)))), (4, .int (nI (3)))] ⟨rfl, rfl, rfl, rF (fun ⟨i, j, z, w⟩ => by have := z.1; omega), rfl, trivial⟩ (l_shr1 hM hB hr hs 11 3 (by omega) (by omega) (by omega))
abbrev mT (y : MS) : Nat := cntk (mS y) 1 (ms y 6)
def agp (y : MS) (s r o p : Nat) : Prop := abt mSelf (mS y) (ms y 6) s o p ∧ abt mSelf (mS y) (ms y 6) r o p
def agr (y : MS) (s r : Nat) : Prop := kd (mS y r) = 2 ∧ wd (mS y r) 2 = wd (mS y s) 2 ∧ shr y r s ∧ ∃ o p, o < mT y ∧ p < mT y ∧ agp y s r o p
def agm (y : MS) (s : Nat) : Prop := kd (mS y s) = 3 ∧ ∃ r, r < ms y 6 ∧ agr y s r
def FAm (y : MS) (r : Option Nat) : Prop := (∀ i, r = some i → i < ms y 6 ∧ agm y i ∧ ∀ j, j < i → ¬ agm y j) ∧ (r = none → ∀ j, j < ms y 6 → ¬ agm y j)
theorem sq_pair {T k : Nat} (h : k < T * T) : k / T < T ∧ k % T < T := ⟨Nat.div_lt_of_lt_mul h, Nat.mod_lt _ (by rcases Nat.eq_zero_or_pos T with q | q; rw [q] at h; omega; exact q)⟩
theorem sq_back {T a b : Nat} (ha : a < T) (hb : b < T) : a * T + b < T * T ∧ (a * T + b) / T = a ∧ (a * T + b) % T = b := by
  have h1 : (a + 1) * T ≤ T * T := Nat.mul_le_mul_right T ha
  rw [Nat.succ_mul] at h1
  refine ⟨by omega, ?_, ?_⟩
  · rw [Nat.mul_comm, Nat.mul_add_div (by omega), Nat.div_eq_of_lt hb]; omega
  · rw [Nat.mul_comm, Nat.mul_add_mod, Nat.mod_eq_of_lt hb]
theorem sq_all {T : Nat} {P : Nat → Nat → Prop} (h : ∀ k, k < T * T → ¬ P (k / T) (k % T)) {a b : Nat} (ha : a < T) (hb : b < T) : ¬ P a b := by
  have := sq_back ha hb
  have h1 := h _ this.1
  rw [this.2.1, this.2.2] at h1
  exact h1
set_option maxHeartbeats 4000000 in
set_option maxRecDepth 100000 in
theorem l_fa0 {G : EG} {l : Launch} {h : EH} {M : Nat} {y : MS} (hM : MD G h M y) (hB : mB y) {s r : Nat} (hs : s < ms y 6) (hr : r < ms y 6) (ho : Ex G l 3 mX12_firstAgainst (fun v h' => ∃ r, v = some (.int (oI r)) ∧ h' = h ∧ FAm y r) eNoX 0 0 23 [(0, .ref M), (1, .int (nI (mT y))), (2, .int (nI (s))), (3, .int (nI (r + 1)))] [] h) : Ex G l 3 mX12_firstAgainst (fun v h' => ∃ r, v = some (.int (oI r)) ∧ h' = h ∧ FAm y r) eNoX 0 0 85 [(0, .ref M), (1, .int (nI (mT y))), (2, .int (nI (s))), (3, .int (nI (r))), (4, .int (nI (0))), (5, .int (nI (0)))] [] h := by
  have hn := hB.1
  have hT : mT y ≤ ms y 6 := cntk_le (mS y) 1 (ms y 6)
  have hTT : mT y * mT y ≤ 40 * 40 := Nat.mul_le_mul (by omega) (by omega)
  refine ex_iload rfl dX12_firstAgainst_85 ?_
  refine ex_iload_n rfl dX12_firstAgainst_87 ?_
  refine ex_iload_n rfl dX12_firstAgainst_88 ?_
  refine ex_imulN dX12_firstAgainst_89 ?_
  refine ex_icmpN_ge (tgt := 138) (by decide) dX12_firstAgainst_90 (by omega) (by omega) (fun c1 => ?_) (fun c1 => ?_)
  · refine ex_iincN (z := 1) rfl (by decide) rfl dX12_firstAgainst_138 ?_
    refine ex_goto (tgt := 23) (by decide) dX12_firstAgainst_141 ?_
    exact ex_lv [(0, .ref M), (1, .int (nI (mT y))), (2, .int (nI (s))), (3, .int (nI (r + 1)))] ⟨rfl, rfl, rfl, rfl, trivial⟩ ho
  · refine ex_iload rfl dX12_firstAgainst_93 ?_
    refine ex_ifN_eq (tgt := 138) (by decide) dX12_firstAgainst_95 (by omega) (fun c2 => ?_) (fun c2 => ?_)
    · refine ex_iincN (z := 1) rfl (by decide) rfl dX12_firstAgainst_138 ?_
      refine ex_goto (tgt := 23) (by decide) dX12_firstAgainst_141 ?_
      exact ex_lv [(0, .ref M), (1, .int (nI (mT y))), (2, .int (nI (s))), (3, .int (nI (r + 1)))] ⟨rfl, rfl, rfl, rfl, trivial⟩ ho
    · exact absurd c2 (by decide)
set_option maxHeartbeats 4000000 in
set_option maxRecDepth 100000 in
theorem l_fa3 {G : EG} {l : Launch} {h : EH} {M : Nat} {y : MS} (hM : MD G h M y) (hB : mB y) (hH : mH y) {s r : Nat} (hs : s < ms y 6) (hr : r < ms y 6) (h3 : kd (mS y s) = 3) (hfst : ∀ j, j < s → ¬ agm y j) (g1 : kd (mS y r) = 2) (g2 : wd (mS y r) 2 = wd (mS y s) 2) (g3 : shr y r s) (ho : ¬ agr y s r → Ex G l 3 mX12_firstAgainst (fun v h' => ∃ r, v = some (.int (oI r)) ∧ h' = h ∧ FAm y r) eNoX 0 0 23 [(0, .ref M), (1, .int (nI (mT y))), (2, .int (nI (s))), (3, .int (nI (r + 1)))] [] h) : ∀ (f k : Nat), mT y * mT y - k < f → k ≤ mT y * mT y → (∀ j, j < k → ¬ agp y s r (j / mT y) (j % mT y)) → Ex G l 3 mX12_firstAgainst (fun v h' => ∃ r, v = some (.int (oI r)) ∧ h' = h ∧ FAm y r) eNoX 0 0 85 [(0, .ref M), (1, .int (nI (mT y))), (2, .int (nI (s))), (3, .int (nI (r))), (4, .int (nI (1))), (5, .int (nI (k)))] [] h := by
  intro f
  induction f with
  | zero =>
    intro k h1 h2 he
    omega
  | succ f ih =>
    intro k h1 h2 he
    have hn := hB.1
    have hT : mT y ≤ ms y 6 := cntk_le (mS y) 1 (ms y 6)
    have hTT : mT y * mT y ≤ 40 * 40 := Nat.mul_le_mul (by omega) (by omega)
    have q2 := hH.sk (m := 2) hs h3 (by decide)
    have q3 := hH.sk (m := 2) hr g1 (by decide)
    refine ex_iload rfl dX12_firstAgainst_85 ?_
    refine ex_iload_n rfl dX12_firstAgainst_87 ?_
    refine ex_iload_n rfl dX12_firstAgainst_88 ?_
    refine ex_imulN dX12_firstAgainst_89 ?_
    refine ex_icmpN_ge (tgt := 138) (by decide) dX12_firstAgainst_90 (by omega) (by omega) (fun c1 => ?_) (fun c1 => ?_)
    · refine ex_iincN (z := 1) rfl (by decide) rfl dX12_firstAgainst_138 ?_
      refine ex_goto (tgt := 23) (by decide) dX12_firstAgainst_141 ?_
      exact ex_lv [(0, .ref M), (1, .int (nI (mT y))), (2, .int (nI (s))), (3, .int (nI (r + 1)))] ⟨rfl, rfl, rfl, rfl, trivial⟩ (ho (fun z => by obtain ⟨-, -, -, a, b, a1, b1, z⟩ := z; exact sq_all (P := agp y s r) (fun j hj => he j (by omega)) a1 b1 z))
    · refine ex_iload rfl dX12_firstAgainst_93 ?_
      refine ex_ifN_eq (tgt := 138) (by decide) dX12_firstAgainst_95 (by omega) (fun c2 => ?_) (fun c2 => ?_)
      · exact absurd c2 (by decide)
      · refine ex_aload_n rfl dX12_firstAgainst_98 ?_
        refine ex_iload_n rfl dX12_firstAgainst_99 ?_
        refine ex_iload rfl dX12_firstAgainst_100 ?_
        refine ex_iload_n rfl dX12_firstAgainst_102 ?_
        refine ex_idivN (by omega) (Nat.lt_of_le_of_lt (Nat.zero_le _) (sq_pair c1).1) (by omega) dX12_firstAgainst_103 ?_
        refine ex_iload rfl dX12_firstAgainst_104 ?_
        refine ex_iload_n rfl dX12_firstAgainst_106 ?_
        refine ex_iremN (by omega) (Nat.lt_of_le_of_lt (Nat.zero_le _) (sq_pair c1).1) (by omega) dX12_firstAgainst_107 ?_
        refine ex_invv (k := 0) (n := 0) (mc' := 0) (ms' := 0) (As := [_, _, _]) dX12_firstAgainst_108 cv_X12_169 (by decide) (Nat.le_of_ble_eq_true rfl) (Or.inl ⟨_, _, _, _, hM.1, rfl⟩) (t_isAbout hM hB (s := s) (by omega) q2 (sq_pair c1).1 (sq_pair c1).2) (fun v h' q => ?_)
        obtain ⟨rfl, rfl⟩ := q
        refine ex_ifB_eq (tgt := 132) (by decide) dX12_firstAgainst_111 (fun c3 => ?_) (fun c3 => ?_)
        · refine ex_iincN (z := 1) rfl (by decide) rfl dX12_firstAgainst_132 ?_
          refine ex_goto (tgt := 85) (by decide) dX12_firstAgainst_135 ?_
          exact ih (k + 1) (by omega) (by omega) (fun j hj z => by rcases Nat.lt_or_ge j k with w | w; exact he j w z; rw [show j = k by omega] at z; exact bP_f c3 z.1)
        · refine ex_aload_n rfl dX12_firstAgainst_114 ?_
          refine ex_iload_n rfl dX12_firstAgainst_115 ?_
          refine ex_iload rfl dX12_firstAgainst_116 ?_
          refine ex_iload_n rfl dX12_firstAgainst_118 ?_
          refine ex_idivN (by omega) (Nat.lt_of_le_of_lt (Nat.zero_le _) (sq_pair c1).1) (by omega) dX12_firstAgainst_119 ?_
          refine ex_iload rfl dX12_firstAgainst_120 ?_
          refine ex_iload_n rfl dX12_firstAgainst_122 ?_
          refine ex_iremN (by omega) (Nat.lt_of_le_of_lt (Nat.zero_le _) (sq_pair c1).1) (by omega) dX12_firstAgainst_123 ?_
          refine ex_invv (k := 0) (n := 0) (mc' := 0) (ms' := 0) (As := [_, _, _]) dX12_firstAgainst_124 cv_X12_169 (by decide) (Nat.le_of_ble_eq_true rfl) (Or.inl ⟨_, _, _, _, hM.1, rfl⟩) (t_isAbout hM hB (s := r) (by omega) q3 (sq_pair c1).1 (sq_pair c1).2) (fun v h' q => ?_)
          obtain ⟨rfl, rfl⟩ := q
          refine ex_ifB_eq (tgt := 132) (by decide) dX12_firstAgainst_127 (fun c4 => ?_) (fun c4 => ?_)
          · refine ex_iincN (z := 1) rfl (by decide) rfl dX12_firstAgainst_132 ?_
            refine ex_goto (tgt := 85) (by decide) dX12_firstAgainst_135 ?_
            exact ih (k + 1) (by omega) (by omega) (fun j hj z => by rcases Nat.lt_or_ge j k with w | w; exact he j w z; rw [show j = k by omega] at z; exact bP_f c4 z.2)
          · refine ex_iload_n rfl dX12_firstAgainst_130 ?_
            refine ex_iret dX12_firstAgainst_131 rfl ⟨some s, rfl, rfl, ⟨fun i hi => (by cases hi; exact ⟨hs, ⟨h3, r, hr, g1, g2, g3, _, _, (sq_pair c1).1, (sq_pair c1).2, bP_t c3, bP_t c4⟩, hfst⟩), fun z => (by cases z)⟩⟩
set_option maxHeartbeats 4000000 in
set_option maxRecDepth 100000 in
theorem l_fa2 {G : EG} {l : Launch} {h : EH} {M : Nat} {y : MS} (hM : MD G h M y) (hB : mB y) (hH : mH y) {s : Nat} (hs : s < ms y 6) (hfst : ∀ j, j < s → ¬ agm y j) (ho : ¬ agm y s → Ex G l 3 mX12_firstAgainst (fun v h' => ∃ r, v = some (.int (oI r)) ∧ h' = h ∧ FAm y r) eNoX 0 0 13 [(0, .ref M), (1, .int (nI (mT y))), (2, .int (nI (s + 1)))] [] h) : ∀ (f k : Nat), ms y 6 - k < f → k ≤ ms y 6 → (∀ j, j < k → ¬ agr y s j) → Ex G l 3 mX12_firstAgainst (fun v h' => ∃ r, v = some (.int (oI r)) ∧ h' = h ∧ FAm y r) eNoX 0 0 23 [(0, .ref M), (1, .int (nI (mT y))), (2, .int (nI (s))), (3, .int (nI (k)))] [] h := by
  intro f
  induction f with
  | zero =>
    intro k h1 h2 he
    omega
  | succ f ih =>
    intro k h1 h2 he
    have k2 : h.2 (M + 2) = some (.inl (eA G 0, 41, .inl (fun j => nI (mA y 2 j)))) := hM.2 2 (by decide) (by decide)
    have hn := hB.1
    have hkk : mA y 2 s < 9 := (hB.2.2 s).1
    have hk2 : mA y 2 k < 9 := (hB.2.2 k).1
    have w1 := mS_wd hB k 2
    have w2 := mS_wd hB s 2
    refine ex_iload_n rfl dX12_firstAgainst_23 ?_
    refine ex_aload_n rfl dX12_firstAgainst_24 ?_
    refine ex_get dX12_firstAgainst_25 gf_X12_107 hM.1 rfl ?_
    refine ex_icmpN_ge (tgt := 144) (by decide) dX12_firstAgainst_28 (by omega) (by omega) (fun c1 => ?_) (fun c1 => ?_)
    · refine ex_iincN (z := 1) rfl (by decide) rfl dX12_firstAgainst_144 ?_
      refine ex_goto (tgt := 13) (by decide) dX12_firstAgainst_147 ?_
      exact ex_lv [(0, .ref M), (1, .int (nI (mT y))), (2, .int (nI (s + 1)))] ⟨rfl, rfl, rfl, trivial⟩ (ho (fun z => by obtain ⟨-, r, r1, r2⟩ := z; exact he r (by omega) r2))
    · refine ex_aload_n rfl dX12_firstAgainst_31 ?_
      refine ex_get dX12_firstAgainst_32 gf_X12_17 hM.1 rfl ?_
      refine ex_iload_n rfl dX12_firstAgainst_35 ?_
      refine ex_ialdN dX12_firstAgainst_36 k2 (by omega) (by decide) ?_
      refine ex_iconst (v := (nI 3)) (by decide) dX12_firstAgainst_37 ?_
      refine ex_icmpN_ne (tgt := 144) (by decide) dX12_firstAgainst_38 (by omega) (by omega) (fun c2 => ?_) (fun c2 => ?_)
      · refine ex_iincN (z := 1) rfl (by decide) rfl dX12_firstAgainst_144 ?_
        refine ex_goto (tgt := 13) (by decide) dX12_firstAgainst_147 ?_
        exact ex_lv [(0, .ref M), (1, .int (nI (mT y))), (2, .int (nI (s + 1)))] ⟨rfl, rfl, rfl, trivial⟩ (ho (fun z => c2 z.1))
      · refine ex_aload_n rfl dX12_firstAgainst_41 ?_
        refine ex_get dX12_firstAgainst_42 gf_X12_17 hM.1 rfl ?_
        refine ex_iload_n rfl dX12_firstAgainst_45 ?_
        refine ex_ialdN dX12_firstAgainst_46 k2 (by omega) (by decide) ?_
        refine ex_iconst (v := (nI 2)) (by decide) dX12_firstAgainst_47 ?_
        refine ex_icmpN_ne (tgt := 79) (by decide) dX12_firstAgainst_48 (by omega) (by omega) (fun c3 => ?_) (fun c3 => ?_)
        · refine ex_iconst (v := (nI 0)) (by decide) dX12_firstAgainst_79 ?_
          refine ex_istore (by decide) rfl dX12_firstAgainst_80 ?_
          refine ex_iconst (v := (nI 0)) (by decide) dX12_firstAgainst_82 ?_
          refine ex_istore (by decide) rfl dX12_firstAgainst_83 ?_
          exact ex_lv [(0, .ref M), (1, .int (nI (mT y))), (2, .int (nI (s))), (3, .int (nI (k))), (4, .int (nI (0))), (5, .int (nI (0)))] ⟨rfl, rfl, rfl, rfl, rfl, rfl, trivial⟩ (l_fa0 hM hB hs c1 (ih (k + 1) (by omega) (by omega) (fun j hj z => by rcases Nat.lt_or_ge j k with w | w; exact he j w z; rw [show j = k by omega] at z; exact c3 z.1)))
        · refine ex_aload_n rfl dX12_firstAgainst_51 ?_
          refine ex_iload_n rfl dX12_firstAgainst_52 ?_
          refine ex_iconst (v := (nI 2)) (by decide) dX12_firstAgainst_53 ?_
          refine ex_invv (k := 0) (n := 0) (mc' := 0) (ms' := 0) (As := [_, _]) dX12_firstAgainst_54 cv_X12_124 (by decide) (Nat.le_of_ble_eq_true rfl) (Or.inl ⟨_, _, _, _, hM.1, rfl⟩) (t_nameAt hM (s := k) (k := 2) (by omega) (by omega)) (fun v h' q => ?_)
          obtain ⟨rfl, rfl⟩ := q
          refine ex_aload_n rfl dX12_firstAgainst_57 ?_
          refine ex_iload_n rfl dX12_firstAgainst_58 ?_
          refine ex_iconst (v := (nI 2)) (by decide) dX12_firstAgainst_59 ?_
          refine ex_invv (k := 0) (n := 0) (mc' := 0) (ms' := 0) (As := [_, _]) dX12_firstAgainst_60 cv_X12_124 (by decide) (Nat.le_of_ble_eq_true rfl) (Or.inl ⟨_, _, _, _, hM.1, rfl⟩) (t_nameAt hM (s := s) (k := 2) (by omega) (by omega)) (fun v h' q => ?_)
          obtain ⟨rfl, rfl⟩ := q
          refine ex_icmpN_ne (tgt := 79) (by decide) dX12_firstAgainst_63 (Nat.lt_trans w1 (by decide)) (Nat.lt_trans w2 (by decide)) (fun c4 => ?_) (fun c4 => ?_)
          · refine ex_iconst (v := (nI 0)) (by decide) dX12_firstAgainst_79 ?_
            refine ex_istore (by decide) rfl dX12_firstAgainst_80 ?_
            refine ex_iconst (v := (nI 0)) (by decide) dX12_firstAgainst_82 ?_
            refine ex_istore (by decide) rfl dX12_firstAgainst_83 ?_
            exact ex_lv [(0, .ref M), (1, .int (nI (mT y))), (2, .int (nI (s))), (3, .int (nI (k))), (4, .int (nI (0))), (5, .int (nI (0)))] ⟨rfl, rfl, rfl, rfl, rfl, rfl, trivial⟩ (l_fa0 hM hB hs c1 (ih (k + 1) (by omega) (by omega) (fun j hj z => by rcases Nat.lt_or_ge j k with w | w; exact he j w z; rw [show j = k by omega] at z; exact c4 z.2.1)))
          · refine ex_aload_n rfl dX12_firstAgainst_66 ?_
            refine ex_iload_n rfl dX12_firstAgainst_67 ?_
            refine ex_iload_n rfl dX12_firstAgainst_68 ?_
            refine ex_invv (k := 0) (n := 0) (mc' := 0) (ms' := 0) (As := [_, _]) dX12_firstAgainst_69 cv_X12_166 (by decide) (Nat.le_of_ble_eq_true rfl) (Or.inl ⟨_, _, _, _, hM.1, rfl⟩) (t_shared hM hB (r := k) (s := s) (by omega) (by omega)) (fun v h' q => ?_)
            obtain ⟨rfl, rfl⟩ := q
            refine ex_ifB_eq (tgt := 79) (by decide) dX12_firstAgainst_72 (fun c5 => ?_) (fun c5 => ?_)
            · refine ex_iconst (v := (nI 0)) (by decide) dX12_firstAgainst_79 ?_
              refine ex_istore (by decide) rfl dX12_firstAgainst_80 ?_
              refine ex_iconst (v := (nI 0)) (by decide) dX12_firstAgainst_82 ?_
              refine ex_istore (by decide) rfl dX12_firstAgainst_83 ?_
              exact ex_lv [(0, .ref M), (1, .int (nI (mT y))), (2, .int (nI (s))), (3, .int (nI (k))), (4, .int (nI (0))), (5, .int (nI (0)))] ⟨rfl, rfl, rfl, rfl, rfl, rfl, trivial⟩ (l_fa0 hM hB hs c1 (ih (k + 1) (by omega) (by omega) (fun j hj z => by rcases Nat.lt_or_ge j k with w | w; exact he j w z; rw [show j = k by omega] at z; exact bP_f c5 z.2.2.1)))
            · refine ex_iconst (v := (nI 1)) (by decide) dX12_firstAgainst_75 ?_
              refine ex_goto (tgt := 80) (by decide) dX12_firstAgainst_76 ?_
              refine ex_istore (by decide) rfl dX12_firstAgainst_80 ?_
              refine ex_iconst (v := (nI 0)) (by decide) dX12_firstAgainst_82 ?_
              refine ex_istore (by decide) rfl dX12_firstAgainst_83 ?_
              exact ex_lv [(0, .ref M), (1, .int (nI (mT y))), (2, .int (nI (s))), (3, .int (nI (k))), (4, .int (nI (1))), (5, .int (nI (0)))] ⟨rfl, rfl, rfl, rfl, rfl, rfl, trivial⟩ (l_fa3 hM hB hH hs c1 c2 hfst c3 c4 (bP_t c5) (fun hz => ih (k + 1) (by omega) (by omega) (fun j hj z => by rcases Nat.lt_or_ge j k with w | w; exact he j w z; rw [show j = k by omega] at z; exact hz z)) (mT y * mT y + 1) 0 (by omega) (by omega) (fun j hj => by omega))
set_option maxHeartbeats 4000000 in
set_option maxRecDepth 100000 in
theorem l_fa1 {G : EG} {l : Launch} {h : EH} {M : Nat} {y : MS} (hM : MD G h M y) (hB : mB y) (hH : mH y) : ∀ (f k : Nat), ms y 6 - k < f → k ≤ ms y 6 → (∀ j, j < k → ¬ agm y j) → Ex G l 3 mX12_firstAgainst (fun v h' => ∃ r, v = some (.int (oI r)) ∧ h' = h ∧ FAm y r) eNoX 0 0 13 [(0, .ref M), (1, .int (nI (mT y))), (2, .int (nI (k)))] [] h := by
  intro f
  induction f with
  | zero =>
    intro k h1 h2 he
    omega
  | succ f ih =>
    intro k h1 h2 he
    have hn := hB.1
    refine ex_iload_n rfl dX12_firstAgainst_13 ?_
    refine ex_aload_n rfl dX12_firstAgainst_14 ?_
    refine ex_get dX12_firstAgainst_15 gf_X12_107 hM.1 rfl ?_
    refine ex_icmpN_ge (tgt := 150) (by decide) dX12_firstAgainst_18 (by omega) (by omega) (fun c1 => ?_) (fun c1 => ?_)
    · refine ex_iconst (v := (-1)) (by decide) dX12_firstAgainst_150 ?_
      refine ex_iret dX12_firstAgainst_151 rfl ⟨none, rfl, rfl, ⟨fun i hi => (by cases hi), fun _ j hj => he j (by omega)⟩⟩
    · refine ex_iconst (v := (nI 0)) (by decide) dX12_firstAgainst_21 ?_
      refine ex_istore_n (by decide) rfl dX12_firstAgainst_22 ?_
      exact l_fa2 hM hB hH c1 he (fun hz => ih (k + 1) (by omega) (by omega) (fun j hj z => by rcases Nat.lt_or_ge j k with w | w; exact he j w z; rw [show j = k by omega] at z; exact hz z)) (ms y 6 + 1) 0 (by omega) (by omega) (fun j hj => by omega)
set_option maxHeartbeats 4000000 in
set_option maxRecDepth 100000 in
theorem t_firstAgainst {G : EG} {l : Launch} {h : EH} {M : Nat} {y : MS} (hM : MD G h M y) (hB : mB y) (hH : mH y) : ES G l 3 mX12_firstAgainst [.ref M] h 0 0 (fun v h' => ∃ r, v = some (.int (oI r)) ∧ h' = h ∧ FAm y r) eNoX := by
  have hn := hB.1
  refine es_of (by decide) rfl (Nat.le_of_ble_eq_true rfl) ?_
  refine ex_aload_n rfl dX12_firstAgainst_0 ?_
  refine ex_iconst (v := (nI 1)) (by decide) dX12_firstAgainst_1 ?_
  refine ex_iconst (v := (nI 0)) (by decide) dX12_firstAgainst_2 ?_
  refine ex_aload_n rfl dX12_firstAgainst_3 ?_
  refine ex_get dX12_firstAgainst_4 gf_X12_107 hM.1 rfl ?_
  refine ex_invv (k := 0) (n := 0) (mc' := 0) (ms' := 0) (As := [_, _, _]) dX12_firstAgainst_7 cv_X12_128 (by decide) (Nat.le_of_ble_eq_true rfl) (Or.inl ⟨_, _, _, _, hM.1, rfl⟩) (t_before hM hB (κ := 1) (x := 0) (e := ms y 6) (by decide) (by decide) (by omega)) (fun v h' q => ?_)
  obtain ⟨rfl, rfl⟩ := q
  rw [bef_0]
  refine ex_istore_n (by decide) rfl dX12_firstAgainst_10 ?_
  refine ex_iconst (v := (nI 0)) (by decide) dX12_firstAgainst_11 ?_
  refine ex_istore_n (by decide) rfl dX12_firstAgainst_12 ?_
  exact l_fa1 hM hB hH (ms y 6 + 1) 0 (by omega) (by omega) (fun j hj => by omega)
set_option maxHeartbeats 4000000 in
set_option maxRecDepth 100000 in
theorem lt_classN {G : EG} {l : Launch} {h : EH} {M : Nat} {y : MS} (hM : MD G h M y) {c : Nat} (hc : c < 3) {w : Nat} (hw : mA y 12 c = w) (hne : ∀ j, j < c → mA y 12 j ≠ w) (hb : ∀ j, mA y 12 j < 2 ^ 30) : ∀ (f k : Nat), c - k < f → k ≤ c → Ex G l 0 mX12_classNumber (fun v h' => v = some (.int (nI c)) ∧ h' = h) eNoX 0 0 2 [(0, .ref M), (1, .int (nI (w))), (2, .int (nI (k)))] [] h := by
  intro f
  induction f with
  | zero =>
    intro k h1 h2
    omega
  | succ f ih =>
    intro k h1 h2
    have k12 : h.2 (M + 12) = some (.inl (eA G 0, 3, .inl (fun j => nI (mA y 12 j)))) := hM.2 12 (by decide) (by decide)
    have hb1 := hb k
    have hb2 := hb c
    refine ex_iload_n rfl dX12_classNumber_2 ?_
    refine ex_iconst (v := (nI 2)) (by decide) dX12_classNumber_3 ?_
    refine ex_icmpN_ge (tgt := 23) (by decide) dX12_classNumber_4 (by omega) (by omega) (fun c1 => ?_) (fun c1 => ?_)
    · refine ex_iload_n rfl dX12_classNumber_23 ?_
      refine ex_iret dX12_classNumber_24 rfl ⟨by rw [show k = c by omega], rfl⟩
    · refine ex_aload_n rfl dX12_classNumber_7 ?_
      refine ex_get dX12_classNumber_8 gf_X12_51 hM.1 rfl ?_
      refine ex_iload_n rfl dX12_classNumber_11 ?_
      refine ex_ialdN dX12_classNumber_12 k12 (by omega) (by decide) ?_
      refine ex_iload_n rfl dX12_classNumber_13 ?_
      refine ex_icmpN_eq (tgt := 23) (by decide) dX12_classNumber_14 (by omega) (by omega) (fun c2 => ?_) (fun c2 => ?_)
      · refine ex_iload_n rfl dX12_classNumber_23 ?_
        refine ex_iret dX12_classNumber_24 rfl ⟨by rw [show k = c from Classical.byContradiction fun z => hne k (by omega) c2], rfl⟩
      · refine ex_iincN (z := 1) rfl (by decide) rfl dX12_classNumber_17 ?_
        refine ex_goto (tgt := 2) (by decide) dX12_classNumber_20 ?_
        have h9 : k ≠ c := fun z => c2 (by rw [z]; exact hw)
        exact ih (k + 1) (by omega) (by omega)
set_option maxHeartbeats 4000000 in
set_option maxRecDepth 100000 in
theorem t_classN {G : EG} {l : Launch} {h : EH} {M : Nat} {y : MS} (hM : MD G h M y) {c : Nat} (hc : c < 3) {w : Nat} (hw : mA y 12 c = w) (hne : ∀ j, j < c → mA y 12 j ≠ w) (hb : ∀ j, mA y 12 j < 2 ^ 30) : ES G l 0 mX12_classNumber [.ref M, .int (nI w)] h 0 0 (fun v h' => v = some (.int (nI c)) ∧ h' = h) eNoX := by
  refine es_of (by decide) rfl (Nat.le_of_ble_eq_true rfl) ?_
  refine ex_iconst (v := (nI 0)) (by decide) dX12_classNumber_0 ?_
  refine ex_istore_n (by decide) rfl dX12_classNumber_1 ?_
  exact lt_classN hM hc hw hne hb (c + 1) 0 (by omega) (by omega)
set_option maxHeartbeats 4000000 in
set_option maxRecDepth 100000 in
theorem lt_typeN {G : EG} {l : Launch} {h : EH} {M : Nat} {y : MS} (hM : MD G h M y) {c : Nat} (hc : c < 8) {w : Nat} (hw : mA y 11 c = w) (hne : ∀ j, j < c → mA y 11 j ≠ w) (hb : ∀ j, mA y 11 j < 2 ^ 30) : ∀ (f k : Nat), c - k < f → k ≤ c → Ex G l 0 mX12_typeNumber (fun v h' => v = some (.int (nI c)) ∧ h' = h) eNoX 0 0 2 [(0, .ref M), (1, .int (nI (w))), (2, .int (nI (k)))] [] h := by
  intro f
  induction f with
  | zero =>
    intro k h1 h2
    omega
  | succ f ih =>
    intro k h1 h2
    have k11 : h.2 (M + 11) = some (.inl (eA G 0, 8, .inl (fun j => nI (mA y 11 j)))) := hM.2 11 (by decide) (by decide)
    have hb1 := hb k
    have hb2 := hb c
    refine ex_iload_n rfl dX12_typeNumber_2 ?_
    refine ex_bipush (v := (nI 7)) (by decide) dX12_typeNumber_3 ?_
    refine ex_icmpN_ge (tgt := 24) (by decide) dX12_typeNumber_5 (by omega) (by omega) (fun c1 => ?_) (fun c1 => ?_)
    · refine ex_iload_n rfl dX12_typeNumber_24 ?_
      refine ex_iret dX12_typeNumber_25 rfl ⟨by rw [show k = c by omega], rfl⟩
    · refine ex_aload_n rfl dX12_typeNumber_8 ?_
      refine ex_get dX12_typeNumber_9 gf_X12_48 hM.1 rfl ?_
      refine ex_iload_n rfl dX12_typeNumber_12 ?_
      refine ex_ialdN dX12_typeNumber_13 k11 (by omega) (by decide) ?_
      refine ex_iload_n rfl dX12_typeNumber_14 ?_
      refine ex_icmpN_eq (tgt := 24) (by decide) dX12_typeNumber_15 (by omega) (by omega) (fun c2 => ?_) (fun c2 => ?_)
      · refine ex_iload_n rfl dX12_typeNumber_24 ?_
        refine ex_iret dX12_typeNumber_25 rfl ⟨by rw [show k = c from Classical.byContradiction fun z => hne k (by omega) c2], rfl⟩
      · refine ex_iincN (z := 1) rfl (by decide) rfl dX12_typeNumber_18 ?_
        refine ex_goto (tgt := 2) (by decide) dX12_typeNumber_21 ?_
        have h9 : k ≠ c := fun z => c2 (by rw [z]; exact hw)
        exact ih (k + 1) (by omega) (by omega)
set_option maxHeartbeats 4000000 in
set_option maxRecDepth 100000 in
theorem t_typeN {G : EG} {l : Launch} {h : EH} {M : Nat} {y : MS} (hM : MD G h M y) {c : Nat} (hc : c < 8) {w : Nat} (hw : mA y 11 c = w) (hne : ∀ j, j < c → mA y 11 j ≠ w) (hb : ∀ j, mA y 11 j < 2 ^ 30) : ES G l 0 mX12_typeNumber [.ref M, .int (nI w)] h 0 0 (fun v h' => v = some (.int (nI c)) ∧ h' = h) eNoX := by
  refine es_of (by decide) rfl (Nat.le_of_ble_eq_true rfl) ?_
  refine ex_iconst (v := (nI 0)) (by decide) dX12_typeNumber_0 ?_
  refine ex_istore_n (by decide) rfl dX12_typeNumber_1 ?_
  exact lt_typeN hM hc hw hne hb (c + 1) 0 (by omega) (by omega)
def pMq (y : MS) (s fr w r k j : Nat) : Prop := r < ms y 6 ∧ kd (mS y r) = 0 ∧ wd (mS y r) 0 = w ∧ 1 ≤ k ∧ k < sz (mS y r) ∧ fr ≤ j ∧ j < sz (mS y s) ∧ wd (mS y r) k = wd (mS y s) j
def ex3 (P : Nat → Nat → Nat → Prop) (r k j b : Nat) : Prop := ∃ r' k' j', P r' k' j' ∧ k' = b + 1 ∧ (r' < r ∨ (r' = r ∧ (k' < k ∨ (k' = k ∧ j' < j))))
theorem ex3_n {P : Nat → Nat → Nat → Prop} {r k j : Nat} (h : ¬ P r k j) (b : Nat) : ex3 P r k j b ↔ ex3 P r k (j + 1) b := by
  constructor
  · rintro ⟨a, c, d, h1, h2, h3⟩; exact ⟨a, c, d, h1, h2, by omega⟩
  · rintro ⟨a, c, d, h1, h2, h3⟩
    by_cases q : a = r ∧ c = k ∧ d = j
    · rw [q.1, q.2.1, q.2.2] at h1; exact absurd h1 h
    · exact ⟨a, c, d, h1, h2, by omega⟩
theorem ex3_y {P : Nat → Nat → Nat → Prop} {r k j : Nat} (h : P r k j) (hk : 1 ≤ k) (b : Nat) : (ex3 P r k j b ∨ b = k - 1) ↔ ex3 P r k (j + 1) b := by
  constructor
  · rintro (⟨a, c, d, h1, h2, h3⟩ | z)
    · exact ⟨a, c, d, h1, h2, by omega⟩
    · exact ⟨r, k, j, h, by omega, by omega⟩
  · rintro ⟨a, c, d, h1, h2, h3⟩
    by_cases q : a = r ∧ c = k ∧ d = j
    · exact Or.inr (by omega)
    · exact Or.inl ⟨a, c, d, h1, h2, by omega⟩
theorem ex3_b {P : Nat → Nat → Nat → Prop} {r k fr : Nat} (h : ∀ j, j < fr → ¬ P r k j) (b : Nat) : ex3 P r k 0 b ↔ ex3 P r k fr b := by
  constructor
  · rintro ⟨a, c, d, h1, h2, h3⟩; exact ⟨a, c, d, h1, h2, by omega⟩
  · rintro ⟨a, c, d, h1, h2, h3⟩
    by_cases q : a = r ∧ c = k ∧ d < fr
    · rw [q.1, q.2.1] at h1; exact absurd h1 (h d q.2.2)
    · exact ⟨a, c, d, h1, h2, by omega⟩
theorem ex3_k {P : Nat → Nat → Nat → Prop} {r k j : Nat} (h : ∀ i, j ≤ i → ¬ P r k i) (b : Nat) : ex3 P r k j b ↔ ex3 P r (k + 1) 0 b := by
  constructor
  · rintro ⟨a, c, d, h1, h2, h3⟩; exact ⟨a, c, d, h1, h2, by omega⟩
  · rintro ⟨a, c, d, h1, h2, h3⟩
    by_cases q : a = r ∧ c = k ∧ j ≤ d
    · rw [q.1, q.2.1] at h1; exact absurd h1 (h d q.2.2)
    · exact ⟨a, c, d, h1, h2, by omega⟩
theorem ex3_r {P : Nat → Nat → Nat → Prop} {r k : Nat} (h : ∀ i j, k ≤ i → ¬ P r i j) (b : Nat) : ex3 P r k 0 b ↔ ex3 P (r + 1) 0 0 b := by
  constructor
  · rintro ⟨a, c, d, h1, h2, h3⟩; exact ⟨a, c, d, h1, h2, by omega⟩
  · rintro ⟨a, c, d, h1, h2, h3⟩
    by_cases q : a = r ∧ k ≤ c
    · rw [q.1] at h1; exact absurd h1 (h c d q.2)
    · exact ⟨a, c, d, h1, h2, by omega⟩
theorem ex3_1 {P : Nat → Nat → Nat → Prop} {r : Nat} (h : ∀ j, ¬ P r 0 j) (b : Nat) : ex3 P r 0 0 b ↔ ex3 P r 1 0 b := ex3_k (fun i _ => h i) b
def mskm (y : MS) (s fr w b : Nat) : Prop := ∃ r j, pMq y s fr w r (b + 1) j
set_option maxHeartbeats 4000000 in
set_option maxRecDepth 100000 in
theorem l_mo3 {G : EG} {l : Launch} {h : EH} {M : Nat} {y : MS} (hM : MD G h M y) (hB : mB y) {s fr c : Nat} (hs : s < 41) (hf : fr ≤ 9) (hc : c < 3) (hc0 : mA y 12 c < 2 ^ 30) {r b : Nat} (hr : r < ms y 6) (hb1 : 1 ≤ b) (hb : b < sz (mS y r)) (ho : ∀ w, isB w (ex3 (pMq y s fr (mA y 12 c)) r (b + 1) 0) → Ex G l 1 mX12_maskOf (fun v h' => ∃ w, v = some (.int (nI w)) ∧ h' = h ∧ isB w (mskm y s fr (mA y 12 c))) eNoX 0 0 18 [(0, .ref M), (1, .int (nI (s))), (2, .int (nI (fr))), (3, .int (nI (c))), (4, .int (nI (w))), (5, .int (nI (r))), (6, .int (nI (b + 1)))] [] h) : ∀ (f k : Nat), 10 - k < f → fr ≤ k → k ≤ 10 → ∀ w, isB w (ex3 (pMq y s fr (mA y 12 c)) r b k) → Ex G l 1 mX12_maskOf (fun v h' => ∃ w, v = some (.int (nI w)) ∧ h' = h ∧ isB w (mskm y s fr (mA y 12 c))) eNoX 0 0 33 [(0, .ref M), (1, .int (nI (s))), (2, .int (nI (fr))), (3, .int (nI (c))), (4, .int (nI (w))), (5, .int (nI (r))), (6, .int (nI (b))), (7, .int (nI (k)))] [] h := by
  intro f
  induction f with
  | zero =>
    intro k h1 h2 h3 w hw
    omega
  | succ f ih =>
    intro k h1 h2 h3 w hw
    have k2 : h.2 (M + 2) = some (.inl (eA G 0, 41, .inl (fun j => nI (mA y 2 j)))) := hM.2 2 (by decide) (by decide)
    have k3 : h.2 (M + 3) = some (.inl (eA G 0, 41, .inl (fun j => nI (mA y 3 j)))) := hM.2 3 (by decide) (by decide)
    have k12 : h.2 (M + 12) = some (.inl (eA G 0, 3, .inl (fun j => nI (mA y 12 j)))) := hM.2 12 (by decide) (by decide)
    have hn := hB.1
    have s1 : mA y 3 s ≤ 9 := (hB.2.2 s).2.1
    have z1 : sz (mS y s) ≤ 9 := s1
    have s2 : mA y 3 r ≤ 9 := (hB.2.2 r).2.1
    have z2 : sz (mS y r) ≤ 9 := s2
    have hkk : mA y 2 r < 9 := (hB.2.2 r).1
    have v0 := mS_wd hB r 0
    have vb := mS_wd hB r b
    have vk := mS_wd hB s k
    refine ex_iload rfl dX12_maskOf_33 ?_
    refine ex_aload_n rfl dX12_maskOf_35 ?_
    refine ex_get dX12_maskOf_36 gf_X12_21 hM.1 rfl ?_
    refine ex_iload_n rfl dX12_maskOf_39 ?_
    refine ex_ialdN dX12_maskOf_40 k3 (by omega) (by decide) ?_
    refine ex_icmpN_ge (tgt := 122) (by decide) dX12_maskOf_41 (by omega) (show sz (mS y s) < 2 ^ 31 by omega) (fun c1 => ?_) (fun c1 => ?_)
    · refine ex_iincN (z := 1) rfl (by decide) rfl dX12_maskOf_122 ?_
      refine ex_goto (tgt := 18) (by decide) dX12_maskOf_125 ?_
      exact ex_lv [(0, .ref M), (1, .int (nI (s))), (2, .int (nI (fr))), (3, .int (nI (c))), (4, .int (nI (w))), (5, .int (nI (r))), (6, .int (nI (b + 1)))] ⟨rfl, rfl, rfl, rfl, rfl, rfl, rfl, trivial⟩ (ho w (hw.c (ex3_k (fun i hi z => by have := z.2.2.2.2.2.2.1; have : sz (mS y s) ≤ k := c1; omega))))
    · refine ex_aload_n rfl dX12_maskOf_44 ?_
      refine ex_get dX12_maskOf_45 gf_X12_17 hM.1 rfl ?_
      refine ex_iload rfl dX12_maskOf_48 ?_
      refine ex_ialdN dX12_maskOf_50 k2 (by omega) (by decide) ?_
      refine ex_ifN_ne (tgt := 92) (by decide) dX12_maskOf_51 (by omega) (fun c2 => ?_) (fun c2 => ?_)
      · refine ex_iconst (v := (nI 0)) (by decide) dX12_maskOf_92 ?_
        refine ex_istore (by decide) rfl dX12_maskOf_93 ?_
        refine ex_iload rfl dX12_maskOf_95 ?_
        refine ex_ifN_eq (tgt := 112) (by decide) dX12_maskOf_97 (by omega) (fun c3 => ?_) (fun c3 => ?_)
        · refine ex_iload rfl dX12_maskOf_112 ?_
          refine ex_istore (by decide) rfl dX12_maskOf_114 ?_
          refine ex_iincN (z := 1) rfl (by decide) rfl dX12_maskOf_116 ?_
          refine ex_goto (tgt := 33) (by decide) dX12_maskOf_119 ?_
          exact ex_lv [(0, .ref M), (1, .int (nI (s))), (2, .int (nI (fr))), (3, .int (nI (c))), (4, .int (nI (w))), (5, .int (nI (r))), (6, .int (nI (b))), (7, .int (nI (k + 1)))] ⟨rfl, rfl, rfl, rfl, rfl, rfl, rfl, rfl, trivial⟩ (ih (k + 1) (by omega) (by omega) (by have hk1 : k < sz (mS y s) := c1; omega) w (hw.c (ex3_n (fun z => c2 z.2.1))))
        · exact absurd c3 (by decide)
      · refine ex_aload_n rfl dX12_maskOf_54 ?_
        refine ex_iload rfl dX12_maskOf_55 ?_
        refine ex_iconst (v := (nI 0)) (by decide) dX12_maskOf_57 ?_
        refine ex_invv (k := 0) (n := 0) (mc' := 0) (ms' := 0) (As := [_, _]) dX12_maskOf_58 cv_X12_124 (by decide) (Nat.le_of_ble_eq_true rfl) (Or.inl ⟨_, _, _, _, hM.1, rfl⟩) (t_nameAt hM (s := r) (k := 0) (by omega) (by omega)) (fun v h' q => ?_)
        obtain ⟨rfl, rfl⟩ := q
        refine ex_aload_n rfl dX12_maskOf_61 ?_
        refine ex_get dX12_maskOf_62 gf_X12_51 hM.1 rfl ?_
        refine ex_iload_n rfl dX12_maskOf_65 ?_
        refine ex_ialdN dX12_maskOf_66 k12 (by omega) (by decide) ?_
        refine ex_icmpN_ne (tgt := 92) (by decide) dX12_maskOf_67 (Nat.lt_trans v0 (by decide)) (Nat.lt_trans hc0 (by decide)) (fun c4 => ?_) (fun c4 => ?_)
        · refine ex_iconst (v := (nI 0)) (by decide) dX12_maskOf_92 ?_
          refine ex_istore (by decide) rfl dX12_maskOf_93 ?_
          refine ex_iload rfl dX12_maskOf_95 ?_
          refine ex_ifN_eq (tgt := 112) (by decide) dX12_maskOf_97 (by omega) (fun c5 => ?_) (fun c5 => ?_)
          · refine ex_iload rfl dX12_maskOf_112 ?_
            refine ex_istore (by decide) rfl dX12_maskOf_114 ?_
            refine ex_iincN (z := 1) rfl (by decide) rfl dX12_maskOf_116 ?_
            refine ex_goto (tgt := 33) (by decide) dX12_maskOf_119 ?_
            exact ex_lv [(0, .ref M), (1, .int (nI (s))), (2, .int (nI (fr))), (3, .int (nI (c))), (4, .int (nI (w))), (5, .int (nI (r))), (6, .int (nI (b))), (7, .int (nI (k + 1)))] ⟨rfl, rfl, rfl, rfl, rfl, rfl, rfl, rfl, trivial⟩ (ih (k + 1) (by omega) (by omega) (by have hk1 : k < sz (mS y s) := c1; omega) w (hw.c (ex3_n (fun z => c4 z.2.2.1))))
          · exact absurd c5 (by decide)
        · refine ex_aload_n rfl dX12_maskOf_70 ?_
          refine ex_iload rfl dX12_maskOf_71 ?_
          refine ex_iload rfl dX12_maskOf_73 ?_
          refine ex_invv (k := 0) (n := 0) (mc' := 0) (ms' := 0) (As := [_, _]) dX12_maskOf_75 cv_X12_124 (by decide) (Nat.le_of_ble_eq_true rfl) (Or.inl ⟨_, _, _, _, hM.1, rfl⟩) (t_nameAt hM (s := r) (k := b) (by omega) (by omega)) (fun v h' q => ?_)
          obtain ⟨rfl, rfl⟩ := q
          refine ex_aload_n rfl dX12_maskOf_78 ?_
          refine ex_iload_n rfl dX12_maskOf_79 ?_
          refine ex_iload rfl dX12_maskOf_80 ?_
          refine ex_invv (k := 0) (n := 0) (mc' := 0) (ms' := 0) (As := [_, _]) dX12_maskOf_82 cv_X12_124 (by decide) (Nat.le_of_ble_eq_true rfl) (Or.inl ⟨_, _, _, _, hM.1, rfl⟩) (t_nameAt hM (s := s) (k := k) (by omega) (by have hk1 : k < sz (mS y s) := c1; omega)) (fun v h' q => ?_)
          obtain ⟨rfl, rfl⟩ := q
          refine ex_icmpN_ne (tgt := 92) (by decide) dX12_maskOf_85 (Nat.lt_trans vb (by decide)) (Nat.lt_trans vk (by decide)) (fun c6 => ?_) (fun c6 => ?_)
          · refine ex_iconst (v := (nI 0)) (by decide) dX12_maskOf_92 ?_
            refine ex_istore (by decide) rfl dX12_maskOf_93 ?_
            refine ex_iload rfl dX12_maskOf_95 ?_
            refine ex_ifN_eq (tgt := 112) (by decide) dX12_maskOf_97 (by omega) (fun c7 => ?_) (fun c7 => ?_)
            · refine ex_iload rfl dX12_maskOf_112 ?_
              refine ex_istore (by decide) rfl dX12_maskOf_114 ?_
              refine ex_iincN (z := 1) rfl (by decide) rfl dX12_maskOf_116 ?_
              refine ex_goto (tgt := 33) (by decide) dX12_maskOf_119 ?_
              exact ex_lv [(0, .ref M), (1, .int (nI (s))), (2, .int (nI (fr))), (3, .int (nI (c))), (4, .int (nI (w))), (5, .int (nI (r))), (6, .int (nI (b))), (7, .int (nI (k + 1)))] ⟨rfl, rfl, rfl, rfl, rfl, rfl, rfl, rfl, trivial⟩ (ih (k + 1) (by omega) (by omega) (by have hk1 : k < sz (mS y s) := c1; omega) w (hw.c (ex3_n (fun z => c6 z.2.2.2.2.2.2.2))))
            · exact absurd c7 (by decide)
          · refine ex_iconst (v := (nI 1)) (by decide) dX12_maskOf_88 ?_
            refine ex_goto (tgt := 93) (by decide) dX12_maskOf_89 ?_
            refine ex_istore (by decide) rfl dX12_maskOf_93 ?_
            refine ex_iload rfl dX12_maskOf_95 ?_
            refine ex_ifN_eq (tgt := 112) (by decide) dX12_maskOf_97 (by omega) (fun c8 => ?_) (fun c8 => ?_)
            · exact absurd c8 (by decide)
            · refine ex_iload rfl dX12_maskOf_100 ?_
              refine ex_iconst (v := (nI 1)) (by decide) dX12_maskOf_102 ?_
              refine ex_iload rfl dX12_maskOf_103 ?_
              refine ex_iconst (v := (nI 1)) (by decide) dX12_maskOf_105 ?_
              refine ex_isubN (by omega) dX12_maskOf_106 ?_
              refine ex_ishl dX12_maskOf_107 ?_
              rw [shl_1 (by omega)]
              refine ex_ior dX12_maskOf_108 ?_
              rw [nx_or]
              refine ex_goto (tgt := 114) (by decide) dX12_maskOf_109 ?_
              refine ex_istore (by decide) rfl dX12_maskOf_114 ?_
              refine ex_iincN (z := 1) rfl (by decide) rfl dX12_maskOf_116 ?_
              refine ex_goto (tgt := 33) (by decide) dX12_maskOf_119 ?_
              exact ex_lv [(0, .ref M), (1, .int (nI (s))), (2, .int (nI (fr))), (3, .int (nI (c))), (4, .int (nI (w ||| 2 ^ (b - 1)))), (5, .int (nI (r))), (6, .int (nI (b))), (7, .int (nI (k + 1)))] ⟨rfl, rfl, rfl, rfl, rfl, rfl, rfl, rfl, trivial⟩ (ih (k + 1) (by omega) (by omega) (by have hk1 : k < sz (mS y s) := c1; omega) _ ((hw.o (b := b - 1) (by omega)).c (ex3_y ⟨hr, c2, c4, hb1, hb, h2, c1, c6⟩ hb1)))
set_option maxHeartbeats 4000000 in
set_option maxRecDepth 100000 in
theorem l_mo2 {G : EG} {l : Launch} {h : EH} {M : Nat} {y : MS} (hM : MD G h M y) (hB : mB y) {s fr c : Nat} (hs : s < 41) (hf : fr ≤ 9) (hc : c < 3) (hc0 : mA y 12 c < 2 ^ 30) {r : Nat} (hr : r < ms y 6) (ho : ∀ w, isB w (ex3 (pMq y s fr (mA y 12 c)) (r + 1) 0 0) → Ex G l 1 mX12_maskOf (fun v h' => ∃ w, v = some (.int (nI w)) ∧ h' = h ∧ isB w (mskm y s fr (mA y 12 c))) eNoX 0 0 6 [(0, .ref M), (1, .int (nI (s))), (2, .int (nI (fr))), (3, .int (nI (c))), (4, .int (nI (w))), (5, .int (nI (r + 1)))] [] h) : ∀ (f k : Nat), 10 - k < f → 1 ≤ k → k ≤ 10 → ∀ w, isB w (ex3 (pMq y s fr (mA y 12 c)) r k 0) → Ex G l 1 mX12_maskOf (fun v h' => ∃ w, v = some (.int (nI w)) ∧ h' = h ∧ isB w (mskm y s fr (mA y 12 c))) eNoX 0 0 18 [(0, .ref M), (1, .int (nI (s))), (2, .int (nI (fr))), (3, .int (nI (c))), (4, .int (nI (w))), (5, .int (nI (r))), (6, .int (nI (k)))] [] h := by
  intro f
  induction f with
  | zero =>
    intro k h1 h2 h3 w hw
    omega
  | succ f ih =>
    intro k h1 h2 h3 w hw
    have k3 : h.2 (M + 3) = some (.inl (eA G 0, 41, .inl (fun j => nI (mA y 3 j)))) := hM.2 3 (by decide) (by decide)
    have hn := hB.1
    have s2 : mA y 3 r ≤ 9 := (hB.2.2 r).2.1
    have z2 : sz (mS y r) ≤ 9 := s2
    refine ex_iload rfl dX12_maskOf_18 ?_
    refine ex_aload_n rfl dX12_maskOf_20 ?_
    refine ex_get dX12_maskOf_21 gf_X12_21 hM.1 rfl ?_
    refine ex_iload rfl dX12_maskOf_24 ?_
    refine ex_ialdN dX12_maskOf_26 k3 (by omega) (by decide) ?_
    refine ex_icmpN_ge (tgt := 128) (by decide) dX12_maskOf_27 (by omega) (show sz (mS y r) < 2 ^ 31 by omega) (fun c1 => ?_) (fun c1 => ?_)
    · refine ex_iincN (z := 1) rfl (by decide) rfl dX12_maskOf_128 ?_
      refine ex_goto (tgt := 6) (by decide) dX12_maskOf_131 ?_
      exact ex_lv [(0, .ref M), (1, .int (nI (s))), (2, .int (nI (fr))), (3, .int (nI (c))), (4, .int (nI (w))), (5, .int (nI (r + 1)))] ⟨rfl, rfl, rfl, rfl, rfl, rfl, trivial⟩ (ho w (hw.c (ex3_r (fun i j hi z => by have := z.2.2.2.2.1; have : sz (mS y r) ≤ k := c1; omega))))
    · refine ex_iload_n rfl dX12_maskOf_30 ?_
      refine ex_istore (by decide) rfl dX12_maskOf_31 ?_
      have hk1 : k < sz (mS y r) := c1
      exact ex_lv [(0, .ref M), (1, .int (nI (s))), (2, .int (nI (fr))), (3, .int (nI (c))), (4, .int (nI (w))), (5, .int (nI (r))), (6, .int (nI (k))), (7, .int (nI (fr)))] ⟨rfl, rfl, rfl, rfl, rfl, rfl, rfl, rfl, trivial⟩ (l_mo3 hM hB hs hf hc hc0 hr h2 c1 (fun w hw => ih (k + 1) (by omega) (by omega) (by omega) w hw) 11 fr (by omega) (by omega) (by omega) w (hw.c (ex3_b (fun j hj z => by have := z.2.2.2.2.2.1; omega))))
set_option maxHeartbeats 4000000 in
set_option maxRecDepth 100000 in
theorem l_mo1 {G : EG} {l : Launch} {h : EH} {M : Nat} {y : MS} (hM : MD G h M y) (hB : mB y) {s fr c : Nat} (hs : s < 41) (hf : fr ≤ 9) (hc : c < 3) (hc0 : mA y 12 c < 2 ^ 30) : ∀ (f k : Nat), ms y 6 - k < f → k ≤ ms y 6 → ∀ w, isB w (ex3 (pMq y s fr (mA y 12 c)) k 0 0) → Ex G l 1 mX12_maskOf (fun v h' => ∃ w, v = some (.int (nI w)) ∧ h' = h ∧ isB w (mskm y s fr (mA y 12 c))) eNoX 0 0 6 [(0, .ref M), (1, .int (nI (s))), (2, .int (nI (fr))), (3, .int (nI (c))), (4, .int (nI (w))), (5, .int (nI (k)))] [] h := by
  intro f
  induction f with
  | zero =>
    intro k h1 h2 w hw
    omega
  | succ f ih =>
    intro k h1 h2 w hw
    have hn := hB.1
    refine ex_iload rfl dX12_maskOf_6 ?_
    refine ex_aload_n rfl dX12_maskOf_8 ?_
    refine ex_get dX12_maskOf_9 gf_X12_107 hM.1 rfl ?_
    refine ex_icmpN_ge (tgt := 134) (by decide) dX12_maskOf_12 (by omega) (by omega) (fun c1 => ?_) (fun c1 => ?_)
    · refine ex_iload rfl dX12_maskOf_134 ?_
      refine ex_iret dX12_maskOf_136 rfl ⟨w, rfl, rfl, hw.c (fun b => ⟨fun ⟨r, k', j, z1, z2, _⟩ => ⟨r, j, z2 ▸ z1⟩, fun ⟨r, j, z⟩ => ⟨r, b + 1, j, z, rfl, Or.inl (Nat.lt_of_lt_of_le z.1 c1)⟩⟩)⟩
    · refine ex_iconst (v := (nI 1)) (by decide) dX12_maskOf_15 ?_
      refine ex_istore (by decide) rfl dX12_maskOf_16 ?_
      exact ex_lv [(0, .ref M), (1, .int (nI (s))), (2, .int (nI (fr))), (3, .int (nI (c))), (4, .int (nI (w))), (5, .int (nI (k))), (6, .int (nI (1)))] ⟨rfl, rfl, rfl, rfl, rfl, rfl, rfl, trivial⟩ (l_mo2 hM hB hs hf hc hc0 c1 (fun w hw => ih (k + 1) (by omega) (by omega) w hw) 11 1 (by omega) (by omega) (by omega) w (hw.c (ex3_1 (fun j z => by have := z.2.2.2.1; omega))))
set_option maxHeartbeats 4000000 in
set_option maxRecDepth 100000 in
theorem t_maskOf {G : EG} {l : Launch} {h : EH} {M : Nat} {y : MS} (hM : MD G h M y) (hB : mB y) {s fr c : Nat} (hs : s < 41) (hf : fr ≤ 9) (hc : c < 3) (hc0 : mA y 12 c < 2 ^ 30) : ES G l 1 mX12_maskOf [.ref M, .int (nI s), .int (nI fr), .int (nI c)] h 0 0 (fun v h' => ∃ w, v = some (.int (nI w)) ∧ h' = h ∧ isB w (mskm y s fr (mA y 12 c))) eNoX := by
  refine es_of (by decide) rfl (Nat.le_of_ble_eq_true rfl) ?_
  refine ex_iconst (v := (nI 0)) (by decide) dX12_maskOf_0 ?_
  refine ex_istore (by decide) rfl dX12_maskOf_1 ?_
  refine ex_iconst (v := (nI 0)) (by decide) dX12_maskOf_3 ?_
  refine ex_istore (by decide) rfl dX12_maskOf_4 ?_
  exact ex_lv [(0, .ref M), (1, .int (nI (s))), (2, .int (nI (fr))), (3, .int (nI (c))), (4, .int (nI 0)), (5, .int (nI (0)))] ⟨rfl, rfl, rfl, rfl, rfl, rfl, trivial⟩ (l_mo1 hM hB hs hf hc hc0 (ms y 6 + 1) 0 (by omega) (by omega) 0 (isB.z.c (fun b => ⟨fun z => z.elim, fun ⟨r, k, j, z, z2, z3⟩ => by omega⟩)))
