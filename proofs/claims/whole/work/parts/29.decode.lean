/-! IMAGECODEC, second part: bytes as a policy -/
def gv (f : Nat → Nat) (n tk lo hi : Nat) : Nat := if tok f n tk lo hi then f tk else lo
theorem gv_b {f : Nat → Nat} {n tk lo hi : Nat} (h : lo ≤ hi) : lo ≤ gv f n tk lo hi ∧ gv f n tk lo hi ≤ hi := by
  unfold gv
  split
  · have := of_decide_eq_true (show decide (tk < n ∧ lo ≤ f tk ∧ f tk ≤ hi) = true by assumption); exact this.2
  · exact ⟨Nat.le_refl _, h⟩
theorem gv_ok {f : Nat → Nat} {n tk lo hi : Nat} (h : tok f n tk lo hi = true) : gv f n tk lo hi = f tk := if_pos h
def dHi (T M k : Nat) : Nat := if T * T ≤ k ∧ k < 2 * (T * T) then T else M
theorem rc_inj {T s t i j : Nat} (ht : t < T) (hj : j < T) (h : s * T + t = i * T + j) : s = i ∧ t = j := by
  have h1 : ∀ x y, y < T → (x * T + y) / T = x := fun x y hy => by rw [Nat.add_comm, Nat.add_mul_div_right _ _ (by omega), Nat.div_eq_of_lt hy, Nat.zero_add]
  have h2 := h1 s t ht
  rw [h, h1 i j hj] at h2
  exact ⟨h2.symm, by rw [h2] at h; omega⟩
theorem bnot {b c : Bool} : (b || !c) = false ↔ b = false ∧ c = true := by cases b <;> cases c <;> decide
def dk (f : Nat → Nat) (n T c M at_ : Nat) (p0 p : Pol) (br0 : Bool) (m : Nat) (br : Bool) : Prop :=
  (pT p = pT p0 ∧ pC p = pC p0 ∧ pPm p = pPm p0 ∧ pRk p = pRk p0) ∧
  (br = false ↔ br0 = false ∧ ∀ k, k < m → tok f n (at_ + k) 0 (dHi T M k) = true) ∧
  (∀ j, cC j ≠ c → pAl p j = pAl p0 j ∧ pPr p j = pPr p0 j) ∧
  (∀ s t, s < T → t < T → s * T + t < m → pAl p (cel s t c) = gv f n (at_ + (s * T + t)) 0 M) ∧
  (∀ s t, s < T → t < T → T * T + (s * T + t) < m → pPr p (cel s t c) = gv f n (at_ + (T * T + (s * T + t))) 0 T) ∧
  (∀ w, w < 5 → 2 * (T * T) + w < m → pMs p (c * 5 + w) = gv f n (at_ + (2 * (T * T) + w)) 0 M) ∧
  (∀ w, w < 5 → m ≤ 2 * (T * T) + w → pMs p (c * 5 + w) = 0) ∧
  (∀ j, j < c * 5 ∨ c * 5 + 5 ≤ j → pMs p j = pMs p0 j)
theorem dk.cast {f : Nat → Nat} {n T c M at_ : Nat} {p0 p : Pol} {br0 br : Bool} {m m' : Nat} (h : dk f n T c M at_ p0 p br0 m br) (e : m = m') : dk f n T c M at_ p0 p br0 m' br := by rw [← e]; exact h
theorem BR.cast {G : EG} {h : EH} {a b n tk tk' : Nat} {br : Bool} {f : Nat → Nat} (x : BR G h a b n tk br f) (e : tk = tk') : BR G h a b n tk' br f := by rw [← e]; exact x
theorem dk.z {f : Nat → Nat} {n T c M at_ : Nat} {p0 : Pol} {br0 : Bool} (hz : ∀ w, w < 5 → pMs p0 (c * 5 + w) = 0) : dk f n T c M at_ p0 p0 br0 0 br0 :=
  ⟨⟨rfl, rfl, rfl, rfl⟩, ⟨fun z => ⟨z, fun k hk => by omega⟩, fun z => z.1⟩, fun j _ => ⟨rfl, rfl⟩, fun s t _ _ z => by omega, fun s t _ _ z => by omega, fun w _ z => by omega, fun w hw _ => hz w hw, fun j _ => rfl⟩
theorem dk_br {f : Nat → Nat} {n T M at_ m : Nat} {br0 br : Bool} (h : br = false ↔ br0 = false ∧ ∀ k, k < m → tok f n (at_ + k) 0 (dHi T M k) = true) {H : Nat} (hH : dHi T M m = H) : (br || !(tok f n (at_ + m) 0 H)) = false ↔ br0 = false ∧ ∀ k, k < m + 1 → tok f n (at_ + k) 0 (dHi T M k) = true := by
  rw [bnot, h]
  constructor
  · rintro ⟨⟨h1, h2⟩, h3⟩
    refine ⟨h1, fun k hk => ?_⟩
    rcases Nat.lt_or_ge k m with w | w
    · exact h2 k w
    · rw [show k = m by omega, hH]; exact h3
  · rintro ⟨h1, h2⟩
    exact ⟨⟨h1, fun k hk => h2 k (by omega)⟩, by have := h2 m (by omega); rw [hH] at this; exact this⟩
theorem vup_e {f : Nat → Nat} {i x j : Nat} (h : j = i) : va_up f i x j = x := if_pos h
theorem vup_n {f : Nat → Nat} {i x j : Nat} (h : j ≠ i) : va_up f i x j = f j := if_neg h
theorem cel_ne {s t c s' t' c' : Nat} (ht : t < 8) (ht' : t' < 8) (hs : s < 8) (hs' : s' < 8) (h : ¬ (s = s' ∧ t = t' ∧ c = c')) : cel s t c ≠ cel s' t' c' := by unfold cel; omega
theorem dk.al {f : Nat → Nat} {n T c M at_ : Nat} {p0 p : Pol} {br0 br : Bool} {m i j : Nat} (h : dk f n T c M at_ p0 p br0 m br) (hT : T ≤ 8) (hi : i < T) (hj : j < T) (hm : m = i * T + j) : dk f n T c M at_ p0 (pT p, pC p, pPm p, pRk p, va_up (pAl p) (cel i j c) (gv f n (at_ + m) 0 M), pPr p, pMs p) br0 (m + 1) (br || !(tok f n (at_ + m) 0 M)) := by
  have hr := row_le hi
  obtain ⟨h1, h2, h3, h4, h5, h6, h7, h8⟩ := h
  refine ⟨h1, dk_br h2 (if_neg (by omega)), fun q hq => ⟨?_, (h3 q hq).2⟩, fun s t hs ht hl => ?_, fun s t hs ht hl => by omega, fun w hw hl => by omega, fun w hw hl => h7 w hw (by omega), h8⟩
  · show va_up (pAl p) (cel i j c) _ q = _
    rw [vup_n (fun z => hq (by rw [z, cel_C (by omega) (by omega)]))]
    exact (h3 q hq).1
  · show va_up (pAl p) (cel i j c) _ (cel s t c) = _
    by_cases z : s * T + t = i * T + j
    · obtain ⟨z1, z2⟩ := rc_inj ht hj z
      rw [z1, z2, vup_e rfl, hm]
    · rw [vup_n (cel_ne (by omega) (by omega) (by omega) (by omega) (fun y => z (by rw [y.1, y.2.1])))]
      exact h4 s t hs ht (by omega)
theorem dk.pr {f : Nat → Nat} {n T c M at_ : Nat} {p0 p : Pol} {br0 br : Bool} {m i j : Nat} (h : dk f n T c M at_ p0 p br0 m br) (hT : T ≤ 8) (hi : i < T) (hj : j < T) (hm : m = T * T + (i * T + j)) : dk f n T c M at_ p0 (pT p, pC p, pPm p, pRk p, pAl p, va_up (pPr p) (cel i j c) (gv f n (at_ + m) 0 T), pMs p) br0 (m + 1) (br || !(tok f n (at_ + m) 0 T)) := by
  have hr := row_le hi
  obtain ⟨h1, h2, h3, h4, h5, h6, h7, h8⟩ := h
  refine ⟨h1, dk_br h2 (if_pos (by omega)), fun q hq => ⟨(h3 q hq).1, ?_⟩, fun s t hs ht hl => h4 s t hs ht (by have := row_le hs; omega), fun s t hs ht hl => ?_, fun w hw hl => by omega, fun w hw hl => h7 w hw (by omega), h8⟩
  · show va_up (pPr p) (cel i j c) _ q = _
    rw [vup_n (fun z => hq (by rw [z, cel_C (by omega) (by omega)]))]
    exact (h3 q hq).2
  · show va_up (pPr p) (cel i j c) _ (cel s t c) = _
    by_cases z : s * T + t = i * T + j
    · obtain ⟨z1, z2⟩ := rc_inj ht hj z
      rw [z1, z2, vup_e rfl, hm]
    · rw [vup_n (cel_ne (by omega) (by omega) (by omega) (by omega) (fun y => z (by rw [y.1, y.2.1])))]
      exact h5 s t hs ht (by omega)
theorem dk.ms {f : Nat → Nat} {n T c M at_ : Nat} {p0 p : Pol} {br0 br : Bool} {m w0 : Nat} (h : dk f n T c M at_ p0 p br0 m br) (hw0 : w0 < 5) (hm : m = 2 * (T * T) + w0) : dk f n T c M at_ p0 (pT p, pC p, pPm p, pRk p, pAl p, pPr p, va_up (pMs p) (c * 5 + w0) (pMs p (c * 5 + w0) ||| gv f n (at_ + m) 0 M)) br0 (m + 1) (br || !(tok f n (at_ + m) 0 M)) := by
  obtain ⟨h1, h2, h3, h4, h5, h6, h7, h8⟩ := h
  refine ⟨h1, dk_br h2 (if_neg (by omega)), h3, fun s t hs ht hl => h4 s t hs ht (by have := row_le hs; omega), fun s t hs ht hl => h5 s t hs ht (by have := row_le hs; omega), fun w hw hl => ?_, fun w hw hl => ?_, fun q hq => ?_⟩
  · show va_up (pMs p) (c * 5 + w0) _ (c * 5 + w) = _
    by_cases z : w = w0
    · rw [vup_e (by omega), h7 w0 hw0 (by omega), Nat.zero_or, z, hm]
    · rw [vup_n (by omega)]; exact h6 w hw (by omega)
  · show va_up (pMs p) (c * 5 + w0) _ (c * 5 + w) = _
    rw [vup_n (by omega)]; exact h7 w hw (by omega)
  · show va_up (pMs p) (c * 5 + w0) _ q = _
    rw [vup_n (by omega)]; exact h8 q hq
abbrev atBP (e eb b : Nat) : Nat → Prop := fun q => atB e eb q ∨ atP b q
theorem sepBP1 {e b : Nat} (h1 : e < b ∨ b + 5 < e) : ¬ atP b e := fun z => by have := z.1; have := z.2; omega
set_option maxHeartbeats 4000000 in
set_option maxRecDepth 100000 in
theorem l_dec1i {G : EG} {l : Launch} {e eb b n : Nat} {f : Nat → Nat} (hs1 : e < b ∨ b + 5 < e) (hs2 : eb < b ∨ b + 5 < eb) (hf : ∀ j, j < n → f j < 2 ^ 31) {h0 : EH} {p0 : Pol} {br0 : Bool} {T c M at_ : Nat} (hT : pT p0 = T) (hc : c < pC p0) (hM : M < 64) (hat : at_ ≤ 420) {i : Nat} (hi : i < T) (ho : ∀ (h : EH) (p : Pol) (br : Bool), PL G h b p → BR G h e eb n (at_ + (0 + (i + 1) * T)) br f → Fr (atBP e eb b) h0 h → dk f n T c M at_ p0 p br0 (0 + (i + 1) * T) br → Ex G l 2 mX4_decodeClass (fun v h' => v = none ∧ ∃ p' br', PL G h' b p' ∧ BR G h' e eb n (at_ + (2 * (T * T) + 5)) br' f ∧ dk f n T c M at_ p0 p' br0 (2 * (T * T) + 5) br' ∧ Fr (atBP e eb b) h0 h') eNoX 0 0 13 [(0, .ref e), (1, .int (nI c)), (2, .ref b), (3, .int (nI M)), (4, .int (nI (i + 1)))] [] h) : ∀ (g k : Nat), T - k < g → k ≤ T → ∀ (h : EH) (p : Pol) (br : Bool), PL G h b p → BR G h e eb n (at_ + (0 + (i * T + k))) br f → Fr (atBP e eb b) h0 h → dk f n T c M at_ p0 p br0 (0 + (i * T + k)) br → Ex G l 2 mX4_decodeClass (fun v h' => v = none ∧ ∃ p' br', PL G h' b p' ∧ BR G h' e eb n (at_ + (2 * (T * T) + 5)) br' f ∧ dk f n T c M at_ p0 p' br0 (2 * (T * T) + 5) br' ∧ Fr (atBP e eb b) h0 h') eNoX 0 0 25 [(0, .ref e), (1, .int (nI c)), (2, .ref b), (3, .int (nI M)), (4, .int (nI i)), (5, .int (nI k))] [] h := by
  intro g
  induction g with
  | zero =>
    intro k h1 h2 h p br hP hB hF hd
    omega
  | succ g ih =>
    intro k h1 h2 h p br hP hB hF hd
    have hT8 := hP.2.2.2.2.2.2.1
    have hpT : pT p = T := hd.1.1.trans hT
    have hpC := hd.1.2.1
    have hsq := sq8 (T := T) (by omega)
    have hgM := fun t => (gv_b (f := f) (n := n) (tk := t) (Nat.zero_le M)).2
    have hgT := fun t => (gv_b (f := f) (n := n) (tk := t) (Nat.zero_le T)).2
    have hrl := row_le hi
    refine ex_iload rfl dX4_decodeClass_25 ?_
    refine ex_aload_n rfl dX4_decodeClass_27 ?_
    refine ex_invv (k := 0) (n := 0) (mc' := 0) (ms' := 0) (As := []) dX4_decodeClass_28 cv_X4_14 (by decide) (Nat.le_of_ble_eq_true rfl) (Or.inl ⟨_, _, _, _, hP.1, rfl⟩) (s_ptypes hP) (fun v h' q => ?_)
    obtain ⟨rfl, rfl⟩ := q
    rw [hpT]
    refine ex_icmpN_ge (tgt := 55) (by decide) dX4_decodeClass_31 (by omega) (by omega) (fun c1 => ?_) (fun c1 => ?_)
    · refine ex_iincN (z := 1) rfl (by decide) rfl dX4_decodeClass_55 ?_
      refine ex_goto (tgt := 13) (by decide) dX4_decodeClass_58 ?_
      have hk : k = T := by omega
      subst hk
      exact ex_lv [(0, .ref e), (1, .int (nI c)), (2, .ref b), (3, .int (nI M)), (4, .int (nI (i + 1)))] ⟨rfl, rfl, rfl, rfl, rfl, trivial⟩ (ho _ _ _ hP (hB.cast (by rw [Nat.succ_mul])) hF (hd.cast (by rw [Nat.succ_mul])))
    · refine ex_aload_n rfl dX4_decodeClass_34 ?_
      refine ex_iload rfl dX4_decodeClass_35 ?_
      refine ex_iload rfl dX4_decodeClass_37 ?_
      refine ex_iload_n rfl dX4_decodeClass_39 ?_
      refine ex_aload_n rfl dX4_decodeClass_40 ?_
      refine ex_iconst (v := (nI 0)) (by decide) dX4_decodeClass_41 ?_
      refine ex_iload_n rfl dX4_decodeClass_42 ?_
      refine ex_invv (k := 0) (n := 0) (mc' := 0) (ms' := 0) (As := [_, _]) dX4_decodeClass_43 cv_X4_55 (by decide) (Nat.le_of_ble_eq_true rfl) (Or.inl ⟨_, _, _, _, hB.1, rfl⟩) (s_btake hB (lo := 0) (hi := M) (by decide) (by omega) (by omega) hf) (fun v h' q => ?_)
      obtain ⟨rfl, hB1, hF1⟩ := q
      have hP1 := hP.fr hF1 (sepPB hs1 hs2)
      refine ex_invv (k := 0) (n := 0) (mc' := 0) (ms' := 0) (As := [_, _, _, _]) dX4_decodeClass_46 cv_X4_76 (by decide) (Nat.le_of_ble_eq_true rfl) (Or.inl ⟨_, _, _, _, hP1.1, rfl⟩) (s_setAllowed hP1 (s := i) (t := k) (c := c) (x := gv f n (at_ + (0 + (i * T + k))) 0 M) (by omega) (by omega) (by omega) (by have := hgM (at_ + (0 + (i * T + k))); omega)) (fun v h' q => ?_)
      obtain ⟨rfl, hP2, hF2⟩ := q
      have hB2 := hB1.fr hF2 (sepBP1 hs1) (sepBP1 hs2)
      refine ex_iincN (z := 1) rfl (by decide) rfl dX4_decodeClass_49 ?_
      refine ex_goto (tgt := 25) (by decide) dX4_decodeClass_52 ?_
      exact ih (k + 1) (by omega) (by omega) _ _ _ hP2 hB2 ((hF.tr (hF1.wk (fun q => Or.inl))).tr (hF2.wk (fun q => Or.inr))) (hd.al (by omega) hi (by omega) (by omega))
set_option maxHeartbeats 4000000 in
set_option maxRecDepth 100000 in
theorem l_dec1o {G : EG} {l : Launch} {e eb b n : Nat} {f : Nat → Nat} (hs1 : e < b ∨ b + 5 < e) (hs2 : eb < b ∨ b + 5 < eb) (hf : ∀ j, j < n → f j < 2 ^ 31) {h0 : EH} {p0 : Pol} {br0 : Bool} {T c M at_ : Nat} (hT : pT p0 = T) (hc : c < pC p0) (hM : M < 64) (hat : at_ ≤ 420) (ho : ∀ (h : EH) (p : Pol) (br : Bool), PL G h b p → BR G h e eb n (at_ + (T * T + 0 * T)) br f → Fr (atBP e eb b) h0 h → dk f n T c M at_ p0 p br0 (T * T + 0 * T) br → Ex G l 2 mX4_decodeClass (fun v h' => v = none ∧ ∃ p' br', PL G h' b p' ∧ BR G h' e eb n (at_ + (2 * (T * T) + 5)) br' f ∧ dk f n T c M at_ p0 p' br0 (2 * (T * T) + 5) br' ∧ Fr (atBP e eb b) h0 h') eNoX 0 0 64 [(0, .ref e), (1, .int (nI c)), (2, .ref b), (3, .int (nI M)), (4, .int (nI 0))] [] h) : ∀ (g k : Nat), T - k < g → k ≤ T → ∀ (h : EH) (p : Pol) (br : Bool), PL G h b p → BR G h e eb n (at_ + (0 + k * T)) br f → Fr (atBP e eb b) h0 h → dk f n T c M at_ p0 p br0 (0 + k * T) br → Ex G l 2 mX4_decodeClass (fun v h' => v = none ∧ ∃ p' br', PL G h' b p' ∧ BR G h' e eb n (at_ + (2 * (T * T) + 5)) br' f ∧ dk f n T c M at_ p0 p' br0 (2 * (T * T) + 5) br' ∧ Fr (atBP e eb b) h0 h') eNoX 0 0 13 [(0, .ref e), (1, .int (nI c)), (2, .ref b), (3, .int (nI M)), (4, .int (nI k))] [] h := by
  intro g
  induction g with
  | zero =>
    intro k h1 h2 h p br hP hB hF hd
    omega
  | succ g ih =>
    intro k h1 h2 h p br hP hB hF hd
    have hT8 := hP.2.2.2.2.2.2.1
    have hpT : pT p = T := hd.1.1.trans hT
    have hpC := hd.1.2.1
    have hsq := sq8 (T := T) (by omega)
    have hgM := fun t => (gv_b (f := f) (n := n) (tk := t) (Nat.zero_le M)).2
    have hgT := fun t => (gv_b (f := f) (n := n) (tk := t) (Nat.zero_le T)).2
    refine ex_iload rfl dX4_decodeClass_13 ?_
    refine ex_aload_n rfl dX4_decodeClass_15 ?_
    refine ex_invv (k := 0) (n := 0) (mc' := 0) (ms' := 0) (As := []) dX4_decodeClass_16 cv_X4_14 (by decide) (Nat.le_of_ble_eq_true rfl) (Or.inl ⟨_, _, _, _, hP.1, rfl⟩) (s_ptypes hP) (fun v h' q => ?_)
    obtain ⟨rfl, rfl⟩ := q
    rw [hpT]
    refine ex_icmpN_ge (tgt := 61) (by decide) dX4_decodeClass_19 (by omega) (by omega) (fun c1 => ?_) (fun c1 => ?_)
    · refine ex_iconst (v := (nI 0)) (by decide) dX4_decodeClass_61 ?_
      refine ex_istore (by decide) rfl dX4_decodeClass_62 ?_
      have hk : k = T := by omega
      subst hk
      exact ex_lv [(0, .ref e), (1, .int (nI c)), (2, .ref b), (3, .int (nI M)), (4, .int (nI 0))] ⟨rfl, rfl, rfl, rfl, rfl, trivial⟩ (ho _ _ _ hP (hB.cast (by omega)) hF (hd.cast (by omega)))
    · refine ex_iconst (v := (nI 0)) (by decide) dX4_decodeClass_22 ?_
      refine ex_istore (by decide) rfl dX4_decodeClass_23 ?_
      exact ex_lv [(0, .ref e), (1, .int (nI c)), (2, .ref b), (3, .int (nI M)), (4, .int (nI k)), (5, .int (nI 0))] ⟨rfl, rfl, rfl, rfl, rfl, rfl, trivial⟩ (l_dec1i hs1 hs2 hf hT hc hM hat (by omega) (fun h p br hP hB hF hd => ih (k + 1) (by omega) (by omega) h p br hP hB hF hd) (T + 1) 0 (by omega) (by omega) _ _ _ hP hB hF hd)
set_option maxHeartbeats 4000000 in
set_option maxRecDepth 100000 in
theorem l_dec2i {G : EG} {l : Launch} {e eb b n : Nat} {f : Nat → Nat} (hs1 : e < b ∨ b + 5 < e) (hs2 : eb < b ∨ b + 5 < eb) (hf : ∀ j, j < n → f j < 2 ^ 31) {h0 : EH} {p0 : Pol} {br0 : Bool} {T c M at_ : Nat} (hT : pT p0 = T) (hc : c < pC p0) (hM : M < 64) (hat : at_ ≤ 420) {i : Nat} (hi : i < T) (ho : ∀ (h : EH) (p : Pol) (br : Bool), PL G h b p → BR G h e eb n (at_ + (T * T + (i + 1) * T)) br f → Fr (atBP e eb b) h0 h → dk f n T c M at_ p0 p br0 (T * T + (i + 1) * T) br → Ex G l 2 mX4_decodeClass (fun v h' => v = none ∧ ∃ p' br', PL G h' b p' ∧ BR G h' e eb n (at_ + (2 * (T * T) + 5)) br' f ∧ dk f n T c M at_ p0 p' br0 (2 * (T * T) + 5) br' ∧ Fr (atBP e eb b) h0 h') eNoX 0 0 64 [(0, .ref e), (1, .int (nI c)), (2, .ref b), (3, .int (nI M)), (4, .int (nI (i + 1)))] [] h) : ∀ (g k : Nat), T - k < g → k ≤ T → ∀ (h : EH) (p : Pol) (br : Bool), PL G h b p → BR G h e eb n (at_ + (T * T + (i * T + k))) br f → Fr (atBP e eb b) h0 h → dk f n T c M at_ p0 p br0 (T * T + (i * T + k)) br → Ex G l 2 mX4_decodeClass (fun v h' => v = none ∧ ∃ p' br', PL G h' b p' ∧ BR G h' e eb n (at_ + (2 * (T * T) + 5)) br' f ∧ dk f n T c M at_ p0 p' br0 (2 * (T * T) + 5) br' ∧ Fr (atBP e eb b) h0 h') eNoX 0 0 76 [(0, .ref e), (1, .int (nI c)), (2, .ref b), (3, .int (nI M)), (4, .int (nI i)), (5, .int (nI k))] [] h := by
  intro g
  induction g with
  | zero =>
    intro k h1 h2 h p br hP hB hF hd
    omega
  | succ g ih =>
    intro k h1 h2 h p br hP hB hF hd
    have hT8 := hP.2.2.2.2.2.2.1
    have hpT : pT p = T := hd.1.1.trans hT
    have hpC := hd.1.2.1
    have hsq := sq8 (T := T) (by omega)
    have hgM := fun t => (gv_b (f := f) (n := n) (tk := t) (Nat.zero_le M)).2
    have hgT := fun t => (gv_b (f := f) (n := n) (tk := t) (Nat.zero_le T)).2
    have hrl := row_le hi
    refine ex_iload rfl dX4_decodeClass_76 ?_
    refine ex_aload_n rfl dX4_decodeClass_78 ?_
    refine ex_invv (k := 0) (n := 0) (mc' := 0) (ms' := 0) (As := []) dX4_decodeClass_79 cv_X4_14 (by decide) (Nat.le_of_ble_eq_true rfl) (Or.inl ⟨_, _, _, _, hP.1, rfl⟩) (s_ptypes hP) (fun v h' q => ?_)
    obtain ⟨rfl, rfl⟩ := q
    rw [hpT]
    refine ex_icmpN_ge (tgt := 109) (by decide) dX4_decodeClass_82 (by omega) (by omega) (fun c1 => ?_) (fun c1 => ?_)
    · refine ex_iincN (z := 1) rfl (by decide) rfl dX4_decodeClass_109 ?_
      refine ex_goto (tgt := 64) (by decide) dX4_decodeClass_112 ?_
      have hk : k = T := by omega
      subst hk
      exact ex_lv [(0, .ref e), (1, .int (nI c)), (2, .ref b), (3, .int (nI M)), (4, .int (nI (i + 1)))] ⟨rfl, rfl, rfl, rfl, rfl, trivial⟩ (ho _ _ _ hP (hB.cast (by rw [Nat.succ_mul])) hF (hd.cast (by rw [Nat.succ_mul])))
    · refine ex_aload_n rfl dX4_decodeClass_85 ?_
      refine ex_iload rfl dX4_decodeClass_86 ?_
      refine ex_iload rfl dX4_decodeClass_88 ?_
      refine ex_iload_n rfl dX4_decodeClass_90 ?_
      refine ex_aload_n rfl dX4_decodeClass_91 ?_
      refine ex_iconst (v := (nI 0)) (by decide) dX4_decodeClass_92 ?_
      refine ex_aload_n rfl dX4_decodeClass_93 ?_
      refine ex_invv (k := 0) (n := 0) (mc' := 0) (ms' := 0) (As := []) dX4_decodeClass_94 cv_X4_14 (by decide) (Nat.le_of_ble_eq_true rfl) (Or.inl ⟨_, _, _, _, hP.1, rfl⟩) (s_ptypes hP) (fun v h' q => ?_)
      obtain ⟨rfl, rfl⟩ := q
      rw [hpT]
      refine ex_invv (k := 0) (n := 0) (mc' := 0) (ms' := 0) (As := [_, _]) dX4_decodeClass_97 cv_X4_55 (by decide) (Nat.le_of_ble_eq_true rfl) (Or.inl ⟨_, _, _, _, hB.1, rfl⟩) (s_btake hB (lo := 0) (hi := T) (by decide) (by omega) (by omega) hf) (fun v h' q => ?_)
      obtain ⟨rfl, hB1, hF1⟩ := q
      have hP1 := hP.fr hF1 (sepPB hs1 hs2)
      refine ex_invv (k := 0) (n := 0) (mc' := 0) (ms' := 0) (As := [_, _, _, _]) dX4_decodeClass_100 cv_X4_80 (by decide) (Nat.le_of_ble_eq_true rfl) (Or.inl ⟨_, _, _, _, hP1.1, rfl⟩) (s_setProduct hP1 (s := i) (t := k) (c := c) (x := gv f n (at_ + (T * T + (i * T + k))) 0 T) (by omega) (by omega) (by omega) (by have := hgT (at_ + (T * T + (i * T + k))); omega)) (fun v h' q => ?_)
      obtain ⟨rfl, hP2, hF2⟩ := q
      have hB2 := hB1.fr hF2 (sepBP1 hs1) (sepBP1 hs2)
      refine ex_iincN (z := 1) rfl (by decide) rfl dX4_decodeClass_103 ?_
      refine ex_goto (tgt := 76) (by decide) dX4_decodeClass_106 ?_
      exact ih (k + 1) (by omega) (by omega) _ _ _ hP2 hB2 ((hF.tr (hF1.wk (fun q => Or.inl))).tr (hF2.wk (fun q => Or.inr))) (hd.pr (by omega) hi (by omega) (by omega))
set_option maxHeartbeats 4000000 in
set_option maxRecDepth 100000 in
theorem l_dec2o {G : EG} {l : Launch} {e eb b n : Nat} {f : Nat → Nat} (hs1 : e < b ∨ b + 5 < e) (hs2 : eb < b ∨ b + 5 < eb) (hf : ∀ j, j < n → f j < 2 ^ 31) {h0 : EH} {p0 : Pol} {br0 : Bool} {T c M at_ : Nat} (hT : pT p0 = T) (hc : c < pC p0) (hM : M < 64) (hat : at_ ≤ 420) (ho : ∀ (h : EH) (p : Pol) (br : Bool), PL G h b p → BR G h e eb n (at_ + (2 * (T * T) + 0)) br f → Fr (atBP e eb b) h0 h → dk f n T c M at_ p0 p br0 (2 * (T * T) + 0) br → Ex G l 2 mX4_decodeClass (fun v h' => v = none ∧ ∃ p' br', PL G h' b p' ∧ BR G h' e eb n (at_ + (2 * (T * T) + 5)) br' f ∧ dk f n T c M at_ p0 p' br0 (2 * (T * T) + 5) br' ∧ Fr (atBP e eb b) h0 h') eNoX 0 0 118 [(0, .ref e), (1, .int (nI c)), (2, .ref b), (3, .int (nI M)), (4, .int (nI 0))] [] h) : ∀ (g k : Nat), T - k < g → k ≤ T → ∀ (h : EH) (p : Pol) (br : Bool), PL G h b p → BR G h e eb n (at_ + (T * T + k * T)) br f → Fr (atBP e eb b) h0 h → dk f n T c M at_ p0 p br0 (T * T + k * T) br → Ex G l 2 mX4_decodeClass (fun v h' => v = none ∧ ∃ p' br', PL G h' b p' ∧ BR G h' e eb n (at_ + (2 * (T * T) + 5)) br' f ∧ dk f n T c M at_ p0 p' br0 (2 * (T * T) + 5) br' ∧ Fr (atBP e eb b) h0 h') eNoX 0 0 64 [(0, .ref e), (1, .int (nI c)), (2, .ref b), (3, .int (nI M)), (4, .int (nI k))] [] h := by
  intro g
  induction g with
  | zero =>
    intro k h1 h2 h p br hP hB hF hd
    omega
  | succ g ih =>
    intro k h1 h2 h p br hP hB hF hd
    have hT8 := hP.2.2.2.2.2.2.1
    have hpT : pT p = T := hd.1.1.trans hT
    have hpC := hd.1.2.1
    have hsq := sq8 (T := T) (by omega)
    have hgM := fun t => (gv_b (f := f) (n := n) (tk := t) (Nat.zero_le M)).2
    have hgT := fun t => (gv_b (f := f) (n := n) (tk := t) (Nat.zero_le T)).2
    refine ex_iload rfl dX4_decodeClass_64 ?_
    refine ex_aload_n rfl dX4_decodeClass_66 ?_
    refine ex_invv (k := 0) (n := 0) (mc' := 0) (ms' := 0) (As := []) dX4_decodeClass_67 cv_X4_14 (by decide) (Nat.le_of_ble_eq_true rfl) (Or.inl ⟨_, _, _, _, hP.1, rfl⟩) (s_ptypes hP) (fun v h' q => ?_)
    obtain ⟨rfl, rfl⟩ := q
    rw [hpT]
    refine ex_icmpN_ge (tgt := 115) (by decide) dX4_decodeClass_70 (by omega) (by omega) (fun c1 => ?_) (fun c1 => ?_)
    · refine ex_iconst (v := (nI 0)) (by decide) dX4_decodeClass_115 ?_
      refine ex_istore (by decide) rfl dX4_decodeClass_116 ?_
      have hk : k = T := by omega
      subst hk
      exact ex_lv [(0, .ref e), (1, .int (nI c)), (2, .ref b), (3, .int (nI M)), (4, .int (nI 0))] ⟨rfl, rfl, rfl, rfl, rfl, trivial⟩ (ho _ _ _ hP (hB.cast (by omega)) hF (hd.cast (by omega)))
    · refine ex_iconst (v := (nI 0)) (by decide) dX4_decodeClass_73 ?_
      refine ex_istore (by decide) rfl dX4_decodeClass_74 ?_
      exact ex_lv [(0, .ref e), (1, .int (nI c)), (2, .ref b), (3, .int (nI M)), (4, .int (nI k)), (5, .int (nI 0))] ⟨rfl, rfl, rfl, rfl, rfl, rfl, trivial⟩ (l_dec2i hs1 hs2 hf hT hc hM hat (by omega) (fun h p br hP hB hF hd => ih (k + 1) (by omega) (by omega) h p br hP hB hF hd) (T + 1) 0 (by omega) (by omega) _ _ _ hP hB hF hd)
set_option maxHeartbeats 4000000 in
set_option maxRecDepth 100000 in
theorem l_dec3 {G : EG} {l : Launch} {e eb b n : Nat} {f : Nat → Nat} (hs1 : e < b ∨ b + 5 < e) (hs2 : eb < b ∨ b + 5 < eb) (hf : ∀ j, j < n → f j < 2 ^ 31) {h0 : EH} {p0 : Pol} {br0 : Bool} {T c M at_ : Nat} (hT : pT p0 = T) (hc : c < pC p0) (hM : M < 64) (hat : at_ ≤ 420) : ∀ (g k : Nat), 5 - k < g → k ≤ 5 → ∀ (h : EH) (p : Pol) (br : Bool), PL G h b p → BR G h e eb n (at_ + (2 * (T * T) + k)) br f → Fr (atBP e eb b) h0 h → dk f n T c M at_ p0 p br0 (2 * (T * T) + k) br → Ex G l 2 mX4_decodeClass (fun v h' => v = none ∧ ∃ p' br', PL G h' b p' ∧ BR G h' e eb n (at_ + (2 * (T * T) + 5)) br' f ∧ dk f n T c M at_ p0 p' br0 (2 * (T * T) + 5) br' ∧ Fr (atBP e eb b) h0 h') eNoX 0 0 118 [(0, .ref e), (1, .int (nI c)), (2, .ref b), (3, .int (nI M)), (4, .int (nI k))] [] h := by
  intro g
  induction g with
  | zero =>
    intro k h1 h2 h p br hP hB hF hd
    omega
  | succ g ih =>
    intro k h1 h2 h p br hP hB hF hd
    have hT8 := hP.2.2.2.2.2.2.1
    have hpT : pT p = T := hd.1.1.trans hT
    have hpC := hd.1.2.1
    have hsq := sq8 (T := T) (by omega)
    have hgM := fun t => (gv_b (f := f) (n := n) (tk := t) (Nat.zero_le M)).2
    have hgT := fun t => (gv_b (f := f) (n := n) (tk := t) (Nat.zero_le T)).2
    refine ex_iload rfl dX4_decodeClass_118 ?_
    refine ex_iconst (v := (nI 5)) (by decide) dX4_decodeClass_120 ?_
    refine ex_icmpN_ge (tgt := 143) (by decide) dX4_decodeClass_121 (by omega) (by omega) (fun c1 => ?_) (fun c1 => ?_)
    · refine ex_vret dX4_decodeClass_143 rfl ⟨rfl, p, br, hP, hB.cast (by omega), hd.cast (by omega), hF⟩
    · refine ex_aload_n rfl dX4_decodeClass_124 ?_
      refine ex_iload_n rfl dX4_decodeClass_125 ?_
      refine ex_iload rfl dX4_decodeClass_126 ?_
      refine ex_aload_n rfl dX4_decodeClass_128 ?_
      refine ex_iconst (v := (nI 0)) (by decide) dX4_decodeClass_129 ?_
      refine ex_iload_n rfl dX4_decodeClass_130 ?_
      refine ex_invv (k := 0) (n := 0) (mc' := 0) (ms' := 0) (As := [_, _]) dX4_decodeClass_131 cv_X4_55 (by decide) (Nat.le_of_ble_eq_true rfl) (Or.inl ⟨_, _, _, _, hB.1, rfl⟩) (s_btake hB (lo := 0) (hi := M) (by decide) (by omega) (by omega) hf) (fun v h' q => ?_)
      obtain ⟨rfl, hB1, hF1⟩ := q
      have hP1 := hP.fr hF1 (sepPB hs1 hs2)
      refine ex_invv (k := 0) (n := 0) (mc' := 0) (ms' := 0) (As := [_, _, _]) dX4_decodeClass_134 cv_X4_83 (by decide) (Nat.le_of_ble_eq_true rfl) (Or.inl ⟨_, _, _, _, hP1.1, rfl⟩) (s_addToMask hP1 (c := c) (w := k) (x := gv f n (at_ + (2 * (T * T) + k)) 0 M) (by omega) (by omega) (by have := hgM (at_ + (2 * (T * T) + k)); omega)) (fun v h' q => ?_)
      obtain ⟨rfl, hP2, hF2⟩ := q
      have hB2 := hB1.fr hF2 (sepBP1 hs1) (sepBP1 hs2)
      refine ex_iincN (z := 1) rfl (by decide) rfl dX4_decodeClass_137 ?_
      refine ex_goto (tgt := 118) (by decide) dX4_decodeClass_140 ?_
      exact ih (k + 1) (by omega) (by omega) _ _ _ hP2 hB2 ((hF.tr (hF1.wk (fun q => Or.inl))).tr (hF2.wk (fun q => Or.inr))) (hd.ms (by omega) rfl)
set_option maxHeartbeats 4000000 in
set_option maxRecDepth 100000 in
theorem s_decodeClass {G : EG} {l : Launch} {e eb b n : Nat} {f : Nat → Nat} (hs1 : e < b ∨ b + 5 < e) (hs2 : eb < b ∨ b + 5 < eb) (hf : ∀ j, j < n → f j < 2 ^ 31) {h : EH} {p0 : Pol} {br0 : Bool} {T c M at_ : Nat} (hP : PL G h b p0) (hB : BR G h e eb n at_ br0 f) (hT : pT p0 = T) (hc : c < pC p0) (hpm : pPm p0 c ≤ 6) (hM : M = 2 ^ pPm p0 c - 1) (hat : at_ ≤ 420) (hz : ∀ w, w < 5 → pMs p0 (c * 5 + w) = 0) : ES G l 2 mX4_decodeClass [.ref e, .int (nI c), .ref b] h 0 0 (fun v h' => v = none ∧ ∃ p' br', PL G h' b p' ∧ BR G h' e eb n (at_ + (2 * (T * T) + 5)) br' f ∧ dk f n T c M at_ p0 p' br0 (2 * (T * T) + 5) br' ∧ Fr (atBP e eb b) h h') eNoX := by
  have hp6 : 2 ^ pPm p0 c ≤ 2 ^ 6 := Nat.pow_le_pow_right (by decide) hpm
  have hp1 : 1 ≤ 2 ^ pPm p0 c := Nat.one_le_two_pow
  have hM6 : M < 64 := by omega
  refine es_of (by decide) rfl (Nat.le_of_ble_eq_true rfl) ?_
  refine ex_iconst (v := (nI 1)) (by decide) dX4_decodeClass_0 ?_
  refine ex_aload_n rfl dX4_decodeClass_1 ?_
  refine ex_iload_n rfl dX4_decodeClass_2 ?_
  refine ex_invv (k := 0) (n := 0) (mc' := 0) (ms' := 0) (As := [_]) dX4_decodeClass_3 cv_X4_27 (by decide) (Nat.le_of_ble_eq_true rfl) (Or.inl ⟨_, _, _, _, hP.1, rfl⟩) (s_permissionsOf hP hc) (fun v h' q => ?_)
  obtain ⟨rfl, rfl⟩ := q
  refine ex_ishl dX4_decodeClass_6 ?_
  rw [shl_1 (by omega)]
  refine ex_iconst (v := (nI 1)) (by decide) dX4_decodeClass_7 ?_
  refine ex_isubN hp1 dX4_decodeClass_8 ?_
  refine ex_istore_n (by decide) rfl dX4_decodeClass_9 ?_
  refine ex_iconst (v := (nI 0)) (by decide) dX4_decodeClass_10 ?_
  refine ex_istore (by decide) rfl dX4_decodeClass_11 ?_
  rw [← hM]
  refine ex_lv [(0, .ref e), (1, .int (nI c)), (2, .ref b), (3, .int (nI M)), (4, .int (nI 0))] ⟨rfl, rfl, rfl, rfl, rfl, trivial⟩ (l_dec1o hs1 hs2 hf hT hc hM6 hat (fun h1 p1 br1 hP1 hB1 hF1 hd1 => l_dec2o hs1 hs2 hf hT hc hM6 hat (fun h2 p2 br2 hP2 hB2 hF2 hd2 => l_dec3 hs1 hs2 hf hT hc hM6 hat 6 0 (by omega) (by omega) h2 p2 br2 hP2 hB2 hF2 hd2) (T + 1) 0 (by omega) (by omega) h1 p1 br1 hP1 hB1 hF1 hd1) (T + 1) 0 (by omega) (by omega) _ p0 br0 hP (hB.cast (by omega)) Fr.rf ((dk.z hz).cast (by omega)))
