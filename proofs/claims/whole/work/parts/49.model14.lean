/-! THE MODEL: the keyword -/
def ku (k j : Nat) : Nat := if j < kLen k then kCh k j else 96
theorem kw_mod : ∀ k, k < 9 → ∀ m, m < 7 → kwV k % 2 ^ (5 * m) = lpk (ku k) 0 m := by decide
theorem kw_lt : ∀ k, k < 9 → kwV k < 2 ^ 30 := by decide
theorem kw_len : ∀ k, k < 9 → ∀ r, r < 6 → r < kLen k → 2 ^ (5 * r) ≤ kwV k := by decide
theorem kw_full : ∀ k, k < 9 → kwV k % 2 ^ (5 * kLen k) = kwV k := by decide
theorem kLen5 : ∀ k, k < 9 → kLen k ≤ 5 := by decide
theorem kCh_l : ∀ k, k < 9 → ∀ j, j < 6 → j < kLen k → 97 ≤ kCh k j ∧ kCh k j ≤ 122 := by decide
theorem kw_ne : ∀ k, k < 9 → ∀ k', k' < 9 → k ≠ k' → ∃ j, j < 5 ∧ j < kLen k ∧ j < kLen k' ∧ kCh k j ≠ kCh k' j := by decide
theorem lpk_c {u t : Nat → Nat} : ∀ {m : Nat}, (∀ j, j < m → u j = t j) → lpk u 0 m = lpk t 0 m := by
  intro m
  induction m with
  | zero => intro _; rfl
  | succ m ih =>
    intro h
    show lpk u 0 m + (u (0 + m) - 96) * _ = lpk t 0 m + (t (0 + m) - 96) * _
    rw [Nat.zero_add, ih (fun j hj => h j (by omega)), h m (by omega)]
theorem lpk_inj {u t : Nat → Nat} : ∀ {m : Nat}, (∀ j, j < m → u j ≤ 122) → (∀ j, j < m → t j ≤ 122) → lpk u 0 m = lpk t 0 m → ∀ j, j < m → u j - 96 = t j - 96 := by
  intro m
  induction m with
  | zero => intro _ _ _ j hj; omega
  | succ m ih =>
    intro hu ht h
    have h1 := lpk_lt (t := u) (k := 0) (j := m) (fun i hi => by rw [Nat.zero_add]; exact hu i (by omega))
    have h2 := lpk_lt (t := t) (k := 0) (j := m) (fun i hi => by rw [Nat.zero_add]; exact ht i (by omega))
    have h3 : lpk u 0 m + (u m - 96) * 2 ^ (5 * m) = lpk t 0 m + (t m - 96) * 2 ^ (5 * m) := by
      have z := h
      unfold lpk at z
      rw [Nat.zero_add] at z
      exact z
    have h4 : lpk u 0 m = lpk t 0 m := by
      have z := congrArg (· % 2 ^ (5 * m)) h3
      simp only [Nat.add_mul_mod_self_right] at z
      rw [Nat.mod_eq_of_lt h1, Nat.mod_eq_of_lt h2] at z
      exact z
    have h5 : u m - 96 = t m - 96 := Nat.eq_of_mul_eq_mul_right (Nat.two_pow_pos (5 * m)) (by rw [h4] at h3; omega)
    intro j hj
    rcases Nat.lt_or_ge j m with q | q
    · exact ih (fun j hj => hu j (by omega)) (fun j hj => ht j (by omega)) h4 j q
    · rw [show j = m by omega]; exact h5
theorem ku_le {k j : Nat} (hk : k < 9) : ku k j ≤ 122 := by
  unfold ku
  split
  · exact (kCh_l k hk j (by have := kLen5 k hk; omega) ‹_›).2
  · decide
/-- the first m letters of the text are those of keyword k -/
def agw (t : Nat → Nat) (n k m : Nat) : Prop := ∀ j, j < m → j < n ∧ j < kLen k ∧ t j = kCh k j
theorem kw_beg {t : Nat → Nat} {n k m : Nat} (hL : ∀ j, j < m → isL t n j = true) (hk : k < 9) (hm : m < 7) : kwV k % 2 ^ (5 * m) = lpk t 0 m ↔ agw t n k m := by
  rw [kw_mod k hk m hm]
  constructor
  · intro h j hj
    have hb := isL_b (hL j hj)
    have h1 := lpk_inj (fun j hj => ku_le hk) (fun j hj => (isL_b (hL j hj)).2.2) h j hj
    unfold ku at h1
    by_cases q : j < kLen k
    · rw [if_pos q] at h1
      have := kCh_l k hk j (by have := kLen5 k hk; omega) q
      exact ⟨hb.1, q, by omega⟩
    · rw [if_neg q] at h1; omega
  · intro h
    refine lpk_c fun j hj => ?_
    unfold ku
    rw [if_pos (h j hj).2.1, (h j hj).2.2]
theorem kw_exa {t : Nat → Nat} {n k r : Nat} (hL : ∀ j, j < r → isL t n j = true) (hk : k < 9) (hr : r < 6) : kwV k = lpk t 0 r ↔ kLen k = r ∧ agw t n k r := by
  have hlt := lpk_lt (t := t) (k := 0) (j := r) (fun i hi => by rw [Nat.zero_add]; exact (isL_b (hL i hi)).2.2)
  constructor
  · intro h
    have ha : agw t n k r := (kw_beg hL hk (by omega)).mp (by rw [h]; exact Nat.mod_eq_of_lt hlt)
    refine ⟨?_, ha⟩
    rcases Nat.lt_trichotomy (kLen k) r with q | q | q
    · have := (ha (kLen k) q).2.1; omega
    · exact q
    · have := kw_len k hk r hr q; omega
  · rintro ⟨h1, h2⟩
    rw [← (kw_beg hL hk (by omega)).mpr h2, ← h1, kw_full k hk]
theorem lsh_lo {t : Nat → Nat} {n i : Nat} : ∀ r j, j ≤ lsh t n i j r := by
  intro r
  induction r with
  | zero => intro j; exact Nat.le_refl _
  | succ r ih => intro j; unfold lsh; split; have := ih (j + 1); omega; exact Nat.le_refl _
theorem lsh_ag {t : Nat → Nat} {n i : Nat} : ∀ r j m, m ≤ r → ((∀ q, q < m → j + q < n ∧ t (j + q) = kCh i (j + q)) ↔ j + m ≤ lsh t n i j r) := by
  intro r
  induction r with
  | zero => intro j m hm; rw [show m = 0 by omega]; exact ⟨fun _ => lsh_lo 0 j, fun _ q hq => by omega⟩
  | succ r ih =>
    intro j m hm
    cases m with
    | zero => exact ⟨fun _ => lsh_lo _ j, fun _ q hq => by omega⟩
    | succ m =>
      by_cases c : j < n ∧ t j = kCh i j
      · rw [show lsh t n i j (r + 1) = lsh t n i (j + 1) r from if_pos c]
        have h := ih (j + 1) m (by omega)
        rw [show j + (m + 1) = j + 1 + m by omega, ← h]
        constructor
        · intro z q hq; have := z (q + 1) (by omega); rw [show j + (q + 1) = j + 1 + q by omega] at this; exact this
        · intro z q hq
          cases q with
          | zero => exact c
          | succ q => rw [show j + (q + 1) = j + 1 + q by omega]; exact z q (by omega)
      · rw [show lsh t n i j (r + 1) = j from if_neg c]
        exact ⟨fun z => absurd (z 0 (by omega)) c, fun z => by omega⟩
abbrev LSH (t : Nat → Nat) (n k : Nat) : Nat := lsh t n k 0 (kLen k)
theorem LSH_le (t : Nat → Nat) (n k : Nat) : LSH t n k ≤ kLen k := by have := lsh_le (t := t) (n := n) (i := k) (kLen k) 0; show lsh t n k 0 (kLen k) ≤ _; omega
theorem LSH_ag {t : Nat → Nat} {n k m : Nat} : agw t n k m ↔ m ≤ LSH t n k := by
  constructor
  · intro h
    have hm : m ≤ kLen k := by
      rcases Nat.eq_zero_or_pos m with q | q
      · omega
      · have := (h (m - 1) (by omega)).2.1; omega
    have := (lsh_ag (t := t) (n := n) (i := k) (kLen k) 0 m hm).mp (fun q hq => by rw [Nat.zero_add]; exact ⟨(h q hq).1, (h q hq).2.2⟩)
    show m ≤ lsh t n k 0 (kLen k)
    omega
  · intro h j hj
    have hm := LSH_le t n k
    have h' : m ≤ lsh t n k 0 (kLen k) := h
    have := (lsh_ag (t := t) (n := n) (i := k) (kLen k) 0 m (by omega)).mpr (by omega) j hj
    rw [Nat.zero_add] at this
    exact ⟨this.1, by omega, this.2⟩
theorem pKw_t {t : Nat → Nat} {n : Nat} : ∀ j k p, (pKw t n j k p).1 = true → ∃ k', k ≤ k' ∧ k' < k + j ∧ LSH t n k' = kLen k' ∧ pKw t n j k p = (true, kLen k', k') := by
  intro j
  induction j with
  | zero => intro k p h; cases h
  | succ j ih =>
    intro k p h
    by_cases q : LSH t n k = kLen k
    · exact ⟨k, Nat.le_refl _, by omega, q, pKw_y q⟩
    · rw [pKw_n q] at h ⊢
      obtain ⟨k', a1, a2, a3, a4⟩ := ih _ _ h
      exact ⟨k', by omega, by omega, a3, a4⟩
theorem pKw_f {t : Nat → Nat} {n : Nat} : ∀ j k p, (pKw t n j k p).1 = false → (∀ k', k ≤ k' → k' < k + j → LSH t n k' ≠ kLen k') ∧ p ≤ (pKw t n j k p).2.1 ∧ (∀ k', k ≤ k' → k' < k + j → LSH t n k' ≤ (pKw t n j k p).2.1) ∧ ((pKw t n j k p).2.1 = p ∨ ∃ k', k ≤ k' ∧ k' < k + j ∧ LSH t n k' = (pKw t n j k p).2.1) := by
  intro j
  induction j with
  | zero => intro k p _; exact ⟨fun k' _ _ => by omega, Nat.le_refl _, fun k' _ _ => by omega, Or.inl rfl⟩
  | succ j ih =>
    intro k p h
    by_cases q : LSH t n k = kLen k
    · rw [pKw_y q] at h; cases h
    · rw [pKw_n q] at h ⊢
      obtain ⟨a1, a2, a3, a4⟩ := ih _ _ h
      refine ⟨fun k' h1 h2 => ?_, by omega, fun k' h1 h2 => ?_, ?_⟩
      · rcases Nat.eq_or_lt_of_le h1 with z | z
        · rw [← z]; exact q
        · exact a1 k' (by omega) (by omega)
      · rcases Nat.eq_or_lt_of_le h1 with z | z
        · rw [← z]; exact Nat.le_trans (Nat.le_max_right _ _) a2
        · exact a3 k' (by omega) (by omega)
      · rcases a4 with z | ⟨k', z1, z2, z3⟩
        · rcases Nat.le_total p (LSH t n k) with w | w
          · rw [Nat.max_eq_right w] at z; exact Or.inr ⟨k, Nat.le_refl _, by omega, by rw [Nat.max_eq_right w]; exact z.symm⟩
          · rw [Nat.max_eq_left w] at z; exact Or.inl (by rw [Nat.max_eq_left w]; exact z)
        · exact Or.inr ⟨k', by omega, by omega, z3⟩
theorem pKw_T {t : Nat → Nat} {n k : Nat} (hk : k < 9) (h : LSH t n k = kLen k) : pKw t n 9 0 0 = (true, kLen k, k) := by
  cases q : (pKw t n 9 0 0).1 with
  | false => exact absurd h ((pKw_f 9 0 0 q).1 k (by omega) (by omega))
  | true =>
    obtain ⟨k', a1, a2, a3, a4⟩ := pKw_t 9 0 0 q
    rw [a4]
    by_cases e : k = k'
    · rw [e]
    · obtain ⟨j, j1, j2, j3, j4⟩ := kw_ne k hk k' (by omega) e
      have b1 := (LSH_ag (t := t) (n := n) (k := k) (m := kLen k)).mpr (by omega) j j2
      have b2 := (LSH_ag (t := t) (n := n) (k := k') (m := kLen k')).mpr (by omega) j j3
      exact absurd (b1.2.2.symm.trans b2.2.2) j4
theorem pKw_F {t : Nat → Nat} {n r : Nat} (h1 : ∀ k, k < 9 → LSH t n k ≠ kLen k) (h2 : ∀ k, k < 9 → LSH t n k ≤ r) (h3 : r = 0 ∨ ∃ k, k < 9 ∧ r ≤ LSH t n k) : (pKw t n 9 0 0).1 = false ∧ (pKw t n 9 0 0).2.1 = r := by
  cases q : (pKw t n 9 0 0).1 with
  | true =>
    obtain ⟨k', a1, a2, a3, a4⟩ := pKw_t 9 0 0 q
    exact absurd a3 (h1 k' (by omega))
  | false =>
    obtain ⟨a1, a2, a3, a4⟩ := pKw_f 9 0 0 q
    refine ⟨rfl, ?_⟩
    have hle : r ≤ (pKw t n 9 0 0).2.1 := by
      rcases h3 with z | ⟨k, k1, k2⟩
      · omega
      · have := a3 k (by omega) (by omega); omega
    rcases a4 with z | ⟨k, k1, k2, k3⟩
    · omega
    · have := h2 k (by omega); omega
def spx (so : Nat) (e : Option Nat) (k : Nat) : Prop := (∀ k', e = some k' → k' < k ∧ kwV k' = so) ∧ (e = none → ∀ k', k' < k → kwV k' ≠ so)
set_option maxHeartbeats 4000000 in
set_option maxRecDepth 100000 in
theorem l_rk1 {G : EG} {l : Launch} {M : Nat} {t : Nat → Nat} {r : Nat} {h : EH} (hw : lpk t 0 r < 2 ^ 31) {Q : Option Value → EH → Prop} (ho : ∀ e, spx (lpk t 0 r) e 9 → Ex G l 2 mX12_readKind Q eNoX 0 0 49 [(0, .ref M), (1, .int (nI (lpk t 0 r))), (2, .int (nI (r))), (3, .int (nI (r))), (4, .int (oI e))] [] h) : ∀ (f k : Nat), 9 - k < f → k ≤ 9 → ∀ e, spx (lpk t 0 r) e k → Ex G l 2 mX12_readKind Q eNoX 0 0 18 [(0, .ref M), (1, .int (nI (lpk t 0 r))), (2, .int (nI (r))), (3, .int (nI (r))), (4, .int (oI e)), (5, .int (nI (k)))] [] h := by
  intro f
  induction f with
  | zero =>
    intro k h1 h2 e he
    omega
  | succ f ih =>
    intro k h1 h2 e he
    have hkl : k < 9 → kwV k < 2 ^ 30 := fun z => kw_lt k z
    refine ex_iload rfl dX12_readKind_18 ?_
    refine ex_bipush (v := (nI 9)) (by decide) dX12_readKind_20 ?_
    refine ex_icmpN_ge (tgt := 49) (by decide) dX12_readKind_22 (by omega) (by omega) (fun c1 => ?_) (fun c1 => ?_)
    · exact ex_lv [(0, .ref M), (1, .int (nI (lpk t 0 r))), (2, .int (nI (r))), (3, .int (nI (r))), (4, .int (oI e))] ⟨rfl, rfl, rfl, rfl, rfl, trivial⟩ (ho e (by rw [show 9 = k by omega]; exact he))
    · refine ex_iload rfl dX12_readKind_25 ?_
      refine ex_invs (k := 0) (n := 0) (mc' := 0) (ms' := 0) (As := [_]) dX12_readKind_27 cs_X12_95 (by decide) (Nat.le_of_ble_eq_true rfl) (t_keyword _ (k := k) (by omega)) (fun v h' q => ?_)
      obtain ⟨rfl, rfl⟩ := q
      refine ex_iload_n rfl dX12_readKind_30 ?_
      refine ex_icmpN_ne (tgt := 39) (by decide) dX12_readKind_31 (Nat.lt_trans (hkl (by omega)) (by decide)) hw (fun c2 => ?_) (fun c2 => ?_)
      · refine ex_iload rfl dX12_readKind_39 ?_
        refine ex_istore (by decide) rfl dX12_readKind_41 ?_
        refine ex_iincN (z := 1) rfl (by decide) rfl dX12_readKind_43 ?_
        refine ex_goto (tgt := 18) (by decide) dX12_readKind_46 ?_
        exact ex_lv [(0, .ref M), (1, .int (nI (lpk t 0 r))), (2, .int (nI (r))), (3, .int (nI (r))), (4, .int (oI e)), (5, .int (nI (k + 1)))] ⟨rfl, rfl, rfl, rfl, rfl, rfl, trivial⟩ (ih (k + 1) (by omega) (by omega) e ⟨fun k' hk' => ⟨by have := (he.1 k' hk').1; omega, (he.1 k' hk').2⟩, fun z k' hk' => by rcases Nat.lt_or_ge k' k with q | q; exact he.2 z k' q; rw [show k' = k by omega]; exact c2⟩)
      · refine ex_iload rfl dX12_readKind_34 ?_
        refine ex_goto (tgt := 41) (by decide) dX12_readKind_36 ?_
        refine ex_istore (by decide) rfl dX12_readKind_41 ?_
        refine ex_iincN (z := 1) rfl (by decide) rfl dX12_readKind_43 ?_
        refine ex_goto (tgt := 18) (by decide) dX12_readKind_46 ?_
        exact ex_lv [(0, .ref M), (1, .int (nI (lpk t 0 r))), (2, .int (nI (r))), (3, .int (nI (r))), (4, .int (oI (some k))), (5, .int (nI (k + 1)))] ⟨rfl, rfl, rfl, rfl, rfl, rfl, trivial⟩ (ih (k + 1) (by omega) (by omega) (some k) ⟨fun k' hk' => by cases hk'; exact ⟨by omega, c2⟩, fun z => by cases z⟩)
set_option maxHeartbeats 4000000 in
set_option maxRecDepth 100000 in
theorem l_rk3 {G : EG} {l : Launch} {M : Nat} {t : Nat → Nat} {n r : Nat} {h : EH} (hr6 : r < 6) (hL : ∀ j, j < r + 1 → isL t n j = true) (hw : lpk t 0 (r + 1) < 2 ^ 31) {Q : Option Value → EH → Prop} (ho : Ex G l 2 mX12_readKind Q eNoX 0 0 132 [(0, .ref M), (1, .int (nI (lpk t 0 r))), (2, .int (nI (r))), (3, .int (nI (r))), (4, .int (-1)), (5, .int (nI (lpk t 0 (r + 1)))), (6, .int (b2i (bP ((∃ k', k' < 9 ∧ agw t n k' (r + 1))))))] [] h) : ∀ (f k : Nat), 9 - k < f → k ≤ 9 → Ex G l 2 mX12_readKind Q eNoX 0 0 87 [(0, .ref M), (1, .int (nI (lpk t 0 r))), (2, .int (nI (r))), (3, .int (nI (r))), (4, .int (-1)), (5, .int (nI (lpk t 0 (r + 1)))), (6, .int (b2i (bP ((∃ k', k' < k ∧ agw t n k' (r + 1)))))), (7, .int (nI (k)))] [] h := by
  intro f
  induction f with
  | zero =>
    intro k h1 h2
    omega
  | succ f ih =>
    intro k h1 h2
    have hkl : k < 9 → kwV k % 2 ^ (5 * r + 5) < 2 ^ 31 := fun z => Nat.lt_of_le_of_lt (Nat.mod_le _ _) (Nat.lt_trans (kw_lt k z) (by decide))
    have hbg : k < 9 → (kwV k % 2 ^ (5 * r + 5) = lpk t 0 (r + 1) ↔ agw t n k (r + 1)) := fun z => kw_beg (m := r + 1) hL z (by omega)
    refine ex_iload rfl dX12_readKind_87 ?_
    refine ex_bipush (v := (nI 9)) (by decide) dX12_readKind_89 ?_
    refine ex_icmpN_ge (tgt := 132) (by decide) dX12_readKind_91 (by omega) (by omega) (fun c1 => ?_) (fun c1 => ?_)
    · exact ex_lv [(0, .ref M), (1, .int (nI (lpk t 0 r))), (2, .int (nI (r))), (3, .int (nI (r))), (4, .int (-1)), (5, .int (nI (lpk t 0 (r + 1)))), (6, .int (b2i (bP ((∃ k', k' < 9 ∧ agw t n k' (r + 1))))))] ⟨rfl, rfl, rfl, rfl, rfl, rfl, bI_c (by rw [show k = 9 by omega]), trivial⟩ ho
    · refine ex_iload rfl dX12_readKind_94 ?_
      refine ex_ifB_ne (tgt := 119) (by decide) dX12_readKind_96 (fun c2 => ?_) (fun c2 => ?_)
      · refine ex_iconst (v := (nI 1)) (by decide) dX12_readKind_119 ?_
        refine ex_goto (tgt := 124) (by decide) dX12_readKind_120 ?_
        refine ex_istore (by decide) rfl dX12_readKind_124 ?_
        refine ex_iincN (z := 1) rfl (by decide) rfl dX12_readKind_126 ?_
        refine ex_goto (tgt := 87) (by decide) dX12_readKind_129 ?_
        exact ex_lv [(0, .ref M), (1, .int (nI (lpk t 0 r))), (2, .int (nI (r))), (3, .int (nI (r))), (4, .int (-1)), (5, .int (nI (lpk t 0 (r + 1)))), (6, .int (b2i (bP ((∃ k', k' < k + 1 ∧ agw t n k' (r + 1)))))), (7, .int (nI (k + 1)))] ⟨rfl, rfl, rfl, rfl, rfl, rfl, rT (by obtain ⟨k', k1, k2⟩ := bP_t c2; exact ⟨k', by omega, k2⟩), rfl, trivial⟩ (ih (k + 1) (by omega) (by omega))
      · refine ex_iload rfl dX12_readKind_99 ?_
        refine ex_invs (k := 0) (n := 0) (mc' := 0) (ms' := 0) (As := [_]) dX12_readKind_101 cs_X12_95 (by decide) (Nat.le_of_ble_eq_true rfl) (t_keyword _ (k := k) (by omega)) (fun v h' q => ?_)
        obtain ⟨rfl, rfl⟩ := q
        refine ex_iconst (v := (nI 1)) (by decide) dX12_readKind_104 ?_
        refine ex_iconst (v := (nI 5)) (by decide) dX12_readKind_105 ?_
        refine ex_iload_n rfl dX12_readKind_106 ?_
        refine ex_imulN dX12_readKind_107 ?_
        refine ex_iconst (v := (nI 5)) (by decide) dX12_readKind_108 ?_
        refine ex_iaddN dX12_readKind_109 ?_
        refine ex_ishl dX12_readKind_110 ?_
        rw [shl_1 (by omega)]
        refine ex_iconst (v := (nI 1)) (by decide) dX12_readKind_111 ?_
        refine ex_isubN (Nat.two_pow_pos _) dX12_readKind_112 ?_
        refine ex_iand dX12_readKind_113 ?_
        rw [nx_and, Nat.and_two_pow_sub_one_eq_mod]
        refine ex_iload rfl dX12_readKind_114 ?_
        refine ex_icmpN_ne (tgt := 123) (by decide) dX12_readKind_116 (hkl (by omega)) hw (fun c3 => ?_) (fun c3 => ?_)
        · refine ex_iconst (v := (nI 0)) (by decide) dX12_readKind_123 ?_
          refine ex_istore (by decide) rfl dX12_readKind_124 ?_
          refine ex_iincN (z := 1) rfl (by decide) rfl dX12_readKind_126 ?_
          refine ex_goto (tgt := 87) (by decide) dX12_readKind_129 ?_
          exact ex_lv [(0, .ref M), (1, .int (nI (lpk t 0 r))), (2, .int (nI (r))), (3, .int (nI (r))), (4, .int (-1)), (5, .int (nI (lpk t 0 (r + 1)))), (6, .int (b2i (bP ((∃ k', k' < k + 1 ∧ agw t n k' (r + 1)))))), (7, .int (nI (k + 1)))] ⟨rfl, rfl, rfl, rfl, rfl, rfl, rF (fun ⟨k', k1, k2⟩ => by rcases Nat.lt_or_ge k' k with q | q; exact bP_f c2 ⟨k', q, k2⟩; rw [show k' = k by omega] at k2; exact c3 ((hbg (by omega)).mpr k2)), rfl, trivial⟩ (ih (k + 1) (by omega) (by omega))
        · refine ex_iconst (v := (nI 1)) (by decide) dX12_readKind_119 ?_
          refine ex_goto (tgt := 124) (by decide) dX12_readKind_120 ?_
          refine ex_istore (by decide) rfl dX12_readKind_124 ?_
          refine ex_iincN (z := 1) rfl (by decide) rfl dX12_readKind_126 ?_
          refine ex_goto (tgt := 87) (by decide) dX12_readKind_129 ?_
          exact ex_lv [(0, .ref M), (1, .int (nI (lpk t 0 r))), (2, .int (nI (r))), (3, .int (nI (r))), (4, .int (-1)), (5, .int (nI (lpk t 0 (r + 1)))), (6, .int (b2i (bP ((∃ k', k' < k + 1 ∧ agw t n k' (r + 1)))))), (7, .int (nI (k + 1)))] ⟨rfl, rfl, rfl, rfl, rfl, rfl, rT ⟨k, by omega, (hbg (by omega)).mp c3⟩, rfl, trivial⟩ (ih (k + 1) (by omega) (by omega))
set_option maxHeartbeats 4000000 in
set_option maxRecDepth 100000 in
theorem l_rk4 {G : EG} {l : Launch} {h0 : EH} {M : Nat} {y0 : MS} {t : Nat → Nat} {n : Nat} (ht : mA y0 1 = t) (hn2 : ms y0 2 = n) (hx : ∀ j, j < n → t j < 128) (hn : n ≤ 72) {r : Nat} (hr6 : r < 6) (hL : ∀ j, j < r → isL t n j = true) (hno : ∀ k, k < 9 → kLen k < r → LSH t n k ≠ kLen k) (hpre : r = 0 ∨ ∃ k, k < 9 ∧ r ≤ LSH t n k) {h : EH} (hM : MD G h M (nmY y0 r)) (hF : Fr (atN M) h0 h) (hlr : isL t n r = true) (hne : ∀ k, k < 9 → kwV k ≠ lpk t 0 r) (ho : r + 1 < 7 → (∀ j, j < r + 1 → isL t n j = true) → (∀ k, k < 9 → kLen k < r + 1 → LSH t n k ≠ kLen k) → (∃ k, k < 9 ∧ r + 1 ≤ LSH t n k) → ∀ h, MD G h M (nmY y0 (r + 1)) → Fr (atN M) h0 h → Ex G l 2 mX12_readKind (fun v h' => ((∃ κ, κ < 9 ∧ pKw t n 9 0 0 = (true, kLen κ, κ) ∧ v = some (.int (nI κ)) ∧ MD G h' M (nmY y0 (kLen κ))) ∨ ((pKw t n 9 0 0).1 = false ∧ v = some (.int (-1)) ∧ MD G h' M (nmY y0 (pKw t n 9 0 0).2.1))) ∧ Fr (atN M) h0 h') eNoX 0 0 6 [(0, .ref M), (1, .int (nI (lpk t 0 (r + 1)))), (2, .int (nI (r + 1))), (3, .int (nI (r + 1)))] [] h) : Ex G l 2 mX12_readKind (fun v h' => ((∃ κ, κ < 9 ∧ pKw t n 9 0 0 = (true, kLen κ, κ) ∧ v = some (.int (nI κ)) ∧ MD G h' M (nmY y0 (kLen κ))) ∨ ((pKw t n 9 0 0).1 = false ∧ v = some (.int (-1)) ∧ MD G h' M (nmY y0 (pKw t n 9 0 0).2.1))) ∧ Fr (atN M) h0 h') eNoX 0 0 132 [(0, .ref M), (1, .int (nI (lpk t 0 r))), (2, .int (nI (r))), (3, .int (nI (r))), (4, .int (-1)), (5, .int (nI (lpk t 0 (r + 1)))), (6, .int (b2i (bP ((∃ k', k' < 9 ∧ agw t n k' (r + 1))))))] [] h := by
  have hnx : ∀ k, k < 9 → kLen k < r + 1 → LSH t n k ≠ kLen k := fun k hk hz w => by
    rcases Nat.lt_or_ge (kLen k) r with q | q
    · exact hno k hk q w
    · exact hne k hk ((kw_exa hL hk hr6).mpr ⟨by omega, LSH_ag.mpr (by omega)⟩)
  refine ex_iload rfl dX12_readKind_132 ?_
  refine ex_ifB_ne (tgt := 139) (by decide) dX12_readKind_134 (fun c1 => ?_) (fun c1 => ?_)
  · refine ex_iload rfl dX12_readKind_139 ?_
    refine ex_istore_n (by decide) rfl dX12_readKind_141 ?_
    refine ex_iincN (z := 1) rfl (by decide) rfl dX12_readKind_142 ?_
    refine ex_aload_n rfl dX12_readKind_145 ?_
    refine ex_dup rfl dX12_readKind_146 ?_
    refine ex_get dX12_readKind_147 gf_X12_84 hM.1 rfl ?_
    refine ex_iconst (v := (nI 1)) (by decide) dX12_readKind_150 ?_
    refine ex_iaddN dX12_readKind_151 ?_
    refine ex_put dX12_readKind_152 pf_X12_84 hM.1 (Nat.le_of_ble_eq_true rfl) rfl rfl ?_
    refine ex_iincN (z := 1) rfl (by decide) rfl dX12_readKind_155 ?_
    refine ex_goto (tgt := 6) (by decide) dX12_readKind_158 ?_
    exact ex_lv [(0, .ref M), (1, .int (nI (lpk t 0 (r + 1)))), (2, .int (nI (r + 1))), (3, .int (nI (r + 1)))] ⟨rfl, rfl, rfl, rfl, trivial⟩ (ho (by omega) (fun j hj => by rcases Nat.lt_or_ge j r with q | q; exact hL j q; rw [show j = r by omega]; exact hlr) hnx (by obtain ⟨k, k1, k2⟩ := bP_t c1; exact ⟨k, k1, LSH_ag.mp k2⟩) _ (hM.ob' (va_up (ms y0) 4 (r + 1)) (mpo y0) (mfa y0) rfl) (hF.up ⟨by omega, by omega⟩))
  · refine ex_iconst (v := (-1)) (by decide) dX12_readKind_137 ?_
    refine ex_iret dX12_readKind_138 rfl ⟨Or.inr (by have z := pKw_F (t := t) (n := n) (r := r) (fun k hk w => (Nat.lt_or_ge (kLen k) (r + 1)).elim (fun q => hnx k hk q w) (fun q => bP_f c1 ⟨k, hk, LSH_ag.mpr (by omega)⟩)) (fun k hk => Nat.le_of_lt_succ (Classical.byContradiction fun q => bP_f c1 ⟨k, hk, LSH_ag.mpr (by omega)⟩)) hpre; rw [z.2]; exact ⟨z.1, rfl, hM⟩), hF⟩
set_option maxHeartbeats 4000000 in
set_option maxRecDepth 100000 in
theorem l_rk2s {G : EG} {l : Launch} {h0 : EH} {M : Nat} {y0 : MS} {t : Nat → Nat} {n : Nat} (ht : mA y0 1 = t) (hn2 : ms y0 2 = n) (hx : ∀ j, j < n → t j < 128) (hn : n ≤ 72) {r : Nat} (hr6 : r < 6) (hL : ∀ j, j < r → isL t n j = true) (hno : ∀ k, k < 9 → kLen k < r → LSH t n k ≠ kLen k) (hpre : r = 0 ∨ ∃ k, k < 9 ∧ r ≤ LSH t n k) {h : EH} (hM : MD G h M (nmY y0 r)) (hF : Fr (atN M) h0 h) {k : Nat} (hk : k < 9) (he : kwV k = lpk t 0 r) : Ex G l 2 mX12_readKind (fun v h' => ((∃ κ, κ < 9 ∧ pKw t n 9 0 0 = (true, kLen κ, κ) ∧ v = some (.int (nI κ)) ∧ MD G h' M (nmY y0 (kLen κ))) ∨ ((pKw t n 9 0 0).1 = false ∧ v = some (.int (-1)) ∧ MD G h' M (nmY y0 (pKw t n 9 0 0).2.1))) ∧ Fr (atN M) h0 h') eNoX 0 0 49 [(0, .ref M), (1, .int (nI (lpk t 0 r))), (2, .int (nI (r))), (3, .int (nI (r))), (4, .int (nI (k)))] [] h := by
  obtain ⟨e1, e2⟩ := (kw_exa hL hk hr6).mp he
  have hls : LSH t n k = kLen k := Nat.le_antisymm (LSH_le t n k) (by rw [e1]; exact LSH_ag.mp e2)
  refine ex_iload rfl dX12_readKind_49 ?_
  refine ex_ifN_lt (tgt := 57) (by decide) dX12_readKind_51 (by omega) (fun c1 => ?_) (fun c1 => ?_)
  · exact c1.elim
  · refine ex_iload rfl dX12_readKind_54 ?_
    refine ex_iret dX12_readKind_56 rfl ⟨Or.inl ⟨k, hk, pKw_T hk hls, rfl, by rw [e1]; exact hM⟩, hF⟩
set_option maxHeartbeats 4000000 in
set_option maxRecDepth 100000 in
theorem l_rk2n {G : EG} {l : Launch} {h0 : EH} {M : Nat} {y0 : MS} {t : Nat → Nat} {n : Nat} (ht : mA y0 1 = t) (hn2 : ms y0 2 = n) (hx : ∀ j, j < n → t j < 128) (hn : n ≤ 72) {r : Nat} (hr6 : r < 6) (hL : ∀ j, j < r → isL t n j = true) (hno : ∀ k, k < 9 → kLen k < r → LSH t n k ≠ kLen k) (hpre : r = 0 ∨ ∃ k, k < 9 ∧ r ≤ LSH t n k) {h : EH} (hM : MD G h M (nmY y0 r)) (hF : Fr (atN M) h0 h) (hne : ∀ k, k < 9 → kwV k ≠ lpk t 0 r) (ho : r + 1 < 7 → (∀ j, j < r + 1 → isL t n j = true) → (∀ k, k < 9 → kLen k < r + 1 → LSH t n k ≠ kLen k) → (∃ k, k < 9 ∧ r + 1 ≤ LSH t n k) → ∀ h, MD G h M (nmY y0 (r + 1)) → Fr (atN M) h0 h → Ex G l 2 mX12_readKind (fun v h' => ((∃ κ, κ < 9 ∧ pKw t n 9 0 0 = (true, kLen κ, κ) ∧ v = some (.int (nI κ)) ∧ MD G h' M (nmY y0 (kLen κ))) ∨ ((pKw t n 9 0 0).1 = false ∧ v = some (.int (-1)) ∧ MD G h' M (nmY y0 (pKw t n 9 0 0).2.1))) ∧ Fr (atN M) h0 h') eNoX 0 0 6 [(0, .ref M), (1, .int (nI (lpk t 0 (r + 1)))), (2, .int (nI (r + 1))), (3, .int (nI (r + 1)))] [] h) : Ex G l 2 mX12_readKind (fun v h' => ((∃ κ, κ < 9 ∧ pKw t n 9 0 0 = (true, kLen κ, κ) ∧ v = some (.int (nI κ)) ∧ MD G h' M (nmY y0 (kLen κ))) ∨ ((pKw t n 9 0 0).1 = false ∧ v = some (.int (-1)) ∧ MD G h' M (nmY y0 (pKw t n 9 0 0).2.1))) ∧ Fr (atN M) h0 h') eNoX 0 0 49 [(0, .ref M), (1, .int (nI (lpk t 0 r))), (2, .int (nI (r))), (3, .int (nI (r))), (4, .int (-1))] [] h := by
  have hx' : ∀ j, j < ms (nmY y0 r) 2 → mA (nmY y0 r) 1 j < 128 := by show ∀ j, j < ms y0 2 → mA y0 1 j < 128; rw [ht, hn2]; exact hx
  have hn' : ms (nmY y0 r) 2 ≤ 72 := by show ms y0 2 ≤ 72; omega
  have hwl := lpk_lt (t := t) (k := 0) (j := r) (fun i hi => by rw [Nat.zero_add]; exact (isL_b (hL i hi)).2.2)
  have h5 : 2 ^ (5 * r) ≤ 2 ^ 25 := Nat.pow_le_pow_right (by decide) (by omega)
  refine ex_iload rfl dX12_readKind_49 ?_
  refine ex_if_lt (tgt := 57) (by decide) dX12_readKind_51 (fun c1 => ?_) (fun c1 => ?_)
  · refine ex_aload_n rfl dX12_readKind_57 ?_
    refine ex_invv (k := 0) (n := 0) (mc' := 0) (ms' := 0) (As := []) dX12_readKind_58 cv_X12_99 (by decide) (Nat.le_of_ble_eq_true rfl) (Or.inl ⟨_, _, _, _, hM.1, rfl⟩) (t_isLetter hM hx' hn' (show r < 2 ^ 30 by omega)) (fun v h' q => ?_)
    obtain ⟨rfl, rfl⟩ := q
    rw [show isL (mA (nmY y0 r) 1) (ms (nmY y0 r) 2) (ms (nmY y0 r) 4) = isL t n r by show isL (mA y0 1) (ms y0 2) r = _; rw [ht, hn2]]
    refine ex_ifB_ne (tgt := 66) (by decide) dX12_readKind_61 (fun c2 => ?_) (fun c2 => ?_)
    · refine ex_iload_n rfl dX12_readKind_66 ?_
      refine ex_aload_n rfl dX12_readKind_67 ?_
      refine ex_invv (k := 0) (n := 0) (mc' := 0) (ms' := 0) (As := []) dX12_readKind_68 cv_X12_87 (by decide) (Nat.le_of_ble_eq_true rfl) (Or.inl ⟨_, _, _, _, hM.1, rfl⟩) (t_here hM hx' hn' (show r < 2 ^ 30 by omega)) (fun v h' q => ?_)
      obtain ⟨rfl, rfl⟩ := q
      have hb := isL_b c2
      have hd : (t r - 96) * 2 ^ (5 * r) ≤ 26 * 2 ^ (5 * r) := Nat.mul_le_mul_right _ (by omega)
      rw [show hr (mA (nmY y0 r) 1) (ms (nmY y0 r) 2) (ms (nmY y0 r) 4) = t r by show hr (mA y0 1) (ms y0 2) r = _; rw [ht, hn2, hr_y hb.1]]
      refine ex_bipush (v := (nI 96)) (by decide) dX12_readKind_71 ?_
      refine ex_isubN (by omega) dX12_readKind_73 ?_
      refine ex_iconst (v := (nI 5)) (by decide) dX12_readKind_74 ?_
      refine ex_iload_n rfl dX12_readKind_75 ?_
      refine ex_imulN dX12_readKind_76 ?_
      refine ex_ishl dX12_readKind_77 ?_
      rw [shl_N (by omega) (by omega)]
      refine ex_ior dX12_readKind_78 ?_
      rw [nx_or, or_add hwl, show lpk t 0 r + (t r - 96) * 2 ^ (5 * r) = lpk t 0 (r + 1) by show _ = lpk t 0 r + (t (0 + r) - 96) * _; rw [Nat.zero_add]]
      refine ex_istore (by decide) rfl dX12_readKind_79 ?_
      refine ex_iconst (v := (nI 0)) (by decide) dX12_readKind_81 ?_
      refine ex_istore (by decide) rfl dX12_readKind_82 ?_
      refine ex_iconst (v := (nI 0)) (by decide) dX12_readKind_84 ?_
      refine ex_istore (by decide) rfl dX12_readKind_85 ?_
      exact ex_lv [(0, .ref M), (1, .int (nI (lpk t 0 r))), (2, .int (nI (r))), (3, .int (nI (r))), (4, .int (-1)), (5, .int (nI (lpk t 0 (r + 1)))), (6, .int (b2i (bP ((∃ k', k' < 0 ∧ agw t n k' (r + 1)))))), (7, .int (nI (0)))] ⟨rfl, rfl, rfl, rfl, rfl, rfl, rF (fun ⟨k', k1, _⟩ => by omega), rfl, trivial⟩ (l_rk3 hr6 (fun j hj => by rcases Nat.lt_or_ge j r with q | q; exact hL j q; rw [show j = r by omega]; exact c2) (by show lpk t 0 r + (t (0 + r) - 96) * _ < _; rw [Nat.zero_add]; omega) (l_rk4 ht hn2 hx hn hr6 hL hno hpre hM hF c2 hne ho) 10 0 (by omega) (by omega))
    · refine ex_iconst (v := (-1)) (by decide) dX12_readKind_64 ?_
      refine ex_iret dX12_readKind_65 rfl ⟨Or.inr (by have hz : ∀ k, k < 9 → ¬ r + 1 ≤ LSH t n k := fun k hk w => (by have q := LSH_ag.mpr w r (by omega); have p := kCh_l k hk r hr6 q.2.1; have z : isL t n r = true := decide_eq_true ⟨q.1, by rw [q.2.2]; exact p.1, by rw [q.2.2]; exact p.2⟩; rw [z] at c2; cases c2); have z := pKw_F (t := t) (n := n) (r := r) (fun k hk w => (by rcases Nat.lt_trichotomy (kLen k) r with q | q | q; exact hno k hk q w; exact hne k hk ((kw_exa hL hk hr6).mpr ⟨q, LSH_ag.mpr (by omega)⟩); exact hz k hk (by omega))) (fun k hk => by have := hz k hk; omega) hpre; rw [z.2]; exact ⟨z.1, rfl, hM⟩), hF⟩
  · exact absurd c1 (by decide)
set_option maxHeartbeats 4000000 in
set_option maxRecDepth 100000 in
theorem l_rk0 {G : EG} {l : Launch} {h0 : EH} {M : Nat} {y0 : MS} {t : Nat → Nat} {n : Nat} (ht : mA y0 1 = t) (hn2 : ms y0 2 = n) (hx : ∀ j, j < n → t j < 128) (hn : n ≤ 72) : ∀ (f r : Nat), 7 - r < f → r < 7 → (∀ j, j < r → isL t n j = true) → (∀ k, k < 9 → kLen k < r → LSH t n k ≠ kLen k) → (r = 0 ∨ ∃ k, k < 9 ∧ r ≤ LSH t n k) → ∀ (h : EH), MD G h M (nmY y0 r) → Fr (atN M) h0 h → Ex G l 2 mX12_readKind (fun v h' => ((∃ κ, κ < 9 ∧ pKw t n 9 0 0 = (true, kLen κ, κ) ∧ v = some (.int (nI κ)) ∧ MD G h' M (nmY y0 (kLen κ))) ∨ ((pKw t n 9 0 0).1 = false ∧ v = some (.int (-1)) ∧ MD G h' M (nmY y0 (pKw t n 9 0 0).2.1))) ∧ Fr (atN M) h0 h') eNoX 0 0 6 [(0, .ref M), (1, .int (nI (lpk t 0 r))), (2, .int (nI (r))), (3, .int (nI (r)))] [] h := by
  intro f
  induction f with
  | zero =>
    intro r h1 h2 hL hno hpre h hM hF
    omega
  | succ f ih =>
    intro r h1 h2 hL hno hpre h hM hF
    refine ex_iload_n rfl dX12_readKind_6 ?_
    refine ex_bipush (v := (nI 6)) (by decide) dX12_readKind_7 ?_
    refine ex_icmpN_ge (tgt := 161) (by decide) dX12_readKind_9 (by omega) (by omega) (fun c1 => ?_) (fun c1 => ?_)
    · exfalso
      rcases hpre with z | ⟨k, k1, k2⟩
      · omega
      · have a := LSH_le t n k; have b := kLen5 k k1; omega
    · refine ex_iconst (v := (-1)) (by decide) dX12_readKind_12 ?_
      refine ex_istore (by decide) rfl dX12_readKind_13 ?_
      refine ex_iconst (v := (nI 0)) (by decide) dX12_readKind_15 ?_
      refine ex_istore (by decide) rfl dX12_readKind_16 ?_
      exact ex_lv [(0, .ref M), (1, .int (nI (lpk t 0 r))), (2, .int (nI (r))), (3, .int (nI (r))), (4, .int (oI none)), (5, .int (nI (0)))] ⟨rfl, rfl, rfl, rfl, rfl, rfl, trivial⟩ (l_rk1 (Nat.lt_of_lt_of_le (lpk_lt (t := t) (k := 0) (j := r) (fun i hi => by rw [Nat.zero_add]; exact (isL_b (hL i hi)).2.2)) (Nat.pow_le_pow_right (by decide) (by omega))) (fun e he => by
        cases e with
        | none => exact l_rk2n ht hn2 hx hn c1 hL hno hpre hM hF (fun k hk => he.2 rfl k hk) (fun a1 a2 a3 a4 h hM hF => ih (r + 1) (by omega) a1 a2 a3 (Or.inr a4) h hM hF)
        | some k => exact l_rk2s ht hn2 hx hn c1 hL hno hpre hM hF (he.1 k rfl).1 (he.1 k rfl).2) 10 0 (by omega) (by omega) none ⟨fun k' z => (by cases z), fun _ k' hk' => by omega⟩)
set_option maxHeartbeats 4000000 in
set_option maxRecDepth 100000 in
theorem t_readKind {G : EG} {l : Launch} {h : EH} {M : Nat} {y : MS} (hM : MD G h M y) {t : Nat → Nat} {n : Nat} (ht : mA y 1 = t) (hn2 : ms y 2 = n) (hx : ∀ j, j < n → t j < 128) (hn : n ≤ 72) (h4 : ms y 4 = 0) : ES G l 2 mX12_readKind [.ref M] h 0 0 (fun v h' => ((∃ κ, κ < 9 ∧ pKw t n 9 0 0 = (true, kLen κ, κ) ∧ v = some (.int (nI κ)) ∧ MD G h' M (nmY y (kLen κ))) ∨ ((pKw t n 9 0 0).1 = false ∧ v = some (.int (-1)) ∧ MD G h' M (nmY y (pKw t n 9 0 0).2.1))) ∧ Fr (atN M) h h') eNoX := by
  refine es_of (by decide) rfl (Nat.le_of_ble_eq_true rfl) ?_
  refine ex_iconst (v := (nI 0)) (by decide) dX12_readKind_0 ?_
  refine ex_istore_n (by decide) rfl dX12_readKind_1 ?_
  refine ex_iconst (v := (nI 0)) (by decide) dX12_readKind_2 ?_
  refine ex_istore_n (by decide) rfl dX12_readKind_3 ?_
  refine ex_iconst (v := (nI 0)) (by decide) dX12_readKind_4 ?_
  refine ex_istore_n (by decide) rfl dX12_readKind_5 ?_
  exact ex_lv [(0, .ref M), (1, .int (nI (lpk t 0 0))), (2, .int (nI (0))), (3, .int (nI (0)))] ⟨rfl, rfl, rfl, rfl, trivial⟩ (l_rk0 ht hn2 hx hn 8 0 (by omega) (by omega) (fun j hj => by omega) (fun k _ hk => by omega) (Or.inl rfl) _ (by have e : nmY y 0 = y := (by unfold nmY; rw [show va_up (ms y) 4 0 = ms y from funext fun i => by unfold va_up; by_cases q : i = 4; rw [if_pos q, q, h4]; rw [if_neg q]]); rw [e]; exact hM) Fr.rf)
