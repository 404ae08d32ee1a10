/-! READING: what the class reads and what the model reads is the same -/
/-- a name as the class packs it and as the model does -/
def nmR (w w' : Nat) : Prop := (∃ a, (1 ≤ a ∧ a ≤ 26) ∧ w = a ∧ w' = a) ∨ (∃ a b, (1 ≤ a ∧ a ≤ 26) ∧ (1 ≤ b ∧ b ≤ 26) ∧ w = a * 32 + b ∧ w' = a + b * 32) ∨ (∃ a b c, (1 ≤ a ∧ a ≤ 26) ∧ (1 ≤ b ∧ b ≤ 26) ∧ (1 ≤ c ∧ c ≤ 26) ∧ w = (a * 32 + b) * 32 + c ∧ w' = a + b * 32 + c * 1024) ∨ (∃ a b c d, (1 ≤ a ∧ a ≤ 26) ∧ (1 ≤ b ∧ b ≤ 26) ∧ (1 ≤ c ∧ c ≤ 26) ∧ (1 ≤ d ∧ d ≤ 26) ∧ w = ((a * 32 + b) * 32 + c) * 32 + d ∧ w' = a + b * 32 + c * 1024 + d * 32768)
theorem nmR_i {w w' v v' : Nat} (h : nmR w w') (g : nmR v v') : w = v ↔ w' = v' := by
  rcases h with (⟨xa, xha, xe, xf⟩ | ⟨xa, xb, xha, xhb, xe, xf⟩ | ⟨xa, xb, xc, xha, xhb, xhc, xe, xf⟩ | ⟨xa, xb, xc, xd, xha, xhb, xhc, xhd, xe, xf⟩) <;> rcases g with (⟨ya, yha, ye, yf⟩ | ⟨ya, yb, yha, yhb, ye, yf⟩ | ⟨ya, yb, yc, yha, yhb, yhc, ye, yf⟩ | ⟨ya, yb, yc, yd, yha, yhb, yhc, yhd, ye, yf⟩) <;> (subst xe xf ye yf; omega)
theorem nmR_0 {w w' : Nat} (h : nmR w w') : w' ≠ 0 := by rcases h with (⟨xa, xha, xe, xf⟩ | ⟨xa, xb, xha, xhb, xe, xf⟩ | ⟨xa, xb, xc, xha, xhb, xhc, xe, xf⟩ | ⟨xa, xb, xc, xd, xha, xhb, xhc, xhd, xe, xf⟩) <;> omega
theorem nmR_self : nmR dSelf mSelf := Or.inr (Or.inr (Or.inr ⟨19, 5, 12, 6, by decide, by decide, by decide, by decide, by decide, by decide⟩))
theorem nmR_p {t : Nat → Nat} {k j : Nat} (hj : 0 < j) (h4 : j ≤ 4) (h : ∀ i, i < j → 97 ≤ t (k + i) ∧ t (k + i) ≤ 122) : nmR (pck t k 0 j) (lpk t k j) := by
  have d : ∀ i, i < j → 1 ≤ t (k + i) - 96 ∧ t (k + i) - 96 ≤ 26 := fun i hi => by have := h i hi; omega
  rcases (show j = 1 ∨ j = 2 ∨ j = 3 ∨ j = 4 by omega) with e | e | e | e
  · subst e
    refine Or.inl ⟨t (k + 0) - 96, d 0 (by omega), ?_, ?_⟩
    · show 0 * 32 + (t (k + 0) - 96) = _; omega
    · show 0 + (t (k + 0) - 96) * 2 ^ (5 * 0) = _; omega
  · subst e
    refine Or.inr (Or.inl ⟨t (k + 0) - 96, t (k + 1) - 96, d 0 (by omega), d 1 (by omega), ?_, ?_⟩)
    · show (0 * 32 + (t (k + 0) - 96)) * 32 + (t (k + 1) - 96) = _; omega
    · show 0 + (t (k + 0) - 96) * 2 ^ (5 * 0) + (t (k + 1) - 96) * 2 ^ (5 * 1) = _; omega
  · subst e
    refine Or.inr (Or.inr (Or.inl ⟨t (k + 0) - 96, t (k + 1) - 96, t (k + 2) - 96, d 0 (by omega), d 1 (by omega), d 2 (by omega), ?_, ?_⟩))
    · show ((0 * 32 + (t (k + 0) - 96)) * 32 + (t (k + 1) - 96)) * 32 + (t (k + 2) - 96) = _; omega
    · show 0 + (t (k + 0) - 96) * 2 ^ (5 * 0) + (t (k + 1) - 96) * 2 ^ (5 * 1) + (t (k + 2) - 96) * 2 ^ (5 * 2) = _; omega
  · subst e
    refine Or.inr (Or.inr (Or.inr ⟨t (k + 0) - 96, t (k + 1) - 96, t (k + 2) - 96, t (k + 3) - 96, d 0 (by omega), d 1 (by omega), d 2 (by omega), d 3 (by omega), ?_, ?_⟩))
    · show (((0 * 32 + (t (k + 0) - 96)) * 32 + (t (k + 1) - 96)) * 32 + (t (k + 2) - 96)) * 32 + (t (k + 3) - 96) = _; omega
    · show 0 + (t (k + 0) - 96) * 2 ^ (5 * 0) + (t (k + 1) - 96) * 2 ^ (5 * 1) + (t (k + 2) - 96) * 2 ^ (5 * 2) + (t (k + 3) - 96) * 2 ^ (5 * 3) = _; omega
/-- the same statement, as the class holds it and as the model does -/
def SR1 (s s' : Stm) : Prop := kd s' = kd s ∧ sz s' = sz s ∧ mk s' = mk s ∧ ∀ k, k < sz s → nmR (wd s k) (wd s' k)
theorem SR1.psh {s s' : Stm} (h : SR1 s s') {w w' : Nat} (hw : nmR w w') : SR1 (psh s w) (psh s' w') := by
  obtain ⟨h1, h2, h3, h4⟩ := h
  refine ⟨h1, by show sz s' + 1 = sz s + 1; rw [h2], h3, fun k hk => ?_⟩
  show nmR (va_up (wd s) (sz s) w k) (va_up (wd s') (sz s') w' k)
  rw [h2]
  unfold va_up
  by_cases e : k = sz s
  · rw [if_pos e, if_pos e]; exact hw
  · rw [if_neg e, if_neg e]; exact h4 k (by have : k < sz s + 1 := hk; omega)
def REL (x x' : Bool × Nat × Stm) : Prop := x'.1 = x.1 ∧ x'.2.1 = x.2.1 ∧ (x.1 = true → SR1 x.2.2 x'.2.2)
theorem rel_ls {t : Nat → Nat} {n few most c : Nat} : ∀ j k p s s', most = c + k + j → SR1 s s' → p ≤ n → REL (pLs t n few j k p s) (fin n (rNs t n (c + few) most j (c + k) p s')) := by
  intro j
  induction j with
  | zero =>
    intro k p s s' hm hs hp
    refine ⟨?_, rfl, fun _ => hs⟩
    show (true && decide (p = n)) = decide (n ≤ p)
    rw [Bool.true_and]
    exact decide_eq_decide.mpr (by omega)
  | succ j ih =>
    intro k p s s' hm hs hp
    by_cases e : few ≤ k ∧ n ≤ p
    · rw [pLs_e e.1 e.2, rNs_e (by omega)]
      refine ⟨?_, rfl, fun _ => hs⟩
      show (true && decide (p = n)) = true
      rw [decide_eq_true (by omega)]; rfl
    · have hc : c + k < c + few ∨ (c + k < most ∧ p < n) := by omega
      cases hb : bl t n p with
      | false => rw [pLs_0 e hb, rNs_0 hc hb]; exact ⟨rfl, rfl, fun z => by cases z⟩
      | true =>
        have := bl_lt hb
        by_cases z : 0 < nlet t n (p + 1) 4
        · rw [pLs_2 e hb z, rNs_2 hc hb z]
          exact ih (k + 1) _ _ _ (by omega) (hs.psh (nmR_p z (nlet_le t n 4 _) (fun i hi => nlet_l hi))) (nlet_n (by omega))
        · rw [pLs_1 e hb z, rNs_1 hc hb z]; exact ⟨rfl, rfl, fun z => by cases z⟩
/-- names and then a list, as the class reads them -/
def pNL (t : Nat → Nat) (n j few m p : Nat) (s : Stm) : Bool × Nat × Stm := if (pNm t n j p s).1 then pLs t n few m 0 (pNm t n j p s).2.1 (pNm t n j p s).2.2 else pNm t n j p s
theorem rel_nm {t : Nat → Nat} {n few m : Nat} : ∀ j c p s s', SR1 s s' → p ≤ n → REL (pNL t n j few m p s) (fin n (rNs t n (c + j + few) (c + j + m) (j + m) c p s')) := by
  intro j
  induction j with
  | zero =>
    intro c p s s' hs hp
    have := rel_ls (t := t) (n := n) (few := few) (most := c + 0 + m) (c := c) m 0 p s s' (by omega) hs hp
    rw [show 0 + m = m by omega]
    exact this
  | succ j ih =>
    intro c p s s' hs hp
    have hc : c < c + (j + 1) + few ∨ (c < c + (j + 1) + m ∧ p < n) := by omega
    rw [show j + 1 + m = j + m + 1 by omega]
    cases hb : bl t n p with
    | false =>
      rw [rNs_0 hc hb]
      unfold pNL
      rw [pNm_0 hb]
      exact ⟨rfl, rfl, fun z => by cases z⟩
    | true =>
      have := bl_lt hb
      by_cases z : 0 < nlet t n (p + 1) 4
      · rw [rNs_2 hc hb z]
        unfold pNL
        rw [pNm_2 hb z, show c + (j + 1) + few = c + 1 + j + few by omega, show c + (j + 1) + m = c + 1 + j + m by omega]
        exact ih (c + 1) _ _ _ (hs.psh (nmR_p z (nlet_le t n 4 _) (fun i hi => nlet_l hi))) (nlet_n (by omega))
      · rw [rNs_1 hc hb z]
        unfold pNL
        rw [pNm_1 hb z]
        exact ⟨rfl, rfl, fun z => by cases z⟩
theorem rel_n1 {t : Nat → Nat} {n p : Nat} {s s' : Stm} (hs : SR1 s s') : REL (pNm t n 1 p s) (rNs t n 1 1 1 0 p s') := by
  have hc : 0 < 1 ∨ (0 < 1 ∧ p < n) := by omega
  cases hb : bl t n p with
  | false => rw [pNm_0 hb, rNs_0 hc hb]; exact ⟨rfl, rfl, fun z => by cases z⟩
  | true =>
    by_cases z : 0 < nlet t n (p + 1) 4
    · rw [pNm_2 hb z, rNs_2 hc hb z]; exact ⟨rfl, rfl, fun _ => hs.psh (nmR_p z (nlet_le t n 4 _) (fun i hi => nlet_l hi))⟩
    · rw [pNm_1 hb z, rNs_1 hc hb z]; exact ⟨rfl, rfl, fun z => by cases z⟩
theorem rel_mk {t : Nat → Nat} {n i p : Nat} {s s' : Stm} (hs : SR1 s s') : REL (pMk t n i p s) (pMk t n i p s') := by
  unfold pMk
  by_cases c : kLen i = 0
  · rw [if_pos c, if_pos c]; exact ⟨rfl, rfl, fun _ => hs⟩
  · rw [if_neg c, if_neg c]
    cases hb : bl t n p with
    | false => rw [if_neg (by decide), if_neg (by decide)]; exact ⟨rfl, rfl, fun z => by cases z⟩
    | true =>
      rw [if_pos rfl, if_pos rfl]
      by_cases q : n ≤ p + 1
      · rw [if_pos q, if_pos q]; exact ⟨rfl, rfl, fun z => by cases z⟩
      · rw [if_neg q, if_neg q]
        cases fnd (kCh i) (t (p + 1)) 0 (kLen i) with
        | none => exact ⟨rfl, rfl, fun z => by cases z⟩
        | some j => exact ⟨rfl, rfl, fun _ => ⟨hs.1, hs.2.1, rfl, hs.2.2.2⟩⟩
/-- what the class reads behind the keyword -/
def cPk (t : Nat → Nat) (n κ p : Nat) (s : Stm) : Bool × Nat × Stm :=
  if (pNm t n (kNm κ) p s).1 then
    (if (pMk t n (kMarks.getD κ 0) (pNm t n (kNm κ) p s).2.1 (pNm t n (kNm κ) p s).2.2).1 then pLs t n (kFw κ) (kMs κ) 0 (pMk t n (kMarks.getD κ 0) (pNm t n (kNm κ) p s).2.1 (pNm t n (kNm κ) p s).2.2).2.1 (pMk t n (kMarks.getD κ 0) (pNm t n (kNm κ) p s).2.1 (pNm t n (kNm κ) p s).2.2).2.2 else pMk t n (kMarks.getD κ 0) (pNm t n (kNm κ) p s).2.1 (pNm t n (kNm κ) p s).2.2)
  else pNm t n (kNm κ) p s
theorem pMk_9 {t : Nat → Nat} {n p : Nat} {s : Stm} : pMk t n 9 p s = (true, p, s) := rfl
theorem cPk_9 {t : Nat → Nat} {n κ p : Nat} {s : Stm} (h : kMarks.getD κ 0 = 9) : cPk t n κ p s = pNL t n (kNm κ) (kFw κ) (kMs κ) p s := by
  unfold cPk pNL
  rw [h]
  rfl
theorem kMk_9 : ∀ κ, κ < 9 → ¬ (κ = 5 ∨ κ = 6) → kMarks.getD κ 0 = 9 := by decide
theorem kMk_5 : ∀ κ, κ < 9 → (κ = 5 ∨ κ = 6) → kMarks.getD κ 0 = κ + 5 ∧ kNm κ = 1 := by decide
theorem rel_pk {t : Nat → Nat} {n κ p : Nat} {w w0 : Nat → Nat} (hκ : κ < 9) (hp : p ≤ n) : REL (cPk t n κ p (κ, 0, 0, w)) (mPk t n κ p w0) := by
  have hs : SR1 (κ, 0, 0, w) (κ, 0, 0, w0) := ⟨rfl, rfl, rfl, fun k hk => absurd hk (Nat.not_lt_zero _)⟩
  unfold mPk
  by_cases c : κ = 5 ∨ κ = 6
  · rw [if_pos c]
    obtain ⟨e1, e2⟩ := kMk_5 κ hκ c
    have r1 := rel_n1 (t := t) (n := n) (p := p) hs
    have hle : (rNs t n 1 1 1 0 p (κ, 0, 0, w0)).2.1 ≤ n := rNs_le _ _ _ _ hp
    unfold cPk mP56
    rw [e1, e2]
    generalize rNs t n 1 1 1 0 p (κ, 0, 0, w0) = A at *
    generalize pNm t n 1 p (κ, 0, 0, w) = B at *
    obtain ⟨a1, a2, a3⟩ := r1
    rw [a1, a2]
    cases hB : B.1 with
    | false => rw [if_neg (by decide), if_neg (by decide)]; exact ⟨a1, a2, a3⟩
    | true =>
      rw [if_pos rfl, if_pos rfl]
      have r2 := rel_mk (t := t) (n := n) (i := κ + 5) (p := B.2.1) (a3 hB)
      have hle2 : (pMk t n (κ + 5) B.2.1 A.2.2).2.1 ≤ n := (pMk_le (by rw [← a2]; exact hle)).1
      generalize pMk t n (κ + 5) B.2.1 A.2.2 = C at *
      generalize pMk t n (κ + 5) B.2.1 B.2.2 = E at *
      obtain ⟨b1, b2, b3⟩ := r2
      rw [b1, b2]
      cases hE : E.1 with
      | false => rw [if_neg (by decide), if_neg (by decide)]; exact ⟨b1, b2, b3⟩
      | true =>
        rw [if_pos rfl, if_pos rfl]
        rcases c with c | c
        · subst c
          rw [if_pos rfl]
          have r3 := rel_ls (t := t) (n := n) (few := 0) (most := 0) (c := 0) 0 0 E.2.1 E.2.2 C.2.2 rfl (b3 hE) (by rw [← b2]; exact hle2)
          have e : fin n C = fin n (rNs t n (0 + 0) 0 0 (0 + 0) E.2.1 C.2.2) := by
            show (C.1 && decide (C.2.1 = n), C.2.1, C.2.2) = (true && decide (E.2.1 = n), E.2.1, C.2.2)
            rw [b1, hE, b2]
          rw [e]
          exact r3
        · subst c
          rw [if_neg (by decide)]
          exact rel_ls (t := t) (n := n) (few := 1) (most := 6) (c := 0) 6 0 E.2.1 E.2.2 C.2.2 rfl (b3 hE) (by rw [← b2]; exact hle2)
  · rw [if_neg c, cPk_9 (kMk_9 κ hκ c)]
    have := rel_nm (t := t) (n := n) (few := kFw κ) (m := kMs κ) (kNm κ) 0 p _ _ hs hp
    rw [show 0 + kNm κ + kFw κ = kNm κ + kFw κ by omega, show 0 + kNm κ + kMs κ = kNm κ + kMs κ by omega] at this
    exact this
theorem rel_ps {t : Nat → Nat} {n : Nat} {s : Stm} {w0 : Nat → Nat} : REL (pPs t n s) (mPs t n w0) := by
  unfold mPs
  cases h : (pKw t n 9 0 0).1 with
  | false =>
    have e : pPs t n s = (false, (pKw t n 9 0 0).2.1, s) := by unfold pPs; simp only [h]; rfl
    rw [e, if_neg (by decide)]
    exact ⟨rfl, rfl, fun z => by cases z⟩
  | true =>
    obtain ⟨κ, k1, k2, k3, k4⟩ := pKw_t 9 0 0 h
    have e : pPs t n s = cPk t n κ (kLen κ) (κ, 0, 0, wd s) := by unfold pPs; rw [k4]; rfl
    rw [e, if_pos rfl, k4]
    have hkn : kLen κ ≤ n := by
      rcases Nat.eq_zero_or_pos (kLen κ) with w | w
      · omega
      · have := ((LSH_ag (t := t) (n := n) (k := κ) (m := kLen κ)).mpr (Nat.le_of_eq k3.symm) (kLen κ - 1) (by omega)).1; omega
    exact rel_pk (by omega) hkn
