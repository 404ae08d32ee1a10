/-! COMPOSER: what a draft that is not wrong is put together to -/
theorem oI_s (j : Nat) : oI (some j) = nI j := rfl
/-- a statement as it can be read -/
def shp (s : Stm) : Prop := kNm (kd s) + kFw (kd s) ≤ sz s ∧ sz s ≤ kNm (kd s) + kMs (kd s) ∧ (kd s = 5 → mk s < 8) ∧ (kd s = 6 → mk s < 3)
def NW (self : Nat) (S : Nat → Stm) (n : Nat) : Prop := ∀ i, i < n → ¬ isWr self S n i
theorem nof_sp {S : Nat → Stm} {κ x n c : Nat} (h : nof S κ x n = some c) : ∃ k, k < n ∧ kd (S k) = κ ∧ wo (S k) 0 = x ∧ cntk S κ k = c := by
  unfold nof at h
  cases hq : fnd (decl S κ x) 1 0 n with
  | none => rw [hq] at h; cases h
  | some k =>
    rw [hq] at h
    obtain ⟨h1, h2, h3, -⟩ := fnd_some hq
    exact ⟨k, by omega, (decl_1 h3).1, (decl_1 h3).2, Option.some.inj h⟩
theorem cntk_lt {S : Nat → Stm} {κ i n : Nat} (hi : i < n) (hk : kd (S i) = κ) : cntk S κ i < cntk S κ n := by
  have := cntk_mono S κ (i := i + 1) (j := n) (by omega)
  rw [cntk_y hk] at this
  omega
theorem cntk_inj {S : Nat → Stm} {κ i j : Nat} (hi : kd (S i) = κ) (hj : kd (S j) = κ) (h : cntk S κ i = cntk S κ j) : i = j := by
  rcases Nat.lt_trichotomy i j with q | q | q
  · have := cntk_lt q hi; omega
  · exact q
  · have := cntk_lt q hj; omega
theorem nof_inj {S : Nat → Stm} {κ x y n c : Nat} (hx : nof S κ x n = some c) (hy : nof S κ y n = some c) : x = y := by
  obtain ⟨i, i1, i2, i3, i4⟩ := nof_sp hx
  obtain ⟨j, j1, j2, j3, j4⟩ := nof_sp hy
  rw [← i3, ← j3, cntk_inj i2 j2 (i4.trans j4.symm)]
theorem nof_ex {S : Nat → Stm} {κ x n : Nat} (h : isN S n κ x) : ∃ c, nof S κ x n = some c ∧ c < cntk S κ n := by
  cases hq : nof S κ x n with
  | none => exact absurd h (nof_none.mp hq)
  | some c =>
    obtain ⟨k, k1, k2, k3, k4⟩ := nof_sp hq
    exact ⟨c, rfl, by rw [← k4]; exact cntk_lt k1 k2⟩
theorem cnt8 {self : Nat} {S : Nat → Stm} {n : Nat} (h : NW self S n) : ∀ i, i ≤ n → cntk S 1 i ≤ 8 := by
  intro i
  induction i with
  | zero => intro _; exact Nat.zero_le _
  | succ i ih =>
    intro hi
    have h1 := ih (by omega)
    by_cases hk : kd (S i) = 1
    · rw [cntk_y hk]
      rcases Nat.lt_or_ge (cntk S 1 i) 8 with q | q
      · omega
      · exact absurd ((isWr1 hk).mpr (Or.inr (Or.inr (Or.inr q)))) (h i (by omega))
    · rw [cntk_n hk]; exact h1
theorem cnt3 {self : Nat} {S : Nat → Stm} {n : Nat} (h : NW self S n) : ∀ i, i ≤ n → cntk S 0 i ≤ 3 := by
  intro i
  induction i with
  | zero => intro _; exact Nat.zero_le _
  | succ i ih =>
    intro hi
    have h1 := ih (by omega)
    by_cases hk : kd (S i) = 0
    · rw [cntk_y hk]
      rcases Nat.lt_or_ge (cntk S 0 i) 3 with q | q
      · omega
      · exact absurd ((isWr0 hk).mpr (Or.inr (Or.inr q))) (h i (by omega))
    · rw [cntk_n hk]; exact h1
theorem areP_cls {S : Nat → Stm} {n i c : Nat} (h : areP S n i c) (hs : c + 1 < sz (S i)) : isN S n 0 (wo (S i) c) := by
  obtain ⟨q, q1, q2, q3, -⟩ := h (c + 1) (Nat.le_refl _) hs
  exact ⟨q, q1, q2, q3⟩
def oth (self : Nat) (S : Nat → Stm) (n i s t : Nat) : Prop := (wo (S i) 1 = self ∧ t = s) ∨ (wo (S i) 1 ≠ self ∧ tyN S n (wo (S i) 1) t)
def abt (self : Nat) (S : Nat → Stm) (n i s t : Nat) : Prop := tyN S n (wo (S i) 0) s ∧ oth self S n i s t
/-- the number that a cell of a row speaks of: doer, other, class -/
def cS (j : Nat) : Nat := j / 8 % 8
def cT (j : Nat) : Nat := j % 8
def cC (j : Nat) : Nat := j / 64
theorem cel_S {s t c : Nat} (hs : s < 8) (ht : t < 8) : cS (cel s t c) = s := by unfold cS cel; omega
theorem cel_T {s t c : Nat} (ht : t < 8) : cT (cel s t c) = t := by unfold cT cel; omega
theorem cel_C {s t c : Nat} (hs : s < 8) (ht : t < 8) : cC (cel s t c) = c := by unfold cC cel; omega
theorem cel_j (j : Nat) : cel (cS j) (cT j) (cC j) = j := by unfold cS cT cC cel; omega
def inD (S : Nat → Stm) (n j : Nat) : Prop := cS j < cntk S 1 n ∧ cT j < cntk S 1 n ∧ cC j < cntk S 0 n
def alj (self : Nat) (S : Nat → Stm) (n i j b : Nat) : Prop := kd (S i) = 2 ∧ nof S 0 (wo (S i) 2) n = some (cC j) ∧ abt self S n i (cS j) (cT j) ∧ msk S n i 2 b
def mkj (S : Nat → Stm) (n i j : Nat) : Prop := kd (S i) = 4 ∧ nof S 1 (wo (S i) 0) n = some (cS j) ∧ nof S 1 (wo (S i) 1) n = some (cT j) ∧ nof S 0 (wo (S i) 2) n = some (cC j)
def mkv (S : Nat → Stm) (n i : Nat) : Nat := (nof S 1 (wo (S i) 3) n).getD 0 + 1
def rkj (S : Nat → Stm) (n i t : Nat) : Prop := kd (S i) = 5 ∧ nof S 1 (wo (S i) 0) n = some t
def whi (s : Stm) (w : Nat) : Prop := (kd s = 6 ∧ mk s = w) ∨ (kd s = 7 ∧ w = 3) ∨ (kd s = 8 ∧ w = 4)
def wij (S : Nat → Stm) (n i j b : Nat) : Prop := whi (S i) (j % 5) ∧ nof S 0 (wo (S i) 0) n = some (j / 5) ∧ msk S n i 0 b
/-- each place has the value of the one statement that speaks of it -/
def asg (R : Nat → Nat → Prop) (v : Nat → Nat) (D : Nat → Prop) (k : Nat) (f : Nat → Nat) : Prop := ∀ j, D j → ((∀ i, i < k → ¬ R i j) → f j = 0) ∧ ∀ i, i < k → R i j → f j = v i
/-- each place has the bits of all statements that speak of it -/
def acc (R : Nat → Nat → Nat → Prop) (D : Nat → Prop) (k : Nat) (f : Nat → Nat) : Prop := ∀ j, D j → isB (f j) (fun b => ∃ i, i < k ∧ R i j b)
theorem asg.step {R : Nat → Nat → Prop} {v : Nat → Nat} {D : Nat → Prop} {k : Nat} {f f' : Nat → Nat} (h : asg R v D k f) (hs : ∀ j, D j → (f' j = v k ∧ R k j ∧ ∀ i, i < k → ¬ R i j) ∨ (f' j = f j ∧ ¬ R k j)) : asg R v D (k + 1) f' := by
  intro j hj
  obtain ⟨h1, h2⟩ := h j hj
  rcases hs j hj with ⟨q1, q2, q3⟩ | ⟨q1, q2⟩
  · refine ⟨fun z => absurd q2 (z k (by omega)), fun i hi hr => ?_⟩
    rcases Nat.lt_or_ge i k with w | w
    · exact absurd hr (q3 i w)
    · rw [show i = k by omega]; exact q1
  · refine ⟨fun z => q1.trans (h1 (fun i hi => z i (by omega))), fun i hi hr => ?_⟩
    rcases Nat.lt_or_ge i k with w | w
    · exact q1.trans (h2 i w hr)
    · rw [show i = k by omega] at hr; exact absurd hr q2
theorem asg.skip {R : Nat → Nat → Prop} {v : Nat → Nat} {D : Nat → Prop} {k : Nat} {f : Nat → Nat} (h : asg R v D k f) (hs : ∀ j, ¬ R k j) : asg R v D (k + 1) f := h.step fun j _ => Or.inr ⟨rfl, hs j⟩
theorem acc.step {R : Nat → Nat → Nat → Prop} {D : Nat → Prop} {k : Nat} {f f' : Nat → Nat} (h : acc R D k f) (x : Nat) (X : Nat → Prop) (hx : isB x X) (hs : ∀ j, D j → (f' j = f j ||| x ∧ ∀ b, R k j b ↔ X b) ∨ (f' j = f j ∧ ∀ b, ¬ R k j b)) : acc R D (k + 1) f' := by
  intro j hj
  have h1 := h j hj
  rcases hs j hj with ⟨q1, q2⟩ | ⟨q1, q2⟩
  · rw [q1]
    refine ⟨or_lt h1.1 hx.1, fun b => ?_⟩
    rw [Nat.testBit_or, Bool.or_eq_true, h1.2 b, hx.2 b, ← q2 b]
    constructor
    · rintro (⟨i, i1, i2⟩ | z)
      · exact ⟨i, by omega, i2⟩
      · exact ⟨k, by omega, z⟩
    · rintro ⟨i, i1, i2⟩
      rcases Nat.lt_or_ge i k with w | w
      · exact Or.inl ⟨i, w, i2⟩
      · rw [show i = k by omega] at i2; exact Or.inr i2
  · rw [q1]
    refine h1.c fun b => ⟨fun ⟨i, i1, i2⟩ => ⟨i, by omega, i2⟩, fun ⟨i, i1, i2⟩ => ?_⟩
    rcases Nat.lt_or_ge i k with w | w
    · exact ⟨i, w, i2⟩
    · rw [show i = k by omega] at i2; exact absurd i2 (q2 b)
theorem acc.skip {R : Nat → Nat → Nat → Prop} {D : Nat → Prop} {k : Nat} {f : Nat → Nat} (h : acc R D k f) (hs : ∀ j b, ¬ R k j b) : acc R D (k + 1) f := h.step 0 (fun _ => False) isB.z fun j _ => Or.inr ⟨rfl, hs j⟩
def CP (self : Nat) (S : Nat → Stm) (n k : Nat) (p : Pol) : Prop :=
  (pT p = cntk S 1 n ∧ pC p = cntk S 0 n ∧ ∀ i, i < n → kd (S i) = 0 → pPm p (cntk S 0 i) = sz (S i) - 1) ∧
  asg (rkj S n) (fun i => mk (S i)) (fun j => j < 8) k (pRk p) ∧ acc (alj self S n) (inD S n) k (pAl p) ∧
  asg (mkj S n) (mkv S n) (inD S n) k (pPr p) ∧ acc (wij S n) (fun j => j < 5 * cntk S 0 n) k (pMs p)
theorem CP.skip {self : Nat} {S : Nat → Stm} {n k : Nat} {p : Pol} (h : CP self S n k p) (hk : kd (S k) = 0 ∨ kd (S k) = 1 ∨ kd (S k) = 3) : CP self S n (k + 1) p :=
  ⟨h.1, h.2.1.skip fun j z => (by have := z.1; omega), h.2.2.1.skip fun j b z => (by have := z.1; omega), h.2.2.2.1.skip fun j z => (by have := z.1; omega), h.2.2.2.2.skip fun j b z => (by rcases z.1 with y | y | y <;> omega)⟩
/-- the rows of what is allowed, once the doers below k have got theirs -/
def AL1 (self : Nat) (S : Nat → Stm) (n i c x k : Nat) (p p' : Pol) : Prop := p' = (pT p, pC p, pPm p, pRk p, pAl p', pPr p, pMs p) ∧ ∀ j, cT j < pT p → ((cC j = c ∧ cS j < k ∧ abt self S n i (cS j) (cT j)) ∧ pAl p' j = pAl p j ||| x) ∨ (¬ (cC j = c ∧ cS j < k ∧ abt self S n i (cS j) (cT j)) ∧ pAl p' j = pAl p j)
theorem AL1.z (self : Nat) (S : Nat → Stm) (n i c x : Nat) (p : Pol) : AL1 self S n i c x 0 p p := ⟨rfl, fun j _ => Or.inr ⟨fun z => by omega, rfl⟩⟩
theorem AL1.no {self : Nat} {S : Nat → Stm} {n i c x k : Nat} {p p' : Pol} (h : AL1 self S n i c x k p p') (hn : ¬ tyN S n (wo (S i) 0) k) : AL1 self S n i c x (k + 1) p p' := by
  refine ⟨h.1, fun j hj => ?_⟩
  rcases h.2 j hj with ⟨q1, q2⟩ | ⟨q1, q2⟩
  · exact Or.inl ⟨⟨q1.1, by omega, q1.2.2⟩, q2⟩
  · refine Or.inr ⟨fun z => ?_, q2⟩
    rcases Nat.lt_or_ge (cS j) k with w | w
    · exact q1 ⟨z.1, w, z.2.2⟩
    · exact hn (by have := z.2.2.1; rw [show cS j = k by omega] at this; exact this)
theorem AL1.yes {self : Nat} {S : Nat → Stm} {n i c x k m : Nat} {p p' : Pol} (h : AL1 self S n i c x k p p') (hy : tyN S n (wo (S i) 0) k) (hk : k < 8) (hm : isB m (oth self S n i k)) : AL1 self S n i c x (k + 1) p (pAdd p' k c m x (pT p')) := by
  have hT : pT p' = pT p := by rw [h.1]
  refine ⟨by rw [h.1]; rfl, fun j hj => ?_⟩
  have e : pAl (pAdd p' k c m x (pT p')) j = addA (pAl p') k c m x (pT p') j := rfl
  rw [e]
  unfold addA
  have e2 : j % 8 = cT j := rfl
  rw [e2, hT]
  by_cases hc : j / 8 = c * 8 + k
  · have h1 : cC j = c := by unfold cC; omega
    have h2 : cS j = k := by unfold cS; omega
    have h3 : pAl p' j = pAl p j := by
      rcases h.2 j hj with ⟨q1, q2⟩ | ⟨q1, q2⟩
      · omega
      · exact q2
    by_cases ht : m.testBit (cT j) = true
    · rw [if_pos ⟨hc, hj, ht⟩, h3]
      exact Or.inl ⟨⟨h1, by omega, by rw [h2]; exact ⟨hy, (hm.2 _).mp ht⟩⟩, rfl⟩
    · rw [if_neg (fun z => ht z.2.2), h3]
      exact Or.inr ⟨fun z => ht ((hm.2 _).mpr (by have := z.2.2.2; rw [h2] at this; exact this)), rfl⟩
  · rw [if_neg (fun z => hc z.1)]
    rcases h.2 j hj with ⟨q1, q2⟩ | ⟨q1, q2⟩
    · exact Or.inl ⟨⟨q1.1, by omega, q1.2.2⟩, q2⟩
    · refine Or.inr ⟨fun z => ?_, q2⟩
      rcases Nat.lt_or_ge (cS j) k with w | w
      · exact q1 ⟨z.1, w, z.2.2⟩
      · have h1 := z.1
        have h2 := z.2.1
        unfold cC at h1
        unfold cS at h2 w
        omega
theorem CP.allow {self : Nat} {S : Nat → Stm} {n k c x : Nat} {p p' : Pol} (h : CP self S n k p) (hk : kd (S k) = 2) (hc : nof S 0 (wo (S k) 2) n = some c) (hx : isB x (msk S n k 2)) (h1 : AL1 self S n k c x (pT p) p p') : CP self S n (k + 1) p' := by
  have e := h1.1
  obtain ⟨⟨hT, hC, hP⟩, hr, ha, hp, hm⟩ := h
  refine ⟨?_, ?_, ?_, ?_, ?_⟩
  · rw [e]; exact ⟨hT, hC, hP⟩
  · rw [e]; exact hr.skip fun j z => (by have := z.1; omega)
  · refine ha.step x _ hx fun j hj => ?_
    rcases h1.2 j (by rw [hT]; exact hj.2.1) with ⟨q1, q2⟩ | ⟨q1, q2⟩
    · exact Or.inl ⟨q2, fun b => ⟨fun z => z.2.2.2, fun z => ⟨hk, by rw [hc, q1.1], q1.2.2, z⟩⟩⟩
    · exact Or.inr ⟨q2, fun b z => q1 ⟨(Option.some.inj (hc.symm.trans z.2.1)).symm, by rw [hT]; exact hj.1, z.2.2.1⟩⟩
  · rw [e]; exact hp.skip fun j z => (by have := z.1; omega)
  · rw [e]; exact hm.skip fun j b z => (by rcases z.1 with y | y | y <;> omega)
theorem CP.make {self : Nat} {S : Nat → Stm} {n k s t c u : Nat} {p : Pol} (h : CP self S n k p) (hk : kd (S k) = 4) (hkn : k < n) (hrep : ¬ rep S k 3) (h0 : nof S 1 (wo (S k) 0) n = some s) (h1 : nof S 1 (wo (S k) 1) n = some t) (h2 : nof S 0 (wo (S k) 2) n = some c) (h3 : nof S 1 (wo (S k) 3) n = some u) (hs : s < 8) (ht : t < 8) : CP self S n (k + 1) (pT p, pC p, pPm p, pRk p, pAl p, va_up (pPr p) (cel s t c) (u + 1), pMs p) := by
  obtain ⟨⟨hT, hC, hP⟩, hr, ha, hp, hm⟩ := h
  refine ⟨⟨hT, hC, hP⟩, hr.skip fun j z => (by have := z.1; omega), ha.skip fun j b z => (by have := z.1; omega), hp.step fun j hj => ?_, hm.skip fun j b z => (by rcases z.1 with y | y | y <;> omega)⟩
  by_cases q : j = cel s t c
  · refine Or.inl ⟨?_, ⟨hk, by rw [h0, q, cel_S hs ht], by rw [h1, q, cel_T ht], by rw [h2, q, cel_C hs ht]⟩, fun i hi z => hrep ⟨i, hi, by rw [z.1, hk], fun r hr3 => ?_⟩⟩
    · show va_up (pPr p) (cel s t c) (u + 1) j = mkv S n k
      unfold va_up mkv
      rw [if_pos q, h3]; rfl
    · obtain ⟨z1, z2, z3, z4⟩ := z
      rw [q, cel_S hs ht] at z2
      rw [q, cel_T ht] at z3
      rw [q, cel_C hs ht] at z4
      rcases (show r = 0 ∨ r = 1 ∨ r = 2 by omega) with y | y | y
      · rw [y]; exact nof_inj z2 h0
      · rw [y]; exact nof_inj z3 h1
      · rw [y]; exact nof_inj z4 h2
  · refine Or.inr ⟨?_, fun z => q ?_⟩
    · show va_up (pPr p) (cel s t c) (u + 1) j = pPr p j
      unfold va_up
      rw [if_neg q]
    · rw [← cel_j j, Option.some.inj (h0.symm.trans z.2.1), Option.some.inj (h1.symm.trans z.2.2.1), Option.some.inj (h2.symm.trans z.2.2.2)]
theorem CP.rank {self : Nat} {S : Nat → Stm} {n k t : Nat} {p : Pol} (h : CP self S n k p) (hk : kd (S k) = 5) (hrep : ¬ rep S k 1) (h0 : nof S 1 (wo (S k) 0) n = some t) : CP self S n (k + 1) (pT p, pC p, pPm p, va_up (pRk p) t (mk (S k)), pAl p, pPr p, pMs p) := by
  obtain ⟨⟨hT, hC, hP⟩, hr, ha, hp, hm⟩ := h
  refine ⟨⟨hT, hC, hP⟩, hr.step fun j hj => ?_, ha.skip fun j b z => (by have := z.1; omega), hp.skip fun j z => (by have := z.1; omega), hm.skip fun j b z => (by rcases z.1 with y | y | y <;> omega)⟩
  by_cases q : j = t
  · refine Or.inl ⟨?_, ⟨hk, by rw [h0, q]⟩, fun i hi z => hrep ⟨i, hi, by rw [z.1, hk], fun r hr3 => ?_⟩⟩
    · show va_up (pRk p) t (mk (S k)) j = mk (S k)
      unfold va_up
      rw [if_pos q]
    · rw [show r = 0 by omega]
      exact nof_inj (z.2.trans (by rw [q])) h0
  · refine Or.inr ⟨?_, fun z => q (Option.some.inj (z.2.symm.trans h0))⟩
    show va_up (pRk p) t (mk (S k)) j = pRk p j
    unfold va_up
    rw [if_neg q]
theorem CP.wid {self : Nat} {S : Nat → Stm} {n k c w x : Nat} {p : Pol} (h : CP self S n k p) (hw : whi (S k) w) (hw5 : w < 5) (h0 : nof S 0 (wo (S k) 0) n = some c) (hx : isB x (msk S n k 0)) : CP self S n (k + 1) (pT p, pC p, pPm p, pRk p, pAl p, pPr p, va_up (pMs p) (c * 5 + w) (pMs p (c * 5 + w) ||| x)) := by
  obtain ⟨⟨hT, hC, hP⟩, hr, ha, hp, hm⟩ := h
  have hk : 6 ≤ kd (S k) := by rcases hw with y | y | y <;> omega
  refine ⟨⟨hT, hC, hP⟩, hr.skip fun j z => (by have := z.1; omega), ha.skip fun j b z => (by have := z.1; omega), hp.skip fun j z => (by have := z.1; omega), hm.step x _ hx fun j hj => ?_⟩
  by_cases q : j = c * 5 + w
  · refine Or.inl ⟨?_, fun b => ⟨fun z => z.2.2, fun z => ⟨?_, ?_, z⟩⟩⟩
    · show va_up (pMs p) (c * 5 + w) (pMs p (c * 5 + w) ||| x) j = pMs p j ||| x
      unfold va_up
      rw [if_pos q, q]
    · rw [show j % 5 = w by omega]; exact hw
    · rw [show j / 5 = c by omega]; exact h0
  · refine Or.inr ⟨?_, fun b z => q ?_⟩
    · show va_up (pMs p) (c * 5 + w) (pMs p (c * 5 + w) ||| x) j = pMs p j
      unfold va_up
      rw [if_neg q]
    · have h1 := Option.some.inj (h0.symm.trans z.2.1)
      have h2 : j % 5 = w := by rcases z.1 with y | y | y <;> rcases hw with v | v | v <;> omega
      omega
theorem sepDP {a b : Nat} (h : a + 83 < b ∨ b + 5 < a) : ∀ q, atD a q → ¬ atP b q := by rintro q ⟨q1, q2⟩ ⟨q3, q4⟩; omega
set_option maxHeartbeats 4000000 in
set_option maxRecDepth 100000 in
theorem s_othersFor {G : EG} {l : Launch} {h : EH} {a n : Nat} {S : Nat → Stm} (hD : DR G h a n S) {i : Nat} (hi : i < 41) {s m : Nat} (hs : s < 8) (hm : isB m (tyN S n (wo (S i) 1))) : ES G l 1 mX2_othersFor [.ref (a + 2 + 2 * i), .int (nI s), .int (nI m)] h 0 0 (fun v h' => ∃ w, v = some (.int (nI w)) ∧ h' = h ∧ isB w (oth dSelf S n i s)) eNoX := by
  refine es_of (by decide) rfl (Nat.le_of_ble_eq_true rfl) ?_
  refine ex_aload_n rfl dX2_othersFor_0 ?_
  refine ex_iconst (v := (nI 1)) (by decide) dX2_othersFor_1 ?_
  refine ex_invv (k := 0) (n := 0) (mc' := 0) (ms' := 0) (As := [_]) dX2_othersFor_2 cv_X2_69 (by decide) (Nat.le_of_ble_eq_true rfl) (Or.inl ⟨_, _, _, _, (hD.2.2.1 i (by omega)).1.1, rfl⟩) (s_word (hD.2.2.1 i (by omega)).1 (k := 1) (by decide)) (fun v h' q => ?_)
  obtain ⟨rfl, rfl⟩ := q
  refine ex_ldc lc_X2_128 dX2_othersFor_5 ?_
  rw [show (628102 : Int32) = nI dSelf from rfl]
  refine ex_icmpN_ne (tgt := 16) (by decide) dX2_othersFor_7 (Nat.lt_trans (wo_lt (hD.2.2.1 i hi).1 1) (by decide)) (by decide) (fun c1 => ?_) (fun c1 => ?_)
  · refine ex_iload_n rfl dX2_othersFor_16 ?_
    refine ex_iret dX2_othersFor_17 rfl ⟨m, rfl, rfl, hm.c (fun t => ⟨fun z => Or.inr ⟨c1, z⟩, fun z => z.elim (fun y => absurd y.1 c1) (fun y => y.2)⟩)⟩
  · refine ex_iconst (v := (nI 1)) (by decide) dX2_othersFor_10 ?_
    refine ex_iload_n rfl dX2_othersFor_11 ?_
    refine ex_ishl dX2_othersFor_12 ?_
    rw [shl_1 (by omega)]
    refine ex_goto (tgt := 17) (by decide) dX2_othersFor_13 ?_
    refine ex_iret dX2_othersFor_17 rfl ⟨2 ^ s, rfl, rfl, ⟨Nat.pow_lt_pow_right (by decide) hs, fun t => by rw [Nat.testBit_two_pow, decide_eq_true_iff]; exact ⟨fun z => Or.inl ⟨c1, z.symm⟩, fun z => z.elim (fun y => y.2.symm) (fun y => absurd c1 y.1)⟩⟩⟩
set_option maxHeartbeats 4000000 in
set_option maxRecDepth 100000 in
theorem s_declare {G : EG} {l : Launch} {h : EH} {a n : Nat} {S : Nat → Stm} (hD : DR G h a n S) {b : Nat} {p : Pol} (hP : PL G h b p) (hab : a + 83 < b ∨ b + 5 < a) (hG : eInj G) {i : Nat} (hi : i < 41) (hT1 : kd (S i) = 1 → pT p < 8) (hC1 : kd (S i) = 0 → pC p < 3 ∧ 1 ≤ sz (S i)) : ES G l 1 mX2_declare [.ref (a + 2 + 2 * i), .ref b] h 0 0 (fun v h' => v = none ∧ PL G h' b (if kd (S i) = 1 then (pT p + 1, pC p, pPm p, pRk p, pAl p, pPr p, pMs p) else if kd (S i) = 0 then (pT p, pC p + 1, va_up (pPm p) (pC p) (sz (S i) - 1), pRk p, pAl p, pPr p, pMs p) else p) ∧ Fr (atP b) h h') eNoX := by
  have hn := hD.2.2.2
  have hk9 := (hD.2.2.1 i (by omega)).2
  have hs9 := (hD.2.2.1 i (by omega)).1.2.2.1.1
  refine es_of (by decide) rfl (Nat.le_of_ble_eq_true rfl) ?_
  refine ex_aload_n rfl dX2_declare_0 ?_
  refine ex_invv (k := 0) (n := 0) (mc' := 0) (ms' := 0) (As := []) dX2_declare_1 cv_X2_34 (by decide) (Nat.le_of_ble_eq_true rfl) (Or.inl ⟨_, _, _, _, (hD.2.2.1 i (by omega)).1.1, rfl⟩) (s_kind (hD.2.2.1 i (by omega)).1) (fun v h' q => ?_)
  obtain ⟨rfl, rfl⟩ := q
  refine ex_gets (z := ("PolicyDesk$Kind", "TYPE", "LPolicyDesk$Kind;", .ref (ead G 1))) dX2_declare_4 (eZk (i := 1) (by decide)) gz_X2_40 ?_
  refine ex_acmp_ne (tgt := 14) (by decide) dX2_declare_7 (fun c1 => ?_) (fun c1 => ?_)
  · refine ex_aload_n rfl dX2_declare_14 ?_
    refine ex_invv (k := 0) (n := 0) (mc' := 0) (ms' := 0) (As := []) dX2_declare_15 cv_X2_34 (by decide) (Nat.le_of_ble_eq_true rfl) (Or.inl ⟨_, _, _, _, (hD.2.2.1 i (by omega)).1.1, rfl⟩) (s_kind (hD.2.2.1 i (by omega)).1) (fun v h' q => ?_)
    obtain ⟨rfl, rfl⟩ := q
    refine ex_gets (z := ("PolicyDesk$Kind", "CLASS", "LPolicyDesk$Kind;", .ref (ead G 0))) dX2_declare_18 (eZk (i := 0) (by decide)) gz_X2_49 ?_
    refine ex_acmp_ne (tgt := 34) (by decide) dX2_declare_21 (fun c2 => ?_) (fun c2 => ?_)
    · refine ex_vret dX2_declare_34 rfl ⟨rfl, by rw [if_neg (fun z => c1 (by rw [z])), if_neg (fun z => c2 (by rw [z]))]; exact hP, Fr.rf⟩
    · refine ex_aload_n rfl dX2_declare_24 ?_
      refine ex_aload_n rfl dX2_declare_25 ?_
      refine ex_invv (k := 0) (n := 0) (mc' := 0) (ms' := 0) (As := []) dX2_declare_26 cv_X2_52 (by decide) (Nat.le_of_ble_eq_true rfl) (Or.inl ⟨_, _, _, _, (hD.2.2.1 i (by omega)).1.1, rfl⟩) (s_size (hD.2.2.1 i (by omega)).1) (fun v h' q => ?_)
      obtain ⟨rfl, rfl⟩ := q
      refine ex_iconst (v := (nI 1)) (by decide) dX2_declare_29 ?_
      refine ex_isubN (by have := hC1 (hG _ _ hk9 (by decide) c2); omega) dX2_declare_30 ?_
      refine ex_invv (k := 0) (n := 0) (mc' := 0) (ms' := 0) (As := [_]) dX2_declare_31 cv_X2_53 (by decide) (Nat.le_of_ble_eq_true rfl) (Or.inl ⟨_, _, _, _, hP.1, rfl⟩) (s_declareClass hP (x := sz (S i) - 1) (by omega) (hC1 (hG _ _ hk9 (by decide) c2)).1) (fun v h' q => ?_)
      obtain ⟨rfl, hP1, hF1⟩ := q
      refine ex_vret dX2_declare_34 rfl ⟨rfl, by rw [if_neg (fun z => c1 (by rw [z])), if_pos (hG _ _ hk9 (by decide) c2)]; exact hP1, hF1⟩
  · refine ex_aload_n rfl dX2_declare_10 ?_
    refine ex_invv (k := 0) (n := 0) (mc' := 0) (ms' := 0) (As := []) dX2_declare_11 cv_X2_46 (by decide) (Nat.le_of_ble_eq_true rfl) (Or.inl ⟨_, _, _, _, hP.1, rfl⟩) (s_declareType hP (hT1 (hG _ _ (hD.2.2.1 i (by omega)).2 (by decide) c1))) (fun v h' q => ?_)
    obtain ⟨rfl, hP1, hF1⟩ := q
    have hS1 := (hD.fr hF1 (sepDP hab)).2.2.1 i (by omega) |>.1
    refine ex_aload_n rfl dX2_declare_14 ?_
    refine ex_invv (k := 0) (n := 0) (mc' := 0) (ms' := 0) (As := []) dX2_declare_15 cv_X2_34 (by decide) (Nat.le_of_ble_eq_true rfl) (Or.inl ⟨_, _, _, _, hS1.1, rfl⟩) (s_kind hS1) (fun v h' q => ?_)
    obtain ⟨rfl, rfl⟩ := q
    refine ex_gets (z := ("PolicyDesk$Kind", "CLASS", "LPolicyDesk$Kind;", .ref (ead G 0))) dX2_declare_18 (eZk (i := 0) (by decide)) gz_X2_49 ?_
    refine ex_acmp_ne (tgt := 34) (by decide) dX2_declare_21 (fun c3 => ?_) (fun c3 => ?_)
    · refine ex_vret dX2_declare_34 rfl ⟨rfl, by rw [if_pos (hG _ _ hk9 (by decide) c1)]; exact hP1, hF1⟩
    · exact absurd (hG _ _ (by decide) (by decide) (c1.symm.trans c3)) (by decide)
set_option maxHeartbeats 4000000 in
set_option maxRecDepth 100000 in
theorem s_widen {G : EG} {l : Launch} {h : EH} {a n : Nat} {S : Nat → Stm} (hD : DR G h a n S) {b : Nat} {p : Pol} (hP : PL G h b p) (hab : a + 83 < b ∨ b + 5 < a) (hG : eInj G) {i : Nat} (hi : i < n) {c w : Nat} (h0 : nof S 0 (wo (S i) 0) n = some c) (hc : c < pC p) (hw : w < 5) : ES G l 3 mX2_widen [.ref a, .ref (a + 2 + 2 * i), .ref b, .int (nI w)] h 0 0 (fun v h' => v = none ∧ ∃ x, isB x (msk S n i 0) ∧ PL G h' b (pT p, pC p, pPm p, pRk p, pAl p, pPr p, va_up (pMs p) (c * 5 + w) (pMs p (c * 5 + w) ||| x)) ∧ Fr (atP b) h h') eNoX := by
  have hn := hD.2.2.2
  refine es_of (by decide) rfl (Nat.le_of_ble_eq_true rfl) ?_
  refine ex_aload_n rfl dX2_widen_0 ?_
  refine ex_aload_n rfl dX2_widen_1 ?_
  refine ex_gets (z := ("PolicyDesk$Kind", "CLASS", "LPolicyDesk$Kind;", .ref (ead G 0))) dX2_widen_2 (eZk (i := 0) (by decide)) gz_X2_49 ?_
  refine ex_aload_n rfl dX2_widen_5 ?_
  refine ex_iconst (v := (nI 0)) (by decide) dX2_widen_6 ?_
  refine ex_invv (k := 0) (n := 0) (mc' := 0) (ms' := 0) (As := [_]) dX2_widen_7 cv_X2_69 (by decide) (Nat.le_of_ble_eq_true rfl) (Or.inl ⟨_, _, _, _, (hD.2.2.1 i (by omega)).1.1, rfl⟩) (s_word (hD.2.2.1 i (by omega)).1 (k := 0) (by decide)) (fun v h' q => ?_)
  obtain ⟨rfl, rfl⟩ := q
  refine ex_invv (k := 0) (n := 0) (mc' := 0) (ms' := 0) (As := [_, _]) dX2_widen_10 cv_X2_73 (by decide) (Nat.le_of_ble_eq_true rfl) (Or.inl ⟨_, _, _, _, hD.1, rfl⟩) (s_numberOf hD hG (κ := 0) (by decide) (wo_lt (hD.2.2.1 i (by omega)).1 0)) (fun v h' q => ?_)
  obtain ⟨rfl, rfl⟩ := q
  rw [h0, oI_s]
  refine ex_iload_n rfl dX2_widen_13 ?_
  refine ex_aload_n rfl dX2_widen_14 ?_
  refine ex_aload_n rfl dX2_widen_15 ?_
  refine ex_iconst (v := (nI 0)) (by decide) dX2_widen_16 ?_
  refine ex_invv (k := 0) (n := 0) (mc' := 0) (ms' := 0) (As := [_, _]) dX2_widen_17 cv_X2_92 (by decide) (Nat.le_of_ble_eq_true rfl) (Or.inl ⟨_, _, _, _, hD.1, rfl⟩) (s_maskOf hD hG (i := i) (c := 0) (by omega) (by decide)) (fun v h' q => ?_)
  obtain ⟨x, rfl, rfl, hx⟩ := q
  have hx1 := hx.1
  refine ex_invv (k := 0) (n := 0) (mc' := 0) (ms' := 0) (As := [_, _, _]) dX2_widen_20 cv_X2_96 (by decide) (Nat.le_of_ble_eq_true rfl) (Or.inl ⟨_, _, _, _, hP.1, rfl⟩) (s_addToMask hP hc hw (x := x) (by omega)) (fun v h' q => ?_)
  obtain ⟨rfl, hP1, hF1⟩ := q
  refine ex_vret dX2_widen_23 rfl ⟨rfl, x, hx, hP1, hF1⟩
set_option maxHeartbeats 4000000 in
set_option maxRecDepth 100000 in
theorem l_allow {G : EG} {l : Launch} {h0 : EH} {a n : Nat} {S : Nat → Stm} {b : Nat} {p : Pol} (hab : a + 83 < b ∨ b + 5 < a) (hG : eInj G) {i : Nat} (hi : i < n) {c w1 w2 x : Nat} (hc : c < pC p) (hw1 : isB w1 (tyN S n (wo (S i) 0))) (hw2 : isB w2 (tyN S n (wo (S i) 1))) (hx : isB x (msk S n i 2)) : ∀ (f k : Nat), pT p - k < f → k ≤ pT p → ∀ (h : EH) (p' : Pol), DR G h a n S → PL G h b p' → Fr (atP b) h0 h → AL1 dSelf S n i c x k p p' → Ex G l 3 mX2_allow (fun v h' => v = none ∧ ∃ p' x, isB x (msk S n i 2) ∧ AL1 dSelf S n i c x (pT p) p p' ∧ PL G h' b p' ∧ Fr (atP b) h0 h') eNoX 0 0 46 [(0, .ref a), (1, .ref (a + 2 + 2 * i)), (2, .ref b), (3, .int (nI w1)), (4, .int (nI w2)), (5, .int (nI c)), (6, .int (nI x)), (7, .int (nI k))] [] h := by
  intro f
  induction f with
  | zero =>
    intro k h1 h2 h p' hD hP hF hA
    omega
  | succ f ih =>
    intro k h1 h2 h p' hD hP hF hA
    have hn := hD.2.2.2
    have hTe : pT p' = pT p := by rw [hA.1]
    have hCe : pC p' = pC p := by rw [hA.1]
    have hT8 := hP.2.2.2.2.2.2.1
    have hw1l := hw1.1
    have hx1 := hx.1
    refine ex_iload rfl dX2_allow_46 ?_
    refine ex_aload_n rfl dX2_allow_48 ?_
    refine ex_invv (k := 0) (n := 0) (mc' := 0) (ms' := 0) (As := []) dX2_allow_49 cv_X2_103 (by decide) (Nat.le_of_ble_eq_true rfl) (Or.inl ⟨_, _, _, _, hP.1, rfl⟩) (s_ptypes hP) (fun v h' q => ?_)
    obtain ⟨rfl, rfl⟩ := q
    refine ex_icmpN_ge (tgt := 88) (by decide) dX2_allow_52 (by omega) (by omega) (fun c1 => ?_) (fun c1 => ?_)
    · refine ex_vret dX2_allow_88 rfl ⟨rfl, p', x, hx, by rw [show k = pT p by omega] at hA; exact hA, hP, hF⟩
    · refine ex_iload_n rfl dX2_allow_55 ?_
      refine ex_iload rfl dX2_allow_56 ?_
      refine ex_invsN (k := 0) (n := 0) (mc' := 0) (ms' := 0) (As := [_, _]) dX2_allow_58 cs_X2_106 (by decide) (Nat.le_of_ble_eq_true rfl) (s_hasBit _ (m := w1) (b := k) (by omega) (by omega)) (fun v h' q => ?_)
      obtain ⟨rfl, rfl⟩ := q
      refine ex_ifB_eq (tgt := 82) (by decide) dX2_allow_61 (fun c2 => ?_) (fun c2 => ?_)
      · refine ex_iincN (z := 1) rfl (by decide) rfl dX2_allow_82 ?_
        refine ex_goto (tgt := 46) (by decide) dX2_allow_85 ?_
        exact ih (k + 1) (by omega) (by omega) _ _ hD hP hF (hA.no (fun z => by rw [(hw1.2 k).mpr z] at c2; cases c2))
      · refine ex_aload_n rfl dX2_allow_64 ?_
        refine ex_iload rfl dX2_allow_65 ?_
        refine ex_aload_n rfl dX2_allow_67 ?_
        refine ex_iload rfl dX2_allow_68 ?_
        refine ex_iload rfl dX2_allow_70 ?_
        refine ex_invs (k := 0) (n := 0) (mc' := 0) (ms' := 0) (As := [_, _, _]) dX2_allow_72 cs_X2_110 (by decide) (Nat.le_of_ble_eq_true rfl) (s_othersFor hD (i := i) (by omega) (s := k) (by omega) hw2) (fun v h' q => ?_)
        obtain ⟨m1, rfl, rfl, hm1⟩ := q
        have hm2 := hm1.1
        refine ex_iload rfl dX2_allow_75 ?_
        refine ex_iload rfl dX2_allow_77 ?_
        refine ex_invv (k := 0) (n := 0) (mc' := 0) (ms' := 0) (As := [_, _, _, _]) dX2_allow_79 cv_X2_114 (by decide) (Nat.le_of_ble_eq_true rfl) (Or.inl ⟨_, _, _, _, hP.1, rfl⟩) (s_addAllowed hP (s := k) (c := c) (m := m1) (x := x) (by omega) (by omega) (by omega) (by omega)) (fun v h' q => ?_)
        obtain ⟨rfl, hP1, hF1⟩ := q
        refine ex_iincN (z := 1) rfl (by decide) rfl dX2_allow_82 ?_
        refine ex_goto (tgt := 46) (by decide) dX2_allow_85 ?_
        exact ih (k + 1) (by omega) (by omega) _ _ (hD.fr hF1 (sepDP hab)) hP1 (hF.tr hF1) (hA.yes ((hw1.2 k).mp c2) (by omega) hm1)
set_option maxHeartbeats 4000000 in
set_option maxRecDepth 100000 in
theorem s_allow {G : EG} {l : Launch} {h : EH} {a n : Nat} {S : Nat → Stm} (hD : DR G h a n S) {b : Nat} {p : Pol} (hP : PL G h b p) (hab : a + 83 < b ∨ b + 5 < a) (hG : eInj G) {i : Nat} (hi : i < n) (h8 : cntk S 1 n ≤ 8) {c : Nat} (h0 : nof S 0 (wo (S i) 2) n = some c) (hc : c < pC p) : ES G l 3 mX2_allow [.ref a, .ref (a + 2 + 2 * i), .ref b] h 0 0 (fun v h' => v = none ∧ ∃ p' x, isB x (msk S n i 2) ∧ AL1 dSelf S n i c x (pT p) p p' ∧ PL G h' b p' ∧ Fr (atP b) h h') eNoX := by
  have hn := hD.2.2.2
  refine es_of (by decide) rfl (Nat.le_of_ble_eq_true rfl) ?_
  refine ex_aload_n rfl dX2_allow_0 ?_
  refine ex_aload_n rfl dX2_allow_1 ?_
  refine ex_iconst (v := (nI 0)) (by decide) dX2_allow_2 ?_
  refine ex_invv (k := 0) (n := 0) (mc' := 0) (ms' := 0) (As := [_]) dX2_allow_3 cv_X2_69 (by decide) (Nat.le_of_ble_eq_true rfl) (Or.inl ⟨_, _, _, _, (hD.2.2.1 i (by omega)).1.1, rfl⟩) (s_word (hD.2.2.1 i (by omega)).1 (k := 0) (by decide)) (fun v h' q => ?_)
  obtain ⟨rfl, rfl⟩ := q
  refine ex_invv (k := 0) (n := 0) (mc' := 0) (ms' := 0) (As := [_]) dX2_allow_6 cv_X2_100 (by decide) (Nat.le_of_ble_eq_true rfl) (Or.inl ⟨_, _, _, _, hD.1, rfl⟩) (s_typesNamed hD hG (wo_lt (hD.2.2.1 i (by omega)).1 0) h8) (fun v h' q => ?_)
  obtain ⟨w1, rfl, rfl, hw1⟩ := q
  refine ex_istore_n (by decide) rfl dX2_allow_9 ?_
  refine ex_aload_n rfl dX2_allow_10 ?_
  refine ex_aload_n rfl dX2_allow_11 ?_
  refine ex_iconst (v := (nI 1)) (by decide) dX2_allow_12 ?_
  refine ex_invv (k := 0) (n := 0) (mc' := 0) (ms' := 0) (As := [_]) dX2_allow_13 cv_X2_69 (by decide) (Nat.le_of_ble_eq_true rfl) (Or.inl ⟨_, _, _, _, (hD.2.2.1 i (by omega)).1.1, rfl⟩) (s_word (hD.2.2.1 i (by omega)).1 (k := 1) (by decide)) (fun v h' q => ?_)
  obtain ⟨rfl, rfl⟩ := q
  refine ex_invv (k := 0) (n := 0) (mc' := 0) (ms' := 0) (As := [_]) dX2_allow_16 cv_X2_100 (by decide) (Nat.le_of_ble_eq_true rfl) (Or.inl ⟨_, _, _, _, hD.1, rfl⟩) (s_typesNamed hD hG (wo_lt (hD.2.2.1 i (by omega)).1 1) h8) (fun v h' q => ?_)
  obtain ⟨w2, rfl, rfl, hw2⟩ := q
  refine ex_istore (by decide) rfl dX2_allow_19 ?_
  refine ex_aload_n rfl dX2_allow_21 ?_
  refine ex_gets (z := ("PolicyDesk$Kind", "CLASS", "LPolicyDesk$Kind;", .ref (ead G 0))) dX2_allow_22 (eZk (i := 0) (by decide)) gz_X2_49 ?_
  refine ex_aload_n rfl dX2_allow_25 ?_
  refine ex_iconst (v := (nI 2)) (by decide) dX2_allow_26 ?_
  refine ex_invv (k := 0) (n := 0) (mc' := 0) (ms' := 0) (As := [_]) dX2_allow_27 cv_X2_69 (by decide) (Nat.le_of_ble_eq_true rfl) (Or.inl ⟨_, _, _, _, (hD.2.2.1 i (by omega)).1.1, rfl⟩) (s_word (hD.2.2.1 i (by omega)).1 (k := 2) (by decide)) (fun v h' q => ?_)
  obtain ⟨rfl, rfl⟩ := q
  refine ex_invv (k := 0) (n := 0) (mc' := 0) (ms' := 0) (As := [_, _]) dX2_allow_30 cv_X2_73 (by decide) (Nat.le_of_ble_eq_true rfl) (Or.inl ⟨_, _, _, _, hD.1, rfl⟩) (s_numberOf hD hG (κ := 0) (by decide) (wo_lt (hD.2.2.1 i (by omega)).1 2)) (fun v h' q => ?_)
  obtain ⟨rfl, rfl⟩ := q
  rw [h0, oI_s]
  refine ex_istore (by decide) rfl dX2_allow_33 ?_
  refine ex_aload_n rfl dX2_allow_35 ?_
  refine ex_aload_n rfl dX2_allow_36 ?_
  refine ex_iconst (v := (nI 2)) (by decide) dX2_allow_37 ?_
  refine ex_invv (k := 0) (n := 0) (mc' := 0) (ms' := 0) (As := [_, _]) dX2_allow_38 cv_X2_92 (by decide) (Nat.le_of_ble_eq_true rfl) (Or.inl ⟨_, _, _, _, hD.1, rfl⟩) (s_maskOf hD hG (i := i) (c := 2) (by omega) (by decide)) (fun v h' q => ?_)
  obtain ⟨x, rfl, rfl, hx⟩ := q
  refine ex_istore (by decide) rfl dX2_allow_41 ?_
  refine ex_iconst (v := (nI 0)) (by decide) dX2_allow_43 ?_
  refine ex_istore (by decide) rfl dX2_allow_44 ?_
  exact ex_lv [(0, .ref a), (1, .ref (a + 2 + 2 * i)), (2, .ref b), (3, .int (nI w1)), (4, .int (nI w2)), (5, .int (nI c)), (6, .int (nI x)), (7, .int (nI 0))] ⟨rfl, rfl, rfl, rfl, rfl, rfl, rfl, rfl, trivial⟩ (l_allow hab hG hi hc hw1 hw2 hx (pT p + 1) 0 (by omega) (by omega) _ p hD hP Fr.rf (AL1.z ..))
def agn (self : Nat) (S : Nat → Stm) (n : Nat) (p : Pol) (i c s : Nat) : Prop := ∃ t, t < pT p ∧ abt self S n i s t ∧ ∃ b, (pAl p (cel s t c)).testBit b = true ∧ msk S n i 2 b
theorem and_ne0 {x y : Nat} : x &&& y ≠ 0 ↔ ∃ b, x.testBit b = true ∧ y.testBit b = true := by
  constructor
  · intro h
    obtain ⟨b, hb⟩ := Nat.exists_testBit_of_ne_zero h
    rw [Nat.testBit_and, Bool.and_eq_true] at hb
    exact ⟨b, hb⟩
  · rintro ⟨b, h1, h2⟩ h
    have : (x &&& y).testBit b = true := by rw [Nat.testBit_and, h1, h2]; rfl
    rw [h, Nat.zero_testBit] at this
    cases this
set_option maxHeartbeats 4000000 in
set_option maxRecDepth 100000 in
theorem l_isAgainst {G : EG} {l : Launch} {h : EH} {a n : Nat} {S : Nat → Stm} (hD : DR G h a n S) {b : Nat} {p : Pol} (hP : PL G h b p) (hab : a + 83 < b ∨ b + 5 < a) (hG : eInj G) {i : Nat} (hi : i < n) {c w1 w2 x : Nat} (hc : c < pC p) (hw1 : isB w1 (tyN S n (wo (S i) 0))) (hw2 : isB w2 (tyN S n (wo (S i) 1))) (hx : isB x (msk S n i 2)) : ∀ (f k : Nat), pT p - k < f → k ≤ pT p → (∀ s, s < k → ¬ agn dSelf S n p i c s) → Ex G l 3 mX2_isAgainst (fun v h' => v = some (.int (b2i (bP (∃ s, s < pT p ∧ agn dSelf S n p i c s)))) ∧ h' = h) eNoX 0 0 46 [(0, .ref a), (1, .ref (a + 2 + 2 * i)), (2, .ref b), (3, .int (nI w1)), (4, .int (nI w2)), (5, .int (nI c)), (6, .int (nI x)), (7, .int (nI k))] [] h := by
  intro f
  induction f with
  | zero =>
    intro k h1 h2 he
    omega
  | succ f ih =>
    intro k h1 h2 he
    have hn := hD.2.2.2
    have hT8 := hP.2.2.2.2.2.2.1
    have hw1l := hw1.1
    have hx1 := hx.1
    refine ex_iload rfl dX2_isAgainst_46 ?_
    refine ex_aload_n rfl dX2_isAgainst_48 ?_
    refine ex_invv (k := 0) (n := 0) (mc' := 0) (ms' := 0) (As := []) dX2_isAgainst_49 cv_X2_103 (by decide) (Nat.le_of_ble_eq_true rfl) (Or.inl ⟨_, _, _, _, hP.1, rfl⟩) (s_ptypes hP) (fun v h' q => ?_)
    obtain ⟨rfl, rfl⟩ := q
    refine ex_icmpN_ge (tgt := 93) (by decide) dX2_isAgainst_52 (by omega) (by omega) (fun c1 => ?_) (fun c1 => ?_)
    · refine ex_iconst (v := (nI 0)) (by decide) dX2_isAgainst_93 ?_
      refine ex_zret dX2_isAgainst_94 rfl rfl ⟨rF (fun ⟨s, s1, s2⟩ => he s (by omega) s2), rfl⟩
    · refine ex_iload_n rfl dX2_isAgainst_55 ?_
      refine ex_iload rfl dX2_isAgainst_56 ?_
      refine ex_invsN (k := 0) (n := 0) (mc' := 0) (ms' := 0) (As := [_, _]) dX2_isAgainst_58 cs_X2_106 (by decide) (Nat.le_of_ble_eq_true rfl) (s_hasBit _ (m := w1) (b := k) (by omega) (by omega)) (fun v h' q => ?_)
      obtain ⟨rfl, rfl⟩ := q
      refine ex_ifB_eq (tgt := 87) (by decide) dX2_isAgainst_61 (fun c2 => ?_) (fun c2 => ?_)
      · refine ex_iincN (z := 1) rfl (by decide) rfl dX2_isAgainst_87 ?_
        refine ex_goto (tgt := 46) (by decide) dX2_isAgainst_90 ?_
        exact ih (k + 1) (by omega) (by omega) (fun s hs z => by rcases Nat.lt_or_ge s k with w | w; exact he s w z; rw [show s = k by omega] at z; obtain ⟨t, -, z, -⟩ := z; rw [(hw1.2 k).mpr z.1] at c2; cases c2)
      · refine ex_aload_n rfl dX2_isAgainst_64 ?_
        refine ex_iload rfl dX2_isAgainst_65 ?_
        refine ex_aload_n rfl dX2_isAgainst_67 ?_
        refine ex_iload rfl dX2_isAgainst_68 ?_
        refine ex_iload rfl dX2_isAgainst_70 ?_
        refine ex_invs (k := 0) (n := 0) (mc' := 0) (ms' := 0) (As := [_, _, _]) dX2_isAgainst_72 cs_X2_110 (by decide) (Nat.le_of_ble_eq_true rfl) (s_othersFor hD (i := i) (by omega) (s := k) (by omega) hw2) (fun v h' q => ?_)
        obtain ⟨m1, rfl, rfl, hm1⟩ := q
        have hm2 := hm1.1
        refine ex_iload rfl dX2_isAgainst_75 ?_
        refine ex_iload rfl dX2_isAgainst_77 ?_
        have hb : bP (agn dSelf S n p i c k) = true ↔ ∃ t, t < pT p ∧ m1.testBit t = true ∧ pAl p (cel k t c) &&& x ≠ 0 := by
          rw [bP_iff]
          refine ⟨fun ⟨t, t1, t2, bb, b1, b2⟩ => ⟨t, t1, (hm1.2 t).mpr t2.2, and_ne0.mpr ⟨bb, b1, (hx.2 bb).mpr b2⟩⟩, fun ⟨t, t1, t2, t3⟩ => ?_⟩
          obtain ⟨bb, b1, b2⟩ := and_ne0.mp t3
          exact ⟨t, t1, ⟨(hw1.2 k).mp c2, (hm1.2 t).mp t2⟩, bb, b1, (hx.2 bb).mp b2⟩
        refine ex_invv (k := 0) (n := 0) (mc' := 0) (ms' := 0) (As := [_, _, _, _]) dX2_isAgainst_79 cv_X2_124 (by decide) (Nat.le_of_ble_eq_true rfl) (Or.inl ⟨_, _, _, _, hP.1, rfl⟩) (s_allowsSome hP (s := k) (c := c) (m := m1) (x := x) (by omega) (by omega) (by omega) (by omega) (B := bP (agn dSelf S n p i c k)) hb) (fun v h' q => ?_)
        obtain ⟨rfl, rfl⟩ := q
        refine ex_ifB_eq (tgt := 87) (by decide) dX2_isAgainst_82 (fun c3 => ?_) (fun c3 => ?_)
        · refine ex_iincN (z := 1) rfl (by decide) rfl dX2_isAgainst_87 ?_
          refine ex_goto (tgt := 46) (by decide) dX2_isAgainst_90 ?_
          exact ih (k + 1) (by omega) (by omega) (fun s hs z => by rcases Nat.lt_or_ge s k with w | w; exact he s w z; rw [show s = k by omega] at z; exact bP_f c3 z)
        · refine ex_iconst (v := (nI 1)) (by decide) dX2_isAgainst_85 ?_
          refine ex_zret dX2_isAgainst_86 rfl rfl ⟨rT ⟨k, by omega, bP_t c3⟩, rfl⟩
set_option maxHeartbeats 4000000 in
set_option maxRecDepth 100000 in
theorem s_isAgainst {G : EG} {l : Launch} {h : EH} {a n : Nat} {S : Nat → Stm} (hD : DR G h a n S) {b : Nat} {p : Pol} (hP : PL G h b p) (hab : a + 83 < b ∨ b + 5 < a) (hG : eInj G) {i : Nat} (hi : i < n) (h8 : cntk S 1 n ≤ 8) {c : Nat} (h0 : nof S 0 (wo (S i) 2) n = some c) (hc : c < pC p) : ES G l 3 mX2_isAgainst [.ref a, .ref (a + 2 + 2 * i), .ref b] h 0 0 (fun v h' => v = some (.int (b2i (bP (∃ s, s < pT p ∧ agn dSelf S n p i c s)))) ∧ h' = h) eNoX := by
  have hn := hD.2.2.2
  refine es_of (by decide) rfl (Nat.le_of_ble_eq_true rfl) ?_
  refine ex_aload_n rfl dX2_isAgainst_0 ?_
  refine ex_aload_n rfl dX2_isAgainst_1 ?_
  refine ex_iconst (v := (nI 0)) (by decide) dX2_isAgainst_2 ?_
  refine ex_invv (k := 0) (n := 0) (mc' := 0) (ms' := 0) (As := [_]) dX2_isAgainst_3 cv_X2_69 (by decide) (Nat.le_of_ble_eq_true rfl) (Or.inl ⟨_, _, _, _, (hD.2.2.1 i (by omega)).1.1, rfl⟩) (s_word (hD.2.2.1 i (by omega)).1 (k := 0) (by decide)) (fun v h' q => ?_)
  obtain ⟨rfl, rfl⟩ := q
  refine ex_invv (k := 0) (n := 0) (mc' := 0) (ms' := 0) (As := [_]) dX2_isAgainst_6 cv_X2_100 (by decide) (Nat.le_of_ble_eq_true rfl) (Or.inl ⟨_, _, _, _, hD.1, rfl⟩) (s_typesNamed hD hG (wo_lt (hD.2.2.1 i (by omega)).1 0) h8) (fun v h' q => ?_)
  obtain ⟨w1, rfl, rfl, hw1⟩ := q
  refine ex_istore_n (by decide) rfl dX2_isAgainst_9 ?_
  refine ex_aload_n rfl dX2_isAgainst_10 ?_
  refine ex_aload_n rfl dX2_isAgainst_11 ?_
  refine ex_iconst (v := (nI 1)) (by decide) dX2_isAgainst_12 ?_
  refine ex_invv (k := 0) (n := 0) (mc' := 0) (ms' := 0) (As := [_]) dX2_isAgainst_13 cv_X2_69 (by decide) (Nat.le_of_ble_eq_true rfl) (Or.inl ⟨_, _, _, _, (hD.2.2.1 i (by omega)).1.1, rfl⟩) (s_word (hD.2.2.1 i (by omega)).1 (k := 1) (by decide)) (fun v h' q => ?_)
  obtain ⟨rfl, rfl⟩ := q
  refine ex_invv (k := 0) (n := 0) (mc' := 0) (ms' := 0) (As := [_]) dX2_isAgainst_16 cv_X2_100 (by decide) (Nat.le_of_ble_eq_true rfl) (Or.inl ⟨_, _, _, _, hD.1, rfl⟩) (s_typesNamed hD hG (wo_lt (hD.2.2.1 i (by omega)).1 1) h8) (fun v h' q => ?_)
  obtain ⟨w2, rfl, rfl, hw2⟩ := q
  refine ex_istore (by decide) rfl dX2_isAgainst_19 ?_
  refine ex_aload_n rfl dX2_isAgainst_21 ?_
  refine ex_gets (z := ("PolicyDesk$Kind", "CLASS", "LPolicyDesk$Kind;", .ref (ead G 0))) dX2_isAgainst_22 (eZk (i := 0) (by decide)) gz_X2_49 ?_
  refine ex_aload_n rfl dX2_isAgainst_25 ?_
  refine ex_iconst (v := (nI 2)) (by decide) dX2_isAgainst_26 ?_
  refine ex_invv (k := 0) (n := 0) (mc' := 0) (ms' := 0) (As := [_]) dX2_isAgainst_27 cv_X2_69 (by decide) (Nat.le_of_ble_eq_true rfl) (Or.inl ⟨_, _, _, _, (hD.2.2.1 i (by omega)).1.1, rfl⟩) (s_word (hD.2.2.1 i (by omega)).1 (k := 2) (by decide)) (fun v h' q => ?_)
  obtain ⟨rfl, rfl⟩ := q
  refine ex_invv (k := 0) (n := 0) (mc' := 0) (ms' := 0) (As := [_, _]) dX2_isAgainst_30 cv_X2_73 (by decide) (Nat.le_of_ble_eq_true rfl) (Or.inl ⟨_, _, _, _, hD.1, rfl⟩) (s_numberOf hD hG (κ := 0) (by decide) (wo_lt (hD.2.2.1 i (by omega)).1 2)) (fun v h' q => ?_)
  obtain ⟨rfl, rfl⟩ := q
  rw [h0, oI_s]
  refine ex_istore (by decide) rfl dX2_isAgainst_33 ?_
  refine ex_aload_n rfl dX2_isAgainst_35 ?_
  refine ex_aload_n rfl dX2_isAgainst_36 ?_
  refine ex_iconst (v := (nI 2)) (by decide) dX2_isAgainst_37 ?_
  refine ex_invv (k := 0) (n := 0) (mc' := 0) (ms' := 0) (As := [_, _]) dX2_isAgainst_38 cv_X2_92 (by decide) (Nat.le_of_ble_eq_true rfl) (Or.inl ⟨_, _, _, _, hD.1, rfl⟩) (s_maskOf hD hG (i := i) (c := 2) (by omega) (by decide)) (fun v h' q => ?_)
  obtain ⟨x, rfl, rfl, hx⟩ := q
  refine ex_istore (by decide) rfl dX2_isAgainst_41 ?_
  refine ex_iconst (v := (nI 0)) (by decide) dX2_isAgainst_43 ?_
  refine ex_istore (by decide) rfl dX2_isAgainst_44 ?_
  exact ex_lv [(0, .ref a), (1, .ref (a + 2 + 2 * i)), (2, .ref b), (3, .int (nI w1)), (4, .int (nI w2)), (5, .int (nI c)), (6, .int (nI x)), (7, .int (nI 0))] ⟨rfl, rfl, rfl, rfl, rfl, rfl, rfl, rfl, trivial⟩ (l_isAgainst hD hP hab hG hi hc hw1 hw2 hx (pT p + 1) 0 (by omega) (by omega) (fun s hs => by omega))
/-- statement i is a never against what the policy allows -/
def ag (self : Nat) (S : Nat → Stm) (n : Nat) (p : Pol) (i : Nat) : Prop := kd (S i) = 3 ∧ ∃ c, nof S 0 (wo (S i) 2) n = some c ∧ ∃ s, s < pT p ∧ agn self S n p i c s
def FA (self : Nat) (S : Nat → Stm) (n : Nat) (p : Pol) (r : Option Nat) : Prop := (∀ i, r = some i → i < n ∧ ag self S n p i ∧ ∀ j, j < i → ¬ ag self S n p j) ∧ (r = none → ∀ j, j < n → ¬ ag self S n p j)
theorem nw23 {self : Nat} {S : Nat → Stm} {n i : Nat} (h : NW self S n) (hi : i < n) (hk : kd (S i) = 2 ∨ kd (S i) = 3) (hs : shp (S i)) : ∃ c, nof S 0 (wo (S i) 2) n = some c ∧ c < cntk S 0 n := by
  have h1 : areP S n i 2 := Classical.byContradiction fun z => h i hi ((isWr2 hk).mpr (Or.inr (Or.inr z)))
  have h2 := hs.1
  refine nof_ex (areP_cls h1 ?_)
  rcases hk with q | q <;> rw [q] at h2 <;> exact Nat.lt_of_lt_of_le (by decide) h2
theorem nw6 {self : Nat} {S : Nat → Stm} {n i : Nat} (h : NW self S n) (hi : i < n) (hk : 6 ≤ kd (S i)) (hk9 : kd (S i) < 9) (hs : shp (S i)) : ∃ c, nof S 0 (wo (S i) 0) n = some c ∧ c < cntk S 0 n := by
  have h1 : areP S n i 0 := Classical.byContradiction fun z => h i hi ((isWr6 hk).mpr z)
  have h2 := hs.1
  refine nof_ex (areP_cls h1 ?_)
  rcases (show kd (S i) = 6 ∨ kd (S i) = 7 ∨ kd (S i) = 8 by omega) with q | q | q <;> rw [q] at h2 <;> exact Nat.lt_of_lt_of_le (by decide) h2
theorem nw5 {self : Nat} {S : Nat → Stm} {n i : Nat} (h : NW self S n) (hi : i < n) (hk : kd (S i) = 5) : ¬ rep S i 1 ∧ ∃ t, nof S 1 (wo (S i) 0) n = some t ∧ t < cntk S 1 n := by
  refine ⟨fun z => h i hi ((isWr5 hk).mpr (Or.inl z)), nof_ex (Classical.byContradiction fun z => h i hi ((isWr5 hk).mpr (Or.inr z)))⟩
theorem nw4 {self : Nat} {S : Nat → Stm} {n i : Nat} (h : NW self S n) (hi : i < n) (hk : kd (S i) = 4) : ¬ rep S i 3 ∧ (∃ t, nof S 1 (wo (S i) 0) n = some t ∧ t < cntk S 1 n) ∧ (∃ t, nof S 1 (wo (S i) 1) n = some t ∧ t < cntk S 1 n) ∧ (∃ t, nof S 0 (wo (S i) 2) n = some t ∧ t < cntk S 0 n) ∧ ∃ t, nof S 1 (wo (S i) 3) n = some t ∧ t < cntk S 1 n := by
  refine ⟨fun z => h i hi ((isWr4 hk).mpr (Or.inl z)), nof_ex (Classical.byContradiction fun z => h i hi ((isWr4 hk).mpr (Or.inr (Or.inl z)))), nof_ex (Classical.byContradiction fun z => h i hi ((isWr4 hk).mpr (Or.inr (Or.inr (Or.inl z))))), nof_ex (Classical.byContradiction fun z => h i hi ((isWr4 hk).mpr (Or.inr (Or.inr (Or.inr (Or.inl z)))))), nof_ex (Classical.byContradiction fun z => h i hi ((isWr4 hk).mpr (Or.inr (Or.inr (Or.inr (Or.inr z))))))⟩
set_option maxHeartbeats 4000000 in
set_option maxRecDepth 100000 in
theorem l_firstAgainst {G : EG} {l : Launch} {h : EH} {a n : Nat} {S : Nat → Stm} (hD : DR G h a n S) {b : Nat} {p : Pol} (hP : PL G h b p) (hab : a + 83 < b ∨ b + 5 < a) (hG : eInj G) (hN : NW dSelf S n) (hsh : ∀ i, i < n → shp (S i)) (hC : pC p = cntk S 0 n) : ∀ (f k : Nat), n - k < f → k ≤ n → (∀ j, j < k → ¬ ag dSelf S n p j) → Ex G l 4 mX2_firstAgainst (fun v h' => ∃ r, v = some (.int (oI r)) ∧ h' = h ∧ FA dSelf S n p r) eNoX 0 0 2 [(0, .ref a), (1, .ref b), (2, .int (nI k))] [] h := by
  intro f
  induction f with
  | zero =>
    intro k h1 h2 he
    omega
  | succ f ih =>
    intro k h1 h2 he
    have hn := hD.2.2.2
    refine ex_iload_n rfl dX2_firstAgainst_2 ?_
    refine ex_aload_n rfl dX2_firstAgainst_3 ?_
    refine ex_invv (k := 0) (n := 0) (mc' := 0) (ms' := 0) (As := []) dX2_firstAgainst_4 cv_X2_14 (by decide) (Nat.le_of_ble_eq_true rfl) (Or.inl ⟨_, _, _, _, hD.1, rfl⟩) (s_dsize hD) (fun v h' q => ?_)
    obtain ⟨rfl, rfl⟩ := q
    refine ex_icmpN_ge (tgt := 45) (by decide) dX2_firstAgainst_7 (by omega) (by omega) (fun c1 => ?_) (fun c1 => ?_)
    · refine ex_iconst (v := (-1)) (by decide) dX2_firstAgainst_45 ?_
      refine ex_iret dX2_firstAgainst_46 rfl ⟨none, rfl, rfl, ⟨fun i hi => (by cases hi), fun _ j hj => he j (by omega)⟩⟩
    · refine ex_aload_n rfl dX2_firstAgainst_10 ?_
      refine ex_iload_n rfl dX2_firstAgainst_11 ?_
      refine ex_invv (k := 0) (n := 0) (mc' := 0) (ms' := 0) (As := [_]) dX2_firstAgainst_12 cv_X2_20 (by decide) (Nat.le_of_ble_eq_true rfl) (Or.inl ⟨_, _, _, _, hD.1, rfl⟩) (s_row hD (i := k) (by omega)) (fun v h' q => ?_)
      obtain ⟨rfl, rfl⟩ := q
      refine ex_invv (k := 0) (n := 0) (mc' := 0) (ms' := 0) (As := []) dX2_firstAgainst_15 cv_X2_34 (by decide) (Nat.le_of_ble_eq_true rfl) (Or.inl ⟨_, _, _, _, (hD.2.2.1 k (by omega)).1.1, rfl⟩) (s_kind (hD.2.2.1 k (by omega)).1) (fun v h' q => ?_)
      obtain ⟨rfl, rfl⟩ := q
      refine ex_gets (z := ("PolicyDesk$Kind", "NEVER", "LPolicyDesk$Kind;", .ref (ead G 3))) dX2_firstAgainst_18 (eZk (i := 3) (by decide)) gz_X2_117 ?_
      refine ex_acmp_ne (tgt := 39) (by decide) dX2_firstAgainst_21 (fun c2 => ?_) (fun c2 => ?_)
      · refine ex_iincN (z := 1) rfl (by decide) rfl dX2_firstAgainst_39 ?_
        refine ex_goto (tgt := 2) (by decide) dX2_firstAgainst_42 ?_
        exact ih (k + 1) (by omega) (by omega) (fun j hj z => by rcases Nat.lt_or_ge j k with w | w; exact he j w z; rw [show j = k by omega] at z; exact c2 (by rw [z.1]))
      · have hk3 := hG _ _ (hD.2.2.1 k (by omega)).2 (by decide) c2
        obtain ⟨c, h0, hcn⟩ := nw23 hN (by omega) (Or.inr hk3) (hsh k (by omega))
        refine ex_aload_n rfl dX2_firstAgainst_24 ?_
        refine ex_aload_n rfl dX2_firstAgainst_25 ?_
        refine ex_iload_n rfl dX2_firstAgainst_26 ?_
        refine ex_invv (k := 0) (n := 0) (mc' := 0) (ms' := 0) (As := [_]) dX2_firstAgainst_27 cv_X2_20 (by decide) (Nat.le_of_ble_eq_true rfl) (Or.inl ⟨_, _, _, _, hD.1, rfl⟩) (s_row hD (i := k) (by omega)) (fun v h' q => ?_)
        obtain ⟨rfl, rfl⟩ := q
        refine ex_aload_n rfl dX2_firstAgainst_30 ?_
        refine ex_invs (k := 0) (n := 0) (mc' := 0) (ms' := 0) (As := [_, _, _]) dX2_firstAgainst_31 cs_X2_120 (by decide) (Nat.le_of_ble_eq_true rfl) (s_isAgainst hD hP hab hG (i := k) (by omega) (cnt8 hN n (Nat.le_refl _)) h0 (by omega)) (fun v h' q => ?_)
        obtain ⟨rfl, rfl⟩ := q
        refine ex_ifB_eq (tgt := 39) (by decide) dX2_firstAgainst_34 (fun c3 => ?_) (fun c3 => ?_)
        · refine ex_iincN (z := 1) rfl (by decide) rfl dX2_firstAgainst_39 ?_
          refine ex_goto (tgt := 2) (by decide) dX2_firstAgainst_42 ?_
          exact ih (k + 1) (by omega) (by omega) (fun j hj z => by rcases Nat.lt_or_ge j k with w | w; exact he j w z; rw [show j = k by omega] at z; obtain ⟨-, c', z1, z2⟩ := z; rw [h0] at z1; cases z1; exact bP_f c3 z2)
        · refine ex_iload_n rfl dX2_firstAgainst_37 ?_
          refine ex_iret dX2_firstAgainst_38 rfl ⟨some k, rfl, rfl, ⟨fun i hi => (by cases hi; exact ⟨by omega, ⟨hk3, c, h0, bP_t c3⟩, he⟩), fun z => (by cases z)⟩⟩
set_option maxHeartbeats 4000000 in
set_option maxRecDepth 100000 in
theorem s_firstAgainst {G : EG} {l : Launch} {h : EH} {a n : Nat} {S : Nat → Stm} (hD : DR G h a n S) {b : Nat} {p : Pol} (hP : PL G h b p) (hab : a + 83 < b ∨ b + 5 < a) (hG : eInj G) (hN : NW dSelf S n) (hsh : ∀ i, i < n → shp (S i)) (hC : pC p = cntk S 0 n) : ES G l 4 mX2_firstAgainst [.ref a, .ref b] h 0 0 (fun v h' => ∃ r, v = some (.int (oI r)) ∧ h' = h ∧ FA dSelf S n p r) eNoX := by
  refine es_of (by decide) rfl (Nat.le_of_ble_eq_true rfl) ?_
  refine ex_iconst (v := (nI 0)) (by decide) dX2_firstAgainst_0 ?_
  refine ex_istore_n (by decide) rfl dX2_firstAgainst_1 ?_
  exact l_firstAgainst hD hP hab hG hN hsh hC (n + 1) 0 (by omega) (by omega) (fun j hj => by omega)
set_option maxHeartbeats 4000000 in
set_option maxRecDepth 100000 in
theorem a_2 {G : EG} {l : Launch} {h : EH} {a n : Nat} {S : Nat → Stm} (hD : DR G h a n S) {b : Nat} {p : Pol} (hP : PL G h b p) (hab : a + 83 < b ∨ b + 5 < a) (hG : eInj G) {i : Nat} (hi : i < n) (hN : NW dSelf S n) (hsh : ∀ i, i < n → shp (S i)) (hcp : CP dSelf S n i p) (hk : kd (S i) = 2) : Ex G l 4 mX2_apply (fun v h' => v = none ∧ ∃ p', PL G h' b p' ∧ CP dSelf S n (i + 1) p' ∧ Fr (atP b) h h') eNoX 0 0 52 [(0, .ref a), (1, .ref (a + 2 + 2 * i)), (2, .ref b)] [] h := by
  have hn := hD.2.2.2
  have h8 := cnt8 hN n (Nat.le_refl _)
  have hpT := hcp.1.1
  have hpC := hcp.1.2.1
  obtain ⟨c, h0, hcn⟩ := nw23 hN hi (Or.inl hk) (hsh i hi)
  refine ex_aload_n rfl dX2_apply_52 ?_
  refine ex_aload_n rfl dX2_apply_53 ?_
  refine ex_aload_n rfl dX2_apply_54 ?_
  refine ex_invs (k := 0) (n := 0) (mc' := 0) (ms' := 0) (As := [_, _, _]) dX2_apply_55 cs_X2_66 (by decide) (Nat.le_of_ble_eq_true rfl) (s_allow hD hP hab hG hi h8 h0 (by omega)) (fun v h' q => ?_)
  obtain ⟨rfl, p', x, hx, hA, hP1, hF1⟩ := q
  refine ex_goto (tgt := 174) (by decide) dX2_apply_58 ?_
  refine ex_vret dX2_apply_174 rfl ⟨rfl, p', hP1, hcp.allow hk h0 hx hA, hF1⟩
set_option maxHeartbeats 4000000 in
set_option maxRecDepth 100000 in
theorem a_4 {G : EG} {l : Launch} {h : EH} {a n : Nat} {S : Nat → Stm} (hD : DR G h a n S) {b : Nat} {p : Pol} (hP : PL G h b p) (hab : a + 83 < b ∨ b + 5 < a) (hG : eInj G) {i : Nat} (hi : i < n) (hN : NW dSelf S n) (hsh : ∀ i, i < n → shp (S i)) (hcp : CP dSelf S n i p) (hk : kd (S i) = 4) : Ex G l 4 mX2_apply (fun v h' => v = none ∧ ∃ p', PL G h' b p' ∧ CP dSelf S n (i + 1) p' ∧ Fr (atP b) h h') eNoX 0 0 61 [(0, .ref a), (1, .ref (a + 2 + 2 * i)), (2, .ref b)] [] h := by
  have hn := hD.2.2.2
  have h8 := cnt8 hN n (Nat.le_refl _)
  have hpT := hcp.1.1
  have hpC := hcp.1.2.1
  obtain ⟨hr, ⟨s, n0, hs⟩, ⟨t, n1, ht⟩, ⟨c, n2, hc⟩, ⟨u, n3, hu⟩⟩ := nw4 hN hi hk
  refine ex_aload_n rfl dX2_apply_61 ?_
  refine ex_aload_n rfl dX2_apply_62 ?_
  refine ex_gets (z := ("PolicyDesk$Kind", "TYPE", "LPolicyDesk$Kind;", .ref (ead G 1))) dX2_apply_63 (eZk (i := 1) (by decide)) gz_X2_40 ?_
  refine ex_aload_n rfl dX2_apply_66 ?_
  refine ex_iconst (v := (nI 0)) (by decide) dX2_apply_67 ?_
  refine ex_invv (k := 0) (n := 0) (mc' := 0) (ms' := 0) (As := [_]) dX2_apply_68 cv_X2_69 (by decide) (Nat.le_of_ble_eq_true rfl) (Or.inl ⟨_, _, _, _, (hD.2.2.1 i (by omega)).1.1, rfl⟩) (s_word (hD.2.2.1 i (by omega)).1 (k := 0) (by decide)) (fun v h' q => ?_)
  obtain ⟨rfl, rfl⟩ := q
  refine ex_invv (k := 0) (n := 0) (mc' := 0) (ms' := 0) (As := [_, _]) dX2_apply_71 cv_X2_73 (by decide) (Nat.le_of_ble_eq_true rfl) (Or.inl ⟨_, _, _, _, hD.1, rfl⟩) (s_numberOf hD hG (κ := 1) (by decide) (wo_lt (hD.2.2.1 i (by omega)).1 0)) (fun v h' q => ?_)
  obtain ⟨rfl, rfl⟩ := q
  rw [n0, oI_s]
  refine ex_aload_n rfl dX2_apply_74 ?_
  refine ex_gets (z := ("PolicyDesk$Kind", "TYPE", "LPolicyDesk$Kind;", .ref (ead G 1))) dX2_apply_75 (eZk (i := 1) (by decide)) gz_X2_40 ?_
  refine ex_aload_n rfl dX2_apply_78 ?_
  refine ex_iconst (v := (nI 1)) (by decide) dX2_apply_79 ?_
  refine ex_invv (k := 0) (n := 0) (mc' := 0) (ms' := 0) (As := [_]) dX2_apply_80 cv_X2_69 (by decide) (Nat.le_of_ble_eq_true rfl) (Or.inl ⟨_, _, _, _, (hD.2.2.1 i (by omega)).1.1, rfl⟩) (s_word (hD.2.2.1 i (by omega)).1 (k := 1) (by decide)) (fun v h' q => ?_)
  obtain ⟨rfl, rfl⟩ := q
  refine ex_invv (k := 0) (n := 0) (mc' := 0) (ms' := 0) (As := [_, _]) dX2_apply_83 cv_X2_73 (by decide) (Nat.le_of_ble_eq_true rfl) (Or.inl ⟨_, _, _, _, hD.1, rfl⟩) (s_numberOf hD hG (κ := 1) (by decide) (wo_lt (hD.2.2.1 i (by omega)).1 1)) (fun v h' q => ?_)
  obtain ⟨rfl, rfl⟩ := q
  rw [n1, oI_s]
  refine ex_aload_n rfl dX2_apply_86 ?_
  refine ex_gets (z := ("PolicyDesk$Kind", "CLASS", "LPolicyDesk$Kind;", .ref (ead G 0))) dX2_apply_87 (eZk (i := 0) (by decide)) gz_X2_49 ?_
  refine ex_aload_n rfl dX2_apply_90 ?_
  refine ex_iconst (v := (nI 2)) (by decide) dX2_apply_91 ?_
  refine ex_invv (k := 0) (n := 0) (mc' := 0) (ms' := 0) (As := [_]) dX2_apply_92 cv_X2_69 (by decide) (Nat.le_of_ble_eq_true rfl) (Or.inl ⟨_, _, _, _, (hD.2.2.1 i (by omega)).1.1, rfl⟩) (s_word (hD.2.2.1 i (by omega)).1 (k := 2) (by decide)) (fun v h' q => ?_)
  obtain ⟨rfl, rfl⟩ := q
  refine ex_invv (k := 0) (n := 0) (mc' := 0) (ms' := 0) (As := [_, _]) dX2_apply_95 cv_X2_73 (by decide) (Nat.le_of_ble_eq_true rfl) (Or.inl ⟨_, _, _, _, hD.1, rfl⟩) (s_numberOf hD hG (κ := 0) (by decide) (wo_lt (hD.2.2.1 i (by omega)).1 2)) (fun v h' q => ?_)
  obtain ⟨rfl, rfl⟩ := q
  rw [n2, oI_s]
  refine ex_aload_n rfl dX2_apply_98 ?_
  refine ex_gets (z := ("PolicyDesk$Kind", "TYPE", "LPolicyDesk$Kind;", .ref (ead G 1))) dX2_apply_99 (eZk (i := 1) (by decide)) gz_X2_40 ?_
  refine ex_aload_n rfl dX2_apply_102 ?_
  refine ex_iconst (v := (nI 3)) (by decide) dX2_apply_103 ?_
  refine ex_invv (k := 0) (n := 0) (mc' := 0) (ms' := 0) (As := [_]) dX2_apply_104 cv_X2_69 (by decide) (Nat.le_of_ble_eq_true rfl) (Or.inl ⟨_, _, _, _, (hD.2.2.1 i (by omega)).1.1, rfl⟩) (s_word (hD.2.2.1 i (by omega)).1 (k := 3) (by decide)) (fun v h' q => ?_)
  obtain ⟨rfl, rfl⟩ := q
  refine ex_invv (k := 0) (n := 0) (mc' := 0) (ms' := 0) (As := [_, _]) dX2_apply_107 cv_X2_73 (by decide) (Nat.le_of_ble_eq_true rfl) (Or.inl ⟨_, _, _, _, hD.1, rfl⟩) (s_numberOf hD hG (κ := 1) (by decide) (wo_lt (hD.2.2.1 i (by omega)).1 3)) (fun v h' q => ?_)
  obtain ⟨rfl, rfl⟩ := q
  rw [n3, oI_s]
  refine ex_iconst (v := (nI 1)) (by decide) dX2_apply_110 ?_
  refine ex_iaddN dX2_apply_111 ?_
  refine ex_invv (k := 0) (n := 0) (mc' := 0) (ms' := 0) (As := [_, _, _, _]) dX2_apply_112 cv_X2_77 (by decide) (Nat.le_of_ble_eq_true rfl) (Or.inl ⟨_, _, _, _, hP.1, rfl⟩) (s_setProduct hP (s := s) (t := t) (c := c) (by omega) (by omega) (by omega) (x := u + 1) (by omega)) (fun v h' q => ?_)
  obtain ⟨rfl, hP1, hF1⟩ := q
  refine ex_goto (tgt := 174) (by decide) dX2_apply_115 ?_
  refine ex_vret dX2_apply_174 rfl ⟨rfl, _, hP1, hcp.make hk hi hr n0 n1 n2 n3 (by omega) (by omega), hF1⟩
set_option maxHeartbeats 4000000 in
set_option maxRecDepth 100000 in
theorem a_5 {G : EG} {l : Launch} {h : EH} {a n : Nat} {S : Nat → Stm} (hD : DR G h a n S) {b : Nat} {p : Pol} (hP : PL G h b p) (hab : a + 83 < b ∨ b + 5 < a) (hG : eInj G) {i : Nat} (hi : i < n) (hN : NW dSelf S n) (hsh : ∀ i, i < n → shp (S i)) (hcp : CP dSelf S n i p) (hk : kd (S i) = 5) : Ex G l 4 mX2_apply (fun v h' => v = none ∧ ∃ p', PL G h' b p' ∧ CP dSelf S n (i + 1) p' ∧ Fr (atP b) h h') eNoX 0 0 118 [(0, .ref a), (1, .ref (a + 2 + 2 * i)), (2, .ref b)] [] h := by
  have hn := hD.2.2.2
  have h8 := cnt8 hN n (Nat.le_refl _)
  have hpT := hcp.1.1
  have hpC := hcp.1.2.1
  obtain ⟨hr, ⟨t, n0, ht⟩⟩ := nw5 hN hi hk
  have hmk := (hsh i hi).2.2.1 hk
  refine ex_aload_n rfl dX2_apply_118 ?_
  refine ex_aload_n rfl dX2_apply_119 ?_
  refine ex_gets (z := ("PolicyDesk$Kind", "TYPE", "LPolicyDesk$Kind;", .ref (ead G 1))) dX2_apply_120 (eZk (i := 1) (by decide)) gz_X2_40 ?_
  refine ex_aload_n rfl dX2_apply_123 ?_
  refine ex_iconst (v := (nI 0)) (by decide) dX2_apply_124 ?_
  refine ex_invv (k := 0) (n := 0) (mc' := 0) (ms' := 0) (As := [_]) dX2_apply_125 cv_X2_69 (by decide) (Nat.le_of_ble_eq_true rfl) (Or.inl ⟨_, _, _, _, (hD.2.2.1 i (by omega)).1.1, rfl⟩) (s_word (hD.2.2.1 i (by omega)).1 (k := 0) (by decide)) (fun v h' q => ?_)
  obtain ⟨rfl, rfl⟩ := q
  refine ex_invv (k := 0) (n := 0) (mc' := 0) (ms' := 0) (As := [_, _]) dX2_apply_128 cv_X2_73 (by decide) (Nat.le_of_ble_eq_true rfl) (Or.inl ⟨_, _, _, _, hD.1, rfl⟩) (s_numberOf hD hG (κ := 1) (by decide) (wo_lt (hD.2.2.1 i (by omega)).1 0)) (fun v h' q => ?_)
  obtain ⟨rfl, rfl⟩ := q
  rw [n0, oI_s]
  refine ex_aload_n rfl dX2_apply_131 ?_
  refine ex_invv (k := 0) (n := 0) (mc' := 0) (ms' := 0) (As := []) dX2_apply_132 cv_X2_81 (by decide) (Nat.le_of_ble_eq_true rfl) (Or.inl ⟨_, _, _, _, (hD.2.2.1 i (by omega)).1.1, rfl⟩) (s_mark (hD.2.2.1 i (by omega)).1) (fun v h' q => ?_)
  obtain ⟨rfl, rfl⟩ := q
  refine ex_invv (k := 0) (n := 0) (mc' := 0) (ms' := 0) (As := [_, _]) dX2_apply_135 cv_X2_84 (by decide) (Nat.le_of_ble_eq_true rfl) (Or.inl ⟨_, _, _, _, hP.1, rfl⟩) (s_setRank hP (t := t) (x := mk (S i)) (by omega) (by omega)) (fun v h' q => ?_)
  obtain ⟨rfl, hP1, hF1⟩ := q
  refine ex_goto (tgt := 174) (by decide) dX2_apply_138 ?_
  refine ex_vret dX2_apply_174 rfl ⟨rfl, _, hP1, hcp.rank hk hr n0, hF1⟩
set_option maxHeartbeats 4000000 in
set_option maxRecDepth 100000 in
theorem a_6 {G : EG} {l : Launch} {h : EH} {a n : Nat} {S : Nat → Stm} (hD : DR G h a n S) {b : Nat} {p : Pol} (hP : PL G h b p) (hab : a + 83 < b ∨ b + 5 < a) (hG : eInj G) {i : Nat} (hi : i < n) (hN : NW dSelf S n) (hsh : ∀ i, i < n → shp (S i)) (hcp : CP dSelf S n i p) (hk : kd (S i) = 6) : Ex G l 4 mX2_apply (fun v h' => v = none ∧ ∃ p', PL G h' b p' ∧ CP dSelf S n (i + 1) p' ∧ Fr (atP b) h h') eNoX 0 0 141 [(0, .ref a), (1, .ref (a + 2 + 2 * i)), (2, .ref b)] [] h := by
  have hn := hD.2.2.2
  have h8 := cnt8 hN n (Nat.le_refl _)
  have hpT := hcp.1.1
  have hpC := hcp.1.2.1
  obtain ⟨c, n0, hc⟩ := nw6 hN hi (by omega) (by omega) (hsh i hi)
  have hmk := (hsh i hi).2.2.2
  refine ex_aload_n rfl dX2_apply_141 ?_
  refine ex_aload_n rfl dX2_apply_142 ?_
  refine ex_aload_n rfl dX2_apply_143 ?_
  refine ex_aload_n rfl dX2_apply_144 ?_
  refine ex_invv (k := 0) (n := 0) (mc' := 0) (ms' := 0) (As := []) dX2_apply_145 cv_X2_81 (by decide) (Nat.le_of_ble_eq_true rfl) (Or.inl ⟨_, _, _, _, (hD.2.2.1 i (by omega)).1.1, rfl⟩) (s_mark (hD.2.2.1 i (by omega)).1) (fun v h' q => ?_)
  obtain ⟨rfl, rfl⟩ := q
  refine ex_invs (k := 0) (n := 0) (mc' := 0) (ms' := 0) (As := [_, _, _, _]) dX2_apply_148 cs_X2_88 (by decide) (Nat.le_of_ble_eq_true rfl) (s_widen hD hP hab hG hi (w := mk (S i)) n0 (by omega) (by omega)) (fun v h' q => ?_)
  obtain ⟨rfl, x, hx, hP1, hF1⟩ := q
  refine ex_goto (tgt := 174) (by decide) dX2_apply_151 ?_
  refine ex_vret dX2_apply_174 rfl ⟨rfl, _, hP1, hcp.wid (Or.inl ⟨hk, rfl⟩) (by omega) n0 hx, hF1⟩
set_option maxHeartbeats 4000000 in
set_option maxRecDepth 100000 in
theorem a_7 {G : EG} {l : Launch} {h : EH} {a n : Nat} {S : Nat → Stm} (hD : DR G h a n S) {b : Nat} {p : Pol} (hP : PL G h b p) (hab : a + 83 < b ∨ b + 5 < a) (hG : eInj G) {i : Nat} (hi : i < n) (hN : NW dSelf S n) (hsh : ∀ i, i < n → shp (S i)) (hcp : CP dSelf S n i p) (hk : kd (S i) = 7) : Ex G l 4 mX2_apply (fun v h' => v = none ∧ ∃ p', PL G h' b p' ∧ CP dSelf S n (i + 1) p' ∧ Fr (atP b) h h') eNoX 0 0 154 [(0, .ref a), (1, .ref (a + 2 + 2 * i)), (2, .ref b)] [] h := by
  have hn := hD.2.2.2
  have h8 := cnt8 hN n (Nat.le_refl _)
  have hpT := hcp.1.1
  have hpC := hcp.1.2.1
  obtain ⟨c, n0, hc⟩ := nw6 hN hi (by omega) (by omega) (hsh i hi)
  have hmk := (hsh i hi).2.2.2
  refine ex_aload_n rfl dX2_apply_154 ?_
  refine ex_aload_n rfl dX2_apply_155 ?_
  refine ex_aload_n rfl dX2_apply_156 ?_
  refine ex_iconst (v := (nI 3)) (by decide) dX2_apply_157 ?_
  refine ex_invs (k := 0) (n := 0) (mc' := 0) (ms' := 0) (As := [_, _, _, _]) dX2_apply_158 cs_X2_88 (by decide) (Nat.le_of_ble_eq_true rfl) (s_widen hD hP hab hG hi (w := 3) n0 (by omega) (by omega)) (fun v h' q => ?_)
  obtain ⟨rfl, x, hx, hP1, hF1⟩ := q
  refine ex_goto (tgt := 174) (by decide) dX2_apply_161 ?_
  refine ex_vret dX2_apply_174 rfl ⟨rfl, _, hP1, hcp.wid (Or.inr (Or.inl ⟨hk, rfl⟩)) (by omega) n0 hx, hF1⟩
set_option maxHeartbeats 4000000 in
set_option maxRecDepth 100000 in
theorem a_8 {G : EG} {l : Launch} {h : EH} {a n : Nat} {S : Nat → Stm} (hD : DR G h a n S) {b : Nat} {p : Pol} (hP : PL G h b p) (hab : a + 83 < b ∨ b + 5 < a) (hG : eInj G) {i : Nat} (hi : i < n) (hN : NW dSelf S n) (hsh : ∀ i, i < n → shp (S i)) (hcp : CP dSelf S n i p) (hk : kd (S i) = 8) : Ex G l 4 mX2_apply (fun v h' => v = none ∧ ∃ p', PL G h' b p' ∧ CP dSelf S n (i + 1) p' ∧ Fr (atP b) h h') eNoX 0 0 164 [(0, .ref a), (1, .ref (a + 2 + 2 * i)), (2, .ref b)] [] h := by
  have hn := hD.2.2.2
  have h8 := cnt8 hN n (Nat.le_refl _)
  have hpT := hcp.1.1
  have hpC := hcp.1.2.1
  obtain ⟨c, n0, hc⟩ := nw6 hN hi (by omega) (by omega) (hsh i hi)
  have hmk := (hsh i hi).2.2.2
  refine ex_aload_n rfl dX2_apply_164 ?_
  refine ex_aload_n rfl dX2_apply_165 ?_
  refine ex_aload_n rfl dX2_apply_166 ?_
  refine ex_iconst (v := (nI 4)) (by decide) dX2_apply_167 ?_
  refine ex_invs (k := 0) (n := 0) (mc' := 0) (ms' := 0) (As := [_, _, _, _]) dX2_apply_168 cs_X2_88 (by decide) (Nat.le_of_ble_eq_true rfl) (s_widen hD hP hab hG hi (w := 4) n0 (by omega) (by omega)) (fun v h' q => ?_)
  obtain ⟨rfl, x, hx, hP1, hF1⟩ := q
  refine ex_goto (tgt := 174) (by decide) dX2_apply_171 ?_
  refine ex_vret dX2_apply_174 rfl ⟨rfl, _, hP1, hcp.wid (Or.inr (Or.inr ⟨hk, rfl⟩)) (by omega) n0 hx, hF1⟩
set_option maxHeartbeats 4000000 in
set_option maxRecDepth 100000 in
theorem s_apply {G : EG} {l : Launch} {h : EH} {a n : Nat} {S : Nat → Stm} (hD : DR G h a n S) {b : Nat} {p : Pol} (hP : PL G h b p) (hab : a + 83 < b ∨ b + 5 < a) (hG : eInj G) {i : Nat} (hi : i < n) (hN : NW dSelf S n) (hsh : ∀ i, i < n → shp (S i)) (hcp : CP dSelf S n i p) : ES G l 4 mX2_apply [.ref a, .ref (a + 2 + 2 * i), .ref b] h 0 0 (fun v h' => v = none ∧ ∃ p', PL G h' b p' ∧ CP dSelf S n (i + 1) p' ∧ Fr (atP b) h h') eNoX := by
  have hn := hD.2.2.2
  refine es_of (by decide) rfl (Nat.le_of_ble_eq_true rfl) ?_
  refine ex_gets (z := ("PolicyDesk$1", "$SwitchMap$PolicyDesk$Kind", "[I", .ref (ead G 10))) dX2_apply_0 (eZo 1 rfl) gz_X2_57 ?_
  refine ex_aload_n rfl dX2_apply_3 ?_
  refine ex_invv (k := 0) (n := 0) (mc' := 0) (ms' := 0) (As := []) dX2_apply_4 cv_X2_34 (by decide) (Nat.le_of_ble_eq_true rfl) (Or.inl ⟨_, _, _, _, (hD.2.2.1 i (by omega)).1.1, rfl⟩) (s_kind (hD.2.2.1 i (by omega)).1) (fun v h' q => ?_)
  obtain ⟨rfl, rfl⟩ := q
  refine ex_invU (x := yKord) (N := mJx29ce0_ordinal_8abf5) dX2_apply_7 kol2 kos kox koi rfl caJx29ce0_ordinal_8abf5 (by decide) (Nat.le_of_ble_eq_true rfl) (Or.inr (eOk (hD.2.2.1 i (by omega)).2)) (s_ordinal _ (hD.2.2.1 i (by omega)).2) (fun v h' q => ?_)
  obtain ⟨rfl, rfl⟩ := q
  refine ex_taldN dX2_apply_10 eTsw (hD.2.2.1 i (by omega)).2 (by decide) ?_
  have hk9 := (hD.2.2.1 i (by omega)).2
  rcases (show kd (S i) = 0 ∨ kd (S i) = 1 ∨ kd (S i) = 2 ∨ kd (S i) = 3 ∨ kd (S i) = 4 ∨ kd (S i) = 5 ∨ kd (S i) = 6 ∨ kd (S i) = 7 ∨ kd (S i) = 8 by omega) with e | e | e | e | e | e | e | e | e
  · rw [e]
    exact ex_tblO (tgt := 174) dX2_apply_11 (by decide) (by decide) (ex_vret dX2_apply_174 rfl ⟨rfl, p, hP, hcp.skip (by omega), Fr.rf⟩)
  · rw [e]
    exact ex_tblO (tgt := 174) dX2_apply_11 (by decide) (by decide) (ex_vret dX2_apply_174 rfl ⟨rfl, p, hP, hcp.skip (by omega), Fr.rf⟩)
  · rw [e]
    exact ex_tblI (tgt := 52) dX2_apply_11 (by decide) (by decide) (off := 41) (by decide) (by decide) (a_2 hD hP hab hG hi hN hsh hcp e)
  · rw [e]
    exact ex_tblI (tgt := 174) dX2_apply_11 (by decide) (by decide) (off := 163) (by decide) (by decide) (ex_vret dX2_apply_174 rfl ⟨rfl, p, hP, hcp.skip (by omega), Fr.rf⟩)
  · rw [e]
    exact ex_tblI (tgt := 61) dX2_apply_11 (by decide) (by decide) (off := 50) (by decide) (by decide) (a_4 hD hP hab hG hi hN hsh hcp e)
  · rw [e]
    exact ex_tblI (tgt := 118) dX2_apply_11 (by decide) (by decide) (off := 107) (by decide) (by decide) (a_5 hD hP hab hG hi hN hsh hcp e)
  · rw [e]
    exact ex_tblI (tgt := 141) dX2_apply_11 (by decide) (by decide) (off := 130) (by decide) (by decide) (a_6 hD hP hab hG hi hN hsh hcp e)
  · rw [e]
    exact ex_tblI (tgt := 154) dX2_apply_11 (by decide) (by decide) (off := 143) (by decide) (by decide) (a_7 hD hP hab hG hi hN hsh hcp e)
  · rw [e]
    exact ex_tblI (tgt := 164) dX2_apply_11 (by decide) (by decide) (off := 153) (by decide) (by decide) (a_8 hD hP hab hG hi hN hsh hcp e)
def DC (S : Nat → Stm) (k : Nat) (p : Pol) : Prop := (pT p = cntk S 1 k ∧ pC p = cntk S 0 k ∧ ∀ i, i < k → kd (S i) = 0 → pPm p (cntk S 0 i) = sz (S i) - 1) ∧ (∀ j, j < 8 → pRk p j = 0) ∧ (∀ j, j < 192 → pAl p j = 0) ∧ (∀ j, j < 192 → pPr p j = 0) ∧ ∀ j, j < 15 → pMs p j = 0
theorem DC.z (S : Nat → Stm) (p : Pol) : DC S 0 (pClr p) := ⟨⟨rfl, rfl, fun i hi => by omega⟩, fun j hj => if_pos hj, fun j hj => if_pos hj, fun j hj => if_pos hj, fun j hj => if_pos hj⟩
theorem DC.st {S : Nat → Stm} {k : Nat} {p : Pol} (h : DC S k p) : DC S (k + 1) (if kd (S k) = 1 then (pT p + 1, pC p, pPm p, pRk p, pAl p, pPr p, pMs p) else if kd (S k) = 0 then (pT p, pC p + 1, va_up (pPm p) (pC p) (sz (S k) - 1), pRk p, pAl p, pPr p, pMs p) else p) := by
  obtain ⟨⟨h1, h2, h3⟩, h4⟩ := h
  by_cases k1 : kd (S k) = 1
  · rw [if_pos k1]
    refine ⟨⟨by rw [cntk_y k1, ← h1], by rw [cntk_n (by omega), ← h2]; rfl, fun i hi hk => ?_⟩, h4⟩
    rcases Nat.lt_or_ge i k with w | w
    · exact h3 i w hk
    · rw [show i = k by omega] at hk; omega
  · rw [if_neg k1]
    by_cases k0 : kd (S k) = 0
    · rw [if_pos k0]
      refine ⟨⟨by rw [cntk_n k1, ← h1]; rfl, by rw [cntk_y k0, ← h2], fun i hi hk => ?_⟩, h4⟩
      show va_up (pPm p) (pC p) (sz (S k) - 1) (cntk S 0 i) = _
      unfold va_up
      rcases Nat.lt_or_ge i k with w | w
      · rw [if_neg (by rw [h2]; have := cntk_lt w hk; omega)]
        exact h3 i w hk
      · rw [show i = k by omega, if_pos h2.symm]
    · rw [if_neg k0]
      refine ⟨⟨by rw [cntk_n k1, ← h1]; rfl, by rw [cntk_n k0, ← h2]; rfl, fun i hi hk => ?_⟩, h4⟩
      rcases Nat.lt_or_ge i k with w | w
      · exact h3 i w hk
      · rw [show i = k by omega] at hk; omega
theorem acc.z {R : Nat → Nat → Nat → Prop} {D : Nat → Prop} {f : Nat → Nat} (h : ∀ j, D j → f j = 0) : acc R D 0 f := fun j hj => by rw [h j hj]; exact isB.z.c fun b => ⟨fun z => z.elim, fun ⟨i, i1, _⟩ => by omega⟩
theorem asg.z {R : Nat → Nat → Prop} {v : Nat → Nat} {D : Nat → Prop} {f : Nat → Nat} (h : ∀ j, D j → f j = 0) : asg R v D 0 f := fun j hj => ⟨fun _ => h j hj, fun i hi => by omega⟩
theorem inD_lt {self : Nat} {S : Nat → Stm} {n j : Nat} (hN : NW self S n) (h : inD S n j) : j < 192 := by have := h.2.2; have := cnt3 hN n (Nat.le_refl _); unfold cC at *; omega
theorem DC.cp {self : Nat} {S : Nat → Stm} {n : Nat} {p : Pol} (hN : NW self S n) (h : DC S n p) : CP self S n 0 p :=
  ⟨h.1, asg.z h.2.1, acc.z fun j hj => h.2.2.1 j (inD_lt hN hj), asg.z fun j hj => h.2.2.2.1 j (inD_lt hN hj), acc.z fun j hj => h.2.2.2.2 j (by have := cnt3 hN n (Nat.le_refl _); omega)⟩
set_option maxHeartbeats 4000000 in
set_option maxRecDepth 100000 in
theorem l_compose2 {G : EG} {l : Launch} {h0 : EH} {a n : Nat} {S : Nat → Stm} {b : Nat} (hab : a + 83 < b ∨ b + 5 < a) (hG : eInj G) (hN : NW dSelf S n) (hsh : ∀ i, i < n → shp (S i)) : ∀ (f k : Nat), n - k < f → k ≤ n → ∀ (h : EH) (p : Pol), DR G h a n S → PL G h b p → Fr (atP b) h0 h → CP dSelf S n k p → Ex G l 5 mX2_compose (fun v h' => v = none ∧ ∃ p', PL G h' b p' ∧ CP dSelf S n n p' ∧ Fr (atP b) h0 h') eNoX 0 0 31 [(0, .ref a), (1, .ref b), (2, .int (nI k))] [] h := by
  intro f
  induction f with
  | zero =>
    intro k h1 h2 h p hD hP hF hcp
    omega
  | succ f ih =>
    intro k h1 h2 h p hD hP hF hcp
    have hn := hD.2.2.2
    refine ex_iload_n rfl dX2_compose_31 ?_
    refine ex_aload_n rfl dX2_compose_32 ?_
    refine ex_invv (k := 0) (n := 0) (mc' := 0) (ms' := 0) (As := []) dX2_compose_33 cv_X2_14 (by decide) (Nat.le_of_ble_eq_true rfl) (Or.inl ⟨_, _, _, _, hD.1, rfl⟩) (s_dsize hD) (fun v h' q => ?_)
    obtain ⟨rfl, rfl⟩ := q
    refine ex_icmpN_ge (tgt := 55) (by decide) dX2_compose_36 (by omega) (by omega) (fun c1 => ?_) (fun c1 => ?_)
    · refine ex_vret dX2_compose_55 rfl ⟨rfl, p, hP, by rw [show k = n by omega] at hcp; exact hcp, hF⟩
    · refine ex_aload_n rfl dX2_compose_39 ?_
      refine ex_aload_n rfl dX2_compose_40 ?_
      refine ex_iload_n rfl dX2_compose_41 ?_
      refine ex_invv (k := 0) (n := 0) (mc' := 0) (ms' := 0) (As := [_]) dX2_compose_42 cv_X2_20 (by decide) (Nat.le_of_ble_eq_true rfl) (Or.inl ⟨_, _, _, _, hD.1, rfl⟩) (s_row hD (i := k) (by omega)) (fun v h' q => ?_)
      obtain ⟨rfl, rfl⟩ := q
      refine ex_aload_n rfl dX2_compose_45 ?_
      refine ex_invs (k := 0) (n := 0) (mc' := 0) (ms' := 0) (As := [_, _, _]) dX2_compose_46 cs_X2_30 (by decide) (Nat.le_of_ble_eq_true rfl) (s_apply hD hP hab hG (i := k) (by omega) hN hsh hcp) (fun v h' q => ?_)
      obtain ⟨rfl, p', hP1, hc1, hF1⟩ := q
      refine ex_iincN (z := 1) rfl (by decide) rfl dX2_compose_49 ?_
      refine ex_goto (tgt := 31) (by decide) dX2_compose_52 ?_
      exact ih (k + 1) (by omega) (by omega) _ _ (hD.fr hF1 (sepDP hab)) hP1 (hF.tr hF1) hc1
set_option maxHeartbeats 4000000 in
set_option maxRecDepth 100000 in
theorem l_compose1 {G : EG} {l : Launch} {h0 : EH} {a n : Nat} {S : Nat → Stm} {b : Nat} (hab : a + 83 < b ∨ b + 5 < a) (hG : eInj G) (hN : NW dSelf S n) (hsh : ∀ i, i < n → shp (S i)) : ∀ (f k : Nat), n - k < f → k ≤ n → ∀ (h : EH) (p : Pol), DR G h a n S → PL G h b p → Fr (atP b) h0 h → DC S k p → Ex G l 5 mX2_compose (fun v h' => v = none ∧ ∃ p', PL G h' b p' ∧ CP dSelf S n n p' ∧ Fr (atP b) h0 h') eNoX 0 0 6 [(0, .ref a), (1, .ref b), (2, .int (nI k))] [] h := by
  intro f
  induction f with
  | zero =>
    intro k h1 h2 h p hD hP hF hdc
    omega
  | succ f ih =>
    intro k h1 h2 h p hD hP hF hdc
    have hn := hD.2.2.2
    refine ex_iload_n rfl dX2_compose_6 ?_
    refine ex_aload_n rfl dX2_compose_7 ?_
    refine ex_invv (k := 0) (n := 0) (mc' := 0) (ms' := 0) (As := []) dX2_compose_8 cv_X2_14 (by decide) (Nat.le_of_ble_eq_true rfl) (Or.inl ⟨_, _, _, _, hD.1, rfl⟩) (s_dsize hD) (fun v h' q => ?_)
    obtain ⟨rfl, rfl⟩ := q
    refine ex_icmpN_ge (tgt := 29) (by decide) dX2_compose_11 (by omega) (by omega) (fun c1 => ?_) (fun c1 => ?_)
    · refine ex_iconst (v := (nI 0)) (by decide) dX2_compose_29 ?_
      refine ex_istore_n (by decide) rfl dX2_compose_30 ?_
      exact ex_lv [(0, .ref a), (1, .ref b), (2, .int (nI 0))] ⟨rfl, rfl, rfl, trivial⟩ (l_compose2 hab hG hN hsh (n + 1) 0 (by omega) (by omega) _ _ hD hP hF (DC.cp hN (by rw [show k = n by omega] at hdc; exact hdc)))
    · refine ex_aload_n rfl dX2_compose_14 ?_
      refine ex_iload_n rfl dX2_compose_15 ?_
      refine ex_invv (k := 0) (n := 0) (mc' := 0) (ms' := 0) (As := [_]) dX2_compose_16 cv_X2_20 (by decide) (Nat.le_of_ble_eq_true rfl) (Or.inl ⟨_, _, _, _, hD.1, rfl⟩) (s_row hD (i := k) (by omega)) (fun v h' q => ?_)
      obtain ⟨rfl, rfl⟩ := q
      refine ex_aload_n rfl dX2_compose_19 ?_
      refine ex_invs (k := 0) (n := 0) (mc' := 0) (ms' := 0) (As := [_, _]) dX2_compose_20 cs_X2_24 (by decide) (Nat.le_of_ble_eq_true rfl) (s_declare hD hP hab hG (i := k) (by omega) (fun z => by have := cntk_lt (n := n) (by omega) z; have := cnt8 hN n (Nat.le_refl _); rw [hdc.1.1]; omega) (fun z => ⟨by have := cntk_lt (n := n) (by omega) z; have := cnt3 hN n (Nat.le_refl _); rw [hdc.1.2.1]; omega, by have := (hsh k (by omega)).1; rw [z] at this; exact Nat.le_trans (by decide) this⟩)) (fun v h' q => ?_)
      obtain ⟨rfl, hP1, hF1⟩ := q
      refine ex_iincN (z := 1) rfl (by decide) rfl dX2_compose_23 ?_
      refine ex_goto (tgt := 6) (by decide) dX2_compose_26 ?_
      exact ih (k + 1) (by omega) (by omega) _ _ (hD.fr hF1 (sepDP hab)) hP1 (hF.tr hF1) hdc.st
set_option maxHeartbeats 4000000 in
set_option maxRecDepth 100000 in
theorem s_compose {G : EG} {l : Launch} {h : EH} {a n : Nat} {S : Nat → Stm} (hD : DR G h a n S) {b : Nat} {p : Pol} (hP : PL G h b p) (hab : a + 83 < b ∨ b + 5 < a) (hG : eInj G) (hN : NW dSelf S n) (hsh : ∀ i, i < n → shp (S i)) : ES G l 5 mX2_compose [.ref a, .ref b] h 0 0 (fun v h' => v = none ∧ ∃ p', PL G h' b p' ∧ CP dSelf S n n p' ∧ Fr (atP b) h h') eNoX := by
  refine es_of (by decide) rfl (Nat.le_of_ble_eq_true rfl) ?_
  refine ex_aload_n rfl dX2_compose_0 ?_
  refine ex_invv (k := 0) (n := 0) (mc' := 0) (ms' := 0) (As := []) dX2_compose_1 cv_X2_9 (by decide) (Nat.le_of_ble_eq_true rfl) (Or.inl ⟨_, _, _, _, hP.1, rfl⟩) (s_pclear hP) (fun v h' q => ?_)
  obtain ⟨rfl, hP1, hF1⟩ := q
  refine ex_iconst (v := (nI 0)) (by decide) dX2_compose_4 ?_
  refine ex_istore_n (by decide) rfl dX2_compose_5 ?_
  exact l_compose1 hab hG hN hsh (n + 1) 0 (by omega) (by omega) _ _ (hD.fr hF1 (sepDP hab)) hP1 hF1 (DC.z S p)
