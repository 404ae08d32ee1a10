/-! POLICY, third part: sets of types -/
/-- of row s, class c the types t < k of the set m get x more -/
def addA (al : Nat → Nat) (s c m x k : Nat) : Nat → Nat := fun j => if j / 8 = c * 8 + s ∧ j % 8 < k ∧ m.testBit (j % 8) = true then al j ||| x else al j
theorem addA_0 (al : Nat → Nat) (s c m x : Nat) : addA al s c m x 0 = al := funext fun j => if_neg (by omega)
theorem addA_no {al : Nat → Nat} {s c m x k : Nat} (hm : m.testBit k = false) : addA al s c m x (k + 1) = addA al s c m x k := by
  funext j
  unfold addA
  by_cases h : j / 8 = c * 8 + s ∧ j % 8 < k ∧ m.testBit (j % 8) = true
  · rw [if_pos h, if_pos ⟨h.1, by omega, h.2.2⟩]
  · rw [if_neg h, if_neg (fun q => h ⟨q.1, by rcases Nat.lt_or_ge (j % 8) k with z | z; exact z; exact absurd q.2.2 (by rw [show j % 8 = k by omega, hm]; decide), q.2.2⟩)]
theorem addA_yes {al : Nat → Nat} {s c m x k : Nat} (hk : k < 8) (hm : m.testBit k = true) : va_up (addA al s c m x k) (cel s k c) (addA al s c m x k (cel s k c) ||| x) = addA al s c m x (k + 1) := by
  have e0 : addA al s c m x k (cel s k c) = al (cel s k c) := if_neg (by unfold cel; omega)
  funext j
  unfold va_up
  by_cases hj : j = cel s k c
  · rw [if_pos hj, e0, hj]
    unfold addA
    rw [if_pos ⟨by unfold cel; omega, by unfold cel; omega, by rw [show cel s k c % 8 = k by unfold cel; omega]; exact hm⟩]
  · rw [if_neg hj]
    unfold addA
    by_cases h : j / 8 = c * 8 + s ∧ j % 8 < k ∧ m.testBit (j % 8) = true
    · rw [if_pos h, if_pos ⟨h.1, by omega, h.2.2⟩]
    · rw [if_neg h, if_neg (fun q => h ⟨q.1, by rcases Nat.lt_or_ge (j % 8) k with z | z; exact z; exact absurd (show j = cel s k c by unfold cel; omega) hj, q.2.2⟩)]
theorem addA_lt {al : Nat → Nat} {s c m x k j : Nat} (h : al j < 2 ^ 30) (hx : x < 2 ^ 30) : addA al s c m x k j < 2 ^ 30 := by
  unfold addA
  split
  · exact or_lt h hx
  · exact h
def pAdd (p : Pol) (s c m x k : Nat) : Pol := (pT p, pC p, pPm p, pRk p, addA (pAl p) s c m x k, pPr p, pMs p)
set_option maxHeartbeats 4000000 in
set_option maxRecDepth 100000 in
theorem l_addAllowed {G : EG} {l : Launch} {h0 : EH} {a : Nat} {p : Pol} (hb : pB p) {s c m x : Nat} (hs : s < pT p) (hc : c < pC p) (hm : m < 2 ^ 30) (hx : x < 2 ^ 30) : ∀ (f k : Nat), pT p - k < f → k ≤ pT p → ∀ h : EH, PL G h a (pAdd p s c m x k) → Fr (atP a) h0 h → Ex G l 1 mX7_addAllowed (fun v h' => v = none ∧ PL G h' a (pAdd p s c m x (pT p)) ∧ Fr (atP a) h0 h') eNoX 0 0 3 [(0, .ref a), (1, .int (nI s)), (2, .int (nI m)), (3, .int (nI c)), (4, .int (nI x)), (5, .int (nI k))] [] h := by
  intro f
  induction f with
  | zero =>
    intro k h1 h2 h hQ hF
    omega
  | succ f ih =>
    intro k h1 h2 h hQ hF
    obtain ⟨bT, bC, bb⟩ := id hb
    have bT2 : pT (pAdd p s c m x k) = pT p := rfl
    have bC2 : pC (pAdd p s c m x k) = pC p := rfl
    refine ex_iload rfl dX7_addAllowed_3 ?_
    refine ex_aload_n rfl dX7_addAllowed_5 ?_
    refine ex_get dX7_addAllowed_6 gf_X7_27 hQ.1 rfl ?_
    refine ex_icmpN_ge (tgt := 55) (by decide) dX7_addAllowed_9 (by omega) (by omega) (fun c1 => ?_) (fun c1 => ?_)
    · refine ex_vret dX7_addAllowed_55 rfl ⟨rfl, by rw [show k = pT p by omega] at hQ; exact hQ, hF⟩
    · refine ex_iload_n rfl dX7_addAllowed_12 ?_
      refine ex_iload rfl dX7_addAllowed_13 ?_
      refine ex_invsN (k := 0) (n := 0) (mc' := 0) (ms' := 0) (As := [_, _]) dX7_addAllowed_15 cs_X7_52 (by decide) (Nat.le_of_ble_eq_true rfl) (s_hasBit _ (m := m) (b := k) (by omega) (by omega)) (fun v h' q => ?_)
      obtain ⟨rfl, rfl⟩ := q
      refine ex_ifB_eq (tgt := 49) (by decide) dX7_addAllowed_18 (fun c2 => ?_) (fun c2 => ?_)
      · refine ex_iincN (z := 1) rfl (by decide) rfl dX7_addAllowed_49 ?_
        refine ex_goto (tgt := 3) (by decide) dX7_addAllowed_52 ?_
        exact ih (k + 1) (by omega) (by omega) _ (by rw [pAdd, addA_no c2]; exact hQ) hF
      · refine ex_aload_n rfl dX7_addAllowed_21 ?_
        refine ex_iload_n rfl dX7_addAllowed_22 ?_
        refine ex_iload rfl dX7_addAllowed_23 ?_
        refine ex_iload_n rfl dX7_addAllowed_25 ?_
        refine ex_invv (k := 0) (n := 0) (mc' := 0) (ms' := 0) (As := [_, _, _]) dX7_addAllowed_26 cv_X7_44 (by decide) (Nat.le_of_ble_eq_true rfl) (Or.inl ⟨_, _, _, _, hQ.1, rfl⟩) (s_has hQ (nI s) (nI k) (nI c) (B := true) ⟨fun _ => ⟨(inR_nI (by omega) (by omega)).mpr (by omega), (inR_nI (by omega) (by omega)).mpr (by omega), (inR_nI (by omega) (by omega)).mpr (by omega)⟩, fun _ => rfl⟩) (fun v h' q => ?_)
        obtain ⟨rfl, rfl⟩ := q
        refine ex_ifB_eq (tgt := 49) (by decide) dX7_addAllowed_29 (fun c3 => ?_) (fun c3 => ?_)
        · refine ex_iincN (z := 1) rfl (by decide) rfl dX7_addAllowed_49 ?_
          refine ex_goto (tgt := 3) (by decide) dX7_addAllowed_52 ?_
          cases c3
        · refine ex_aload_n rfl dX7_addAllowed_32 ?_
          refine ex_get dX7_addAllowed_33 gf_X7_18 hQ.1 rfl ?_
          refine ex_iload_n rfl dX7_addAllowed_36 ?_
          refine ex_iload rfl dX7_addAllowed_37 ?_
          refine ex_iload_n rfl dX7_addAllowed_39 ?_
          refine ex_invsN (k := 0) (n := 0) (mc' := 0) (ms' := 0) (As := [_, _, _]) dX7_addAllowed_40 cs_X7_48 (by decide) (Nat.le_of_ble_eq_true rfl) (s_cellOf _ s k c) (fun v h' q => ?_)
          obtain ⟨rfl, rfl⟩ := q
          refine ex_dup2 rfl rfl dX7_addAllowed_43 ?_
          refine ex_ialdN dX7_addAllowed_44 hQ.2.2.2.1 (by omega) (by decide) ?_
          refine ex_iload rfl dX7_addAllowed_45 ?_
          refine ex_ior dX7_addAllowed_47 ?_
          rw [nx_or]
          refine ex_iastN dX7_addAllowed_48 hQ.2.2.2.1 (by omega) (by decide) ?_
          refine ex_iincN (z := 1) rfl (by decide) rfl dX7_addAllowed_49 ?_
          refine ex_goto (tgt := 3) (by decide) dX7_addAllowed_52 ?_
          exact ih (k + 1) (by omega) (by omega) _ ⟨hup_ne (pn0 3 (by decide)) hQ.1, hup_ne (pn 1 3 (by decide)) hQ.2.1, hup_ne (pn 2 3 (by decide)) hQ.2.2.1, (hup_aI (f := addA (pAl p) s c m x k)).trans (congrArg (fun g => some (aI G 192 g)) (addA_yes (al := pAl p) (s := s) (c := c) (x := x) (show k < 8 by omega) c2)), hup_ne (pn 4 3 (by decide)) hQ.2.2.2.2.1, hup_ne (pn 5 3 (by decide)) hQ.2.2.2.2.2.1, ⟨bT, bC, fun j => ⟨(bb j).1, (bb j).2.1, addA_lt (bb j).2.2.1 hx, (bb j).2.2.2⟩⟩⟩ (hF.up (pin 3 (by decide)))
set_option maxHeartbeats 4000000 in
set_option maxRecDepth 100000 in
theorem s_addAllowed {G : EG} {l : Launch} {h : EH} {a : Nat} {p : Pol} (hP : PL G h a p) {s c m x : Nat} (hs : s < pT p) (hc : c < pC p) (hm : m < 2 ^ 30) (hx : x < 2 ^ 30) : ES G l 1 mX7_addAllowed [.ref a, .int (nI s), .int (nI m), .int (nI c), .int (nI x)] h 0 0 (fun v h' => v = none ∧ PL G h' a (pAdd p s c m x (pT p)) ∧ Fr (atP a) h h') eNoX := by
  refine es_of (by decide) rfl (Nat.le_of_ble_eq_true rfl) ?_
  refine ex_iconst (v := (nI 0)) (by decide) dX7_addAllowed_0 ?_
  refine ex_istore (by decide) rfl dX7_addAllowed_1 ?_
  exact l_addAllowed hP.2.2.2.2.2.2 hs hc hm hx (pT p + 1) 0 (by omega) (by omega) h (by rw [pAdd, addA_0]; exact hP) Fr.rf
set_option maxHeartbeats 4000000 in
set_option maxRecDepth 100000 in
theorem l_allowsSome {G : EG} {l : Launch} {h : EH} {a : Nat} {p : Pol} (hP : PL G h a p) {s c m x : Nat} (hs : s < pT p) (hc : c < pC p) (hm : m < 2 ^ 30) (hx : x < 2 ^ 30) {B : Bool} (hB : B = true ↔ ∃ t, t < pT p ∧ m.testBit t = true ∧ pAl p (cel s t c) &&& x ≠ 0) : ∀ (f k : Nat), pT p - k < f → k ≤ pT p → (∀ t, t < k → m.testBit t = true → pAl p (cel s t c) &&& x = 0) → Ex G l 2 mX7_allowsSome (fun v h' => v = some (.int (b2i B)) ∧ h' = h) eNoX 0 0 3 [(0, .ref a), (1, .int (nI s)), (2, .int (nI m)), (3, .int (nI c)), (4, .int (nI x)), (5, .int (nI k))] [] h := by
  intro f
  induction f with
  | zero =>
    intro k h1 h2 he
    omega
  | succ f ih =>
    intro k h1 h2 he
    obtain ⟨bT, bC, bb⟩ := hP.2.2.2.2.2.2
    have hbb : ∀ j, pAl p j &&& x < 2 ^ 31 := fun j => Nat.lt_trans (and_lt (bb j).2.2.1) (by decide)
    refine ex_iload rfl dX7_allowsSome_3 ?_
    refine ex_aload_n rfl dX7_allowsSome_5 ?_
    refine ex_get dX7_allowsSome_6 gf_X7_27 hP.1 rfl ?_
    refine ex_icmpN_ge (tgt := 43) (by decide) dX7_allowsSome_9 (by omega) (by omega) (fun c1 => ?_) (fun c1 => ?_)
    · refine ex_iconst (v := (nI 0)) (by decide) dX7_allowsSome_43 ?_
      refine ex_zret dX7_allowsSome_44 rfl rfl ⟨by cases B with | false => rfl | true => (obtain ⟨t, d1, d2, d3⟩ := hB.mp rfl; exact absurd (he t (by omega) d2) d3), rfl⟩
    · refine ex_iload_n rfl dX7_allowsSome_12 ?_
      refine ex_iload rfl dX7_allowsSome_13 ?_
      refine ex_invsN (k := 0) (n := 0) (mc' := 0) (ms' := 0) (As := [_, _]) dX7_allowsSome_15 cs_X7_52 (by decide) (Nat.le_of_ble_eq_true rfl) (s_hasBit _ (m := m) (b := k) (by omega) (by omega)) (fun v h' q => ?_)
      obtain ⟨rfl, rfl⟩ := q
      refine ex_ifB_eq (tgt := 37) (by decide) dX7_allowsSome_18 (fun c2 => ?_) (fun c2 => ?_)
      · refine ex_iincN (z := 1) rfl (by decide) rfl dX7_allowsSome_37 ?_
        refine ex_goto (tgt := 3) (by decide) dX7_allowsSome_40 ?_
        exact ih (k + 1) (by omega) (by omega) (fun t ht h9 => by rcases Nat.lt_or_ge t k with q | q; exact he t q h9; rw [show t = k by omega, c2] at h9; cases h9)
      · refine ex_aload_n rfl dX7_allowsSome_21 ?_
        refine ex_iload_n rfl dX7_allowsSome_22 ?_
        refine ex_iload rfl dX7_allowsSome_23 ?_
        refine ex_iload_n rfl dX7_allowsSome_25 ?_
        refine ex_invv (k := 0) (n := 0) (mc' := 0) (ms' := 0) (As := [_, _, _]) dX7_allowsSome_26 cv_X7_56 (by decide) (Nat.le_of_ble_eq_true rfl) (Or.inl ⟨_, _, _, _, hP.1, rfl⟩) (s_allowedAt hP (s := s) (t := k) (c := c) (by omega) (by omega) (by omega)) (fun v h' q => ?_)
        obtain ⟨rfl, rfl⟩ := q
        refine ex_iload rfl dX7_allowsSome_29 ?_
        refine ex_iand dX7_allowsSome_31 ?_
        rw [nx_and]
        refine ex_ifN_eq (tgt := 37) (by decide) dX7_allowsSome_32 (hbb _) (fun c3 => ?_) (fun c3 => ?_)
        · refine ex_iincN (z := 1) rfl (by decide) rfl dX7_allowsSome_37 ?_
          refine ex_goto (tgt := 3) (by decide) dX7_allowsSome_40 ?_
          exact ih (k + 1) (by omega) (by omega) (fun t ht h9 => by rcases Nat.lt_or_ge t k with q | q; exact he t q h9; rw [show t = k by omega]; exact c3)
        · refine ex_iconst (v := (nI 1)) (by decide) dX7_allowsSome_35 ?_
          refine ex_zret dX7_allowsSome_36 rfl rfl ⟨by rw [hB.mpr ⟨k, by omega, c2, c3⟩]; rfl, rfl⟩
set_option maxHeartbeats 4000000 in
set_option maxRecDepth 100000 in
theorem s_allowsSome {G : EG} {l : Launch} {h : EH} {a : Nat} {p : Pol} (hP : PL G h a p) {s c m x : Nat} (hs : s < pT p) (hc : c < pC p) (hm : m < 2 ^ 30) (hx : x < 2 ^ 30) {B : Bool} (hB : B = true ↔ ∃ t, t < pT p ∧ m.testBit t = true ∧ pAl p (cel s t c) &&& x ≠ 0) : ES G l 2 mX7_allowsSome [.ref a, .int (nI s), .int (nI m), .int (nI c), .int (nI x)] h 0 0 (fun v h' => v = some (.int (b2i B)) ∧ h' = h) eNoX := by
  refine es_of (by decide) rfl (Nat.le_of_ble_eq_true rfl) ?_
  refine ex_iconst (v := (nI 0)) (by decide) dX7_allowsSome_0 ?_
  refine ex_istore (by decide) rfl dX7_allowsSome_1 ?_
  exact l_allowsSome hP hs hc hm hx hB (pT p + 1) 0 (by omega) (by omega) (fun t ht => by omega)
/-- the types of a set and those reached from it in one step by the first i types, and by type i in the first j -/
def sprd (p : Pol) (r i j t : Nat) : Prop := r.testBit t = true ∨ ∃ f, r.testBit f = true ∧ flw p f t ∧ (f < i ∨ (f = i ∧ t < j))
def isS (p : Pol) (r i j w : Nat) : Prop := w < 2 ^ 8 ∧ ∀ t, t < pT p → (w.testBit t = true ↔ sprd p r i j t)
def spr (p : Pol) (r : Nat) (t : Nat) : Prop := r.testBit t = true ∨ ∃ f, f < pT p ∧ r.testBit f = true ∧ flw p f t
theorem tb_or (w k t : Nat) : (w ||| 2 ^ k).testBit t = (w.testBit t || decide (k = t)) := by rw [Nat.testBit_or, Nat.testBit_two_pow]
theorem isS.no {p : Pol} {r i j w : Nat} (h : isS p r i j w) (hn : r.testBit i = false ∨ w.testBit j = true ∨ ¬ flw p i j) (hj : j < pT p) : isS p r i (j + 1) w := by
  refine ⟨h.1, fun t ht => (h.2 t ht).trans ?_⟩
  unfold sprd
  constructor
  · rintro (q | ⟨f, f1, f2, f3⟩)
    · exact Or.inl q
    · exact Or.inr ⟨f, f1, f2, by omega⟩
  · rintro (q | ⟨f, f1, f2, f3⟩)
    · exact Or.inl q
    · by_cases hc : f < i ∨ (f = i ∧ t < j)
      · exact Or.inr ⟨f, f1, f2, hc⟩
      · have e1 : f = i := by omega
        have e2 : t = j := by omega
        subst e1; subst e2
        rcases hn with hn | hn | hn
        · rw [hn] at f1; cases f1
        · exact (h.2 _ hj).mp hn
        · exact absurd f2 hn
theorem isS.yes {p : Pol} {r i j w : Nat} (h : isS p r i j w) (h1 : r.testBit i = true) (h2 : flw p i j) (hj : j < 8) : isS p r i (j + 1) (w ||| 2 ^ j) := by
  refine ⟨or_lt h.1 (Nat.pow_lt_pow_right (by decide) hj), fun t ht => ?_⟩
  rw [tb_or, Bool.or_eq_true, decide_eq_true_iff, h.2 t ht]
  unfold sprd
  constructor
  · rintro ((q | ⟨f, f1, f2, f3⟩) | q)
    · exact Or.inl q
    · exact Or.inr ⟨f, f1, f2, by omega⟩
    · subst q; exact Or.inr ⟨i, h1, h2, by omega⟩
  · rintro (q | ⟨f, f1, f2, f3⟩)
    · exact Or.inl (Or.inl q)
    · by_cases hc : f < i ∨ (f = i ∧ t < j)
      · exact Or.inl (Or.inr ⟨f, f1, f2, hc⟩)
      · exact Or.inr (by omega)
theorem isS.next {p : Pol} {r i w : Nat} (h : isS p r i (pT p) w) : isS p r (i + 1) 0 w := by
  refine ⟨h.1, fun t ht => (h.2 t ht).trans ?_⟩
  unfold sprd
  constructor
  · rintro (q | ⟨f, f1, f2, f3⟩)
    · exact Or.inl q
    · exact Or.inr ⟨f, f1, f2, by omega⟩
  · rintro (q | ⟨f, f1, f2, f3⟩)
    · exact Or.inl q
    · exact Or.inr ⟨f, f1, f2, by omega⟩
theorem isS.done {p : Pol} {r w : Nat} (h : isS p r (pT p) 0 w) : w < 2 ^ 8 ∧ ∀ t, t < pT p → (w.testBit t = true ↔ spr p r t) := by
  refine ⟨h.1, fun t ht => (h.2 t ht).trans ?_⟩
  unfold sprd spr
  constructor
  · rintro (q | ⟨f, f1, f2, f3⟩)
    · exact Or.inl q
    · exact Or.inr ⟨f, by omega, f1, f2⟩
  · rintro (q | ⟨f, f1, f2, f3⟩)
    · exact Or.inl q
    · exact Or.inr ⟨f, f2, f3, by omega⟩
theorem isS.start (p : Pol) {r : Nat} (hr : r < 2 ^ 8) : isS p r 0 0 r := ⟨hr, fun t _ => ⟨Or.inl, fun h => h.elim id (fun ⟨f, _, _, h3⟩ => by omega)⟩⟩
set_option maxHeartbeats 4000000 in
set_option maxRecDepth 100000 in
theorem l_spread2 {G : EG} {l : Launch} {h : EH} {a : Nat} {p : Pol} (hP : PL G h a p) {r g i : Nat} (hr : r < 2 ^ 8) (hi : i < pT p) (hg : pT p - i < g + 1) (ho : ∀ w, isS p r (i + 1) 0 w → ∀ x4 : Value, Ex G l 4 mX7_spread (fun v h' => ∃ w, v = some (.int (nI w)) ∧ h' = h ∧ w < 2 ^ 8 ∧ ∀ t, t < pT p → (w.testBit t = true ↔ spr p r t)) eNoX 0 0 4 [(0, .ref a), (1, .int (nI r)), (2, .int (nI w)), (3, .int (nI (i + 1))), (4, x4)] [] h) : ∀ (f k : Nat), pT p - k < f → k ≤ pT p → ∀ w, isS p r i k w → Ex G l 4 mX7_spread (fun v h' => ∃ w, v = some (.int (nI w)) ∧ h' = h ∧ w < 2 ^ 8 ∧ ∀ t, t < pT p → (w.testBit t = true ↔ spr p r t)) eNoX 0 0 15 [(0, .ref a), (1, .int (nI r)), (2, .int (nI w)), (3, .int (nI i)), (4, .int (nI k))] [] h := by
  intro f
  induction f with
  | zero =>
    intro k h1 h2 w hw
    omega
  | succ f ih =>
    intro k h1 h2 w hw
    obtain ⟨bT, bC, bb⟩ := hP.2.2.2.2.2.2
    have hw1 := hw.1
    refine ex_iload rfl dX7_spread_15 ?_
    refine ex_aload_n rfl dX7_spread_17 ?_
    refine ex_get dX7_spread_18 gf_X7_27 hP.1 rfl ?_
    refine ex_icmpN_ge (tgt := 64) (by decide) dX7_spread_21 (by omega) (by omega) (fun c1 => ?_) (fun c1 => ?_)
    · refine ex_iincN (z := 1) rfl (by decide) rfl dX7_spread_64 ?_
      refine ex_goto (tgt := 4) (by decide) dX7_spread_67 ?_
      exact ho w (by rw [show k = pT p by omega] at hw; exact hw.next) _
    · refine ex_iload_n rfl dX7_spread_24 ?_
      refine ex_iload_n rfl dX7_spread_25 ?_
      refine ex_invsN (k := 0) (n := 0) (mc' := 0) (ms' := 0) (As := [_, _]) dX7_spread_26 cs_X7_52 (by decide) (Nat.le_of_ble_eq_true rfl) (s_hasBit _ (m := r) (b := i) (by omega) (by omega)) (fun v h' q => ?_)
      obtain ⟨rfl, rfl⟩ := q
      refine ex_ifB_eq (tgt := 58) (by decide) dX7_spread_29 (fun c2 => ?_) (fun c2 => ?_)
      · refine ex_iincN (z := 1) rfl (by decide) rfl dX7_spread_58 ?_
        refine ex_goto (tgt := 15) (by decide) dX7_spread_61 ?_
        exact ih (k + 1) (by omega) (by omega) w (hw.no (Or.inl c2) (by omega))
      · refine ex_iload_n rfl dX7_spread_32 ?_
        refine ex_iload rfl dX7_spread_33 ?_
        refine ex_invsN (k := 0) (n := 0) (mc' := 0) (ms' := 0) (As := [_, _]) dX7_spread_35 cs_X7_52 (by decide) (Nat.le_of_ble_eq_true rfl) (s_hasBit _ (m := w) (b := k) (by omega) (by omega)) (fun v h' q => ?_)
        obtain ⟨rfl, rfl⟩ := q
        refine ex_ifB_ne (tgt := 58) (by decide) dX7_spread_38 (fun c3 => ?_) (fun c3 => ?_)
        · refine ex_iincN (z := 1) rfl (by decide) rfl dX7_spread_58 ?_
          refine ex_goto (tgt := 15) (by decide) dX7_spread_61 ?_
          exact ih (k + 1) (by omega) (by omega) w (hw.no (Or.inr (Or.inl c3)) (by omega))
        · refine ex_aload_n rfl dX7_spread_41 ?_
          refine ex_iload_n rfl dX7_spread_42 ?_
          refine ex_iload rfl dX7_spread_43 ?_
          refine ex_invv (k := 0) (n := 0) (mc' := 0) (ms' := 0) (As := [_, _]) dX7_spread_45 cv_X7_73 (by decide) (Nat.le_of_ble_eq_true rfl) (Or.inl ⟨_, _, _, _, hP.1, rfl⟩) (s_flows hP (u := i) (w := k) (by omega) (by omega) (B := @decide _ (Classical.propDecidable (flw p i k))) (by simp)) (fun v h' q => ?_)
          obtain ⟨rfl, rfl⟩ := q
          refine ex_ifB_eq (tgt := 58) (by decide) dX7_spread_48 (fun c4 => ?_) (fun c4 => ?_)
          · refine ex_iincN (z := 1) rfl (by decide) rfl dX7_spread_58 ?_
            refine ex_goto (tgt := 15) (by decide) dX7_spread_61 ?_
            exact ih (k + 1) (by omega) (by omega) w (hw.no (Or.inr (Or.inr (by simpa using c4))) (by omega))
          · refine ex_iload_n rfl dX7_spread_51 ?_
            refine ex_iconst (v := (nI 1)) (by decide) dX7_spread_52 ?_
            refine ex_iload rfl dX7_spread_53 ?_
            refine ex_ishl dX7_spread_55 ?_
            rw [shl_1 (by omega)]
            refine ex_ior dX7_spread_56 ?_
            rw [nx_or]
            refine ex_istore_n (by decide) rfl dX7_spread_57 ?_
            refine ex_iincN (z := 1) rfl (by decide) rfl dX7_spread_58 ?_
            refine ex_goto (tgt := 15) (by decide) dX7_spread_61 ?_
            exact ih (k + 1) (by omega) (by omega) _ (hw.yes c2 (by simpa using c4) (by omega))
set_option maxHeartbeats 4000000 in
set_option maxRecDepth 100000 in
theorem l_spread1 {G : EG} {l : Launch} {h : EH} {a : Nat} {p : Pol} (hP : PL G h a p) {r : Nat} (hr : r < 2 ^ 8) : ∀ (g i : Nat), pT p - i < g → i ≤ pT p → ∀ w, isS p r i 0 w → ∀ x4 : Value, Ex G l 4 mX7_spread (fun v h' => ∃ w, v = some (.int (nI w)) ∧ h' = h ∧ w < 2 ^ 8 ∧ ∀ t, t < pT p → (w.testBit t = true ↔ spr p r t)) eNoX 0 0 4 [(0, .ref a), (1, .int (nI r)), (2, .int (nI w)), (3, .int (nI i)), (4, x4)] [] h := by
  intro g
  induction g with
  | zero =>
    intro i h1 h2 w hw x4
    omega
  | succ g ih =>
    intro i h1 h2 w hw x4
    obtain ⟨bT, bC, bb⟩ := hP.2.2.2.2.2.2
    refine ex_iload_n rfl dX7_spread_4 ?_
    refine ex_aload_n rfl dX7_spread_5 ?_
    refine ex_get dX7_spread_6 gf_X7_27 hP.1 rfl ?_
    refine ex_icmpN_ge (tgt := 70) (by decide) dX7_spread_9 (by omega) (by omega) (fun c1 => ?_) (fun c1 => ?_)
    · refine ex_iload_n rfl dX7_spread_70 ?_
      refine ex_iret dX7_spread_71 rfl ⟨w, rfl, rfl, by rw [show i = pT p by omega] at hw; exact hw.done⟩
    · refine ex_iconst (v := (nI 0)) (by decide) dX7_spread_12 ?_
      refine ex_istore (by decide) rfl dX7_spread_13 ?_
      exact l_spread2 hP hr c1 h1 (fun w hw x4 => ih (i + 1) (by omega) (by omega) w hw x4) (pT p + 1) 0 (by omega) (by omega) w hw
set_option maxHeartbeats 4000000 in
set_option maxRecDepth 100000 in
theorem s_spread {G : EG} {l : Launch} {h : EH} {a : Nat} {p : Pol} (hP : PL G h a p) {r : Nat} (hr : r < 2 ^ 8) : ES G l 4 mX7_spread [.ref a, .int (nI r)] h 0 0 (fun v h' => ∃ w, v = some (.int (nI w)) ∧ h' = h ∧ w < 2 ^ 8 ∧ ∀ t, t < pT p → (w.testBit t = true ↔ spr p r t)) eNoX := by
  obtain ⟨bT, bC, bb⟩ := hP.2.2.2.2.2.2
  refine es_of (by decide) rfl (Nat.le_of_ble_eq_true rfl) ?_
  refine ex_iload_n rfl dX7_spread_0 ?_
  refine ex_istore_n (by decide) rfl dX7_spread_1 ?_
  refine ex_iconst (v := (nI 0)) (by decide) dX7_spread_2 ?_
  refine ex_istore_n (by decide) rfl dX7_spread_3 ?_
  refine ex_iload_n rfl dX7_spread_4 ?_
  refine ex_aload_n rfl dX7_spread_5 ?_
  refine ex_get dX7_spread_6 gf_X7_27 hP.1 rfl ?_
  refine ex_icmpN_ge (tgt := 70) (by decide) dX7_spread_9 (by omega) (by omega) (fun c1 => ?_) (fun c1 => ?_)
  · refine ex_iload_n rfl dX7_spread_70 ?_
    exact ex_iret dX7_spread_71 rfl ⟨r, rfl, rfl, (show isS p r (pT p) 0 r by rw [show pT p = 0 by omega]; exact isS.start p hr).done⟩
  · refine ex_iconst (v := (nI 0)) (by decide) dX7_spread_12 ?_
    refine ex_istore (by decide) rfl dX7_spread_13 ?_
    exact l_spread2 hP hr c1 (g := pT p) (by omega) (fun w hw x4 => l_spread1 hP hr (pT p + 1) 1 (by omega) (by omega) w hw x4) (pT p + 1) 0 (by omega) (by omega) r (isS.start p hr)
/-- reached from u in k steps -/
def rch (p : Pol) (u : Nat) : Nat → Nat → Prop
  | 0 => fun t => t = u
  | k + 1 => fun t => rch p u k t ∨ ∃ f, f < pT p ∧ rch p u k f ∧ flw p f t
def isR (p : Pol) (u k w : Nat) : Prop := w < 2 ^ 8 ∧ ∀ t, t < pT p → (w.testBit t = true ↔ rch p u k t)
/-- the least number of steps, below the number of types -/
def stp (p : Pol) (u b : Nat) (o : Option Nat) : Prop := (∀ k, o = some k → k < pT p ∧ rch p u k b ∧ ∀ j, j < k → ¬ rch p u j b) ∧ (o = none → ∀ k, k < pT p → ¬ rch p u k b)
theorem isR.step {p : Pol} {u k w w' : Nat} (h : isR p u k w) (h1 : w' < 2 ^ 8) (h2 : ∀ t, t < pT p → (w'.testBit t = true ↔ spr p w t)) : isR p u (k + 1) w' := by
  refine ⟨h1, fun t ht => (h2 t ht).trans ?_⟩
  unfold spr
  show _ ↔ (rch p u k t ∨ ∃ f, f < pT p ∧ rch p u k f ∧ flw p f t)
  constructor
  · rintro (q | ⟨f, f1, f2, f3⟩)
    · exact Or.inl ((h.2 t ht).mp q)
    · exact Or.inr ⟨f, f1, (h.2 f f1).mp f2, f3⟩
  · rintro (q | ⟨f, f1, f2, f3⟩)
    · exact Or.inl ((h.2 t ht).mpr q)
    · exact Or.inr ⟨f, f1, (h.2 f f1).mpr f2, f3⟩
theorem isR.start (p : Pol) {u : Nat} (hu : u < 8) : isR p u 0 (2 ^ u) := by
  refine ⟨Nat.pow_lt_pow_right (by decide) hu, fun t _ => ?_⟩
  rw [Nat.testBit_two_pow, decide_eq_true_iff]
  exact ⟨fun q => q.symm, fun q => q.symm⟩
set_option maxHeartbeats 4000000 in
set_option maxRecDepth 100000 in
theorem l_steps {G : EG} {l : Launch} {h : EH} {a : Nat} {p : Pol} (hP : PL G h a p) {u b : Nat} (hu : u < pT p) (hb : b < pT p) : ∀ (f k : Nat), pT p - k < f → k ≤ pT p → ∀ w, isR p u k w → (∀ j, j < k → ¬ rch p u j b) → Ex G l 5 mX7_stepsBetween (fun v h' => ∃ o, v = some (.int (oI o)) ∧ h' = h ∧ stp p u b o) eNoX 0 0 7 [(0, .ref a), (1, .int (nI u)), (2, .int (nI b)), (3, .int (nI w)), (4, .int (nI k))] [] h := by
  intro f
  induction f with
  | zero =>
    intro k h1 h2 w hw he
    omega
  | succ f ih =>
    intro k h1 h2 w hw he
    obtain ⟨bT, bC, bb⟩ := hP.2.2.2.2.2.2
    have hw1 := hw.1
    refine ex_iload rfl dX7_stepsBetween_7 ?_
    refine ex_aload_n rfl dX7_stepsBetween_9 ?_
    refine ex_get dX7_stepsBetween_10 gf_X7_27 hP.1 rfl ?_
    refine ex_icmpN_ge (tgt := 39) (by decide) dX7_stepsBetween_13 (by omega) (by omega) (fun c1 => ?_) (fun c1 => ?_)
    · refine ex_iconst (v := (-1)) (by decide) dX7_stepsBetween_39 ?_
      refine ex_iret dX7_stepsBetween_40 rfl ⟨none, rfl, rfl, ⟨fun j hj => (by cases hj), fun _ j hj => he j (by omega)⟩⟩
    · refine ex_iload_n rfl dX7_stepsBetween_16 ?_
      refine ex_iload_n rfl dX7_stepsBetween_17 ?_
      refine ex_invsN (k := 0) (n := 0) (mc' := 0) (ms' := 0) (As := [_, _]) dX7_stepsBetween_18 cs_X7_52 (by decide) (Nat.le_of_ble_eq_true rfl) (s_hasBit _ (m := w) (b := b) (by omega) (by omega)) (fun v h' q => ?_)
      obtain ⟨rfl, rfl⟩ := q
      refine ex_ifB_eq (tgt := 27) (by decide) dX7_stepsBetween_21 (fun c2 => ?_) (fun c2 => ?_)
      · refine ex_aload_n rfl dX7_stepsBetween_27 ?_
        refine ex_iload_n rfl dX7_stepsBetween_28 ?_
        refine ex_invv (k := 0) (n := 0) (mc' := 0) (ms' := 0) (As := [_]) dX7_stepsBetween_29 cv_X7_70 (by decide) (Nat.le_of_ble_eq_true rfl) (Or.inl ⟨_, _, _, _, hP.1, rfl⟩) (s_spread hP (r := w) (by omega)) (fun v h' q => ?_)
        obtain ⟨w', rfl, rfl, g1, g2⟩ := q
        refine ex_istore_n (by decide) rfl dX7_stepsBetween_32 ?_
        refine ex_iincN (z := 1) rfl (by decide) rfl dX7_stepsBetween_33 ?_
        refine ex_goto (tgt := 7) (by decide) dX7_stepsBetween_36 ?_
        exact ih (k + 1) (by omega) (by omega) w' (hw.step g1 g2) (fun j hj => by rcases Nat.lt_or_ge j k with q | q; exact he j q; rw [show j = k by omega]; exact fun z => by rw [(hw.2 b hb).mpr z] at c2; cases c2)
      · refine ex_iload rfl dX7_stepsBetween_24 ?_
        refine ex_iret dX7_stepsBetween_26 rfl ⟨some k, rfl, rfl, ⟨fun j hj => (by cases hj; exact ⟨by omega, (hw.2 b hb).mp c2, he⟩), fun z => (by cases z)⟩⟩
set_option maxHeartbeats 4000000 in
set_option maxRecDepth 100000 in
theorem s_steps {G : EG} {l : Launch} {h : EH} {a : Nat} {p : Pol} (hP : PL G h a p) {u b : Nat} (hu : u < pT p) (hb : b < pT p) : ES G l 5 mX7_stepsBetween [.ref a, .int (nI u), .int (nI b)] h 0 0 (fun v h' => ∃ o, v = some (.int (oI o)) ∧ h' = h ∧ stp p u b o) eNoX := by
  obtain ⟨bT, bC, bb⟩ := hP.2.2.2.2.2.2
  refine es_of (by decide) rfl (Nat.le_of_ble_eq_true rfl) ?_
  refine ex_iconst (v := (nI 1)) (by decide) dX7_stepsBetween_0 ?_
  refine ex_iload_n rfl dX7_stepsBetween_1 ?_
  refine ex_ishl dX7_stepsBetween_2 ?_
  rw [shl_1 (by omega)]
  refine ex_istore_n (by decide) rfl dX7_stepsBetween_3 ?_
  refine ex_iconst (v := (nI 0)) (by decide) dX7_stepsBetween_4 ?_
  refine ex_istore (by decide) rfl dX7_stepsBetween_5 ?_
  exact l_steps hP hu hb (pT p + 1) 0 (by omega) (by omega) _ (isR.start p (by omega)) (fun j hj => by omega)
