/-! STATEMENT: kind, size, mark, words (PolicyDesk$Statement) -/
/-- the first of the r places from j on that holds x -/
def fnd (ws : Nat → Nat) (x j : Nat) : Nat → Option Nat
  | 0 => none
  | r + 1 => if ws j = x then some j else fnd ws x (j + 1) r
theorem fnd_some {ws : Nat → Nat} {x k : Nat} : ∀ {r j : Nat}, fnd ws x j r = some k → j ≤ k ∧ k < j + r ∧ ws k = x ∧ ∀ i, j ≤ i → i < k → ws i ≠ x := by
  intro r
  induction r with
  | zero => intro j h; cases h
  | succ r ih =>
    intro j h
    unfold fnd at h
    by_cases hx : ws j = x
    · rw [if_pos hx] at h
      cases h
      exact ⟨Nat.le_refl _, by omega, hx, fun i h1 h2 => by omega⟩
    · rw [if_neg hx] at h
      obtain ⟨h1, h2, h3, h4⟩ := ih h
      refine ⟨by omega, by omega, h3, fun i i1 i2 => ?_⟩
      rcases Nat.eq_or_lt_of_le i1 with q | q
      · rw [← q]; exact hx
      · exact h4 i q i2
theorem fnd_none {ws : Nat → Nat} {x : Nat} : ∀ {r j : Nat}, fnd ws x j r = none → ∀ i, j ≤ i → i < j + r → ws i ≠ x := by
  intro r
  induction r with
  | zero => intro j _ i h1 h2; omega
  | succ r ih =>
    intro j h i h1 h2
    unfold fnd at h
    by_cases hx : ws j = x
    · rw [if_pos hx] at h; cases h
    · rw [if_neg hx] at h
      rcases Nat.eq_or_lt_of_le h1 with q | q
      · rw [← q]; exact hx
      · exact ih h i q (by omega)
theorem fnd_hit {ws : Nat → Nat} {x j r : Nat} (h : ws j = x) (hr : 0 < r) : fnd ws x j r = some j := by
  obtain ⟨r, rfl⟩ : ∃ q, r = q + 1 := ⟨r - 1, by omega⟩
  exact if_pos h
theorem fnd_step {ws : Nat → Nat} {x j r r' : Nat} (h : ws j ≠ x) (hr : r = r' + 1) : fnd ws x j r = fnd ws x (j + 1) r' := by
  subst hr
  exact if_neg h
theorem fnd_ex {ws : Nat → Nat} {x j r i : Nat} (h1 : j ≤ i) (h2 : i < j + r) (h : ws i = x) : ∃ k, fnd ws x j r = some k := by
  cases hq : fnd ws x j r with
  | none => exact absurd h (fnd_none hq i h1 h2)
  | some k => exact ⟨k, rfl⟩
abbrev Stm : Type := Nat × Nat × Nat × (Nat → Nat)
abbrev kd (s : Stm) : Nat := s.1
abbrev sz (s : Stm) : Nat := s.2.1
abbrev mk (s : Stm) : Nat := s.2.2.1
abbrev wd (s : Stm) : Nat → Nat := s.2.2.2
def ST (G : EG) (h : EH) (a b : Nat) (s : Stm) : Prop := h.2 a = some (.inr (5, [.ref b, .ref (ead G (kd s)), .int (nI (sz s)), .int (nI (mk s))])) ∧ h.2 b = some (.inl (eA G 0, 9, .inl (fun j => nI (wd s j)))) ∧ (sz s ≤ 9 ∧ ∀ j, wd s j < 2 ^ 30) ∧ a ≠ b
abbrev atS (a b : Nat) : Nat → Prop := fun q => q = a ∨ q = b
theorem ST.fr {G : EG} {h h' : EH} {a b : Nat} {s : Stm} {P : Nat → Prop} (x : ST G h a b s) (w : Fr P h h') (ha : ¬ P a) (hb : ¬ P b) : ST G h' a b s := ⟨w.get ha x.1, w.get hb x.2.1, x.2.2⟩
/-- a word of a statement, 0 behind the last -/
def wo (s : Stm) (k : Nat) : Nat := if k < sz s then wd s k else 0
theorem wo_lt {G : EG} {h : EH} {a b : Nat} {s : Stm} (x : ST G h a b s) (k : Nat) : wo s k < 2 ^ 30 := by
  unfold wo
  split
  · exact x.2.2.1.2 k
  · omega
/-- the constants of the enum are apart -/
def eInj (G : EG) : Prop := ∀ i j, i < 9 → j < 9 → ead G i = ead G j → i = j
set_option maxHeartbeats 4000000 in
set_option maxRecDepth 100000 in
theorem s_size {G : EG} {l : Launch} {h : EH} {a b : Nat} {s : Stm} (hS : ST G h a b s) : ES G l 0 mX9_size [.ref a] h 0 0 (fun v h' => v = some (.int (nI (sz s))) ∧ h' = h) eNoX := by
  refine es_of (by decide) rfl (Nat.le_of_ble_eq_true rfl) ?_
  refine ex_aload_n rfl dX9_size_0 ?_
  refine ex_get dX9_size_1 gf_X9_24 hS.1 rfl ?_
  refine ex_iret dX9_size_4 rfl ⟨rfl, rfl⟩
set_option maxHeartbeats 4000000 in
set_option maxRecDepth 100000 in
theorem s_mark {G : EG} {l : Launch} {h : EH} {a b : Nat} {s : Stm} (hS : ST G h a b s) : ES G l 0 mX9_mark [.ref a] h 0 0 (fun v h' => v = some (.int (nI (mk s))) ∧ h' = h) eNoX := by
  refine es_of (by decide) rfl (Nat.le_of_ble_eq_true rfl) ?_
  refine ex_aload_n rfl dX9_mark_0 ?_
  refine ex_get dX9_mark_1 gf_X9_28 hS.1 rfl ?_
  refine ex_iret dX9_mark_4 rfl ⟨rfl, rfl⟩
set_option maxHeartbeats 4000000 in
set_option maxRecDepth 100000 in
theorem s_kind {G : EG} {l : Launch} {h : EH} {a b : Nat} {s : Stm} (hS : ST G h a b s) : ES G l 0 mX9_kind [.ref a] h 0 0 (fun v h' => v = some (.ref (ead G (kd s))) ∧ h' = h) eNoX := by
  refine es_of (by decide) rfl (Nat.le_of_ble_eq_true rfl) ?_
  refine ex_aload_n rfl dX9_kind_0 ?_
  refine ex_get dX9_kind_1 gf_X9_21 hS.1 rfl ?_
  refine ex_aret dX9_kind_4 rfl ⟨rfl, rfl⟩
set_option maxHeartbeats 4000000 in
set_option maxRecDepth 100000 in
theorem s_word {G : EG} {l : Launch} {h : EH} {a b : Nat} {s : Stm} (hS : ST G h a b s) {k : Nat} (hk : k < 2 ^ 31) : ES G l 0 mX9_word [.ref a, .int (nI k)] h 0 0 (fun v h' => v = some (.int (nI (wo s k))) ∧ h' = h) eNoX := by
  have hn := hS.2.2.1.1
  have hw := hS.2.2.1.2
  have hab := hS.2.2.2
  refine es_of (by decide) rfl (Nat.le_of_ble_eq_true rfl) ?_
  refine ex_iload_n rfl dX9_word_0 ?_
  refine ex_ifN_lt (tgt := 21) (by decide) dX9_word_1 (by omega) (fun c1 => ?_) (fun c1 => ?_)
  · exact c1.elim
  · refine ex_iload_n rfl dX9_word_4 ?_
    refine ex_aload_n rfl dX9_word_5 ?_
    refine ex_get dX9_word_6 gf_X9_24 hS.1 rfl ?_
    refine ex_icmpN_ge (tgt := 21) (by decide) dX9_word_9 (by omega) (by omega) (fun c2 => ?_) (fun c2 => ?_)
    · refine ex_iconst (v := (nI 0)) (by decide) dX9_word_21 ?_
      refine ex_iret dX9_word_22 rfl ⟨by rw [wo, if_neg (by omega)], rfl⟩
    · refine ex_aload_n rfl dX9_word_12 ?_
      refine ex_get dX9_word_13 gf_X9_9 hS.1 rfl ?_
      refine ex_iload_n rfl dX9_word_16 ?_
      refine ex_ialdN dX9_word_17 hS.2.1 (by omega) (by decide) ?_
      refine ex_goto (tgt := 22) (by decide) dX9_word_18 ?_
      refine ex_iret dX9_word_22 rfl ⟨by rw [wo, if_pos c2], rfl⟩
set_option maxHeartbeats 4000000 in
set_option maxRecDepth 100000 in
theorem s_setMark {G : EG} {l : Launch} {h : EH} {a b : Nat} {s : Stm} (hS : ST G h a b s) (m : Nat) : ES G l 0 mX9_setMark [.ref a, .int (nI m)] h 0 0 (fun v h' => v = none ∧ ST G h' a b (kd s, sz s, m, wd s) ∧ Fr (atS a b) h h') eNoX := by
  have hn := hS.2.2.1.1
  have hw := hS.2.2.1.2
  have hab := hS.2.2.2
  refine es_of (by decide) rfl (Nat.le_of_ble_eq_true rfl) ?_
  refine ex_aload_n rfl dX9_setMark_0 ?_
  refine ex_iload_n rfl dX9_setMark_1 ?_
  refine ex_put dX9_setMark_2 pf_X9_28 hS.1 (Nat.le_of_ble_eq_true rfl) rfl rfl ?_
  refine ex_vret dX9_setMark_5 rfl ⟨rfl, ⟨hup_eq, hup_ne hab.symm hS.2.1, hS.2.2⟩, Fr.rf.up (Or.inl rfl)⟩
set_option maxHeartbeats 4000000 in
set_option maxRecDepth 100000 in
theorem s_begin {G : EG} {l : Launch} {h : EH} {a b : Nat} {s : Stm} (hS : ST G h a b s) (k : Nat) : ES G l 0 mX9_begin [.ref a, .ref (ead G k)] h 0 0 (fun v h' => v = none ∧ ST G h' a b (k, 0, 0, wd s) ∧ Fr (atS a b) h h') eNoX := by
  have hn := hS.2.2.1.1
  have hw := hS.2.2.1.2
  have hab := hS.2.2.2
  refine es_of (by decide) rfl (Nat.le_of_ble_eq_true rfl) ?_
  refine ex_aload_n rfl dX9_begin_0 ?_
  refine ex_aload_n rfl dX9_begin_1 ?_
  refine ex_put dX9_begin_2 pf_X9_21 hS.1 (Nat.le_of_ble_eq_true rfl) rfl rfl ?_
  refine ex_aload_n rfl dX9_begin_5 ?_
  refine ex_iconst (v := (nI 0)) (by decide) dX9_begin_6 ?_
  refine ex_put dX9_begin_7 pf_X9_24 hup_eq (Nat.le_of_ble_eq_true rfl) rfl rfl ?_
  refine ex_aload_n rfl dX9_begin_10 ?_
  refine ex_iconst (v := (nI 0)) (by decide) dX9_begin_11 ?_
  refine ex_put dX9_begin_12 pf_X9_28 hup_eq (Nat.le_of_ble_eq_true rfl) rfl rfl ?_
  refine ex_vret dX9_begin_15 rfl ⟨rfl, ⟨hup_eq, hup_ne hab.symm (hup_ne hab.symm (hup_ne hab.symm hS.2.1)), ⟨Nat.zero_le _, hw⟩, hab⟩, ((Fr.rf.up (Or.inl rfl)).up (Or.inl rfl)).up (Or.inl rfl)⟩
set_option maxHeartbeats 4000000 in
set_option maxRecDepth 100000 in
theorem s_push {G : EG} {l : Launch} {h : EH} {a b : Nat} {s : Stm} (hS : ST G h a b s) {x : Nat} (hx : x < 2 ^ 30) (hr : sz s < 9) : ES G l 0 mX9_push [.ref a, .int (nI x)] h 0 0 (fun v h' => v = none ∧ ST G h' a b (kd s, sz s + 1, mk s, va_up (wd s) (sz s) x) ∧ Fr (atS a b) h h') eNoX := by
  have hn := hS.2.2.1.1
  have hw := hS.2.2.1.2
  have hab := hS.2.2.2
  refine es_of (by decide) rfl (Nat.le_of_ble_eq_true rfl) ?_
  refine ex_aload_n rfl dX9_push_0 ?_
  refine ex_get dX9_push_1 gf_X9_24 hS.1 rfl ?_
  refine ex_aload_n rfl dX9_push_4 ?_
  refine ex_get dX9_push_5 gf_X9_9 hS.1 rfl ?_
  refine ex_alen dX9_push_8 hS.2.1 rfl (v := nI 9) rfl ?_
  refine ex_icmpN_ge (tgt := 32) (by decide) dX9_push_9 (by omega) (by omega) (fun c1 => ?_) (fun c1 => ?_)
  · exact absurd hr (by omega)
  · refine ex_aload_n rfl dX9_push_12 ?_
    refine ex_get dX9_push_13 gf_X9_9 hS.1 rfl ?_
    refine ex_aload_n rfl dX9_push_16 ?_
    refine ex_get dX9_push_17 gf_X9_24 hS.1 rfl ?_
    refine ex_iload_n rfl dX9_push_20 ?_
    refine ex_iastN dX9_push_21 hS.2.1 (by omega) (by decide) ?_
    refine ex_aload_n rfl dX9_push_22 ?_
    refine ex_dup rfl dX9_push_23 ?_
    refine ex_get dX9_push_24 gf_X9_24 (hup_ne hab hS.1) rfl ?_
    refine ex_iconst (v := (nI 1)) (by decide) dX9_push_27 ?_
    refine ex_iaddN dX9_push_28 ?_
    refine ex_put dX9_push_29 pf_X9_24 (hup_ne hab hS.1) (Nat.le_of_ble_eq_true rfl) rfl rfl ?_
    refine ex_vret dX9_push_32 rfl ⟨rfl, ⟨hup_eq, hup_ne hab.symm (by rw [← upd_nI]; exact hup_eq), ⟨by show sz s + 1 ≤ 9; omega, fun j => by show va_up (wd s) (sz s) x j < _; unfold va_up; split; exact hx; exact hw j⟩, hab⟩, (Fr.rf.up (Or.inr rfl)).up (Or.inl rfl)⟩
set_option maxHeartbeats 4000000 in
set_option maxRecDepth 100000 in
theorem l_find {G : EG} {l : Launch} {h : EH} {a b : Nat} {s : Stm} (hS : ST G h a b s) {x fr : Nat} (hx : x < 2 ^ 31) : ∀ (f k : Nat), sz s - k < f → k < 2 ^ 31 → fnd (wd s) x fr (sz s - fr) = fnd (wd s) x k (sz s - k) → Ex G l 1 mX9_find (fun v h' => v = some (.int (oI (fnd (wd s) x fr (sz s - fr)))) ∧ h' = h) eNoX 0 0 2 [(0, .ref a), (1, .int (nI x)), (2, .int (nI fr)), (3, .int (nI k))] [] h := by
  intro f
  induction f with
  | zero =>
    intro k h1 h2 he
    omega
  | succ f ih =>
    intro k h1 h2 he
    have hn := hS.2.2.1.1
    have hw := hS.2.2.1.2
    have hab := hS.2.2.2
    have hwk := wo_lt hS k
    refine ex_iload_n rfl dX9_find_2 ?_
    refine ex_aload_n rfl dX9_find_3 ?_
    refine ex_get dX9_find_4 gf_X9_24 hS.1 rfl ?_
    refine ex_icmpN_ge (tgt := 27) (by decide) dX9_find_7 (by omega) (by omega) (fun c1 => ?_) (fun c1 => ?_)
    · refine ex_iconst (v := (-1)) (by decide) dX9_find_27 ?_
      refine ex_iret dX9_find_28 rfl ⟨by rw [he, show sz s - k = 0 by omega]; rfl, rfl⟩
    · refine ex_aload_n rfl dX9_find_10 ?_
      refine ex_iload_n rfl dX9_find_11 ?_
      refine ex_invv (k := 0) (n := 0) (mc' := 0) (ms' := 0) (As := [_]) dX9_find_12 cv_X9_31 (by decide) (Nat.le_of_ble_eq_true rfl) (Or.inl ⟨_, _, _, _, hS.1, rfl⟩) (s_word hS (k := k) (by omega)) (fun v h' q => ?_)
      obtain ⟨rfl, rfl⟩ := q
      refine ex_iload_n rfl dX9_find_15 ?_
      refine ex_icmpN_ne (tgt := 21) (by decide) dX9_find_16 (by omega) (by omega) (fun c2 => ?_) (fun c2 => ?_)
      · refine ex_iincN (z := 1) rfl (by decide) rfl dX9_find_21 ?_
        refine ex_goto (tgt := 2) (by decide) dX9_find_24 ?_
        exact ih (k + 1) (by omega) (by omega) (he.trans (fnd_step (by rw [wo, if_pos c1] at c2; exact c2) (by omega)))
      · refine ex_iload_n rfl dX9_find_19 ?_
        refine ex_iret dX9_find_20 rfl ⟨by rw [he, fnd_hit (by rw [wo, if_pos c1] at c2; exact c2) (by omega)]; rfl, rfl⟩
set_option maxHeartbeats 4000000 in
set_option maxRecDepth 100000 in
theorem s_find {G : EG} {l : Launch} {h : EH} {a b : Nat} {s : Stm} (hS : ST G h a b s) {x fr : Nat} (hx : x < 2 ^ 31) (hfr : fr < 2 ^ 31) : ES G l 1 mX9_find [.ref a, .int (nI x), .int (nI fr)] h 0 0 (fun v h' => v = some (.int (oI (fnd (wd s) x fr (sz s - fr)))) ∧ h' = h) eNoX := by
  refine es_of (by decide) rfl (Nat.le_of_ble_eq_true rfl) ?_
  refine ex_iload_n rfl dX9_find_0 ?_
  refine ex_istore_n (by decide) rfl dX9_find_1 ?_
  exact l_find hS hx (sz s + 1) fr (by omega) hfr rfl
/-- the words from fr on are all different -/
def alld (s : Stm) (fr : Nat) : Prop := ∀ i j, fr ≤ i → i < j → j < sz s → wd s i ≠ wd s j
theorem fnd_lt {ws : Nat → Nat} {x j r N : Nat} (h : j + r ≤ N) : ∀ k, fnd ws x j r = some k → k < N := fun k hk => by have := (fnd_some hk).2.1; omega
set_option maxHeartbeats 4000000 in
set_option maxRecDepth 100000 in
theorem l_alld {G : EG} {l : Launch} {h : EH} {a b : Nat} {s : Stm} (hS : ST G h a b s) {fr : Nat} (hfr : fr ≤ 9) {B : Bool} (hB : B = true ↔ alld s fr) : ∀ (f k : Nat), sz s - k < f → k < 2 ^ 30 → fr ≤ k → (∀ i j, fr ≤ i → i < j → j < sz s → i < k → wd s i ≠ wd s j) → Ex G l 2 mX9_allDifferFrom (fun v h' => v = some (.int (b2i B)) ∧ h' = h) eNoX 0 0 2 [(0, .ref a), (1, .int (nI fr)), (2, .int (nI k))] [] h := by
  intro f
  induction f with
  | zero =>
    intro k h1 h2 h3 he
    omega
  | succ f ih =>
    intro k h1 h2 h3 he
    have hn := hS.2.2.1.1
    have hw := hS.2.2.1.2
    have hab := hS.2.2.2
    have hwk := wo_lt hS k
    refine ex_iload_n rfl dX9_allDifferFrom_2 ?_
    refine ex_aload_n rfl dX9_allDifferFrom_3 ?_
    refine ex_get dX9_allDifferFrom_4 gf_X9_24 hS.1 rfl ?_
    refine ex_icmpN_ge (tgt := 34) (by decide) dX9_allDifferFrom_7 (by omega) (by omega) (fun c1 => ?_) (fun c1 => ?_)
    · refine ex_iconst (v := (nI 1)) (by decide) dX9_allDifferFrom_34 ?_
      refine ex_zret dX9_allDifferFrom_35 rfl rfl ⟨by rw [hB.mpr (fun i j i1 i2 i3 => he i j i1 i2 i3 (by omega))]; rfl, rfl⟩
    · refine ex_aload_n rfl dX9_allDifferFrom_10 ?_
      refine ex_aload_n rfl dX9_allDifferFrom_11 ?_
      refine ex_iload_n rfl dX9_allDifferFrom_12 ?_
      refine ex_invv (k := 0) (n := 0) (mc' := 0) (ms' := 0) (As := [_]) dX9_allDifferFrom_13 cv_X9_31 (by decide) (Nat.le_of_ble_eq_true rfl) (Or.inl ⟨_, _, _, _, hS.1, rfl⟩) (s_word hS (k := k) (by omega)) (fun v h' q => ?_)
      obtain ⟨rfl, rfl⟩ := q
      refine ex_iload_n rfl dX9_allDifferFrom_16 ?_
      refine ex_iconst (v := (nI 1)) (by decide) dX9_allDifferFrom_17 ?_
      refine ex_iaddN dX9_allDifferFrom_18 ?_
      refine ex_invv (k := 0) (n := 0) (mc' := 0) (ms' := 0) (As := [_, _]) dX9_allDifferFrom_19 cv_X9_35 (by decide) (Nat.le_of_ble_eq_true rfl) (Or.inl ⟨_, _, _, _, hS.1, rfl⟩) (s_find hS (x := wo s k) (fr := k + 1) (by omega) (by omega)) (fun v h' q => ?_)
      obtain ⟨rfl, rfl⟩ := q
      refine ex_iconst (v := (-1)) (by decide) dX9_allDifferFrom_22 ?_
      refine ex_icmpO_eq (tgt := 28) (by decide) dX9_allDifferFrom_23 (fnd_lt (by omega)) (fun c2 => ?_) (fun jc2 c2 => ?_)
      · refine ex_iincN (z := 1) rfl (by decide) rfl dX9_allDifferFrom_28 ?_
        refine ex_goto (tgt := 2) (by decide) dX9_allDifferFrom_31 ?_
        exact ih (k + 1) (by omega) (by omega) (by omega) (fun i j i1 i2 i3 i4 => by rcases Nat.lt_or_ge i k with q | q; exact he i j i1 i2 i3 q; have e : i = k := (by omega); subst e; have h9 := fnd_none c2 j (by omega) (by omega); rw [wo, if_pos c1] at h9; exact fun z => h9 z.symm)
      · refine ex_iconst (v := (nI 0)) (by decide) dX9_allDifferFrom_26 ?_
        refine ex_zret dX9_allDifferFrom_27 rfl rfl ⟨by have h9 := fnd_some c2; rw [wo, if_pos c1] at h9; cases B with | false => rfl | true => exact absurd h9.2.2.1.symm (hB.mp rfl k jc2 h3 (by omega) (by omega)), rfl⟩
set_option maxHeartbeats 4000000 in
set_option maxRecDepth 100000 in
theorem s_alld {G : EG} {l : Launch} {h : EH} {a b : Nat} {s : Stm} (hS : ST G h a b s) {fr : Nat} (hfr : fr ≤ 9) {B : Bool} (hB : B = true ↔ alld s fr) : ES G l 2 mX9_allDifferFrom [.ref a, .int (nI fr)] h 0 0 (fun v h' => v = some (.int (b2i B)) ∧ h' = h) eNoX := by
  refine es_of (by decide) rfl (Nat.le_of_ble_eq_true rfl) ?_
  refine ex_iload_n rfl dX9_allDifferFrom_0 ?_
  refine ex_istore_n (by decide) rfl dX9_allDifferFrom_1 ?_
  exact l_alld hS hfr hB (sz s + 1) fr (by omega) (by omega) (Nat.le_refl _) (fun i j i1 i2 i3 i4 => by omega)
set_option maxHeartbeats 4000000 in
set_option maxRecDepth 100000 in
theorem l_begins {G : EG} {l : Launch} {h : EH} {a b a2 b2 : Nat} {s s2 : Stm} (hS : ST G h a b s) (hS2 : ST G h a2 b2 s2) {m : Nat} (hm : m ≤ 9) {B : Bool} (hB : B = true ↔ kd s = kd s2 ∧ ∀ j, j < m → wo s j = wo s2 j) (hk0 : kd s = kd s2) : ∀ (f k : Nat), m - k < f → k ≤ m → (∀ j, j < k → wo s j = wo s2 j) → Ex G l 1 mX9_beginsAs (fun v h' => v = some (.int (b2i B)) ∧ h' = h) eNoX 0 0 15 [(0, .ref a), (1, .ref a2), (2, .int (nI m)), (3, .int (nI k))] [] h := by
  intro f
  induction f with
  | zero =>
    intro k h1 h2 he
    omega
  | succ f ih =>
    intro k h1 h2 he
    have hwk := wo_lt hS k
    have hwk2 := wo_lt hS2 k
    refine ex_iload_n rfl dX9_beginsAs_15 ?_
    refine ex_iload_n rfl dX9_beginsAs_16 ?_
    refine ex_icmpN_ge (tgt := 41) (by decide) dX9_beginsAs_17 (by omega) (by omega) (fun c1 => ?_) (fun c1 => ?_)
    · refine ex_iconst (v := (nI 1)) (by decide) dX9_beginsAs_41 ?_
      refine ex_zret dX9_beginsAs_42 rfl rfl ⟨by rw [hB.mpr ⟨hk0, fun j hj => he j (by omega)⟩]; rfl, rfl⟩
    · refine ex_aload_n rfl dX9_beginsAs_20 ?_
      refine ex_iload_n rfl dX9_beginsAs_21 ?_
      refine ex_invv (k := 0) (n := 0) (mc' := 0) (ms' := 0) (As := [_]) dX9_beginsAs_22 cv_X9_31 (by decide) (Nat.le_of_ble_eq_true rfl) (Or.inl ⟨_, _, _, _, hS.1, rfl⟩) (s_word hS (k := k) (by omega)) (fun v h' q => ?_)
      obtain ⟨rfl, rfl⟩ := q
      refine ex_aload_n rfl dX9_beginsAs_25 ?_
      refine ex_iload_n rfl dX9_beginsAs_26 ?_
      refine ex_invv (k := 0) (n := 0) (mc' := 0) (ms' := 0) (As := [_]) dX9_beginsAs_27 cv_X9_31 (by decide) (Nat.le_of_ble_eq_true rfl) (Or.inl ⟨_, _, _, _, hS2.1, rfl⟩) (s_word hS2 (k := k) (by omega)) (fun v h' q => ?_)
      obtain ⟨rfl, rfl⟩ := q
      refine ex_icmpN_eq (tgt := 35) (by decide) dX9_beginsAs_30 (by omega) (by omega) (fun c2 => ?_) (fun c2 => ?_)
      · refine ex_iincN (z := 1) rfl (by decide) rfl dX9_beginsAs_35 ?_
        refine ex_goto (tgt := 15) (by decide) dX9_beginsAs_38 ?_
        exact ih (k + 1) (by omega) (by omega) (fun j hj => by rcases Nat.lt_or_ge j k with q | q; exact he j q; rw [show j = k by omega]; exact c2)
      · refine ex_iconst (v := (nI 0)) (by decide) dX9_beginsAs_33 ?_
        refine ex_zret dX9_beginsAs_34 rfl rfl ⟨by cases B with | false => rfl | true => exact absurd ((hB.mp rfl).2 k (by omega)) c2, rfl⟩
set_option maxHeartbeats 4000000 in
set_option maxRecDepth 100000 in
theorem s_begins {G : EG} {l : Launch} {h : EH} {a b a2 b2 : Nat} {s s2 : Stm} (hS : ST G h a b s) (hS2 : ST G h a2 b2 s2) (hG : eInj G) (hk1 : kd s < 9) (hk2 : kd s2 < 9) {m : Nat} (hm : m ≤ 9) {B : Bool} (hB : B = true ↔ kd s = kd s2 ∧ ∀ j, j < m → wo s j = wo s2 j) : ES G l 1 mX9_beginsAs [.ref a, .ref a2, .int (nI m)] h 0 0 (fun v h' => v = some (.int (b2i B)) ∧ h' = h) eNoX := by
  refine es_of (by decide) rfl (Nat.le_of_ble_eq_true rfl) ?_
  refine ex_aload_n rfl dX9_beginsAs_0 ?_
  refine ex_get dX9_beginsAs_1 gf_X9_21 hS.1 rfl ?_
  refine ex_aload_n rfl dX9_beginsAs_4 ?_
  refine ex_get dX9_beginsAs_5 gf_X9_21 hS2.1 rfl ?_
  refine ex_acmp_eq (tgt := 13) (by decide) dX9_beginsAs_8 (fun c1 => ?_) (fun c1 => ?_)
  · refine ex_iconst (v := (nI 0)) (by decide) dX9_beginsAs_13 ?_
    refine ex_istore_n (by decide) rfl dX9_beginsAs_14 ?_
    exact l_begins hS hS2 hm hB (hG _ _ hk1 hk2 c1) (m + 1) 0 (by omega) (by omega) (fun j hj => by omega)
  · refine ex_iconst (v := (nI 0)) (by decide) dX9_beginsAs_11 ?_
    refine ex_zret dX9_beginsAs_12 rfl rfl ⟨by cases B with | false => rfl | true => exact absurd (congrArg (ead G) (hB.mp rfl).1) c1, rfl⟩
