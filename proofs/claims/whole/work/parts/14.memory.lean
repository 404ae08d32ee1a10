/-! MEMORY: the latest answers, by questions (PolicyDesk$Memory) -/
def lq (L : List (Nat × Nat)) (j : Nat) : Nat := (L.getD j (0, 0)).1
def la (L : List (Nat × Nat)) (j : Nat) : Nat := (L.getD j (0, 0)).2
def MM (G : EG) (h : EH) (a qa aa cap : Nat) (L : List (Nat × Nat)) (hi mi : Nat) : Prop := ∃ qf af : Nat → Nat, h.2 a = some (.inr (2, [.ref qa, .ref aa, .int (nI L.length), .int (nI hi), .int (nI mi)])) ∧ h.2 qa = some (.inl (eA G 0, cap, .inl (fun j => nI (qf j)))) ∧ h.2 aa = some (.inl (eA G 0, cap, .inl (fun j => nI (af j)))) ∧ (∀ j, j < L.length → qf j = lq L j ∧ af j = la L j) ∧ (L.length ≤ cap ∧ 1 ≤ cap ∧ cap ≤ 8 ∧ ∀ j, j < L.length → lq L j < 2 ^ 30) ∧ a ≠ qa ∧ a ≠ aa ∧ qa ≠ aa
abbrev atM (a qa aa : Nat) : Nat → Prop := fun q => q = a ∨ q = qa ∨ q = aa
theorem MM.fr {G : EG} {h h' : EH} {a qa aa cap : Nat} {L : List (Nat × Nat)} {hi mi : Nat} {P : Nat → Prop} (x : MM G h a qa aa cap L hi mi) (w : Fr P h h') (ha : ¬ P a) (hq : ¬ P qa) (hb : ¬ P aa) : MM G h' a qa aa cap L hi mi := by
  obtain ⟨qf, af, x1, x2, x3, x4⟩ := x
  exact ⟨qf, af, w.get ha x1, w.get hq x2, w.get hb x3, x4⟩
def shf (f : Nat → Nat) (w k : Nat) : Nat → Nat := fun j => if w ≤ j ∧ j < k then f (j + 1) else f j
theorem shf_0 (f : Nat → Nat) (w : Nat) : shf f w w = f := funext fun j => if_neg (by omega)
theorem shf_1 (f : Nat → Nat) {w k : Nat} (h : w ≤ k) : va_up (shf f w k) k (shf f w k (k + 1)) = shf f w (k + 1) := by
  funext j
  unfold va_up shf
  by_cases hj : j = k
  · subst hj
    rw [if_pos rfl, if_neg (by omega), if_pos (by omega)]
  · rw [if_neg hj]
    by_cases hc : w ≤ j ∧ j < k
    · rw [if_pos hc, if_pos (by omega)]
    · rw [if_neg hc, if_neg (by omega)]
theorem lq_erase {L : List (Nat × Nat)} {w j : Nat} (hw : w < L.length) (hj : j < L.length - 1) : lq (L.eraseIdx w) j = (if w ≤ j then lq L (j + 1) else lq L j) ∧ la (L.eraseIdx w) j = (if w ≤ j then la L (j + 1) else la L j) := by
  unfold lq la
  have e : (L.eraseIdx w).getD j (0, 0) = if w ≤ j then L.getD (j + 1) (0, 0) else L.getD j (0, 0) := by
    rw [List.getD_eq_getElem?_getD, List.getElem?_eraseIdx]
    by_cases hc : w ≤ j
    · rw [if_neg (by omega), if_pos hc, List.getD_eq_getElem?_getD]
    · rw [if_pos (by omega), if_neg hc, List.getD_eq_getElem?_getD]
  rw [e]
  constructor <;> split <;> rfl
theorem lq_app {L : List (Nat × Nat)} {q x j : Nat} : lq (L ++ [(q, x)]) j = (if j = L.length then q else lq L j) ∧ la (L ++ [(q, x)]) j = (if j = L.length then x else la L j) := by
  unfold lq la
  have e : (L ++ [(q, x)]).getD j (0, 0) = if j = L.length then (q, x) else L.getD j (0, 0) := by
    rw [List.getD_eq_getElem?_getD, List.getD_eq_getElem?_getD]
    by_cases hc : j < L.length
    · rw [List.getElem?_append_left hc, if_neg (by omega)]
    · by_cases hd : j = L.length
      · rw [if_pos hd, hd, List.getElem?_append_right (Nat.le_refl _), Nat.sub_self]; rfl
      · rw [if_neg hd, List.getElem?_append_right (by omega), List.getElem?_eq_none (by simp; omega), List.getElem?_eq_none (by omega)]
  rw [e]
  constructor <;> split <;> rfl
set_option maxHeartbeats 4000000 in
set_option maxRecDepth 100000 in
theorem s_msize {G : EG} {l : Launch} {h : EH} {a qa aa cap : Nat} {L : List (Nat × Nat)} {hi mi : Nat} (hM : MM G h a qa aa cap L hi mi) : ES G l 0 mX6_size [.ref a] h 0 0 (fun v h' => v = some (.int (nI (L.length))) ∧ h' = h) eNoX := by
  obtain ⟨qf, af, x1, x2, x3, x4, ⟨b1, b2, b3, b4⟩, n1, n2, n3⟩ := hM
  refine es_of (by decide) rfl (Nat.le_of_ble_eq_true rfl) ?_
  refine ex_aload_n rfl dX6_size_0 ?_
  refine ex_get dX6_size_1 gf_X6_9 x1 rfl ?_
  refine ex_iret dX6_size_4 rfl ⟨rfl, rfl⟩
set_option maxHeartbeats 4000000 in
set_option maxRecDepth 100000 in
theorem s_mhits {G : EG} {l : Launch} {h : EH} {a qa aa cap : Nat} {L : List (Nat × Nat)} {hi mi : Nat} (hM : MM G h a qa aa cap L hi mi) : ES G l 0 mX6_hits [.ref a] h 0 0 (fun v h' => v = some (.int (nI (hi))) ∧ h' = h) eNoX := by
  obtain ⟨qf, af, x1, x2, x3, x4, ⟨b1, b2, b3, b4⟩, n1, n2, n3⟩ := hM
  refine es_of (by decide) rfl (Nat.le_of_ble_eq_true rfl) ?_
  refine ex_aload_n rfl dX6_hits_0 ?_
  refine ex_get dX6_hits_1 gf_X6_15 x1 rfl ?_
  refine ex_iret dX6_hits_4 rfl ⟨rfl, rfl⟩
set_option maxHeartbeats 4000000 in
set_option maxRecDepth 100000 in
theorem s_mmisses {G : EG} {l : Launch} {h : EH} {a qa aa cap : Nat} {L : List (Nat × Nat)} {hi mi : Nat} (hM : MM G h a qa aa cap L hi mi) : ES G l 0 mX6_misses [.ref a] h 0 0 (fun v h' => v = some (.int (nI (mi))) ∧ h' = h) eNoX := by
  obtain ⟨qf, af, x1, x2, x3, x4, ⟨b1, b2, b3, b4⟩, n1, n2, n3⟩ := hM
  refine es_of (by decide) rfl (Nat.le_of_ble_eq_true rfl) ?_
  refine ex_aload_n rfl dX6_misses_0 ?_
  refine ex_get dX6_misses_1 gf_X6_18 x1 rfl ?_
  refine ex_iret dX6_misses_4 rfl ⟨rfl, rfl⟩
set_option maxHeartbeats 4000000 in
set_option maxRecDepth 100000 in
theorem s_mforget {G : EG} {l : Launch} {h : EH} {a qa aa cap : Nat} {L : List (Nat × Nat)} {hi mi : Nat} (hM : MM G h a qa aa cap L hi mi) : ES G l 0 mX6_forget [.ref a] h 0 0 (fun v h' => v = none ∧ MM G h' a qa aa cap [] hi mi ∧ Fr (atM a qa aa) h h') eNoX := by
  obtain ⟨qf, af, x1, x2, x3, x4, ⟨b1, b2, b3, b4⟩, n1, n2, n3⟩ := hM
  refine es_of (by decide) rfl (Nat.le_of_ble_eq_true rfl) ?_
  refine ex_aload_n rfl dX6_forget_0 ?_
  refine ex_iconst (v := (nI 0)) (by decide) dX6_forget_1 ?_
  refine ex_put dX6_forget_2 pf_X6_9 x1 (Nat.le_of_ble_eq_true rfl) rfl rfl ?_
  refine ex_vret dX6_forget_5 rfl ⟨rfl, ⟨qf, af, hup_eq, hup_ne n1.symm x2, hup_ne n2.symm x3, fun j hj => absurd hj (Nat.not_lt_zero _), ⟨Nat.zero_le _, b2, b3, fun j hj => absurd hj (Nat.not_lt_zero _)⟩, n1, n2, n3⟩, Fr.rf.up (Or.inl rfl)⟩
set_option maxHeartbeats 4000000 in
set_option maxRecDepth 100000 in
theorem s_mappend {G : EG} {l : Launch} {h : EH} {a qa aa cap : Nat} {L : List (Nat × Nat)} {hi mi : Nat} (hM : MM G h a qa aa cap L hi mi) {q x : Nat} (hq : q < 2 ^ 30) (hr : L.length < cap) : ES G l 0 mX6_append [.ref a, .int (nI q), .int (nI x)] h 0 0 (fun v h' => v = none ∧ MM G h' a qa aa cap (L ++ [(q, x)]) hi mi ∧ Fr (atM a qa aa) h h') eNoX := by
  obtain ⟨qf, af, x1, x2, x3, x4, ⟨b1, b2, b3, b4⟩, n1, n2, n3⟩ := hM
  refine es_of (by decide) rfl (Nat.le_of_ble_eq_true rfl) ?_
  refine ex_aload_n rfl dX6_append_0 ?_
  refine ex_get dX6_append_1 gf_X6_9 x1 rfl ?_
  refine ex_aload_n rfl dX6_append_4 ?_
  refine ex_get dX6_append_5 gf_X6_21 x1 rfl ?_
  refine ex_alen dX6_append_8 x2 rfl (v := nI cap) rfl ?_
  refine ex_icmpN_ge (tgt := 42) (by decide) dX6_append_9 (by omega) (by omega) (fun c1 => ?_) (fun c1 => ?_)
  · exact absurd hr (by omega)
  · refine ex_aload_n rfl dX6_append_12 ?_
    refine ex_get dX6_append_13 gf_X6_21 x1 rfl ?_
    refine ex_aload_n rfl dX6_append_16 ?_
    refine ex_get dX6_append_17 gf_X6_9 x1 rfl ?_
    refine ex_iload_n rfl dX6_append_20 ?_
    refine ex_iastN dX6_append_21 x2 hr (by omega) ?_
    refine ex_aload_n rfl dX6_append_22 ?_
    refine ex_get dX6_append_23 gf_X6_25 (hup_ne n1 x1) rfl ?_
    refine ex_aload_n rfl dX6_append_26 ?_
    refine ex_get dX6_append_27 gf_X6_9 (hup_ne n1 x1) rfl ?_
    refine ex_iload_n rfl dX6_append_30 ?_
    refine ex_iastN dX6_append_31 (hup_ne n3.symm x3) hr (by omega) ?_
    refine ex_aload_n rfl dX6_append_32 ?_
    refine ex_dup rfl dX6_append_33 ?_
    refine ex_get dX6_append_34 gf_X6_9 (hup_ne n2 (hup_ne n1 x1)) rfl ?_
    refine ex_iconst (v := (nI 1)) (by decide) dX6_append_37 ?_
    refine ex_iaddN dX6_append_38 ?_
    refine ex_put dX6_append_39 pf_X6_9 (hup_ne n2 (hup_ne n1 x1)) (Nat.le_of_ble_eq_true rfl) rfl rfl ?_
    refine ex_vret dX6_append_42 rfl ⟨rfl, ⟨va_up qf L.length q, va_up af L.length x, by rw [List.length_append]; exact hup_eq, hup_ne n1.symm (hup_ne n3 (by rw [← upd_nI]; exact hup_eq)), hup_ne n2.symm (by rw [← upd_nI]; exact hup_eq), fun j hj => by rw [List.length_append] at hj; rw [lq_app.1, lq_app.2]; unfold va_up; by_cases hc : j = L.length; simp [hc]; rw [if_neg hc, if_neg hc, if_neg hc, if_neg hc]; exact x4 j (by simp at hj; omega), ⟨by simp; omega, b2, b3, fun j hj => by rw [lq_app.1]; split; exact hq; simp at hj; exact b4 j (by omega)⟩, n1, n2, n3⟩, ((Fr.rf.up (Or.inr (Or.inl rfl))).up (Or.inr (Or.inr rfl))).up (Or.inl rfl)⟩
set_option maxHeartbeats 4000000 in
set_option maxRecDepth 100000 in
theorem l_mdrop {G : EG} {l : Launch} {h0 : EH} {a qa aa cap : Nat} {L : List (Nat × Nat)} {hi mi w : Nat} {qf af : Nat → Nat} (x4 : ∀ j, j < L.length → qf j = lq L j ∧ af j = la L j) (b1 : L.length ≤ cap) (b2 : 1 ≤ cap) (b3 : cap ≤ 8) (b4 : ∀ j, j < L.length → lq L j < 2 ^ 30) (n1 : a ≠ qa) (n2 : a ≠ aa) (n3 : qa ≠ aa) (hw : w < L.length) : ∀ (f k : Nat), L.length - k < f → w ≤ k → k ≤ L.length - 1 → ∀ h : EH, h.2 a = some (.inr (2, [.ref qa, .ref aa, .int (nI L.length), .int (nI hi), .int (nI mi)])) → h.2 qa = some (.inl (eA G 0, cap, .inl (fun j => nI (shf qf w k j)))) → h.2 aa = some (.inl (eA G 0, cap, .inl (fun j => nI (shf af w k j)))) → Fr (atM a qa aa) h0 h → Ex G l 0 mX6_drop (fun v h' => v = none ∧ MM G h' a qa aa cap (L.eraseIdx w) hi mi ∧ Fr (atM a qa aa) h0 h') eNoX 0 0 2 [(0, .ref a), (1, .int (nI w)), (2, .int (nI k))] [] h := by
  intro f
  induction f with
  | zero =>
    intro k h1 h2 h3 h x1 x2 x3 hF
    omega
  | succ f ih =>
    intro k h1 h2 h3 h x1 x2 x3 hF
    refine ex_iload_n rfl dX6_drop_2 ?_
    refine ex_aload_n rfl dX6_drop_3 ?_
    refine ex_get dX6_drop_4 gf_X6_9 x1 rfl ?_
    refine ex_iconst (v := (nI 1)) (by decide) dX6_drop_7 ?_
    refine ex_isubN (by omega) dX6_drop_8 ?_
    refine ex_icmpN_ge (tgt := 46) (by decide) dX6_drop_9 (by omega) (by omega) (fun c1 => ?_) (fun c1 => ?_)
    · refine ex_aload_n rfl dX6_drop_46 ?_
      refine ex_dup rfl dX6_drop_47 ?_
      refine ex_get dX6_drop_48 gf_X6_9 x1 rfl ?_
      refine ex_iconst (v := (nI 1)) (by decide) dX6_drop_51 ?_
      refine ex_isubN (by omega) dX6_drop_52 ?_
      refine ex_put dX6_drop_53 pf_X6_9 x1 (Nat.le_of_ble_eq_true rfl) rfl rfl ?_
      refine ex_vret dX6_drop_56 rfl ⟨rfl, ⟨shf qf w k, shf af w k, by rw [List.length_eraseIdx, if_pos hw]; exact hup_eq, hup_ne n1.symm x2, hup_ne n2.symm x3, fun j hj => by rw [List.length_eraseIdx, if_pos hw] at hj; obtain ⟨e1, e2⟩ := lq_erase hw hj; rw [e1, e2]; have e3 : k = L.length - 1 := (by omega); subst e3; unfold shf; by_cases hc : w ≤ j; rw [if_pos hc, if_pos hc, if_pos (by omega), if_pos (by omega)]; exact x4 (j + 1) (by omega); rw [if_neg hc, if_neg hc, if_neg (by omega), if_neg (by omega)]; exact x4 j (by omega), ⟨by rw [List.length_eraseIdx, if_pos hw]; omega, b2, b3, fun j hj => by rw [List.length_eraseIdx, if_pos hw] at hj; rw [(lq_erase hw hj).1]; split; exact b4 _ (by omega); exact b4 _ (by omega)⟩, n1, n2, n3⟩, hF.up (Or.inl rfl)⟩
    · refine ex_aload_n rfl dX6_drop_12 ?_
      refine ex_get dX6_drop_13 gf_X6_21 x1 rfl ?_
      refine ex_iload_n rfl dX6_drop_16 ?_
      refine ex_aload_n rfl dX6_drop_17 ?_
      refine ex_get dX6_drop_18 gf_X6_21 x1 rfl ?_
      refine ex_iload_n rfl dX6_drop_21 ?_
      refine ex_iconst (v := (nI 1)) (by decide) dX6_drop_22 ?_
      refine ex_iaddN dX6_drop_23 ?_
      refine ex_ialdN dX6_drop_24 x2 (by omega) (by omega) ?_
      refine ex_iastN dX6_drop_25 x2 (by omega) (by omega) ?_
      refine ex_aload_n rfl dX6_drop_26 ?_
      refine ex_get dX6_drop_27 gf_X6_25 (hup_ne n1 x1) rfl ?_
      refine ex_iload_n rfl dX6_drop_30 ?_
      refine ex_aload_n rfl dX6_drop_31 ?_
      refine ex_get dX6_drop_32 gf_X6_25 (hup_ne n1 x1) rfl ?_
      refine ex_iload_n rfl dX6_drop_35 ?_
      refine ex_iconst (v := (nI 1)) (by decide) dX6_drop_36 ?_
      refine ex_iaddN dX6_drop_37 ?_
      refine ex_ialdN dX6_drop_38 (hup_ne n3.symm x3) (by omega) (by omega) ?_
      refine ex_iastN dX6_drop_39 (hup_ne n3.symm x3) (by omega) (by omega) ?_
      refine ex_iincN (z := 1) rfl (by decide) rfl dX6_drop_40 ?_
      refine ex_goto (tgt := 2) (by decide) dX6_drop_43 ?_
      exact ih (k + 1) (by omega) (by omega) (by omega) _ (hup_ne n2 (hup_ne n1 x1)) (hup_ne n3 (by rw [← shf_1 qf h2, ← upd_nI]; exact hup_eq)) (by rw [← shf_1 af h2, ← upd_nI]; exact hup_eq) ((hF.up (Or.inr (Or.inl rfl))).up (Or.inr (Or.inr rfl)))
set_option maxHeartbeats 4000000 in
set_option maxRecDepth 100000 in
theorem s_mdrop {G : EG} {l : Launch} {h : EH} {a qa aa cap : Nat} {L : List (Nat × Nat)} {hi mi : Nat} (hM : MM G h a qa aa cap L hi mi) {w : Nat} (hw : w < L.length) : ES G l 0 mX6_drop [.ref a, .int (nI w)] h 0 0 (fun v h' => v = none ∧ MM G h' a qa aa cap (L.eraseIdx w) hi mi ∧ Fr (atM a qa aa) h h') eNoX := by
  obtain ⟨qf, af, x1, x2, x3, x4, ⟨b1, b2, b3, b4⟩, n1, n2, n3⟩ := hM
  refine es_of (by decide) rfl (Nat.le_of_ble_eq_true rfl) ?_
  refine ex_iload_n rfl dX6_drop_0 ?_
  refine ex_istore_n (by decide) rfl dX6_drop_1 ?_
  exact l_mdrop x4 b1 b2 b3 b4 n1 n2 n3 hw (L.length + 1) w (by omega) (Nat.le_refl _) (by omega) h x1 (by rw [shf_0]; exact x2) (by rw [shf_0]; exact x3) Fr.rf
/-- where the question stands -/
def lk (L : List (Nat × Nat)) (q : Nat) : Option Nat := fnd (lq L) q 0 L.length
/-- the list behind a question that is there at k -/
def mhit (L : List (Nat × Nat)) (q k : Nat) : List (Nat × Nat) := L.eraseIdx k ++ [(q, la L k)]
def QR (G : EG) (h : EH) (a qa aa cap : Nat) (L : List (Nat × Nat)) (hi mi q : Nat) : Option Value → EH → Prop := fun v h' => (lk L q = none → v = some (.int (-1)) ∧ h' = h) ∧ ∀ k, lk L q = some k → v = some (.int (nI (la L k))) ∧ MM G h' a qa aa cap (mhit L q k) (hi + 1) mi ∧ Fr (atM a qa aa) h h'
theorem QR.hit {G : EG} {h h' : EH} {a qa aa cap : Nat} {L : List (Nat × Nat)} {hi mi q k : Nat} {v : Option Value} (e : lk L q = some k) (hv : v = some (.int (nI (la L k)))) (hm : MM G h' a qa aa cap (mhit L q k) (hi + 1) mi) (hf : Fr (atM a qa aa) h h') : QR G h a qa aa cap L hi mi q v h' := by
  refine ⟨fun z => ?_, fun j hj => ?_⟩
  · rw [e] at z; cases z
  · rw [e] at hj; cases hj; exact ⟨hv, hm, hf⟩
set_option maxHeartbeats 4000000 in
set_option maxRecDepth 100000 in
theorem l_mrecall {G : EG} {l : Launch} {h : EH} {a qa aa cap : Nat} {L : List (Nat × Nat)} {hi mi : Nat} (hM : MM G h a qa aa cap L hi mi) {q : Nat} (hq : q < 2 ^ 30) : ∀ (f k : Nat), L.length - k < f → k ≤ L.length → lk L q = fnd (lq L) q k (L.length - k) → Ex G l 1 mX6_recall (QR G h a qa aa cap L hi mi q) eNoX 0 0 2 [(0, .ref a), (1, .int (nI q)), (2, .int (nI k))] [] h := by
  intro f
  induction f with
  | zero =>
    intro k h1 h2 he
    omega
  | succ f ih =>
    intro k h1 h2 he
    obtain ⟨qf, af, x1, x2, x3, x4, ⟨b1, b2, b3, b4⟩, n1, n2, n3⟩ := id hM
    have hqk : k < L.length → qf k < 2 ^ 31 := fun z => by rw [(x4 k z).1]; have := b4 k z; omega
    refine ex_iload_n rfl dX6_recall_2 ?_
    refine ex_aload_n rfl dX6_recall_3 ?_
    refine ex_get dX6_recall_4 gf_X6_9 x1 rfl ?_
    refine ex_icmpN_ge (tgt := 56) (by decide) dX6_recall_7 (by omega) (by omega) (fun c1 => ?_) (fun c1 => ?_)
    · refine ex_iconst (v := (-1)) (by decide) dX6_recall_56 ?_
      refine ex_iret dX6_recall_57 rfl ⟨fun _ => ⟨rfl, rfl⟩, fun j hj => by rw [he, show L.length - k = 0 by omega] at hj; cases hj⟩
    · refine ex_aload_n rfl dX6_recall_10 ?_
      refine ex_get dX6_recall_11 gf_X6_21 x1 rfl ?_
      refine ex_iload_n rfl dX6_recall_14 ?_
      refine ex_ialdN dX6_recall_15 x2 (by omega) (by omega) ?_
      refine ex_iload_n rfl dX6_recall_16 ?_
      refine ex_icmpN_ne (tgt := 50) (by decide) dX6_recall_17 (hqk c1) (by omega) (fun c2 => ?_) (fun c2 => ?_)
      · refine ex_iincN (z := 1) rfl (by decide) rfl dX6_recall_50 ?_
        refine ex_goto (tgt := 2) (by decide) dX6_recall_53 ?_
        exact ih (k + 1) (by omega) (by omega) (he.trans (fnd_step (by rw [← (x4 k c1).1]; exact c2) (by omega)))
      · refine ex_aload_n rfl dX6_recall_20 ?_
        refine ex_get dX6_recall_21 gf_X6_25 x1 rfl ?_
        refine ex_iload_n rfl dX6_recall_24 ?_
        refine ex_ialdN dX6_recall_25 x3 (by omega) (by omega) ?_
        refine ex_istore_n (by decide) rfl dX6_recall_26 ?_
        refine ex_aload_n rfl dX6_recall_27 ?_
        refine ex_dup rfl dX6_recall_28 ?_
        refine ex_get dX6_recall_29 gf_X6_15 x1 rfl ?_
        refine ex_iconst (v := (nI 1)) (by decide) dX6_recall_32 ?_
        refine ex_iaddN dX6_recall_33 ?_
        refine ex_put dX6_recall_34 pf_X6_15 x1 (Nat.le_of_ble_eq_true rfl) rfl rfl ?_
        refine ex_aload_n rfl dX6_recall_37 ?_
        refine ex_iload_n rfl dX6_recall_38 ?_
        refine ex_invv (k := 0) (n := 0) (mc' := 0) (ms' := 0) (As := [_]) dX6_recall_39 cv_X6_28 (by decide) (Nat.le_of_ble_eq_true rfl) (Or.inl ⟨_, _, _, _, hup_eq, rfl⟩) (s_mdrop (hi := hi + 1) (w := k) (L := L) ⟨qf, af, hup_eq, hup_ne n1.symm x2, hup_ne n2.symm x3, x4, ⟨b1, b2, b3, b4⟩, n1, n2, n3⟩ (by omega)) (fun v h' q9 => ?_)
        obtain ⟨rfl, hM1, hF1⟩ := q9
        obtain ⟨qf1, af1, y1, y2, y3, y4⟩ := id hM1
        refine ex_aload_n rfl dX6_recall_42 ?_
        refine ex_iload_n rfl dX6_recall_43 ?_
        refine ex_iload_n rfl dX6_recall_44 ?_
        refine ex_invv (k := 0) (n := 0) (mc' := 0) (ms' := 0) (As := [_, _]) dX6_recall_45 cv_X6_32 (by decide) (Nat.le_of_ble_eq_true rfl) (Or.inl ⟨_, _, _, _, y1, rfl⟩) (s_mappend hM1 hq (by rw [List.length_eraseIdx, if_pos (by omega)]; omega)) (fun v h' q9 => ?_)
        obtain ⟨rfl, hM2, hF2⟩ := q9
        refine ex_iload_n rfl dX6_recall_48 ?_
        refine ex_iret dX6_recall_49 rfl (QR.hit (he.trans (fnd_hit (by rw [← (x4 k c1).1]; exact c2) (by omega))) (by rw [(x4 k c1).2]) (by rw [mhit, ← (x4 k c1).2]; exact hM2) (((Fr.rf.up (Or.inl rfl)).tr hF1).tr hF2))
set_option maxHeartbeats 4000000 in
set_option maxRecDepth 100000 in
theorem s_mrecall {G : EG} {l : Launch} {h : EH} {a qa aa cap : Nat} {L : List (Nat × Nat)} {hi mi : Nat} (hM : MM G h a qa aa cap L hi mi) {q : Nat} (hq : q < 2 ^ 30) : ES G l 1 mX6_recall [.ref a, .int (nI q)] h 0 0 (QR G h a qa aa cap L hi mi q) eNoX := by
  refine es_of (by decide) rfl (Nat.le_of_ble_eq_true rfl) ?_
  refine ex_iconst (v := (nI 0)) (by decide) dX6_recall_0 ?_
  refine ex_istore_n (by decide) rfl dX6_recall_1 ?_
  exact l_mrecall hM hq (L.length + 1) 0 (by omega) (by omega) rfl
/-- the list behind a question that was not there -/
def mmiss (cap : Nat) (L : List (Nat × Nat)) (q x : Nat) : List (Nat × Nat) := (if L.length = cap then L.eraseIdx 0 else L) ++ [(q, x)]
set_option maxHeartbeats 4000000 in
set_option maxRecDepth 100000 in
theorem s_mkeep {G : EG} {l : Launch} {h : EH} {a qa aa cap : Nat} {L : List (Nat × Nat)} {hi mi : Nat} (hM : MM G h a qa aa cap L hi mi) {q x : Nat} (hq : q < 2 ^ 30) : ES G l 1 mX6_keep [.ref a, .int (nI q), .int (nI x)] h 0 0 (fun v h' => v = none ∧ MM G h' a qa aa cap (mmiss cap L q x) hi (mi + 1) ∧ Fr (atM a qa aa) h h') eNoX := by
  obtain ⟨qf, af, x1, x2, x3, x4, ⟨b1, b2, b3, b4⟩, n1, n2, n3⟩ := hM
  refine es_of (by decide) rfl (Nat.le_of_ble_eq_true rfl) ?_
  refine ex_aload_n rfl dX6_keep_0 ?_
  refine ex_dup rfl dX6_keep_1 ?_
  refine ex_get dX6_keep_2 gf_X6_18 x1 rfl ?_
  refine ex_iconst (v := (nI 1)) (by decide) dX6_keep_5 ?_
  refine ex_iaddN dX6_keep_6 ?_
  refine ex_put dX6_keep_7 pf_X6_18 x1 (Nat.le_of_ble_eq_true rfl) rfl rfl ?_
  refine ex_aload_n rfl dX6_keep_10 ?_
  refine ex_get dX6_keep_11 gf_X6_9 hup_eq rfl ?_
  refine ex_aload_n rfl dX6_keep_14 ?_
  refine ex_get dX6_keep_15 gf_X6_21 hup_eq rfl ?_
  refine ex_alen dX6_keep_18 (hup_ne n1.symm x2) rfl (v := nI cap) rfl ?_
  refine ex_icmpN_ne (tgt := 27) (by decide) dX6_keep_19 (by omega) (by omega) (fun c1 => ?_) (fun c1 => ?_)
  · refine ex_aload_n rfl dX6_keep_27 ?_
    refine ex_iload_n rfl dX6_keep_28 ?_
    refine ex_iload_n rfl dX6_keep_29 ?_
    refine ex_invv (k := 0) (n := 0) (mc' := 0) (ms' := 0) (As := [_, _]) dX6_keep_30 cv_X6_32 (by decide) (Nat.le_of_ble_eq_true rfl) (Or.inl ⟨_, _, _, _, hup_eq, rfl⟩) (s_mappend (mi := mi + 1) (L := L) ⟨qf, af, hup_eq, hup_ne n1.symm x2, hup_ne n2.symm x3, x4, ⟨b1, b2, b3, b4⟩, n1, n2, n3⟩ hq (by omega)) (fun v h' q9 => ?_)
    obtain ⟨rfl, hM2, hF2⟩ := q9
    refine ex_vret dX6_keep_33 rfl ⟨rfl, by rw [mmiss, if_neg (by omega)]; exact hM2, (Fr.rf.up (Or.inl rfl)).tr hF2⟩
  · refine ex_aload_n rfl dX6_keep_22 ?_
    refine ex_iconst (v := (nI 0)) (by decide) dX6_keep_23 ?_
    refine ex_invv (k := 0) (n := 0) (mc' := 0) (ms' := 0) (As := [_]) dX6_keep_24 cv_X6_28 (by decide) (Nat.le_of_ble_eq_true rfl) (Or.inl ⟨_, _, _, _, hup_eq, rfl⟩) (s_mdrop (mi := mi + 1) (w := 0) (L := L) ⟨qf, af, hup_eq, hup_ne n1.symm x2, hup_ne n2.symm x3, x4, ⟨b1, b2, b3, b4⟩, n1, n2, n3⟩ (by omega)) (fun v h' q9 => ?_)
    obtain ⟨rfl, hM1, hF1⟩ := q9
    obtain ⟨qf1, af1, y1, y2, y3, y4⟩ := id hM1
    refine ex_aload_n rfl dX6_keep_27 ?_
    refine ex_iload_n rfl dX6_keep_28 ?_
    refine ex_iload_n rfl dX6_keep_29 ?_
    refine ex_invv (k := 0) (n := 0) (mc' := 0) (ms' := 0) (As := [_, _]) dX6_keep_30 cv_X6_32 (by decide) (Nat.le_of_ble_eq_true rfl) (Or.inl ⟨_, _, _, _, y1, rfl⟩) (s_mappend hM1 hq (by rw [List.length_eraseIdx, if_pos (by omega)]; omega)) (fun v h' q9 => ?_)
    obtain ⟨rfl, hM2, hF2⟩ := q9
    refine ex_vret dX6_keep_33 rfl ⟨rfl, by rw [mmiss, if_pos (by omega)]; exact hM2, ((Fr.rf.up (Or.inl rfl)).tr hF1).tr hF2⟩
