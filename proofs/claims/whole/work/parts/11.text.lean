/-! TEXT: the characters written (PolicyDesk$Text), and PolicyDesk.byteOf -/
def TX (G : EG) (h : EH) (a b : Nat) (t : Nat → Nat) (n : Nat) : Prop := h.2 a = some (.inr (6, [.ref b, .int (nI n)])) ∧ h.2 b = some (.inl (eA G 0, 72, .inl (fun j => nI (t j)))) ∧ n ≤ 72 ∧ a ≠ b
abbrev atT (a b : Nat) : Nat → Prop := fun q => q = a ∨ q = b
theorem TX.fr {G : EG} {h h' : EH} {a b : Nat} {t : Nat → Nat} {n : Nat} {P : Nat → Prop} (x : TX G h a b t n) (f : Fr P h h') (ha : ¬ P a) (hb : ¬ P b) : TX G h' a b t n := ⟨f.get ha x.1, f.get hb x.2.1, x.2.2⟩
set_option maxHeartbeats 4000000 in
set_option maxRecDepth 100000 in
theorem s_byteOf {G : EG} {l : Launch} (h : EH) (w : Int64) {k : Nat} (hk : k < 8) : ES G l 0 mX11_byteOf [.long w, .int (nI k)] h 0 0 (fun v h' => v = some (.int (nI (byt w k))) ∧ h' = h) eNoX := by
  refine es_of (by decide) rfl (Nat.le_of_ble_eq_true rfl) ?_
  refine ex_lload_n rfl dX11_byteOf_0 ?_
  refine ex_bipush (v := (nI 56)) (by decide) dX11_byteOf_1 ?_
  refine ex_bipush (v := (nI 8)) (by decide) dX11_byteOf_3 ?_
  refine ex_iload_n rfl dX11_byteOf_5 ?_
  refine ex_imulN dX11_byteOf_6 ?_
  refine ex_isubN (by omega) dX11_byteOf_7 ?_
  refine ex_lushr dX11_byteOf_8 ?_
  refine ex_l2i dX11_byteOf_9 ?_
  refine ex_sipush (v := (nI 255)) (by decide) dX11_byteOf_10 ?_
  refine ex_iand dX11_byteOf_13 ?_
  refine ex_iret dX11_byteOf_14 rfl ⟨congrArg (fun z => some (Value.int z)) (byt_class w (by omega)), rfl⟩
set_option maxHeartbeats 4000000 in
set_option maxRecDepth 100000 in
theorem s_codeAt {G : EG} {l : Launch} {h : EH} {a b n i : Nat} {t : Nat → Nat} (hT : TX G h a b t n) (hi : i < 2 ^ 31) : ES G l 0 mX10_codeAt [.ref a, .int (nI i)] h 0 0 (fun v h' => v = some (.int (if i < n then nI (t i) else -1)) ∧ h' = h) eNoX := by
  have hn := hT.2.2.1
  refine es_of (by decide) rfl (Nat.le_of_ble_eq_true rfl) ?_
  refine ex_iload_n rfl dX10_codeAt_0 ?_
  refine ex_ifN_lt (tgt := 21) (by decide) dX10_codeAt_1 (by omega) (fun c1 => ?_) (fun c1 => ?_)
  · exact c1.elim
  · refine ex_iload_n rfl dX10_codeAt_4 ?_
    refine ex_aload_n rfl dX10_codeAt_5 ?_
    refine ex_get dX10_codeAt_6 gf_X10_15 hT.1 rfl ?_
    refine ex_icmpN_ge (tgt := 21) (by decide) dX10_codeAt_9 (by omega) (by omega) (fun c2 => ?_) (fun c2 => ?_)
    · refine ex_iconst (v := (-1)) (by decide) dX10_codeAt_21 ?_
      refine ex_iret dX10_codeAt_22 rfl ⟨by rw [if_neg (by omega)], rfl⟩
    · refine ex_aload_n rfl dX10_codeAt_12 ?_
      refine ex_get dX10_codeAt_13 gf_X10_9 hT.1 rfl ?_
      refine ex_iload_n rfl dX10_codeAt_16 ?_
      refine ex_ialdN dX10_codeAt_17 hT.2.1 (by omega) (by decide) ?_
      refine ex_goto (tgt := 22) (by decide) dX10_codeAt_18 ?_
      refine ex_iret dX10_codeAt_22 rfl ⟨by simp [*], rfl⟩
set_option maxHeartbeats 4000000 in
set_option maxRecDepth 100000 in
theorem s_tlength {G : EG} {l : Launch} {h : EH} {a b n : Nat} {t : Nat → Nat} (hT : TX G h a b t n) : ES G l 0 mX10_length [.ref a] h 0 0 (fun v h' => v = some (.int (nI n)) ∧ h' = h) eNoX := by
  refine es_of (by decide) rfl (Nat.le_of_ble_eq_true rfl) ?_
  refine ex_aload_n rfl dX10_length_0 ?_
  refine ex_get dX10_length_1 gf_X10_15 hT.1 rfl ?_
  refine ex_iret dX10_length_4 rfl ⟨rfl, rfl⟩
set_option maxHeartbeats 4000000 in
set_option maxRecDepth 100000 in
theorem s_tclear {G : EG} {l : Launch} {h : EH} {a b n : Nat} {t : Nat → Nat} (hT : TX G h a b t n) : ES G l 0 mX10_clear [.ref a] h 0 0 (fun v h' => v = none ∧ TX G h' a b t 0 ∧ Fr (atT a b) h h') eNoX := by
  refine es_of (by decide) rfl (Nat.le_of_ble_eq_true rfl) ?_
  refine ex_aload_n rfl dX10_clear_0 ?_
  refine ex_iconst (v := (nI 0)) (by decide) dX10_clear_1 ?_
  refine ex_put dX10_clear_2 pf_X10_15 hT.1 (Nat.le_of_ble_eq_true rfl) rfl rfl ?_
  refine ex_vret dX10_clear_5 rfl ⟨rfl, ⟨hup_eq, hup_ne hT.2.2.2.symm hT.2.1, by omega, hT.2.2.2⟩, Fr.rf.up (Or.inl rfl)⟩
set_option maxHeartbeats 4000000 in
set_option maxRecDepth 100000 in
theorem s_appendCode {G : EG} {l : Launch} {h : EH} {a b n c : Nat} {t : Nat → Nat} (hT : TX G h a b t n) (hc : c < 2 ^ 31) (hr : c = 0 ∨ n < 72) : ES G l 0 mX10_appendCode [.ref a, .int (nI c)] h 0 0 (fun v h' => v = none ∧ TX G h' a b (if c = 0 then t else va_up t n c) (if c = 0 then n else n + 1) ∧ Fr (atT a b) h h') eNoX := by
  have hn := hT.2.2.1
  have hab := hT.2.2.2
  refine es_of (by decide) rfl (Nat.le_of_ble_eq_true rfl) ?_
  refine ex_iload_n rfl dX10_appendCode_0 ?_
  refine ex_ifN_eq (tgt := 36) (by decide) dX10_appendCode_1 (by omega) (fun c1 => ?_) (fun c1 => ?_)
  · refine ex_vret dX10_appendCode_36 rfl ⟨rfl, by simp only [if_pos c1]; exact hT, Fr.rf⟩
  · refine ex_aload_n rfl dX10_appendCode_4 ?_
    refine ex_get dX10_appendCode_5 gf_X10_15 hT.1 rfl ?_
    refine ex_aload_n rfl dX10_appendCode_8 ?_
    refine ex_get dX10_appendCode_9 gf_X10_9 hT.1 rfl ?_
    refine ex_alen dX10_appendCode_12 hT.2.1 rfl (v := nI 72) rfl ?_
    refine ex_icmpN_ge (tgt := 36) (by decide) dX10_appendCode_13 (by omega) (by omega) (fun c2 => ?_) (fun c2 => ?_)
    · exact absurd hr (by omega)
    · refine ex_aload_n rfl dX10_appendCode_16 ?_
      refine ex_get dX10_appendCode_17 gf_X10_9 hT.1 rfl ?_
      refine ex_aload_n rfl dX10_appendCode_20 ?_
      refine ex_get dX10_appendCode_21 gf_X10_15 hT.1 rfl ?_
      refine ex_iload_n rfl dX10_appendCode_24 ?_
      refine ex_iastN dX10_appendCode_25 hT.2.1 (by omega) (by decide) ?_
      refine ex_aload_n rfl dX10_appendCode_26 ?_
      refine ex_dup rfl dX10_appendCode_27 ?_
      refine ex_get dX10_appendCode_28 gf_X10_15 (hup_ne hab hT.1) rfl ?_
      refine ex_iconst (v := (nI 1)) (by decide) dX10_appendCode_31 ?_
      refine ex_iaddN dX10_appendCode_32 ?_
      refine ex_put dX10_appendCode_33 pf_X10_15 (hup_ne hab hT.1) (Nat.le_of_ble_eq_true rfl) rfl rfl ?_
      refine ex_vret dX10_appendCode_36 rfl ⟨rfl, by simp only [if_neg c1]; exact ⟨hup_eq, hup_ne hab.symm (by rw [← upd_nI]; exact hup_eq), by omega, hab⟩, (Fr.rf.up (Or.inr rfl)).up (Or.inl rfl)⟩
def okb (b : Nat) : Bool := decide (b = 0 ∨ (32 ≤ b ∧ b ≤ 126))
def cntb (w : Int64) : Nat → Nat
  | 0 => 0
  | k + 1 => cntb w k + (if byt w k = 0 then 0 else 1)
def oks (w : Int64) : Bool := (List.range 8).all (fun k => okb (byt w k))
def wok (w : Int64) (n : Nat) : Bool := oks w && decide (n + cntb w 8 ≤ 72)
def wt (t : Nat → Nat) (n : Nat) (w : Int64) : Nat → Nat → Nat
  | 0 => t
  | k + 1 => if byt w k = 0 then wt t n w k else va_up (wt t n w k) (n + cntb w k) (byt w k)
theorem cntb_le (w : Int64) (k : Nat) : cntb w k ≤ k := by
  induction k with
  | zero => exact Nat.le_refl _
  | succ k ih => unfold cntb; split <;> omega
theorem cntb_mono (w : Int64) {j k : Nat} (h : j ≤ k) : cntb w j ≤ cntb w k := by
  induction k with
  | zero => rw [Nat.le_zero.mp h]; exact Nat.le_refl _
  | succ k ih =>
    rcases Nat.lt_or_ge j (k + 1) with q | q
    · have := ih (by omega)
      show cntb w j ≤ cntb w k + _
      omega
    · rw [show j = k + 1 by omega]; exact Nat.le_refl _
theorem oks_of {w : Int64} (h : ∀ j, j < 8 → okb (byt w j) = true) : oks w = true := List.all_eq_true.mpr fun j hj => h j (List.mem_range.mp hj)
theorem oks_no {w : Int64} {k : Nat} (hk : k < 8) (h : okb (byt w k) = false) : oks w = false := by
  cases hq : oks w with
  | false => rfl
  | true => exact absurd (List.all_eq_true.mp hq k (List.mem_range.mpr hk)) (by rw [h]; decide)
def QA (G : EG) (h : EH) (a b : Nat) (t : Nat → Nat) (n : Nat) (w : Int64) : Option Value → EH → Prop := fun v h' => v = some (.int (b2i (wok w n))) ∧ TX G h' a b (if wok w n then wt t n w 8 else t) (if wok w n then n + cntb w 8 else n) ∧ Fr (atT a b) h h'
theorem QA.no {G : EG} {h : EH} {a b n : Nat} {t : Nat → Nat} {w : Int64} (hT : TX G h a b t n) (hq : wok w n = false) : QA G h a b t n w (some (.int (nI 0))) h := ⟨by rw [hq]; rfl, by simp only [hq]; exact hT, Fr.rf⟩
set_option maxHeartbeats 4000000 in
set_option maxRecDepth 100000 in
theorem l_append2 {G : EG} {l : Launch} {h0 : EH} {a b n : Nat} {t : Nat → Nat} {w : Int64} (hw : wok w n = true) : ∀ (f k : Nat), 8 < f + k → k ≤ 8 → ∀ (h : EH) (m : Int32), TX G h a b (wt t n w k) (n + cntb w k) → Fr (atT a b) h0 h → Ex G l 1 mX10_append (QA G h0 a b t n w) eNoX 0 0 79 [(0, .ref a), (1, .long w), (3, .int m), (4, .int (nI k))] [] h := by
  intro f
  induction f with
  | zero =>
    intro k h1 h2 h m hT hF
    omega
  | succ f ih =>
    intro k h1 h2 h m hT hF
    have hn := hT.2.2.1
    have hw2 : n + cntb w 8 ≤ 72 := by simp [wok] at hw; exact hw.2
    have hb := byt_lt w k
    refine ex_iload rfl dX10_append_79 ?_
    refine ex_bipush (v := (nI 8)) (by decide) dX10_append_81 ?_
    refine ex_icmpN_ge (tgt := 102) (by decide) dX10_append_83 (by omega) (by omega) (fun c1 => ?_) (fun c1 => ?_)
    · refine ex_iconst (v := (nI 1)) (by decide) dX10_append_102 ?_
      refine ex_zret dX10_append_103 rfl rfl ⟨by rw [hw]; rfl, by simp only [hw, if_true]; rw [show k = 8 by omega] at hT; exact hT, hF⟩
    · refine ex_aload_n rfl dX10_append_86 ?_
      refine ex_lload_n rfl dX10_append_87 ?_
      refine ex_iload rfl dX10_append_88 ?_
      refine ex_invsN (k := 0) (n := 0) (mc' := 0) (ms' := 0) (As := [_, _]) dX10_append_90 cs_X10_19 (by decide) (Nat.le_of_ble_eq_true rfl) (s_byteOf _ w (k := k) (by omega)) (fun v h' q => ?_)
      obtain ⟨rfl, rfl⟩ := q
      refine ex_invv (k := 0) (n := 0) (mc' := 0) (ms' := 0) (As := [_]) dX10_append_93 cv_X10_23 (by decide) (Nat.le_of_ble_eq_true rfl) (Or.inl ⟨_, _, _, _, hT.1, rfl⟩) (s_appendCode hT (by omega) (by have h8 := cntb_mono w (j := k + 1) (k := 8) (by omega); by_cases hz : byt w k = 0; exact Or.inl hz; exact Or.inr (by have : cntb w (k + 1) = cntb w k + 1 := (by show _ + _ = _; rw [if_neg hz]); omega))) (fun v h' q => ?_)
      obtain ⟨rfl, hT', hF'⟩ := q
      refine ex_iincN (z := 1) rfl (by decide) rfl dX10_append_96 ?_
      refine ex_goto (tgt := 79) (by decide) dX10_append_99 ?_
      exact ih (k + 1) (by omega) (by omega) _ _ (by have e1 : wt t n w (k + 1) = if byt w k = 0 then wt t n w k else va_up (wt t n w k) (n + cntb w k) (byt w k) := rfl; have e2 : n + cntb w (k + 1) = if byt w k = 0 then n + cntb w k else n + cntb w k + 1 := (by show n + (_ + _) = _; split <;> omega); rw [e1, e2]; exact hT') (hF.tr hF')
set_option maxHeartbeats 4000000 in
set_option maxRecDepth 100000 in
theorem l_append1 {G : EG} {l : Launch} {h : EH} {a b n : Nat} {t : Nat → Nat} {w : Int64} (hT : TX G h a b t n) : ∀ (f k : Nat), 8 < f + k → k ≤ 8 → (∀ j, j < k → okb (byt w j) = true) → Ex G l 1 mX10_append (QA G h a b t n w) eNoX 0 0 5 [(0, .ref a), (1, .long w), (3, .int (nI (cntb w k))), (4, .int (nI k))] [] h := by
  intro f
  induction f with
  | zero =>
    intro k h1 h2 hok
    omega
  | succ f ih =>
    intro k h1 h2 hok
    have hn := hT.2.2.1
    have hb := byt_lt w k
    have hcl := cntb_le w k
    refine ex_iload rfl dX10_append_5 ?_
    refine ex_bipush (v := (nI 8)) (by decide) dX10_append_7 ?_
    refine ex_icmpN_ge (tgt := 60) (by decide) dX10_append_9 (by omega) (by omega) (fun c1 => ?_) (fun c1 => ?_)
    · refine ex_iload_n rfl dX10_append_60 ?_
      refine ex_aload_n rfl dX10_append_61 ?_
      refine ex_get dX10_append_62 gf_X10_9 hT.1 rfl ?_
      refine ex_alen dX10_append_65 hT.2.1 rfl (v := nI 72) rfl ?_
      refine ex_aload_n rfl dX10_append_66 ?_
      refine ex_get dX10_append_67 gf_X10_15 hT.1 rfl ?_
      refine ex_isubN (by omega) dX10_append_70 ?_
      refine ex_icmpN_le (tgt := 76) (by decide) dX10_append_71 (by omega) (by omega) (fun c2 => ?_) (fun c2 => ?_)
      · refine ex_iconst (v := (nI 0)) (by decide) dX10_append_76 ?_
        refine ex_istore (by decide) rfl dX10_append_77 ?_
        exact l_append2 (by obtain rfl : k = 8 := (by omega); have h8 := oks_of (w := w) hok; simp [wok, h8]; omega) 9 0 (by omega) (by omega) h _ (by exact hT) Fr.rf
      · refine ex_iconst (v := (nI 0)) (by decide) dX10_append_74 ?_
        refine ex_zret dX10_append_75 rfl rfl (QA.no hT (by obtain rfl : k = 8 := (by omega); simp [wok]; intro _; omega))
    · refine ex_lload_n rfl dX10_append_12 ?_
      refine ex_iload rfl dX10_append_13 ?_
      refine ex_invsN (k := 0) (n := 0) (mc' := 0) (ms' := 0) (As := [_, _]) dX10_append_15 cs_X10_19 (by decide) (Nat.le_of_ble_eq_true rfl) (s_byteOf _ w (k := k) (by omega)) (fun v h' q => ?_)
      obtain ⟨rfl, rfl⟩ := q
      refine ex_istore (by decide) rfl dX10_append_18 ?_
      refine ex_iload rfl dX10_append_20 ?_
      refine ex_ifN_eq (tgt := 41) (by decide) dX10_append_22 (by omega) (fun c3 => ?_) (fun c3 => ?_)
      · refine ex_iload_n rfl dX10_append_41 ?_
        refine ex_iload rfl dX10_append_42 ?_
        refine ex_ifN_ne (tgt := 51) (by decide) dX10_append_44 (by omega) (fun c4 => ?_) (fun c4 => ?_)
        · refine ex_iconst (v := (nI 1)) (by decide) dX10_append_51 ?_
          refine ex_iaddN dX10_append_52 ?_
          refine ex_istore_n (by decide) rfl dX10_append_53 ?_
          refine ex_iincN (z := 1) rfl (by decide) rfl dX10_append_54 ?_
          refine ex_goto (tgt := 5) (by decide) dX10_append_57 ?_
          exact ex_lv [(0, .ref a), (1, .long w), (3, .int (nI (cntb w (k + 1)))), (4, .int (nI (k + 1)))] ⟨rfl, rfl, by show some (Value.int (nI (cntb w k + _))) = some (Value.int (nI (cntb w k + _))); first | exact absurd ‹byt w k = 0› ‹byt w k ≠ 0› | simp [*], rfl, trivial⟩ (ih (k + 1) (by omega) (by omega) (fun j hj => by rcases Nat.lt_or_ge j k with q | q; exact hok j q; rw [show j = k by omega]; simp [okb]; omega))
        · refine ex_iconst (v := (nI 0)) (by decide) dX10_append_47 ?_
          refine ex_goto (tgt := 52) (by decide) dX10_append_48 ?_
          refine ex_iaddN dX10_append_52 ?_
          refine ex_istore_n (by decide) rfl dX10_append_53 ?_
          refine ex_iincN (z := 1) rfl (by decide) rfl dX10_append_54 ?_
          refine ex_goto (tgt := 5) (by decide) dX10_append_57 ?_
          exact ex_lv [(0, .ref a), (1, .long w), (3, .int (nI (cntb w (k + 1)))), (4, .int (nI (k + 1)))] ⟨rfl, rfl, by show some (Value.int (nI (cntb w k + _))) = some (Value.int (nI (cntb w k + _))); first | exact absurd ‹byt w k = 0› ‹byt w k ≠ 0› | simp [*], rfl, trivial⟩ (ih (k + 1) (by omega) (by omega) (fun j hj => by rcases Nat.lt_or_ge j k with q | q; exact hok j q; rw [show j = k by omega]; simp [okb]; omega))
      · refine ex_iload rfl dX10_append_25 ?_
        refine ex_bipush (v := (nI 32)) (by decide) dX10_append_27 ?_
        refine ex_icmpN_lt (tgt := 39) (by decide) dX10_append_29 (by omega) (by omega) (fun c5 => ?_) (fun c5 => ?_)
        · refine ex_iconst (v := (nI 0)) (by decide) dX10_append_39 ?_
          refine ex_zret dX10_append_40 rfl rfl (QA.no hT (by rw [wok, oks_no (k := k) (by omega) (by simp [okb]; omega)]; rfl))
        · refine ex_iload rfl dX10_append_32 ?_
          refine ex_bipush (v := (nI 126)) (by decide) dX10_append_34 ?_
          refine ex_icmpN_le (tgt := 41) (by decide) dX10_append_36 (by omega) (by omega) (fun c6 => ?_) (fun c6 => ?_)
          · refine ex_iload_n rfl dX10_append_41 ?_
            refine ex_iload rfl dX10_append_42 ?_
            refine ex_ifN_ne (tgt := 51) (by decide) dX10_append_44 (by omega) (fun c7 => ?_) (fun c7 => ?_)
            · refine ex_iconst (v := (nI 1)) (by decide) dX10_append_51 ?_
              refine ex_iaddN dX10_append_52 ?_
              refine ex_istore_n (by decide) rfl dX10_append_53 ?_
              refine ex_iincN (z := 1) rfl (by decide) rfl dX10_append_54 ?_
              refine ex_goto (tgt := 5) (by decide) dX10_append_57 ?_
              exact ex_lv [(0, .ref a), (1, .long w), (3, .int (nI (cntb w (k + 1)))), (4, .int (nI (k + 1)))] ⟨rfl, rfl, by show some (Value.int (nI (cntb w k + _))) = some (Value.int (nI (cntb w k + _))); first | exact absurd ‹byt w k = 0› ‹byt w k ≠ 0› | simp [*], rfl, trivial⟩ (ih (k + 1) (by omega) (by omega) (fun j hj => by rcases Nat.lt_or_ge j k with q | q; exact hok j q; rw [show j = k by omega]; simp [okb]; omega))
            · refine ex_iconst (v := (nI 0)) (by decide) dX10_append_47 ?_
              refine ex_goto (tgt := 52) (by decide) dX10_append_48 ?_
              refine ex_iaddN dX10_append_52 ?_
              refine ex_istore_n (by decide) rfl dX10_append_53 ?_
              refine ex_iincN (z := 1) rfl (by decide) rfl dX10_append_54 ?_
              refine ex_goto (tgt := 5) (by decide) dX10_append_57 ?_
              exact ex_lv [(0, .ref a), (1, .long w), (3, .int (nI (cntb w (k + 1)))), (4, .int (nI (k + 1)))] ⟨rfl, rfl, by show some (Value.int (nI (cntb w k + _))) = some (Value.int (nI (cntb w k + _))); first | exact absurd ‹byt w k = 0› ‹byt w k ≠ 0› | simp [*], rfl, trivial⟩ (ih (k + 1) (by omega) (by omega) (fun j hj => by rcases Nat.lt_or_ge j k with q | q; exact hok j q; rw [show j = k by omega]; simp [okb]; omega))
          · refine ex_iconst (v := (nI 0)) (by decide) dX10_append_39 ?_
            refine ex_zret dX10_append_40 rfl rfl (QA.no hT (by rw [wok, oks_no (k := k) (by omega) (by simp [okb]; omega)]; rfl))
set_option maxHeartbeats 4000000 in
set_option maxRecDepth 100000 in
theorem s_append {G : EG} {l : Launch} {h : EH} {a b n : Nat} {t : Nat → Nat} {w : Int64} (hT : TX G h a b t n) : ES G l 1 mX10_append [.ref a, .long w] h 0 0 (QA G h a b t n w) eNoX := by
  refine es_of (by decide) rfl (Nat.le_of_ble_eq_true rfl) ?_
  refine ex_iconst (v := (nI 0)) (by decide) dX10_append_0 ?_
  refine ex_istore_n (by decide) rfl dX10_append_1 ?_
  refine ex_iconst (v := (nI 0)) (by decide) dX10_append_2 ?_
  refine ex_istore (by decide) rfl dX10_append_3 ?_
  exact l_append1 hT 9 0 (by omega) (by omega) (fun j hj => absurd hj (by omega))
