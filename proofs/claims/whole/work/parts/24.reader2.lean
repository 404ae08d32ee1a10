/-! READER, second part: lists, marks, keywords, a whole statement -/
section EXO
variable {G : EG} {l : Launch} {d : Nat} {M : EM} {Q : Option Value → EH → Prop} {X : String → EH → Prop} {k n pc : Nat} {lv : List (Nat × Value)} {rest st : List Value} {h : EH}
theorem ex_ifO_ge {o : Option Nat} {off : Int} {tgt : Nat} (ht : (pc : Int) + off = (tgt : Int)) (hd : decode (eC M) pc = .ok (.ifCond .ge off, 3)) (ho : ∀ j, o = some j → j < 2 ^ 31) (kt : ∀ j, o = some j → Ex G l d M Q X k n tgt lv rest h) (kf : o = none → Ex G l d M Q X k n (pc + 3) lv rest h) : Ex G l d M Q X k n pc lv (.int (oI o) :: rest) h := ex_if_ge ht hd (fun q => by
  cases o with
  | none => exact absurd q (by decide)
  | some j => exact kt j rfl) (fun q => by
  cases o with
  | none => exact kf rfl
  | some j => exact absurd (nI_pos' (ho j rfl)) q)
end EXO
/-- a list of names, j more at most: it may end from few on -/
def pLs (t : Nat → Nat) (n few : Nat) : Nat → Nat → Nat → Stm → Bool × Nat × Stm
  | 0, _, p, s => (decide (n ≤ p), p, s)
  | j + 1, k, p, s => if few ≤ k ∧ n ≤ p then (true, p, s) else if bl t n p then (if 0 < nlet t n (p + 1) 4 then pLs t n few j (k + 1) (p + 1 + nlet t n (p + 1) 4) (psh s (pck t (p + 1) 0 (nlet t n (p + 1) 4))) else (false, p + 1, s)) else (false, p, s)
theorem pLs_e {t : Nat → Nat} {n few j k p : Nat} {s : Stm} (h : few ≤ k) (h2 : n ≤ p) : pLs t n few (j + 1) k p s = (true, p, s) := by unfold pLs; rw [if_pos ⟨h, h2⟩]
theorem pLs_0 {t : Nat → Nat} {n few j k p : Nat} {s : Stm} (h0 : ¬ (few ≤ k ∧ n ≤ p)) (h : bl t n p = false) : pLs t n few (j + 1) k p s = (false, p, s) := by unfold pLs; rw [if_neg h0, h]; rfl
theorem pLs_1 {t : Nat → Nat} {n few j k p : Nat} {s : Stm} (h0 : ¬ (few ≤ k ∧ n ≤ p)) (h : bl t n p = true) (h2 : ¬ 0 < nlet t n (p + 1) 4) : pLs t n few (j + 1) k p s = (false, p + 1, s) := by unfold pLs; rw [if_neg h0, h, if_pos rfl, if_neg h2]
theorem pLs_2 {t : Nat → Nat} {n few j k p : Nat} {s : Stm} (h0 : ¬ (few ≤ k ∧ n ≤ p)) (h : bl t n p = true) (h2 : 0 < nlet t n (p + 1) 4) : pLs t n few (j + 1) k p s = pLs t n few j (k + 1) (p + 1 + nlet t n (p + 1) 4) (psh s (pck t (p + 1) 0 (nlet t n (p + 1) 4))) := by conv => lhs; unfold pLs; rw [if_neg h0, h, if_pos rfl, if_pos h2]
theorem bl_lt {t : Nat → Nat} {n p : Nat} (h : bl t n p = true) : p < n := (of_decide_eq_true h).1
set_option maxHeartbeats 4000000 in
set_option maxRecDepth 100000 in
theorem l_list {G : EG} {l : Launch} {h0 : EH} {r ta tb n : Nat} {t : Nat → Nat} (hb : ∀ j, t j < 128) (hn : n ≤ 72) (hra : r ≠ ta) (hrb : r ≠ tb) {a b : Nat} (h3 : r ≠ a) (h4 : r ≠ b) (h5 : ta ≠ a) (h6 : ta ≠ b) (h7 : tb ≠ a) (h8 : tb ≠ b) {few m : Nat} (hfw : few ≤ 9) (hm : m ≤ 9) {x : Bool × Nat × Stm} : ∀ (f k : Nat), m - k < f → k ≤ m → ∀ (h : EH) (p : Nat) (s : Stm), p ≤ 76 → sz s + (m - k) ≤ 9 → RD h r ta p → TX G h ta tb t n → ST G h a b s → Fr (atR r a b) h0 h → pLs t n few (m - k) k p s = x → Ex G l 2 mX8_list (QP G h0 r ta a b x) eNoX 0 0 3 [(0, .ref r), (1, .ref a), (2, .int (nI few)), (3, .int (nI m)), (4, .int (nI k))] [] h := by
  intro f
  induction f with
  | zero =>
    intro k h1 h2
    omega
  | succ f ih =>
    intro k h1 h2 h p s hpp hss hR1 hT1 hS1 hF hx
    have hnl := nlet_le t n 4 (p + 1)
    refine ex_iload rfl dX8_list_3 ?_
    refine ex_iload_n rfl dX8_list_5 ?_
    refine ex_icmpN_ge (tgt := 47) (by decide) dX8_list_6 (by omega) (by omega) (fun c1 => ?_) (fun c1 => ?_)
    · refine ex_aload_n rfl dX8_list_47 ?_
      refine ex_invv (k := 0) (n := 0) (mc' := 0) (ms' := 0) (As := []) dX8_list_48 cv_X8_102 (by decide) (Nat.le_of_ble_eq_true rfl) (Or.inl ⟨_, _, _, _, hR1, rfl⟩) (s_atEnd hR1 hT1 hb (by omega) hra hrb) (fun v h' q => ?_)
      obtain ⟨rfl, rfl⟩ := q
      refine ex_zret dX8_list_51 rfl (b2i_nb _) (by rw [show m - k = 0 by omega] at hx; subst hx; exact ⟨rfl, hR1, hS1, hF⟩)
    · refine ex_iload rfl dX8_list_9 ?_
      refine ex_iload_n rfl dX8_list_11 ?_
      refine ex_icmpN_lt (tgt := 24) (by decide) dX8_list_12 (by omega) (by omega) (fun c2 => ?_) (fun c2 => ?_)
      · refine ex_aload_n rfl dX8_list_24 ?_
        refine ex_invv (k := 0) (n := 0) (mc' := 0) (ms' := 0) (As := []) dX8_list_25 cv_X8_92 (by decide) (Nat.le_of_ble_eq_true rfl) (Or.inl ⟨_, _, _, _, hR1, rfl⟩) (s_blank hR1 hT1 hb (by omega) hra hrb) (fun v h' q => ?_)
        obtain ⟨rfl, hR2, hF2⟩ := q
        have hT2 := hT1.fr hF2 hra.symm hrb.symm
        have hS2 := hS1.fr hF2 h3.symm h4.symm
        refine ex_ifB_eq (tgt := 39) (by decide) dX8_list_28 (fun c3 => ?_) (fun c3 => ?_)
        · refine ex_iconst (v := (nI 0)) (by decide) dX8_list_39 ?_
          refine ex_zret dX8_list_40 rfl rfl (by rw [show m - k = (m - (k + 1)) + 1 by omega, pLs_0 (by omega) c3] at hx; subst hx; rw [c3] at hR2; exact ⟨rfl, hR2, hS2, hF.tr (hF2.wk (fun q z => Or.inl z))⟩)
        · refine ex_aload_n rfl dX8_list_31 ?_
          refine ex_aload_n rfl dX8_list_32 ?_
          refine ex_invv (k := 0) (n := 0) (mc' := 0) (ms' := 0) (As := [_]) dX8_list_33 cv_X8_96 (by decide) (Nat.le_of_ble_eq_true rfl) (Or.inl ⟨_, _, _, _, hR2, rfl⟩) (s_name (p := p + 1) (by rw [c3] at hR2; exact hR2) hT2 hb (by have := bl_lt c3; omega) hra hrb hS2 h3 h4 h5 h6 h7 h8 (by omega)) (fun v h' q => ?_)
          obtain ⟨rfl, hR3, hS3, hF3⟩ := q
          have hT3 := hT2.fr hF3 (by rintro (z | z | z); exact hra z.symm; exact h5 z; exact h6 z) (by rintro (z | z | z); exact hrb z.symm; exact h7 z; exact h8 z)
          refine ex_ifB_ne (tgt := 41) (by decide) dX8_list_36 (fun c4 => ?_) (fun c4 => ?_)
          · refine ex_iincN (z := 1) rfl (by decide) rfl dX8_list_41 ?_
            refine ex_goto (tgt := 3) (by decide) dX8_list_44 ?_
            exact ih (k + 1) (by omega) (by omega) _ _ _ (by have := bl_lt c3; omega) (by rw [if_pos (of_decide_eq_true c4)]; show sz s + 1 + _ ≤ 9; omega) hR3 hT3 hS3 ((hF.tr (hF2.wk (fun q z => Or.inl z))).tr hF3) (by rw [if_pos (of_decide_eq_true c4)]; rw [show m - k = (m - (k + 1)) + 1 by omega, pLs_2 (by omega) c3 (of_decide_eq_true c4)] at hx; exact hx)
          · refine ex_iconst (v := (nI 0)) (by decide) dX8_list_39 ?_
            refine ex_zret dX8_list_40 rfl rfl (by have h9 : ¬ 0 < nlet t n (p + 1) 4 := of_decide_eq_false c4; rw [show m - k = (m - (k + 1)) + 1 by omega, pLs_1 (by omega) c3 h9] at hx; subst hx; rw [if_neg h9] at hS3; rw [show nlet t n (p + 1) 4 = 0 by omega] at hR3; exact ⟨rfl, hR3, hS3, (hF.tr (hF2.wk (fun q z => Or.inl z))).tr hF3⟩)
      · refine ex_aload_n rfl dX8_list_15 ?_
        refine ex_invv (k := 0) (n := 0) (mc' := 0) (ms' := 0) (As := []) dX8_list_16 cv_X8_102 (by decide) (Nat.le_of_ble_eq_true rfl) (Or.inl ⟨_, _, _, _, hR1, rfl⟩) (s_atEnd hR1 hT1 hb (by omega) hra hrb) (fun v h' q => ?_)
        obtain ⟨rfl, rfl⟩ := q
        refine ex_ifB_eq (tgt := 24) (by decide) dX8_list_19 (fun c5 => ?_) (fun c5 => ?_)
        · refine ex_aload_n rfl dX8_list_24 ?_
          refine ex_invv (k := 0) (n := 0) (mc' := 0) (ms' := 0) (As := []) dX8_list_25 cv_X8_92 (by decide) (Nat.le_of_ble_eq_true rfl) (Or.inl ⟨_, _, _, _, hR1, rfl⟩) (s_blank hR1 hT1 hb (by omega) hra hrb) (fun v h' q => ?_)
          obtain ⟨rfl, hR2, hF2⟩ := q
          have hT2 := hT1.fr hF2 hra.symm hrb.symm
          have hS2 := hS1.fr hF2 h3.symm h4.symm
          refine ex_ifB_eq (tgt := 39) (by decide) dX8_list_28 (fun c6 => ?_) (fun c6 => ?_)
          · refine ex_iconst (v := (nI 0)) (by decide) dX8_list_39 ?_
            refine ex_zret dX8_list_40 rfl rfl (by rw [show m - k = (m - (k + 1)) + 1 by omega, pLs_0 (fun z => absurd z.2 (of_decide_eq_false c5)) c6] at hx; subst hx; rw [c6] at hR2; exact ⟨rfl, hR2, hS2, hF.tr (hF2.wk (fun q z => Or.inl z))⟩)
          · refine ex_aload_n rfl dX8_list_31 ?_
            refine ex_aload_n rfl dX8_list_32 ?_
            refine ex_invv (k := 0) (n := 0) (mc' := 0) (ms' := 0) (As := [_]) dX8_list_33 cv_X8_96 (by decide) (Nat.le_of_ble_eq_true rfl) (Or.inl ⟨_, _, _, _, hR2, rfl⟩) (s_name (p := p + 1) (by rw [c6] at hR2; exact hR2) hT2 hb (by have := bl_lt c6; omega) hra hrb hS2 h3 h4 h5 h6 h7 h8 (by omega)) (fun v h' q => ?_)
            obtain ⟨rfl, hR3, hS3, hF3⟩ := q
            have hT3 := hT2.fr hF3 (by rintro (z | z | z); exact hra z.symm; exact h5 z; exact h6 z) (by rintro (z | z | z); exact hrb z.symm; exact h7 z; exact h8 z)
            refine ex_ifB_ne (tgt := 41) (by decide) dX8_list_36 (fun c7 => ?_) (fun c7 => ?_)
            · refine ex_iincN (z := 1) rfl (by decide) rfl dX8_list_41 ?_
              refine ex_goto (tgt := 3) (by decide) dX8_list_44 ?_
              exact ih (k + 1) (by omega) (by omega) _ _ _ (by have := bl_lt c6; omega) (by rw [if_pos (of_decide_eq_true c7)]; show sz s + 1 + _ ≤ 9; omega) hR3 hT3 hS3 ((hF.tr (hF2.wk (fun q z => Or.inl z))).tr hF3) (by rw [if_pos (of_decide_eq_true c7)]; rw [show m - k = (m - (k + 1)) + 1 by omega, pLs_2 (fun z => absurd z.2 (of_decide_eq_false c5)) c6 (of_decide_eq_true c7)] at hx; exact hx)
            · refine ex_iconst (v := (nI 0)) (by decide) dX8_list_39 ?_
              refine ex_zret dX8_list_40 rfl rfl (by have h9 : ¬ 0 < nlet t n (p + 1) 4 := of_decide_eq_false c7; rw [show m - k = (m - (k + 1)) + 1 by omega, pLs_1 (fun z => absurd z.2 (of_decide_eq_false c5)) c6 h9] at hx; subst hx; rw [if_neg h9] at hS3; rw [show nlet t n (p + 1) 4 = 0 by omega] at hR3; exact ⟨rfl, hR3, hS3, (hF.tr (hF2.wk (fun q z => Or.inl z))).tr hF3⟩)
        · refine ex_iconst (v := (nI 1)) (by decide) dX8_list_22 ?_
          refine ex_zret dX8_list_23 rfl rfl (by rw [show m - k = (m - (k + 1)) + 1 by omega, pLs_e (by omega) (of_decide_eq_true c5)] at hx; subst hx; exact ⟨rfl, hR1, hS1, hF⟩)
set_option maxHeartbeats 4000000 in
set_option maxRecDepth 100000 in
theorem s_list {G : EG} {l : Launch} {h : EH} {r ta tb p n : Nat} {t : Nat → Nat} (hR : RD h r ta p) (hT : TX G h ta tb t n) (hb : ∀ j, t j < 128) (hp : p ≤ 76) (hra : r ≠ ta) (hrb : r ≠ tb) {a b : Nat} {s : Stm} (hS : ST G h a b s) (h3 : r ≠ a) (h4 : r ≠ b) (h5 : ta ≠ a) (h6 : ta ≠ b) (h7 : tb ≠ a) (h8 : tb ≠ b) {few m : Nat} (hfw : few ≤ 9) (hm : m ≤ 9) (hsz : sz s + m ≤ 9) : ES G l 2 mX8_list [.ref r, .ref a, .int (nI few), .int (nI m)] h 0 0 (QP G h r ta a b (pLs t n few m 0 p s)) eNoX := by
  refine es_of (by decide) rfl (Nat.le_of_ble_eq_true rfl) ?_
  refine ex_iconst (v := (nI 0)) (by decide) dX8_list_0 ?_
  refine ex_istore (by decide) rfl dX8_list_1 ?_
  exact l_list hb hT.2.2.1 hra hrb h3 h4 h5 h6 h7 h8 hfw hm (m + 1) 0 (by omega) (by omega) h p s (by omega) (by omega) hR hT hS Fr.rf rfl
/-- a mark, one of the characters of constant text i, if it has any -/
def pMk (t : Nat → Nat) (n i p : Nat) (s : Stm) : Bool × Nat × Stm := if kLen i = 0 then (true, p, s) else if bl t n p then (if n ≤ p + 1 then (false, p + 1, s) else match fnd (kCh i) (t (p + 1)) 0 (kLen i) with
  | none => (false, p + 1, s)
  | some j => (true, p + 2, (kd s, sz s, j, wd s))) else (false, p, s)
set_option maxHeartbeats 4000000 in
set_option maxRecDepth 100000 in
theorem s_mark_ {G : EG} {l : Launch} {h : EH} {r ta tb p n : Nat} {t : Nat → Nat} (hR : RD h r ta p) (hT : TX G h ta tb t n) (hb : ∀ j, t j < 128) (hp : p ≤ 76) (hra : r ≠ ta) (hrb : r ≠ tb) {a b : Nat} {s : Stm} (hS : ST G h a b s) (h3 : r ≠ a) (h4 : r ≠ b) (h5 : ta ≠ a) (h6 : ta ≠ b) (h7 : tb ≠ a) (h8 : tb ≠ b) {i : Nat} (hi : i < 12) : ES G l 4 mX8_mark [.ref r, .ref a, .ref (ead G (16 + i))] h 0 0 (QP G h r ta a b (pMk t n i p s)) eNoX := by
  have hn := hT.2.2.1
  have hkl := kLen_le i hi
  refine es_of (by decide) rfl (Nat.le_of_ble_eq_true rfl) ?_
  refine ex_aload_n rfl dX8_mark_0 ?_
  refine ex_invv (k := 0) (n := 0) (mc' := 0) (ms' := 0) (As := []) dX8_mark_1 cv_X8_99 (by decide) (Nat.le_of_ble_eq_true rfl) (Or.inr (eOs hi)) (s_isEmpty _ hi) (fun v h' q => ?_)
  obtain ⟨rfl, rfl⟩ := q
  refine ex_ifB_eq (tgt := 9) (by decide) dX8_mark_4 (fun c1 => ?_) (fun c1 => ?_)
  · refine ex_aload_n rfl dX8_mark_9 ?_
    refine ex_invv (k := 0) (n := 0) (mc' := 0) (ms' := 0) (As := []) dX8_mark_10 cv_X8_92 (by decide) (Nat.le_of_ble_eq_true rfl) (Or.inl ⟨_, _, _, _, hR, rfl⟩) (s_blank hR hT hb (by omega) hra hrb) (fun v h' q => ?_)
    obtain ⟨rfl, hR2, hF2⟩ := q
    have hT2 := hT.fr hF2 hra.symm hrb.symm
    have hS2 := hS.fr hF2 h3.symm h4.symm
    refine ex_ifB_eq (tgt := 23) (by decide) dX8_mark_13 (fun c2 => ?_) (fun c2 => ?_)
    · refine ex_iconst (v := (nI 0)) (by decide) dX8_mark_23 ?_
      refine ex_zret dX8_mark_24 rfl rfl (by rw [pMk, if_neg (of_decide_eq_false c1), c2]; rw [c2] at hR2; exact ⟨rfl, hR2, hS2, hF2.wk (fun q z => Or.inl z)⟩)
    · rw [c2, if_pos rfl] at hR2
      refine ex_aload_n rfl dX8_mark_16 ?_
      refine ex_invv (k := 0) (n := 0) (mc' := 0) (ms' := 0) (As := []) dX8_mark_17 cv_X8_102 (by decide) (Nat.le_of_ble_eq_true rfl) (Or.inl ⟨_, _, _, _, hR2, rfl⟩) (s_atEnd hR2 hT2 hb (by have := bl_lt c2; omega) hra hrb) (fun v h' q => ?_)
      obtain ⟨rfl, rfl⟩ := q
      refine ex_ifB_eq (tgt := 25) (by decide) dX8_mark_20 (fun c3 => ?_) (fun c3 => ?_)
      · refine ex_aload_n rfl dX8_mark_25 ?_
        refine ex_aload_n rfl dX8_mark_26 ?_
        refine ex_get dX8_mark_27 gf_X8_15 hR2 rfl ?_
        refine ex_aload_n rfl dX8_mark_30 ?_
        refine ex_get dX8_mark_31 gf_X8_9 hR2 rfl ?_
        refine ex_invv (k := 0) (n := 0) (mc' := 0) (ms' := 0) (As := [_]) dX8_mark_34 cv_X8_82 (by decide) (Nat.le_of_ble_eq_true rfl) (Or.inl ⟨_, _, _, _, hT2.1, rfl⟩) (s_codeAt hT2 (i := p + 1) (by omega)) (fun v h' q => ?_)
        obtain ⟨rfl, rfl⟩ := q
        rw [if_pos (by have := of_decide_eq_false c3; omega)]
        refine ex_i2c dX8_mark_37 ?_
        rw [i2c_N (by have := hb (p + 1); omega)]
        refine ex_invv (k := 0) (n := 0) (mc' := 0) (ms' := 0) (As := [_]) dX8_mark_38 cv_X8_105 (by decide) (Nat.le_of_ble_eq_true rfl) (Or.inr (eOs hi)) (s_indexOf _ hi (hb (p + 1)) (by have := of_decide_eq_false c1; omega)) (fun v h' q => ?_)
        obtain ⟨rfl, rfl⟩ := q
        refine ex_istore_n (by decide) rfl dX8_mark_41 ?_
        refine ex_iload_n rfl dX8_mark_42 ?_
        refine ex_ifO_ge (tgt := 48) (by decide) dX8_mark_43 (fun j hj => by have := (fnd_some hj).2.1; have := kLen_le i hi; omega) (fun jc4 c4 => ?_) (fun c4 => ?_)
        · rw [c4]
          refine ex_aload_n rfl dX8_mark_48 ?_
          refine ex_iload_n rfl dX8_mark_49 ?_
          refine ex_invv (k := 0) (n := 0) (mc' := 0) (ms' := 0) (As := [_]) dX8_mark_50 cv_X8_108 (by decide) (Nat.le_of_ble_eq_true rfl) (Or.inl ⟨_, _, _, _, hS2.1, rfl⟩) (s_setMark hS2 jc4) (fun v h' q => ?_)
          obtain ⟨rfl, hS3, hF3⟩ := q
          refine ex_aload_n rfl dX8_mark_53 ?_
          refine ex_dup rfl dX8_mark_54 ?_
          refine ex_get dX8_mark_55 gf_X8_9 (RD.fr hR2 hF3 (fun z => z.elim h3 h4)) rfl ?_
          refine ex_iconst (v := (nI 1)) (by decide) dX8_mark_58 ?_
          refine ex_iaddN dX8_mark_59 ?_
          refine ex_put dX8_mark_60 pf_X8_9 (RD.fr hR2 hF3 (fun z => z.elim h3 h4)) (Nat.le_of_ble_eq_true rfl) rfl rfl ?_
          refine ex_iconst (v := (nI 1)) (by decide) dX8_mark_63 ?_
          refine ex_zret dX8_mark_64 rfl rfl (by rw [pMk, if_neg (of_decide_eq_false c1), c2, if_pos rfl, if_neg (of_decide_eq_false c3), c4]; exact ⟨rfl, hup_eq, hS3.up h3 h4, ((hF2.wk (fun q z => Or.inl z)).tr (hF3.wk (fun q z => Or.inr z))).up (Or.inl rfl)⟩)
        · refine ex_iconst (v := (nI 0)) (by decide) dX8_mark_46 ?_
          refine ex_zret dX8_mark_47 rfl rfl (by rw [pMk, if_neg (of_decide_eq_false c1), c2, if_pos rfl, if_neg (of_decide_eq_false c3), c4]; exact ⟨rfl, hR2, hS2, hF2.wk (fun q z => Or.inl z)⟩)
      · refine ex_iconst (v := (nI 0)) (by decide) dX8_mark_23 ?_
        refine ex_zret dX8_mark_24 rfl rfl (by rw [pMk, if_neg (of_decide_eq_false c1), c2, if_pos rfl, if_pos (of_decide_eq_true c3)]; exact ⟨rfl, hR2, hS2, hF2.wk (fun q z => Or.inl z)⟩)
  · refine ex_iconst (v := (nI 1)) (by decide) dX8_mark_7 ?_
    refine ex_zret dX8_mark_8 rfl rfl (by rw [pMk, if_pos (of_decide_eq_true c1)]; exact ⟨rfl, hR, hS, Fr.rf⟩)
/-- how many letters the text shares with constant text i, from j on -/
def lsh (t : Nat → Nat) (n i j : Nat) : Nat → Nat
  | 0 => j
  | r + 1 => if j < n ∧ t j = kCh i j then lsh t n i (j + 1) r else j
theorem lsh_y {t : Nat → Nat} {n i j r r' : Nat} (h : j < n ∧ t j = kCh i j) (hr : r = r' + 1) : lsh t n i j r = lsh t n i (j + 1) r' := by subst hr; exact if_pos h
theorem lsh_n {t : Nat → Nat} {n i j r : Nat} (h : ¬ (j < n ∧ t j = kCh i j)) : lsh t n i j r = j := by cases r with | zero => rfl | succ r => exact if_neg h
theorem lsh_le {t : Nat → Nat} {n i : Nat} : ∀ r j, lsh t n i j r ≤ j + r := by
  intro r
  induction r with
  | zero => intro j; exact Nat.le_refl _
  | succ r ih => intro j; unfold lsh; split; have := ih (j + 1); omega; omega
set_option maxHeartbeats 4000000 in
set_option maxRecDepth 100000 in
theorem l_letters {G : EG} {l : Launch} {h : EH} {r ta tb p n : Nat} {t : Nat → Nat} (hR : RD h r ta p) (hT : TX G h ta tb t n) (hb : ∀ j, t j < 128) (hp : p ≤ 80) (hra : r ≠ ta) (hrb : r ≠ tb) {i : Nat} (hi : i < 12) : ∀ (f k : Nat), kLen i - k < f → k ≤ kLen i → lsh t n i 0 (kLen i) = lsh t n i k (kLen i - k) → Ex G l 4 mX8_lettersShared (fun v h' => v = some (.int (nI (lsh t n i 0 (kLen i)))) ∧ h' = h) eNoX 0 0 2 [(0, .ref r), (1, .ref (ead G (16 + i))), (2, .int (nI k))] [] h := by
  intro f
  induction f with
  | zero =>
    intro k h1 h2
    omega
  | succ f ih =>
    intro k h1 h2 he
    have hkl := kLen_le i hi
    have hbk := hb k
    by_cases hc : k < n
    · refine ex_iload_n rfl dX8_lettersShared_2 ?_
      refine ex_aload_n rfl dX8_lettersShared_3 ?_
      refine ex_invv (k := 0) (n := 0) (mc' := 0) (ms' := 0) (As := []) dX8_lettersShared_4 cv_X8_66 (by decide) (Nat.le_of_ble_eq_true rfl) (Or.inr (eOs hi)) (s_slength _ hi) (fun v h' q => ?_)
      obtain ⟨rfl, rfl⟩ := q
      refine ex_icmpN_ge (tgt := 34) (by decide) dX8_lettersShared_7 (by omega) (by omega) (fun c1 => ?_) (fun c1 => ?_)
      · refine ex_aload_n rfl dX8_lettersShared_34 ?_
        refine ex_invv (k := 0) (n := 0) (mc' := 0) (ms' := 0) (As := []) dX8_lettersShared_35 cv_X8_66 (by decide) (Nat.le_of_ble_eq_true rfl) (Or.inr (eOs hi)) (s_slength _ hi) (fun v h' q => ?_)
        obtain ⟨rfl, rfl⟩ := q
        refine ex_iret dX8_lettersShared_38 rfl ⟨by rw [he, show kLen i - k = 0 by omega]; show _ = some (Value.int (nI k)); rw [show k = kLen i by omega], rfl⟩
      · refine ex_aload_n rfl dX8_lettersShared_10 ?_
        refine ex_get dX8_lettersShared_11 gf_X8_15 hR rfl ?_
        refine ex_iload_n rfl dX8_lettersShared_14 ?_
        refine ex_invv (k := 0) (n := 0) (mc' := 0) (ms' := 0) (As := [_]) dX8_lettersShared_15 cv_X8_82 (by decide) (Nat.le_of_ble_eq_true rfl) (Or.inl ⟨_, _, _, _, hT.1, rfl⟩) (s_codeAt hT (i := k) (by omega)) (fun v h' q => ?_)
        obtain ⟨rfl, rfl⟩ := q
        rw [if_pos hc]
        refine ex_aload_n rfl dX8_lettersShared_18 ?_
        refine ex_iload_n rfl dX8_lettersShared_19 ?_
        refine ex_invv (k := 0) (n := 0) (mc' := 0) (ms' := 0) (As := [_]) dX8_lettersShared_20 cv_X8_88 (by decide) (Nat.le_of_ble_eq_true rfl) (Or.inr (eOs hi)) (s_charAt _ hi (j := k) (by omega)) (fun v h' q => ?_)
        obtain ⟨rfl, rfl⟩ := q
        refine ex_icmpN_eq (tgt := 28) (by decide) dX8_lettersShared_23 (by omega) (by have := kCh_lt i hi k (by omega); omega) (fun c2 => ?_) (fun c2 => ?_)
        · refine ex_iincN (z := 1) rfl (by decide) rfl dX8_lettersShared_28 ?_
          refine ex_goto (tgt := 2) (by decide) dX8_lettersShared_31 ?_
          exact ih (k + 1) (by omega) (by omega) (he.trans (lsh_y ⟨hc, c2⟩ (by omega)))
        · refine ex_iload_n rfl dX8_lettersShared_26 ?_
          refine ex_iret dX8_lettersShared_27 rfl ⟨by rw [he, lsh_n (fun z => c2 z.2)], rfl⟩
    · refine ex_iload_n rfl dX8_lettersShared_2 ?_
      refine ex_aload_n rfl dX8_lettersShared_3 ?_
      refine ex_invv (k := 0) (n := 0) (mc' := 0) (ms' := 0) (As := []) dX8_lettersShared_4 cv_X8_66 (by decide) (Nat.le_of_ble_eq_true rfl) (Or.inr (eOs hi)) (s_slength _ hi) (fun v h' q => ?_)
      obtain ⟨rfl, rfl⟩ := q
      refine ex_icmpN_ge (tgt := 34) (by decide) dX8_lettersShared_7 (by omega) (by omega) (fun c1 => ?_) (fun c1 => ?_)
      · refine ex_aload_n rfl dX8_lettersShared_34 ?_
        refine ex_invv (k := 0) (n := 0) (mc' := 0) (ms' := 0) (As := []) dX8_lettersShared_35 cv_X8_66 (by decide) (Nat.le_of_ble_eq_true rfl) (Or.inr (eOs hi)) (s_slength _ hi) (fun v h' q => ?_)
        obtain ⟨rfl, rfl⟩ := q
        refine ex_iret dX8_lettersShared_38 rfl ⟨by rw [he, show kLen i - k = 0 by omega]; show _ = some (Value.int (nI k)); rw [show k = kLen i by omega], rfl⟩
      · refine ex_aload_n rfl dX8_lettersShared_10 ?_
        refine ex_get dX8_lettersShared_11 gf_X8_15 hR rfl ?_
        refine ex_iload_n rfl dX8_lettersShared_14 ?_
        refine ex_invv (k := 0) (n := 0) (mc' := 0) (ms' := 0) (As := [_]) dX8_lettersShared_15 cv_X8_82 (by decide) (Nat.le_of_ble_eq_true rfl) (Or.inl ⟨_, _, _, _, hT.1, rfl⟩) (s_codeAt hT (i := k) (by omega)) (fun v h' q => ?_)
        obtain ⟨rfl, rfl⟩ := q
        rw [if_neg hc]
        refine ex_aload_n rfl dX8_lettersShared_18 ?_
        refine ex_iload_n rfl dX8_lettersShared_19 ?_
        refine ex_invv (k := 0) (n := 0) (mc' := 0) (ms' := 0) (As := [_]) dX8_lettersShared_20 cv_X8_88 (by decide) (Nat.le_of_ble_eq_true rfl) (Or.inr (eOs hi)) (s_charAt _ hi (j := k) (by omega)) (fun v h' q => ?_)
        obtain ⟨rfl, rfl⟩ := q
        refine ex_icmp_eq (tgt := 28) (by decide) dX8_lettersShared_23 (fun c2 => ?_) (fun c2 => ?_)
        · refine ex_iincN (z := 1) rfl (by decide) rfl dX8_lettersShared_28 ?_
          refine ex_goto (tgt := 2) (by decide) dX8_lettersShared_31 ?_
          exact absurd c2.symm (nI_ne_m1 (by have := kCh_lt i hi k (by omega); omega))
        · refine ex_iload_n rfl dX8_lettersShared_26 ?_
          refine ex_iret dX8_lettersShared_27 rfl ⟨by rw [he, lsh_n (fun z => hc z.1)], rfl⟩
set_option maxHeartbeats 4000000 in
set_option maxRecDepth 100000 in
theorem s_letters {G : EG} {l : Launch} {h : EH} {r ta tb p n : Nat} {t : Nat → Nat} (hR : RD h r ta p) (hT : TX G h ta tb t n) (hb : ∀ j, t j < 128) (hp : p ≤ 80) (hra : r ≠ ta) (hrb : r ≠ tb) {i : Nat} (hi : i < 12) : ES G l 4 mX8_lettersShared [.ref r, .ref (ead G (16 + i))] h 0 0 (fun v h' => v = some (.int (nI (lsh t n i 0 (kLen i)))) ∧ h' = h) eNoX := by
  refine es_of (by decide) rfl (Nat.le_of_ble_eq_true rfl) ?_
  refine ex_iconst (v := (nI 0)) (by decide) dX8_lettersShared_0 ?_
  refine ex_istore_n (by decide) rfl dX8_lettersShared_1 ?_
  exact l_letters hR hT hb hp hra hrb hi (kLen i + 1) 0 (by omega) (by omega) rfl
