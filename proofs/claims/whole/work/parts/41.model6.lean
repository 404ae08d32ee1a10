/-! THE MODEL: accept -/
def y1A (y : MS) : MS := (va_up (ms y) 1 0, (mpo y, -1), y.2.2)
def ACC (y : MS) (v : Option Value) (y' : MS) : Prop := (∃ i, FW mSelf (mS y) (ms y 6) (some i) ∧ v = some (.int (nI 0)) ∧ y' = (va_up (ms y) 1 1, (mpo y, nI i), y.2.2)) ∨ (∃ i, FW mSelf (mS y) (ms y 6) none ∧ FAm y (some i) ∧ v = some (.int (nI 0)) ∧ y' = (va_up (ms y) 1 2, (mpo y, nI i), y.2.2)) ∨ (FW mSelf (mS y) (ms y 6) none ∧ FAm y none ∧ v = some (.int (nI (ms y' 12))) ∧ Kp [12, 13, 21] [6, 7, 8, 9, 10, 11, 12] (y1A y) y' ∧ ms y' 21 = 0 ∧ mN y' ∧ ∃ g rk, MP y' g rk ∧ CP mSelf (mS y) (ms y 6) (ms y 6) (mP y' g rk))
set_option maxHeartbeats 4000000 in
set_option maxRecDepth 100000 in
theorem l_ac1 {G : EG} {l : Launch} {h0 : EH} {M : Nat} {y0 : MS} (hB : mB y0) (hH : mH y0) (hW : FW mSelf (mS y0) (ms y0 6) none) (hA : FAm y0 none) : ∀ (f k : Nat), ms y0 6 - k < f → k ≤ ms y0 6 → ∀ (h : EH) (y : MS) (g rk : Nat → Nat), MD G h M y → Kp [12, 13, 21] [6, 7, 8, 9, 10, 11, 12] (y1A y0) y → MP y g rk → CP mSelf (mS y0) (ms y0 6) k (mP y g rk) → NC (mS y0) (ms y0 6) y → Fr (atN M) h0 h → Ex G l 6 mX12_accept (fun v h' => Fr (atN M) h0 h' ∧ ∃ y', MD G h' M y' ∧ ACC y0 v y') eNoX 0 0 67 [(0, .ref M), (1, .int (-1)), (2, .int (-1)), (3, .int (nI (k)))] [] h := by
  intro f
  induction f with
  | zero =>
    intro k h1 h2 h y g rk hM hK hP hcp hC hF
    omega
  | succ f ih =>
    intro k h1 h2 h y g rk hM hK hP hcp hC hF
    have hn := hB.1
    obtain ⟨eS, e6, hB1, hH1⟩ := hK.all (by decide)
    have eS : mS y = mS y0 := eS
    have e6 : ms y 6 = ms y0 6 := e6
    have hNW : NW mSelf (mS y) (ms y 6) := by rw [eS, e6]; exact (hW.2 rfl).1
    have hC' : NC (mS y) (ms y 6) y := by rw [eS, e6]; exact hC
    have hcp' : CP mSelf (mS y) (ms y 6) k (mP y g rk) := by rw [eS, e6]; exact hcp
    refine ex_iload_n rfl dX12_accept_67 ?_
    refine ex_aload_n rfl dX12_accept_68 ?_
    refine ex_get dX12_accept_69 gf_X12_107 hM.1 rfl ?_
    refine ex_icmpN_ge (tgt := 86) (by decide) dX12_accept_72 (by omega) (by omega) (fun c1 => ?_) (fun c1 => ?_)
    · refine ex_aload_n rfl dX12_accept_86 ?_
      refine ex_iconst (v := (nI 0)) (by decide) dX12_accept_87 ?_
      refine ex_put dX12_accept_88 pf_X12_200 hM.1 (Nat.le_of_ble_eq_true rfl) rfl rfl ?_
      refine ex_aload_n rfl dX12_accept_91 ?_
      refine ex_get dX12_accept_92 gf_X12_172 hup_eq rfl ?_
      refine ex_iret dX12_accept_95 rfl ⟨hF.up ⟨by omega, by omega⟩, (va_up (ms y) 21 0, y.2), hM.ob' (va_up (ms y) 21 0) (mpo y) (mfa y) rfl, Or.inr (Or.inr ⟨hW, hA, rfl, hK.fd (by decide), rfl, hC.2.2, g, rk, hP, (by rw [show k = ms y0 6 by omega] at hcp; exact hcp)⟩)⟩
    · refine ex_aload_n rfl dX12_accept_75 ?_
      refine ex_iload_n rfl dX12_accept_76 ?_
      refine ex_invv (k := 0) (n := 0) (mc' := 0) (ms' := 0) (As := [_]) dX12_accept_77 cv_X12_196 (by decide) (Nat.le_of_ble_eq_true rfl) (Or.inl ⟨_, _, _, _, hM.1, rfl⟩) (t_put hM (hB1 hB) (hH1 hH) hNW hC' hP (s := k) (by omega) hcp') (fun v h' q => ?_)
      obtain ⟨rfl, y2, g2, rk2, hM2, hK2, hP2, hc2, hF2⟩ := q
      rw [eS, e6] at hc2
      refine ex_iincN (z := 1) rfl (by decide) rfl dX12_accept_80 ?_
      refine ex_goto (tgt := 67) (by decide) dX12_accept_83 ?_
      exact ih (k + 1) (by omega) (by omega) _ y2 g2 rk2 hM2 (hK.tr (hK2.wk (by decide) (by decide))) hP2 hc2 (by unfold NC mN; rw [hK2.2.2 11 (by decide), hK2.2.2 12 (by decide)]; exact hC) (hF.tr hF2)
set_option maxHeartbeats 4000000 in
set_option maxRecDepth 100000 in
theorem l_ac0 {G : EG} {l : Launch} {h0 : EH} {M : Nat} {y0 : MS} (hB : mB y0) (hH : mH y0) (hW : FW mSelf (mS y0) (ms y0 6) none) (hA : FAm y0 none) (hY : mN y0) {h : EH} (hM : MD G h M (y1A y0)) (hF : Fr (atN M) h0 h) : Ex G l 6 mX12_accept (fun v h' => Fr (atN M) h0 h' ∧ ∃ y', MD G h' M y' ∧ ACC y0 v y') eNoX 0 0 61 [(0, .ref M), (1, .int (-1)), (2, .int (-1))] [] h := by
  have hn := hB.1
  refine ex_aload_n rfl dX12_accept_61 ?_
  refine ex_invv (k := 0) (n := 0) (mc' := 0) (ms' := 0) (As := []) dX12_accept_62 cv_X12_193 (by decide) (Nat.le_of_ble_eq_true rfl) (Or.inl ⟨_, _, _, _, hM.1, rfl⟩) (t_begin hM (y := y1A y0) hB hH (hW.2 rfl).1 hY) (fun v h' q => ?_)
  obtain ⟨rfl, y2, hM2, hK2, hD, hP, hC, hF2⟩ := q
  refine ex_iconst (v := (nI 0)) (by decide) dX12_accept_65 ?_
  refine ex_istore_n (by decide) rfl dX12_accept_66 ?_
  exact ex_lv [(0, .ref M), (1, .int (-1)), (2, .int (-1)), (3, .int (nI (0)))] ⟨rfl, rfl, rfl, rfl, trivial⟩ (l_ac1 hB hH hW hA (ms y0 6 + 1) 0 (by omega) (by omega) _ y2 _ _ hM2 (hK2.wk (by decide) (by decide)) hP (DC.cp (hW.2 rfl).1 hD) hC (hF.tr hF2))
set_option maxHeartbeats 4000000 in
set_option maxRecDepth 100000 in
theorem t_accept {G : EG} {l : Launch} {h : EH} {M : Nat} {y : MS} (hM : MD G h M y) (hB : mB y) (hH : mH y) (hY : mN y) : ES G l 6 mX12_accept [.ref M] h 0 0 (fun v h' => Fr (atN M) h h' ∧ ∃ y', MD G h' M y' ∧ ACC y v y') eNoX := by
  have hn := hB.1
  refine es_of (by decide) rfl (Nat.le_of_ble_eq_true rfl) ?_
  refine ex_aload_n rfl dX12_accept_0 ?_
  refine ex_invv (k := 0) (n := 0) (mc' := 0) (ms' := 0) (As := []) dX12_accept_1 cv_X12_187 (by decide) (Nat.le_of_ble_eq_true rfl) (Or.inl ⟨_, _, _, _, hM.1, rfl⟩) (t_firstWrong hM hB hH) (fun v h' q => ?_)
  obtain ⟨r1, rfl, rfl, hw⟩ := q
  rcases r1 with _ | i
  · rw [show oI none = (-1 : Int32) from rfl]
    refine ex_istore_n (by decide) rfl dX12_accept_4 ?_
    refine ex_iload_n rfl dX12_accept_5 ?_
    refine ex_if_ge (tgt := 16) (by decide) dX12_accept_6 (fun c1 => ?_) (fun c1 => ?_)
    · exact absurd c1 (by decide)
    · refine ex_aload_n rfl dX12_accept_9 ?_
      refine ex_invv (k := 0) (n := 0) (mc' := 0) (ms' := 0) (As := []) dX12_accept_10 cv_X12_190 (by decide) (Nat.le_of_ble_eq_true rfl) (Or.inl ⟨_, _, _, _, hM.1, rfl⟩) (t_firstAgainst hM hB hH) (fun v h' q => ?_)
      obtain ⟨r2, rfl, rfl, hfa⟩ := q
      refine ex_goto (tgt := 17) (by decide) dX12_accept_13 ?_
      rcases r2 with _ | j
      · rw [show oI none = (-1 : Int32) from rfl]
        refine ex_istore_n (by decide) rfl dX12_accept_17 ?_
        refine ex_aload_n rfl dX12_accept_18 ?_
        refine ex_iload_n rfl dX12_accept_19 ?_
        refine ex_if_lt (tgt := 27) (by decide) dX12_accept_20 (fun c2 => ?_) (fun c2 => ?_)
        · refine ex_iload_n rfl dX12_accept_27 ?_
          refine ex_put dX12_accept_28 pf_X12_30 hM.1 (Nat.le_of_ble_eq_true rfl) rfl rfl ?_
          refine ex_aload_n rfl dX12_accept_31 ?_
          refine ex_iload_n rfl dX12_accept_32 ?_
          refine ex_if_lt (tgt := 40) (by decide) dX12_accept_33 (fun c3 => ?_) (fun c3 => ?_)
          · refine ex_iload_n rfl dX12_accept_40 ?_
            refine ex_if_lt (tgt := 48) (by decide) dX12_accept_41 (fun c4 => ?_) (fun c4 => ?_)
            · refine ex_iconst (v := (nI 0)) (by decide) dX12_accept_48 ?_
              refine ex_put dX12_accept_49 pf_X12_76 hup_eq (Nat.le_of_ble_eq_true rfl) rfl rfl ?_
              refine ex_aload_n rfl dX12_accept_52 ?_
              refine ex_get dX12_accept_53 gf_X12_76 hup_eq rfl ?_
              refine ex_ifN_le (tgt := 61) (by decide) dX12_accept_56 (by first | omega | (have := (hw.1 _ rfl); omega) | (have := (hfa.1 _ rfl).1; omega) | (rcases hw.1 _ rfl with z | z <;> (have := z.1; omega))) (fun c5 => ?_) (fun c5 => ?_)
              · exact l_ac0 hB hH hw hfa hY ((hM.ob' (ms y) (mpo y) (-1) rfl).ob' (va_up (ms y) 1 0) (mpo y) (-1) rfl) ((Fr.rf.up ⟨by omega, by omega⟩).up ⟨by omega, by omega⟩)
              · exact absurd c5 (by decide)
            · exact absurd c4 (by decide)
          · exact absurd c3 (by decide)
        · exact absurd c2 (by decide)
      · rw [oI_s]
        refine ex_istore_n (by decide) rfl dX12_accept_17 ?_
        refine ex_aload_n rfl dX12_accept_18 ?_
        refine ex_iload_n rfl dX12_accept_19 ?_
        refine ex_if_lt (tgt := 27) (by decide) dX12_accept_20 (fun c6 => ?_) (fun c6 => ?_)
        · refine ex_iload_n rfl dX12_accept_27 ?_
          refine ex_put dX12_accept_28 pf_X12_30 hM.1 (Nat.le_of_ble_eq_true rfl) rfl rfl ?_
          refine ex_aload_n rfl dX12_accept_31 ?_
          refine ex_iload_n rfl dX12_accept_32 ?_
          refine ex_if_lt (tgt := 40) (by decide) dX12_accept_33 (fun c7 => ?_) (fun c7 => ?_)
          · refine ex_iload_n rfl dX12_accept_40 ?_
            refine ex_ifN_lt (tgt := 48) (by decide) dX12_accept_41 (by first | omega | (have := (hw.1 _ rfl); omega) | (have := (hfa.1 _ rfl).1; omega) | (rcases hw.1 _ rfl with z | z <;> (have := z.1; omega))) (fun c8 => ?_) (fun c8 => ?_)
            · exact c8.elim
            · refine ex_iconst (v := (nI 2)) (by decide) dX12_accept_44 ?_
              refine ex_goto (tgt := 49) (by decide) dX12_accept_45 ?_
              refine ex_put dX12_accept_49 pf_X12_76 hup_eq (Nat.le_of_ble_eq_true rfl) rfl rfl ?_
              refine ex_aload_n rfl dX12_accept_52 ?_
              refine ex_get dX12_accept_53 gf_X12_76 hup_eq rfl ?_
              refine ex_ifN_le (tgt := 61) (by decide) dX12_accept_56 (by first | omega | (have := (hw.1 _ rfl); omega) | (have := (hfa.1 _ rfl).1; omega) | (rcases hw.1 _ rfl with z | z <;> (have := z.1; omega))) (fun c9 => ?_) (fun c9 => ?_)
              · exact absurd c9 (by decide)
              · refine ex_iconst (v := (nI 0)) (by decide) dX12_accept_59 ?_
                refine ex_iret dX12_accept_60 rfl ⟨(Fr.rf.up ⟨by omega, by omega⟩).up ⟨by omega, by omega⟩, (va_up (ms y) 1 2, (mpo y, nI j), y.2.2), (hM.ob' (ms y) (mpo y) (nI j) rfl).ob' (va_up (ms y) 1 2) (mpo y) (nI j) rfl, Or.inr (Or.inl ⟨j, hw, hfa, rfl, rfl⟩)⟩
          · exact absurd c7 (by decide)
        · exact absurd c6 (by decide)
  · rw [oI_s]
    refine ex_istore_n (by decide) rfl dX12_accept_4 ?_
    refine ex_iload_n rfl dX12_accept_5 ?_
    refine ex_ifN_ge (tgt := 16) (by decide) dX12_accept_6 (by first | omega | (have := (hw.1 _ rfl); omega) | (have := (hfa.1 _ rfl).1; omega) | (rcases hw.1 _ rfl with z | z <;> (have := z.1; omega))) (fun c10 => ?_) (fun c10 => ?_)
    · refine ex_iconst (v := (-1)) (by decide) dX12_accept_16 ?_
      refine ex_istore_n (by decide) rfl dX12_accept_17 ?_
      refine ex_aload_n rfl dX12_accept_18 ?_
      refine ex_iload_n rfl dX12_accept_19 ?_
      refine ex_ifN_lt (tgt := 27) (by decide) dX12_accept_20 (by first | omega | (have := (hw.1 _ rfl); omega) | (have := (hfa.1 _ rfl).1; omega) | (rcases hw.1 _ rfl with z | z <;> (have := z.1; omega))) (fun c11 => ?_) (fun c11 => ?_)
      · exact c11.elim
      · refine ex_iload_n rfl dX12_accept_23 ?_
        refine ex_goto (tgt := 28) (by decide) dX12_accept_24 ?_
        refine ex_put dX12_accept_28 pf_X12_30 hM.1 (Nat.le_of_ble_eq_true rfl) rfl rfl ?_
        refine ex_aload_n rfl dX12_accept_31 ?_
        refine ex_iload_n rfl dX12_accept_32 ?_
        refine ex_ifN_lt (tgt := 40) (by decide) dX12_accept_33 (by first | omega | (have := (hw.1 _ rfl); omega) | (have := (hfa.1 _ rfl).1; omega) | (rcases hw.1 _ rfl with z | z <;> (have := z.1; omega))) (fun c12 => ?_) (fun c12 => ?_)
        · exact c12.elim
        · refine ex_iconst (v := (nI 1)) (by decide) dX12_accept_36 ?_
          refine ex_goto (tgt := 49) (by decide) dX12_accept_37 ?_
          refine ex_put dX12_accept_49 pf_X12_76 hup_eq (Nat.le_of_ble_eq_true rfl) rfl rfl ?_
          refine ex_aload_n rfl dX12_accept_52 ?_
          refine ex_get dX12_accept_53 gf_X12_76 hup_eq rfl ?_
          refine ex_ifN_le (tgt := 61) (by decide) dX12_accept_56 (by first | omega | (have := (hw.1 _ rfl); omega) | (have := (hfa.1 _ rfl).1; omega) | (rcases hw.1 _ rfl with z | z <;> (have := z.1; omega))) (fun c13 => ?_) (fun c13 => ?_)
          · exact absurd c13 (by decide)
          · refine ex_iconst (v := (nI 0)) (by decide) dX12_accept_59 ?_
            refine ex_iret dX12_accept_60 rfl ⟨(Fr.rf.up ⟨by omega, by omega⟩).up ⟨by omega, by omega⟩, (va_up (ms y) 1 1, (mpo y, nI i), y.2.2), (hM.ob' (ms y) (mpo y) (nI i) rfl).ob' (va_up (ms y) 1 1) (mpo y) (nI i) rfl, Or.inl ⟨i, hw, rfl, rfl⟩⟩
    · exact c10.elim
