/-! THE DESK: all its parts at fixed places behind it -/
abbrev DS : Type := ((Nat → Nat) × Nat) × (Nat × (Nat → Stm)) × (Nat × List (Nat × Nat) × Nat × Nat) × (List Nat × List Nat) × Pol × (Int32 × Int32)
abbrev dt (x : DS) : Nat → Nat := x.1.1
abbrev dn (x : DS) : Nat := x.1.2
abbrev dm (x : DS) : Nat := x.2.1.1
abbrev dS (x : DS) : Nat → Stm := x.2.1.2
abbrev dcap (x : DS) : Nat := x.2.2.1.1
abbrev dL (x : DS) : List (Nat × Nat) := x.2.2.1.2.1
abbrev dhi (x : DS) : Nat := x.2.2.1.2.2.1
abbrev dmi (x : DS) : Nat := x.2.2.1.2.2.2
abbrev dW (x : DS) : List Nat := x.2.2.2.1.1
abbrev dF (x : DS) : List Nat := x.2.2.2.1.2
abbrev dp (x : DS) : Pol := x.2.2.2.2.1
abbrev der (x : DS) : Int32 := x.2.2.2.2.2.1
abbrev dfa (x : DS) : Int32 := x.2.2.2.2.2.2
abbrev dOb (D pa ca : Nat) (er fa : Int32) : va_E := .inr (7, [.ref (D + 1), .ref (D + 3), .ref (D + 4), .ref (D + 88), .ref (D + 91), .ref (D + 93), .ref pa, .ref ca, .int er, .int fa])
def DSK (G : EG) (h : EH) (D : Nat) (x : DS) : Prop := ∃ (pa ca rp wtk : Nat) (wbr : Bool) (wf : Nat → Nat) (ftk : Nat) (fbr : Bool) (ff : Nat → Nat) (q : Pol), ((pa = D + 95 ∧ ca = D + 101) ∨ (pa = D + 101 ∧ ca = D + 95)) ∧ h.2 D = some (dOb D pa ca (der x) (dfa x)) ∧ TX G h (D + 1) (D + 2) (dt x) (dn x) ∧ RD h (D + 3) (D + 1) rp ∧ DR G h (D + 4) (dm x) (dS x) ∧ MM G h (D + 88) (D + 89) (D + 90) (dcap x) (dL x) (dhi x) (dmi x) ∧ (BR G h (D + 91) (D + 92) (dW x).length wtk wbr wf ∧ bL wf (dW x).length (dW x)) ∧ (BR G h (D + 93) (D + 94) (dF x).length ftk fbr ff ∧ bL ff (dF x).length (dF x)) ∧ PL G h pa (dp x) ∧ PL G h ca q ∧ rp ≤ 80
/-- what stays outside the desk -/
def GF (D : Nat) (h h' : EH) : Prop := h.1 ≤ h'.1 ∧ ∀ q, q < h.1 → ¬ (D ≤ q ∧ q ≤ D + 106) → h'.2 q = h.2 q
theorem GF.rf {D : Nat} {h : EH} : GF D h h := ⟨Nat.le_refl _, fun _ _ _ => rfl⟩
theorem GF.of {D : Nat} {h h' : EH} {P : Nat → Prop} (f : Fr P h h') (hp : ∀ q, P q → D ≤ q ∧ q ≤ D + 106) : GF D h h' := ⟨by rw [f.1]; exact Nat.le_refl _, fun q _ hq => f.2 q (fun z => hq (hp q z))⟩
def dI (x : DS) : Prop := (∀ j, dt x j < 128) ∧ (∀ i, i < dm x → shp (dS x i)) ∧ (∀ j, la (dL x) j < 2 ^ 30) ∧ ∀ j, (dF x).getD j 0 < 256
theorem dWr_lt {t : Nat → Nat} {w : Int64} (ht : ∀ j, t j < 128) (ho : oks w = true) {n : Nat} : ∀ k, k ≤ 8 → ∀ j, wt t n w k j < 128 := by
  intro k
  induction k with
  | zero => intro _ j; exact ht j
  | succ k ih =>
    intro hk j
    have h1 := List.all_eq_true.mp ho k (List.mem_range.mpr (by omega))
    have h2 := of_decide_eq_true (show decide (byt w k = 0 ∨ (32 ≤ byt w k ∧ byt w k ≤ 126)) = true from h1)
    have h3 := ih (by omega) j
    unfold wt
    split
    · exact h3
    · unfold va_up
      split
      · omega
      · exact h3
set_option maxHeartbeats 4000000 in
set_option maxRecDepth 100000 in
theorem s_write {G : EG} {l : Launch} {h : EH} {D : Nat} {x : DS} (hx : DSK G h D x) {w : Int64} : ES G l 2 mX11_write [.ref D, .long w] h 0 0 (fun v h' => v = some (.int (b2i (wok w (dn x)))) ∧ DSK G h' D ((if wok w (dn x) then wt (dt x) (dn x) w 8 else dt x, if wok w (dn x) then dn x + cntb w 8 else dn x), x.2) ∧ GF D h h') eNoX := by
  obtain ⟨pa, ca, rp, wtk, wbr, wf, ftk, fbr, ff, qp, hpc, h0, hT, hR, hDr, hM, ⟨hB1, hb1⟩, ⟨hB2, hb2⟩, hP, hQ, hrp⟩ := hx
  have ⟨qf_, af_, hM_, hM_2⟩ := hM
  refine es_of (by decide) rfl (Nat.le_of_ble_eq_true rfl) ?_
  refine ex_aload_n rfl dX11_write_0 ?_
  refine ex_get dX11_write_1 gf_X11_10 h0 rfl ?_
  refine ex_lload_n rfl dX11_write_4 ?_
  refine ex_invv (k := 0) (n := 0) (mc' := 0) (ms' := 0) (As := [_]) dX11_write_5 cv_X11_77 (by decide) (Nat.le_of_ble_eq_true rfl) (Or.inl ⟨_, _, _, _, hT.1, rfl⟩) (s_append hT (w := w)) (fun v h' q => ?_)
  obtain ⟨rfl, hT1, hF1⟩ := q
  refine ex_zret dX11_write_8 rfl (b2i_nb _) ⟨rfl, ⟨pa, ca, rp, wtk, wbr, wf, ftk, fbr, ff, qp, hpc, (hF1.2 D (fun (z : D = D + 1 ∨ D = D + 2) => by omega)).trans h0, hT1, hR.sm (hF1.2 _ (fun (z : (D + 3) = D + 1 ∨ (D + 3) = D + 2) => by omega)), hDr.sm (fun q (hq : D + 4 ≤ q ∧ q ≤ D + 4 + 83) => hF1.2 q (fun (z : q = D + 1 ∨ q = D + 2) => by omega)), hM.sm (fun q (hq : q = D + 88 ∨ q = D + 89 ∨ q = D + 90) => hF1.2 q (fun (z : q = D + 1 ∨ q = D + 2) => by omega)), ⟨hB1.sm (fun q (hq : q = D + 91 ∨ q = D + 92) => hF1.2 q (fun (z : q = D + 1 ∨ q = D + 2) => by omega)), hb1⟩, ⟨hB2.sm (fun q (hq : q = D + 93 ∨ q = D + 94) => hF1.2 q (fun (z : q = D + 1 ∨ q = D + 2) => by omega)), hb2⟩, hP.sm (fun q (hq : pa ≤ q ∧ q ≤ pa + 5) => hF1.2 q (fun (z : q = D + 1 ∨ q = D + 2) => by omega)), hQ.sm (fun q (hq : ca ≤ q ∧ q ≤ ca + 5) => hF1.2 q (fun (z : q = D + 1 ∨ q = D + 2) => by omega)), hrp⟩, GF.of hF1 (fun q (z : q = D + 1 ∨ q = D + 2) => by omega)⟩
set_option maxHeartbeats 4000000 in
set_option maxRecDepth 100000 in
theorem s_position {G : EG} {l : Launch} {h : EH} {D : Nat} {x : DS} (hx : DSK G h D x) : ES G l 0 mX11_position [.ref D] h 0 0 (fun v h' => v = some (.int (der x)) ∧ h' = h) eNoX := by
  obtain ⟨pa, ca, rp, wtk, wbr, wf, ftk, fbr, ff, qp, hpc, h0, hT, hR, hDr, hM, ⟨hB1, hb1⟩, ⟨hB2, hb2⟩, hP, hQ, hrp⟩ := hx
  have ⟨qf_, af_, hM_, hM_2⟩ := hM
  refine es_of (by decide) rfl (Nat.le_of_ble_eq_true rfl) ?_
  refine ex_aload_n rfl dX11_position_0 ?_
  refine ex_get dX11_position_1 gf_X11_70 h0 rfl ?_
  refine ex_iret dX11_position_4 rfl ⟨rfl, rfl⟩
set_option maxHeartbeats 4000000 in
set_option maxRecDepth 100000 in
theorem s_fault {G : EG} {l : Launch} {h : EH} {D : Nat} {x : DS} (hx : DSK G h D x) : ES G l 0 mX11_fault [.ref D] h 0 0 (fun v h' => v = some (.int (dfa x)) ∧ h' = h) eNoX := by
  obtain ⟨pa, ca, rp, wtk, wbr, wf, ftk, fbr, ff, qp, hpc, h0, hT, hR, hDr, hM, ⟨hB1, hb1⟩, ⟨hB2, hb2⟩, hP, hQ, hrp⟩ := hx
  have ⟨qf_, af_, hM_, hM_2⟩ := hM
  refine es_of (by decide) rfl (Nat.le_of_ble_eq_true rfl) ?_
  refine ex_aload_n rfl dX11_fault_0 ?_
  refine ex_get dX11_fault_1 gf_X11_74 h0 rfl ?_
  refine ex_iret dX11_fault_4 rfl ⟨rfl, rfl⟩
set_option maxHeartbeats 4000000 in
set_option maxRecDepth 100000 in
theorem s_cut {G : EG} {l : Launch} {h : EH} {D : Nat} {x : DS} (hx : DSK G h D x) {m : Nat} (hm : m ≤ dm x) : ES G l 1 mX11_cut [.ref D, .int (nI m)] h 0 0 (fun v h' => v = some (.int (nI 1)) ∧ DSK G h' D (x.1, (m, dS x), x.2.2) ∧ GF D h h') eNoX := by
  obtain ⟨pa, ca, rp, wtk, wbr, wf, ftk, fbr, ff, qp, hpc, h0, hT, hR, hDr, hM, ⟨hB1, hb1⟩, ⟨hB2, hb2⟩, hP, hQ, hrp⟩ := hx
  have ⟨qf_, af_, hM_, hM_2⟩ := hM
  refine es_of (by decide) rfl (Nat.le_of_ble_eq_true rfl) ?_
  refine ex_aload_n rfl dX11_cut_0 ?_
  refine ex_get dX11_cut_1 gf_X11_28 h0 rfl ?_
  refine ex_iload_n rfl dX11_cut_4 ?_
  refine ex_invv (k := 0) (n := 0) (mc' := 0) (ms' := 0) (As := [_]) dX11_cut_5 cv_X11_115 (by decide) (Nat.le_of_ble_eq_true rfl) (Or.inl ⟨_, _, _, _, hDr.1, rfl⟩) (s_shorten hDr hm) (fun v h' q => ?_)
  obtain ⟨rfl, hD1, hF1⟩ := q
  refine ex_zret dX11_cut_8 rfl rfl ⟨rfl, ⟨pa, ca, rp, wtk, wbr, wf, ftk, fbr, ff, qp, hpc, (hF1.2 D (fun (z : D = D + 4) => by omega)).trans h0, hT.sm (fun q (hq : q = D + 1 ∨ q = D + 2) => hF1.2 q (fun (z : q = D + 4) => by omega)), hR.sm (hF1.2 _ (fun (z : (D + 3) = D + 4) => by omega)), hD1, hM.sm (fun q (hq : q = D + 88 ∨ q = D + 89 ∨ q = D + 90) => hF1.2 q (fun (z : q = D + 4) => by omega)), ⟨hB1.sm (fun q (hq : q = D + 91 ∨ q = D + 92) => hF1.2 q (fun (z : q = D + 4) => by omega)), hb1⟩, ⟨hB2.sm (fun q (hq : q = D + 93 ∨ q = D + 94) => hF1.2 q (fun (z : q = D + 4) => by omega)), hb2⟩, hP.sm (fun q (hq : pa ≤ q ∧ q ≤ pa + 5) => hF1.2 q (fun (z : q = D + 4) => by omega)), hQ.sm (fun q (hq : ca ≤ q ∧ q ≤ ca + 5) => hF1.2 q (fun (z : q = D + 4) => by omega)), hrp⟩, GF.of hF1 (fun q (z : q = D + 4) => by omega)⟩
set_option maxHeartbeats 4000000 in
set_option maxRecDepth 100000 in
theorem s_cutNo {G : EG} {l : Launch} {h : EH} {D : Nat} {x : DS} (hx : DSK G h D x) {m : Int32} (hm : m < 0 ∨ nI (dm x) < m) : ES G l 1 mX11_cut [.ref D, .int m] h 0 0 (fun v h' => v = some (.int (nI 0)) ∧ h' = h) eNoX := by
  obtain ⟨pa, ca, rp, wtk, wbr, wf, ftk, fbr, ff, qp, hpc, h0, hT, hR, hDr, hM, ⟨hB1, hb1⟩, ⟨hB2, hb2⟩, hP, hQ, hrp⟩ := hx
  have ⟨qf_, af_, hM_, hM_2⟩ := hM
  refine es_of (by decide) rfl (Nat.le_of_ble_eq_true rfl) ?_
  refine ex_aload_n rfl dX11_cut_0 ?_
  refine ex_get dX11_cut_1 gf_X11_28 h0 rfl ?_
  refine ex_iload_n rfl dX11_cut_4 ?_
  refine ex_invv (k := 0) (n := 0) (mc' := 0) (ms' := 0) (As := [_]) dX11_cut_5 cv_X11_115 (by decide) (Nat.le_of_ble_eq_true rfl) (Or.inl ⟨_, _, _, _, hDr.1, rfl⟩) (s_shortenNo hDr hm) (fun v h' q => ?_)
  obtain ⟨rfl, rfl⟩ := q
  refine ex_zret dX11_cut_8 rfl rfl ⟨rfl, rfl⟩
set_option maxHeartbeats 4000000 in
set_option maxRecDepth 100000 in
theorem s_made {G : EG} {l : Launch} {h : EH} {D : Nat} {x : DS} (hx : DSK G h D x) {s t c : Nat} (hs : s < pT (dp x)) (ht : t < pT (dp x)) (hc : c < pC (dp x)) : ES G l 2 mX11_made [.ref D, .int (nI s), .int (nI t), .int (nI c)] h 0 0 (fun v h' => v = some (.int (nI (pPr (dp x) (cel s t c)) - nI 1)) ∧ h' = h) eNoX := by
  obtain ⟨pa, ca, rp, wtk, wbr, wf, ftk, fbr, ff, qp, hpc, h0, hT, hR, hDr, hM, ⟨hB1, hb1⟩, ⟨hB2, hb2⟩, hP, hQ, hrp⟩ := hx
  have ⟨qf_, af_, hM_, hM_2⟩ := hM
  refine es_of (by decide) rfl (Nat.le_of_ble_eq_true rfl) ?_
  refine ex_aload_n rfl dX11_made_0 ?_
  refine ex_get dX11_made_1 gf_X11_63 h0 rfl ?_
  refine ex_iload_n rfl dX11_made_4 ?_
  refine ex_iload_n rfl dX11_made_5 ?_
  refine ex_iload_n rfl dX11_made_6 ?_
  refine ex_invv (k := 0) (n := 0) (mc' := 0) (ms' := 0) (As := [_, _, _]) dX11_made_7 cv_X11_163 (by decide) (Nat.le_of_ble_eq_true rfl) (Or.inl ⟨_, _, _, _, hP.1, rfl⟩) (s_productAt hP hs ht hc) (fun v h' q => ?_)
  obtain ⟨rfl, rfl⟩ := q
  refine ex_iconst (v := (nI 1)) (by decide) dX11_made_10 ?_
  refine ex_isub dX11_made_11 ?_
  refine ex_iret dX11_made_12 rfl ⟨rfl, rfl⟩
set_option maxHeartbeats 4000000 in
set_option maxRecDepth 100000 in
theorem s_madeNo {G : EG} {l : Launch} {h : EH} {D : Nat} {x : DS} (hx : DSK G h D x) {s t c : Int32} (hn : ¬ (inR s (pT (dp x)) ∧ inR t (pT (dp x)) ∧ inR c (pC (dp x)))) : ES G l 2 mX11_made [.ref D, .int s, .int t, .int c] h 0 0 (fun v h' => v = some (.int (-1)) ∧ h' = h) eNoX := by
  obtain ⟨pa, ca, rp, wtk, wbr, wf, ftk, fbr, ff, qp, hpc, h0, hT, hR, hDr, hM, ⟨hB1, hb1⟩, ⟨hB2, hb2⟩, hP, hQ, hrp⟩ := hx
  have ⟨qf_, af_, hM_, hM_2⟩ := hM
  refine es_of (by decide) rfl (Nat.le_of_ble_eq_true rfl) ?_
  refine ex_aload_n rfl dX11_made_0 ?_
  refine ex_get dX11_made_1 gf_X11_63 h0 rfl ?_
  refine ex_iload_n rfl dX11_made_4 ?_
  refine ex_iload_n rfl dX11_made_5 ?_
  refine ex_iload_n rfl dX11_made_6 ?_
  refine ex_invv (k := 0) (n := 0) (mc' := 0) (ms' := 0) (As := [_, _, _]) dX11_made_7 cv_X11_163 (by decide) (Nat.le_of_ble_eq_true rfl) (Or.inl ⟨_, _, _, _, hP.1, rfl⟩) (s_productOut hP hn) (fun v h' q => ?_)
  obtain ⟨rfl, rfl⟩ := q
  refine ex_iconst (v := (nI 1)) (by decide) dX11_made_10 ?_
  refine ex_isub dX11_made_11 ?_
  refine ex_iret dX11_made_12 rfl ⟨rfl, rfl⟩
set_option maxHeartbeats 4000000 in
set_option maxRecDepth 100000 in
theorem s_flow {G : EG} {l : Launch} {h : EH} {D : Nat} {x : DS} (hx : DSK G h D x) {a b : Nat} (ha : a < pT (dp x)) (hb : b < pT (dp x)) : ES G l 6 mX11_flow [.ref D, .int (nI a), .int (nI b)] h 0 0 (fun v h' => ∃ o, v = some (.int (oI o)) ∧ h' = h ∧ stp (dp x) a b o) eNoX := by
  obtain ⟨pa, ca, rp, wtk, wbr, wf, ftk, fbr, ff, qp, hpc, h0, hT, hR, hDr, hM, ⟨hB1, hb1⟩, ⟨hB2, hb2⟩, hP, hQ, hrp⟩ := hx
  have ⟨qf_, af_, hM_, hM_2⟩ := hM
  have hT8 := hP.2.2.2.2.2.2.1
  refine es_of (by decide) rfl (Nat.le_of_ble_eq_true rfl) ?_
  refine ex_aload_n rfl dX11_flow_0 ?_
  refine ex_get dX11_flow_1 gf_X11_63 h0 rfl ?_
  refine ex_iload_n rfl dX11_flow_4 ?_
  refine ex_invv (k := 0) (n := 0) (mc' := 0) (ms' := 0) (As := [_]) dX11_flow_5 cv_X11_166 (by decide) (Nat.le_of_ble_eq_true rfl) (Or.inl ⟨_, _, _, _, hP.1, rfl⟩) (s_hasType hP _ (B := bP (inR (nI a) (pT (dp x)))) bP_iff) (fun v h' q => ?_)
  obtain ⟨rfl, rfl⟩ := q
  refine ex_ifB_eq (tgt := 34) (by decide) dX11_flow_8 (fun c1 => ?_) (fun c1 => ?_)
  · refine ex_iconst (v := (-1)) (by decide) dX11_flow_34 ?_
    exact absurd ((inR_nI (by omega) (by omega)).mpr ha) (bP_f c1)
  · refine ex_aload_n rfl dX11_flow_11 ?_
    refine ex_get dX11_flow_12 gf_X11_63 h0 rfl ?_
    refine ex_iload_n rfl dX11_flow_15 ?_
    refine ex_invv (k := 0) (n := 0) (mc' := 0) (ms' := 0) (As := [_]) dX11_flow_16 cv_X11_166 (by decide) (Nat.le_of_ble_eq_true rfl) (Or.inl ⟨_, _, _, _, hP.1, rfl⟩) (s_hasType hP _ (B := bP (inR (nI b) (pT (dp x)))) bP_iff) (fun v h' q => ?_)
    obtain ⟨rfl, rfl⟩ := q
    refine ex_ifB_eq (tgt := 34) (by decide) dX11_flow_19 (fun c2 => ?_) (fun c2 => ?_)
    · refine ex_iconst (v := (-1)) (by decide) dX11_flow_34 ?_
      exact absurd ((inR_nI (by omega) (by omega)).mpr hb) (bP_f c2)
    · refine ex_aload_n rfl dX11_flow_22 ?_
      refine ex_get dX11_flow_23 gf_X11_63 h0 rfl ?_
      refine ex_iload_n rfl dX11_flow_26 ?_
      refine ex_iload_n rfl dX11_flow_27 ?_
      refine ex_invv (k := 0) (n := 0) (mc' := 0) (ms' := 0) (As := [_, _]) dX11_flow_28 cv_X11_169 (by decide) (Nat.le_of_ble_eq_true rfl) (Or.inl ⟨_, _, _, _, hP.1, rfl⟩) (s_steps hP ha hb) (fun v h' q => ?_)
      obtain ⟨o, rfl, rfl, ho⟩ := q
      refine ex_goto (tgt := 35) (by decide) dX11_flow_31 ?_
      refine ex_iret dX11_flow_35 rfl ⟨o, rfl, rfl, ho⟩
set_option maxHeartbeats 4000000 in
set_option maxRecDepth 100000 in
theorem s_flowNo {G : EG} {l : Launch} {h : EH} {D : Nat} {x : DS} (hx : DSK G h D x) {a b : Int32} (hn : ¬ (inR a (pT (dp x)) ∧ inR b (pT (dp x)))) : ES G l 6 mX11_flow [.ref D, .int a, .int b] h 0 0 (fun v h' => v = some (.int (-1)) ∧ h' = h) eNoX := by
  obtain ⟨pa, ca, rp, wtk, wbr, wf, ftk, fbr, ff, qp, hpc, h0, hT, hR, hDr, hM, ⟨hB1, hb1⟩, ⟨hB2, hb2⟩, hP, hQ, hrp⟩ := hx
  have ⟨qf_, af_, hM_, hM_2⟩ := hM
  refine es_of (by decide) rfl (Nat.le_of_ble_eq_true rfl) ?_
  refine ex_aload_n rfl dX11_flow_0 ?_
  refine ex_get dX11_flow_1 gf_X11_63 h0 rfl ?_
  refine ex_iload_n rfl dX11_flow_4 ?_
  refine ex_invv (k := 0) (n := 0) (mc' := 0) (ms' := 0) (As := [_]) dX11_flow_5 cv_X11_166 (by decide) (Nat.le_of_ble_eq_true rfl) (Or.inl ⟨_, _, _, _, hP.1, rfl⟩) (s_hasType hP _ (B := bP (inR a (pT (dp x)))) bP_iff) (fun v h' q => ?_)
  obtain ⟨rfl, rfl⟩ := q
  refine ex_ifB_eq (tgt := 34) (by decide) dX11_flow_8 (fun c1 => ?_) (fun c1 => ?_)
  · refine ex_iconst (v := (-1)) (by decide) dX11_flow_34 ?_
    refine ex_iret dX11_flow_35 rfl ⟨rfl, rfl⟩
  · refine ex_aload_n rfl dX11_flow_11 ?_
    refine ex_get dX11_flow_12 gf_X11_63 h0 rfl ?_
    refine ex_iload_n rfl dX11_flow_15 ?_
    refine ex_invv (k := 0) (n := 0) (mc' := 0) (ms' := 0) (As := [_]) dX11_flow_16 cv_X11_166 (by decide) (Nat.le_of_ble_eq_true rfl) (Or.inl ⟨_, _, _, _, hP.1, rfl⟩) (s_hasType hP _ (B := bP (inR b (pT (dp x)))) bP_iff) (fun v h' q => ?_)
    obtain ⟨rfl, rfl⟩ := q
    refine ex_ifB_eq (tgt := 34) (by decide) dX11_flow_19 (fun c2 => ?_) (fun c2 => ?_)
    · refine ex_iconst (v := (-1)) (by decide) dX11_flow_34 ?_
      refine ex_iret dX11_flow_35 rfl ⟨rfl, rfl⟩
    · exact absurd ⟨bP_t c1, bP_t c2⟩ hn
def cntR (x : DS) (k : Int32) : Int32 := if k = 0 then nI (pT (dp x)) else if k = 1 then nI (pC (dp x)) else if k = 2 then nI (dhi x) else if k = 3 then nI (dmi x) else if k = 4 then nI (dL x).length else if k = 5 then nI (dm x) else 0
theorem i32_5 {k : Int32} (h0 : k ≠ 0) (h1 : k ≠ 1) (h2 : k ≠ 2) (h3 : k ≠ 3) (h4 : k ≠ 4) (h5 : k ≠ 5) : k.toInt < 0 ∨ 5 < k.toInt := by
  have e : ∀ j : Int32, k ≠ j → k.toInt ≠ j.toInt := fun j hj q => hj (Int32.toInt_inj.mp q)
  have a0 := e 0 h0
  have a1 := e 1 h1
  have a2 := e 2 h2
  have a3 := e 3 h3
  have a4 := e 4 h4
  have a5 := e 5 h5
  rw [show (0 : Int32).toInt = 0 from rfl] at a0
  rw [show (1 : Int32).toInt = 1 from rfl] at a1
  rw [show (2 : Int32).toInt = 2 from rfl] at a2
  rw [show (3 : Int32).toInt = 3 from rfl] at a3
  rw [show (4 : Int32).toInt = 4 from rfl] at a4
  rw [show (5 : Int32).toInt = 5 from rfl] at a5
  omega
set_option maxHeartbeats 4000000 in
set_option maxRecDepth 100000 in
theorem s_count {G : EG} {l : Launch} {h : EH} {D : Nat} {x : DS} (hx : DSK G h D x) {k : Int32} : ES G l 1 mX11_count [.ref D, .int k] h 0 0 (fun v h' => v = some (.int (cntR x k)) ∧ h' = h) eNoX := by
  obtain ⟨pa, ca, rp, wtk, wbr, wf, ftk, fbr, ff, qp, hpc, h0, hT, hR, hDr, hM, ⟨hB1, hb1⟩, ⟨hB2, hb2⟩, hP, hQ, hrp⟩ := hx
  have ⟨qf_, af_, hM_, hM_2⟩ := hM
  refine es_of (by decide) rfl (Nat.le_of_ble_eq_true rfl) ?_
  refine ex_iload_n rfl dX11_count_0 ?_
  by_cases e0 : k = 0
  · refine ex_tblI (tgt := 40) dX11_count_1 (by rw [e0]; decide) (by rw [e0]; decide) (off := 39) (by rw [e0]; decide) (by decide) ?_
    refine ex_aload_n rfl dX11_count_40 ?_
    refine ex_get dX11_count_41 gf_X11_63 h0 rfl ?_
    refine ex_invv (k := 0) (n := 0) (mc' := 0) (ms' := 0) (As := []) dX11_count_44 cv_X11_172 (by decide) (Nat.le_of_ble_eq_true rfl) (Or.inl ⟨_, _, _, _, hP.1, rfl⟩) (s_ptypes hP) (fun v h' q => ?_)
    obtain ⟨rfl, rfl⟩ := q
    refine ex_iret dX11_count_47 rfl ⟨by unfold cntR; rw [if_pos e0], rfl⟩
  by_cases e1 : k = 1
  · refine ex_tblI (tgt := 48) dX11_count_1 (by rw [e1]; decide) (by rw [e1]; decide) (off := 47) (by rw [e1]; decide) (by decide) ?_
    refine ex_aload_n rfl dX11_count_48 ?_
    refine ex_get dX11_count_49 gf_X11_63 h0 rfl ?_
    refine ex_invv (k := 0) (n := 0) (mc' := 0) (ms' := 0) (As := []) dX11_count_52 cv_X11_175 (by decide) (Nat.le_of_ble_eq_true rfl) (Or.inl ⟨_, _, _, _, hP.1, rfl⟩) (s_pclasses hP) (fun v h' q => ?_)
    obtain ⟨rfl, rfl⟩ := q
    refine ex_iret dX11_count_55 rfl ⟨by unfold cntR; rw [if_neg e0, if_pos e1], rfl⟩
  by_cases e2 : k = 2
  · refine ex_tblI (tgt := 56) dX11_count_1 (by rw [e2]; decide) (by rw [e2]; decide) (off := 55) (by rw [e2]; decide) (by decide) ?_
    refine ex_aload_n rfl dX11_count_56 ?_
    refine ex_get dX11_count_57 gf_X11_46 h0 rfl ?_
    refine ex_invv (k := 0) (n := 0) (mc' := 0) (ms' := 0) (As := []) dX11_count_60 cv_X11_178 (by decide) (Nat.le_of_ble_eq_true rfl) (Or.inl ⟨_, _, _, _, hM_, rfl⟩) (s_mhits hM) (fun v h' q => ?_)
    obtain ⟨rfl, rfl⟩ := q
    refine ex_iret dX11_count_63 rfl ⟨by unfold cntR; rw [if_neg e0, if_neg e1, if_pos e2], rfl⟩
  by_cases e3 : k = 3
  · refine ex_tblI (tgt := 64) dX11_count_1 (by rw [e3]; decide) (by rw [e3]; decide) (off := 63) (by rw [e3]; decide) (by decide) ?_
    refine ex_aload_n rfl dX11_count_64 ?_
    refine ex_get dX11_count_65 gf_X11_46 h0 rfl ?_
    refine ex_invv (k := 0) (n := 0) (mc' := 0) (ms' := 0) (As := []) dX11_count_68 cv_X11_181 (by decide) (Nat.le_of_ble_eq_true rfl) (Or.inl ⟨_, _, _, _, hM_, rfl⟩) (s_mmisses hM) (fun v h' q => ?_)
    obtain ⟨rfl, rfl⟩ := q
    refine ex_iret dX11_count_71 rfl ⟨by unfold cntR; rw [if_neg e0, if_neg e1, if_neg e2, if_pos e3], rfl⟩
  by_cases e4 : k = 4
  · refine ex_tblI (tgt := 72) dX11_count_1 (by rw [e4]; decide) (by rw [e4]; decide) (off := 71) (by rw [e4]; decide) (by decide) ?_
    refine ex_aload_n rfl dX11_count_72 ?_
    refine ex_get dX11_count_73 gf_X11_46 h0 rfl ?_
    refine ex_invv (k := 0) (n := 0) (mc' := 0) (ms' := 0) (As := []) dX11_count_76 cv_X11_184 (by decide) (Nat.le_of_ble_eq_true rfl) (Or.inl ⟨_, _, _, _, hM_, rfl⟩) (s_msize hM) (fun v h' q => ?_)
    obtain ⟨rfl, rfl⟩ := q
    refine ex_iret dX11_count_79 rfl ⟨by unfold cntR; rw [if_neg e0, if_neg e1, if_neg e2, if_neg e3, if_pos e4], rfl⟩
  by_cases e5 : k = 5
  · refine ex_tblI (tgt := 80) dX11_count_1 (by rw [e5]; decide) (by rw [e5]; decide) (off := 79) (by rw [e5]; decide) (by decide) ?_
    refine ex_aload_n rfl dX11_count_80 ?_
    refine ex_get dX11_count_81 gf_X11_28 h0 rfl ?_
    refine ex_invv (k := 0) (n := 0) (mc' := 0) (ms' := 0) (As := []) dX11_count_84 cv_X11_187 (by decide) (Nat.le_of_ble_eq_true rfl) (Or.inl ⟨_, _, _, _, hDr.1, rfl⟩) (s_dsize hDr) (fun v h' q => ?_)
    obtain ⟨rfl, rfl⟩ := q
    refine ex_iret dX11_count_87 rfl ⟨by unfold cntR; rw [if_neg e0, if_neg e1, if_neg e2, if_neg e3, if_neg e4, if_pos e5], rfl⟩
  refine ex_tblO (tgt := 88) dX11_count_1 (i32_5 e0 e1 e2 e3 e4 e5) (by decide) ?_
  refine ex_iconst (v := (nI 0)) (by decide) dX11_count_88 ?_
  refine ex_iret dX11_count_89 rfl ⟨by unfold cntR; rw [if_neg e0, if_neg e1, if_neg e2, if_neg e3, if_neg e4, if_neg e5]; rfl, rfl⟩
theorem bL_at {f : Nat → Nat} {n : Nat} {L : List Nat} (h : bL f n L) (hn : n < 2 ^ 31) (k : Int32) : bAt f n k = bAt (fun j => L.getD j 0) L.length k := by
  unfold bAt
  rw [← h.1]
  by_cases h0 : k < 0
  · rw [if_pos h0, if_pos h0]
  · rw [if_neg h0, if_neg h0]
    by_cases h1 : nI n ≤ k
    · rw [if_pos h1, if_pos h1]
    · rw [if_neg h1, if_neg h1]
      obtain ⟨j, hj, rfl⟩ := vp_in_of (vp_of h0 h1 (Nat.le_refl _) hn) hn
      rw [nI_clamp (by omega), h.2 j hj]
theorem imgL_len {p : Pol} (h : pB p) : (imgL p).length ≤ 420 := by
  unfold imgL
  rw [List.length_append, List.length_append, List.length_append, rmap_len, rmap_len]
  have := cls_len h.1 (pC p)
  have h1 := h.1
  have h2 := h.2.1
  show 2 + _ + _ + _ ≤ _
  omega
set_option maxHeartbeats 4000000 in
set_option maxRecDepth 100000 in
theorem s_imageAt {G : EG} {l : Launch} {h : EH} {D : Nat} {x : DS} (hx : DSK G h D x) {k : Int32} : ES G l 1 mX11_imageAt [.ref D, .int k] h 0 0 (fun v h' => v = some (.int (bAt (fun j => (dW x).getD j 0) (dW x).length k)) ∧ h' = h) eNoX := by
  obtain ⟨pa, ca, rp, wtk, wbr, wf, ftk, fbr, ff, qp, hpc, h0, hT, hR, hDr, hM, ⟨hB1, hb1⟩, ⟨hB2, hb2⟩, hP, hQ, hrp⟩ := hx
  have ⟨qf_, af_, hM_, hM_2⟩ := hM
  refine es_of (by decide) rfl (Nat.le_of_ble_eq_true rfl) ?_
  refine ex_aload_n rfl dX11_imageAt_0 ?_
  refine ex_get dX11_imageAt_1 gf_X11_53 h0 rfl ?_
  refine ex_iload_n rfl dX11_imageAt_4 ?_
  refine ex_invv (k := 0) (n := 0) (mc' := 0) (ms' := 0) (As := [_]) dX11_imageAt_5 cv_X11_197 (by decide) (Nat.le_of_ble_eq_true rfl) (Or.inl ⟨_, _, _, _, hB1.1, rfl⟩) (s_byteAt hB1 k) (fun v h' q => ?_)
  obtain ⟨rfl, rfl⟩ := q
  refine ex_iret dX11_imageAt_8 rfl ⟨by rw [bL_at hb1 (by have := hB1.2.2.1; omega)], rfl⟩
set_option maxHeartbeats 4000000 in
set_option maxRecDepth 100000 in
theorem s_image {G : EG} {l : Launch} {h : EH} {D : Nat} {x : DS} (hx : DSK G h D x) (h1 : pT (dp x) ≠ 0) : ES G l 4 mX11_image [.ref D] h 0 0 (fun v h' => v = some (.int (nI (imgL (dp x)).length)) ∧ DSK G h' D (x.1, x.2.1, x.2.2.1, (imgL (dp x), dF x), x.2.2.2.2) ∧ GF D h h') eNoX := by
  obtain ⟨pa, ca, rp, wtk, wbr, wf, ftk, fbr, ff, qp, hpc, h0, hT, hR, hDr, hM, ⟨hB1, hb1⟩, ⟨hB2, hb2⟩, hP, hQ, hrp⟩ := hx
  have ⟨qf_, af_, hM_, hM_2⟩ := hM
  have hT8 := hP.2.2.2.2.2.2.1
  refine es_of (by decide) rfl (Nat.le_of_ble_eq_true rfl) ?_
  refine ex_aload_n rfl dX11_image_0 ?_
  refine ex_get dX11_image_1 gf_X11_63 h0 rfl ?_
  refine ex_invv (k := 0) (n := 0) (mc' := 0) (ms' := 0) (As := []) dX11_image_4 cv_X11_172 (by decide) (Nat.le_of_ble_eq_true rfl) (Or.inl ⟨_, _, _, _, hP.1, rfl⟩) (s_ptypes hP) (fun v h' q => ?_)
  obtain ⟨rfl, rfl⟩ := q
  refine ex_ifN_ne (tgt := 12) (by decide) dX11_image_7 (by omega) (fun c1 => ?_) (fun c1 => ?_)
  · refine ex_aload_n rfl dX11_image_12 ?_
    refine ex_get dX11_image_13 gf_X11_63 h0 rfl ?_
    refine ex_aload_n rfl dX11_image_16 ?_
    refine ex_get dX11_image_17 gf_X11_53 h0 rfl ?_
    refine ex_invs (k := 0) (n := 0) (mc' := 0) (ms' := 0) (As := [_, _]) dX11_image_20 cs_X11_188 (by decide) (Nat.le_of_ble_eq_true rfl) (s_encode (by omega) (by omega) hP hB1) (fun v h' q => ?_)
    obtain ⟨rfl, n1, g1, hB3, hb3, hF1⟩ := q
    obtain rfl := hb3.1
    have hD1 := (hF1.2 D (fun (z : D = D + 91 ∨ D = D + 92) => by omega)).trans h0
    refine ex_aload_n rfl dX11_image_23 ?_
    refine ex_get dX11_image_24 gf_X11_53 hD1 rfl ?_
    refine ex_invv (k := 0) (n := 0) (mc' := 0) (ms' := 0) (As := []) dX11_image_27 cv_X11_194 (by decide) (Nat.le_of_ble_eq_true rfl) (Or.inl ⟨_, _, _, _, hB3.1, rfl⟩) (s_blength hB3) (fun v h' q => ?_)
    obtain ⟨rfl, rfl⟩ := q
    refine ex_iret dX11_image_30 rfl ⟨rfl, ⟨pa, ca, rp, wtk, wbr, g1, ftk, fbr, ff, qp, hpc, hD1, hT.sm (fun q (hq : q = D + 1 ∨ q = D + 2) => hF1.2 q (fun (z : q = D + 91 ∨ q = D + 92) => by omega)), hR.sm (hF1.2 _ (fun (z : (D + 3) = D + 91 ∨ (D + 3) = D + 92) => by omega)), hDr.sm (fun q (hq : D + 4 ≤ q ∧ q ≤ D + 4 + 83) => hF1.2 q (fun (z : q = D + 91 ∨ q = D + 92) => by omega)), hM.sm (fun q (hq : q = D + 88 ∨ q = D + 89 ∨ q = D + 90) => hF1.2 q (fun (z : q = D + 91 ∨ q = D + 92) => by omega)), ⟨hB3, hb3⟩, ⟨hB2.sm (fun q (hq : q = D + 93 ∨ q = D + 94) => hF1.2 q (fun (z : q = D + 91 ∨ q = D + 92) => by omega)), hb2⟩, hP.sm (fun q (hq : pa ≤ q ∧ q ≤ pa + 5) => hF1.2 q (fun (z : q = D + 91 ∨ q = D + 92) => by omega)), hQ.sm (fun q (hq : ca ≤ q ∧ q ≤ ca + 5) => hF1.2 q (fun (z : q = D + 91 ∨ q = D + 92) => by omega)), hrp⟩, GF.of hF1 (fun q (z : q = D + 91 ∨ q = D + 92) => by omega)⟩
  · refine ex_iconst (v := (nI 0)) (by decide) dX11_image_10 ?_
    exact absurd c1 h1
set_option maxHeartbeats 4000000 in
set_option maxRecDepth 100000 in
theorem s_imageNo {G : EG} {l : Launch} {h : EH} {D : Nat} {x : DS} (hx : DSK G h D x) (h1 : pT (dp x) = 0) : ES G l 4 mX11_image [.ref D] h 0 0 (fun v h' => v = some (.int (nI 0)) ∧ h' = h) eNoX := by
  obtain ⟨pa, ca, rp, wtk, wbr, wf, ftk, fbr, ff, qp, hpc, h0, hT, hR, hDr, hM, ⟨hB1, hb1⟩, ⟨hB2, hb2⟩, hP, hQ, hrp⟩ := hx
  have ⟨qf_, af_, hM_, hM_2⟩ := hM
  have hT8 := hP.2.2.2.2.2.2.1
  refine es_of (by decide) rfl (Nat.le_of_ble_eq_true rfl) ?_
  refine ex_aload_n rfl dX11_image_0 ?_
  refine ex_get dX11_image_1 gf_X11_63 h0 rfl ?_
  refine ex_invv (k := 0) (n := 0) (mc' := 0) (ms' := 0) (As := []) dX11_image_4 cv_X11_172 (by decide) (Nat.le_of_ble_eq_true rfl) (Or.inl ⟨_, _, _, _, hP.1, rfl⟩) (s_ptypes hP) (fun v h' q => ?_)
  obtain ⟨rfl, rfl⟩ := q
  refine ex_ifN_ne (tgt := 12) (by decide) dX11_image_7 (by omega) (fun c1 => ?_) (fun c1 => ?_)
  · exact absurd h1 c1
  · refine ex_iconst (v := (nI 0)) (by decide) dX11_image_10 ?_
    refine ex_iret dX11_image_11 rfl ⟨rfl, rfl⟩
def fdL (w : Int64) (n : Nat) : List Nat := rmap (byt w) n
set_option maxHeartbeats 4000000 in
set_option maxRecDepth 100000 in
theorem l_feed {G : EG} {l : Launch} {h : EH} {D : Nat} {x : DS} (hx : DSK G h D x) {w : Int64} {m : Nat} (hm : m ≤ 8) (hr : (dF x).length + m ≤ 420) : ∀ (f k : Nat), m - k < f → k ≤ m → ∀ (pa ca rp wtk : Nat) (wbr : Bool) (wf : Nat → Nat) (ftk : Nat) (fbr : Bool) (ff : Nat → Nat) (qp : Pol), ((pa = D + 95 ∧ ca = D + 101) ∨ (pa = D + 101 ∧ ca = D + 95)) → h.2 D = some (dOb D pa ca (der x) (dfa x)) → TX G h (D + 1) (D + 2) (dt x) (dn x) → RD h (D + 3) (D + 1) rp → DR G h (D + 4) (dm x) (dS x) → MM G h (D + 88) (D + 89) (D + 90) (dcap x) (dL x) (dhi x) (dmi x) → BR G h (D + 91) (D + 92) (dW x).length wtk wbr wf → bL wf (dW x).length (dW x) → PL G h pa (dp x) → PL G h ca qp → rp ≤ 80 → ∀ (hk : EH) (g : Nat → Nat), BR G hk (D + 93) (D + 94) (dF x ++ fdL w k).length ftk fbr g → bL g (dF x ++ fdL w k).length (dF x ++ fdL w k) → Fr (fun q => q = D + 93 ∨ q = D + 94) h hk → Ex G l 2 mX11_feed (fun v h' => v = some (.int (nI ((dF x).length + m))) ∧ DSK G h' D (x.1, x.2.1, x.2.2.1, (dW x, dF x ++ fdL w m), x.2.2.2.2) ∧ GF D h h') eNoX 0 0 27 [(0, .ref D), (1, .long w), (3, .int (nI m)), (4, .int (nI k))] [] hk := by
  intro f
  induction f with
  | zero =>
    intro k h1 h2 pa ca rp wtk wbr wf ftk fbr ff qp hpc h0 hT hR hDr hM hB1 hb1 hP hQ hrp hk g hBk hbk hFk
    omega
  | succ f ih =>
    intro k h1 h2 pa ca rp wtk wbr wf ftk fbr ff qp hpc h0 hT hR hDr hM hB1 hb1 hP hQ hrp hk g hBk hbk hFk
    have hlen : (dF x ++ fdL w k).length = (dF x).length + k := by rw [List.length_append, fdL, rmap_len]
    have h0k : hk.2 D = _ := (hFk.2 D (fun (z : D = D + 93 ∨ D = D + 94) => by omega)).trans h0
    refine ex_iload rfl dX11_feed_27 ?_
    refine ex_iload_n rfl dX11_feed_29 ?_
    refine ex_icmpN_ge (tgt := 52) (by decide) dX11_feed_30 (by omega) (by omega) (fun c1 => ?_) (fun c1 => ?_)
    · refine ex_aload_n rfl dX11_feed_52 ?_
      refine ex_get dX11_feed_53 gf_X11_57 h0k rfl ?_
      refine ex_invv (k := 0) (n := 0) (mc' := 0) (ms' := 0) (As := []) dX11_feed_56 cv_X11_194 (by decide) (Nat.le_of_ble_eq_true rfl) (Or.inl ⟨_, _, _, _, hBk.1, rfl⟩) (s_blength hBk) (fun v h' q => ?_)
      obtain ⟨rfl, rfl⟩ := q
      refine ex_iret dX11_feed_59 rfl (by
      have hk1 : k = m := by omega
      subst hk1
      exact ⟨by rw [hlen], ⟨pa, ca, rp, wtk, wbr, wf, ftk, fbr, g, qp, hpc, h0k, hT.sm (fun q (hq : q = D + 1 ∨ q = D + 2) => hFk.2 q (fun (z : q = D + 93 ∨ q = D + 94) => by omega)), hR.sm (hFk.2 _ (fun (z : (D + 3) = D + 93 ∨ (D + 3) = D + 94) => by omega)), hDr.sm (fun q (hq : D + 4 ≤ q ∧ q ≤ D + 4 + 83) => hFk.2 q (fun (z : q = D + 93 ∨ q = D + 94) => by omega)), hM.sm (fun q (hq : q = D + 88 ∨ q = D + 89 ∨ q = D + 90) => hFk.2 q (fun (z : q = D + 93 ∨ q = D + 94) => by omega)), ⟨hB1.sm (fun q (hq : q = D + 91 ∨ q = D + 92) => hFk.2 q (fun (z : q = D + 93 ∨ q = D + 94) => by omega)), hb1⟩, ⟨hBk, hbk⟩, hP.sm (fun q (hq : pa ≤ q ∧ q ≤ pa + 5) => hFk.2 q (fun (z : q = D + 93 ∨ q = D + 94) => by omega)), hQ.sm (fun q (hq : ca ≤ q ∧ q ≤ ca + 5) => hFk.2 q (fun (z : q = D + 93 ∨ q = D + 94) => by omega)), hrp⟩, GF.of hFk (fun q (z : q = D + 93 ∨ q = D + 94) => by omega)⟩)
    · refine ex_aload_n rfl dX11_feed_33 ?_
      refine ex_get dX11_feed_34 gf_X11_57 h0k rfl ?_
      refine ex_lload_n rfl dX11_feed_37 ?_
      refine ex_iload rfl dX11_feed_38 ?_
      refine ex_invs (k := 0) (n := 0) (mc' := 0) (ms' := 0) (As := [_, _]) dX11_feed_40 cs_X11_203 (by decide) (Nat.le_of_ble_eq_true rfl) (s_byteOf _ w (k := k) (by omega)) (fun v h' q => ?_)
      obtain ⟨rfl, rfl⟩ := q
      refine ex_invv (k := 0) (n := 0) (mc' := 0) (ms' := 0) (As := [_]) dX11_feed_43 cv_X11_207 (by decide) (Nat.le_of_ble_eq_true rfl) (Or.inl ⟨_, _, _, _, hBk.1, rfl⟩) (s_bpush hBk (byt w k) (by omega)) (fun v h' q => ?_)
      obtain ⟨rfl, hB3, hF1⟩ := q
      refine ex_iincN (z := 1) rfl (by decide) rfl dX11_feed_46 ?_
      refine ex_goto (tgt := 27) (by decide) dX11_feed_49 ?_
      have e : dF x ++ fdL w (k + 1) = (dF x ++ fdL w k) ++ [byt w k] := by rw [fdL, rmap_s, ← List.append_assoc]; rfl
      have e2 : (dF x ++ fdL w (k + 1)).length = (dF x ++ fdL w k).length + 1 := by rw [e, List.length_append (bs := [byt w k])]; rfl
      exact ih (k + 1) (by omega) (by omega) pa ca rp wtk wbr wf ftk fbr ff qp hpc h0 hT hR hDr hM hB1 hb1 hP hQ hrp _ (va_up g (dF x ++ fdL w k).length (byt w k)) (by rw [e2]; exact hB3) (by rw [e2, e]; exact hbk.push (byt w k)) (hFk.tr hF1)
set_option maxHeartbeats 4000000 in
set_option maxRecDepth 100000 in
theorem s_feed {G : EG} {l : Launch} {h : EH} {D : Nat} {x : DS} (hx : DSK G h D x) {w : Int64} {m : Nat} (h1 : 1 ≤ m) (hm : m ≤ 8) (hr : (dF x).length + m ≤ 420) : ES G l 2 mX11_feed [.ref D, .long w, .int (nI m)] h 0 0 (fun v h' => v = some (.int (nI ((dF x).length + m))) ∧ DSK G h' D (x.1, x.2.1, x.2.2.1, (dW x, dF x ++ fdL w m), x.2.2.2.2) ∧ GF D h h') eNoX := by
  have hx0 := hx
  obtain ⟨pa, ca, rp, wtk, wbr, wf, ftk, fbr, ff, qp, hpc, h0, hT, hR, hDr, hM, ⟨hB1, hb1⟩, ⟨hB2, hb2⟩, hP, hQ, hrp⟩ := hx
  have ⟨qf_, af_, hM_, hM_2⟩ := hM
  refine es_of (by decide) rfl (Nat.le_of_ble_eq_true rfl) ?_
  refine ex_iload_n rfl dX11_feed_0 ?_
  refine ex_iconst (v := (nI 1)) (by decide) dX11_feed_1 ?_
  refine ex_icmpN_lt (tgt := 22) (by decide) dX11_feed_2 (by omega) (by omega) (fun c1 => ?_) (fun c1 => ?_)
  · refine ex_iconst (v := (-1)) (by decide) dX11_feed_22 ?_
    exfalso; omega
  · refine ex_iload_n rfl dX11_feed_5 ?_
    refine ex_bipush (v := (nI 8)) (by decide) dX11_feed_6 ?_
    refine ex_icmpN_gt (tgt := 22) (by decide) dX11_feed_8 (by omega) (by omega) (fun c2 => ?_) (fun c2 => ?_)
    · refine ex_iconst (v := (-1)) (by decide) dX11_feed_22 ?_
      exfalso; omega
    · refine ex_iload_n rfl dX11_feed_11 ?_
      refine ex_aload_n rfl dX11_feed_12 ?_
      refine ex_get dX11_feed_13 gf_X11_57 h0 rfl ?_
      refine ex_invv (k := 0) (n := 0) (mc' := 0) (ms' := 0) (As := []) dX11_feed_16 cv_X11_200 (by decide) (Nat.le_of_ble_eq_true rfl) (Or.inl ⟨_, _, _, _, hB2.1, rfl⟩) (s_broom hB2) (fun v h' q => ?_)
      obtain ⟨rfl, rfl⟩ := q
      refine ex_icmpN_le (tgt := 24) (by decide) dX11_feed_19 (by omega) (by omega) (fun c3 => ?_) (fun c3 => ?_)
      · refine ex_iconst (v := (nI 0)) (by decide) dX11_feed_24 ?_
        refine ex_istore (by decide) rfl dX11_feed_25 ?_
        exact l_feed hx0 hm hr (m + 1) 0 (by omega) (by omega) pa ca rp wtk wbr wf ftk fbr ff qp hpc h0 hT hR hDr hM hB1 hb1 hP hQ hrp _ ff (by rw [fdL, rmap_0, List.append_nil]; exact hB2) (by rw [fdL, rmap_0, List.append_nil]; exact hb2) Fr.rf
      · refine ex_iconst (v := (-1)) (by decide) dX11_feed_22 ?_
        exfalso; omega
set_option maxHeartbeats 4000000 in
set_option maxRecDepth 100000 in
theorem s_feedNo {G : EG} {l : Launch} {h : EH} {D : Nat} {x : DS} (hx : DSK G h D x) {w : Int64} {m : Int32} (hn : m < nI 1 ∨ nI 8 < m ∨ nI (420 - (dF x).length) < m) : ES G l 2 mX11_feed [.ref D, .long w, .int m] h 0 0 (fun v h' => v = some (.int (-1)) ∧ h' = h) eNoX := by
  obtain ⟨pa, ca, rp, wtk, wbr, wf, ftk, fbr, ff, qp, hpc, h0, hT, hR, hDr, hM, ⟨hB1, hb1⟩, ⟨hB2, hb2⟩, hP, hQ, hrp⟩ := hx
  have ⟨qf_, af_, hM_, hM_2⟩ := hM
  refine es_of (by decide) rfl (Nat.le_of_ble_eq_true rfl) ?_
  refine ex_iload_n rfl dX11_feed_0 ?_
  refine ex_iconst (v := (nI 1)) (by decide) dX11_feed_1 ?_
  refine ex_icmp_lt (tgt := 22) (by decide) dX11_feed_2 (fun c1 => ?_) (fun c1 => ?_)
  · refine ex_iconst (v := (-1)) (by decide) dX11_feed_22 ?_
    refine ex_iret dX11_feed_23 rfl ⟨rfl, rfl⟩
  · refine ex_iload_n rfl dX11_feed_5 ?_
    refine ex_bipush (v := (nI 8)) (by decide) dX11_feed_6 ?_
    refine ex_icmp_gt (tgt := 22) (by decide) dX11_feed_8 (fun c2 => ?_) (fun c2 => ?_)
    · refine ex_iconst (v := (-1)) (by decide) dX11_feed_22 ?_
      refine ex_iret dX11_feed_23 rfl ⟨rfl, rfl⟩
    · refine ex_iload_n rfl dX11_feed_11 ?_
      refine ex_aload_n rfl dX11_feed_12 ?_
      refine ex_get dX11_feed_13 gf_X11_57 h0 rfl ?_
      refine ex_invv (k := 0) (n := 0) (mc' := 0) (ms' := 0) (As := []) dX11_feed_16 cv_X11_200 (by decide) (Nat.le_of_ble_eq_true rfl) (Or.inl ⟨_, _, _, _, hB2.1, rfl⟩) (s_broom hB2) (fun v h' q => ?_)
      obtain ⟨rfl, rfl⟩ := q
      refine ex_icmp_le (tgt := 24) (by decide) dX11_feed_19 (fun c3 => ?_) (fun c3 => ?_)
      · exact (hn.elim c1 (fun z => z.elim c2 (fun z => absurd c3 (fun y => by rw [Int32.le_iff_toInt_le] at y; rw [Int32.lt_iff_toInt_lt] at z; omega)))).elim
      · refine ex_iconst (v := (-1)) (by decide) dX11_feed_22 ?_
        refine ex_iret dX11_feed_23 rfl ⟨rfl, rfl⟩
