/-! THE LAW: the calls that may throw -/
def GO (D O : Nat) (h h' : EH) : Prop := h.1 ≤ h'.1 ∧ ∀ q, q < h.1 → ¬ (D ≤ q ∧ q ≤ D + 106) → q ≠ O → h'.2 q = h.2 q
def OA (G : EG) (h : EH) (O : Nat) (f : Nat → Int64) : Prop := h.2 O = some (.inl (eA G 1, 1, .inr (.inl f)))
theorem GF.go {D O : Nat} {h h' : EH} (g : GF D h h') : GO D O h h' := ⟨g.1, fun q h1 h2 _ => g.2 q h1 h2⟩
theorem GF.goU {D O : Nat} {h h' : EH} (g : GF D h h') (e : va_E) : GO D O h (hup h' O e) := ⟨g.1, fun q h1 h2 h3 => hup_ne h3 (g.2 q h1 h2)⟩
theorem DSK.ob {G : EG} {h : EH} {D : Nat} {x : DS} (z : DSK G h D x) : ∃ fs, h.2 D = some (.inr (7, fs)) := by
  obtain ⟨pa, ca, rp, wtk, wbr, wf, ftk, fbr, ff, q, -, h2, -⟩ := z
  exact ⟨_, h2⟩
theorem DSK.up {G : EG} {h : EH} {D O : Nat} {x : DS} (z : DSK G h D x) (ho : D + 106 < O) (e : va_E) : DSK G (hup h O e) D x := z.sm fun q _ h2 => hup_ne (by omega) rfl
theorem OA.gf {G : EG} {h h' : EH} {D O : Nat} {f : Nat → Int64} (z : OA G h O f) (g : GF D h h') (ho : D + 106 < O ∧ O < h.1) : OA G h' O f := (g.2 O ho.2 (by omega)).trans z
set_option maxHeartbeats 4000000 in
set_option maxRecDepth 100000 in
theorem t_Ladd {G : EG} {l : Launch} (hl : l.stackTraces = false) {h : EH} {D O : Nat} {x : DS} {f : Nat → Int64} (hx : DSK G h D x) (hI : dI x) (hO : OA G h O f) (ho : D + 106 < O ∧ O < h.1) : ES G l 8 mL_add [.ref D, .ref O] h 1 6 (fun v h' => GO D O h h' ∧ ((v = some (.int (nI 0)) ∧ (aPs x).1 = true ∧ dm x < 40 ∧ DSK G h' D (addK x) ∧ ∃ f', OA G h' O f' ∧ f' 0 = (nI (dm x)).toInt64) ∨ (v = some (.int (nI 1)) ∧ (aPs x).1 = false ∧ DSK G h' D (addD x) ∧ OA G h' O f) ∨ (v = some (.int (nI 2)) ∧ (aPs x).1 = true ∧ dm x = 40 ∧ DSK G h' D (addD x) ∧ OA G h' O f))) eNoX := by
  obtain ⟨fs, hob⟩ := hx.ob
  refine es_ofH (by decide) (by decide) (Nat.le_of_ble_eq_true rfl) ?_
  refine ex_aload_n rfl dL_add_0 ?_
  refine ex_iconst (v := nI 0) (by decide) dL_add_1 ?_
  refine ex_aload_n rfl dL_add_2 ?_
  refine ex_invvC (k := 0) (n := 0) (mc' := 1) (ms' := 6) (As := []) dL_add_3 cv_L_7 (by decide) (Nat.le_of_ble_eq_true rfl) (Or.inl ⟨_, _, _, _, hob, rfl⟩) (s_add hl hx hI) (fun E h' q => ?_) (fun v h' q => ?_)
  · obtain ⟨hx1, hg, q⟩ := q
    have hO1 := hO.gf hg ho
    rcases q with ⟨rfl, e1⟩ | ⟨rfl, e1, e2⟩
    · refine ⟨11, ct_add_IAE, fun q => ?_⟩
      refine ex_astore_n (by decide) rfl dL_add_11 ?_
      refine ex_iconst (v := nI 1) (by decide) dL_add_12 ?_
      exact ex_iret dL_add_13 rfl ⟨hg.go, Or.inr (Or.inl ⟨rfl, e1, hx1, hO1⟩)⟩
    · refine ⟨14, ct_add_ISE, fun q => ?_⟩
      refine ex_astore_n (by decide) rfl dL_add_14 ?_
      refine ex_iconst (v := nI 2) (by decide) dL_add_15 ?_
      exact ex_iret dL_add_16 rfl ⟨hg.go, Or.inr (Or.inr ⟨rfl, e1, e2, hx1, hO1⟩)⟩
  · obtain ⟨rfl, e1, e2, hx1, hg⟩ := q
    have hO1 := hO.gf hg ho
    refine ex_i2l dL_add_6 ?_
    refine ex_last dL_add_7 hO1 (vp_in_nI (n := 0) (N := 1) (by decide) (by decide)) ?_
    refine ex_goto (tgt := 17) (by decide) dL_add_8 ?_
    refine ex_iconst (v := nI 0) (by decide) dL_add_17 ?_
    exact ex_iret dL_add_18 rfl ⟨(hg.goU _), Or.inl ⟨rfl, e1, e2, hx1.up ho.1 _, _, hup_eq, if_pos rfl⟩⟩
set_option maxHeartbeats 4000000 in
set_option maxRecDepth 100000 in
theorem t_Laccept {G : EG} {l : Launch} (hl : l.stackTraces = false) (hG : eInj G) {h : EH} {D O : Nat} {x : DS} {f : Nat → Int64} (hx : DSK G h D x) (hI : dI x) (hO : OA G h O f) (ho : D + 106 < O ∧ O < h.1) : ES G l 8 mL_accept [.ref D, .ref O] h 1 6 (fun v h' => GO D O h h' ∧ ((v = some (.int (nI 0)) ∧ ∃ p', FW dSelf (dS x) (dm x) none ∧ CP dSelf (dS x) (dm x) (dm x) p' ∧ FA dSelf (dS x) (dm x) p' none ∧ DSK G h' D (putD x p' (dF x) (-1)) ∧ ∃ f', OA G h' O f' ∧ f' 0 = (nI (pT p')).toInt64) ∨ (v = some (.int (nI 1)) ∧ OA G h' O f ∧ ∃ i, FW dSelf (dS x) (dm x) (some i) ∧ DSK G h' D (faD x (nI i))) ∨ (v = some (.int (nI 2)) ∧ OA G h' O f ∧ ∃ i p', FW dSelf (dS x) (dm x) none ∧ CP dSelf (dS x) (dm x) (dm x) p' ∧ FA dSelf (dS x) (dm x) p' (some i) ∧ DSK G h' D (faD x (nI i))))) eNoX := by
  obtain ⟨fs, hob⟩ := hx.ob
  refine es_ofH (by decide) (by decide) (Nat.le_of_ble_eq_true rfl) ?_
  refine ex_aload_n rfl dL_accept_0 ?_
  refine ex_iconst (v := nI 0) (by decide) dL_accept_1 ?_
  refine ex_aload_n rfl dL_accept_2 ?_
  refine ex_invvC (k := 0) (n := 0) (mc' := 1) (ms' := 6) (As := []) dL_accept_3 cv_L_17 (by decide) (Nat.le_of_ble_eq_true rfl) (Or.inl ⟨_, _, _, _, hob, rfl⟩) (s_accept hl hG hx hI) (fun E h' q => ?_) (fun v h' q => ?_)
  · obtain ⟨hg, q⟩ := q
    have hO1 := hO.gf hg ho
    rcases q with ⟨rfl, q⟩ | ⟨rfl, q⟩
    · have q9 := q
      refine ⟨11, ct_accept_IAE, fun q => ?_⟩
      refine ex_astore_n (by decide) rfl dL_accept_11 ?_
      refine ex_iconst (v := nI 1) (by decide) dL_accept_12 ?_
      exact ex_iret dL_accept_13 rfl ⟨hg.go, Or.inr (Or.inl ⟨rfl, hO1, q9⟩)⟩
    · have q9 := q
      refine ⟨14, ct_accept_ISE, fun q => ?_⟩
      refine ex_astore_n (by decide) rfl dL_accept_14 ?_
      refine ex_iconst (v := nI 2) (by decide) dL_accept_15 ?_
      exact ex_iret dL_accept_16 rfl ⟨hg.go, Or.inr (Or.inr ⟨rfl, hO1, q9⟩)⟩
  · obtain ⟨p', rfl, e1, e2, e3, hx1, hg⟩ := q
    have hO1 := hO.gf hg ho
    refine ex_i2l dL_accept_6 ?_
    refine ex_last dL_accept_7 hO1 (vp_in_nI (n := 0) (N := 1) (by decide) (by decide)) ?_
    refine ex_goto (tgt := 17) (by decide) dL_accept_8 ?_
    refine ex_iconst (v := nI 0) (by decide) dL_accept_17 ?_
    exact ex_iret dL_accept_18 rfl ⟨(hg.goU _), Or.inl ⟨rfl, p', e1, e2, e3, hx1.up ho.1 _, _, hup_eq, if_pos rfl⟩⟩
set_option maxHeartbeats 4000000 in
set_option maxRecDepth 100000 in
theorem t_Lread {G : EG} {l : Launch} (hl : l.stackTraces = false) {h : EH} {D O : Nat} {x : DS} {f : Nat → Int64} (hx : DSK G h D x) (hI : dI x) (hO : OA G h O f) (ho : D + 106 < O ∧ O < h.1) : ES G l 7 mL_read [.ref D, .ref O] h 1 6 (fun v h' => GO D O h h' ∧ ((v = some (.int (nI 0)) ∧ ∃ p', WF (ffn x) (dF x).length ∧ RDP (ffn x) p' ∧ DSK G h' D (putD x p' [] (dfa x)) ∧ ∃ f', OA G h' O f' ∧ f' 0 = (nI (pT p')).toInt64) ∨ (v = some (.int (nI 1)) ∧ ¬ WF (ffn x) (dF x).length ∧ DSK G h' D (x.1, x.2.1, x.2.2.1, (dW x, []), x.2.2.2.2) ∧ OA G h' O f))) eNoX := by
  obtain ⟨fs, hob⟩ := hx.ob
  refine es_ofH (by decide) (by decide) (Nat.le_of_ble_eq_true rfl) ?_
  refine ex_aload_n rfl dL_read_0 ?_
  refine ex_iconst (v := nI 0) (by decide) dL_read_1 ?_
  refine ex_aload_n rfl dL_read_2 ?_
  refine ex_invvC (k := 0) (n := 0) (mc' := 1) (ms' := 6) (As := []) dL_read_3 cv_L_26 (by decide) (Nat.le_of_ble_eq_true rfl) (Or.inl ⟨_, _, _, _, hob, rfl⟩) (s_read hl hx hI) (fun E h' q => ?_) (fun v h' q => ?_)
  · obtain ⟨rfl, e1, hx1, hg⟩ := q
    have hO1 := hO.gf hg ho
    refine ⟨11, ct_read_IAE, fun q => ?_⟩
    refine ex_astore_n (by decide) rfl dL_read_11 ?_
    refine ex_iconst (v := nI 1) (by decide) dL_read_12 ?_
    exact ex_iret dL_read_13 rfl ⟨hg.go, Or.inr ⟨rfl, e1, hx1, hO1⟩⟩
  · obtain ⟨p', rfl, e1, e2, hx1, hg⟩ := q
    have hO1 := hO.gf hg ho
    refine ex_i2l dL_read_6 ?_
    refine ex_last dL_read_7 hO1 (vp_in_nI (n := 0) (N := 1) (by decide) (by decide)) ?_
    refine ex_goto (tgt := 14) (by decide) dL_read_8 ?_
    refine ex_iconst (v := nI 0) (by decide) dL_read_14 ?_
    exact ex_iret dL_read_15 rfl ⟨(hg.goU _), Or.inl ⟨rfl, p', e1, e2, hx1.up ho.1 _, _, hup_eq, if_pos rfl⟩⟩
set_option maxHeartbeats 4000000 in
set_option maxRecDepth 100000 in
theorem t_Lmay {G : EG} {l : Launch} (hl : l.stackTraces = false) {h : EH} {D O : Nat} {x : DS} {f : Nat → Int64} (hx : DSK G h D x) (hI : dI x) (hO : OA G h O f) (ho : D + 106 < O ∧ O < h.1) {s t c : Nat} (hs : s < pT (dp x)) (ht : t < pT (dp x)) (hc : c < pC (dp x)) : ES G l 7 mL_may [.ref D, .int (nI s), .int (nI t), .int (nI c), .ref O] h 1 6 (fun v h' => GO D O h h' ∧ (v = some (.int (nI 0)) ∧ ∃ a f', OA G h' O f' ∧ f' 0 = (nI a).toInt64 ∧ ((lk (dL x) (cel s t c) = none ∧ a = perm (dp x) s t c ∧ DSK G h' D (mayM x (cel s t c) (perm (dp x) s t c))) ∨ ∃ k, lk (dL x) (cel s t c) = some k ∧ a = la (dL x) k ∧ DSK G h' D (mayH x (cel s t c) k)))) eNoX := by
  obtain ⟨fs, hob⟩ := hx.ob
  refine es_ofH (by decide) (by decide) (Nat.le_of_ble_eq_true rfl) ?_
  refine ex_aload rfl dL_may_0 ?_
  refine ex_iconst (v := nI 0) (by decide) dL_may_2 ?_
  refine ex_aload_n rfl dL_may_3 ?_
  refine ex_iload_n rfl dL_may_4 ?_
  refine ex_iload_n rfl dL_may_5 ?_
  refine ex_iload_n rfl dL_may_6 ?_
  refine ex_invvC (k := 0) (n := 0) (mc' := 1) (ms' := 6) (As := [_, _, _]) dL_may_7 cv_L_20 (by decide) (Nat.le_of_ble_eq_true rfl) (Or.inl ⟨_, _, _, _, hob, rfl⟩) (s_may hx hI hs ht hc) (fun E h' q => ?_) (fun v h' q => ?_)
  · exact q.elim
  · rcases q with ⟨e1, rfl, hx1, hg⟩ | ⟨k, e1, rfl, hx1, hg⟩
    · have hO1 := hO.gf hg ho
      refine ex_i2l dL_may_10 ?_
      refine ex_last dL_may_11 hO1 (vp_in_nI (n := 0) (N := 1) (by decide) (by decide)) ?_
      refine ex_goto (tgt := 19) (by decide) dL_may_12 ?_
      refine ex_iconst (v := nI 0) (by decide) dL_may_19 ?_
      exact ex_iret dL_may_20 rfl ⟨(hg.goU _), rfl, _, _, hup_eq, if_pos rfl, Or.inl ⟨e1, rfl, hx1.up ho.1 _⟩⟩
    · have hO1 := hO.gf hg ho
      refine ex_i2l dL_may_10 ?_
      refine ex_last dL_may_11 hO1 (vp_in_nI (n := 0) (N := 1) (by decide) (by decide)) ?_
      refine ex_goto (tgt := 19) (by decide) dL_may_12 ?_
      refine ex_iconst (v := nI 0) (by decide) dL_may_19 ?_
      exact ex_iret dL_may_20 rfl ⟨(hg.goU _), rfl, _, _, hup_eq, if_pos rfl, Or.inr ⟨k, e1, rfl, hx1.up ho.1 _⟩⟩
set_option maxHeartbeats 4000000 in
set_option maxRecDepth 100000 in
theorem t_LmayN {G : EG} {l : Launch} (hl : l.stackTraces = false) {h : EH} {D O : Nat} {x : DS} {f : Nat → Int64} (hx : DSK G h D x) (hI : dI x) (hO : OA G h O f) (ho : D + 106 < O ∧ O < h.1) {s t c : Int32} (hn : ¬ (inR s (pT (dp x)) ∧ inR t (pT (dp x)) ∧ inR c (pC (dp x)))) : ES G l 7 mL_may [.ref D, .int s, .int t, .int c, .ref O] h 1 6 (fun v h' => GO D O h h' ∧ (v = some (.int (nI 1)) ∧ DSK G h' D x ∧ OA G h' O f)) eNoX := by
  obtain ⟨fs, hob⟩ := hx.ob
  refine es_ofH (by decide) (by decide) (Nat.le_of_ble_eq_true rfl) ?_
  refine ex_aload rfl dL_may_0 ?_
  refine ex_iconst (v := nI 0) (by decide) dL_may_2 ?_
  refine ex_aload_n rfl dL_may_3 ?_
  refine ex_iload_n rfl dL_may_4 ?_
  refine ex_iload_n rfl dL_may_5 ?_
  refine ex_iload_n rfl dL_may_6 ?_
  refine ex_invvC (k := 0) (n := 0) (mc' := 1) (ms' := 6) (As := [_, _, _]) dL_may_7 cv_L_20 (by decide) (Nat.le_of_ble_eq_true rfl) (Or.inl ⟨_, _, _, _, hob, rfl⟩) (s_mayNo hl hx hn) (fun E h' q => ?_) (fun v h' q => ?_)
  · obtain ⟨rfl, hx1, hg⟩ := q
    have hO1 := hO.gf hg ho
    refine ⟨15, ct_may_NSE, fun q => ?_⟩
    refine ex_astore (by decide) rfl dL_may_15 ?_
    refine ex_iconst (v := nI 1) (by decide) dL_may_17 ?_
    exact ex_iret dL_may_18 rfl ⟨hg.go, rfl, hx1, hO1⟩
  · exact q.elim
theorem t_Lcell {G : EG} {l : Launch} {h : EH} (hN : (esc G).2.1 < 2 ^ 31) : ES G l 0 mL_cell [.ref (esc G).1, .int (nI 0)] h 0 0 (fun v h' => v = some (.int (if 0 < (esc G).2.1 then (esc G).2.2 0 else 0)) ∧ h' = h) eNoX := by
  refine es_of (by decide) rfl (Nat.le_of_ble_eq_true rfl) ?_
  refine ex_iload_n rfl dL_cell_0 ?_
  refine ex_aload_n rfl dL_cell_1 ?_
  refine ex_tlen (z := (.int, (esc G).1, (esc G).2.1, fun j => .int ((esc G).2.2 j))) (v := nI (esc G).2.1) dL_cell_2 (Or.inl rfl) rfl ?_
  refine ex_icmpN_ge (tgt := 12) (by decide) dL_cell_3 (by decide) hN (fun c1 => ?_) (fun c1 => ?_)
  · refine ex_iconst (v := nI 0) (by decide) dL_cell_12 ?_
    exact ex_iret dL_cell_13 rfl ⟨by rw [if_neg (by omega)]; rfl, rfl⟩
  · refine ex_aload_n rfl dL_cell_6 ?_
    refine ex_iload_n rfl dL_cell_7 ?_
    refine ex_taldN dL_cell_8 (Or.inl rfl) c1 hN ?_
    refine ex_goto (tgt := 13) (by decide) dL_cell_9 ?_
    exact ex_iret dL_cell_13 rfl ⟨by rw [if_pos c1], rfl⟩
