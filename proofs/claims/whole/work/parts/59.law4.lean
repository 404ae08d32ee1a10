/-! THE LAW: calls that may throw, the loop, the whole body -/
set_option maxHeartbeats 4000000 in
set_option maxRecDepth 100000 in
theorem la_1 {G : EG} {l : Launch} (hl : l.stackTraces = false) {h : EH} {D M O i k n : Nat} {x : DS} {y : MS} {f : Nat → Int64} (hN : (esc G).2.1 < 2 ^ 31) (hi : i + 4 ≤ (esc G).2.1) (L : LI G h D M O x y f)  (ho : ∀ (h' : EH) (x' : DS) (y' : MS) (f' : Nat → Int64), LI G h' D M O x' y' f' → Ex G l 13 mL_law (fun v _ => v = some (.int (nI 1))) eNoX k n 658 [(0, .ref (esc G).1), (1, .ref D), (2, .ref M), (3, .ref O), (4, .int (nI (i)))] [] h') : Ex G l 13 mL_law (fun v _ => v = some (.int (nI 1))) eNoX (k + 1) (n + 6) 177 [(0, .ref (esc G).1), (1, .ref D), (2, .ref M), (3, .ref O), (4, .int (nI (i)))] [] h := by
  obtain ⟨hx, hM, hR, hO, hb1, hb2, hb3⟩ := id L
  obtain ⟨fs, hob⟩ := hx.ob
  have hB := hR.2.2.2.2.2.2.1.1
  have hdB := hx.bd
  have hT := hR.T
  have hI := hR.2.2.2.2.2.2.2
  have rel := hR.mps
  have hx8 : ∀ j, j < ms y 2 → mA y 1 j < 128 := by rw [hR.1.2]; exact fun j _ => hI.1 j
  have e6 := hR.2.1.1
  refine ex_aload_n rfl dL_law_177 ?_
  refine ex_aload_n rfl dL_law_178 ?_
  refine ex_invsW (k := k) (n := n) (mc' := 1) (ms' := 6) (As := [_, _]) dL_law_179 cw_L_48 (by decide) (Nat.le_of_ble_eq_true rfl) (t_Ladd hl hx hI hO ⟨by omega, hb3⟩) (fun v h1 q => ?_)
  obtain ⟨hg, q⟩ := q
  have hM1 := L.mo hg
  rcases q with ⟨rfl, e1, e2, hx1, f', hO1, hf'⟩ | ⟨rfl, e1, hx1, hO1⟩ | ⟨rfl, e1, e2, hx1, hO1⟩
  · refine ex_istore (by decide) rfl dL_law_182 ?_
    refine ex_aload_n rfl dL_law_184 ?_
    refine ex_invv (k := k) (n := n) (mc' := 0) (ms' := 0) (As := []) dL_law_185 cv_L_51 (by decide) (Nat.le_of_ble_eq_true rfl) (Or.inl ⟨_, _, _, _, hM1.1, rfl⟩) (t_add hM1 hB rfl rfl hx8 hB.2.1) (fun v h2 q => ?_)
    obtain ⟨hF2, y2, k2, eS, q⟩ := q
    rcases q with ⟨m1, rfl, hM2⟩ | ⟨m1, m2, rfl, hM2⟩ | ⟨m1, m2, rfl, hM2⟩
    · exact absurd (m1.symm.trans (rel.1.trans e1)) (by decide)
    · omega
    · refine ex_istore (by decide) rfl dL_law_188 ?_
      exact ex_lv [(0, .ref (esc G).1), (1, .ref D), (2, .ref M), (3, .ref O), (4, .int (nI (i))), (5, .int (nI 0)), (6, .int (nI (ms y 6)))] ⟨rfl, rfl, rfl, rfl, rfl, rfl, rfl, trivial⟩ (l_tl190 hN hi (L.do hx1 hg hO1 hM2 hF2 (hR.ak hdB hx.k9 k2 e1 e2 (by rw [eS m1]; exact rel.2.2 e1))) (rfl) (by decide) (fun _ => by rw [e6]; exact hf') ho)
  · refine ex_istore (by decide) rfl dL_law_182 ?_
    refine ex_aload_n rfl dL_law_184 ?_
    refine ex_invv (k := k) (n := n) (mc' := 0) (ms' := 0) (As := []) dL_law_185 cv_L_51 (by decide) (Nat.le_of_ble_eq_true rfl) (Or.inl ⟨_, _, _, _, hM1.1, rfl⟩) (t_add hM1 hB rfl rfl hx8 hB.2.1) (fun v h2 q => ?_)
    obtain ⟨hF2, y2, k2, eS, q⟩ := q
    rcases q with ⟨m1, rfl, hM2⟩ | ⟨m1, m2, rfl, hM2⟩ | ⟨m1, m2, rfl, hM2⟩
    · refine ex_istore (by decide) rfl dL_law_188 ?_
      exact ex_lv [(0, .ref (esc G).1), (1, .ref D), (2, .ref M), (3, .ref O), (4, .int (nI (i))), (5, .int (nI 1)), (6, .int (nI 0))] ⟨rfl, rfl, rfl, rfl, rfl, rfl, rfl, trivial⟩ (l_tl190 hN hi (L.do hx1 hg hO1 hM2 hF2 (by have z := hR.ad hdB k2 1; rw [show addE x = nI (mPs (mA y 1) (ms y 2) (wd (mS y (ms y 6)))).2.1 by unfold addE; rw [e1, rel.2.1]; rfl] at z; exact z)) (rfl) (by decide) ((fun z => absurd z (by decide))) ho)
    · exact absurd (m1.symm.trans (rel.1.trans e1)) (by decide)
    · exact absurd (m1.symm.trans (rel.1.trans e1)) (by decide)
  · refine ex_istore (by decide) rfl dL_law_182 ?_
    refine ex_aload_n rfl dL_law_184 ?_
    refine ex_invv (k := k) (n := n) (mc' := 0) (ms' := 0) (As := []) dL_law_185 cv_L_51 (by decide) (Nat.le_of_ble_eq_true rfl) (Or.inl ⟨_, _, _, _, hM1.1, rfl⟩) (t_add hM1 hB rfl rfl hx8 hB.2.1) (fun v h2 q => ?_)
    obtain ⟨hF2, y2, k2, eS, q⟩ := q
    rcases q with ⟨m1, rfl, hM2⟩ | ⟨m1, m2, rfl, hM2⟩ | ⟨m1, m2, rfl, hM2⟩
    · exact absurd (m1.symm.trans (rel.1.trans e1)) (by decide)
    · refine ex_istore (by decide) rfl dL_law_188 ?_
      exact ex_lv [(0, .ref (esc G).1), (1, .ref D), (2, .ref M), (3, .ref O), (4, .int (nI (i))), (5, .int (nI 2)), (6, .int (nI 0))] ⟨rfl, rfl, rfl, rfl, rfl, rfl, rfl, trivial⟩ (l_tl190 hN hi (L.do hx1 hg hO1 hM2 hF2 (by have z := hR.ad hdB k2 2; rw [show addE x = -1 by unfold addE; rw [e1]; rfl] at z; exact z)) (rfl) (by decide) ((fun z => absurd z (by decide))) ho)
    · omega
set_option maxHeartbeats 4000000 in
set_option maxRecDepth 100000 in
theorem la_4 {G : EG} {l : Launch} (hl : l.stackTraces = false) (hG : eInj G) {h : EH} {D M O i k n : Nat} {x : DS} {y : MS} {f : Nat → Int64} (hN : (esc G).2.1 < 2 ^ 31) (hi : i + 4 ≤ (esc G).2.1) (L : LI G h D M O x y f)  (ho : ∀ (h' : EH) (x' : DS) (y' : MS) (f' : Nat → Int64), LI G h' D M O x' y' f' → Ex G l 13 mL_law (fun v _ => v = some (.int (nI 1))) eNoX k n 658 [(0, .ref (esc G).1), (1, .ref D), (2, .ref M), (3, .ref O), (4, .int (nI (i)))] [] h') : Ex G l 13 mL_law (fun v _ => v = some (.int (nI 1))) eNoX (k + 1) (n + 6) 259 [(0, .ref (esc G).1), (1, .ref D), (2, .ref M), (3, .ref O), (4, .int (nI (i)))] [] h := by
  obtain ⟨hx, hM, hR, hO, hb1, hb2, hb3⟩ := id L
  obtain ⟨fs, hob⟩ := hx.ob
  have hB := hR.2.2.2.2.2.2.1.1
  have hdB := hx.bd
  have hT := hR.T
  have hI := hR.2.2.2.2.2.2.2
  have hNn := hR.2.2.2.2.2.2.1.2
  refine ex_aload_n rfl dL_law_259 ?_
  refine ex_aload_n rfl dL_law_260 ?_
  refine ex_invsW (k := k) (n := n) (mc' := 1) (ms' := 6) (As := [_, _]) dL_law_261 cw_L_64 (by decide) (Nat.le_of_ble_eq_true rfl) (t_Laccept hl hG hx hI hO ⟨by omega, hb3⟩) (fun v h1 q => ?_)
  obtain ⟨hg, q⟩ := q
  have hM1 := L.mo hg
  rcases q with ⟨rfl, p', w1, w2, w3, hx1, f', hO1, hf'⟩ | ⟨rfl, hO1, i', w1, hx1⟩ | ⟨rfl, hO1, i', p', w1, w2, w3, hx1⟩
  · refine ex_istore (by decide) rfl dL_law_264 ?_
    refine ex_aload_n rfl dL_law_266 ?_
    refine ex_invv (k := k) (n := n) (mc' := 0) (ms' := 0) (As := []) dL_law_267 cv_L_66 (by decide) (Nat.le_of_ble_eq_true rfl) (Or.inl ⟨_, _, _, _, hM1.1, rfl⟩) (t_accept hM1 hB hR.H hNn) (fun v h2 q => ?_)
    obtain ⟨hF2, y', hM2, hA⟩ := q
    obtain ⟨b, rfl⟩ := hA.v
    obtain ⟨e1, e2, hR'⟩ := hR.ac3 hA w1 w2 w3
    have eb : b = nI (pT p') := by injection e2 with e2; injection e2
    refine ex_istore (by decide) rfl dL_law_270 ?_
    exact ex_lv [(0, .ref (esc G).1), (1, .ref D), (2, .ref M), (3, .ref O), (4, .int (nI (i))), (5, .int (nI 0)), (6, .int (b))] ⟨rfl, rfl, rfl, rfl, rfl, rfl, rfl, trivial⟩ (l_tl272 hN hi (L.do hx1 hg hO1 hM2 hF2 hR') (e1) (by decide) (fun _ => by rw [eb]; exact hf') ho)
  · refine ex_istore (by decide) rfl dL_law_264 ?_
    refine ex_aload_n rfl dL_law_266 ?_
    refine ex_invv (k := k) (n := n) (mc' := 0) (ms' := 0) (As := []) dL_law_267 cv_L_66 (by decide) (Nat.le_of_ble_eq_true rfl) (Or.inl ⟨_, _, _, _, hM1.1, rfl⟩) (t_accept hM1 hB hR.H hNn) (fun v h2 q => ?_)
    obtain ⟨hF2, y', hM2, hA⟩ := q
    obtain ⟨b, rfl⟩ := hA.v
    obtain ⟨e1, hR'⟩ := hR.ac1 hA w1
    refine ex_istore (by decide) rfl dL_law_270 ?_
    exact ex_lv [(0, .ref (esc G).1), (1, .ref D), (2, .ref M), (3, .ref O), (4, .int (nI (i))), (5, .int (nI 1)), (6, .int (b))] ⟨rfl, rfl, rfl, rfl, rfl, rfl, rfl, trivial⟩ (l_tl272 hN hi (L.do hx1 hg hO1 hM2 hF2 hR') (e1) (by decide) ((fun z => absurd z (by decide))) ho)
  · refine ex_istore (by decide) rfl dL_law_264 ?_
    refine ex_aload_n rfl dL_law_266 ?_
    refine ex_invv (k := k) (n := n) (mc' := 0) (ms' := 0) (As := []) dL_law_267 cv_L_66 (by decide) (Nat.le_of_ble_eq_true rfl) (Or.inl ⟨_, _, _, _, hM1.1, rfl⟩) (t_accept hM1 hB hR.H hNn) (fun v h2 q => ?_)
    obtain ⟨hF2, y', hM2, hA⟩ := q
    obtain ⟨b, rfl⟩ := hA.v
    obtain ⟨e1, hR'⟩ := hR.ac2 hA w1 w2 w3
    refine ex_istore (by decide) rfl dL_law_270 ?_
    exact ex_lv [(0, .ref (esc G).1), (1, .ref D), (2, .ref M), (3, .ref O), (4, .int (nI (i))), (5, .int (nI 2)), (6, .int (b))] ⟨rfl, rfl, rfl, rfl, rfl, rfl, rfl, trivial⟩ (l_tl272 hN hi (L.do hx1 hg hO1 hM2 hF2 hR') (e1) (by decide) ((fun z => absurd z (by decide))) ho)
set_option maxHeartbeats 4000000 in
set_option maxRecDepth 100000 in
theorem la_13 {G : EG} {l : Launch} (hl : l.stackTraces = false) {h : EH} {D M O i k n : Nat} {x : DS} {y : MS} {f : Nat → Int64} (hN : (esc G).2.1 < 2 ^ 31) (hi : i + 4 ≤ (esc G).2.1) (L : LI G h D M O x y f)  (ho : ∀ (h' : EH) (x' : DS) (y' : MS) (f' : Nat → Int64), LI G h' D M O x' y' f' → Ex G l 13 mL_law (fun v _ => v = some (.int (nI 1))) eNoX k n 658 [(0, .ref (esc G).1), (1, .ref D), (2, .ref M), (3, .ref O), (4, .int (nI (i)))] [] h') : Ex G l 13 mL_law (fun v _ => v = some (.int (nI 1))) eNoX (k + 1) (n + 6) 614 [(0, .ref (esc G).1), (1, .ref D), (2, .ref M), (3, .ref O), (4, .int (nI (i)))] [] h := by
  obtain ⟨hx, hM, hR, hO, hb1, hb2, hb3⟩ := id L
  obtain ⟨fs, hob⟩ := hx.ob
  have hB := hR.2.2.2.2.2.2.1.1
  have hdB := hx.bd
  have hT := hR.T
  have hI := hR.2.2.2.2.2.2.2
  have hff := hR.ff
  have h28 : ms y 28 ≤ 420 := by rw [hff.1]; exact hdB.2.2.2.2
  have hb6 : ∀ j, j < ms y 28 → mA y 16 j < 256 := fun j hj => by rw [hff.2 j (by rw [← hff.1]; exact hj)]; exact hI.2.2.2 j
  refine ex_aload_n rfl dL_law_614 ?_
  refine ex_aload_n rfl dL_law_615 ?_
  refine ex_invsW (k := k) (n := n) (mc' := 1) (ms' := 6) (As := [_, _]) dL_law_616 cw_L_102 (by decide) (Nat.le_of_ble_eq_true rfl) (t_Lread hl hx hI hO ⟨by omega, hb3⟩) (fun v h1 q => ?_)
  obtain ⟨hg, q⟩ := q
  have hM1 := L.mo hg
  rcases q with ⟨rfl, p', w1, w2, hx1, f', hO1, hf'⟩ | ⟨rfl, w1, hx1, hO1⟩
  · refine ex_istore (by decide) rfl dL_law_619 ?_
    refine ex_aload_n rfl dL_law_621 ?_
    refine ex_invv (k := k) (n := n) (mc' := 0) (ms' := 0) (As := []) dL_law_622 cv_L_104 (by decide) (Nat.le_of_ble_eq_true rfl) (Or.inl ⟨_, _, _, _, hM1.1, rfl⟩) (t_read hM1 h28 hb6 (hR.wf.mpr w1)) (fun v h2 q => ?_)
    obtain ⟨rfl, ⟨y', hM2, kk, e1, e21, e28, g, rk, hMP, hRD⟩, hF2⟩ := q
    obtain ⟨hR', e0⟩ := hR.rd w1 w2 kk e21 e28 hMP hRD
    refine ex_istore (by decide) rfl dL_law_625 ?_
    exact ex_lv [(0, .ref (esc G).1), (1, .ref D), (2, .ref M), (3, .ref O), (4, .int (nI (i))), (5, .int (nI 0)), (6, .int (nI (mA y 16 0)))] ⟨rfl, rfl, rfl, rfl, rfl, rfl, rfl, trivial⟩ (l_tl627 hN hi (L.do hx1 hg hO1 hM2 hF2 hR') (e1) (by decide) (fun _ => by rw [← e0]; exact hf') ho)
  · refine ex_istore (by decide) rfl dL_law_619 ?_
    refine ex_aload_n rfl dL_law_621 ?_
    refine ex_invv (k := k) (n := n) (mc' := 0) (ms' := 0) (As := []) dL_law_622 cv_L_104 (by decide) (Nat.le_of_ble_eq_true rfl) (Or.inl ⟨_, _, _, _, hM1.1, rfl⟩) (t_readN hM1 h28 hb6 (fun z => w1 (hR.wf.mp z))) (fun v h2 q => ?_)
    obtain ⟨rfl, hM2, hF2⟩ := q
    refine ex_istore (by decide) rfl dL_law_625 ?_
    exact ex_lv [(0, .ref (esc G).1), (1, .ref D), (2, .ref M), (3, .ref O), (4, .int (nI (i))), (5, .int (nI 1)), (6, .int (nI 0))] ⟨rfl, rfl, rfl, rfl, rfl, rfl, rfl, trivial⟩ (l_tl627 hN hi (L.do hx1 hg hO1 hM2 hF2 hR.rdN) (rfl) (by decide) ((fun z => absurd z (by decide))) ho)
set_option maxHeartbeats 4000000 in
set_option maxRecDepth 100000 in
theorem la_6a {G : EG} {l : Launch} (hl : l.stackTraces = false) {h : EH} {D M O i k n : Nat} {x : DS} {y : MS} {f : Nat → Int64} (hN : (esc G).2.1 < 2 ^ 31) (hi : i + 4 ≤ (esc G).2.1) (L : LI G h D M O x y f) {s t c : Nat} (e1 : (esc G).2.2 (i + 1) = nI s) (e2 : (esc G).2.2 (i + 2) = nI t) (e3 : (esc G).2.2 (i + 3) = nI c) (hs : s < pT (dp x)) (ht : t < pT (dp x)) (hc : c < pC (dp x)) (ho : ∀ (h' : EH) (x' : DS) (y' : MS) (f' : Nat → Int64), LI G h' D M O x' y' f' → Ex G l 13 mL_law (fun v _ => v = some (.int (nI 1))) eNoX k n 658 [(0, .ref (esc G).1), (1, .ref D), (2, .ref M), (3, .ref O), (4, .int (nI (i)))] [] h') : Ex G l 13 mL_law (fun v _ => v = some (.int (nI 1))) eNoX (k + 1) (n + 6) 316 [(0, .ref (esc G).1), (1, .ref D), (2, .ref M), (3, .ref O), (4, .int (nI (i)))] [] h := by
  obtain ⟨hx, hM, hR, hO, hb1, hb2, hb3⟩ := id L
  obtain ⟨fs, hob⟩ := hx.ob
  have hB := hR.2.2.2.2.2.2.1.1
  have hdB := hx.bd
  have hT := hR.T
  have hI := hR.2.2.2.2.2.2.2
  refine ex_aload_n rfl dL_law_316 ?_
  refine ex_aload_n rfl dL_law_317 ?_
  refine ex_iload rfl dL_law_318 ?_
  refine ex_iconst (v := (nI 1)) (by decide) dL_law_320 ?_
  refine ex_iaddN dL_law_321 ?_
  refine ex_taldN dL_law_322 (Or.inl rfl) (by omega) hN ?_
  rw [e1]
  refine ex_aload_n rfl dL_law_323 ?_
  refine ex_iload rfl dL_law_324 ?_
  refine ex_iconst (v := (nI 2)) (by decide) dL_law_326 ?_
  refine ex_iaddN dL_law_327 ?_
  refine ex_taldN dL_law_328 (Or.inl rfl) (by omega) hN ?_
  rw [e2]
  refine ex_aload_n rfl dL_law_329 ?_
  refine ex_iload rfl dL_law_330 ?_
  refine ex_iconst (v := (nI 3)) (by decide) dL_law_332 ?_
  refine ex_iaddN dL_law_333 ?_
  refine ex_taldN dL_law_334 (Or.inl rfl) (by omega) hN ?_
  rw [e3]
  refine ex_aload_n rfl dL_law_335 ?_
  refine ex_invsW (k := k) (n := n) (mc' := 1) (ms' := 6) (As := [_, _, _, _, _]) dL_law_336 cw_L_71 (by decide) (Nat.le_of_ble_eq_true rfl) (t_Lmay hl hx hI hO ⟨by omega, hb3⟩ hs ht hc) (fun v h1 q => ?_)
  obtain ⟨hg, rfl, a, f', hO1, hf', q1⟩ := q
  have hM1 := L.mo hg
  refine ex_istore (by decide) rfl dL_law_339 ?_
  refine ex_aload_n rfl dL_law_341 ?_
  refine ex_aload_n rfl dL_law_342 ?_
  refine ex_iload rfl dL_law_343 ?_
  refine ex_iconst (v := (nI 1)) (by decide) dL_law_345 ?_
  refine ex_iaddN dL_law_346 ?_
  refine ex_taldN dL_law_347 (Or.inl rfl) (by omega) hN ?_
  rw [e1]
  refine ex_aload_n rfl dL_law_348 ?_
  refine ex_iload rfl dL_law_349 ?_
  refine ex_iconst (v := (nI 2)) (by decide) dL_law_351 ?_
  refine ex_iaddN dL_law_352 ?_
  refine ex_taldN dL_law_353 (Or.inl rfl) (by omega) hN ?_
  rw [e2]
  refine ex_aload_n rfl dL_law_354 ?_
  refine ex_iload rfl dL_law_355 ?_
  refine ex_iconst (v := (nI 3)) (by decide) dL_law_357 ?_
  refine ex_iaddN dL_law_358 ?_
  refine ex_taldN dL_law_359 (Or.inl rfl) (by omega) hN ?_
  rw [e3]
  refine ex_invv (k := k) (n := n) (mc' := 0) (ms' := 0) (As := [_, _, _]) dL_law_360 cv_L_74 (by decide) (Nat.le_of_ble_eq_true rfl) (Or.inl ⟨_, _, _, _, hM1.1, rfl⟩) (t_may hM1 (hR.V hdB) (by rw [← hT.1]; exact hs) (by rw [← hT.1]; exact ht) (by rw [← hT.2]; exact hc) hR.2.2.1.2.1 (by rw [hR.2.2.1.1]; exact hdB.2.2.1.1) (by rw [hR.2.2.1.1]; exact hdB.2.2.1.2.1) (by rw [hR.2.2.1.1]; exact hdB.2.2.1.2.2.1) hdB.2.2.1.2.2.2) (fun v h2 q => ?_)
  obtain ⟨h9, hFa, hFb, y', hM2, kk, q2⟩ := q
  have hF2 := hFa.tr hFb
  have e0 : ms (th0 y 0) 0 = dcap x := hR.2.2.1.1
  rw [cel_64, pol_w hR.2.2.2.2.1.1 hdB.2.1 hs ht hc, e0] at q2
  have hpl := perm_lt hdB.2.1 s t c
  have e1 : ms y' 1 = 0 := kk.1 1 (by decide)
  rcases q1 with ⟨w1, rfl, hx1⟩ | ⟨k', w1, rfl, hx1⟩
  · rcases q2 with ⟨m1, rfl, mL, m24, m25⟩ | ⟨k2, m1, rfl, mL, m24, m25⟩
    · refine ex_istore (by decide) rfl dL_law_363 ?_
      exact ex_lv [(0, .ref (esc G).1), (1, .ref D), (2, .ref M), (3, .ref O), (4, .int (nI (i))), (5, .int (nI 0)), (6, .int (nI (perm (dp x) s t c)))] ⟨rfl, rfl, rfl, rfl, rfl, rfl, rfl, trivial⟩ (l_tl365 hN hi (L.do hx1 hg hO1 hM2 hF2 ((hR.th 0).mem kk mL (m24.trans hR.2.2.1.2.2.1) (m25.trans (by show ms y 25 + 1 = _; rw [hR.2.2.1.2.2.2])) (la_mis hI.2.2.1 hpl))) (e1) (by decide) (fun _ => hf') ho)
    · exact absurd (w1.symm.trans m1) (by intro z; cases z)
  · rcases q2 with ⟨m1, rfl, mL, m24, m25⟩ | ⟨k2, m1, rfl, mL, m24, m25⟩
    · exact absurd (w1.symm.trans m1) (by intro z; cases z)
    · obtain rfl : k' = k2 := Option.some.inj (w1.symm.trans m1)
      refine ex_istore (by decide) rfl dL_law_363 ?_
      exact ex_lv [(0, .ref (esc G).1), (1, .ref D), (2, .ref M), (3, .ref O), (4, .int (nI (i))), (5, .int (nI 0)), (6, .int (nI (la (dL x) k')))] ⟨rfl, rfl, rfl, rfl, rfl, rfl, rfl, trivial⟩ (l_tl365 hN hi (L.do hx1 hg hO1 hM2 hF2 ((hR.th 0).mem kk mL (m24.trans (by show ms y 24 + 1 = _; rw [hR.2.2.1.2.2.1])) (m25.trans hR.2.2.1.2.2.2) (la_hit hI.2.2.1))) (e1) (by decide) (fun _ => hf') ho)
set_option maxHeartbeats 4000000 in
set_option maxRecDepth 100000 in
theorem la_6b {G : EG} {l : Launch} (hl : l.stackTraces = false) {h : EH} {D M O i k n : Nat} {x : DS} {y : MS} {f : Nat → Int64} (hN : (esc G).2.1 < 2 ^ 31) (hi : i + 4 ≤ (esc G).2.1) (L : LI G h D M O x y f) (hn : ¬ (inR ((esc G).2.2 (i + 1)) (pT (dp x)) ∧ inR ((esc G).2.2 (i + 2)) (pT (dp x)) ∧ inR ((esc G).2.2 (i + 3)) (pC (dp x)))) (ho : ∀ (h' : EH) (x' : DS) (y' : MS) (f' : Nat → Int64), LI G h' D M O x' y' f' → Ex G l 13 mL_law (fun v _ => v = some (.int (nI 1))) eNoX k n 658 [(0, .ref (esc G).1), (1, .ref D), (2, .ref M), (3, .ref O), (4, .int (nI (i)))] [] h') : Ex G l 13 mL_law (fun v _ => v = some (.int (nI 1))) eNoX (k + 1) (n + 6) 316 [(0, .ref (esc G).1), (1, .ref D), (2, .ref M), (3, .ref O), (4, .int (nI (i)))] [] h := by
  obtain ⟨hx, hM, hR, hO, hb1, hb2, hb3⟩ := id L
  obtain ⟨fs, hob⟩ := hx.ob
  have hB := hR.2.2.2.2.2.2.1.1
  have hdB := hx.bd
  have hT := hR.T
  have hI := hR.2.2.2.2.2.2.2
  refine ex_aload_n rfl dL_law_316 ?_
  refine ex_aload_n rfl dL_law_317 ?_
  refine ex_iload rfl dL_law_318 ?_
  refine ex_iconst (v := (nI 1)) (by decide) dL_law_320 ?_
  refine ex_iaddN dL_law_321 ?_
  refine ex_taldN dL_law_322 (Or.inl rfl) (by omega) hN ?_
  refine ex_aload_n rfl dL_law_323 ?_
  refine ex_iload rfl dL_law_324 ?_
  refine ex_iconst (v := (nI 2)) (by decide) dL_law_326 ?_
  refine ex_iaddN dL_law_327 ?_
  refine ex_taldN dL_law_328 (Or.inl rfl) (by omega) hN ?_
  refine ex_aload_n rfl dL_law_329 ?_
  refine ex_iload rfl dL_law_330 ?_
  refine ex_iconst (v := (nI 3)) (by decide) dL_law_332 ?_
  refine ex_iaddN dL_law_333 ?_
  refine ex_taldN dL_law_334 (Or.inl rfl) (by omega) hN ?_
  refine ex_aload_n rfl dL_law_335 ?_
  refine ex_invsW (k := k) (n := n) (mc' := 1) (ms' := 6) (As := [_, _, _, _, _]) dL_law_336 cw_L_71 (by decide) (Nat.le_of_ble_eq_true rfl) (t_LmayN hl hx hI hO ⟨by omega, hb3⟩ hn) (fun v h1 q => ?_)
  obtain ⟨hg, rfl, hx1, hO1⟩ := q
  have hM1 := L.mo hg
  refine ex_istore (by decide) rfl dL_law_339 ?_
  refine ex_aload_n rfl dL_law_341 ?_
  refine ex_aload_n rfl dL_law_342 ?_
  refine ex_iload rfl dL_law_343 ?_
  refine ex_iconst (v := (nI 1)) (by decide) dL_law_345 ?_
  refine ex_iaddN dL_law_346 ?_
  refine ex_taldN dL_law_347 (Or.inl rfl) (by omega) hN ?_
  refine ex_aload_n rfl dL_law_348 ?_
  refine ex_iload rfl dL_law_349 ?_
  refine ex_iconst (v := (nI 2)) (by decide) dL_law_351 ?_
  refine ex_iaddN dL_law_352 ?_
  refine ex_taldN dL_law_353 (Or.inl rfl) (by omega) hN ?_
  refine ex_aload_n rfl dL_law_354 ?_
  refine ex_iload rfl dL_law_355 ?_
  refine ex_iconst (v := (nI 3)) (by decide) dL_law_357 ?_
  refine ex_iaddN dL_law_358 ?_
  refine ex_taldN dL_law_359 (Or.inl rfl) (by omega) hN ?_
  refine ex_invv (k := k) (n := n) (mc' := 0) (ms' := 0) (As := [_, _, _]) dL_law_360 cv_L_74 (by decide) (Nat.le_of_ble_eq_true rfl) (Or.inl ⟨_, _, _, _, hM1.1, rfl⟩) (t_mayN hM1 (by rw [← hT.1, ← hT.2]; exact hn)) (fun v h' q => ?_)
  obtain ⟨rfl, hM2, hF2⟩ := q
  refine ex_istore (by decide) rfl dL_law_363 ?_
  exact ex_lv [(0, .ref (esc G).1), (1, .ref D), (2, .ref M), (3, .ref O), (4, .int (nI (i))), (5, .int (nI 1)), (6, .int (nI 0))] ⟨rfl, rfl, rfl, rfl, rfl, rfl, rfl, trivial⟩ (l_tl365 hN hi (L.do hx1 hg hO1 hM2 hF2 (hR.th 1)) rfl (by decide) (fun z => absurd z (by decide)) ho)
theorem and15 (x : Int32) : x &&& nI 15 = nI (x.toBitVec.toNat % 16) := pk_and x 4 (by decide)
theorem le4 {N i : Nat} (hN : N < 2 ^ 30) (hi : i < 2 ^ 30) (h1 : 1 ≤ i) (h : ¬ nI N - nI 4 < nI i) : i + 4 ≤ N := by
  rcases Nat.lt_or_ge N 4 with q | q
  · refine absurd ?_ h
    have e : ∀ N, N < 4 → (nI N - nI 4).toInt < 0 := by decide
    rw [Int32.lt_iff_toInt_lt, nI_toInt (by omega)]
    have := e N q
    omega
  · rw [pk_sub q, Int32.lt_iff_toInt_lt, nI_toInt (by omega), nI_toInt (by omega)] at h
    omega
set_option maxHeartbeats 4000000 in
set_option maxRecDepth 100000 in
theorem la_all {G : EG} {l : Launch} (hl : l.stackTraces = false) (hG : eInj G) {h : EH} {D M O i k n : Nat} {x : DS} {y : MS} {f : Nat → Int64} (hN : (esc G).2.1 < 2 ^ 31) (hi : i + 4 ≤ (esc G).2.1) (L : LI G h D M O x y f) (c : Nat) (hc : c < 16) (ho : ∀ (h' : EH) (x' : DS) (y' : MS) (f' : Nat → Int64), LI G h' D M O x' y' f' → Ex G l 13 mL_law (fun v _ => v = some (.int (nI 1))) eNoX k n 658 [(0, .ref (esc G).1), (1, .ref D), (2, .ref M), (3, .ref O), (4, .int (nI (i)))] [] h') : Ex G l 13 mL_law (fun v _ => v = some (.int (nI 1))) eNoX (k + 1) (n + 6) 49 [(0, .ref (esc G).1), (1, .ref D), (2, .ref M), (3, .ref O), (4, .int (nI (i)))] [.int (nI c)] h := by
  have hdB := L.1.bd
  rcases (show c = 0 ∨ c = 1 ∨ c = 2 ∨ c = 3 ∨ c = 4 ∨ c = 5 ∨ c = 6 ∨ c = 7 ∨ c = 8 ∨ c = 9 ∨ c = 10 ∨ c = 11 ∨ c = 12 ∨ c = 13 ∨ c = 14 ∨ c = 15 by omega) with rfl | rfl | rfl | rfl | rfl | rfl | rfl | rfl | rfl | rfl | rfl | rfl | rfl | rfl | rfl | rfl
  · exact ex_tblI (tgt := 120) dL_law_49 (by decide) (by decide) (off := 71) (by decide) (by decide) (ex_bud (k' := k) (n' := n) (by omega) (by omega) (la_0 hN hi L ho))
  · exact ex_tblI (tgt := 177) dL_law_49 (by decide) (by decide) (off := 128) (by decide) (by decide) (la_1 hl hN hi L ho)
  · exact ex_tblI (tgt := 221) dL_law_49 (by decide) (by decide) (off := 172) (by decide) (by decide) (ex_bud (k' := k) (n' := n) (by omega) (by omega) (la_2 hN hi L ho))
  · exact ex_tblI (tgt := 234) dL_law_49 (by decide) (by decide) (off := 185) (by decide) (by decide) (by rcases i_cut ((esc G).2.2 (i + 1)) (N := dm x) (by have := hdB.1.2; omega) with ⟨m, m1, m2⟩ | z; exact (ex_bud (k' := k) (n' := n) (by omega) (by omega) (la_3a hN hi L m2 m1 ho)); exact (ex_bud (k' := k) (n' := n) (by omega) (by omega) (la_3b hN hi L z ho)))
  · exact ex_tblI (tgt := 259) dL_law_49 (by decide) (by decide) (off := 210) (by decide) (by decide) (la_4 hl hG hN hi L ho)
  · exact ex_tblI (tgt := 303) dL_law_49 (by decide) (by decide) (off := 254) (by decide) (by decide) (ex_bud (k' := k) (n' := n) (by omega) (by omega) (la_5 hN hi L ho))
  · exact ex_tblI (tgt := 316) dL_law_49 (by decide) (by decide) (off := 267) (by decide) (by decide) (by have h8 := hdB.2.1.1; have h3 := hdB.2.1.2.1; by_cases z : inR ((esc G).2.2 (i + 1)) (pT (dp x)) ∧ inR ((esc G).2.2 (i + 2)) (pT (dp x)) ∧ inR ((esc G).2.2 (i + 3)) (pC (dp x)); (obtain ⟨s, s1, s2⟩ := z.1.out (by omega); obtain ⟨t, t1, t2⟩ := z.2.1.out (by omega); obtain ⟨c, c1, c2⟩ := z.2.2.out (by omega); exact la_6a hl hN hi L s2 t2 c2 s1 t1 c1 ho); exact la_6b hl hN hi L z ho)
  · exact ex_tblI (tgt := 396) dL_law_49 (by decide) (by decide) (off := 347) (by decide) (by decide) (by have h8 := hdB.2.1.1; have h3 := hdB.2.1.2.1; by_cases z : inR ((esc G).2.2 (i + 1)) (pT (dp x)) ∧ inR ((esc G).2.2 (i + 2)) (pT (dp x)) ∧ inR ((esc G).2.2 (i + 3)) (pC (dp x)); (obtain ⟨s, s1, s2⟩ := z.1.out (by omega); obtain ⟨t, t1, t2⟩ := z.2.1.out (by omega); obtain ⟨c, c1, c2⟩ := z.2.2.out (by omega); exact (ex_bud (k' := k) (n' := n) (by omega) (by omega) (la_7a hN hi L s2 t2 c2 s1 t1 c1 ho))); exact (ex_bud (k' := k) (n' := n) (by omega) (by omega) (la_7b hN hi L z ho)))
  · exact ex_tblI (tgt := 445) dL_law_49 (by decide) (by decide) (off := 396) (by decide) (by decide) (by have h8 := hdB.2.1.1; have h3 := hdB.2.1.2.1; by_cases z : inR ((esc G).2.2 (i + 1)) (pT (dp x)) ∧ inR ((esc G).2.2 (i + 2)) (pT (dp x)); (obtain ⟨s, s1, s2⟩ := z.1.out (by omega); obtain ⟨t, t1, t2⟩ := z.2.out (by omega); exact (ex_bud (k' := k) (n' := n) (by omega) (by omega) (la_8a hN hi L s2 t2 s1 t1 ho))); exact (ex_bud (k' := k) (n' := n) (by omega) (by omega) (la_8b hN hi L z ho)))
  · exact ex_tblI (tgt := 482) dL_law_49 (by decide) (by decide) (off := 433) (by decide) (by decide) (ex_bud (k' := k) (n' := n) (by omega) (by omega) (la_9 hN hi L ho))
  · exact ex_tblI (tgt := 507) dL_law_49 (by decide) (by decide) (off := 458) (by decide) (by decide) (by by_cases z : pT (dp x) = 0; exact (ex_bud (k' := k) (n' := n) (by omega) (by omega) (la_10b hN hi L z ho)); exact (ex_bud (k' := k) (n' := n) (by omega) (by omega) (la_10a hN hi L z ho)))
  · exact ex_tblI (tgt := 520) dL_law_49 (by decide) (by decide) (off := 471) (by decide) (by decide) (ex_bud (k' := k) (n' := n) (by omega) (by omega) (la_11 hN hi L ho))
  · exact ex_tblI (tgt := 545) dL_law_49 (by decide) (by decide) (off := 496) (by decide) (by decide) (by rcases i_feed ((esc G).2.2 (i + 3)) (F := (dF x).length) hdB.2.2.2.2 with ⟨m, m1, m2, m3, m4⟩ | ⟨z1, z2⟩; exact (ex_bud (k' := k) (n' := n) (by omega) (by omega) (la_12a hN hi L m1 m2 m3 m4 ho)); exact (ex_bud (k' := k) (n' := n) (by omega) (by omega) (la_12b hN hi L z1 z2 ho)))
  · exact ex_tblI (tgt := 614) dL_law_49 (by decide) (by decide) (off := 565) (by decide) (by decide) (la_13 hl hN hi L ho)
  · exact ex_tblO (tgt := 658) dL_law_49 (by decide) (by decide) (ex_bud (k' := k) (n' := n) (by omega) (by omega) (ho _ _ _ _ L))
  · exact ex_tblO (tgt := 658) dL_law_49 (by decide) (by decide) (ex_bud (k' := k) (n' := n) (by omega) (by omega) (ho _ _ _ _ L))
set_option maxHeartbeats 4000000 in
set_option maxRecDepth 100000 in
theorem l_law {G : EG} {l : Launch} (hl : l.stackTraces = false) (hG : eInj G) (hN : (esc G).2.1 ≤ 2049) {D M O : Nat} : ∀ (r i : Nat), (esc G).2.1 < i + 4 * r + 4 → 1 ≤ i → i ≤ 3000 → ∀ (h : EH) (x : DS) (y : MS) (f : Nat → Int64), LI G h D M O x y f → Ex G l 13 mL_law (fun v _ => v = some (.int (nI 1))) eNoX r (6 * r) 33 [(0, .ref (esc G).1), (1, .ref D), (2, .ref M), (3, .ref O), (4, .int (nI (i)))] [] h := by
  have key : ∀ (r i : Nat), 1 ≤ i → i ≤ 3000 → ∀ (h : EH) (x : DS) (y : MS) (f : Nat → Int64), LI G h D M O x y f → (i + 4 ≤ (esc G).2.1 → Ex G l 13 mL_law (fun v _ => v = some (.int (nI 1))) eNoX r (6 * r) 42 [(0, .ref (esc G).1), (1, .ref D), (2, .ref M), (3, .ref O), (4, .int (nI (i)))] [] h) → Ex G l 13 mL_law (fun v _ => v = some (.int (nI 1))) eNoX r (6 * r) 33 [(0, .ref (esc G).1), (1, .ref D), (2, .ref M), (3, .ref O), (4, .int (nI (i)))] [] h := by
    intro r i h1 h2 h x y f L ho
    refine ex_iload rfl dL_law_33 ?_
    refine ex_aload_n rfl dL_law_35 ?_
    refine ex_tlen (z := (.int, (esc G).1, (esc G).2.1, fun j => .int ((esc G).2.2 j))) (v := nI (esc G).2.1) dL_law_36 (Or.inl rfl) rfl ?_
    refine ex_iconst (v := nI 4) (by decide) dL_law_37 ?_
    refine ex_isub dL_law_38 ?_
    refine ex_icmp_gt (tgt := 664) (by decide) dL_law_39 (fun c1 => ?_) (fun c1 => ?_)
    · refine ex_iconst (v := nI 1) (by decide) dL_law_664 ?_
      exact ex_zret dL_law_665 rfl rfl rfl
    · exact ho (le4 (by omega) (by omega) h1 c1)
  intro r
  induction r with
  | zero =>
    intro i h1 h2 h3 h x y f L
    exact key 0 i h2 h3 h x y f L (fun z => by omega)
  | succ r ih =>
    intro i h1 h2 h3 h x y f L
    refine key (r + 1) i h2 h3 h x y f L (fun hi => ?_)
    refine ex_aload_n rfl dL_law_42 ?_
    refine ex_iload rfl dL_law_43 ?_
    refine ex_taldN dL_law_45 (Or.inl rfl) (show i < (esc G).2.1 by omega) (by omega) ?_
    refine ex_bipush (v := nI 15) (by decide) dL_law_46 ?_
    refine ex_iand dL_law_48 ?_
    rw [and15]
    refine la_all hl hG (k := r) (n := 6 * r) (by omega) hi L _ (Nat.mod_lt _ (by decide)) (fun h' x' y' f' L' => ?_)
    refine ex_iincN (z := 4) rfl (by decide) rfl dL_law_658 ?_
    refine ex_goto (tgt := 33) (by decide) dL_law_661 ?_
    exact ih (i + 4) (by omega) (by omega) (by omega) h' x' y' f' L'
set_option maxHeartbeats 4000000 in
set_option maxRecDepth 100000 in
theorem law_ex {G : EG} {l : Launch} (hl : l.stackTraces = false) (hG : eInj G) (hN : (esc G).2.1 ≤ 2049) (h : EH) : Ex G l 13 mL_law (fun v _ => v = some (.int (nI 1))) eNoX 639 7370 0 [(0, .ref (esc G).1)] [] h := by
  obtain ⟨D, hf⟩ := h
  refine ex_new (N := 10) (k := 638) (n := 7360) dL_law_0 nw_L_8 ?_
  refine ex_dup rfl dL_law_3 ?_
  refine ex_aload_n rfl dL_law_4 ?_
  refine ex_iconst (v := nI 0) (by decide) dL_law_5 ?_
  refine ex_invs (k := 638) (n := 7360) (mc' := 0) (ms' := 0) (As := [_, _]) dL_law_6 cs_L_29 (by decide) (Nat.le_of_ble_eq_true rfl) (t_Lcell (by omega)) (fun v h1 q => ?_)
  obtain ⟨rfl, rfl⟩ := q
  refine ex_invi (k := 532) (n := 5005) (mc' := 106) (ms' := 2355) (As := [_]) dL_law_9 ci_L_35 (by decide) (Nat.le_of_ble_eq_true rfl) (s_iDesk (D := D) rfl hnew_eq) (fun v h1 q => ?_)
  obtain ⟨rfl, hs1, hx, -⟩ := q
  obtain ⟨s1, hf1⟩ := h1
  change s1 = D + 107 at hs1
  subst hs1
  refine ex_astore_n (by decide) rfl dL_law_12 ?_
  refine ex_new (N := 32) (k := 531) (n := 4973) dL_law_13 nw_L_38 ?_
  refine ex_dup rfl dL_law_16 ?_
  refine ex_aload_n rfl dL_law_17 ?_
  refine ex_iconst (v := nI 0) (by decide) dL_law_18 ?_
  refine ex_invs (k := 531) (n := 4973) (mc' := 0) (ms' := 0) (As := [_, _]) dL_law_19 cs_L_29 (by decide) (Nat.le_of_ble_eq_true rfl) (t_Lcell (by omega)) (fun v h1 q => ?_)
  obtain ⟨rfl, rfl⟩ := q
  refine ex_invi (k := 513) (n := 3073) (mc' := 18) (ms' := 1900) (As := [_]) dL_law_22 ci_L_40 (by decide) (Nat.le_of_ble_eq_true rfl) (t_init (M := D + 107) rfl hnew_eq) (fun v h1 q => ?_)
  obtain ⟨rfl, hs2, hM, hlow⟩ := q
  obtain ⟨s2, hf2⟩ := h1
  change s2 = D + 107 + 19 at hs2
  subst hs2
  have hx2 : DSK G (D + 107 + 19, hf2) D (x0D (capN (if 0 < (esc G).2.1 then (esc G).2.2 0 else 0))) := hx.sm (fun q a b => (hlow q (by omega)).trans (hnew_ne (show q ≠ D + 107 by omega) rfl))
  refine ex_astore_n (by decide) rfl dL_law_25 ?_
  refine ex_iconst (v := nI 1) (by decide) dL_law_26 ?_
  refine ex_newa_long (k := 512) (n := 3072) dL_law_27 ac_long (N := 1) (by decide) (by decide) (by decide) ?_
  refine ex_astore_n (by decide) rfl dL_law_29 ?_
  refine ex_iconst (v := nI 1) (by decide) dL_law_30 ?_
  refine ex_istore (by decide) rfl dL_law_31 ?_
  exact ex_lv [(0, .ref (esc G).1), (1, .ref D), (2, .ref (D + 107)), (3, .ref (D + 107 + 19)), (4, .int (nI 1))] ⟨rfl, rfl, rfl, rfl, rfl, trivial⟩ (l_law hl hG hN 512 1 (by omega) (by omega) (by omega) _ _ _ _ ⟨hx2.sm (fun q a b => hnew_ne (show q ≠ D + 107 + 19 by omega) rfl), hM.sm (fun q a => hnew_ne (show q ≠ D + 107 + 19 by have := a.2; omega) rfl), RR.init, hnew_eq, by omega, by omega, by show D + 107 + 19 < D + 107 + 19 + 1; omega⟩)
