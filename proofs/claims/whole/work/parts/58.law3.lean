/-! THE LAW: one call of the script -/
def LI (G : EG) (h : EH) (D M O : Nat) (x : DS) (y : MS) (f : Nat → Int64) : Prop := DSK G h D x ∧ MD G h M y ∧ RR x y ∧ OA G h O f ∧ (D + 106 < M ∧ M + 18 < O ∧ O < h.1)
theorem LI.mm {G : EG} {h h' : EH} {D M O : Nat} {x : DS} {y y' : MS} {f : Nat → Int64} (L : LI G h D M O x y f) (hM : MD G h' M y') (hF : Fr (atN M) h h') (hR : RR x y') : LI G h' D M O x y' f := by
  obtain ⟨h1, h2, h3, h4, h5, h6, h7⟩ := L
  exact ⟨h1.sm (fun q a b => hF.2 q (fun z => by have := z.1; omega)), hM, hR, (hF.2 O (fun z => by have := z.2; omega)).trans h4, h5, h6, by rw [hF.1]; exact h7⟩
theorem LI.md {G : EG} {h h1 : EH} {D M O : Nat} {x : DS} {y : MS} {f : Nat → Int64} (L : LI G h D M O x y f) (hg : GF D h h1) : MD G h1 M y := L.2.1.sm fun q a => hg.2 q (by have := a.2; have := L.2.2.2.2; omega) (by have := a.1; have := L.2.2.2.2; omega)
theorem LI.df {G : EG} {h h1 h2 : EH} {D M O : Nat} {x x' : DS} {y y' : MS} {f : Nat → Int64} (L : LI G h D M O x y f) (hx : DSK G h1 D x') (hg : GF D h h1) (hM : MD G h2 M y') (hF : Fr (atN M) h1 h2) (hR : RR x' y') : LI G h2 D M O x' y' f := by
  obtain ⟨a1, a2, a3, a4, a5, a6, a7⟩ := L
  exact ⟨hx.sm (fun q a b => hF.2 q (fun z => by have := z.1; omega)), hM, hR, (hF.2 O (fun z => by have := z.2; omega)).trans ((hg.2 O a7 (by omega)).trans a4), a5, a6, by rw [hF.1]; exact Nat.lt_of_lt_of_le a7 hg.1⟩
theorem LI.mo {G : EG} {h h1 : EH} {D M O : Nat} {x : DS} {y : MS} {f : Nat → Int64} (L : LI G h D M O x y f) (hg : GO D O h h1) : MD G h1 M y := L.2.1.sm fun q a => hg.2 q (by have := a.2; have := L.2.2.2.2; omega) (by have := a.1; have := L.2.2.2.2; omega) (by have := a.2; have := L.2.2.2.2; omega)
theorem LI.do {G : EG} {h h1 h2 : EH} {D M O : Nat} {x x' : DS} {y y' : MS} {f f' : Nat → Int64} (L : LI G h D M O x y f) (hx : DSK G h1 D x') (hg : GO D O h h1) (hO : OA G h1 O f') (hM : MD G h2 M y') (hF : Fr (atN M) h1 h2) (hR : RR x' y') : LI G h2 D M O x' y' f' := by
  obtain ⟨a1, a2, a3, a4, a5, a6, a7⟩ := L
  exact ⟨hx.sm (fun q a b => hF.2 q (fun z => by have := z.1; omega)), hM, hR, (hF.2 O (fun z => by have := z.2; omega)).trans hO, a5, a6, by rw [hF.1]; exact Nat.lt_of_lt_of_le a7 hg.1⟩
theorem ACC.v {y y' : MS} {v : Option Value} (h : ACC y v y') : ∃ b : Int32, v = some (.int b) := by
  rcases h with ⟨i, -, rfl, -⟩ | ⟨i, -, -, rfl, -⟩ | ⟨-, -, rfl, -⟩
  · exact ⟨_, rfl⟩
  · exact ⟨_, rfl⟩
  · exact ⟨_, rfl⟩
theorem cmp_r (x : Int64) : lg_cmp x x = 0 := by unfold lg_cmp; simp
set_option maxHeartbeats 4000000 in
set_option maxRecDepth 100000 in
theorem la_2 {G : EG} {l : Launch} {h : EH} {D M O i k n : Nat} {x : DS} {y : MS} {f : Nat → Int64} (hN : (esc G).2.1 < 2 ^ 31) (hi : i + 4 ≤ (esc G).2.1) (L : LI G h D M O x y f)  (ho : ∀ (h' : EH) (x' : DS) (y' : MS) (f' : Nat → Int64), LI G h' D M O x' y' f' → Ex G l 13 mL_law (fun v _ => v = some (.int (nI 1))) eNoX k n 658 [(0, .ref (esc G).1), (1, .ref D), (2, .ref M), (3, .ref O), (4, .int (nI (i)))] [] h') : Ex G l 13 mL_law (fun v _ => v = some (.int (nI 1))) eNoX k n 221 [(0, .ref (esc G).1), (1, .ref D), (2, .ref M), (3, .ref O), (4, .int (nI (i)))] [] h := by
  obtain ⟨hx, hM, hR, hO, hb1, hb2, hb3⟩ := id L
  obtain ⟨fs, hob⟩ := hx.ob
  have hB := hR.2.2.2.2.2.2.1.1
  have hdB := hx.bd
  have hT := hR.T
  refine ex_aload_n rfl dL_law_221 ?_
  refine ex_invv (k := k) (n := n) (mc' := 0) (ms' := 0) (As := []) dL_law_222 cv_L_55 (by decide) (Nat.le_of_ble_eq_true rfl) (Or.inl ⟨_, _, _, _, hob, rfl⟩) (s_position hx) (fun v h' q => ?_)
  obtain ⟨rfl, rfl⟩ := q
  refine ex_aload_n rfl dL_law_225 ?_
  refine ex_invv (k := k) (n := n) (mc' := 0) (ms' := 0) (As := []) dL_law_226 cv_L_58 (by decide) (Nat.le_of_ble_eq_true rfl) (Or.inl ⟨_, _, _, _, hM.1, rfl⟩) (t_position hM) (fun v h' q => ?_)
  obtain ⟨rfl, hM1, hF1⟩ := q
  refine ex_icmp_eq (tgt := 658) (by decide) dL_law_229 (fun c1 => ?_) (fun c1 => ?_)
  · exact ex_lv [(0, .ref (esc G).1), (1, .ref D), (2, .ref M), (3, .ref O), (4, .int (nI (i)))] ⟨rfl, rfl, rfl, rfl, rfl, trivial⟩ (ho _ _ _ _ (L.mm hM1 hF1 (hR.th 0)))
  · exact absurd hR.2.2.2.2.2.1.1.symm c1
set_option maxHeartbeats 4000000 in
set_option maxRecDepth 100000 in
theorem la_5 {G : EG} {l : Launch} {h : EH} {D M O i k n : Nat} {x : DS} {y : MS} {f : Nat → Int64} (hN : (esc G).2.1 < 2 ^ 31) (hi : i + 4 ≤ (esc G).2.1) (L : LI G h D M O x y f)  (ho : ∀ (h' : EH) (x' : DS) (y' : MS) (f' : Nat → Int64), LI G h' D M O x' y' f' → Ex G l 13 mL_law (fun v _ => v = some (.int (nI 1))) eNoX k n 658 [(0, .ref (esc G).1), (1, .ref D), (2, .ref M), (3, .ref O), (4, .int (nI (i)))] [] h') : Ex G l 13 mL_law (fun v _ => v = some (.int (nI 1))) eNoX k n 303 [(0, .ref (esc G).1), (1, .ref D), (2, .ref M), (3, .ref O), (4, .int (nI (i)))] [] h := by
  obtain ⟨hx, hM, hR, hO, hb1, hb2, hb3⟩ := id L
  obtain ⟨fs, hob⟩ := hx.ob
  have hB := hR.2.2.2.2.2.2.1.1
  have hdB := hx.bd
  have hT := hR.T
  refine ex_aload_n rfl dL_law_303 ?_
  refine ex_invv (k := k) (n := n) (mc' := 0) (ms' := 0) (As := []) dL_law_304 cv_L_67 (by decide) (Nat.le_of_ble_eq_true rfl) (Or.inl ⟨_, _, _, _, hob, rfl⟩) (s_fault hx) (fun v h' q => ?_)
  obtain ⟨rfl, rfl⟩ := q
  refine ex_aload_n rfl dL_law_307 ?_
  refine ex_invv (k := k) (n := n) (mc' := 0) (ms' := 0) (As := []) dL_law_308 cv_L_70 (by decide) (Nat.le_of_ble_eq_true rfl) (Or.inl ⟨_, _, _, _, hM.1, rfl⟩) (t_fault hM) (fun v h' q => ?_)
  obtain ⟨rfl, hM1, hF1⟩ := q
  refine ex_icmp_eq (tgt := 658) (by decide) dL_law_311 (fun c1 => ?_) (fun c1 => ?_)
  · exact ex_lv [(0, .ref (esc G).1), (1, .ref D), (2, .ref M), (3, .ref O), (4, .int (nI (i)))] ⟨rfl, rfl, rfl, rfl, rfl, trivial⟩ (ho _ _ _ _ (L.mm hM1 hF1 (hR.th 0)))
  · exact absurd hR.2.2.2.2.2.1.2.symm c1
set_option maxHeartbeats 4000000 in
set_option maxRecDepth 100000 in
theorem la_0 {G : EG} {l : Launch} {h : EH} {D M O i k n : Nat} {x : DS} {y : MS} {f : Nat → Int64} (hN : (esc G).2.1 < 2 ^ 31) (hi : i + 4 ≤ (esc G).2.1) (L : LI G h D M O x y f)  (ho : ∀ (h' : EH) (x' : DS) (y' : MS) (f' : Nat → Int64), LI G h' D M O x' y' f' → Ex G l 13 mL_law (fun v _ => v = some (.int (nI 1))) eNoX k n 658 [(0, .ref (esc G).1), (1, .ref D), (2, .ref M), (3, .ref O), (4, .int (nI (i)))] [] h') : Ex G l 13 mL_law (fun v _ => v = some (.int (nI 1))) eNoX k n 120 [(0, .ref (esc G).1), (1, .ref D), (2, .ref M), (3, .ref O), (4, .int (nI (i)))] [] h := by
  obtain ⟨hx, hM, hR, hO, hb1, hb2, hb3⟩ := id L
  obtain ⟨fs, hob⟩ := hx.ob
  have hB := hR.2.2.2.2.2.2.1.1
  have hdB := hx.bd
  have hT := hR.T
  refine ex_aload_n rfl dL_law_120 ?_
  refine ex_aload_n rfl dL_law_121 ?_
  refine ex_iload rfl dL_law_122 ?_
  refine ex_iconst (v := (nI 1)) (by decide) dL_law_124 ?_
  refine ex_iaddN dL_law_125 ?_
  refine ex_taldN dL_law_126 (Or.inl rfl) (by omega) hN ?_
  refine ex_i2l dL_law_127 ?_
  refine ex_bipush (v := (nI 32)) (by decide) dL_law_128 ?_
  refine ex_lshl dL_law_130 ?_
  refine ex_aload_n rfl dL_law_131 ?_
  refine ex_iload rfl dL_law_132 ?_
  refine ex_iconst (v := (nI 2)) (by decide) dL_law_134 ?_
  refine ex_iaddN dL_law_135 ?_
  refine ex_taldN dL_law_136 (Or.inl rfl) (by omega) hN ?_
  refine ex_i2l dL_law_137 ?_
  refine ex_ldc2 lc_L_41 dL_law_138 ?_
  refine ex_land dL_law_141 ?_
  refine ex_lor dL_law_142 ?_
  refine ex_invv (k := k) (n := n) (mc' := 0) (ms' := 0) (As := [_]) dL_law_143 cv_L_43 (by decide) (Nat.le_of_ble_eq_true rfl) (Or.inl ⟨_, _, _, _, hob, rfl⟩) (s_write hx) (fun v h' q => ?_)
  obtain ⟨rfl, hx1, hg1⟩ := q
  have hM1 := L.md hg1
  refine ex_aload_n rfl dL_law_146 ?_
  refine ex_aload_n rfl dL_law_147 ?_
  refine ex_iload rfl dL_law_148 ?_
  refine ex_iconst (v := (nI 1)) (by decide) dL_law_150 ?_
  refine ex_iaddN dL_law_151 ?_
  refine ex_taldN dL_law_152 (Or.inl rfl) (by omega) hN ?_
  refine ex_i2l dL_law_153 ?_
  refine ex_bipush (v := (nI 32)) (by decide) dL_law_154 ?_
  refine ex_lshl dL_law_156 ?_
  refine ex_aload_n rfl dL_law_157 ?_
  refine ex_iload rfl dL_law_158 ?_
  refine ex_iconst (v := (nI 2)) (by decide) dL_law_160 ?_
  refine ex_iaddN dL_law_161 ?_
  refine ex_taldN dL_law_162 (Or.inl rfl) (by omega) hN ?_
  refine ex_i2l dL_law_163 ?_
  refine ex_ldc2 lc_L_41 dL_law_164 ?_
  refine ex_land dL_law_167 ?_
  refine ex_lor dL_law_168 ?_
  refine ex_invv (k := k) (n := n) (mc' := 0) (ms' := 0) (As := [_]) dL_law_169 cv_L_47 (by decide) (Nat.le_of_ble_eq_true rfl) (Or.inl ⟨_, _, _, _, hM1.1, rfl⟩) (t_write hM1 hB.2.1) (fun v h' q => ?_)
  obtain ⟨rfl, ⟨y', hM2, hy⟩, hF2⟩ := q
  refine ex_icmp_eq (tgt := 658) (by decide) dL_law_172 (fun c1 => ?_) (fun c1 => ?_)
  · exact ex_lv [(0, .ref (esc G).1), (1, .ref D), (2, .ref M), (3, .ref O), (4, .int (nI (i)))] ⟨rfl, rfl, rfl, rfl, rfl, trivial⟩ (ho _ _ _ _ (L.df hx1 hg1 hM2 hF2 ((hR.th 0).wr hy)))
  · exact absurd (by rw [show ms (th0 y 0) 2 = dn x from hR.1.1]) c1
set_option maxHeartbeats 4000000 in
set_option maxRecDepth 100000 in
theorem la_3a {G : EG} {l : Launch} {h : EH} {D M O i k n : Nat} {x : DS} {y : MS} {f : Nat → Int64} (hN : (esc G).2.1 < 2 ^ 31) (hi : i + 4 ≤ (esc G).2.1) (L : LI G h D M O x y f) {m : Nat} (e : (esc G).2.2 (i + 1) = nI m) (hm : m ≤ dm x) (ho : ∀ (h' : EH) (x' : DS) (y' : MS) (f' : Nat → Int64), LI G h' D M O x' y' f' → Ex G l 13 mL_law (fun v _ => v = some (.int (nI 1))) eNoX k n 658 [(0, .ref (esc G).1), (1, .ref D), (2, .ref M), (3, .ref O), (4, .int (nI (i)))] [] h') : Ex G l 13 mL_law (fun v _ => v = some (.int (nI 1))) eNoX k n 234 [(0, .ref (esc G).1), (1, .ref D), (2, .ref M), (3, .ref O), (4, .int (nI (i)))] [] h := by
  obtain ⟨hx, hM, hR, hO, hb1, hb2, hb3⟩ := id L
  obtain ⟨fs, hob⟩ := hx.ob
  have hB := hR.2.2.2.2.2.2.1.1
  have hdB := hx.bd
  have hT := hR.T
  refine ex_aload_n rfl dL_law_234 ?_
  refine ex_aload_n rfl dL_law_235 ?_
  refine ex_iload rfl dL_law_236 ?_
  refine ex_iconst (v := (nI 1)) (by decide) dL_law_238 ?_
  refine ex_iaddN dL_law_239 ?_
  refine ex_taldN dL_law_240 (Or.inl rfl) (by omega) hN ?_
  rw [e]
  refine ex_invv (k := k) (n := n) (mc' := 0) (ms' := 0) (As := [_]) dL_law_241 cv_L_59 (by decide) (Nat.le_of_ble_eq_true rfl) (Or.inl ⟨_, _, _, _, hob, rfl⟩) (s_cut hx hm) (fun v h' q => ?_)
  obtain ⟨rfl, hx1, hg1⟩ := q
  have hM1 := L.md hg1
  refine ex_aload_n rfl dL_law_244 ?_
  refine ex_aload_n rfl dL_law_245 ?_
  refine ex_iload rfl dL_law_246 ?_
  refine ex_iconst (v := (nI 1)) (by decide) dL_law_248 ?_
  refine ex_iaddN dL_law_249 ?_
  refine ex_taldN dL_law_250 (Or.inl rfl) (by omega) hN ?_
  rw [e]
  refine ex_invv (k := k) (n := n) (mc' := 0) (ms' := 0) (As := [_]) dL_law_251 cv_L_63 (by decide) (Nat.le_of_ble_eq_true rfl) (Or.inl ⟨_, _, _, _, hM1.1, rfl⟩) (t_cut hM1 hB.1 (by rw [hR.2.1.1]; exact hm)) (fun v h' q => ?_)
  obtain ⟨rfl, hM2, hF2⟩ := q
  refine ex_icmpN_eq (tgt := 658) (by decide) dL_law_254 (by omega) (by omega) (fun c1 => ?_) (fun c1 => ?_)
  · exact ex_lv [(0, .ref (esc G).1), (1, .ref D), (2, .ref M), (3, .ref O), (4, .int (nI (i)))] ⟨rfl, rfl, rfl, rfl, rfl, trivial⟩ (ho _ _ _ _ (L.df hx1 hg1 hM2 hF2 (hR.cut hm)))
  · exact absurd rfl c1
set_option maxHeartbeats 4000000 in
set_option maxRecDepth 100000 in
theorem la_3b {G : EG} {l : Launch} {h : EH} {D M O i k n : Nat} {x : DS} {y : MS} {f : Nat → Int64} (hN : (esc G).2.1 < 2 ^ 31) (hi : i + 4 ≤ (esc G).2.1) (L : LI G h D M O x y f) (hm : (esc G).2.2 (i + 1) < 0 ∨ nI (dm x) < (esc G).2.2 (i + 1)) (ho : ∀ (h' : EH) (x' : DS) (y' : MS) (f' : Nat → Int64), LI G h' D M O x' y' f' → Ex G l 13 mL_law (fun v _ => v = some (.int (nI 1))) eNoX k n 658 [(0, .ref (esc G).1), (1, .ref D), (2, .ref M), (3, .ref O), (4, .int (nI (i)))] [] h') : Ex G l 13 mL_law (fun v _ => v = some (.int (nI 1))) eNoX k n 234 [(0, .ref (esc G).1), (1, .ref D), (2, .ref M), (3, .ref O), (4, .int (nI (i)))] [] h := by
  obtain ⟨hx, hM, hR, hO, hb1, hb2, hb3⟩ := id L
  obtain ⟨fs, hob⟩ := hx.ob
  have hB := hR.2.2.2.2.2.2.1.1
  have hdB := hx.bd
  have hT := hR.T
  refine ex_aload_n rfl dL_law_234 ?_
  refine ex_aload_n rfl dL_law_235 ?_
  refine ex_iload rfl dL_law_236 ?_
  refine ex_iconst (v := (nI 1)) (by decide) dL_law_238 ?_
  refine ex_iaddN dL_law_239 ?_
  refine ex_taldN dL_law_240 (Or.inl rfl) (by omega) hN ?_
  refine ex_invv (k := k) (n := n) (mc' := 0) (ms' := 0) (As := [_]) dL_law_241 cv_L_59 (by decide) (Nat.le_of_ble_eq_true rfl) (Or.inl ⟨_, _, _, _, hob, rfl⟩) (s_cutNo hx hm) (fun v h' q => ?_)
  obtain ⟨rfl, rfl⟩ := q
  refine ex_aload_n rfl dL_law_244 ?_
  refine ex_aload_n rfl dL_law_245 ?_
  refine ex_iload rfl dL_law_246 ?_
  refine ex_iconst (v := (nI 1)) (by decide) dL_law_248 ?_
  refine ex_iaddN dL_law_249 ?_
  refine ex_taldN dL_law_250 (Or.inl rfl) (by omega) hN ?_
  refine ex_invv (k := k) (n := n) (mc' := 0) (ms' := 0) (As := [_]) dL_law_251 cv_L_63 (by decide) (Nat.le_of_ble_eq_true rfl) (Or.inl ⟨_, _, _, _, hM.1, rfl⟩) (t_cutN hM (by rw [hR.2.1.1]; exact hm)) (fun v h' q => ?_)
  obtain ⟨rfl, hM1, hF1⟩ := q
  refine ex_icmpN_eq (tgt := 658) (by decide) dL_law_254 (by omega) (by omega) (fun c1 => ?_) (fun c1 => ?_)
  · exact ex_lv [(0, .ref (esc G).1), (1, .ref D), (2, .ref M), (3, .ref O), (4, .int (nI (i)))] ⟨rfl, rfl, rfl, rfl, rfl, trivial⟩ (ho _ _ _ _ (L.mm hM1 hF1 (hR.th 0)))
  · exact absurd rfl c1
set_option maxHeartbeats 4000000 in
set_option maxRecDepth 100000 in
theorem la_7a {G : EG} {l : Launch} {h : EH} {D M O i k n : Nat} {x : DS} {y : MS} {f : Nat → Int64} (hN : (esc G).2.1 < 2 ^ 31) (hi : i + 4 ≤ (esc G).2.1) (L : LI G h D M O x y f) {s t c : Nat} (e1 : (esc G).2.2 (i + 1) = nI s) (e2 : (esc G).2.2 (i + 2) = nI t) (e3 : (esc G).2.2 (i + 3) = nI c) (hs : s < pT (dp x)) (ht : t < pT (dp x)) (hc : c < pC (dp x)) (ho : ∀ (h' : EH) (x' : DS) (y' : MS) (f' : Nat → Int64), LI G h' D M O x' y' f' → Ex G l 13 mL_law (fun v _ => v = some (.int (nI 1))) eNoX k n 658 [(0, .ref (esc G).1), (1, .ref D), (2, .ref M), (3, .ref O), (4, .int (nI (i)))] [] h') : Ex G l 13 mL_law (fun v _ => v = some (.int (nI 1))) eNoX k n 396 [(0, .ref (esc G).1), (1, .ref D), (2, .ref M), (3, .ref O), (4, .int (nI (i)))] [] h := by
  obtain ⟨hx, hM, hR, hO, hb1, hb2, hb3⟩ := id L
  obtain ⟨fs, hob⟩ := hx.ob
  have hB := hR.2.2.2.2.2.2.1.1
  have hdB := hx.bd
  have hT := hR.T
  refine ex_aload_n rfl dL_law_396 ?_
  refine ex_aload_n rfl dL_law_397 ?_
  refine ex_iload rfl dL_law_398 ?_
  refine ex_iconst (v := (nI 1)) (by decide) dL_law_400 ?_
  refine ex_iaddN dL_law_401 ?_
  refine ex_taldN dL_law_402 (Or.inl rfl) (by omega) hN ?_
  rw [e1]
  refine ex_aload_n rfl dL_law_403 ?_
  refine ex_iload rfl dL_law_404 ?_
  refine ex_iconst (v := (nI 2)) (by decide) dL_law_406 ?_
  refine ex_iaddN dL_law_407 ?_
  refine ex_taldN dL_law_408 (Or.inl rfl) (by omega) hN ?_
  rw [e2]
  refine ex_aload_n rfl dL_law_409 ?_
  refine ex_iload rfl dL_law_410 ?_
  refine ex_iconst (v := (nI 3)) (by decide) dL_law_412 ?_
  refine ex_iaddN dL_law_413 ?_
  refine ex_taldN dL_law_414 (Or.inl rfl) (by omega) hN ?_
  rw [e3]
  refine ex_invv (k := k) (n := n) (mc' := 0) (ms' := 0) (As := [_, _, _]) dL_law_415 cv_L_75 (by decide) (Nat.le_of_ble_eq_true rfl) (Or.inl ⟨_, _, _, _, hob, rfl⟩) (s_made hx hs ht hc) (fun v h' q => ?_)
  obtain ⟨rfl, rfl⟩ := q
  refine ex_aload_n rfl dL_law_418 ?_
  refine ex_aload_n rfl dL_law_419 ?_
  refine ex_iload rfl dL_law_420 ?_
  refine ex_iconst (v := (nI 1)) (by decide) dL_law_422 ?_
  refine ex_iaddN dL_law_423 ?_
  refine ex_taldN dL_law_424 (Or.inl rfl) (by omega) hN ?_
  rw [e1]
  refine ex_aload_n rfl dL_law_425 ?_
  refine ex_iload rfl dL_law_426 ?_
  refine ex_iconst (v := (nI 2)) (by decide) dL_law_428 ?_
  refine ex_iaddN dL_law_429 ?_
  refine ex_taldN dL_law_430 (Or.inl rfl) (by omega) hN ?_
  rw [e2]
  refine ex_aload_n rfl dL_law_431 ?_
  refine ex_iload rfl dL_law_432 ?_
  refine ex_iconst (v := (nI 3)) (by decide) dL_law_434 ?_
  refine ex_iaddN dL_law_435 ?_
  refine ex_taldN dL_law_436 (Or.inl rfl) (by omega) hN ?_
  rw [e3]
  refine ex_invv (k := k) (n := n) (mc' := 0) (ms' := 0) (As := [_, _, _]) dL_law_437 cv_L_78 (by decide) (Nat.le_of_ble_eq_true rfl) (Or.inl ⟨_, _, _, _, hM.1, rfl⟩) (t_made hM (by rw [← hT.1]; exact hdB.2.1.1) (by rw [← hT.2]; exact hdB.2.1.2.1) (by rw [← hT.1]; exact hs) (by rw [← hT.1]; exact ht) (by rw [← hT.2]; exact hc)) (fun v h' q => ?_)
  obtain ⟨rfl, hM1, hF1⟩ := q
  refine ex_icmp_eq (tgt := 658) (by decide) dL_law_440 (fun c1 => ?_) (fun c1 => ?_)
  · exact ex_lv [(0, .ref (esc G).1), (1, .ref D), (2, .ref M), (3, .ref O), (4, .int (nI (i)))] ⟨rfl, rfl, rfl, rfl, rfl, trivial⟩ (ho _ _ _ _ (L.mm hM1 hF1 (hR.th 0)))
  · exact absurd (hR.made hdB hs ht hc).symm c1
set_option maxHeartbeats 4000000 in
set_option maxRecDepth 100000 in
theorem la_7b {G : EG} {l : Launch} {h : EH} {D M O i k n : Nat} {x : DS} {y : MS} {f : Nat → Int64} (hN : (esc G).2.1 < 2 ^ 31) (hi : i + 4 ≤ (esc G).2.1) (L : LI G h D M O x y f) (hn : ¬ (inR ((esc G).2.2 (i + 1)) (pT (dp x)) ∧ inR ((esc G).2.2 (i + 2)) (pT (dp x)) ∧ inR ((esc G).2.2 (i + 3)) (pC (dp x)))) (ho : ∀ (h' : EH) (x' : DS) (y' : MS) (f' : Nat → Int64), LI G h' D M O x' y' f' → Ex G l 13 mL_law (fun v _ => v = some (.int (nI 1))) eNoX k n 658 [(0, .ref (esc G).1), (1, .ref D), (2, .ref M), (3, .ref O), (4, .int (nI (i)))] [] h') : Ex G l 13 mL_law (fun v _ => v = some (.int (nI 1))) eNoX k n 396 [(0, .ref (esc G).1), (1, .ref D), (2, .ref M), (3, .ref O), (4, .int (nI (i)))] [] h := by
  obtain ⟨hx, hM, hR, hO, hb1, hb2, hb3⟩ := id L
  obtain ⟨fs, hob⟩ := hx.ob
  have hB := hR.2.2.2.2.2.2.1.1
  have hdB := hx.bd
  have hT := hR.T
  refine ex_aload_n rfl dL_law_396 ?_
  refine ex_aload_n rfl dL_law_397 ?_
  refine ex_iload rfl dL_law_398 ?_
  refine ex_iconst (v := (nI 1)) (by decide) dL_law_400 ?_
  refine ex_iaddN dL_law_401 ?_
  refine ex_taldN dL_law_402 (Or.inl rfl) (by omega) hN ?_
  refine ex_aload_n rfl dL_law_403 ?_
  refine ex_iload rfl dL_law_404 ?_
  refine ex_iconst (v := (nI 2)) (by decide) dL_law_406 ?_
  refine ex_iaddN dL_law_407 ?_
  refine ex_taldN dL_law_408 (Or.inl rfl) (by omega) hN ?_
  refine ex_aload_n rfl dL_law_409 ?_
  refine ex_iload rfl dL_law_410 ?_
  refine ex_iconst (v := (nI 3)) (by decide) dL_law_412 ?_
  refine ex_iaddN dL_law_413 ?_
  refine ex_taldN dL_law_414 (Or.inl rfl) (by omega) hN ?_
  refine ex_invv (k := k) (n := n) (mc' := 0) (ms' := 0) (As := [_, _, _]) dL_law_415 cv_L_75 (by decide) (Nat.le_of_ble_eq_true rfl) (Or.inl ⟨_, _, _, _, hob, rfl⟩) (s_madeNo hx hn) (fun v h' q => ?_)
  obtain ⟨rfl, rfl⟩ := q
  refine ex_aload_n rfl dL_law_418 ?_
  refine ex_aload_n rfl dL_law_419 ?_
  refine ex_iload rfl dL_law_420 ?_
  refine ex_iconst (v := (nI 1)) (by decide) dL_law_422 ?_
  refine ex_iaddN dL_law_423 ?_
  refine ex_taldN dL_law_424 (Or.inl rfl) (by omega) hN ?_
  refine ex_aload_n rfl dL_law_425 ?_
  refine ex_iload rfl dL_law_426 ?_
  refine ex_iconst (v := (nI 2)) (by decide) dL_law_428 ?_
  refine ex_iaddN dL_law_429 ?_
  refine ex_taldN dL_law_430 (Or.inl rfl) (by omega) hN ?_
  refine ex_aload_n rfl dL_law_431 ?_
  refine ex_iload rfl dL_law_432 ?_
  refine ex_iconst (v := (nI 3)) (by decide) dL_law_434 ?_
  refine ex_iaddN dL_law_435 ?_
  refine ex_taldN dL_law_436 (Or.inl rfl) (by omega) hN ?_
  refine ex_invv (k := k) (n := n) (mc' := 0) (ms' := 0) (As := [_, _, _]) dL_law_437 cv_L_78 (by decide) (Nat.le_of_ble_eq_true rfl) (Or.inl ⟨_, _, _, _, hM.1, rfl⟩) (t_madeN hM (by rw [← hT.1, ← hT.2]; exact hn)) (fun v h' q => ?_)
  obtain ⟨rfl, hM1, hF1⟩ := q
  refine ex_icmp_eq (tgt := 658) (by decide) dL_law_440 (fun c1 => ?_) (fun c1 => ?_)
  · exact ex_lv [(0, .ref (esc G).1), (1, .ref D), (2, .ref M), (3, .ref O), (4, .int (nI (i)))] ⟨rfl, rfl, rfl, rfl, rfl, trivial⟩ (ho _ _ _ _ (L.mm hM1 hF1 (hR.th 0)))
  · exact absurd rfl c1
set_option maxHeartbeats 4000000 in
set_option maxRecDepth 100000 in
theorem la_8a {G : EG} {l : Launch} {h : EH} {D M O i k n : Nat} {x : DS} {y : MS} {f : Nat → Int64} (hN : (esc G).2.1 < 2 ^ 31) (hi : i + 4 ≤ (esc G).2.1) (L : LI G h D M O x y f) {a b : Nat} (e1 : (esc G).2.2 (i + 1) = nI a) (e2 : (esc G).2.2 (i + 2) = nI b) (ha : a < pT (dp x)) (hb : b < pT (dp x)) (ho : ∀ (h' : EH) (x' : DS) (y' : MS) (f' : Nat → Int64), LI G h' D M O x' y' f' → Ex G l 13 mL_law (fun v _ => v = some (.int (nI 1))) eNoX k n 658 [(0, .ref (esc G).1), (1, .ref D), (2, .ref M), (3, .ref O), (4, .int (nI (i)))] [] h') : Ex G l 13 mL_law (fun v _ => v = some (.int (nI 1))) eNoX k n 445 [(0, .ref (esc G).1), (1, .ref D), (2, .ref M), (3, .ref O), (4, .int (nI (i)))] [] h := by
  obtain ⟨hx, hM, hR, hO, hb1, hb2, hb3⟩ := id L
  obtain ⟨fs, hob⟩ := hx.ob
  have hB := hR.2.2.2.2.2.2.1.1
  have hdB := hx.bd
  have hT := hR.T
  refine ex_aload_n rfl dL_law_445 ?_
  refine ex_aload_n rfl dL_law_446 ?_
  refine ex_iload rfl dL_law_447 ?_
  refine ex_iconst (v := (nI 1)) (by decide) dL_law_449 ?_
  refine ex_iaddN dL_law_450 ?_
  refine ex_taldN dL_law_451 (Or.inl rfl) (by omega) hN ?_
  rw [e1]
  refine ex_aload_n rfl dL_law_452 ?_
  refine ex_iload rfl dL_law_453 ?_
  refine ex_iconst (v := (nI 2)) (by decide) dL_law_455 ?_
  refine ex_iaddN dL_law_456 ?_
  refine ex_taldN dL_law_457 (Or.inl rfl) (by omega) hN ?_
  rw [e2]
  refine ex_invv (k := k) (n := n) (mc' := 0) (ms' := 0) (As := [_, _]) dL_law_458 cv_L_79 (by decide) (Nat.le_of_ble_eq_true rfl) (Or.inl ⟨_, _, _, _, hob, rfl⟩) (s_flow hx ha hb) (fun v h' q => ?_)
  obtain ⟨o1, rfl, rfl, hs1⟩ := q
  refine ex_aload_n rfl dL_law_461 ?_
  refine ex_aload_n rfl dL_law_462 ?_
  refine ex_iload rfl dL_law_463 ?_
  refine ex_iconst (v := (nI 1)) (by decide) dL_law_465 ?_
  refine ex_iaddN dL_law_466 ?_
  refine ex_taldN dL_law_467 (Or.inl rfl) (by omega) hN ?_
  rw [e1]
  refine ex_aload_n rfl dL_law_468 ?_
  refine ex_iload rfl dL_law_469 ?_
  refine ex_iconst (v := (nI 2)) (by decide) dL_law_471 ?_
  refine ex_iaddN dL_law_472 ?_
  refine ex_taldN dL_law_473 (Or.inl rfl) (by omega) hN ?_
  rw [e2]
  refine ex_invv (k := k) (n := n) (mc' := 0) (ms' := 0) (As := [_, _]) dL_law_474 cv_L_83 (by decide) (Nat.le_of_ble_eq_true rfl) (Or.inl ⟨_, _, _, _, hM.1, rfl⟩) (t_flow hM (hR.V hdB) (by rw [← hT.1]; exact ha) (by rw [← hT.1]; exact hb) (by have z := hR.2.2.2.2.1.2 (by omega); rw [hT.2] at z; omega)) (fun v h' q => ?_)
  obtain ⟨o2, rfl, hs2, hF1, y', hM1, hK1⟩ := q
  rw [← hT.1] at hs2
  have e := stp_stm hdB.2.1.1 ha hb (fun f t hf ht => pol_f hR.2.2.2.2.1.1 hdB.2.1 hf ht) hs1 hs2
  refine ex_icmp_eq (tgt := 658) (by decide) dL_law_477 (fun c1 => ?_) (fun c1 => ?_)
  · exact ex_lv [(0, .ref (esc G).1), (1, .ref D), (2, .ref M), (3, .ref O), (4, .int (nI (i)))] ⟨rfl, rfl, rfl, rfl, rfl, trivial⟩ (ho _ _ _ _ (L.mm hM1 hF1 ((hR.th 0).k0 hK1)))
  · exact absurd (by rw [e]) c1
set_option maxHeartbeats 4000000 in
set_option maxRecDepth 100000 in
theorem la_8b {G : EG} {l : Launch} {h : EH} {D M O i k n : Nat} {x : DS} {y : MS} {f : Nat → Int64} (hN : (esc G).2.1 < 2 ^ 31) (hi : i + 4 ≤ (esc G).2.1) (L : LI G h D M O x y f) (hn : ¬ (inR ((esc G).2.2 (i + 1)) (pT (dp x)) ∧ inR ((esc G).2.2 (i + 2)) (pT (dp x)))) (ho : ∀ (h' : EH) (x' : DS) (y' : MS) (f' : Nat → Int64), LI G h' D M O x' y' f' → Ex G l 13 mL_law (fun v _ => v = some (.int (nI 1))) eNoX k n 658 [(0, .ref (esc G).1), (1, .ref D), (2, .ref M), (3, .ref O), (4, .int (nI (i)))] [] h') : Ex G l 13 mL_law (fun v _ => v = some (.int (nI 1))) eNoX k n 445 [(0, .ref (esc G).1), (1, .ref D), (2, .ref M), (3, .ref O), (4, .int (nI (i)))] [] h := by
  obtain ⟨hx, hM, hR, hO, hb1, hb2, hb3⟩ := id L
  obtain ⟨fs, hob⟩ := hx.ob
  have hB := hR.2.2.2.2.2.2.1.1
  have hdB := hx.bd
  have hT := hR.T
  refine ex_aload_n rfl dL_law_445 ?_
  refine ex_aload_n rfl dL_law_446 ?_
  refine ex_iload rfl dL_law_447 ?_
  refine ex_iconst (v := (nI 1)) (by decide) dL_law_449 ?_
  refine ex_iaddN dL_law_450 ?_
  refine ex_taldN dL_law_451 (Or.inl rfl) (by omega) hN ?_
  refine ex_aload_n rfl dL_law_452 ?_
  refine ex_iload rfl dL_law_453 ?_
  refine ex_iconst (v := (nI 2)) (by decide) dL_law_455 ?_
  refine ex_iaddN dL_law_456 ?_
  refine ex_taldN dL_law_457 (Or.inl rfl) (by omega) hN ?_
  refine ex_invv (k := k) (n := n) (mc' := 0) (ms' := 0) (As := [_, _]) dL_law_458 cv_L_79 (by decide) (Nat.le_of_ble_eq_true rfl) (Or.inl ⟨_, _, _, _, hob, rfl⟩) (s_flowNo hx hn) (fun v h' q => ?_)
  obtain ⟨rfl, rfl⟩ := q
  refine ex_aload_n rfl dL_law_461 ?_
  refine ex_aload_n rfl dL_law_462 ?_
  refine ex_iload rfl dL_law_463 ?_
  refine ex_iconst (v := (nI 1)) (by decide) dL_law_465 ?_
  refine ex_iaddN dL_law_466 ?_
  refine ex_taldN dL_law_467 (Or.inl rfl) (by omega) hN ?_
  refine ex_aload_n rfl dL_law_468 ?_
  refine ex_iload rfl dL_law_469 ?_
  refine ex_iconst (v := (nI 2)) (by decide) dL_law_471 ?_
  refine ex_iaddN dL_law_472 ?_
  refine ex_taldN dL_law_473 (Or.inl rfl) (by omega) hN ?_
  refine ex_invv (k := k) (n := n) (mc' := 0) (ms' := 0) (As := [_, _]) dL_law_474 cv_L_83 (by decide) (Nat.le_of_ble_eq_true rfl) (Or.inl ⟨_, _, _, _, hM.1, rfl⟩) (t_flowN hM (by rw [← hT.1]; exact fun z => hn ⟨z.1, z.2.1⟩)) (fun v h' q => ?_)
  obtain ⟨rfl, hM1, hF1⟩ := q
  refine ex_icmp_eq (tgt := 658) (by decide) dL_law_477 (fun c1 => ?_) (fun c1 => ?_)
  · exact ex_lv [(0, .ref (esc G).1), (1, .ref D), (2, .ref M), (3, .ref O), (4, .int (nI (i)))] ⟨rfl, rfl, rfl, rfl, rfl, trivial⟩ (ho _ _ _ _ (L.mm hM1 hF1 (hR.th 0)))
  · exact absurd rfl c1
set_option maxHeartbeats 4000000 in
set_option maxRecDepth 100000 in
theorem la_9 {G : EG} {l : Launch} {h : EH} {D M O i k n : Nat} {x : DS} {y : MS} {f : Nat → Int64} (hN : (esc G).2.1 < 2 ^ 31) (hi : i + 4 ≤ (esc G).2.1) (L : LI G h D M O x y f)  (ho : ∀ (h' : EH) (x' : DS) (y' : MS) (f' : Nat → Int64), LI G h' D M O x' y' f' → Ex G l 13 mL_law (fun v _ => v = some (.int (nI 1))) eNoX k n 658 [(0, .ref (esc G).1), (1, .ref D), (2, .ref M), (3, .ref O), (4, .int (nI (i)))] [] h') : Ex G l 13 mL_law (fun v _ => v = some (.int (nI 1))) eNoX k n 482 [(0, .ref (esc G).1), (1, .ref D), (2, .ref M), (3, .ref O), (4, .int (nI (i)))] [] h := by
  obtain ⟨hx, hM, hR, hO, hb1, hb2, hb3⟩ := id L
  obtain ⟨fs, hob⟩ := hx.ob
  have hB := hR.2.2.2.2.2.2.1.1
  have hdB := hx.bd
  have hT := hR.T
  refine ex_aload_n rfl dL_law_482 ?_
  refine ex_aload_n rfl dL_law_483 ?_
  refine ex_iload rfl dL_law_484 ?_
  refine ex_iconst (v := (nI 1)) (by decide) dL_law_486 ?_
  refine ex_iaddN dL_law_487 ?_
  refine ex_taldN dL_law_488 (Or.inl rfl) (by omega) hN ?_
  refine ex_invv (k := k) (n := n) (mc' := 0) (ms' := 0) (As := [_]) dL_law_489 cv_L_84 (by decide) (Nat.le_of_ble_eq_true rfl) (Or.inl ⟨_, _, _, _, hob, rfl⟩) (s_count hx) (fun v h' q => ?_)
  obtain ⟨rfl, rfl⟩ := q
  refine ex_aload_n rfl dL_law_492 ?_
  refine ex_aload_n rfl dL_law_493 ?_
  refine ex_iload rfl dL_law_494 ?_
  refine ex_iconst (v := (nI 1)) (by decide) dL_law_496 ?_
  refine ex_iaddN dL_law_497 ?_
  refine ex_taldN dL_law_498 (Or.inl rfl) (by omega) hN ?_
  refine ex_invv (k := k) (n := n) (mc' := 0) (ms' := 0) (As := [_]) dL_law_499 cv_L_88 (by decide) (Nat.le_of_ble_eq_true rfl) (Or.inl ⟨_, _, _, _, hM.1, rfl⟩) (t_count hM) (fun v h' q => ?_)
  obtain ⟨rfl, hM1, hF1⟩ := q
  refine ex_icmp_eq (tgt := 658) (by decide) dL_law_502 (fun c1 => ?_) (fun c1 => ?_)
  · exact ex_lv [(0, .ref (esc G).1), (1, .ref D), (2, .ref M), (3, .ref O), (4, .int (nI (i)))] ⟨rfl, rfl, rfl, rfl, rfl, trivial⟩ (ho _ _ _ _ (L.mm hM1 hF1 (hR.th 0)))
  · exact absurd (hR.cnt ((esc G).2.2 (i + 1))).symm c1
set_option maxHeartbeats 4000000 in
set_option maxRecDepth 100000 in
theorem la_10a {G : EG} {l : Launch} {h : EH} {D M O i k n : Nat} {x : DS} {y : MS} {f : Nat → Int64} (hN : (esc G).2.1 < 2 ^ 31) (hi : i + 4 ≤ (esc G).2.1) (L : LI G h D M O x y f) (h1 : pT (dp x) ≠ 0) (ho : ∀ (h' : EH) (x' : DS) (y' : MS) (f' : Nat → Int64), LI G h' D M O x' y' f' → Ex G l 13 mL_law (fun v _ => v = some (.int (nI 1))) eNoX k n 658 [(0, .ref (esc G).1), (1, .ref D), (2, .ref M), (3, .ref O), (4, .int (nI (i)))] [] h') : Ex G l 13 mL_law (fun v _ => v = some (.int (nI 1))) eNoX k n 507 [(0, .ref (esc G).1), (1, .ref D), (2, .ref M), (3, .ref O), (4, .int (nI (i)))] [] h := by
  obtain ⟨hx, hM, hR, hO, hb1, hb2, hb3⟩ := id L
  obtain ⟨fs, hob⟩ := hx.ob
  have hB := hR.2.2.2.2.2.2.1.1
  have hdB := hx.bd
  have hT := hR.T
  obtain ⟨g, g1, g2⟩ := hR.2.2.2.2.1.1
  refine ex_aload_n rfl dL_law_507 ?_
  refine ex_invv (k := k) (n := n) (mc' := 0) (ms' := 0) (As := []) dL_law_508 cv_L_89 (by decide) (Nat.le_of_ble_eq_true rfl) (Or.inl ⟨_, _, _, _, hob, rfl⟩) (s_image hx h1) (fun v h' q => ?_)
  obtain ⟨rfl, hx1, hg1⟩ := q
  have hM1 := L.md hg1
  refine ex_aload_n rfl dL_law_511 ?_
  refine ex_invv (k := k) (n := n) (mc' := 0) (ms' := 0) (As := []) dL_law_512 cv_L_92 (by decide) (Nat.le_of_ble_eq_true rfl) (Or.inl ⟨_, _, _, _, hM1.1, rfl⟩) (t_image hM1 (by rw [← hT.1]; exact h1) (by rw [← hT.1]; exact hdB.2.1.1) (by rw [← hT.2]; exact hdB.2.1.2.1) g1) (fun v h' q => ?_)
  obtain ⟨rfl, ⟨y', hM2, hy⟩, hF2⟩ := q
  refine ex_icmp_eq (tgt := 658) (by decide) dL_law_515 (fun c1 => ?_) (fun c1 => ?_)
  · exact ex_lv [(0, .ref (esc G).1), (1, .ref D), (2, .ref M), (3, .ref O), (4, .int (nI (i)))] ⟨rfl, rfl, rfl, rfl, rfl, trivial⟩ (ho _ _ _ _ (L.df hx1 hg1 hM2 hF2 (hR.img g g2 hy)))
  · exact absurd (by rw [imgL_PE g2]; rfl) c1
set_option maxHeartbeats 4000000 in
set_option maxRecDepth 100000 in
theorem la_10b {G : EG} {l : Launch} {h : EH} {D M O i k n : Nat} {x : DS} {y : MS} {f : Nat → Int64} (hN : (esc G).2.1 < 2 ^ 31) (hi : i + 4 ≤ (esc G).2.1) (L : LI G h D M O x y f) (h1 : pT (dp x) = 0) (ho : ∀ (h' : EH) (x' : DS) (y' : MS) (f' : Nat → Int64), LI G h' D M O x' y' f' → Ex G l 13 mL_law (fun v _ => v = some (.int (nI 1))) eNoX k n 658 [(0, .ref (esc G).1), (1, .ref D), (2, .ref M), (3, .ref O), (4, .int (nI (i)))] [] h') : Ex G l 13 mL_law (fun v _ => v = some (.int (nI 1))) eNoX k n 507 [(0, .ref (esc G).1), (1, .ref D), (2, .ref M), (3, .ref O), (4, .int (nI (i)))] [] h := by
  obtain ⟨hx, hM, hR, hO, hb1, hb2, hb3⟩ := id L
  obtain ⟨fs, hob⟩ := hx.ob
  have hB := hR.2.2.2.2.2.2.1.1
  have hdB := hx.bd
  have hT := hR.T
  refine ex_aload_n rfl dL_law_507 ?_
  refine ex_invv (k := k) (n := n) (mc' := 0) (ms' := 0) (As := []) dL_law_508 cv_L_89 (by decide) (Nat.le_of_ble_eq_true rfl) (Or.inl ⟨_, _, _, _, hob, rfl⟩) (s_imageNo hx h1) (fun v h' q => ?_)
  obtain ⟨rfl, rfl⟩ := q
  refine ex_aload_n rfl dL_law_511 ?_
  refine ex_invv (k := k) (n := n) (mc' := 0) (ms' := 0) (As := []) dL_law_512 cv_L_92 (by decide) (Nat.le_of_ble_eq_true rfl) (Or.inl ⟨_, _, _, _, hM.1, rfl⟩) (t_imageN hM (by rw [← hT.1]; exact h1)) (fun v h' q => ?_)
  obtain ⟨rfl, hM1, hF1⟩ := q
  refine ex_icmp_eq (tgt := 658) (by decide) dL_law_515 (fun c1 => ?_) (fun c1 => ?_)
  · exact ex_lv [(0, .ref (esc G).1), (1, .ref D), (2, .ref M), (3, .ref O), (4, .int (nI (i)))] ⟨rfl, rfl, rfl, rfl, rfl, trivial⟩ (ho _ _ _ _ (L.mm hM1 hF1 (hR.th 0)))
  · exact absurd rfl c1
set_option maxHeartbeats 4000000 in
set_option maxRecDepth 100000 in
theorem la_11 {G : EG} {l : Launch} {h : EH} {D M O i k n : Nat} {x : DS} {y : MS} {f : Nat → Int64} (hN : (esc G).2.1 < 2 ^ 31) (hi : i + 4 ≤ (esc G).2.1) (L : LI G h D M O x y f)  (ho : ∀ (h' : EH) (x' : DS) (y' : MS) (f' : Nat → Int64), LI G h' D M O x' y' f' → Ex G l 13 mL_law (fun v _ => v = some (.int (nI 1))) eNoX k n 658 [(0, .ref (esc G).1), (1, .ref D), (2, .ref M), (3, .ref O), (4, .int (nI (i)))] [] h') : Ex G l 13 mL_law (fun v _ => v = some (.int (nI 1))) eNoX k n 520 [(0, .ref (esc G).1), (1, .ref D), (2, .ref M), (3, .ref O), (4, .int (nI (i)))] [] h := by
  obtain ⟨hx, hM, hR, hO, hb1, hb2, hb3⟩ := id L
  obtain ⟨fs, hob⟩ := hx.ob
  have hB := hR.2.2.2.2.2.2.1.1
  have hdB := hx.bd
  have hT := hR.T
  have hw := hR.2.2.2.1.1
  refine ex_aload_n rfl dL_law_520 ?_
  refine ex_aload_n rfl dL_law_521 ?_
  refine ex_iload rfl dL_law_522 ?_
  refine ex_iconst (v := (nI 1)) (by decide) dL_law_524 ?_
  refine ex_iaddN dL_law_525 ?_
  refine ex_taldN dL_law_526 (Or.inl rfl) (by omega) hN ?_
  refine ex_invv (k := k) (n := n) (mc' := 0) (ms' := 0) (As := [_]) dL_law_527 cv_L_93 (by decide) (Nat.le_of_ble_eq_true rfl) (Or.inl ⟨_, _, _, _, hob, rfl⟩) (s_imageAt hx) (fun v h' q => ?_)
  obtain ⟨rfl, rfl⟩ := q
  refine ex_aload_n rfl dL_law_530 ?_
  refine ex_aload_n rfl dL_law_531 ?_
  refine ex_iload rfl dL_law_532 ?_
  refine ex_iconst (v := (nI 1)) (by decide) dL_law_534 ?_
  refine ex_iaddN dL_law_535 ?_
  refine ex_taldN dL_law_536 (Or.inl rfl) (by omega) hN ?_
  refine ex_invv (k := k) (n := n) (mc' := 0) (ms' := 0) (As := [_]) dL_law_537 cv_L_96 (by decide) (Nat.le_of_ble_eq_true rfl) (Or.inl ⟨_, _, _, _, hM.1, rfl⟩) (t_imageAt hM (by rw [hw.1]; exact hdB.2.2.2.1) _) (fun v h' q => ?_)
  obtain ⟨rfl, hM1, hF1⟩ := q
  refine ex_icmp_eq (tgt := 658) (by decide) dL_law_540 (fun c1 => ?_) (fun c1 => ?_)
  · exact ex_lv [(0, .ref (esc G).1), (1, .ref D), (2, .ref M), (3, .ref O), (4, .int (nI (i)))] ⟨rfl, rfl, rfl, rfl, rfl, trivial⟩ (ho _ _ _ _ (L.mm hM1 hF1 (hR.th 0)))
  · exact absurd (bL_at hw (by have := hdB.2.2.2.1; have := hw.1; omega) ((esc G).2.2 (i + 1))).symm c1
set_option maxHeartbeats 4000000 in
set_option maxRecDepth 100000 in
theorem la_12a {G : EG} {l : Launch} {h : EH} {D M O i k n : Nat} {x : DS} {y : MS} {f : Nat → Int64} (hN : (esc G).2.1 < 2 ^ 31) (hi : i + 4 ≤ (esc G).2.1) (L : LI G h D M O x y f) {m : Nat} (e3 : (esc G).2.2 (i + 3) = nI m) (h1 : 1 ≤ m) (hm : m ≤ 8) (hr : (dF x).length + m ≤ 420) (ho : ∀ (h' : EH) (x' : DS) (y' : MS) (f' : Nat → Int64), LI G h' D M O x' y' f' → Ex G l 13 mL_law (fun v _ => v = some (.int (nI 1))) eNoX k n 658 [(0, .ref (esc G).1), (1, .ref D), (2, .ref M), (3, .ref O), (4, .int (nI (i)))] [] h') : Ex G l 13 mL_law (fun v _ => v = some (.int (nI 1))) eNoX k n 545 [(0, .ref (esc G).1), (1, .ref D), (2, .ref M), (3, .ref O), (4, .int (nI (i)))] [] h := by
  obtain ⟨hx, hM, hR, hO, hb1, hb2, hb3⟩ := id L
  obtain ⟨fs, hob⟩ := hx.ob
  have hB := hR.2.2.2.2.2.2.1.1
  have hdB := hx.bd
  have hT := hR.T
  have hf := hR.2.2.2.1.2
  refine ex_aload_n rfl dL_law_545 ?_
  refine ex_aload_n rfl dL_law_546 ?_
  refine ex_iload rfl dL_law_547 ?_
  refine ex_iconst (v := (nI 1)) (by decide) dL_law_549 ?_
  refine ex_iaddN dL_law_550 ?_
  refine ex_taldN dL_law_551 (Or.inl rfl) (by omega) hN ?_
  refine ex_i2l dL_law_552 ?_
  refine ex_bipush (v := (nI 32)) (by decide) dL_law_553 ?_
  refine ex_lshl dL_law_555 ?_
  refine ex_aload_n rfl dL_law_556 ?_
  refine ex_iload rfl dL_law_557 ?_
  refine ex_iconst (v := (nI 2)) (by decide) dL_law_559 ?_
  refine ex_iaddN dL_law_560 ?_
  refine ex_taldN dL_law_561 (Or.inl rfl) (by omega) hN ?_
  refine ex_i2l dL_law_562 ?_
  refine ex_ldc2 lc_L_41 dL_law_563 ?_
  refine ex_land dL_law_566 ?_
  refine ex_lor dL_law_567 ?_
  refine ex_aload_n rfl dL_law_568 ?_
  refine ex_iload rfl dL_law_569 ?_
  refine ex_iconst (v := (nI 3)) (by decide) dL_law_571 ?_
  refine ex_iaddN dL_law_572 ?_
  refine ex_taldN dL_law_573 (Or.inl rfl) (by omega) hN ?_
  rw [e3]
  refine ex_invv (k := k) (n := n) (mc' := 0) (ms' := 0) (As := [_, _]) dL_law_574 cv_L_97 (by decide) (Nat.le_of_ble_eq_true rfl) (Or.inl ⟨_, _, _, _, hob, rfl⟩) (s_feed hx h1 hm hr) (fun v h' q => ?_)
  obtain ⟨rfl, hx1, hg1⟩ := q
  have hM1 := L.md hg1
  refine ex_aload_n rfl dL_law_577 ?_
  refine ex_aload_n rfl dL_law_578 ?_
  refine ex_iload rfl dL_law_579 ?_
  refine ex_iconst (v := (nI 1)) (by decide) dL_law_581 ?_
  refine ex_iaddN dL_law_582 ?_
  refine ex_taldN dL_law_583 (Or.inl rfl) (by omega) hN ?_
  refine ex_i2l dL_law_584 ?_
  refine ex_bipush (v := (nI 32)) (by decide) dL_law_585 ?_
  refine ex_lshl dL_law_587 ?_
  refine ex_aload_n rfl dL_law_588 ?_
  refine ex_iload rfl dL_law_589 ?_
  refine ex_iconst (v := (nI 2)) (by decide) dL_law_591 ?_
  refine ex_iaddN dL_law_592 ?_
  refine ex_taldN dL_law_593 (Or.inl rfl) (by omega) hN ?_
  refine ex_i2l dL_law_594 ?_
  refine ex_ldc2 lc_L_41 dL_law_595 ?_
  refine ex_land dL_law_598 ?_
  refine ex_lor dL_law_599 ?_
  refine ex_aload_n rfl dL_law_600 ?_
  refine ex_iload rfl dL_law_601 ?_
  refine ex_iconst (v := (nI 3)) (by decide) dL_law_603 ?_
  refine ex_iaddN dL_law_604 ?_
  refine ex_taldN dL_law_605 (Or.inl rfl) (by omega) hN ?_
  rw [e3]
  refine ex_invv (k := k) (n := n) (mc' := 0) (ms' := 0) (As := [_, _]) dL_law_606 cv_L_101 (by decide) (Nat.le_of_ble_eq_true rfl) (Or.inl ⟨_, _, _, _, hM1.1, rfl⟩) (t_feed hM1 hf h1 hm hr) (fun v h' q => ?_)
  obtain ⟨rfl, ⟨y', hM2, hy⟩, hF2⟩ := q
  refine ex_icmp_eq (tgt := 658) (by decide) dL_law_609 (fun c1 => ?_) (fun c1 => ?_)
  · exact ex_lv [(0, .ref (esc G).1), (1, .ref D), (2, .ref M), (3, .ref O), (4, .int (nI (i)))] ⟨rfl, rfl, rfl, rfl, rfl, trivial⟩ (ho _ _ _ _ (L.df hx1 hg1 hM2 hF2 ((hR.th 0).fed hy)))
  · exact absurd rfl c1
set_option maxHeartbeats 4000000 in
set_option maxRecDepth 100000 in
theorem la_12b {G : EG} {l : Launch} {h : EH} {D M O i k n : Nat} {x : DS} {y : MS} {f : Nat → Int64} (hN : (esc G).2.1 < 2 ^ 31) (hi : i + 4 ≤ (esc G).2.1) (L : LI G h D M O x y f) (hn : (esc G).2.2 (i + 3) < nI 1 ∨ nI 8 < (esc G).2.2 (i + 3) ∨ nI (420 - (dF x).length) < (esc G).2.2 (i + 3)) (hn2 : (esc G).2.2 (i + 3) < nI 1 ∨ nI 8 < (esc G).2.2 (i + 3) ∨ ∃ n, (esc G).2.2 (i + 3) = nI n ∧ n ≤ 8 ∧ 420 < (dF x).length + n) (ho : ∀ (h' : EH) (x' : DS) (y' : MS) (f' : Nat → Int64), LI G h' D M O x' y' f' → Ex G l 13 mL_law (fun v _ => v = some (.int (nI 1))) eNoX k n 658 [(0, .ref (esc G).1), (1, .ref D), (2, .ref M), (3, .ref O), (4, .int (nI (i)))] [] h') : Ex G l 13 mL_law (fun v _ => v = some (.int (nI 1))) eNoX k n 545 [(0, .ref (esc G).1), (1, .ref D), (2, .ref M), (3, .ref O), (4, .int (nI (i)))] [] h := by
  obtain ⟨hx, hM, hR, hO, hb1, hb2, hb3⟩ := id L
  obtain ⟨fs, hob⟩ := hx.ob
  have hB := hR.2.2.2.2.2.2.1.1
  have hdB := hx.bd
  have hT := hR.T
  have hf := hR.2.2.2.1.2
  refine ex_aload_n rfl dL_law_545 ?_
  refine ex_aload_n rfl dL_law_546 ?_
  refine ex_iload rfl dL_law_547 ?_
  refine ex_iconst (v := (nI 1)) (by decide) dL_law_549 ?_
  refine ex_iaddN dL_law_550 ?_
  refine ex_taldN dL_law_551 (Or.inl rfl) (by omega) hN ?_
  refine ex_i2l dL_law_552 ?_
  refine ex_bipush (v := (nI 32)) (by decide) dL_law_553 ?_
  refine ex_lshl dL_law_555 ?_
  refine ex_aload_n rfl dL_law_556 ?_
  refine ex_iload rfl dL_law_557 ?_
  refine ex_iconst (v := (nI 2)) (by decide) dL_law_559 ?_
  refine ex_iaddN dL_law_560 ?_
  refine ex_taldN dL_law_561 (Or.inl rfl) (by omega) hN ?_
  refine ex_i2l dL_law_562 ?_
  refine ex_ldc2 lc_L_41 dL_law_563 ?_
  refine ex_land dL_law_566 ?_
  refine ex_lor dL_law_567 ?_
  refine ex_aload_n rfl dL_law_568 ?_
  refine ex_iload rfl dL_law_569 ?_
  refine ex_iconst (v := (nI 3)) (by decide) dL_law_571 ?_
  refine ex_iaddN dL_law_572 ?_
  refine ex_taldN dL_law_573 (Or.inl rfl) (by omega) hN ?_
  refine ex_invv (k := k) (n := n) (mc' := 0) (ms' := 0) (As := [_, _]) dL_law_574 cv_L_97 (by decide) (Nat.le_of_ble_eq_true rfl) (Or.inl ⟨_, _, _, _, hob, rfl⟩) (s_feedNo hx hn) (fun v h' q => ?_)
  obtain ⟨rfl, rfl⟩ := q
  refine ex_aload_n rfl dL_law_577 ?_
  refine ex_aload_n rfl dL_law_578 ?_
  refine ex_iload rfl dL_law_579 ?_
  refine ex_iconst (v := (nI 1)) (by decide) dL_law_581 ?_
  refine ex_iaddN dL_law_582 ?_
  refine ex_taldN dL_law_583 (Or.inl rfl) (by omega) hN ?_
  refine ex_i2l dL_law_584 ?_
  refine ex_bipush (v := (nI 32)) (by decide) dL_law_585 ?_
  refine ex_lshl dL_law_587 ?_
  refine ex_aload_n rfl dL_law_588 ?_
  refine ex_iload rfl dL_law_589 ?_
  refine ex_iconst (v := (nI 2)) (by decide) dL_law_591 ?_
  refine ex_iaddN dL_law_592 ?_
  refine ex_taldN dL_law_593 (Or.inl rfl) (by omega) hN ?_
  refine ex_i2l dL_law_594 ?_
  refine ex_ldc2 lc_L_41 dL_law_595 ?_
  refine ex_land dL_law_598 ?_
  refine ex_lor dL_law_599 ?_
  refine ex_aload_n rfl dL_law_600 ?_
  refine ex_iload rfl dL_law_601 ?_
  refine ex_iconst (v := (nI 3)) (by decide) dL_law_603 ?_
  refine ex_iaddN dL_law_604 ?_
  refine ex_taldN dL_law_605 (Or.inl rfl) (by omega) hN ?_
  refine ex_invv (k := k) (n := n) (mc' := 0) (ms' := 0) (As := [_, _]) dL_law_606 cv_L_101 (by decide) (Nat.le_of_ble_eq_true rfl) (Or.inl ⟨_, _, _, _, hM.1, rfl⟩) (t_feedN hM (by rw [hf.1]; exact hdB.2.2.2.2) (by rw [hf.1]; exact hn2)) (fun v h' q => ?_)
  obtain ⟨rfl, hM1, hF1⟩ := q
  refine ex_icmp_eq (tgt := 658) (by decide) dL_law_609 (fun c1 => ?_) (fun c1 => ?_)
  · exact ex_lv [(0, .ref (esc G).1), (1, .ref D), (2, .ref M), (3, .ref O), (4, .int (nI (i)))] ⟨rfl, rfl, rfl, rfl, rfl, trivial⟩ (ho _ _ _ _ (L.mm hM1 hF1 (hR.th 0)))
  · exact absurd rfl c1
set_option maxHeartbeats 4000000 in
set_option maxRecDepth 100000 in
theorem l_tl190 {G : EG} {l : Launch} {h : EH} {D M O i k n : Nat} {x : DS} {y : MS} {f : Nat → Int64} (hN : (esc G).2.1 < 2 ^ 31) (hi : i + 4 ≤ (esc G).2.1) (L : LI G h D M O x y f) {κ : Nat} {b : Int32} (hκ : ms y 1 = κ) (h4 : κ < 4) (hb : κ = 0 → f 0 = b.toInt64) (ho : ∀ (h' : EH) (x' : DS) (y' : MS) (f' : Nat → Int64), LI G h' D M O x' y' f' → Ex G l 13 mL_law (fun v _ => v = some (.int (nI 1))) eNoX k n 658 [(0, .ref (esc G).1), (1, .ref D), (2, .ref M), (3, .ref O), (4, .int (nI (i)))] [] h') : Ex G l 13 mL_law (fun v _ => v = some (.int (nI 1))) eNoX k n 190 [(0, .ref (esc G).1), (1, .ref D), (2, .ref M), (3, .ref O), (4, .int (nI (i))), (5, .int (nI (κ))), (6, .int b)] [] h := by
  obtain ⟨hx, hM, hR, hO, hb1, hb2, hb3⟩ := id L
  refine ex_aload_n rfl dL_law_190 ?_
  refine ex_invv (k := k) (n := n) (mc' := 0) (ms' := 0) (As := []) dL_law_191 cv_L_52 (by decide) (Nat.le_of_ble_eq_true rfl) (Or.inl ⟨_, _, _, _, hM.1, rfl⟩) (t_thrown hM) (fun v h' q => ?_)
  obtain ⟨rfl, rfl⟩ := q
  rw [hκ]
  refine ex_iload rfl dL_law_194 ?_
  refine ex_icmpN_eq (tgt := 201) (by decide) dL_law_196 (by omega) (by omega) (fun c1 => ?_) (fun c1 => ?_)
  · refine ex_iload rfl dL_law_201 ?_
    refine ex_ifN_ne (tgt := 218) (by decide) dL_law_203 (by omega) (fun c2 => ?_) (fun c2 => ?_)
    · refine ex_goto (tgt := 658) (by decide) dL_law_218 ?_
      exact ex_lv [(0, .ref (esc G).1), (1, .ref D), (2, .ref M), (3, .ref O), (4, .int (nI (i)))] ⟨rfl, rfl, rfl, rfl, rfl, trivial⟩ (ho _ _ _ _ L)
    · refine ex_aload_n rfl dL_law_206 ?_
      refine ex_iconst (v := (nI 0)) (by decide) dL_law_207 ?_
      refine ex_lald dL_law_208 hO (vp_in_nI (n := 0) (N := 1) (by decide) (by decide)) ?_
      refine ex_iload rfl dL_law_209 ?_
      refine ex_i2l dL_law_211 ?_
      refine ex_lcmp dL_law_212 ?_
      rw [show f (nI 0).toNatClampNeg = b.toInt64 from hb (by omega), cmp_r, show (0 : Int32) = nI 0 from rfl]
      refine ex_ifN_eq (tgt := 218) (by decide) dL_law_213 (by omega) (fun c3 => ?_) (fun c3 => ?_)
      · refine ex_goto (tgt := 658) (by decide) dL_law_218 ?_
        exact ex_lv [(0, .ref (esc G).1), (1, .ref D), (2, .ref M), (3, .ref O), (4, .int (nI (i)))] ⟨rfl, rfl, rfl, rfl, rfl, trivial⟩ (ho _ _ _ _ L)
      · exact absurd c3 (by decide)
  · exact absurd rfl c1
set_option maxHeartbeats 4000000 in
set_option maxRecDepth 100000 in
theorem l_tl272 {G : EG} {l : Launch} {h : EH} {D M O i k n : Nat} {x : DS} {y : MS} {f : Nat → Int64} (hN : (esc G).2.1 < 2 ^ 31) (hi : i + 4 ≤ (esc G).2.1) (L : LI G h D M O x y f) {κ : Nat} {b : Int32} (hκ : ms y 1 = κ) (h4 : κ < 4) (hb : κ = 0 → f 0 = b.toInt64) (ho : ∀ (h' : EH) (x' : DS) (y' : MS) (f' : Nat → Int64), LI G h' D M O x' y' f' → Ex G l 13 mL_law (fun v _ => v = some (.int (nI 1))) eNoX k n 658 [(0, .ref (esc G).1), (1, .ref D), (2, .ref M), (3, .ref O), (4, .int (nI (i)))] [] h') : Ex G l 13 mL_law (fun v _ => v = some (.int (nI 1))) eNoX k n 272 [(0, .ref (esc G).1), (1, .ref D), (2, .ref M), (3, .ref O), (4, .int (nI (i))), (5, .int (nI (κ))), (6, .int b)] [] h := by
  obtain ⟨hx, hM, hR, hO, hb1, hb2, hb3⟩ := id L
  refine ex_aload_n rfl dL_law_272 ?_
  refine ex_invv (k := k) (n := n) (mc' := 0) (ms' := 0) (As := []) dL_law_273 cv_L_52 (by decide) (Nat.le_of_ble_eq_true rfl) (Or.inl ⟨_, _, _, _, hM.1, rfl⟩) (t_thrown hM) (fun v h' q => ?_)
  obtain ⟨rfl, rfl⟩ := q
  rw [hκ]
  refine ex_iload rfl dL_law_276 ?_
  refine ex_icmpN_eq (tgt := 283) (by decide) dL_law_278 (by omega) (by omega) (fun c1 => ?_) (fun c1 => ?_)
  · refine ex_iload rfl dL_law_283 ?_
    refine ex_ifN_ne (tgt := 300) (by decide) dL_law_285 (by omega) (fun c2 => ?_) (fun c2 => ?_)
    · refine ex_goto (tgt := 658) (by decide) dL_law_300 ?_
      exact ex_lv [(0, .ref (esc G).1), (1, .ref D), (2, .ref M), (3, .ref O), (4, .int (nI (i)))] ⟨rfl, rfl, rfl, rfl, rfl, trivial⟩ (ho _ _ _ _ L)
    · refine ex_aload_n rfl dL_law_288 ?_
      refine ex_iconst (v := (nI 0)) (by decide) dL_law_289 ?_
      refine ex_lald dL_law_290 hO (vp_in_nI (n := 0) (N := 1) (by decide) (by decide)) ?_
      refine ex_iload rfl dL_law_291 ?_
      refine ex_i2l dL_law_293 ?_
      refine ex_lcmp dL_law_294 ?_
      rw [show f (nI 0).toNatClampNeg = b.toInt64 from hb (by omega), cmp_r, show (0 : Int32) = nI 0 from rfl]
      refine ex_ifN_eq (tgt := 300) (by decide) dL_law_295 (by omega) (fun c3 => ?_) (fun c3 => ?_)
      · refine ex_goto (tgt := 658) (by decide) dL_law_300 ?_
        exact ex_lv [(0, .ref (esc G).1), (1, .ref D), (2, .ref M), (3, .ref O), (4, .int (nI (i)))] ⟨rfl, rfl, rfl, rfl, rfl, trivial⟩ (ho _ _ _ _ L)
      · exact absurd c3 (by decide)
  · exact absurd rfl c1
set_option maxHeartbeats 4000000 in
set_option maxRecDepth 100000 in
theorem l_tl365 {G : EG} {l : Launch} {h : EH} {D M O i k n : Nat} {x : DS} {y : MS} {f : Nat → Int64} (hN : (esc G).2.1 < 2 ^ 31) (hi : i + 4 ≤ (esc G).2.1) (L : LI G h D M O x y f) {κ : Nat} {b : Int32} (hκ : ms y 1 = κ) (h4 : κ < 4) (hb : κ = 0 → f 0 = b.toInt64) (ho : ∀ (h' : EH) (x' : DS) (y' : MS) (f' : Nat → Int64), LI G h' D M O x' y' f' → Ex G l 13 mL_law (fun v _ => v = some (.int (nI 1))) eNoX k n 658 [(0, .ref (esc G).1), (1, .ref D), (2, .ref M), (3, .ref O), (4, .int (nI (i)))] [] h') : Ex G l 13 mL_law (fun v _ => v = some (.int (nI 1))) eNoX k n 365 [(0, .ref (esc G).1), (1, .ref D), (2, .ref M), (3, .ref O), (4, .int (nI (i))), (5, .int (nI (κ))), (6, .int b)] [] h := by
  obtain ⟨hx, hM, hR, hO, hb1, hb2, hb3⟩ := id L
  refine ex_aload_n rfl dL_law_365 ?_
  refine ex_invv (k := k) (n := n) (mc' := 0) (ms' := 0) (As := []) dL_law_366 cv_L_52 (by decide) (Nat.le_of_ble_eq_true rfl) (Or.inl ⟨_, _, _, _, hM.1, rfl⟩) (t_thrown hM) (fun v h' q => ?_)
  obtain ⟨rfl, rfl⟩ := q
  rw [hκ]
  refine ex_iload rfl dL_law_369 ?_
  refine ex_icmpN_eq (tgt := 376) (by decide) dL_law_371 (by omega) (by omega) (fun c1 => ?_) (fun c1 => ?_)
  · refine ex_iload rfl dL_law_376 ?_
    refine ex_ifN_ne (tgt := 393) (by decide) dL_law_378 (by omega) (fun c2 => ?_) (fun c2 => ?_)
    · refine ex_goto (tgt := 658) (by decide) dL_law_393 ?_
      exact ex_lv [(0, .ref (esc G).1), (1, .ref D), (2, .ref M), (3, .ref O), (4, .int (nI (i)))] ⟨rfl, rfl, rfl, rfl, rfl, trivial⟩ (ho _ _ _ _ L)
    · refine ex_aload_n rfl dL_law_381 ?_
      refine ex_iconst (v := (nI 0)) (by decide) dL_law_382 ?_
      refine ex_lald dL_law_383 hO (vp_in_nI (n := 0) (N := 1) (by decide) (by decide)) ?_
      refine ex_iload rfl dL_law_384 ?_
      refine ex_i2l dL_law_386 ?_
      refine ex_lcmp dL_law_387 ?_
      rw [show f (nI 0).toNatClampNeg = b.toInt64 from hb (by omega), cmp_r, show (0 : Int32) = nI 0 from rfl]
      refine ex_ifN_eq (tgt := 393) (by decide) dL_law_388 (by omega) (fun c3 => ?_) (fun c3 => ?_)
      · refine ex_goto (tgt := 658) (by decide) dL_law_393 ?_
        exact ex_lv [(0, .ref (esc G).1), (1, .ref D), (2, .ref M), (3, .ref O), (4, .int (nI (i)))] ⟨rfl, rfl, rfl, rfl, rfl, trivial⟩ (ho _ _ _ _ L)
      · exact absurd c3 (by decide)
  · exact absurd rfl c1
set_option maxHeartbeats 4000000 in
set_option maxRecDepth 100000 in
theorem l_tl627 {G : EG} {l : Launch} {h : EH} {D M O i k n : Nat} {x : DS} {y : MS} {f : Nat → Int64} (hN : (esc G).2.1 < 2 ^ 31) (hi : i + 4 ≤ (esc G).2.1) (L : LI G h D M O x y f) {κ : Nat} {b : Int32} (hκ : ms y 1 = κ) (h4 : κ < 4) (hb : κ = 0 → f 0 = b.toInt64) (ho : ∀ (h' : EH) (x' : DS) (y' : MS) (f' : Nat → Int64), LI G h' D M O x' y' f' → Ex G l 13 mL_law (fun v _ => v = some (.int (nI 1))) eNoX k n 658 [(0, .ref (esc G).1), (1, .ref D), (2, .ref M), (3, .ref O), (4, .int (nI (i)))] [] h') : Ex G l 13 mL_law (fun v _ => v = some (.int (nI 1))) eNoX k n 627 [(0, .ref (esc G).1), (1, .ref D), (2, .ref M), (3, .ref O), (4, .int (nI (i))), (5, .int (nI (κ))), (6, .int b)] [] h := by
  obtain ⟨hx, hM, hR, hO, hb1, hb2, hb3⟩ := id L
  refine ex_aload_n rfl dL_law_627 ?_
  refine ex_invv (k := k) (n := n) (mc' := 0) (ms' := 0) (As := []) dL_law_628 cv_L_52 (by decide) (Nat.le_of_ble_eq_true rfl) (Or.inl ⟨_, _, _, _, hM.1, rfl⟩) (t_thrown hM) (fun v h' q => ?_)
  obtain ⟨rfl, rfl⟩ := q
  rw [hκ]
  refine ex_iload rfl dL_law_631 ?_
  refine ex_icmpN_eq (tgt := 638) (by decide) dL_law_633 (by omega) (by omega) (fun c1 => ?_) (fun c1 => ?_)
  · refine ex_iload rfl dL_law_638 ?_
    refine ex_ifN_ne (tgt := 655) (by decide) dL_law_640 (by omega) (fun c2 => ?_) (fun c2 => ?_)
    · refine ex_goto (tgt := 658) (by decide) dL_law_655 ?_
      exact ex_lv [(0, .ref (esc G).1), (1, .ref D), (2, .ref M), (3, .ref O), (4, .int (nI (i)))] ⟨rfl, rfl, rfl, rfl, rfl, trivial⟩ (ho _ _ _ _ L)
    · refine ex_aload_n rfl dL_law_643 ?_
      refine ex_iconst (v := (nI 0)) (by decide) dL_law_644 ?_
      refine ex_lald dL_law_645 hO (vp_in_nI (n := 0) (N := 1) (by decide) (by decide)) ?_
      refine ex_iload rfl dL_law_646 ?_
      refine ex_i2l dL_law_648 ?_
      refine ex_lcmp dL_law_649 ?_
      rw [show f (nI 0).toNatClampNeg = b.toInt64 from hb (by omega), cmp_r, show (0 : Int32) = nI 0 from rfl]
      refine ex_ifN_eq (tgt := 655) (by decide) dL_law_650 (by omega) (fun c3 => ?_) (fun c3 => ?_)
      · refine ex_goto (tgt := 658) (by decide) dL_law_655 ?_
        exact ex_lv [(0, .ref (esc G).1), (1, .ref D), (2, .ref M), (3, .ref O), (4, .int (nI (i)))] ⟨rfl, rfl, rfl, rfl, rfl, trivial⟩ (ho _ _ _ _ L)
      · exact absurd c3 (by decide)
  · exact absurd rfl c1
