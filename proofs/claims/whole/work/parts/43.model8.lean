/-! THE MODEL: may, with its memory -/
def ML (y : MS) (L : List (Nat × Nat)) : Prop := ms y 21 = L.length ∧ ∀ j, j < L.length → mA y 13 j = lq L j ∧ mA y 14 j = la L j
theorem ML.app {y y' : MS} {L : List (Nat × Nat)} {q x : Nat} (hL : ML y L) (e21 : ms y' 21 = ms y 21 + 1) (e13 : mA y' 13 = va_up (shf (mA y 13) (ms y 21) (ms y 21 + 1 - 1)) (ms y 21 + 1 - 1) q) (e14 : mA y' 14 = va_up (shf (mA y 14) (ms y 21) (ms y 21 + 1 - 1)) (ms y 21 + 1 - 1) x) : ML y' (L ++ [(q, x)]) := by
  obtain ⟨h1, h2⟩ := hL
  rw [Nat.add_sub_cancel, shf_0, h1] at e13 e14
  refine ⟨by rw [e21, h1, List.length_append]; rfl, fun j hj => ?_⟩
  rw [List.length_append] at hj
  have hj' : j < L.length + 1 := hj
  rw [e13, e14, lq_app.1, lq_app.2]
  unfold va_up
  by_cases e : j = L.length
  · rw [if_pos e, if_pos e, if_pos e, if_pos e]; exact ⟨rfl, rfl⟩
  · rw [if_neg e, if_neg e, if_neg e, if_neg e]; exact h2 j (by omega)
theorem ML.era {y y' : MS} {L : List (Nat × Nat)} {k q x : Nat} (hL : ML y L) (hk : k < L.length) (e21 : ms y' 21 = ms y 21) (e13 : mA y' 13 = va_up (shf (mA y 13) k (ms y 21 - 1)) (ms y 21 - 1) q) (e14 : mA y' 14 = va_up (shf (mA y 14) k (ms y 21 - 1)) (ms y 21 - 1) x) : ML y' (L.eraseIdx k ++ [(q, x)]) := by
  obtain ⟨h1, h2⟩ := hL
  rw [h1] at e13 e14
  have hl : (L.eraseIdx k).length = L.length - 1 := List.length_eraseIdx_of_lt hk
  refine ⟨by rw [e21, h1, List.length_append, hl]; show _ = L.length - 1 + 1; omega, fun j hj => ?_⟩
  rw [List.length_append, hl] at hj
  have hj' : j < L.length - 1 + 1 := hj
  rw [e13, e14, lq_app.1, lq_app.2, hl]
  unfold va_up shf
  by_cases e : j = L.length - 1
  · rw [if_pos e, if_pos e, if_pos e, if_pos e]; exact ⟨rfl, rfl⟩
  · rw [if_neg e, if_neg e, if_neg e, if_neg e, (lq_erase hk (by omega)).1, (lq_erase hk (by omega)).2]
    by_cases c : k ≤ j
    · rw [if_pos c, if_pos c, if_pos ⟨c, by omega⟩, if_pos ⟨c, by omega⟩]; exact h2 (j + 1) (by omega)
    · rw [if_neg c, if_neg c, if_neg (fun z => c z.1), if_neg (fun z => c z.1)]; exact h2 j (by omega)
def mMQ (G : EG) (M : Nat) (y : MS) (h : EH) (L : List (Nat × Nat)) (q wk : Nat) : Option Value → EH → Prop := fun v h' => Fr (atN M) h h' ∧ ∃ y', MD G h' M y' ∧ Kp [21, 24, 25] [13, 14] y y' ∧ ((lk L q = none ∧ v = some (.int (nI wk)) ∧ ML y' (mmiss (ms y 0) L q wk) ∧ ms y' 24 = ms y 24 ∧ ms y' 25 = ms y 25 + 1) ∨ ∃ k, lk L q = some k ∧ v = some (.int (nI (la L k))) ∧ ML y' (mhit L q k) ∧ ms y' 24 = ms y 24 + 1 ∧ ms y' 25 = ms y 25)
set_option maxHeartbeats 4000000 in
set_option maxRecDepth 100000 in
theorem l_may3 {G : EG} {l : Launch} {h0 : EH} {M : Nat} {y0 : MS} {q w m N : Nat} (hN : ms y0 21 = N) (hN1 : 1 ≤ N) (hN8 : N ≤ 8) {Q : Option Value → EH → Prop} (hQ : ∀ (h' : EH) (y' : MS), MD G h' M y' → Kp [] [13, 14] y0 y' → mA y' 13 = va_up (shf (mA y0 13) w (N - 1)) (N - 1) q → mA y' 14 = va_up (shf (mA y0 14) w (N - 1)) (N - 1) m → Fr (atN M) h0 h' → Q (some (.int (nI m))) h') : ∀ (f k : Nat), N - k < f → w ≤ k → k ≤ N - 1 → ∀ (h : EH) (y : MS), MD G h M y → Kp [] [13, 14] y0 y → mA y 13 = shf (mA y0 13) w k → mA y 14 = shf (mA y0 14) w k → Fr (atN M) h0 h → Ex G l 1 mX12_may Q eNoX 0 0 174 [(0, .ref M), (4, .int (nI (q))), (6, .int (nI (m))), (7, .int (nI (k)))] [] h := by
  intro f
  induction f with
  | zero =>
    intro k h1 h2 h3 h y hM hK e13 e14 hF
    omega
  | succ f ih =>
    intro k h1 h2 h3 h y hM hK e13 e14 hF
    have eN : ms y 21 = N := (hK.1 21 (by decide)).trans hN
    have k13 : h.2 (M + 13) = some (.inl (eA G 0, 9, .inl (fun j => nI (mA y 13 j)))) := hM.2 13 (by decide) (by decide)
    have k14 : h.2 (M + 14) = some (.inl (eA G 0, 9, .inl (fun j => nI (mA y 14 j)))) := hM.2 14 (by decide) (by decide)
    refine ex_iload rfl dX12_may_174 ?_
    refine ex_iconst (v := (nI 1)) (by decide) dX12_may_176 ?_
    refine ex_iaddN dX12_may_177 ?_
    refine ex_aload_n rfl dX12_may_178 ?_
    refine ex_get dX12_may_179 gf_X12_200 hM.1 rfl ?_
    rw [eN]
    refine ex_icmpN_ge (tgt := 223) (by decide) dX12_may_182 (by omega) (by omega) (fun c1 => ?_) (fun c1 => ?_)
    · refine ex_aload_n rfl dX12_may_223 ?_
      refine ex_get dX12_may_224 gf_X12_54 hM.1 rfl ?_
      refine ex_aload_n rfl dX12_may_227 ?_
      refine ex_get dX12_may_228 gf_X12_200 hM.1 rfl ?_
      rw [eN]
      refine ex_iconst (v := (nI 1)) (by decide) dX12_may_231 ?_
      refine ex_isubN (by omega) dX12_may_232 ?_
      refine ex_iload rfl dX12_may_233 ?_
      refine ex_iastN dX12_may_235 k13 (by omega) (by decide) ?_
      refine ex_aload_n rfl dX12_may_236 ?_
      refine ex_get dX12_may_237 gf_X12_57 (hup_ne (by omega) hM.1) rfl ?_
      refine ex_aload_n rfl dX12_may_240 ?_
      refine ex_get dX12_may_241 gf_X12_200 (hup_ne (by omega) hM.1) rfl ?_
      rw [eN]
      refine ex_iconst (v := (nI 1)) (by decide) dX12_may_244 ?_
      refine ex_isubN (by omega) dX12_may_245 ?_
      refine ex_iload rfl dX12_may_246 ?_
      refine ex_iastN dX12_may_248 (hup_ne (by omega) k14) (by omega) (by decide) ?_
      refine ex_iload rfl dX12_may_249 ?_
      refine ex_iret dX12_may_251 rfl (hQ _ _ ((hM.st 13 (N - 1) q (by decide) (by decide)).st 14 (N - 1) m (by decide) (by decide)) ((hK.up (by decide)).up (by decide)) (by show va_up (mA y 13) (N - 1) q = _; rw [e13, show k = N - 1 by omega]) (by show va_up (mA y 14) (N - 1) m = _; rw [e14, show k = N - 1 by omega]) ((hF.up ⟨by omega, by omega⟩).up ⟨by omega, by omega⟩))
    · refine ex_aload_n rfl dX12_may_185 ?_
      refine ex_get dX12_may_186 gf_X12_54 hM.1 rfl ?_
      refine ex_iload rfl dX12_may_189 ?_
      refine ex_aload_n rfl dX12_may_191 ?_
      refine ex_get dX12_may_192 gf_X12_54 hM.1 rfl ?_
      refine ex_iload rfl dX12_may_195 ?_
      refine ex_iconst (v := (nI 1)) (by decide) dX12_may_197 ?_
      refine ex_iaddN dX12_may_198 ?_
      refine ex_ialdN dX12_may_199 k13 (by omega) (by decide) ?_
      refine ex_iastN dX12_may_200 k13 (by omega) (by decide) ?_
      refine ex_aload_n rfl dX12_may_201 ?_
      refine ex_get dX12_may_202 gf_X12_57 (hup_ne (by omega) hM.1) rfl ?_
      refine ex_iload rfl dX12_may_205 ?_
      refine ex_aload_n rfl dX12_may_207 ?_
      refine ex_get dX12_may_208 gf_X12_57 (hup_ne (by omega) hM.1) rfl ?_
      refine ex_iload rfl dX12_may_211 ?_
      refine ex_iconst (v := (nI 1)) (by decide) dX12_may_213 ?_
      refine ex_iaddN dX12_may_214 ?_
      refine ex_ialdN dX12_may_215 (hup_ne (by omega) k14) (by omega) (by decide) ?_
      refine ex_iastN dX12_may_216 (hup_ne (by omega) k14) (by omega) (by decide) ?_
      refine ex_iincN (z := 1) rfl (by decide) rfl dX12_may_217 ?_
      refine ex_goto (tgt := 174) (by decide) dX12_may_220 ?_
      exact ih (k + 1) (by omega) (by omega) (by omega) _ _ ((hM.st 13 k (mA y 13 (k + 1)) (by decide) (by decide)).st 14 k (mA y 14 (k + 1)) (by decide) (by decide)) ((hK.up (by decide)).up (by decide)) (by show va_up (mA y 13) k (mA y 13 (k + 1)) = _; rw [e13]; exact shf_1 _ h2) (by show va_up (mA y 14) k (mA y 14 (k + 1)) = _; rw [e14]; exact shf_1 _ h2) ((hF.up ⟨by omega, by omega⟩).up ⟨by omega, by omega⟩)
set_option maxHeartbeats 4000000 in
set_option maxRecDepth 100000 in
theorem l_may2 {G : EG} {l : Launch} {h : EH} {M : Nat} {y : MS} (hM : MD G h M y) (hV : mV y) {s t c : Nat} (hs : s < ms y 12) (ht : t < ms y 12) (hc : c < ms y 13) {L : List (Nat × Nat)} (hL : ML y L) (hn : L.length ≤ ms y 0) (h0 : 1 ≤ ms y 0) (h8 : ms y 0 ≤ 8) {w : Nat} (hw : w ≤ L.length) (e1 : w < L.length → lk L (64 * c + 8 * s + t) = some w) (e2 : w = L.length → lk L (64 * c + 8 * s + t) = none) : Ex G l 1 mX12_may (mMQ G M y h L (64 * c + 8 * s + t) (wkd y s t c)) eNoX 0 0 71 [(0, .ref M), (1, .int (nI (s))), (2, .int (nI (t))), (3, .int (nI (c))), (4, .int (nI (64 * c + 8 * s + t))), (5, .int (nI (w)))] [] h := by
  have h12 := hV.1
  have h13 := hV.2.1
  have h21 := hL.1
  have k13 : h.2 (M + 13) = some (.inl (eA G 0, 9, .inl (fun j => nI (mA y 13 j)))) := hM.2 13 (by decide) (by decide)
  have k14 : h.2 (M + 14) = some (.inl (eA G 0, 9, .inl (fun j => nI (mA y 14 j)))) := hM.2 14 (by decide) (by decide)
  refine ex_aload_n rfl dX12_may_71 ?_
  refine ex_iload_n rfl dX12_may_72 ?_
  refine ex_iload_n rfl dX12_may_73 ?_
  refine ex_iload_n rfl dX12_may_74 ?_
  refine ex_invv (k := 0) (n := 0) (mc' := 0) (ms' := 0) (As := [_, _, _]) dX12_may_75 cv_X12_206 (by decide) (Nat.le_of_ble_eq_true rfl) (Or.inl ⟨_, _, _, _, hM.1, rfl⟩) (t_worked hM hV hs ht hc) (fun v h' q => ?_)
  obtain ⟨rfl, rfl⟩ := q
  refine ex_istore (by decide) rfl dX12_may_78 ?_
  refine ex_iload rfl dX12_may_80 ?_
  refine ex_aload_n rfl dX12_may_82 ?_
  refine ex_get dX12_may_83 gf_X12_200 hM.1 rfl ?_
  refine ex_icmpN_ge (tgt := 111) (by decide) dX12_may_86 (by omega) (by omega) (fun c1 => ?_) (fun c1 => ?_)
  · refine ex_aload_n rfl dX12_may_111 ?_
    refine ex_dup rfl dX12_may_112 ?_
    refine ex_get dX12_may_113 gf_X12_212 hM.1 rfl ?_
    refine ex_iconst (v := (nI 1)) (by decide) dX12_may_116 ?_
    refine ex_iaddN dX12_may_117 ?_
    refine ex_put dX12_may_118 pf_X12_212 hM.1 (Nat.le_of_ble_eq_true rfl) rfl rfl ?_
    refine ex_aload_n rfl dX12_may_121 ?_
    refine ex_get dX12_may_122 gf_X12_200 hup_eq rfl ?_
    refine ex_aload_n rfl dX12_may_125 ?_
    refine ex_get dX12_may_126 gf_X12_73 hup_eq rfl ?_
    refine ex_icmpN_ne (tgt := 136) (by decide) dX12_may_129 (by omega) (by omega) (fun c2 => ?_) (fun c2 => ?_)
    · refine ex_aload_n rfl dX12_may_136 ?_
      refine ex_get dX12_may_137 gf_X12_200 hup_eq rfl ?_
      refine ex_istore (by decide) rfl dX12_may_140 ?_
      refine ex_aload_n rfl dX12_may_142 ?_
      refine ex_aload_n rfl dX12_may_143 ?_
      refine ex_get dX12_may_144 gf_X12_200 hup_eq rfl ?_
      refine ex_aload_n rfl dX12_may_147 ?_
      refine ex_get dX12_may_148 gf_X12_73 hup_eq rfl ?_
      refine ex_icmpN_ne (tgt := 161) (by decide) dX12_may_151 (by omega) (by omega) (fun c3 => ?_) (fun c3 => ?_)
      · refine ex_aload_n rfl dX12_may_161 ?_
        refine ex_get dX12_may_162 gf_X12_200 hup_eq rfl ?_
        refine ex_iconst (v := (nI 1)) (by decide) dX12_may_165 ?_
        refine ex_iaddN dX12_may_166 ?_
        refine ex_put dX12_may_167 pf_X12_200 hup_eq (Nat.le_of_ble_eq_true rfl) rfl rfl ?_
        refine ex_iload rfl dX12_may_170 ?_
        refine ex_istore (by decide) rfl dX12_may_172 ?_
        exact ex_lv [(0, .ref M), (4, .int (nI ((64 * c + 8 * s + t)))), (6, .int (nI ((wkd y s t c)))), (7, .int (nI (ms y 21)))] ⟨rfl, rfl, rfl, rfl, trivial⟩ (l_may3 (y0 := (va_up (va_up (ms y) 25 (ms y 25 + 1)) 21 (ms y 21 + 1), y.2)) (w := ms y 21) (N := ms y 21 + 1) rfl (by have := hL.1; omega) (by have := hL.1; omega) (fun h' y' m1 m2 m3 m4 m5 => ⟨m5, y', m1, (((Kp.rf (FS := [21, 24, 25]) (AS := [13, 14]) (y := y)).fd (f := 25) (by decide)).fd (f := 21) (by decide)).tr (m2.wk (by decide) (by decide)), Or.inl ⟨e2 (by have := hL.1; omega), rfl, (by unfold mmiss; rw [if_neg (fun z => c2 (by rw [hL.1]; exact z))]; exact hL.app (m2.1 21 (by decide)) m3 m4), m2.1 24 (by decide), m2.1 25 (by decide)⟩⟩) (ms y 21 + 1 + 1) (ms y 21) (by omega) (by omega) (by have := hL.1; omega) _ _ ((hM.ob' (va_up (ms y) 25 (ms y 25 + 1)) (mpo y) (mfa y) rfl).ob' (va_up (va_up (ms y) 25 (ms y 25 + 1)) 21 (ms y 21 + 1)) (mpo y) (mfa y) rfl) Kp.rf (shf_0 _ _).symm (shf_0 _ _).symm ((Fr.rf.up ⟨by omega, by omega⟩).up ⟨by omega, by omega⟩))
      · refine ex_aload_n rfl dX12_may_154 ?_
        refine ex_get dX12_may_155 gf_X12_200 hup_eq rfl ?_
        refine ex_goto (tgt := 167) (by decide) dX12_may_158 ?_
        refine ex_put dX12_may_167 pf_X12_200 hup_eq (Nat.le_of_ble_eq_true rfl) rfl rfl ?_
        refine ex_iload rfl dX12_may_170 ?_
        refine ex_istore (by decide) rfl dX12_may_172 ?_
        exact absurd c3 c2
    · refine ex_iconst (v := (nI 0)) (by decide) dX12_may_132 ?_
      refine ex_goto (tgt := 140) (by decide) dX12_may_133 ?_
      refine ex_istore (by decide) rfl dX12_may_140 ?_
      refine ex_aload_n rfl dX12_may_142 ?_
      refine ex_aload_n rfl dX12_may_143 ?_
      refine ex_get dX12_may_144 gf_X12_200 hup_eq rfl ?_
      refine ex_aload_n rfl dX12_may_147 ?_
      refine ex_get dX12_may_148 gf_X12_73 hup_eq rfl ?_
      refine ex_icmpN_ne (tgt := 161) (by decide) dX12_may_151 (by omega) (by omega) (fun c4 => ?_) (fun c4 => ?_)
      · refine ex_aload_n rfl dX12_may_161 ?_
        refine ex_get dX12_may_162 gf_X12_200 hup_eq rfl ?_
        refine ex_iconst (v := (nI 1)) (by decide) dX12_may_165 ?_
        refine ex_iaddN dX12_may_166 ?_
        refine ex_put dX12_may_167 pf_X12_200 hup_eq (Nat.le_of_ble_eq_true rfl) rfl rfl ?_
        refine ex_iload rfl dX12_may_170 ?_
        refine ex_istore (by decide) rfl dX12_may_172 ?_
        exact absurd c2 c4
      · refine ex_aload_n rfl dX12_may_154 ?_
        refine ex_get dX12_may_155 gf_X12_200 hup_eq rfl ?_
        refine ex_goto (tgt := 167) (by decide) dX12_may_158 ?_
        refine ex_put dX12_may_167 pf_X12_200 hup_eq (Nat.le_of_ble_eq_true rfl) rfl rfl ?_
        refine ex_iload rfl dX12_may_170 ?_
        refine ex_istore (by decide) rfl dX12_may_172 ?_
        exact ex_lv [(0, .ref M), (4, .int (nI ((64 * c + 8 * s + t)))), (6, .int (nI ((wkd y s t c)))), (7, .int (nI (0)))] ⟨rfl, rfl, rfl, rfl, trivial⟩ (l_may3 (y0 := (va_up (va_up (ms y) 25 (ms y 25 + 1)) 21 (ms y 21), y.2)) (w := 0) (N := ms y 21) rfl (by have := hL.1; omega) (by have := hL.1; omega) (fun h' y' m1 m2 m3 m4 m5 => ⟨m5, y', m1, (((Kp.rf (FS := [21, 24, 25]) (AS := [13, 14]) (y := y)).fd (f := 25) (by decide)).fd (f := 21) (by decide)).tr (m2.wk (by decide) (by decide)), Or.inl ⟨e2 (by have := hL.1; omega), rfl, (by unfold mmiss; rw [if_pos (hL.1.symm.trans c2)]; exact hL.era (by have := hL.1; omega) (m2.1 21 (by decide)) m3 m4), m2.1 24 (by decide), m2.1 25 (by decide)⟩⟩) (ms y 21 + 1) (0) (by omega) (by omega) (by have := hL.1; omega) _ _ ((hM.ob' (va_up (ms y) 25 (ms y 25 + 1)) (mpo y) (mfa y) rfl).ob' (va_up (va_up (ms y) 25 (ms y 25 + 1)) 21 (ms y 21)) (mpo y) (mfa y) rfl) Kp.rf (shf_0 _ _).symm (shf_0 _ _).symm ((Fr.rf.up ⟨by omega, by omega⟩).up ⟨by omega, by omega⟩))
  · refine ex_aload_n rfl dX12_may_89 ?_
    refine ex_dup rfl dX12_may_90 ?_
    refine ex_get dX12_may_91 gf_X12_209 hM.1 rfl ?_
    refine ex_iconst (v := (nI 1)) (by decide) dX12_may_94 ?_
    refine ex_iaddN dX12_may_95 ?_
    refine ex_put dX12_may_96 pf_X12_209 hM.1 (Nat.le_of_ble_eq_true rfl) rfl rfl ?_
    refine ex_aload_n rfl dX12_may_99 ?_
    refine ex_get dX12_may_100 gf_X12_57 hup_eq rfl ?_
    refine ex_iload rfl dX12_may_103 ?_
    refine ex_ialdN dX12_may_105 (hup_ne (by omega) k14) (by omega) (by decide) ?_
    refine ex_istore (by decide) rfl dX12_may_106 ?_
    refine ex_goto (tgt := 170) (by decide) dX12_may_108 ?_
    refine ex_iload rfl dX12_may_170 ?_
    refine ex_istore (by decide) rfl dX12_may_172 ?_
    exact ex_lv [(0, .ref M), (4, .int (nI ((64 * c + 8 * s + t)))), (6, .int (nI (mA y 14 w))), (7, .int (nI (w)))] ⟨rfl, rfl, rfl, rfl, trivial⟩ (l_may3 (y0 := (va_up (ms y) 24 (ms y 24 + 1), y.2)) (w := w) (N := ms y 21) rfl (by have := hL.1; omega) (by have := hL.1; omega) (fun h' y' m1 m2 m3 m4 m5 => ⟨m5, y', m1, ((Kp.rf (FS := [21, 24, 25]) (AS := [13, 14]) (y := y)).fd (f := 24) (by decide)).tr (m2.wk (by decide) (by decide)), Or.inr ⟨w, e1 (by have := hL.1; omega), (by rw [(hL.2 w (by have := hL.1; omega)).2]), (by unfold mhit; rw [← (hL.2 w (by have := hL.1; omega)).2]; exact hL.era (by have := hL.1; omega) (m2.1 21 (by decide)) m3 m4), m2.1 24 (by decide), m2.1 25 (by decide)⟩⟩) (ms y 21 + 1) (w) (by omega) (by omega) (by have := hL.1; omega) _ _ (hM.ob' (va_up (ms y) 24 (ms y 24 + 1)) (mpo y) (mfa y) rfl) Kp.rf (shf_0 _ _).symm (shf_0 _ _).symm (Fr.rf.up ⟨by omega, by omega⟩))
set_option maxHeartbeats 4000000 in
set_option maxRecDepth 100000 in
theorem l_may1 {G : EG} {l : Launch} {h : EH} {M : Nat} {y : MS} (hM : MD G h M y) (hV : mV y) {s t c : Nat} (hs : s < ms y 12) (ht : t < ms y 12) (hc : c < ms y 13) {L : List (Nat × Nat)} (hL : ML y L) (hn : L.length ≤ ms y 0) (h0 : 1 ≤ ms y 0) (h8 : ms y 0 ≤ 8) (hq : ∀ j, j < L.length → lq L j < 2 ^ 30) : ∀ (f k : Nat), L.length - k < f → k ≤ L.length → lk L (64 * c + 8 * s + t) = fnd (lq L) (64 * c + 8 * s + t) k (L.length - k) → Ex G l 1 mX12_may (mMQ G M y h L (64 * c + 8 * s + t) (wkd y s t c)) eNoX 0 0 44 [(0, .ref M), (1, .int (nI (s))), (2, .int (nI (t))), (3, .int (nI (c))), (4, .int (nI (64 * c + 8 * s + t))), (5, .int (nI (k)))] [] h := by
  intro f
  induction f with
  | zero =>
    intro k h1 h2 he
    omega
  | succ f ih =>
    intro k h1 h2 he
    have h12 := hV.1
    have h13 := hV.2.1
    have h21 := hL.1
    have hqk : k < L.length → mA y 13 k < 2 ^ 30 := fun z => by rw [(hL.2 k z).1]; exact hq k z
    have k13 : h.2 (M + 13) = some (.inl (eA G 0, 9, .inl (fun j => nI (mA y 13 j)))) := hM.2 13 (by decide) (by decide)
    refine ex_iload rfl dX12_may_44 ?_
    refine ex_aload_n rfl dX12_may_46 ?_
    refine ex_get dX12_may_47 gf_X12_200 hM.1 rfl ?_
    refine ex_icmpN_ge (tgt := 71) (by decide) dX12_may_50 (by omega) (by omega) (fun c1 => ?_) (fun c1 => ?_)
    · exact l_may2 hM hV hs ht hc hL hn h0 h8 h2 (fun z => by omega) (fun z => by rw [he, z, Nat.sub_self]; rfl)
    · refine ex_aload_n rfl dX12_may_53 ?_
      refine ex_get dX12_may_54 gf_X12_54 hM.1 rfl ?_
      refine ex_iload rfl dX12_may_57 ?_
      refine ex_ialdN dX12_may_59 k13 (by omega) (by decide) ?_
      refine ex_iload rfl dX12_may_60 ?_
      refine ex_icmpN_eq (tgt := 71) (by decide) dX12_may_62 (Nat.lt_trans (hqk (by omega)) (by decide)) (by omega) (fun c2 => ?_) (fun c2 => ?_)
      · exact l_may2 hM hV hs ht hc hL hn h0 h8 h2 (fun z => by rw [he]; exact fnd_hit (by rw [← (hL.2 k z).1]; exact c2) (by omega)) (fun z => by omega)
      · refine ex_iincN (z := 1) rfl (by decide) rfl dX12_may_65 ?_
        refine ex_goto (tgt := 44) (by decide) dX12_may_68 ?_
        exact ih (k + 1) (by omega) (by omega) (he.trans (fnd_step (by rw [← (hL.2 k (by omega)).1]; exact c2) (by omega)))
set_option maxHeartbeats 4000000 in
set_option maxRecDepth 100000 in
theorem t_may {G : EG} {l : Launch} {h : EH} {M : Nat} {y : MS} (hM : MD G h M y) (hV : mV y) {s t c : Nat} (hs : s < ms y 12) (ht : t < ms y 12) (hc : c < ms y 13) {L : List (Nat × Nat)} (hL : ML y L) (hn : L.length ≤ ms y 0) (h0 : 1 ≤ ms y 0) (h8 : ms y 0 ≤ 8) (hq : ∀ j, j < L.length → lq L j < 2 ^ 30) : ES G l 1 mX12_may [.ref M, .int (nI s), .int (nI t), .int (nI c)] h 0 0 (fun v h' => ∃ h1, Fr (atN M) h h1 ∧ mMQ G M (th0 y 0) h1 L (64 * c + 8 * s + t) (wkd y s t c) v h') eNoX := by
  have h12 := hV.1
  have h13 := hV.2.1
  refine es_of (by decide) rfl (Nat.le_of_ble_eq_true rfl) ?_
  refine ex_aload_n rfl dX12_may_0 ?_
  refine ex_aload_n rfl dX12_may_1 ?_
  refine ex_iload_n rfl dX12_may_2 ?_
  refine ex_iload_n rfl dX12_may_3 ?_
  refine ex_iload_n rfl dX12_may_4 ?_
  refine ex_invv (k := 0) (n := 0) (mc' := 0) (ms' := 0) (As := [_, _, _]) dX12_may_5 cv_X12_203 (by decide) (Nat.le_of_ble_eq_true rfl) (Or.inl ⟨_, _, _, _, hM.1, rfl⟩) (t_isThere hM (nI s) (nI t) (nI c)) (fun v h' q => ?_)
  obtain ⟨rfl, rfl⟩ := q
  refine ex_ifB_eq (tgt := 15) (by decide) dX12_may_8 (fun c1 => ?_) (fun c1 => ?_)
  · exact absurd (⟨(inR_nI (by omega) (by omega)).mpr hs, (inR_nI (by omega) (by omega)).mpr ht, (inR_nI (by omega) (by omega)).mpr hc⟩ : _ ∧ _) (bP_f c1)
  · refine ex_iconst (v := (nI 0)) (by decide) dX12_may_11 ?_
    refine ex_goto (tgt := 16) (by decide) dX12_may_12 ?_
    refine ex_put dX12_may_16 pf_X12_76 hM.1 (Nat.le_of_ble_eq_true rfl) rfl rfl ?_
    refine ex_aload_n rfl dX12_may_19 ?_
    refine ex_get dX12_may_20 gf_X12_76 hup_eq rfl ?_
    refine ex_ifN_le (tgt := 28) (by decide) dX12_may_23 (by omega) (fun c2 => ?_) (fun c2 => ?_)
    · refine ex_bipush (v := (nI 64)) (by decide) dX12_may_28 ?_
      refine ex_iload_n rfl dX12_may_30 ?_
      refine ex_imulN dX12_may_31 ?_
      refine ex_bipush (v := (nI 8)) (by decide) dX12_may_32 ?_
      refine ex_iload_n rfl dX12_may_34 ?_
      refine ex_imulN dX12_may_35 ?_
      refine ex_iaddN dX12_may_36 ?_
      refine ex_iload_n rfl dX12_may_37 ?_
      refine ex_iaddN dX12_may_38 ?_
      refine ex_istore (by decide) rfl dX12_may_39 ?_
      refine ex_iconst (v := (nI 0)) (by decide) dX12_may_41 ?_
      refine ex_istore (by decide) rfl dX12_may_42 ?_
      exact ex_mono (fun v h' z => ⟨_, Fr.rf.up ⟨by omega, by omega⟩, z⟩) (fun E h' z => z) (ex_lv [(0, .ref M), (1, .int (nI (s))), (2, .int (nI (t))), (3, .int (nI (c))), (4, .int (nI (64 * c + 8 * s + t))), (5, .int (nI (0)))] ⟨rfl, rfl, rfl, rfl, rfl, rfl, trivial⟩ (l_may1 (y := th0 y 0) (hM.th 0 rfl) hV hs ht hc hL hn h0 h8 hq (L.length + 1) 0 (by omega) (by omega) rfl))
    · exact absurd c2 (by decide)
set_option maxHeartbeats 4000000 in
set_option maxRecDepth 100000 in
theorem t_mayN {G : EG} {l : Launch} {h : EH} {M : Nat} {y : MS} (hM : MD G h M y) {s t c : Int32} (hn : ¬ (inR s (ms y 12) ∧ inR t (ms y 12) ∧ inR c (ms y 13))) : ES G l 1 mX12_may [.ref M, .int s, .int t, .int c] h 0 0 (fun v h' => v = some (.int (nI 0)) ∧ MD G h' M (th0 y 1) ∧ Fr (atN M) h h') eNoX := by
  refine es_of (by decide) rfl (Nat.le_of_ble_eq_true rfl) ?_
  refine ex_aload_n rfl dX12_may_0 ?_
  refine ex_aload_n rfl dX12_may_1 ?_
  refine ex_iload_n rfl dX12_may_2 ?_
  refine ex_iload_n rfl dX12_may_3 ?_
  refine ex_iload_n rfl dX12_may_4 ?_
  refine ex_invv (k := 0) (n := 0) (mc' := 0) (ms' := 0) (As := [_, _, _]) dX12_may_5 cv_X12_203 (by decide) (Nat.le_of_ble_eq_true rfl) (Or.inl ⟨_, _, _, _, hM.1, rfl⟩) (t_isThere hM s t c) (fun v h' q => ?_)
  obtain ⟨rfl, rfl⟩ := q
  refine ex_ifB_eq (tgt := 15) (by decide) dX12_may_8 (fun c1 => ?_) (fun c1 => ?_)
  · refine ex_iconst (v := (nI 1)) (by decide) dX12_may_15 ?_
    refine ex_put dX12_may_16 pf_X12_76 hM.1 (Nat.le_of_ble_eq_true rfl) rfl rfl ?_
    refine ex_aload_n rfl dX12_may_19 ?_
    refine ex_get dX12_may_20 gf_X12_76 hup_eq rfl ?_
    refine ex_ifN_le (tgt := 28) (by decide) dX12_may_23 (by omega) (fun c2 => ?_) (fun c2 => ?_)
    · exact absurd c2 (by decide)
    · refine ex_iconst (v := (nI 0)) (by decide) dX12_may_26 ?_
      refine ex_iret dX12_may_27 rfl ⟨rfl, hM.th 1 rfl, Fr.rf.up ⟨by omega, by omega⟩⟩
  · exact absurd (bP_t c1) hn
