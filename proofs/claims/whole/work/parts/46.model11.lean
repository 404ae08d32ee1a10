/-! THE MODEL: read -/
def RA (f : Nat → Nat) (T C : Nat) (y : MS) (c k : Nat) : Prop := ∀ c' k', k' < T * T → (c' < c ∨ (c' = c ∧ k' < k)) → mA y 8 (ixc T c' k') = f (bAtc T C c' + k') ∧ mmk y (ixc T c' k') = nI (f (bAtc T C c' + (T * T + k'))) - nI 1
def RM (f : Nat → Nat) (T C : Nat) (y : MS) (c k : Nat) : Prop := ∀ c' w, w < 5 → (c' < c ∨ (c' = c ∧ w < k)) → mA y 10 (5 * c' + w) = f (bAtc T C c' + (2 * (T * T) + w))
def RQ (f : Nat → Nat) (y : MS) (c : Nat) : Prop := ∀ c', c' < c → mA y 6 c' = f (2 + c')
def RK (f : Nat → Nat) (C : Nat) (y : MS) (k : Nat) : Prop := ∀ t, t < k → mA y 7 t = f (2 + C + t)
theorem RA.st {f : Nat → Nat} {T C c k : Nat} {y : MS} (h : RA f T C y c k) (h8 : T ≤ 8) (hk : k < T * T) : RA f T C (mUm (mUp y 8 (ixc T c k) (f (bAtc T C c + k))) (ixc T c k) (nI (f (bAtc T C c + (T * T + k))) - nI 1)) c (k + 1) := by
  intro c' k' h1 h2
  show va_up (mA y 8) (ixc T c k) _ _ = _ ∧ upd (mmk y) (ixc T c k) _ _ = _
  unfold va_up upd
  by_cases e : ixc T c' k' = ixc T c k
  · obtain ⟨e1, e2⟩ := ixc_inj h8 h1 hk e
    rw [if_pos e, if_pos e, e1, e2]
    exact ⟨rfl, rfl⟩
  · rw [if_neg e, if_neg e]
    refine h c' k' h1 ?_
    rcases h2 with z | ⟨z1, z2⟩
    · exact Or.inl z
    · refine Or.inr ⟨z1, Nat.lt_of_le_of_ne (by omega) (fun q => e (by rw [z1, q]))⟩
theorem RA.nx {f : Nat → Nat} {T C c k : Nat} {y : MS} (h : RA f T C y c k) (hk : T * T ≤ k) : RA f T C y (c + 1) 0 := fun c' k' h1 h2 => h c' k' h1 (by omega)
theorem RM.st {f : Nat → Nat} {T C c k : Nat} {y : MS} (h : RM f T C y c k) (hk : k < 5) : RM f T C (mUp y 10 (5 * c + k) (f (bAtc T C c + (2 * (T * T) + k)))) c (k + 1) := by
  intro c' w h1 h2
  show va_up (mA y 10) (5 * c + k) _ _ = _
  unfold va_up
  by_cases e : 5 * c' + w = 5 * c + k
  · rw [if_pos e, show c' = c by omega, show w = k by omega]
  · rw [if_neg e]; exact h c' w h1 (by omega)
theorem RM.nx {f : Nat → Nat} {T C c k : Nat} {y : MS} (h : RM f T C y c k) (hk : 5 ≤ k) : RM f T C y (c + 1) 0 := fun c' w h1 h2 => h c' w h1 (by omega)
theorem RQ.st {f : Nat → Nat} {c : Nat} {y : MS} (h : RQ f y c) : RQ f (mUp y 6 c (f (2 + c))) (c + 1) := by
  intro c' hc
  show va_up (mA y 6) c _ _ = _
  unfold va_up
  by_cases e : c' = c
  · rw [if_pos e, e]
  · rw [if_neg e]; exact h c' (by omega)
theorem RK.st {f : Nat → Nat} {C k : Nat} {y : MS} (h : RK f C y k) : RK f C (mUp y 7 k (f (2 + C + k))) (k + 1) := by
  intro t ht
  show va_up (mA y 7) k _ _ = _
  unfold va_up
  by_cases e : t = k
  · rw [if_pos e, e]
  · rw [if_neg e]; exact h t (by omega)
def gR (f : Nat → Nat) (T C : Nat) : Nat → Nat := fun j => f (bAtc T C (cC j) + (T * T + (cS j * T + cT j)))
theorem cel_ix {T s t c : Nat} (hs : s < T) (ht : t < T) : ixc T c (s * T + t) = cel s t c := by
  have := sq_back hs ht
  rw [ixc_cel, this.2.1, this.2.2]
theorem RDP_m {f : Nat → Nat} {y : MS} {T C : Nat} (hT : ms y 12 = T) (hC : ms y 13 = C) (h0 : f 0 = T) (h1 : f 1 = C) (h8 : T ≤ 8) (hA : RA f T C y C 0) (hM : RM f T C y C 0) (hQ : RQ f y C) (hK : RK f C y T) : MP y (gR f T C) (mA y 7) ∧ RDP f (mP y (gR f T C) (mA y 7)) := by
  refine ⟨⟨fun j hj => ?_, fun _ _ => rfl⟩, ⟨hT.trans h0.symm, hC.trans h1.symm⟩, fun c hc => hQ c (by omega), fun t ht => by rw [h1]; exact hK t (by omega), fun c hc => ⟨fun s t hs ht => ?_, fun s t hs ht => ?_, fun w hw => ?_⟩⟩
  · obtain ⟨j1, j2, j3⟩ := hj
    rw [hT] at j1 j2
    rw [hC] at j3
    have := (hA (cC j) (cS j * T + cT j) (sq_back j1 j2).1 (Or.inl j3)).2
    rw [cel_ix j1 j2, cel_j] at this
    exact this
  · rw [h0] at hs ht ⊢
    rw [h1] at hc ⊢
    have := (hA c (s * T + t) (sq_back hs ht).1 (Or.inl hc)).1
    rw [cel_ix hs ht] at this
    exact this
  · rw [h0] at hs ht ⊢
    rw [h1]
    show f _ = _
    rw [cel_C (by omega) (by omega), cel_S (by omega) (by omega), cel_T (by omega)]
  · rw [h0, h1]
    rw [h1] at hc
    have := hM c w hw (Or.inl hc)
    rw [Nat.mul_comm 5 c] at this
    exact this
set_option maxHeartbeats 4000000 in
set_option maxRecDepth 100000 in
theorem l_rd4 {G : EG} {l : Launch} {h0 : EH} {M : Nat} {y0 : MS} {f : Nat → Nat} {T C : Nat} (hf : mA y0 16 = f) (hT : ms y0 12 = T) (hC : ms y0 13 = C) (h0T : f 0 = T) (h1C : f 1 = C) (hT8 : T ≤ 8) (hC3 : C ≤ 3) (hN4 : bAtc T C C ≤ 420) : ∀ (f_ k : Nat), T - k < f_ → k ≤ T → ∀ (h : EH) (y : MS), MD G h M y → Kp [] [6, 7, 8, 9, 10] y0 y → RA f T C y C 0 → RM f T C y C 0 → RQ f y C → RK f C y k → Fr (atN M) h0 h → Ex G l 2 mX12_read (fun v h' => v = some (.int (nI T)) ∧ (∃ y', MD G h' M y' ∧ Kp [28] [6, 7, 8, 9, 10] y0 y' ∧ ms y' 28 = 0 ∧ ∃ g rk, MP y' g rk ∧ RDP f (mP y' g rk)) ∧ Fr (atN M) h0 h') eNoX 0 0 246 [(0, .ref M), (1, .int (nI 1)), (2, .int (nI (k)))] [] h := by
  intro f_
  induction f_ with
  | zero =>
    intro k h1 h2 h y hM hK hA hMm hQ hR hF
    omega
  | succ f_ ih =>
    intro k h1 h2 h y hM hK hA hMm hQ hR hF
    have eT : ms y 12 = T := (hK.1 12 (by decide)).trans hT
    have eC : ms y 13 = C := (hK.1 13 (by decide)).trans hC
    have hTT : T * T ≤ 64 := sq8 hT8
    have k16 : h.2 (M + 16) = some (.inl (eA G 0, 420, .inl (fun j => nI (f j)))) := by rw [← hf, ← hK.2.2 16 (by decide)]; exact hM.2 16 (by decide) (by decide)
    have k7 : h.2 (M + 7) = some (.inl (eA G 0, 8, .inl (fun j => nI (mA y 7 j)))) := hM.2 7 (by decide) (by decide)
    refine ex_iload_n rfl dX12_read_246 ?_
    refine ex_aload_n rfl dX12_read_247 ?_
    refine ex_get dX12_read_248 gf_X12_172 hM.1 rfl ?_
    rw [eT]
    refine ex_icmpN_ge (tgt := 279) (by decide) dX12_read_251 (by omega) (by omega) (fun c1 => ?_) (fun c1 => ?_)
    · refine ex_aload_n rfl dX12_read_279 ?_
      refine ex_iconst (v := (nI 0)) (by decide) dX12_read_280 ?_
      refine ex_put dX12_read_281 pf_X12_224 hM.1 (Nat.le_of_ble_eq_true rfl) rfl rfl ?_
      refine ex_iload_n rfl dX12_read_284 ?_
      refine ex_ifN_eq (tgt := 295) (by decide) dX12_read_285 (by omega) (fun c2 => ?_) (fun c2 => ?_)
      · exact absurd c2 (by decide)
      · refine ex_aload_n rfl dX12_read_288 ?_
        refine ex_get dX12_read_289 gf_X12_172 hup_eq rfl ?_
        refine ex_goto (tgt := 296) (by decide) dX12_read_292 ?_
        refine ex_iret dX12_read_296 rfl ⟨by rw [eT], ⟨(va_up (ms y) 28 0, y.2), hM.ob' (va_up (ms y) 28 0) (mpo y) (mfa y) rfl, (hK.wk (by decide) (by decide)).fd (by decide), rfl, gR f T C, mA y 7, RDP_m (y := (va_up (ms y) 28 0, y.2)) eT eC h0T h1C hT8 hA hMm hQ (by rw [show T = k by omega]; exact hR)⟩, (hF.up ⟨by omega, by omega⟩)⟩
    · refine ex_aload_n rfl dX12_read_254 ?_
      refine ex_get dX12_read_255 gf_X12_36 hM.1 rfl ?_
      refine ex_iload_n rfl dX12_read_258 ?_
      refine ex_aload_n rfl dX12_read_259 ?_
      refine ex_get dX12_read_260 gf_X12_63 hM.1 rfl ?_
      refine ex_iconst (v := (nI 2)) (by decide) dX12_read_263 ?_
      refine ex_aload_n rfl dX12_read_264 ?_
      refine ex_get dX12_read_265 gf_X12_175 hM.1 rfl ?_
      rw [eC]
      refine ex_iaddN dX12_read_268 ?_
      refine ex_iload_n rfl dX12_read_269 ?_
      refine ex_iaddN dX12_read_270 ?_
      refine ex_ialdN dX12_read_271 k16 (show 2 + C + k < 420 by have : 2 + C + T + C * (2 * (T * T) + 5) ≤ 420 := hN4; omega) (by decide) ?_
      refine ex_iastN dX12_read_272 k7 (by omega) (by decide) ?_
      refine ex_iincN (z := 1) rfl (by decide) rfl dX12_read_273 ?_
      refine ex_goto (tgt := 246) (by decide) dX12_read_276 ?_
      exact ih (k + 1) (by omega) (by omega) _ _ (hM.st 7 k (f (2 + C + k)) (by decide) (by decide)) (hK.up (by decide)) hA hMm hQ hR.st (hF.up ⟨by omega, by omega⟩)
set_option maxHeartbeats 4000000 in
set_option maxRecDepth 100000 in
theorem l_rd3 {G : EG} {l : Launch} {h0 : EH} {M : Nat} {y0 : MS} {f : Nat → Nat} {T C : Nat} (hf : mA y0 16 = f) (hT : ms y0 12 = T) (hC : ms y0 13 = C) (h0T : f 0 = T) (h1C : f 1 = C) (hT8 : T ≤ 8) (hC3 : C ≤ 3) (hN4 : bAtc T C C ≤ 420) {c : Nat} (hc : c < C) (ho : ∀ (h : EH) (y : MS), MD G h M y → Kp [] [6, 7, 8, 9, 10] y0 y → RA f T C y (c + 1) 0 → RM f T C y (c + 1) 0 → RQ f y (c + 1) → Fr (atN M) h0 h → Ex G l 2 mX12_read (fun v h' => v = some (.int (nI T)) ∧ (∃ y', MD G h' M y' ∧ Kp [28] [6, 7, 8, 9, 10] y0 y' ∧ ms y' 28 = 0 ∧ ∃ g rk, MP y' g rk ∧ RDP f (mP y' g rk)) ∧ Fr (atN M) h0 h') eNoX 0 0 49 [(0, .ref M), (1, .int (nI 1)), (2, .int (nI (c + 1)))] [] h) : ∀ (f_ k : Nat), 5 - k < f_ → k ≤ 5 → ∀ (h : EH) (y : MS), MD G h M y → Kp [] [6, 7, 8, 9, 10] y0 y → RA f T C y (c + 1) 0 → RM f T C y c k → RQ f y (c + 1) → Fr (atN M) h0 h → Ex G l 2 mX12_read (fun v h' => v = some (.int (nI T)) ∧ (∃ y', MD G h' M y' ∧ Kp [28] [6, 7, 8, 9, 10] y0 y' ∧ ms y' 28 = 0 ∧ ∃ g rk, MP y' g rk ∧ RDP f (mP y' g rk)) ∧ Fr (atN M) h0 h') eNoX 0 0 194 [(0, .ref M), (1, .int (nI 1)), (2, .int (nI (c))), (3, .int (nI (bAtc T C c))), (4, .int (nI (k)))] [] h := by
  intro f_
  induction f_ with
  | zero =>
    intro k h1 h2 h y hM hK hA hMm hQ hF
    omega
  | succ f_ ih =>
    intro k h1 h2 h y hM hK hA hMm hQ hF
    have eT : ms y 12 = T := (hK.1 12 (by decide)).trans hT
    have eC : ms y 13 = C := (hK.1 13 (by decide)).trans hC
    have hTT : T * T ≤ 64 := sq8 hT8
    have k16 : h.2 (M + 16) = some (.inl (eA G 0, 420, .inl (fun j => nI (f j)))) := by rw [← hf, ← hK.2.2 16 (by decide)]; exact hM.2 16 (by decide) (by decide)
    have hbl := bA_lt (T := T) hc
    have k10 : h.2 (M + 10) = some (.inl (eA G 0, 15, .inl (fun j => nI (mA y 10 j)))) := hM.2 10 (by decide) (by decide)
    refine ex_iload rfl dX12_read_194 ?_
    refine ex_iconst (v := (nI 5)) (by decide) dX12_read_196 ?_
    refine ex_icmpN_ge (tgt := 238) (by decide) dX12_read_197 (by omega) (by omega) (fun c1 => ?_) (fun c1 => ?_)
    · refine ex_iincN (z := 1) rfl (by decide) rfl dX12_read_238 ?_
      refine ex_goto (tgt := 49) (by decide) dX12_read_241 ?_
      exact ex_lv [(0, .ref M), (1, .int (nI 1)), (2, .int (nI (c + 1)))] ⟨rfl, rfl, rfl, trivial⟩ (ho _ _ hM hK hA (hMm.nx (by omega)) hQ hF)
    · refine ex_aload_n rfl dX12_read_200 ?_
      refine ex_get dX12_read_201 gf_X12_45 hM.1 rfl ?_
      refine ex_iconst (v := (nI 5)) (by decide) dX12_read_204 ?_
      refine ex_iload_n rfl dX12_read_205 ?_
      refine ex_imulN dX12_read_206 ?_
      refine ex_iload rfl dX12_read_207 ?_
      refine ex_iaddN dX12_read_209 ?_
      refine ex_aload_n rfl dX12_read_210 ?_
      refine ex_get dX12_read_211 gf_X12_63 hM.1 rfl ?_
      refine ex_iload_n rfl dX12_read_214 ?_
      refine ex_iconst (v := (nI 2)) (by decide) dX12_read_215 ?_
      refine ex_aload_n rfl dX12_read_216 ?_
      refine ex_get dX12_read_217 gf_X12_172 hM.1 rfl ?_
      rw [eT]
      refine ex_imulN dX12_read_220 ?_
      refine ex_aload_n rfl dX12_read_221 ?_
      refine ex_get dX12_read_222 gf_X12_172 hM.1 rfl ?_
      rw [eT]
      refine ex_imulN dX12_read_225 ?_
      rw [Nat.mul_assoc 2 T T]
      refine ex_iaddN dX12_read_226 ?_
      refine ex_iload rfl dX12_read_227 ?_
      refine ex_iaddN dX12_read_229 ?_
      rw [Nat.add_assoc (bAtc T C c) (2 * (T * T)) k]
      refine ex_ialdN dX12_read_230 k16 (by omega) (by decide) ?_
      refine ex_iastN dX12_read_231 k10 (by omega) (by decide) ?_
      refine ex_iincN (z := 1) rfl (by decide) rfl dX12_read_232 ?_
      refine ex_goto (tgt := 194) (by decide) dX12_read_235 ?_
      exact ex_lv [(0, .ref M), (1, .int (nI 1)), (2, .int (nI (c))), (3, .int (nI (bAtc T C c))), (4, .int (nI (k + 1)))] ⟨rfl, rfl, rfl, rfl, rfl, trivial⟩ (ih (k + 1) (by omega) (by omega) _ _ (hM.st 10 (5 * c + k) (f (bAtc T C c + (2 * (T * T) + k))) (by decide) (by decide)) (hK.up (by decide)) hA (hMm.st c1) hQ (hF.up ⟨by omega, by omega⟩))
set_option maxHeartbeats 4000000 in
set_option maxRecDepth 100000 in
theorem l_rd2 {G : EG} {l : Launch} {h0 : EH} {M : Nat} {y0 : MS} {f : Nat → Nat} {T C : Nat} (hf : mA y0 16 = f) (hT : ms y0 12 = T) (hC : ms y0 13 = C) (h0T : f 0 = T) (h1C : f 1 = C) (hT8 : T ≤ 8) (hC3 : C ≤ 3) (hN4 : bAtc T C C ≤ 420) {c : Nat} (hc : c < C) (ho : ∀ (h : EH) (y : MS), MD G h M y → Kp [] [6, 7, 8, 9, 10] y0 y → RA f T C y (c + 1) 0 → RM f T C y c 0 → RQ f y (c + 1) → Fr (atN M) h0 h → Ex G l 2 mX12_read (fun v h' => v = some (.int (nI T)) ∧ (∃ y', MD G h' M y' ∧ Kp [28] [6, 7, 8, 9, 10] y0 y' ∧ ms y' 28 = 0 ∧ ∃ g rk, MP y' g rk ∧ RDP f (mP y' g rk)) ∧ Fr (atN M) h0 h') eNoX 0 0 194 [(0, .ref M), (1, .int (nI 1)), (2, .int (nI (c))), (3, .int (nI (bAtc T C c))), (4, .int (nI (0)))] [] h) : ∀ (f_ k : Nat), T * T - k < f_ → k ≤ T * T → ∀ (h : EH) (y : MS), MD G h M y → Kp [] [6, 7, 8, 9, 10] y0 y → RA f T C y c k → RM f T C y c 0 → RQ f y (c + 1) → Fr (atN M) h0 h → Ex G l 2 mX12_read (fun v h' => v = some (.int (nI T)) ∧ (∃ y', MD G h' M y' ∧ Kp [28] [6, 7, 8, 9, 10] y0 y' ∧ ms y' 28 = 0 ∧ ∃ g rk, MP y' g rk ∧ RDP f (mP y' g rk)) ∧ Fr (atN M) h0 h') eNoX 0 0 102 [(0, .ref M), (1, .int (nI 1)), (2, .int (nI (c))), (3, .int (nI (bAtc T C c))), (4, .int (nI (k)))] [] h := by
  intro f_
  induction f_ with
  | zero =>
    intro k h1 h2 h y hM hK hA hMm hQ hF
    omega
  | succ f_ ih =>
    intro k h1 h2 h y hM hK hA hMm hQ hF
    have eT : ms y 12 = T := (hK.1 12 (by decide)).trans hT
    have eC : ms y 13 = C := (hK.1 13 (by decide)).trans hC
    have hTT : T * T ≤ 64 := sq8 hT8
    have k16 : h.2 (M + 16) = some (.inl (eA G 0, 420, .inl (fun j => nI (f j)))) := by rw [← hf, ← hK.2.2 16 (by decide)]; exact hM.2 16 (by decide) (by decide)
    have hbl := bA_lt (T := T) hc
    have k8 : h.2 (M + 8) = some (.inl (eA G 0, 192, .inl (fun j => nI (mA y 8 j)))) := hM.2 8 (by decide) (by decide)
    have k9 : h.2 (M + 9) = some (.inl (eA G 0, 192, .inl (mmk y))) := hM.2 9 (by decide) (by decide)
    refine ex_iload rfl dX12_read_102 ?_
    refine ex_aload_n rfl dX12_read_104 ?_
    refine ex_get dX12_read_105 gf_X12_172 hM.1 rfl ?_
    rw [eT]
    refine ex_aload_n rfl dX12_read_108 ?_
    refine ex_get dX12_read_109 gf_X12_172 hM.1 rfl ?_
    rw [eT]
    refine ex_imulN dX12_read_112 ?_
    refine ex_icmpN_ge (tgt := 191) (by decide) dX12_read_113 (by omega) (by omega) (fun c1 => ?_) (fun c1 => ?_)
    · refine ex_iconst (v := (nI 0)) (by decide) dX12_read_191 ?_
      refine ex_istore (by decide) rfl dX12_read_192 ?_
      exact ex_lv [(0, .ref M), (1, .int (nI 1)), (2, .int (nI (c))), (3, .int (nI (bAtc T C c))), (4, .int (nI (0)))] ⟨rfl, rfl, rfl, rfl, rfl, trivial⟩ (ho _ _ hM hK (hA.nx (by omega)) hMm hQ hF)
    · refine ex_bipush (v := (nI 64)) (by decide) dX12_read_116 ?_
      refine ex_iload_n rfl dX12_read_118 ?_
      refine ex_imulN dX12_read_119 ?_
      refine ex_bipush (v := (nI 8)) (by decide) dX12_read_120 ?_
      refine ex_iload rfl dX12_read_122 ?_
      refine ex_aload_n rfl dX12_read_124 ?_
      refine ex_get dX12_read_125 gf_X12_172 hM.1 rfl ?_
      rw [eT]
      refine ex_idivN (by omega) (Nat.lt_of_le_of_lt (Nat.zero_le _) (sq_pair c1).1) (by omega) dX12_read_128 ?_
      refine ex_imulN dX12_read_129 ?_
      refine ex_iaddN dX12_read_130 ?_
      refine ex_iload rfl dX12_read_131 ?_
      refine ex_aload_n rfl dX12_read_133 ?_
      refine ex_get dX12_read_134 gf_X12_172 hM.1 rfl ?_
      rw [eT]
      refine ex_iremN (by omega) (Nat.lt_of_le_of_lt (Nat.zero_le _) (sq_pair c1).1) (by omega) dX12_read_137 ?_
      refine ex_iaddN dX12_read_138 ?_
      refine ex_istore (by decide) rfl dX12_read_139 ?_
      refine ex_aload_n rfl dX12_read_141 ?_
      refine ex_get dX12_read_142 gf_X12_39 hM.1 rfl ?_
      refine ex_iload rfl dX12_read_145 ?_
      refine ex_aload_n rfl dX12_read_147 ?_
      refine ex_get dX12_read_148 gf_X12_63 hM.1 rfl ?_
      refine ex_iload_n rfl dX12_read_151 ?_
      refine ex_iload rfl dX12_read_152 ?_
      refine ex_iaddN dX12_read_154 ?_
      refine ex_ialdN dX12_read_155 k16 (by omega) (by decide) ?_
      refine ex_iastN dX12_read_156 k8 (ixc_lt hT8 c1 (by omega)) (by decide) ?_
      refine ex_aload_n rfl dX12_read_157 ?_
      refine ex_get dX12_read_158 gf_X12_42 (hup_ne (by omega) hM.1) rfl ?_
      refine ex_iload rfl dX12_read_161 ?_
      refine ex_aload_n rfl dX12_read_163 ?_
      refine ex_get dX12_read_164 gf_X12_63 (hup_ne (by omega) hM.1) rfl ?_
      refine ex_iload_n rfl dX12_read_167 ?_
      refine ex_aload_n rfl dX12_read_168 ?_
      refine ex_get dX12_read_169 gf_X12_172 (hup_ne (by omega) hM.1) rfl ?_
      rw [eT]
      refine ex_aload_n rfl dX12_read_172 ?_
      refine ex_get dX12_read_173 gf_X12_172 (hup_ne (by omega) hM.1) rfl ?_
      rw [eT]
      refine ex_imulN dX12_read_176 ?_
      refine ex_iaddN dX12_read_177 ?_
      refine ex_iload rfl dX12_read_178 ?_
      refine ex_iaddN dX12_read_180 ?_
      rw [Nat.add_assoc (bAtc T C c) (T * T) k]
      refine ex_ialdN dX12_read_181 (hup_ne (by omega) k16) (by omega) (by decide) ?_
      refine ex_iconst (v := (nI 1)) (by decide) dX12_read_182 ?_
      refine ex_isub dX12_read_183 ?_
      refine ex_iastN dX12_read_184 (hup_ne (by omega) k9) (ixc_lt hT8 c1 (by omega)) (by decide) ?_
      refine ex_iincN (z := 1) rfl (by decide) rfl dX12_read_185 ?_
      refine ex_goto (tgt := 102) (by decide) dX12_read_188 ?_
      exact ex_lv [(0, .ref M), (1, .int (nI 1)), (2, .int (nI (c))), (3, .int (nI (bAtc T C c))), (4, .int (nI (k + 1)))] ⟨rfl, rfl, rfl, rfl, rfl, trivial⟩ (ih (k + 1) (by omega) (by omega) _ _ ((hM.st 8 (ixc T c k) (f (bAtc T C c + k)) (by decide) (by decide)).mk (ixc T c k) (nI (f (bAtc T C c + (T * T + k))) - nI 1)) ((hK.up (by decide)).um (by decide)) (hA.st hT8 c1) hMm hQ ((hF.up ⟨by omega, by omega⟩).up ⟨by omega, by omega⟩))
set_option maxHeartbeats 4000000 in
set_option maxRecDepth 100000 in
theorem l_rd1 {G : EG} {l : Launch} {h0 : EH} {M : Nat} {y0 : MS} {f : Nat → Nat} {T C : Nat} (hf : mA y0 16 = f) (hT : ms y0 12 = T) (hC : ms y0 13 = C) (h0T : f 0 = T) (h1C : f 1 = C) (hT8 : T ≤ 8) (hC3 : C ≤ 3) (hN4 : bAtc T C C ≤ 420) : ∀ (f_ k : Nat), C - k < f_ → k ≤ C → ∀ (h : EH) (y : MS), MD G h M y → Kp [] [6, 7, 8, 9, 10] y0 y → RA f T C y k 0 → RM f T C y k 0 → RQ f y k → Fr (atN M) h0 h → Ex G l 2 mX12_read (fun v h' => v = some (.int (nI T)) ∧ (∃ y', MD G h' M y' ∧ Kp [28] [6, 7, 8, 9, 10] y0 y' ∧ ms y' 28 = 0 ∧ ∃ g rk, MP y' g rk ∧ RDP f (mP y' g rk)) ∧ Fr (atN M) h0 h') eNoX 0 0 49 [(0, .ref M), (1, .int (nI 1)), (2, .int (nI (k)))] [] h := by
  intro f_
  induction f_ with
  | zero =>
    intro k h1 h2 h y hM hK hA hMm hQ hF
    omega
  | succ f_ ih =>
    intro k h1 h2 h y hM hK hA hMm hQ hF
    have eT : ms y 12 = T := (hK.1 12 (by decide)).trans hT
    have eC : ms y 13 = C := (hK.1 13 (by decide)).trans hC
    have hTT : T * T ≤ 64 := sq8 hT8
    have k16 : h.2 (M + 16) = some (.inl (eA G 0, 420, .inl (fun j => nI (f j)))) := by rw [← hf, ← hK.2.2 16 (by decide)]; exact hM.2 16 (by decide) (by decide)
    have hbN : 2 + C + T + C * (2 * (T * T) + 5) ≤ 420 := hN4
    have k6 : h.2 (M + 6) = some (.inl (eA G 0, 3, .inl (fun j => nI (mA y 6 j)))) := hM.2 6 (by decide) (by decide)
    refine ex_iload_n rfl dX12_read_49 ?_
    refine ex_aload_n rfl dX12_read_50 ?_
    refine ex_get dX12_read_51 gf_X12_175 hM.1 rfl ?_
    rw [eC]
    refine ex_icmpN_ge (tgt := 244) (by decide) dX12_read_54 (by omega) (by omega) (fun c1 => ?_) (fun c1 => ?_)
    · refine ex_iconst (v := (nI 0)) (by decide) dX12_read_244 ?_
      refine ex_istore_n (by decide) rfl dX12_read_245 ?_
      obtain rfl : k = C := by omega
      exact ex_lv [(0, .ref M), (1, .int (nI 1)), (2, .int (nI (0)))] ⟨rfl, rfl, rfl, trivial⟩ (l_rd4 hf hT hC h0T h1C hT8 hC3 hN4 (T + 1) 0 (by omega) (by omega) _ _ hM hK hA hMm hQ (fun t ht => by omega) hF)
    · refine ex_aload_n rfl dX12_read_57 ?_
      refine ex_get dX12_read_58 gf_X12_33 hM.1 rfl ?_
      refine ex_iload_n rfl dX12_read_61 ?_
      refine ex_aload_n rfl dX12_read_62 ?_
      refine ex_get dX12_read_63 gf_X12_63 hM.1 rfl ?_
      refine ex_iconst (v := (nI 2)) (by decide) dX12_read_66 ?_
      refine ex_iload_n rfl dX12_read_67 ?_
      refine ex_iaddN dX12_read_68 ?_
      refine ex_ialdN dX12_read_69 k16 (by omega) (by decide) ?_
      refine ex_iastN dX12_read_70 k6 (by omega) (by decide) ?_
      refine ex_iconst (v := (nI 2)) (by decide) dX12_read_71 ?_
      refine ex_aload_n rfl dX12_read_72 ?_
      refine ex_get dX12_read_73 gf_X12_175 (hup_ne (by omega) hM.1) rfl ?_
      rw [eC]
      refine ex_iaddN dX12_read_76 ?_
      refine ex_aload_n rfl dX12_read_77 ?_
      refine ex_get dX12_read_78 gf_X12_172 (hup_ne (by omega) hM.1) rfl ?_
      rw [eT]
      refine ex_iaddN dX12_read_81 ?_
      refine ex_iload_n rfl dX12_read_82 ?_
      refine ex_iconst (v := (nI 2)) (by decide) dX12_read_83 ?_
      refine ex_aload_n rfl dX12_read_84 ?_
      refine ex_get dX12_read_85 gf_X12_172 (hup_ne (by omega) hM.1) rfl ?_
      rw [eT]
      refine ex_imulN dX12_read_88 ?_
      refine ex_aload_n rfl dX12_read_89 ?_
      refine ex_get dX12_read_90 gf_X12_172 (hup_ne (by omega) hM.1) rfl ?_
      rw [eT]
      refine ex_imulN dX12_read_93 ?_
      rw [Nat.mul_assoc 2 T T]
      refine ex_iconst (v := (nI 5)) (by decide) dX12_read_94 ?_
      refine ex_iaddN dX12_read_95 ?_
      refine ex_imulN dX12_read_96 ?_
      refine ex_iaddN dX12_read_97 ?_
      refine ex_istore_n (by decide) rfl dX12_read_98 ?_
      refine ex_iconst (v := (nI 0)) (by decide) dX12_read_99 ?_
      refine ex_istore (by decide) rfl dX12_read_100 ?_
      exact ex_lv [(0, .ref M), (1, .int (nI 1)), (2, .int (nI (k))), (3, .int (nI (bAtc T C k))), (4, .int (nI (0)))] ⟨rfl, rfl, rfl, rfl, rfl, trivial⟩ (l_rd2 hf hT hC h0T h1C hT8 hC3 hN4 c1 (fun h y hM hK hA hMm hQ hF => l_rd3 hf hT hC h0T h1C hT8 hC3 hN4 c1 (fun h y hM hK hA hMm hQ hF => ih (k + 1) (by omega) (by omega) h y hM hK hA hMm hQ hF) 6 0 (by omega) (by omega) h y hM hK hA hMm hQ hF) (T * T + 1) 0 (by omega) (by omega) _ _ (hM.st 6 k (f (2 + k)) (by decide) (by decide)) (hK.up (by decide)) hA hMm hQ.st (hF.up ⟨by omega, by omega⟩))
set_option maxHeartbeats 4000000 in
set_option maxRecDepth 100000 in
theorem t_read {G : EG} {l : Launch} {h : EH} {M : Nat} {y : MS} (hM : MD G h M y) (hl : ms y 28 ≤ 420) (hb : ∀ j, j < ms y 28 → mA y 16 j < 256) (hW : WF (mA y 16) (ms y 28)) : ES G l 2 mX12_read [.ref M] h 0 0 (fun v h' => v = some (.int (nI (mA y 16 0))) ∧ (∃ y', MD G h' M y' ∧ Kp [1, 12, 13, 21, 28] [6, 7, 8, 9, 10] y y' ∧ ms y' 1 = 0 ∧ ms y' 21 = 0 ∧ ms y' 28 = 0 ∧ ∃ g rk, MP y' g rk ∧ RDP (mA y 16) (mP y' g rk)) ∧ Fr (atN M) h h') eNoX := by
  have k16 : h.2 (M + 16) = some (.inl (eA G 0, 420, .inl (fun j => nI (mA y 16 j)))) := hM.2 16 (by decide) (by decide)
  refine es_of (by decide) rfl (Nat.le_of_ble_eq_true rfl) ?_
  refine ex_aload_n rfl dX12_read_0 ?_
  refine ex_invv (k := 0) (n := 0) (mc' := 0) (ms' := 0) (As := []) dX12_read_1 cv_X12_230 (by decide) (Nat.le_of_ble_eq_true rfl) (Or.inl ⟨_, _, _, _, hM.1, rfl⟩) (t_wellFormed hM hl hb) (fun v h' q => ?_)
  obtain ⟨rfl, rfl⟩ := q
  rw [bP_iff.mpr hW, show b2i true = nI 1 from rfl]
  refine ex_istore_n (by decide) rfl dX12_read_4 ?_
  refine ex_aload_n rfl dX12_read_5 ?_
  refine ex_iload_n rfl dX12_read_6 ?_
  refine ex_ifN_eq (tgt := 14) (by decide) dX12_read_7 (by omega) (fun c1 => ?_) (fun c1 => ?_)
  · exact absurd c1 (by decide)
  · refine ex_iconst (v := (nI 0)) (by decide) dX12_read_10 ?_
    refine ex_goto (tgt := 15) (by decide) dX12_read_11 ?_
    refine ex_put dX12_read_15 pf_X12_76 hM.1 (Nat.le_of_ble_eq_true rfl) rfl rfl ?_
    refine ex_iload_n rfl dX12_read_18 ?_
    refine ex_ifN_eq (tgt := 279) (by decide) dX12_read_19 (by omega) (fun c2 => ?_) (fun c2 => ?_)
    · exact absurd c2 (by decide)
    · refine ex_aload_n rfl dX12_read_22 ?_
      refine ex_aload_n rfl dX12_read_23 ?_
      refine ex_get dX12_read_24 gf_X12_63 hup_eq rfl ?_
      refine ex_iconst (v := (nI 0)) (by decide) dX12_read_27 ?_
      refine ex_ialdN dX12_read_28 (hup_ne (by omega) k16) (by omega) (by decide) ?_
      refine ex_put dX12_read_29 pf_X12_172 hup_eq (Nat.le_of_ble_eq_true rfl) rfl rfl ?_
      refine ex_aload_n rfl dX12_read_32 ?_
      refine ex_aload_n rfl dX12_read_33 ?_
      refine ex_get dX12_read_34 gf_X12_63 hup_eq rfl ?_
      refine ex_iconst (v := (nI 1)) (by decide) dX12_read_37 ?_
      refine ex_ialdN dX12_read_38 (hup_ne (by omega) (hup_ne (by omega) k16)) (by omega) (by decide) ?_
      refine ex_put dX12_read_39 pf_X12_175 hup_eq (Nat.le_of_ble_eq_true rfl) rfl rfl ?_
      refine ex_aload_n rfl dX12_read_42 ?_
      refine ex_iconst (v := (nI 0)) (by decide) dX12_read_43 ?_
      refine ex_put dX12_read_44 pf_X12_200 hup_eq (Nat.le_of_ble_eq_true rfl) rfl rfl ?_
      refine ex_iconst (v := (nI 0)) (by decide) dX12_read_47 ?_
      refine ex_istore_n (by decide) rfl dX12_read_48 ?_
      exact ex_lv [(0, .ref M), (1, .int (nI 1)), (2, .int (nI (0)))] ⟨rfl, rfl, rfl, trivial⟩ (ex_mono (fun v h' z => ⟨z.1, (by obtain ⟨y', a1, a2, a3, a4⟩ := z.2.1; exact ⟨y', a1, (((((Kp.rf.fd (f := 1) (by decide)).fd (f := 12) (by decide)).fd (f := 13) (by decide)).fd (f := 21) (by decide)).tr (a2.wk (by decide) (by decide))), a2.1 1 (by decide), a2.1 21 (by decide), a3, a4⟩), z.2.2⟩) (fun E h' z => z) (l_rd1 (y0 := (va_up (va_up (va_up (va_up (ms y) 1 0) 12 (mA y 16 0)) 13 (mA y 16 1)) 21 0, y.2)) (T := mA y 16 0) (C := mA y 16 1) (f := mA y 16) rfl rfl rfl rfl rfl hW.1.2.1.2 hW.1.2.2.2 (by rw [← hW.2.1]; exact hl) (mA y 16 1 + 1) 0 (by omega) (by omega) _ _ ((((hM.ob' (va_up (ms y) 1 0) (mpo y) (mfa y) rfl).ob' (va_up (va_up (ms y) 1 0) 12 (mA y 16 0)) (mpo y) (mfa y) rfl).ob' (va_up (va_up (va_up (ms y) 1 0) 12 (mA y 16 0)) 13 (mA y 16 1)) (mpo y) (mfa y) rfl).ob' (va_up (va_up (va_up (va_up (ms y) 1 0) 12 (mA y 16 0)) 13 (mA y 16 1)) 21 0) (mpo y) (mfa y) rfl) Kp.rf (fun c' k' _ z => by omega) (fun c' k' _ z => by omega) (fun c' z => by omega) ((((Fr.rf.up ⟨by omega, by omega⟩).up ⟨by omega, by omega⟩).up ⟨by omega, by omega⟩).up ⟨by omega, by omega⟩)))
set_option maxHeartbeats 4000000 in
set_option maxRecDepth 100000 in
theorem t_readN {G : EG} {l : Launch} {h : EH} {M : Nat} {y : MS} (hM : MD G h M y) (hl : ms y 28 ≤ 420) (hb : ∀ j, j < ms y 28 → mA y 16 j < 256) (hW : ¬ WF (mA y 16) (ms y 28)) : ES G l 2 mX12_read [.ref M] h 0 0 (fun v h' => v = some (.int (nI 0)) ∧ MD G h' M (va_up (va_up (ms y) 1 1) 28 0, y.2) ∧ Fr (atN M) h h') eNoX := by
  refine es_of (by decide) rfl (Nat.le_of_ble_eq_true rfl) ?_
  refine ex_aload_n rfl dX12_read_0 ?_
  refine ex_invv (k := 0) (n := 0) (mc' := 0) (ms' := 0) (As := []) dX12_read_1 cv_X12_230 (by decide) (Nat.le_of_ble_eq_true rfl) (Or.inl ⟨_, _, _, _, hM.1, rfl⟩) (t_wellFormed hM hl hb) (fun v h' q => ?_)
  obtain ⟨rfl, rfl⟩ := q
  rw [bP_no hW, show b2i false = nI 0 from rfl]
  refine ex_istore_n (by decide) rfl dX12_read_4 ?_
  refine ex_aload_n rfl dX12_read_5 ?_
  refine ex_iload_n rfl dX12_read_6 ?_
  refine ex_ifN_eq (tgt := 14) (by decide) dX12_read_7 (by omega) (fun c1 => ?_) (fun c1 => ?_)
  · refine ex_iconst (v := (nI 1)) (by decide) dX12_read_14 ?_
    refine ex_put dX12_read_15 pf_X12_76 hM.1 (Nat.le_of_ble_eq_true rfl) rfl rfl ?_
    refine ex_iload_n rfl dX12_read_18 ?_
    refine ex_ifN_eq (tgt := 279) (by decide) dX12_read_19 (by omega) (fun c2 => ?_) (fun c2 => ?_)
    · refine ex_aload_n rfl dX12_read_279 ?_
      refine ex_iconst (v := (nI 0)) (by decide) dX12_read_280 ?_
      refine ex_put dX12_read_281 pf_X12_224 hup_eq (Nat.le_of_ble_eq_true rfl) rfl rfl ?_
      refine ex_iload_n rfl dX12_read_284 ?_
      refine ex_ifN_eq (tgt := 295) (by decide) dX12_read_285 (by omega) (fun c3 => ?_) (fun c3 => ?_)
      · refine ex_iconst (v := (nI 0)) (by decide) dX12_read_295 ?_
        refine ex_iret dX12_read_296 rfl ⟨rfl, (hM.ob' (va_up (ms y) 1 1) (mpo y) (mfa y) rfl).ob' (va_up (va_up (ms y) 1 1) 28 0) (mpo y) (mfa y) rfl, (Fr.rf.up ⟨by omega, by omega⟩).up ⟨by omega, by omega⟩⟩
      · exact absurd c3 (by decide)
    · exact absurd c2 (by decide)
  · exact absurd c1 (by decide)
