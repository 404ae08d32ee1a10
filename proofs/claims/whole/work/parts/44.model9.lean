/-! THE MODEL: bytes out and in -/
def sayY (y : MS) (x : Nat) : MS := (va_up (ms y) 26 (ms y 26 + 1), (mUp y 15 (ms y 26) x).2)
def IMG (y0 y : MS) (LL : List Nat) : Prop := Kp [26] [15] y0 y ∧ mmk y = mmk y0 ∧ bL (mA y 15) (ms y 26) LL
theorem IMG.say {y0 y : MS} {LL : List Nat} (h : IMG y0 y LL) (x : Nat) : IMG y0 (sayY y x) (LL ++ [x]) := ⟨(h.1.up (by decide)).fd (by decide), h.2.1, h.2.2.push x⟩
theorem rmap_add (f : Nat → Nat) (n m : Nat) : rmap f (n + m) = rmap f n ++ rmap (fun j => f (n + j)) m := by
  induction m with
  | zero => rw [Nat.add_zero, rmap_0, List.append_nil]
  | succ m ih => rw [← Nat.add_assoc, rmap_s, ih, rmap_s, List.append_assoc]
theorem rmap_c {f g : Nat → Nat} {k : Nat} (h : ∀ j, j < k → f j = g j) : rmap f k = rmap g k := List.map_congr_left fun j hj => h j (List.mem_range.mp hj)
theorem prw_lin (T : Nat) (g : Nat → Nat → Nat) (i : Nat) : prw T g i = rmap (fun k => g (k / T) (k % T)) (i * T) := by
  induction i with
  | zero => rw [Nat.zero_mul]; rfl
  | succ i ih =>
    rw [prw_s, ih, Nat.succ_mul, rmap_add]
    congr 1
    refine rmap_c fun j hj => ?_
    have e1 : (i * T + j) / T = i := by rw [Nat.mul_comm, Nat.mul_add_div (by omega), Nat.div_eq_of_lt hj]; omega
    have e2 : (i * T + j) % T = j := by rw [Nat.mul_comm, Nat.mul_add_mod, Nat.mod_eq_of_lt hj]
    rw [e1, e2]
def ixc (T c k : Nat) : Nat := 64 * c + 8 * (k / T) + k % T
theorem ixc_cel (T c k : Nat) : ixc T c k = cel (k / T) (k % T) c := by unfold ixc cel; omega
def imL (T : Nat) (al pr ms : Nat → Nat) (c : Nat) : List Nat := rmap (fun k => al (ixc T c k)) (T * T) ++ (rmap (fun k => pr (ixc T c k)) (T * T) ++ rmap (fun w => ms (5 * c + w)) 5)
theorem imgC_lin (p : Pol) (c : Nat) : imgC p c = imL (pT p) (pAl p) (pPr p) (pMs p) c := by
  unfold imgC imL
  rw [prw_lin, prw_lin, Nat.mul_comm 5 c]
  congr 1
  · exact rmap_c fun j _ => by rw [ixc_cel]
  · congr 1
    exact rmap_c fun j _ => by rw [ixc_cel]
theorem inC_ix {y : MS} {c k : Nat} (h8 : ms y 12 ≤ 8) (hk : k < ms y 12 * ms y 12) (hc : c < ms y 13) : inC y (ixc (ms y 12) c k) := by
  have h := at_c (c := c) h8 hk
  have h1 := sq_pair hk
  unfold inC ixc
  rw [h.1, h.2.1, h.2.2]
  exact ⟨h1.1, h1.2, hc⟩
theorem ixc_lt {T c k : Nat} (h8 : T ≤ 8) (hk : k < T * T) (hc : c < 3) : ixc T c k < 192 := by
  have h1 := sq_pair hk
  unfold ixc
  generalize k / T = a at *
  generalize k % T = b at *
  omega
theorem ixc_inj {T c k c' k' : Nat} (h8 : T ≤ 8) (hk : k < T * T) (hk' : k' < T * T) (h : ixc T c k = ixc T c' k') : c = c' ∧ k = k' := by
  have h1 := at_c (c := c) h8 hk
  have h2 := at_c (c := c') h8 hk'
  unfold ixc at h
  rw [h] at h1
  have e1 := h1.2.1.symm.trans h2.2.1
  have e2 := h1.2.2.symm.trans h2.2.2
  refine ⟨h1.1.symm.trans h2.1, ?_⟩
  rw [← Nat.div_add_mod k T, ← Nat.div_add_mod k' T, e1, e2]
set_option maxHeartbeats 4000000 in
set_option maxRecDepth 100000 in
theorem t_say {G : EG} {l : Launch} {h : EH} {M : Nat} {y : MS} (hM : MD G h M y) (x : Nat) (hr : ms y 26 < 420) : ES G l 0 mX12_say [.ref M, .int (nI x)] h 0 0 (fun v h' => v = none ∧ MD G h' M (sayY y x) ∧ Fr (atN M) h h') eNoX := by
  have k15 : h.2 (M + 15) = some (.inl (eA G 0, 420, .inl (fun j => nI (mA y 15 j)))) := hM.2 15 (by decide) (by decide)
  refine es_of (by decide) rfl (Nat.le_of_ble_eq_true rfl) ?_
  refine ex_aload_n rfl dX12_say_0 ?_
  refine ex_get dX12_say_1 gf_X12_60 hM.1 rfl ?_
  refine ex_aload_n rfl dX12_say_4 ?_
  refine ex_get dX12_say_5 gf_X12_218 hM.1 rfl ?_
  refine ex_iload_n rfl dX12_say_8 ?_
  refine ex_iastN dX12_say_9 k15 (by omega) (by decide) ?_
  refine ex_aload_n rfl dX12_say_10 ?_
  refine ex_dup rfl dX12_say_11 ?_
  refine ex_get dX12_say_12 gf_X12_218 (hup_ne (by omega) hM.1) rfl ?_
  refine ex_iconst (v := (nI 1)) (by decide) dX12_say_15 ?_
  refine ex_iaddN dX12_say_16 ?_
  refine ex_put dX12_say_17 pf_X12_218 (hup_ne (by omega) hM.1) (Nat.le_of_ble_eq_true rfl) rfl rfl ?_
  refine ex_vret dX12_say_20 rfl ⟨rfl, (hM.st 15 (ms y 26) x (by decide) (by decide)).ob' (va_up (ms y) 26 (ms y 26 + 1)) (mpo y) (mfa y) rfl, (Fr.rf.up ⟨by omega, by omega⟩).up ⟨by omega, by omega⟩⟩
set_option maxHeartbeats 4000000 in
set_option maxRecDepth 100000 in
theorem l_im6 {G : EG} {l : Launch} {h0 : EH} {M : Nat} {y0 : MS} {g : Nat → Nat} {T C : Nat} (hT : ms y0 12 = T) (hC : ms y0 13 = C) (hT8 : T ≤ 8) (hC3 : C ≤ 3) (hg : ∀ j, inC y0 j → mmk y0 j = nI (g j) - nI 1) {c : Nat} (hc : c < C) {L0 : List Nat} (hL : L0.length + 5 ≤ 420) (ho : ∀ (h : EH) (y : MS), MD G h M y → IMG y0 y (L0 ++ rmap (fun w => mA y0 10 (5 * c + w)) 5) → Fr (atN M) h0 h → Ex G l 1 mX12_image (fun v h' => v = some (.int (nI (imgL (mP y0 g (mA y0 7))).length)) ∧ (∃ y', MD G h' M y' ∧ IMG y0 y' (imgL (mP y0 g (mA y0 7)))) ∧ Fr (atN M) h0 h') eNoX 0 0 89 [(0, .ref M), (1, .int (nI (c + 1)))] [] h) : ∀ (f k : Nat), 5 - k < f → k ≤ 5 → ∀ (h : EH) (y : MS), MD G h M y → IMG y0 y (L0 ++ rmap (fun w => mA y0 10 (5 * c + w)) k) → Fr (atN M) h0 h → Ex G l 1 mX12_image (fun v h' => v = some (.int (nI (imgL (mP y0 g (mA y0 7))).length)) ∧ (∃ y', MD G h' M y' ∧ IMG y0 y' (imgL (mP y0 g (mA y0 7)))) ∧ Fr (atN M) h0 h') eNoX 0 0 203 [(0, .ref M), (1, .int (nI (c))), (2, .int (nI (k)))] [] h := by
  intro f
  induction f with
  | zero =>
    intro k h1 h2 h y hM hI hF
    omega
  | succ f ih =>
    intro k h1 h2 h y hM hI hF
    have eT : ms y 12 = T := (hI.1.1 12 (by decide)).trans hT
    have eC : ms y 13 = C := (hI.1.1 13 (by decide)).trans hC
    have hl := hI.2.2.1
    have a10 : mA y 10 = mA y0 10 := hI.1.2.2 10 (by decide)
    rw [List.length_append, rmap_len] at hl
    have k10 : h.2 (M + 10) = some (.inl (eA G 0, 15, .inl (fun j => nI (mA y 10 j)))) := hM.2 10 (by decide) (by decide)
    refine ex_iload_n rfl dX12_image_203 ?_
    refine ex_iconst (v := (nI 5)) (by decide) dX12_image_204 ?_
    refine ex_icmpN_ge (tgt := 228) (by decide) dX12_image_205 (by omega) (by omega) (fun c1 => ?_) (fun c1 => ?_)
    · refine ex_iincN (z := 1) rfl (by decide) rfl dX12_image_228 ?_
      refine ex_goto (tgt := 89) (by decide) dX12_image_231 ?_
      obtain rfl : k = 5 := by omega
      exact ex_lv [(0, .ref M), (1, .int (nI (c + 1)))] ⟨rfl, rfl, trivial⟩ (ho _ _ hM hI hF)
    · refine ex_aload_n rfl dX12_image_208 ?_
      refine ex_aload_n rfl dX12_image_209 ?_
      refine ex_get dX12_image_210 gf_X12_45 hM.1 rfl ?_
      refine ex_iconst (v := (nI 5)) (by decide) dX12_image_213 ?_
      refine ex_iload_n rfl dX12_image_214 ?_
      refine ex_imulN dX12_image_215 ?_
      refine ex_iload_n rfl dX12_image_216 ?_
      refine ex_iaddN dX12_image_217 ?_
      refine ex_ialdN dX12_image_218 k10 (by omega) (by decide) ?_
      rw [a10]
      refine ex_invv (k := 0) (n := 0) (mc' := 0) (ms' := 0) (As := [_]) dX12_image_219 cv_X12_221 (by decide) (Nat.le_of_ble_eq_true rfl) (Or.inl ⟨_, _, _, _, hM.1, rfl⟩) (t_say hM (mA y0 10 (5 * c + k)) (by omega)) (fun v h' q => ?_)
      obtain ⟨rfl, hM1, hF1⟩ := q
      refine ex_iincN (z := 1) rfl (by decide) rfl dX12_image_222 ?_
      refine ex_goto (tgt := 203) (by decide) dX12_image_225 ?_
      exact ih (k + 1) (by omega) (by omega) _ _ hM1 (by have z := hI.say (mA y0 10 (5 * c + k)); rw [List.append_assoc, ← rmap_s (fun w => mA y0 10 (5 * c + w))] at z; exact z) (hF.tr hF1)
set_option maxHeartbeats 4000000 in
set_option maxRecDepth 100000 in
theorem l_im5 {G : EG} {l : Launch} {h0 : EH} {M : Nat} {y0 : MS} {g : Nat → Nat} {T C : Nat} (hT : ms y0 12 = T) (hC : ms y0 13 = C) (hT8 : T ≤ 8) (hC3 : C ≤ 3) (hg : ∀ j, inC y0 j → mmk y0 j = nI (g j) - nI 1) {c : Nat} (hc : c < C) {L0 : List Nat} (hL : L0.length + T * T ≤ 420) (ho : ∀ (h : EH) (y : MS), MD G h M y → IMG y0 y (L0 ++ rmap (fun k => g (ixc T c k)) (T * T)) → Fr (atN M) h0 h → Ex G l 1 mX12_image (fun v h' => v = some (.int (nI (imgL (mP y0 g (mA y0 7))).length)) ∧ (∃ y', MD G h' M y' ∧ IMG y0 y' (imgL (mP y0 g (mA y0 7)))) ∧ Fr (atN M) h0 h') eNoX 0 0 203 [(0, .ref M), (1, .int (nI (c))), (2, .int (nI (0)))] [] h) : ∀ (f k : Nat), T * T - k < f → k ≤ T * T → ∀ (h : EH) (y : MS), MD G h M y → IMG y0 y (L0 ++ rmap (fun k => g (ixc T c k)) k) → Fr (atN M) h0 h → Ex G l 1 mX12_image (fun v h' => v = some (.int (nI (imgL (mP y0 g (mA y0 7))).length)) ∧ (∃ y', MD G h' M y' ∧ IMG y0 y' (imgL (mP y0 g (mA y0 7)))) ∧ Fr (atN M) h0 h') eNoX 0 0 150 [(0, .ref M), (1, .int (nI (c))), (2, .int (nI (k)))] [] h := by
  intro f
  induction f with
  | zero =>
    intro k h1 h2 h y hM hI hF
    omega
  | succ f ih =>
    intro k h1 h2 h y hM hI hF
    have hTT : T * T ≤ 64 := sq8 hT8
    have eT : ms y 12 = T := (hI.1.1 12 (by decide)).trans hT
    have eC : ms y 13 = C := (hI.1.1 13 (by decide)).trans hC
    have hl := hI.2.2.1
    rw [List.length_append, rmap_len] at hl
    have em : mmk y = mmk y0 := hI.2.1
    have k9 : h.2 (M + 9) = some (.inl (eA G 0, 192, .inl (mmk y))) := hM.2 9 (by decide) (by decide)
    refine ex_iload_n rfl dX12_image_150 ?_
    refine ex_aload_n rfl dX12_image_151 ?_
    refine ex_get dX12_image_152 gf_X12_172 hM.1 rfl ?_
    rw [eT]
    refine ex_aload_n rfl dX12_image_155 ?_
    refine ex_get dX12_image_156 gf_X12_172 hM.1 rfl ?_
    rw [eT]
    refine ex_imulN dX12_image_159 ?_
    refine ex_icmpN_ge (tgt := 201) (by decide) dX12_image_160 (by omega) (by omega) (fun c1 => ?_) (fun c1 => ?_)
    · refine ex_iconst (v := (nI 0)) (by decide) dX12_image_201 ?_
      refine ex_istore_n (by decide) rfl dX12_image_202 ?_
      exact ex_lv [(0, .ref M), (1, .int (nI (c))), (2, .int (nI (0)))] ⟨rfl, rfl, rfl, trivial⟩ (ho _ _ hM (by rw [show T * T = k by omega]; exact hI) hF)
    · refine ex_aload_n rfl dX12_image_163 ?_
      refine ex_aload_n rfl dX12_image_164 ?_
      refine ex_get dX12_image_165 gf_X12_42 hM.1 rfl ?_
      refine ex_bipush (v := (nI 64)) (by decide) dX12_image_168 ?_
      refine ex_iload_n rfl dX12_image_170 ?_
      refine ex_imulN dX12_image_171 ?_
      refine ex_bipush (v := (nI 8)) (by decide) dX12_image_172 ?_
      refine ex_iload_n rfl dX12_image_174 ?_
      refine ex_aload_n rfl dX12_image_175 ?_
      refine ex_get dX12_image_176 gf_X12_172 hM.1 rfl ?_
      rw [eT]
      refine ex_idivN (by omega) (Nat.lt_of_le_of_lt (Nat.zero_le _) (sq_pair c1).1) (by omega) dX12_image_179 ?_
      refine ex_imulN dX12_image_180 ?_
      refine ex_iaddN dX12_image_181 ?_
      refine ex_iload_n rfl dX12_image_182 ?_
      refine ex_aload_n rfl dX12_image_183 ?_
      refine ex_get dX12_image_184 gf_X12_172 hM.1 rfl ?_
      rw [eT]
      refine ex_iremN (by omega) (Nat.lt_of_le_of_lt (Nat.zero_le _) (sq_pair c1).1) (by omega) dX12_image_187 ?_
      refine ex_iaddN dX12_image_188 ?_
      refine ex_ialdN dX12_image_189 k9 (ixc_lt hT8 c1 (by omega)) (by decide) ?_
      have hix := ixc_lt (T := T) (c := c) hT8 c1 (by omega)
      rw [em, show mmk y0 (64 * c + 8 * (k / T) + k % T) = nI (g (ixc T c k)) - nI 1 from hg _ (by have z := inC_ix (y := y0) (c := c) (k := k) (by omega) (by rw [hT]; exact c1) (by omega); rw [hT] at z; exact z)]
      refine ex_iconst (v := (nI 1)) (by decide) dX12_image_190 ?_
      refine ex_iadd dX12_image_191 ?_
      rw [Int32.sub_add_cancel]
      refine ex_invv (k := 0) (n := 0) (mc' := 0) (ms' := 0) (As := [_]) dX12_image_192 cv_X12_221 (by decide) (Nat.le_of_ble_eq_true rfl) (Or.inl ⟨_, _, _, _, hM.1, rfl⟩) (t_say hM (g (ixc T c k)) (by omega)) (fun v h' q => ?_)
      obtain ⟨rfl, hM1, hF1⟩ := q
      refine ex_iincN (z := 1) rfl (by decide) rfl dX12_image_195 ?_
      refine ex_goto (tgt := 150) (by decide) dX12_image_198 ?_
      exact ih (k + 1) (by omega) (by omega) _ _ hM1 (by have z := hI.say (g (ixc T c k)); rw [List.append_assoc, ← rmap_s (fun k => g (ixc T c k))] at z; exact z) (hF.tr hF1)
set_option maxHeartbeats 4000000 in
set_option maxRecDepth 100000 in
theorem l_im4 {G : EG} {l : Launch} {h0 : EH} {M : Nat} {y0 : MS} {g : Nat → Nat} {T C : Nat} (hT : ms y0 12 = T) (hC : ms y0 13 = C) (hT8 : T ≤ 8) (hC3 : C ≤ 3) (hg : ∀ j, inC y0 j → mmk y0 j = nI (g j) - nI 1) {c : Nat} (hc : c < C) {L0 : List Nat} (hL : L0.length + T * T ≤ 420) (ho : ∀ (h : EH) (y : MS), MD G h M y → IMG y0 y (L0 ++ rmap (fun k => mA y0 8 (ixc T c k)) (T * T)) → Fr (atN M) h0 h → Ex G l 1 mX12_image (fun v h' => v = some (.int (nI (imgL (mP y0 g (mA y0 7))).length)) ∧ (∃ y', MD G h' M y' ∧ IMG y0 y' (imgL (mP y0 g (mA y0 7)))) ∧ Fr (atN M) h0 h') eNoX 0 0 150 [(0, .ref M), (1, .int (nI (c))), (2, .int (nI (0)))] [] h) : ∀ (f k : Nat), T * T - k < f → k ≤ T * T → ∀ (h : EH) (y : MS), MD G h M y → IMG y0 y (L0 ++ rmap (fun k => mA y0 8 (ixc T c k)) k) → Fr (atN M) h0 h → Ex G l 1 mX12_image (fun v h' => v = some (.int (nI (imgL (mP y0 g (mA y0 7))).length)) ∧ (∃ y', MD G h' M y' ∧ IMG y0 y' (imgL (mP y0 g (mA y0 7)))) ∧ Fr (atN M) h0 h') eNoX 0 0 99 [(0, .ref M), (1, .int (nI (c))), (2, .int (nI (k)))] [] h := by
  intro f
  induction f with
  | zero =>
    intro k h1 h2 h y hM hI hF
    omega
  | succ f ih =>
    intro k h1 h2 h y hM hI hF
    have hTT : T * T ≤ 64 := sq8 hT8
    have eT : ms y 12 = T := (hI.1.1 12 (by decide)).trans hT
    have eC : ms y 13 = C := (hI.1.1 13 (by decide)).trans hC
    have hl := hI.2.2.1
    have a8 : mA y 8 = mA y0 8 := hI.1.2.2 8 (by decide)
    rw [List.length_append, rmap_len] at hl
    have k8 : h.2 (M + 8) = some (.inl (eA G 0, 192, .inl (fun j => nI (mA y 8 j)))) := hM.2 8 (by decide) (by decide)
    refine ex_iload_n rfl dX12_image_99 ?_
    refine ex_aload_n rfl dX12_image_100 ?_
    refine ex_get dX12_image_101 gf_X12_172 hM.1 rfl ?_
    rw [eT]
    refine ex_aload_n rfl dX12_image_104 ?_
    refine ex_get dX12_image_105 gf_X12_172 hM.1 rfl ?_
    rw [eT]
    refine ex_imulN dX12_image_108 ?_
    refine ex_icmpN_ge (tgt := 148) (by decide) dX12_image_109 (by omega) (by omega) (fun c1 => ?_) (fun c1 => ?_)
    · refine ex_iconst (v := (nI 0)) (by decide) dX12_image_148 ?_
      refine ex_istore_n (by decide) rfl dX12_image_149 ?_
      exact ex_lv [(0, .ref M), (1, .int (nI (c))), (2, .int (nI (0)))] ⟨rfl, rfl, rfl, trivial⟩ (ho _ _ hM (by rw [show T * T = k by omega]; exact hI) hF)
    · refine ex_aload_n rfl dX12_image_112 ?_
      refine ex_aload_n rfl dX12_image_113 ?_
      refine ex_get dX12_image_114 gf_X12_39 hM.1 rfl ?_
      refine ex_bipush (v := (nI 64)) (by decide) dX12_image_117 ?_
      refine ex_iload_n rfl dX12_image_119 ?_
      refine ex_imulN dX12_image_120 ?_
      refine ex_bipush (v := (nI 8)) (by decide) dX12_image_121 ?_
      refine ex_iload_n rfl dX12_image_123 ?_
      refine ex_aload_n rfl dX12_image_124 ?_
      refine ex_get dX12_image_125 gf_X12_172 hM.1 rfl ?_
      rw [eT]
      refine ex_idivN (by omega) (Nat.lt_of_le_of_lt (Nat.zero_le _) (sq_pair c1).1) (by omega) dX12_image_128 ?_
      refine ex_imulN dX12_image_129 ?_
      refine ex_iaddN dX12_image_130 ?_
      refine ex_iload_n rfl dX12_image_131 ?_
      refine ex_aload_n rfl dX12_image_132 ?_
      refine ex_get dX12_image_133 gf_X12_172 hM.1 rfl ?_
      rw [eT]
      refine ex_iremN (by omega) (Nat.lt_of_le_of_lt (Nat.zero_le _) (sq_pair c1).1) (by omega) dX12_image_136 ?_
      refine ex_iaddN dX12_image_137 ?_
      refine ex_ialdN dX12_image_138 k8 (ixc_lt hT8 c1 (by omega)) (by decide) ?_
      rw [a8]
      refine ex_invv (k := 0) (n := 0) (mc' := 0) (ms' := 0) (As := [_]) dX12_image_139 cv_X12_221 (by decide) (Nat.le_of_ble_eq_true rfl) (Or.inl ⟨_, _, _, _, hM.1, rfl⟩) (t_say hM (mA y0 8 (ixc T c k)) (by omega)) (fun v h' q => ?_)
      obtain ⟨rfl, hM1, hF1⟩ := q
      refine ex_iincN (z := 1) rfl (by decide) rfl dX12_image_142 ?_
      refine ex_goto (tgt := 99) (by decide) dX12_image_145 ?_
      exact ih (k + 1) (by omega) (by omega) _ _ hM1 (by have z := hI.say (mA y0 8 (ixc T c k)); rw [List.append_assoc, ← rmap_s (fun k => mA y0 8 (ixc T c k))] at z; exact z) (hF.tr hF1)
set_option maxHeartbeats 4000000 in
set_option maxRecDepth 100000 in
theorem l_im3 {G : EG} {l : Launch} {h0 : EH} {M : Nat} {y0 : MS} {g : Nat → Nat} {T C : Nat} (hT : ms y0 12 = T) (hC : ms y0 13 = C) (hT8 : T ≤ 8) (hC3 : C ≤ 3) (hg : ∀ j, inC y0 j → mmk y0 j = nI (g j) - nI 1) : ∀ (f k : Nat), C - k < f → k ≤ C → ∀ (h : EH) (y : MS), MD G h M y → IMG y0 y (([T, C] ++ rmap (mA y0 6) C ++ rmap (mA y0 7) T) ++ cls (mP y0 g (mA y0 7)) k) → Fr (atN M) h0 h → Ex G l 1 mX12_image (fun v h' => v = some (.int (nI (imgL (mP y0 g (mA y0 7))).length)) ∧ (∃ y', MD G h' M y' ∧ IMG y0 y' (imgL (mP y0 g (mA y0 7)))) ∧ Fr (atN M) h0 h') eNoX 0 0 89 [(0, .ref M), (1, .int (nI (k)))] [] h := by
  intro f
  induction f with
  | zero =>
    intro k h1 h2 h y hM hI hF
    omega
  | succ f ih =>
    intro k h1 h2 h y hM hI hF
    have hTT : T * T ≤ 64 := sq8 hT8
    have eT : ms y 12 = T := (hI.1.1 12 (by decide)).trans hT
    have eC : ms y 13 = C := (hI.1.1 13 (by decide)).trans hC
    have hl := hI.2.2.1
    have hcl := cls_len (p := (mP y0 g (mA y0 7))) (show ms y0 12 ≤ 8 by omega) k
    rw [List.length_append, List.length_append, List.length_append, rmap_len, rmap_len, show [T, C].length = 2 from rfl] at hl
    refine ex_iload_n rfl dX12_image_89 ?_
    refine ex_aload_n rfl dX12_image_90 ?_
    refine ex_get dX12_image_91 gf_X12_175 hM.1 rfl ?_
    rw [eC]
    refine ex_icmpN_ge (tgt := 234) (by decide) dX12_image_94 (by omega) (by omega) (fun c1 => ?_) (fun c1 => ?_)
    · refine ex_aload_n rfl dX12_image_234 ?_
      refine ex_get dX12_image_235 gf_X12_218 hM.1 rfl ?_
      refine ex_iret dX12_image_238 rfl ⟨by rw [hI.2.2.1, show k = C by omega]; unfold imgL; rw [show pT (mP y0 g (mA y0 7)) = T from hT, show pC (mP y0 g (mA y0 7)) = C from hC]; rfl, ⟨y, hM, (by rw [show k = C by omega] at hI; unfold imgL; rw [show pT (mP y0 g (mA y0 7)) = T from hT, show pC (mP y0 g (mA y0 7)) = C from hC]; exact hI)⟩, hF⟩
    · refine ex_iconst (v := (nI 0)) (by decide) dX12_image_97 ?_
      refine ex_istore_n (by decide) rfl dX12_image_98 ?_
      have hLk := hI.2.2.1
      exact ex_lv [(0, .ref M), (1, .int (nI (k))), (2, .int (nI (0)))] ⟨rfl, rfl, rfl, trivial⟩ (l_im4 hT hC hT8 hC3 hg c1 (L0 := (([T, C] ++ rmap (mA y0 6) C ++ rmap (mA y0 7) T) ++ cls (mP y0 g (mA y0 7)) k)) (by rw [← hLk]; omega) (fun h y hM hI hF => l_im5 hT hC hT8 hC3 hg c1 (L0 := (([T, C] ++ rmap (mA y0 6) C ++ rmap (mA y0 7) T) ++ cls (mP y0 g (mA y0 7)) k) ++ rmap (fun k_1 => mA y0 8 (ixc T k k_1)) (T * T)) (by rw [List.length_append, rmap_len, ← hLk]; omega) (fun h y hM hI hF => l_im6 hT hC hT8 hC3 hg c1 (L0 := (([T, C] ++ rmap (mA y0 6) C ++ rmap (mA y0 7) T) ++ cls (mP y0 g (mA y0 7)) k) ++ rmap (fun k_1 => mA y0 8 (ixc T k k_1)) (T * T) ++ rmap (fun k_1 => g (ixc T k k_1)) (T * T)) (by rw [List.length_append, List.length_append, rmap_len, rmap_len, ← hLk]; omega) (fun h y hM hI hF => ih (k + 1) (by omega) (by omega) h y hM (by rw [cls_s, imgC_lin]; rw [List.append_assoc, List.append_assoc] at hI; rw [← List.append_assoc]; unfold imL; rw [show pT (mP y0 g (mA y0 7)) = T from hT]; exact hI) hF) 6 0 (by omega) (by omega) h y hM (by rw [rmap_0, List.append_nil]; exact hI) hF) (T * T + 1) 0 (by omega) (by omega) h y hM (by rw [rmap_0, List.append_nil]; exact hI) hF) (T * T + 1) 0 (by omega) (by omega) _ _ hM (by rw [rmap_0, List.append_nil]; exact hI) hF)
set_option maxHeartbeats 4000000 in
set_option maxRecDepth 100000 in
theorem l_im2 {G : EG} {l : Launch} {h0 : EH} {M : Nat} {y0 : MS} {g : Nat → Nat} {T C : Nat} (hT : ms y0 12 = T) (hC : ms y0 13 = C) (hT8 : T ≤ 8) (hC3 : C ≤ 3) (hg : ∀ j, inC y0 j → mmk y0 j = nI (g j) - nI 1) : ∀ (f k : Nat), T - k < f → k ≤ T → ∀ (h : EH) (y : MS), MD G h M y → IMG y0 y ([T, C] ++ rmap (mA y0 6) C ++ rmap (mA y0 7) k) → Fr (atN M) h0 h → Ex G l 1 mX12_image (fun v h' => v = some (.int (nI (imgL (mP y0 g (mA y0 7))).length)) ∧ (∃ y', MD G h' M y' ∧ IMG y0 y' (imgL (mP y0 g (mA y0 7)))) ∧ Fr (atN M) h0 h') eNoX 0 0 63 [(0, .ref M), (1, .int (nI (k)))] [] h := by
  intro f
  induction f with
  | zero =>
    intro k h1 h2 h y hM hI hF
    omega
  | succ f ih =>
    intro k h1 h2 h y hM hI hF
    have eT : ms y 12 = T := (hI.1.1 12 (by decide)).trans hT
    have eC : ms y 13 = C := (hI.1.1 13 (by decide)).trans hC
    have hl := hI.2.2.1
    have a7 : mA y 7 = mA y0 7 := hI.1.2.2 7 (by decide)
    rw [List.length_append, List.length_append, rmap_len, rmap_len, show [T, C].length = 2 from rfl] at hl
    have k7 : h.2 (M + 7) = some (.inl (eA G 0, 8, .inl (fun j => nI (mA y 7 j)))) := hM.2 7 (by decide) (by decide)
    refine ex_iload_n rfl dX12_image_63 ?_
    refine ex_aload_n rfl dX12_image_64 ?_
    refine ex_get dX12_image_65 gf_X12_172 hM.1 rfl ?_
    rw [eT]
    refine ex_icmpN_ge (tgt := 87) (by decide) dX12_image_68 (by omega) (by omega) (fun c1 => ?_) (fun c1 => ?_)
    · refine ex_iconst (v := (nI 0)) (by decide) dX12_image_87 ?_
      refine ex_istore_n (by decide) rfl dX12_image_88 ?_
      exact ex_lv [(0, .ref M), (1, .int (nI (0)))] ⟨rfl, rfl, trivial⟩ (l_im3 hT hC hT8 hC3 hg (C + 1) 0 (by omega) (by omega) _ _ hM (by rw [show k = T by omega] at hI; exact (List.append_nil _).symm ▸ hI) hF)
    · refine ex_aload_n rfl dX12_image_71 ?_
      refine ex_aload_n rfl dX12_image_72 ?_
      refine ex_get dX12_image_73 gf_X12_36 hM.1 rfl ?_
      refine ex_iload_n rfl dX12_image_76 ?_
      refine ex_ialdN dX12_image_77 k7 (by omega) (by decide) ?_
      rw [a7]
      refine ex_invv (k := 0) (n := 0) (mc' := 0) (ms' := 0) (As := [_]) dX12_image_78 cv_X12_221 (by decide) (Nat.le_of_ble_eq_true rfl) (Or.inl ⟨_, _, _, _, hM.1, rfl⟩) (t_say hM (mA y0 7 k) (by omega)) (fun v h' q => ?_)
      obtain ⟨rfl, hM1, hF1⟩ := q
      refine ex_iincN (z := 1) rfl (by decide) rfl dX12_image_81 ?_
      refine ex_goto (tgt := 63) (by decide) dX12_image_84 ?_
      exact ih (k + 1) (by omega) (by omega) _ _ hM1 (by have z := hI.say (mA y0 7 k); rw [List.append_assoc, ← rmap_s] at z; exact z) (hF.tr hF1)
set_option maxHeartbeats 4000000 in
set_option maxRecDepth 100000 in
theorem l_im1 {G : EG} {l : Launch} {h0 : EH} {M : Nat} {y0 : MS} {g : Nat → Nat} {T C : Nat} (hT : ms y0 12 = T) (hC : ms y0 13 = C) (hT8 : T ≤ 8) (hC3 : C ≤ 3) (hg : ∀ j, inC y0 j → mmk y0 j = nI (g j) - nI 1) : ∀ (f k : Nat), C - k < f → k ≤ C → ∀ (h : EH) (y : MS), MD G h M y → IMG y0 y ([T, C] ++ rmap (mA y0 6) k) → Fr (atN M) h0 h → Ex G l 1 mX12_image (fun v h' => v = some (.int (nI (imgL (mP y0 g (mA y0 7))).length)) ∧ (∃ y', MD G h' M y' ∧ IMG y0 y' (imgL (mP y0 g (mA y0 7)))) ∧ Fr (atN M) h0 h') eNoX 0 0 37 [(0, .ref M), (1, .int (nI (k)))] [] h := by
  intro f
  induction f with
  | zero =>
    intro k h1 h2 h y hM hI hF
    omega
  | succ f ih =>
    intro k h1 h2 h y hM hI hF
    have eT : ms y 12 = T := (hI.1.1 12 (by decide)).trans hT
    have eC : ms y 13 = C := (hI.1.1 13 (by decide)).trans hC
    have hl := hI.2.2.1
    have a6 : mA y 6 = mA y0 6 := hI.1.2.2 6 (by decide)
    rw [List.length_append, rmap_len, show [T, C].length = 2 from rfl] at hl
    have k6 : h.2 (M + 6) = some (.inl (eA G 0, 3, .inl (fun j => nI (mA y 6 j)))) := hM.2 6 (by decide) (by decide)
    refine ex_iload_n rfl dX12_image_37 ?_
    refine ex_aload_n rfl dX12_image_38 ?_
    refine ex_get dX12_image_39 gf_X12_175 hM.1 rfl ?_
    rw [eC]
    refine ex_icmpN_ge (tgt := 61) (by decide) dX12_image_42 (by omega) (by omega) (fun c1 => ?_) (fun c1 => ?_)
    · refine ex_iconst (v := (nI 0)) (by decide) dX12_image_61 ?_
      refine ex_istore_n (by decide) rfl dX12_image_62 ?_
      exact ex_lv [(0, .ref M), (1, .int (nI (0)))] ⟨rfl, rfl, trivial⟩ (l_im2 hT hC hT8 hC3 hg (T + 1) 0 (by omega) (by omega) _ _ hM (by rw [show k = C by omega] at hI; rw [rmap_0, List.append_nil]; exact hI) hF)
    · refine ex_aload_n rfl dX12_image_45 ?_
      refine ex_aload_n rfl dX12_image_46 ?_
      refine ex_get dX12_image_47 gf_X12_33 hM.1 rfl ?_
      refine ex_iload_n rfl dX12_image_50 ?_
      refine ex_ialdN dX12_image_51 k6 (by omega) (by decide) ?_
      rw [a6]
      refine ex_invv (k := 0) (n := 0) (mc' := 0) (ms' := 0) (As := [_]) dX12_image_52 cv_X12_221 (by decide) (Nat.le_of_ble_eq_true rfl) (Or.inl ⟨_, _, _, _, hM.1, rfl⟩) (t_say hM (mA y0 6 k) (by omega)) (fun v h' q => ?_)
      obtain ⟨rfl, hM1, hF1⟩ := q
      refine ex_iincN (z := 1) rfl (by decide) rfl dX12_image_55 ?_
      refine ex_goto (tgt := 37) (by decide) dX12_image_58 ?_
      exact ih (k + 1) (by omega) (by omega) _ _ hM1 (by have z := hI.say (mA y0 6 k); rw [List.append_assoc, ← rmap_s] at z; exact z) (hF.tr hF1)
set_option maxHeartbeats 4000000 in
set_option maxRecDepth 100000 in
theorem l_im0 {G : EG} {l : Launch} {h0 : EH} {h : EH} {M : Nat} {y : MS} (hM : MD G h M y) (h26 : ms y 26 = 0) {g : Nat → Nat} (h8 : ms y 12 ≤ 8) (h3 : ms y 13 ≤ 3) (hg : ∀ j, inC y j → mmk y j = nI (g j) - nI 1) (hF : Fr (atN M) h0 h) : Ex G l 1 mX12_image (fun v h' => v = some (.int (nI (imgL (mP y g (mA y 7))).length)) ∧ (∃ y', MD G h' M y' ∧ IMG y y' (imgL (mP y g (mA y 7)))) ∧ Fr (atN M) h0 h') eNoX 0 0 19 [(0, .ref M)] [] h := by
  refine ex_aload_n rfl dX12_image_19 ?_
  refine ex_aload_n rfl dX12_image_20 ?_
  refine ex_get dX12_image_21 gf_X12_172 hM.1 rfl ?_
  refine ex_invv (k := 0) (n := 0) (mc' := 0) (ms' := 0) (As := [_]) dX12_image_24 cv_X12_221 (by decide) (Nat.le_of_ble_eq_true rfl) (Or.inl ⟨_, _, _, _, hM.1, rfl⟩) (t_say hM (ms y 12) (by omega)) (fun v h' q => ?_)
  obtain ⟨rfl, hM1, hF1⟩ := q
  refine ex_aload_n rfl dX12_image_27 ?_
  refine ex_aload_n rfl dX12_image_28 ?_
  refine ex_get dX12_image_29 gf_X12_175 hM1.1 rfl ?_
  refine ex_invv (k := 0) (n := 0) (mc' := 0) (ms' := 0) (As := [_]) dX12_image_32 cv_X12_221 (by decide) (Nat.le_of_ble_eq_true rfl) (Or.inl ⟨_, _, _, _, hM1.1, rfl⟩) (t_say hM1 (ms y 13) (show ms y 26 + 1 < 420 by omega)) (fun v h' q => ?_)
  obtain ⟨rfl, hM2, hF2⟩ := q
  refine ex_iconst (v := (nI 0)) (by decide) dX12_image_35 ?_
  refine ex_istore_n (by decide) rfl dX12_image_36 ?_
  have hI0 : IMG y y [] := ⟨Kp.rf, rfl, by rw [h26]; exact bL.nil _⟩
  exact ex_lv [(0, .ref M), (1, .int (nI (0)))] ⟨rfl, rfl, trivial⟩ (l_im1 rfl rfl h8 h3 hg (ms y 13 + 1) 0 (by omega) (by omega) _ _ hM2 ((hI0.say (ms y 12)).say (ms y 13)) ((hF.tr hF1).tr hF2))
set_option maxHeartbeats 4000000 in
set_option maxRecDepth 100000 in
theorem t_image {G : EG} {l : Launch} {h : EH} {M : Nat} {y : MS} (hM : MD G h M y) (h1 : ms y 12 ≠ 0) {g : Nat → Nat} (h8 : ms y 12 ≤ 8) (h3 : ms y 13 ≤ 3) (hg : ∀ j, inC y j → mmk y j = nI (g j) - nI 1) : ES G l 1 mX12_image [.ref M] h 0 0 (fun v h' => v = some (.int (nI (imgL (mP (th0 (va_up (ms y) 26 0, y.2) 0) g (mA (th0 (va_up (ms y) 26 0, y.2) 0) 7))).length)) ∧ (∃ y', MD G h' M y' ∧ IMG (th0 (va_up (ms y) 26 0, y.2) 0) y' (imgL (mP (th0 (va_up (ms y) 26 0, y.2) 0) g (mA (th0 (va_up (ms y) 26 0, y.2) 0) 7)))) ∧ Fr (atN M) h h') eNoX := by
  refine es_of (by decide) rfl (Nat.le_of_ble_eq_true rfl) ?_
  refine ex_aload_n rfl dX12_image_0 ?_
  refine ex_iconst (v := (nI 0)) (by decide) dX12_image_1 ?_
  refine ex_put dX12_image_2 pf_X12_76 hM.1 (Nat.le_of_ble_eq_true rfl) rfl rfl ?_
  refine ex_aload_n rfl dX12_image_5 ?_
  refine ex_get dX12_image_6 gf_X12_172 hup_eq rfl ?_
  refine ex_ifN_ne (tgt := 14) (by decide) dX12_image_9 (by omega) (fun c1 => ?_) (fun c1 => ?_)
  · refine ex_aload_n rfl dX12_image_14 ?_
    refine ex_iconst (v := (nI 0)) (by decide) dX12_image_15 ?_
    refine ex_put dX12_image_16 pf_X12_218 hup_eq (Nat.le_of_ble_eq_true rfl) rfl rfl ?_
    exact l_im0 (y := th0 (va_up (ms y) 26 0, y.2) 0) ((hM.th 0 rfl).ob' (va_up (va_up (ms y) 26 0) 1 0) (mpo y) (mfa y) rfl) rfl h8 h3 hg ((Fr.rf.up ⟨by omega, by omega⟩).up ⟨by omega, by omega⟩)
  · exact absurd c1 h1
set_option maxHeartbeats 4000000 in
set_option maxRecDepth 100000 in
theorem t_imageN {G : EG} {l : Launch} {h : EH} {M : Nat} {y : MS} (hM : MD G h M y) (h1 : ms y 12 = 0) : ES G l 1 mX12_image [.ref M] h 0 0 (fun v h' => v = some (.int (nI 0)) ∧ MD G h' M (th0 y 0) ∧ Fr (atN M) h h') eNoX := by
  refine es_of (by decide) rfl (Nat.le_of_ble_eq_true rfl) ?_
  refine ex_aload_n rfl dX12_image_0 ?_
  refine ex_iconst (v := (nI 0)) (by decide) dX12_image_1 ?_
  refine ex_put dX12_image_2 pf_X12_76 hM.1 (Nat.le_of_ble_eq_true rfl) rfl rfl ?_
  refine ex_aload_n rfl dX12_image_5 ?_
  refine ex_get dX12_image_6 gf_X12_172 hup_eq rfl ?_
  refine ex_ifN_ne (tgt := 14) (by decide) dX12_image_9 (by omega) (fun c1 => ?_) (fun c1 => ?_)
  · exact absurd h1 c1
  · refine ex_iconst (v := (nI 0)) (by decide) dX12_image_12 ?_
    refine ex_iret dX12_image_13 rfl ⟨rfl, hM.th 0 rfl, (Fr.rf.up ⟨by omega, by omega⟩)⟩
set_option maxHeartbeats 4000000 in
set_option maxRecDepth 100000 in
theorem t_imageAt {G : EG} {l : Launch} {h : EH} {M : Nat} {y : MS} (hM : MD G h M y) (hn : ms y 26 ≤ 420) (k : Int32) : ES G l 0 mX12_imageAt [.ref M, .int k] h 0 0 (fun v h' => v = some (.int (bAt (mA y 15) (ms y 26) k)) ∧ MD G h' M (th0 y 0) ∧ Fr (atN M) h h') eNoX := by
  have k15 : h.2 (M + 15) = some (.inl (eA G 0, 420, .inl (fun j => nI (mA y 15 j)))) := hM.2 15 (by decide) (by decide)
  refine es_of (by decide) rfl (Nat.le_of_ble_eq_true rfl) ?_
  refine ex_aload_n rfl dX12_imageAt_0 ?_
  refine ex_iconst (v := (nI 0)) (by decide) dX12_imageAt_1 ?_
  refine ex_put dX12_imageAt_2 pf_X12_76 hM.1 (Nat.le_of_ble_eq_true rfl) rfl rfl ?_
  refine ex_iload_n rfl dX12_imageAt_5 ?_
  refine ex_if_lt (tgt := 26) (by decide) dX12_imageAt_6 (fun c1 => ?_) (fun c1 => ?_)
  · refine ex_iconst (v := (-1)) (by decide) dX12_imageAt_26 ?_
    refine ex_iret dX12_imageAt_27 rfl ⟨by unfold bAt; rw [if_pos c1], hM.th 0 rfl, (Fr.rf.up ⟨by omega, by omega⟩)⟩
  · refine ex_iload_n rfl dX12_imageAt_9 ?_
    refine ex_aload_n rfl dX12_imageAt_10 ?_
    refine ex_get dX12_imageAt_11 gf_X12_218 hup_eq rfl ?_
    refine ex_icmp_ge (tgt := 26) (by decide) dX12_imageAt_14 (fun c2 => ?_) (fun c2 => ?_)
    · refine ex_iconst (v := (-1)) (by decide) dX12_imageAt_26 ?_
      refine ex_iret dX12_imageAt_27 rfl ⟨by unfold bAt; rw [if_neg c1, if_pos c2], hM.th 0 rfl, (Fr.rf.up ⟨by omega, by omega⟩)⟩
    · refine ex_aload_n rfl dX12_imageAt_17 ?_
      refine ex_get dX12_imageAt_18 gf_X12_60 hup_eq rfl ?_
      refine ex_iload_n rfl dX12_imageAt_21 ?_
      refine ex_iald dX12_imageAt_22 (hup_ne (by omega) k15) (vp_of ‹_› ‹_› hn (by decide)) ?_
      refine ex_goto (tgt := 27) (by decide) dX12_imageAt_23 ?_
      refine ex_iret dX12_imageAt_27 rfl ⟨by unfold bAt; rw [if_neg c1, if_neg c2], hM.th 0 rfl, (Fr.rf.up ⟨by omega, by omega⟩)⟩
