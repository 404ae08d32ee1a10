/-! THE MODEL: wrong statements, what stands against what -/
theorem rep_1 {S : Nat → Stm} {i κ : Nat} (h : kd (S i) = κ) : rep S i 1 ↔ isN S i κ (wo (S i) 0) := by
  constructor
  · rintro ⟨k, k1, k2, k3⟩; exact ⟨k, k1, k2.trans h, k3 0 (by omega)⟩
  · rintro ⟨k, k1, k2, k3⟩; exact ⟨k, k1, k2.trans h.symm, fun j hj => by rw [show j = 0 by omega]; exact k3⟩
theorem mH.sk {y : MS} (h : mH y) {i κ m : Nat} (hi : i < ms y 6) (hk : kd (mS y i) = κ) (hm : m ≤ kNm κ + kFw κ) : m ≤ sz (mS y i) := by have := (h i hi).1.1; rw [hk] at this; omega
theorem rep_b {y : MS} (h : mH y) (hB : mB y) {i κ : Nat} (hi : i < ms y 6) (hk : kd (mS y i) = κ) : 0 < bef (mS y) κ (wd (mS y i) 0) i ↔ rep (mS y) i 1 := by
  have h1 := h.s1 hB hi
  rw [bef_p ((h i hi).2 0 h1), isN_m h hB (Nat.le_of_lt hi), rep_1 hk, wo_wd h1]
theorem rep_t {y : MS} (h : mH y) {i : Nat} (hi : i < ms y 6) (hk : kd (mS y i) = 4) : (∃ r, r < i ∧ tw y i r) ↔ rep (mS y) i 3 := by
  have hs : ∀ j, j < ms y 6 → kd (mS y j) = 4 → 4 ≤ sz (mS y j) := fun j hj hk => h.sk hj hk (by decide)
  constructor
  · rintro ⟨r, r1, r2, r3, r4, r5⟩
    refine ⟨r, r1, r2.trans hk.symm, fun j hj => ?_⟩
    have a1 := hs r (by omega) r2
    have a2 := hs i hi hk
    rw [wo_wd (by omega), wo_wd (by omega)]
    rcases (show j = 0 ∨ j = 1 ∨ j = 2 by omega) with q | q | q <;> rw [q] <;> assumption
  · rintro ⟨r, r1, r2, r3⟩
    have a1 := hs r (by omega) (r2.trans hk)
    have a2 := hs i hi hk
    have e : ∀ j, j < 3 → wd (mS y r) j = wd (mS y i) j := fun j hj => by have := r3 j hj; rw [wo_wd (by omega), wo_wd (by omega)] at this; exact this
    exact ⟨r, r1, r2.trans hk, e 0 (by omega), e 1 (by omega), e 2 (by omega)⟩
theorem areP_m {y : MS} {i c : Nat} (hs : c + 1 < sz (mS y i)) : arP y i (c + 1) (wd (mS y i) c) ↔ areP (mS y) (ms y 6) i c := by
  constructor
  · intro h k k1 k2
    rw [wo_wd (by omega), wo_wd k2]
    exact h.2 k k1 k2
  · intro h
    refine ⟨?_, fun j j1 j2 => ?_⟩
    · have := areP_cls h hs
      rw [wo_wd (by omega)] at this
      exact this
    · have := h j j1 j2
      rw [wo_wd (by omega), wo_wd j2] at this
      exact this
set_option maxHeartbeats 4000000 in
set_option maxRecDepth 100000 in
theorem v_0 {G : EG} {l : Launch} {h : EH} {M : Nat} {y : MS} (hM : MD G h M y) (hB : mB y) (hH : mH y) {i : Nat} (hi : i < ms y 6) (hk : kd (mS y i) = 0) : Ex G l 4 mX12_isWrong (fun v h' => v = some (.int (b2i (bP (wr0 (mS y) i)))) ∧ h' = h) eNoX 0 0 68 [(0, .ref M), (1, .int (nI (i))), (2, .int (nI (wd (mS y i) 0))), (3, .int (nI (wd (mS y i) 1))), (4, .int (nI (wd (mS y i) 2)))] [] h := by
  have hn := hB.1
  have w0 := mS_wd hB i 0
  have w1 := mS_wd hB i 1
  have w2 := mS_wd hB i 2
  have w3 := mS_wd hB i 3
  have hrb := rep_b hH hB hi hk
  have hbl := bef_le (mS y) 0 (wd (mS y i) 0) i
  have hc0 := bef_le (mS y) 0 0 i
  have hs1 := hH.s1 hB hi
  refine ex_aload_n rfl dX12_isWrong_68 ?_
  refine ex_iconst (v := (nI 0)) (by decide) dX12_isWrong_69 ?_
  refine ex_iload_n rfl dX12_isWrong_70 ?_
  refine ex_iload_n rfl dX12_isWrong_71 ?_
  refine ex_invv (k := 0) (n := 0) (mc' := 0) (ms' := 0) (As := [_, _, _]) dX12_isWrong_72 cv_X12_128 (by decide) (Nat.le_of_ble_eq_true rfl) (Or.inl ⟨_, _, _, _, hM.1, rfl⟩) (t_before hM hB (κ := 0) (x := wd (mS y i) 0) (e := i) (by decide) (by omega) (by omega)) (fun v h' q => ?_)
  obtain ⟨rfl, rfl⟩ := q
  refine ex_ifN_gt (tgt := 97) (by decide) dX12_isWrong_75 (by omega) (fun c1 => ?_) (fun c1 => ?_)
  · refine ex_iconst (v := (nI 1)) (by decide) dX12_isWrong_97 ?_
    refine ex_goto (tgt := 102) (by decide) dX12_isWrong_98 ?_
    refine ex_zret dX12_isWrong_102 rfl rfl ⟨rT (Or.inl (hrb.mp c1)), rfl⟩
  · refine ex_aload_n rfl dX12_isWrong_78 ?_
    refine ex_iload_n rfl dX12_isWrong_79 ?_
    refine ex_invv (k := 0) (n := 0) (mc' := 0) (ms' := 0) (As := [_]) dX12_isWrong_80 cv_X12_139 (by decide) (Nat.le_of_ble_eq_true rfl) (Or.inl ⟨_, _, _, _, hM.1, rfl⟩) (t_allDifferent hM hB (s := i) (by omega)) (fun v h' q => ?_)
    obtain ⟨rfl, rfl⟩ := q
    refine ex_ifB_eq (tgt := 97) (by decide) dX12_isWrong_83 (fun c2 => ?_) (fun c2 => ?_)
    · refine ex_iconst (v := (nI 1)) (by decide) dX12_isWrong_97 ?_
      refine ex_goto (tgt := 102) (by decide) dX12_isWrong_98 ?_
      refine ex_zret dX12_isWrong_102 rfl rfl ⟨rT (Or.inr (Or.inl (bP_f c2))), rfl⟩
    · refine ex_aload_n rfl dX12_isWrong_86 ?_
      refine ex_iconst (v := (nI 0)) (by decide) dX12_isWrong_87 ?_
      refine ex_iconst (v := (nI 0)) (by decide) dX12_isWrong_88 ?_
      refine ex_iload_n rfl dX12_isWrong_89 ?_
      refine ex_invv (k := 0) (n := 0) (mc' := 0) (ms' := 0) (As := [_, _, _]) dX12_isWrong_90 cv_X12_128 (by decide) (Nat.le_of_ble_eq_true rfl) (Or.inl ⟨_, _, _, _, hM.1, rfl⟩) (t_before hM hB (κ := 0) (x := 0) (e := i) (by decide) (by omega) (by omega)) (fun v h' q => ?_)
      obtain ⟨rfl, rfl⟩ := q
      refine ex_iconst (v := (nI 3)) (by decide) dX12_isWrong_93 ?_
      refine ex_icmpN_lt (tgt := 101) (by decide) dX12_isWrong_94 (by omega) (by omega) (fun c3 => ?_) (fun c3 => ?_)
      · refine ex_iconst (v := (nI 0)) (by decide) dX12_isWrong_101 ?_
        refine ex_zret dX12_isWrong_102 rfl rfl ⟨rF (by rw [bef_0] at c3; rintro (z | z | z); have := hrb.mpr z; omega; exact z (bP_t c2); omega), rfl⟩
      · refine ex_iconst (v := (nI 1)) (by decide) dX12_isWrong_97 ?_
        refine ex_goto (tgt := 102) (by decide) dX12_isWrong_98 ?_
        refine ex_zret dX12_isWrong_102 rfl rfl ⟨rT (Or.inr (Or.inr (by rw [bef_0] at c3; exact c3))), rfl⟩
set_option maxHeartbeats 4000000 in
set_option maxRecDepth 100000 in
theorem v_1 {G : EG} {l : Launch} {h : EH} {M : Nat} {y : MS} (hM : MD G h M y) (hB : mB y) (hH : mH y) {i : Nat} (hi : i < ms y 6) (hk : kd (mS y i) = 1) : Ex G l 4 mX12_isWrong (fun v h' => v = some (.int (b2i (bP (wr1 (mS y) (ms y 6) i)))) ∧ h' = h) eNoX 0 0 103 [(0, .ref M), (1, .int (nI (i))), (2, .int (nI (wd (mS y i) 0))), (3, .int (nI (wd (mS y i) 1))), (4, .int (nI (wd (mS y i) 2)))] [] h := by
  have hn := hB.1
  have w0 := mS_wd hB i 0
  have w1 := mS_wd hB i 1
  have w2 := mS_wd hB i 2
  have w3 := mS_wd hB i 3
  have hrb := rep_b hH hB hi hk
  have hbl := bef_le (mS y) 1 (wd (mS y i) 0) i
  have hc0 := bef_le (mS y) 1 0 i
  have hs1 := hH.s1 hB hi
  refine ex_aload_n rfl dX12_isWrong_103 ?_
  refine ex_iconst (v := (nI 1)) (by decide) dX12_isWrong_104 ?_
  refine ex_iload_n rfl dX12_isWrong_105 ?_
  refine ex_iload_n rfl dX12_isWrong_106 ?_
  refine ex_invv (k := 0) (n := 0) (mc' := 0) (ms' := 0) (As := [_, _, _]) dX12_isWrong_107 cv_X12_128 (by decide) (Nat.le_of_ble_eq_true rfl) (Or.inl ⟨_, _, _, _, hM.1, rfl⟩) (t_before hM hB (κ := 1) (x := wd (mS y i) 0) (e := i) (by decide) (by omega) (by omega)) (fun v h' q => ?_)
  obtain ⟨rfl, rfl⟩ := q
  refine ex_ifN_gt (tgt := 141) (by decide) dX12_isWrong_110 (by omega) (fun c1 => ?_) (fun c1 => ?_)
  · refine ex_iconst (v := (nI 1)) (by decide) dX12_isWrong_141 ?_
    refine ex_goto (tgt := 146) (by decide) dX12_isWrong_142 ?_
    refine ex_zret dX12_isWrong_146 rfl rfl ⟨rT (Or.inl (hrb.mp c1)), rfl⟩
  · refine ex_aload_n rfl dX12_isWrong_113 ?_
    refine ex_iload_n rfl dX12_isWrong_114 ?_
    refine ex_invv (k := 0) (n := 0) (mc' := 0) (ms' := 0) (As := [_]) dX12_isWrong_115 cv_X12_142 (by decide) (Nat.le_of_ble_eq_true rfl) (Or.inl ⟨_, _, _, _, hM.1, rfl⟩) (t_isAttribute hM hB w0) (fun v h' q => ?_)
    obtain ⟨rfl, rfl⟩ := q
    refine ex_ifB_ne (tgt := 141) (by decide) dX12_isWrong_118 (fun c2 => ?_) (fun c2 => ?_)
    · refine ex_iconst (v := (nI 1)) (by decide) dX12_isWrong_141 ?_
      refine ex_goto (tgt := 146) (by decide) dX12_isWrong_142 ?_
      refine ex_zret dX12_isWrong_146 rfl rfl ⟨rT (Or.inr (Or.inl (by rw [wo_wd hs1]; exact bP_t c2))), rfl⟩
    · refine ex_aload_n rfl dX12_isWrong_121 ?_
      refine ex_iload_n rfl dX12_isWrong_122 ?_
      refine ex_invv (k := 0) (n := 0) (mc' := 0) (ms' := 0) (As := [_]) dX12_isWrong_123 cv_X12_139 (by decide) (Nat.le_of_ble_eq_true rfl) (Or.inl ⟨_, _, _, _, hM.1, rfl⟩) (t_allDifferent hM hB (s := i) (by omega)) (fun v h' q => ?_)
      obtain ⟨rfl, rfl⟩ := q
      refine ex_ifB_eq (tgt := 141) (by decide) dX12_isWrong_126 (fun c3 => ?_) (fun c3 => ?_)
      · refine ex_iconst (v := (nI 1)) (by decide) dX12_isWrong_141 ?_
        refine ex_goto (tgt := 146) (by decide) dX12_isWrong_142 ?_
        refine ex_zret dX12_isWrong_146 rfl rfl ⟨rT (Or.inr (Or.inr (Or.inl (bP_f c3)))), rfl⟩
      · refine ex_aload_n rfl dX12_isWrong_129 ?_
        refine ex_iconst (v := (nI 1)) (by decide) dX12_isWrong_130 ?_
        refine ex_iconst (v := (nI 0)) (by decide) dX12_isWrong_131 ?_
        refine ex_iload_n rfl dX12_isWrong_132 ?_
        refine ex_invv (k := 0) (n := 0) (mc' := 0) (ms' := 0) (As := [_, _, _]) dX12_isWrong_133 cv_X12_128 (by decide) (Nat.le_of_ble_eq_true rfl) (Or.inl ⟨_, _, _, _, hM.1, rfl⟩) (t_before hM hB (κ := 1) (x := 0) (e := i) (by decide) (by omega) (by omega)) (fun v h' q => ?_)
        obtain ⟨rfl, rfl⟩ := q
        refine ex_bipush (v := (nI 8)) (by decide) dX12_isWrong_136 ?_
        refine ex_icmpN_lt (tgt := 145) (by decide) dX12_isWrong_138 (by omega) (by omega) (fun c4 => ?_) (fun c4 => ?_)
        · refine ex_iconst (v := (nI 0)) (by decide) dX12_isWrong_145 ?_
          refine ex_zret dX12_isWrong_146 rfl rfl ⟨rF (by rw [bef_0] at c4; rintro (z | z | z | z); have := hrb.mpr z; omega; rw [wo_wd hs1] at z; exact bP_f c2 z; exact z (bP_t c3); omega), rfl⟩
        · refine ex_iconst (v := (nI 1)) (by decide) dX12_isWrong_141 ?_
          refine ex_goto (tgt := 146) (by decide) dX12_isWrong_142 ?_
          refine ex_zret dX12_isWrong_146 rfl rfl ⟨rT (Or.inr (Or.inr (Or.inr (by rw [bef_0] at c4; exact c4)))), rfl⟩
set_option maxHeartbeats 4000000 in
set_option maxRecDepth 100000 in
theorem v_4 {G : EG} {l : Launch} {h : EH} {M : Nat} {y : MS} (hM : MD G h M y) (hB : mB y) (hH : mH y) {i : Nat} (hi : i < ms y 6) (hk : kd (mS y i) = 4) : Ex G l 4 mX12_isWrong (fun v h' => v = some (.int (b2i (bP (wr4 (mS y) (ms y 6) i)))) ∧ h' = h) eNoX 0 0 147 [(0, .ref M), (1, .int (nI (i))), (2, .int (nI (wd (mS y i) 0))), (3, .int (nI (wd (mS y i) 1))), (4, .int (nI (wd (mS y i) 2)))] [] h := by
  have hn := hB.1
  have w0 := mS_wd hB i 0
  have w1 := mS_wd hB i 1
  have w2 := mS_wd hB i 2
  have w3 := mS_wd hB i 3
  have hrt := rep_t hH hi hk
  have hsz := hH.sk (m := 4) hi hk (by decide)
  have e0 := wo_wd (s := mS y i) (k := 0) (by omega)
  have e1 := wo_wd (s := mS y i) (k := 1) (by omega)
  have e2 := wo_wd (s := mS y i) (k := 2) (by omega)
  have e3 := wo_wd (s := mS y i) (k := 3) (by omega)
  refine ex_aload_n rfl dX12_isWrong_147 ?_
  refine ex_iload_n rfl dX12_isWrong_148 ?_
  refine ex_invv (k := 0) (n := 0) (mc' := 0) (ms' := 0) (As := [_]) dX12_isWrong_149 cv_X12_145 (by decide) (Nat.le_of_ble_eq_true rfl) (Or.inl ⟨_, _, _, _, hM.1, rfl⟩) (t_twice hM hB (s := i) (by omega)) (fun v h' q => ?_)
  obtain ⟨rfl, rfl⟩ := q
  refine ex_ifB_ne (tgt := 193) (by decide) dX12_isWrong_152 (fun c1 => ?_) (fun c1 => ?_)
  · refine ex_iconst (v := (nI 1)) (by decide) dX12_isWrong_193 ?_
    refine ex_goto (tgt := 198) (by decide) dX12_isWrong_194 ?_
    refine ex_zret dX12_isWrong_198 rfl rfl ⟨rT (Or.inl (hrt.mp (bP_t c1))), rfl⟩
  · refine ex_aload_n rfl dX12_isWrong_155 ?_
    refine ex_iload_n rfl dX12_isWrong_156 ?_
    refine ex_invv (k := 0) (n := 0) (mc' := 0) (ms' := 0) (As := [_]) dX12_isWrong_157 cv_X12_148 (by decide) (Nat.le_of_ble_eq_true rfl) (Or.inl ⟨_, _, _, _, hM.1, rfl⟩) (t_isType hM hB hH w0 ((hH i hi).2 0 (by omega))) (fun v h' q => ?_)
    obtain ⟨rfl, rfl⟩ := q
    refine ex_ifB_eq (tgt := 193) (by decide) dX12_isWrong_160 (fun c2 => ?_) (fun c2 => ?_)
    · refine ex_iconst (v := (nI 1)) (by decide) dX12_isWrong_193 ?_
      refine ex_goto (tgt := 198) (by decide) dX12_isWrong_194 ?_
      refine ex_zret dX12_isWrong_198 rfl rfl ⟨rT (Or.inr (Or.inl (by rw [e0]; exact bP_f c2))), rfl⟩
    · refine ex_aload_n rfl dX12_isWrong_163 ?_
      refine ex_iload_n rfl dX12_isWrong_164 ?_
      refine ex_invv (k := 0) (n := 0) (mc' := 0) (ms' := 0) (As := [_]) dX12_isWrong_165 cv_X12_148 (by decide) (Nat.le_of_ble_eq_true rfl) (Or.inl ⟨_, _, _, _, hM.1, rfl⟩) (t_isType hM hB hH w1 ((hH i hi).2 1 (by omega))) (fun v h' q => ?_)
      obtain ⟨rfl, rfl⟩ := q
      refine ex_ifB_eq (tgt := 193) (by decide) dX12_isWrong_168 (fun c3 => ?_) (fun c3 => ?_)
      · refine ex_iconst (v := (nI 1)) (by decide) dX12_isWrong_193 ?_
        refine ex_goto (tgt := 198) (by decide) dX12_isWrong_194 ?_
        refine ex_zret dX12_isWrong_198 rfl rfl ⟨rT (Or.inr (Or.inr (Or.inl (by rw [e1]; exact bP_f c3)))), rfl⟩
      · refine ex_aload_n rfl dX12_isWrong_171 ?_
        refine ex_iload rfl dX12_isWrong_172 ?_
        refine ex_invv (k := 0) (n := 0) (mc' := 0) (ms' := 0) (As := [_]) dX12_isWrong_174 cv_X12_132 (by decide) (Nat.le_of_ble_eq_true rfl) (Or.inl ⟨_, _, _, _, hM.1, rfl⟩) (t_isClass hM hB hH w2 ((hH i hi).2 2 (by omega))) (fun v h' q => ?_)
        obtain ⟨rfl, rfl⟩ := q
        refine ex_ifB_eq (tgt := 193) (by decide) dX12_isWrong_177 (fun c4 => ?_) (fun c4 => ?_)
        · refine ex_iconst (v := (nI 1)) (by decide) dX12_isWrong_193 ?_
          refine ex_goto (tgt := 198) (by decide) dX12_isWrong_194 ?_
          refine ex_zret dX12_isWrong_198 rfl rfl ⟨rT (Or.inr (Or.inr (Or.inr (Or.inl (by rw [e2]; exact bP_f c4))))), rfl⟩
        · refine ex_aload_n rfl dX12_isWrong_180 ?_
          refine ex_aload_n rfl dX12_isWrong_181 ?_
          refine ex_iload_n rfl dX12_isWrong_182 ?_
          refine ex_iconst (v := (nI 3)) (by decide) dX12_isWrong_183 ?_
          refine ex_invv (k := 0) (n := 0) (mc' := 0) (ms' := 0) (As := [_, _]) dX12_isWrong_184 cv_X12_124 (by decide) (Nat.le_of_ble_eq_true rfl) (Or.inl ⟨_, _, _, _, hM.1, rfl⟩) (t_nameAt hM (s := i) (k := 3) (by omega) (by omega)) (fun v h' q => ?_)
          obtain ⟨rfl, rfl⟩ := q
          refine ex_invv (k := 0) (n := 0) (mc' := 0) (ms' := 0) (As := [_]) dX12_isWrong_187 cv_X12_148 (by decide) (Nat.le_of_ble_eq_true rfl) (Or.inl ⟨_, _, _, _, hM.1, rfl⟩) (t_isType hM hB hH w3 ((hH i hi).2 3 (by omega))) (fun v h' q => ?_)
          obtain ⟨rfl, rfl⟩ := q
          refine ex_ifB_ne (tgt := 197) (by decide) dX12_isWrong_190 (fun c5 => ?_) (fun c5 => ?_)
          · refine ex_iconst (v := (nI 0)) (by decide) dX12_isWrong_197 ?_
            refine ex_zret dX12_isWrong_198 rfl rfl ⟨rF (by unfold wr4; rw [e0, e1, e2, e3]; rintro (z | z | z | z | z); exact bP_f c1 (hrt.mpr z); exact z (bP_t c2); exact z (bP_t c3); exact z (bP_t c4); exact z (bP_t c5)), rfl⟩
          · refine ex_iconst (v := (nI 1)) (by decide) dX12_isWrong_193 ?_
            refine ex_goto (tgt := 198) (by decide) dX12_isWrong_194 ?_
            refine ex_zret dX12_isWrong_198 rfl rfl ⟨rT (Or.inr (Or.inr (Or.inr (Or.inr (by rw [e3]; exact bP_f c5))))), rfl⟩
set_option maxHeartbeats 4000000 in
set_option maxRecDepth 100000 in
theorem v_5 {G : EG} {l : Launch} {h : EH} {M : Nat} {y : MS} (hM : MD G h M y) (hB : mB y) (hH : mH y) {i : Nat} (hi : i < ms y 6) (hk : kd (mS y i) = 5) : Ex G l 4 mX12_isWrong (fun v h' => v = some (.int (b2i (bP (wr5 (mS y) (ms y 6) i)))) ∧ h' = h) eNoX 0 0 199 [(0, .ref M), (1, .int (nI (i))), (2, .int (nI (wd (mS y i) 0))), (3, .int (nI (wd (mS y i) 1))), (4, .int (nI (wd (mS y i) 2)))] [] h := by
  have hn := hB.1
  have w0 := mS_wd hB i 0
  have w1 := mS_wd hB i 1
  have w2 := mS_wd hB i 2
  have w3 := mS_wd hB i 3
  have hrb := rep_b hH hB hi hk
  have hbl := bef_le (mS y) 5 (wd (mS y i) 0) i
  have hc0 := bef_le (mS y) 5 0 i
  have hs1 := hH.s1 hB hi
  refine ex_aload_n rfl dX12_isWrong_199 ?_
  refine ex_iconst (v := (nI 5)) (by decide) dX12_isWrong_200 ?_
  refine ex_iload_n rfl dX12_isWrong_201 ?_
  refine ex_iload_n rfl dX12_isWrong_202 ?_
  refine ex_invv (k := 0) (n := 0) (mc' := 0) (ms' := 0) (As := [_, _, _]) dX12_isWrong_203 cv_X12_128 (by decide) (Nat.le_of_ble_eq_true rfl) (Or.inl ⟨_, _, _, _, hM.1, rfl⟩) (t_before hM hB (κ := 5) (x := wd (mS y i) 0) (e := i) (by decide) (by omega) (by omega)) (fun v h' q => ?_)
  obtain ⟨rfl, rfl⟩ := q
  refine ex_ifN_gt (tgt := 217) (by decide) dX12_isWrong_206 (by omega) (fun c1 => ?_) (fun c1 => ?_)
  · refine ex_iconst (v := (nI 1)) (by decide) dX12_isWrong_217 ?_
    refine ex_goto (tgt := 222) (by decide) dX12_isWrong_218 ?_
    refine ex_zret dX12_isWrong_222 rfl rfl ⟨rT (Or.inl (hrb.mp c1)), rfl⟩
  · refine ex_aload_n rfl dX12_isWrong_209 ?_
    refine ex_iload_n rfl dX12_isWrong_210 ?_
    refine ex_invv (k := 0) (n := 0) (mc' := 0) (ms' := 0) (As := [_]) dX12_isWrong_211 cv_X12_148 (by decide) (Nat.le_of_ble_eq_true rfl) (Or.inl ⟨_, _, _, _, hM.1, rfl⟩) (t_isType hM hB hH w0 ((hH i hi).2 0 (by omega))) (fun v h' q => ?_)
    obtain ⟨rfl, rfl⟩ := q
    refine ex_ifB_ne (tgt := 221) (by decide) dX12_isWrong_214 (fun c2 => ?_) (fun c2 => ?_)
    · refine ex_iconst (v := (nI 0)) (by decide) dX12_isWrong_221 ?_
      refine ex_zret dX12_isWrong_222 rfl rfl ⟨rF (by unfold wr5; rw [wo_wd hs1]; rintro (z | z); have := hrb.mpr z; omega; exact z (bP_t c2)), rfl⟩
    · refine ex_iconst (v := (nI 1)) (by decide) dX12_isWrong_217 ?_
      refine ex_goto (tgt := 222) (by decide) dX12_isWrong_218 ?_
      refine ex_zret dX12_isWrong_222 rfl rfl ⟨rT (Or.inr (by rw [wo_wd hs1]; exact bP_f c2)), rfl⟩
set_option maxHeartbeats 4000000 in
set_option maxRecDepth 100000 in
theorem v_2c {G : EG} {l : Launch} {h : EH} {M : Nat} {y : MS} (hM : MD G h M y) (hB : mB y) (hH : mH y) {i : Nat} (hi : i < ms y 6) (hk : kd (mS y i) = 2 ∨ kd (mS y i) = 3) (hd0 : doer (mS y) (ms y 6) (wd (mS y i) 0)) (hd1 : wd (mS y i) 1 = mSelf ∨ doer (mS y) (ms y 6) (wd (mS y i) 1)) : Ex G l 4 mX12_isWrong (fun v h' => v = some (.int (b2i (bP (wr2 mSelf (mS y) (ms y 6) i)))) ∧ h' = h) eNoX 0 0 262 [(0, .ref M), (1, .int (nI (i))), (2, .int (nI (wd (mS y i) 0))), (3, .int (nI (wd (mS y i) 1))), (4, .int (nI (wd (mS y i) 2)))] [] h := by
  have hn := hB.1
  have w0 := mS_wd hB i 0
  have w1 := mS_wd hB i 1
  have w2 := mS_wd hB i 2
  have w3 := mS_wd hB i 3
  have hsz : 4 ≤ sz (mS y i) := hk.elim (fun z => hH.sk hi z (by decide)) (fun z => hH.sk hi z (by decide))
  have e0 := wo_wd (s := mS y i) (k := 0) (by omega)
  have e1 := wo_wd (s := mS y i) (k := 1) (by omega)
  have e2 := wo_wd (s := mS y i) (k := 2) (by omega)
  have e3 := wo_wd (s := mS y i) (k := 3) (by omega)
  have hap := areP_m (y := y) (i := i) (c := 2) (by omega)
  refine ex_aload_n rfl dX12_isWrong_262 ?_
  refine ex_iload_n rfl dX12_isWrong_263 ?_
  refine ex_iconst (v := (nI 3)) (by decide) dX12_isWrong_264 ?_
  refine ex_iload rfl dX12_isWrong_265 ?_
  refine ex_invv (k := 0) (n := 0) (mc' := 0) (ms' := 0) (As := [_, _, _]) dX12_isWrong_267 cv_X12_154 (by decide) (Nat.le_of_ble_eq_true rfl) (Or.inl ⟨_, _, _, _, hM.1, rfl⟩) (t_areP hM hB hH (s := i) (fr := 3) (by omega) (by decide) w2 ((hH i hi).2 2 (by omega))) (fun v h' q => ?_)
  obtain ⟨rfl, rfl⟩ := q
  refine ex_ifB_ne (tgt := 277) (by decide) dX12_isWrong_270 (fun c1 => ?_) (fun c1 => ?_)
  · refine ex_iconst (v := (nI 0)) (by decide) dX12_isWrong_277 ?_
    refine ex_zret dX12_isWrong_278 rfl rfl ⟨rF (by unfold wr2; rw [e0, e1]; rintro (z | z | z); exact z hd0; exact z hd1; exact z (hap.mp (bP_t c1))), rfl⟩
  · refine ex_iconst (v := (nI 1)) (by decide) dX12_isWrong_273 ?_
    refine ex_goto (tgt := 278) (by decide) dX12_isWrong_274 ?_
    refine ex_zret dX12_isWrong_278 rfl rfl ⟨rT (Or.inr (Or.inr (fun z => bP_f c1 (hap.mpr z)))), rfl⟩
set_option maxHeartbeats 4000000 in
set_option maxRecDepth 100000 in
theorem v_2b {G : EG} {l : Launch} {h : EH} {M : Nat} {y : MS} (hM : MD G h M y) (hB : mB y) (hH : mH y) {i : Nat} (hi : i < ms y 6) (hk : kd (mS y i) = 2 ∨ kd (mS y i) = 3) (hd0 : doer (mS y) (ms y 6) (wd (mS y i) 0)) : Ex G l 4 mX12_isWrong (fun v h' => v = some (.int (b2i (bP (wr2 mSelf (mS y) (ms y 6) i)))) ∧ h' = h) eNoX 0 0 239 [(0, .ref M), (1, .int (nI (i))), (2, .int (nI (wd (mS y i) 0))), (3, .int (nI (wd (mS y i) 1))), (4, .int (nI (wd (mS y i) 2)))] [] h := by
  have hn := hB.1
  have w0 := mS_wd hB i 0
  have w1 := mS_wd hB i 1
  have w2 := mS_wd hB i 2
  have w3 := mS_wd hB i 3
  have hsz : 4 ≤ sz (mS y i) := hk.elim (fun z => hH.sk hi z (by decide)) (fun z => hH.sk hi z (by decide))
  have e0 := wo_wd (s := mS y i) (k := 0) (by omega)
  have e1 := wo_wd (s := mS y i) (k := 1) (by omega)
  have e2 := wo_wd (s := mS y i) (k := 2) (by omega)
  have e3 := wo_wd (s := mS y i) (k := 3) (by omega)
  have hap := areP_m (y := y) (i := i) (c := 2) (by omega)
  refine ex_iload_n rfl dX12_isWrong_239 ?_
  refine ex_invs (k := 0) (n := 0) (mc' := 0) (ms' := 0) (As := [_]) dX12_isWrong_240 cs_X12_151 (by decide) (Nat.le_of_ble_eq_true rfl) (t_isSelf _ w1) (fun v h' q => ?_)
  obtain ⟨rfl, rfl⟩ := q
  refine ex_ifB_ne (tgt := 262) (by decide) dX12_isWrong_243 (fun c1 => ?_) (fun c1 => ?_)
  · exact v_2c hM hB hH hi hk hd0 (Or.inl (bP_t c1))
  · refine ex_aload_n rfl dX12_isWrong_246 ?_
    refine ex_iload_n rfl dX12_isWrong_247 ?_
    refine ex_invv (k := 0) (n := 0) (mc' := 0) (ms' := 0) (As := [_]) dX12_isWrong_248 cv_X12_148 (by decide) (Nat.le_of_ble_eq_true rfl) (Or.inl ⟨_, _, _, _, hM.1, rfl⟩) (t_isType hM hB hH w1 ((hH i hi).2 1 (by omega))) (fun v h' q => ?_)
    obtain ⟨rfl, rfl⟩ := q
    refine ex_ifB_ne (tgt := 262) (by decide) dX12_isWrong_251 (fun c2 => ?_) (fun c2 => ?_)
    · exact v_2c hM hB hH hi hk hd0 (Or.inr (Or.inl (bP_t c2)))
    · refine ex_aload_n rfl dX12_isWrong_254 ?_
      refine ex_iload_n rfl dX12_isWrong_255 ?_
      refine ex_invv (k := 0) (n := 0) (mc' := 0) (ms' := 0) (As := [_]) dX12_isWrong_256 cv_X12_142 (by decide) (Nat.le_of_ble_eq_true rfl) (Or.inl ⟨_, _, _, _, hM.1, rfl⟩) (t_isAttribute hM hB w1) (fun v h' q => ?_)
      obtain ⟨rfl, rfl⟩ := q
      refine ex_ifB_eq (tgt := 273) (by decide) dX12_isWrong_259 (fun c3 => ?_) (fun c3 => ?_)
      · refine ex_iconst (v := (nI 1)) (by decide) dX12_isWrong_273 ?_
        refine ex_goto (tgt := 278) (by decide) dX12_isWrong_274 ?_
        refine ex_zret dX12_isWrong_278 rfl rfl ⟨rT (Or.inr (Or.inl (by rw [e1]; rintro (z | z | z); exact bP_f c1 z; exact bP_f c2 z; exact bP_f c3 z))), rfl⟩
      · exact v_2c hM hB hH hi hk hd0 (Or.inr (Or.inr (bP_t c3)))
set_option maxHeartbeats 4000000 in
set_option maxRecDepth 100000 in
theorem v_2 {G : EG} {l : Launch} {h : EH} {M : Nat} {y : MS} (hM : MD G h M y) (hB : mB y) (hH : mH y) {i : Nat} (hi : i < ms y 6) (hk : kd (mS y i) = 2 ∨ kd (mS y i) = 3) : Ex G l 4 mX12_isWrong (fun v h' => v = some (.int (b2i (bP (wr2 mSelf (mS y) (ms y 6) i)))) ∧ h' = h) eNoX 0 0 223 [(0, .ref M), (1, .int (nI (i))), (2, .int (nI (wd (mS y i) 0))), (3, .int (nI (wd (mS y i) 1))), (4, .int (nI (wd (mS y i) 2)))] [] h := by
  have hn := hB.1
  have w0 := mS_wd hB i 0
  have w1 := mS_wd hB i 1
  have w2 := mS_wd hB i 2
  have w3 := mS_wd hB i 3
  have hsz : 4 ≤ sz (mS y i) := hk.elim (fun z => hH.sk hi z (by decide)) (fun z => hH.sk hi z (by decide))
  have e0 := wo_wd (s := mS y i) (k := 0) (by omega)
  have e1 := wo_wd (s := mS y i) (k := 1) (by omega)
  have e2 := wo_wd (s := mS y i) (k := 2) (by omega)
  have e3 := wo_wd (s := mS y i) (k := 3) (by omega)
  have hap := areP_m (y := y) (i := i) (c := 2) (by omega)
  refine ex_aload_n rfl dX12_isWrong_223 ?_
  refine ex_iload_n rfl dX12_isWrong_224 ?_
  refine ex_invv (k := 0) (n := 0) (mc' := 0) (ms' := 0) (As := [_]) dX12_isWrong_225 cv_X12_148 (by decide) (Nat.le_of_ble_eq_true rfl) (Or.inl ⟨_, _, _, _, hM.1, rfl⟩) (t_isType hM hB hH w0 ((hH i hi).2 0 (by omega))) (fun v h' q => ?_)
  obtain ⟨rfl, rfl⟩ := q
  refine ex_ifB_ne (tgt := 239) (by decide) dX12_isWrong_228 (fun c1 => ?_) (fun c1 => ?_)
  · exact v_2b hM hB hH hi hk (Or.inl (bP_t c1))
  · refine ex_aload_n rfl dX12_isWrong_231 ?_
    refine ex_iload_n rfl dX12_isWrong_232 ?_
    refine ex_invv (k := 0) (n := 0) (mc' := 0) (ms' := 0) (As := [_]) dX12_isWrong_233 cv_X12_142 (by decide) (Nat.le_of_ble_eq_true rfl) (Or.inl ⟨_, _, _, _, hM.1, rfl⟩) (t_isAttribute hM hB w0) (fun v h' q => ?_)
    obtain ⟨rfl, rfl⟩ := q
    refine ex_ifB_eq (tgt := 273) (by decide) dX12_isWrong_236 (fun c2 => ?_) (fun c2 => ?_)
    · refine ex_iconst (v := (nI 1)) (by decide) dX12_isWrong_273 ?_
      refine ex_goto (tgt := 278) (by decide) dX12_isWrong_274 ?_
      refine ex_zret dX12_isWrong_278 rfl rfl ⟨rT (Or.inl (by rw [e0]; rintro (z | z); exact bP_f c1 z; exact bP_f c2 z)), rfl⟩
    · exact v_2b hM hB hH hi hk (Or.inr (bP_t c2))
set_option maxHeartbeats 4000000 in
set_option maxRecDepth 100000 in
theorem v_6 {G : EG} {l : Launch} {h : EH} {M : Nat} {y : MS} (hM : MD G h M y) (hB : mB y) (hH : mH y) {i : Nat} (hi : i < ms y 6) (hk : 6 ≤ kd (mS y i)) : Ex G l 4 mX12_isWrong (fun v h' => v = some (.int (b2i (bP (¬ areP (mS y) (ms y 6) i 0)))) ∧ h' = h) eNoX 0 0 279 [(0, .ref M), (1, .int (nI (i))), (2, .int (nI (wd (mS y i) 0))), (3, .int (nI (wd (mS y i) 1))), (4, .int (nI (wd (mS y i) 2)))] [] h := by
  have hn := hB.1
  have w0 := mS_wd hB i 0
  have w1 := mS_wd hB i 1
  have w2 := mS_wd hB i 2
  have w3 := mS_wd hB i 3
  have hk9 := mS_kd hB i
  have hsz : 2 ≤ sz (mS y i) := by
    rcases (show kd (mS y i) = 6 ∨ kd (mS y i) = 7 ∨ kd (mS y i) = 8 by omega) with z | z | z
    · exact hH.sk hi z (by decide)
    · exact hH.sk hi z (by decide)
    · exact hH.sk hi z (by decide)
  have hap := areP_m (y := y) (i := i) (c := 0) (by omega)
  refine ex_aload_n rfl dX12_isWrong_279 ?_
  refine ex_iload_n rfl dX12_isWrong_280 ?_
  refine ex_iconst (v := (nI 1)) (by decide) dX12_isWrong_281 ?_
  refine ex_iload_n rfl dX12_isWrong_282 ?_
  refine ex_invv (k := 0) (n := 0) (mc' := 0) (ms' := 0) (As := [_, _, _]) dX12_isWrong_283 cv_X12_154 (by decide) (Nat.le_of_ble_eq_true rfl) (Or.inl ⟨_, _, _, _, hM.1, rfl⟩) (t_areP hM hB hH (s := i) (fr := 1) (by omega) (by decide) w0 ((hH i hi).2 0 (by omega))) (fun v h' q => ?_)
  obtain ⟨rfl, rfl⟩ := q
  refine ex_ifB_ne (tgt := 293) (by decide) dX12_isWrong_286 (fun c1 => ?_) (fun c1 => ?_)
  · refine ex_iconst (v := (nI 0)) (by decide) dX12_isWrong_293 ?_
    refine ex_zret dX12_isWrong_294 rfl rfl ⟨rF (fun z => z (hap.mp (bP_t c1))), rfl⟩
  · refine ex_iconst (v := (nI 1)) (by decide) dX12_isWrong_289 ?_
    refine ex_goto (tgt := 294) (by decide) dX12_isWrong_290 ?_
    refine ex_zret dX12_isWrong_294 rfl rfl ⟨rT (fun z => bP_f c1 (hap.mpr z)), rfl⟩
set_option maxHeartbeats 4000000 in
set_option maxRecDepth 100000 in
theorem t_isWrong {G : EG} {l : Launch} {h : EH} {M : Nat} {y : MS} (hM : MD G h M y) (hB : mB y) (hH : mH y) {i : Nat} (hi : i < ms y 6) : ES G l 4 mX12_isWrong [.ref M, .int (nI i)] h 0 0 (fun v h' => v = some (.int (b2i (bP (isWr mSelf (mS y) (ms y 6) i)))) ∧ h' = h) eNoX := by
  have hn := hB.1
  have w0 := mS_wd hB i 0
  have w1 := mS_wd hB i 1
  have w2 := mS_wd hB i 2
  have w3 := mS_wd hB i 3
  have k2 : h.2 (M + 2) = some (.inl (eA G 0, 41, .inl (fun j => nI (mA y 2 j)))) := hM.2 2 (by decide) (by decide)
  refine es_of (by decide) rfl (Nat.le_of_ble_eq_true rfl) ?_
  refine ex_aload_n rfl dX12_isWrong_0 ?_
  refine ex_iload_n rfl dX12_isWrong_1 ?_
  refine ex_iconst (v := (nI 0)) (by decide) dX12_isWrong_2 ?_
  refine ex_invv (k := 0) (n := 0) (mc' := 0) (ms' := 0) (As := [_, _]) dX12_isWrong_3 cv_X12_124 (by decide) (Nat.le_of_ble_eq_true rfl) (Or.inl ⟨_, _, _, _, hM.1, rfl⟩) (t_nameAt hM (s := i) (k := 0) (by omega) (by omega)) (fun v h' q => ?_)
  obtain ⟨rfl, rfl⟩ := q
  refine ex_istore_n (by decide) rfl dX12_isWrong_6 ?_
  refine ex_aload_n rfl dX12_isWrong_7 ?_
  refine ex_iload_n rfl dX12_isWrong_8 ?_
  refine ex_iconst (v := (nI 1)) (by decide) dX12_isWrong_9 ?_
  refine ex_invv (k := 0) (n := 0) (mc' := 0) (ms' := 0) (As := [_, _]) dX12_isWrong_10 cv_X12_124 (by decide) (Nat.le_of_ble_eq_true rfl) (Or.inl ⟨_, _, _, _, hM.1, rfl⟩) (t_nameAt hM (s := i) (k := 1) (by omega) (by omega)) (fun v h' q => ?_)
  obtain ⟨rfl, rfl⟩ := q
  refine ex_istore_n (by decide) rfl dX12_isWrong_13 ?_
  refine ex_aload_n rfl dX12_isWrong_14 ?_
  refine ex_iload_n rfl dX12_isWrong_15 ?_
  refine ex_iconst (v := (nI 2)) (by decide) dX12_isWrong_16 ?_
  refine ex_invv (k := 0) (n := 0) (mc' := 0) (ms' := 0) (As := [_, _]) dX12_isWrong_17 cv_X12_124 (by decide) (Nat.le_of_ble_eq_true rfl) (Or.inl ⟨_, _, _, _, hM.1, rfl⟩) (t_nameAt hM (s := i) (k := 2) (by omega) (by omega)) (fun v h' q => ?_)
  obtain ⟨rfl, rfl⟩ := q
  refine ex_istore (by decide) rfl dX12_isWrong_20 ?_
  refine ex_aload_n rfl dX12_isWrong_22 ?_
  refine ex_get dX12_isWrong_23 gf_X12_17 hM.1 rfl ?_
  refine ex_iload_n rfl dX12_isWrong_26 ?_
  refine ex_ialdN dX12_isWrong_27 k2 (by omega) (by decide) ?_
  have hk9 := mS_kd hB i
  rcases (show kd (mS y i) = 0 ∨ kd (mS y i) = 1 ∨ kd (mS y i) = 2 ∨ kd (mS y i) = 3 ∨ kd (mS y i) = 4 ∨ kd (mS y i) = 5 ∨ kd (mS y i) = 6 ∨ kd (mS y i) = 7 ∨ kd (mS y i) = 8 by omega) with e | e | e | e | e | e | e | e | e
  · have e9 : mA y 2 i = 0 := e
    rw [e9, bP_eq (isWr0 e)]
    exact ex_tblI (tgt := 68) dX12_isWrong_28 (by decide) (by decide) (off := 40) (by decide) (by decide) (v_0 hM hB hH hi e)
  · have e9 : mA y 2 i = 1 := e
    rw [e9, bP_eq (isWr1 e)]
    exact ex_tblI (tgt := 103) dX12_isWrong_28 (by decide) (by decide) (off := 75) (by decide) (by decide) (v_1 hM hB hH hi e)
  · have e9 : mA y 2 i = 2 := e
    rw [e9, bP_eq (isWr2 (Or.inl e))]
    exact ex_tblI (tgt := 223) dX12_isWrong_28 (by decide) (by decide) (off := 195) (by decide) (by decide) (v_2 hM hB hH hi (Or.inl e))
  · have e9 : mA y 2 i = 3 := e
    rw [e9, bP_eq (isWr2 (Or.inr e))]
    exact ex_tblI (tgt := 223) dX12_isWrong_28 (by decide) (by decide) (off := 195) (by decide) (by decide) (v_2 hM hB hH hi (Or.inr e))
  · have e9 : mA y 2 i = 4 := e
    rw [e9, bP_eq (isWr4 e)]
    exact ex_tblI (tgt := 147) dX12_isWrong_28 (by decide) (by decide) (off := 119) (by decide) (by decide) (v_4 hM hB hH hi e)
  · have e9 : mA y 2 i = 5 := e
    rw [e9, bP_eq (isWr5 e)]
    exact ex_tblI (tgt := 199) dX12_isWrong_28 (by decide) (by decide) (off := 171) (by decide) (by decide) (v_5 hM hB hH hi e)
  · have e9 : mA y 2 i = 6 := e
    rw [e9, bP_eq (isWr6 (by omega))]
    exact ex_tblO (tgt := 279) dX12_isWrong_28 (by decide) (by decide) (v_6 hM hB hH hi (by omega))
  · have e9 : mA y 2 i = 7 := e
    rw [e9, bP_eq (isWr6 (by omega))]
    exact ex_tblO (tgt := 279) dX12_isWrong_28 (by decide) (by decide) (v_6 hM hB hH hi (by omega))
  · have e9 : mA y 2 i = 8 := e
    rw [e9, bP_eq (isWr6 (by omega))]
    exact ex_tblO (tgt := 279) dX12_isWrong_28 (by decide) (by decide) (v_6 hM hB hH hi (by omega))
set_option maxHeartbeats 4000000 in
set_option maxRecDepth 100000 in
theorem l_fw2 {G : EG} {l : Launch} {h : EH} {M : Nat} {y : MS} (hM : MD G h M y) (hB : mB y) (hH : mH y) {k : Nat} (hk : k ≤ ms y 6) (he : ∀ j, j < k → ¬ isWr mSelf (mS y) (ms y 6) j) (hw : k < ms y 6 → isWr mSelf (mS y) (ms y 6) k) : Ex G l 5 mX12_firstWrong (fun v h' => ∃ r, v = some (.int (oI r)) ∧ h' = h ∧ FW mSelf (mS y) (ms y 6) r) eNoX 0 0 24 [(0, .ref M), (1, .int (nI (k)))] [] h := by
  have hn := hB.1
  have hb1 := bef_le (mS y) 1 0 (ms y 6)
  have hb0 := bef_le (mS y) 0 0 (ms y 6)
  refine ex_aload_n rfl dX12_firstWrong_24 ?_
  refine ex_iconst (v := (nI 1)) (by decide) dX12_firstWrong_25 ?_
  refine ex_iconst (v := (nI 0)) (by decide) dX12_firstWrong_26 ?_
  refine ex_aload_n rfl dX12_firstWrong_27 ?_
  refine ex_get dX12_firstWrong_28 gf_X12_107 hM.1 rfl ?_
  refine ex_invv (k := 0) (n := 0) (mc' := 0) (ms' := 0) (As := [_, _, _]) dX12_firstWrong_31 cv_X12_128 (by decide) (Nat.le_of_ble_eq_true rfl) (Or.inl ⟨_, _, _, _, hM.1, rfl⟩) (t_before hM hB (κ := 1) (x := 0) (e := ms y 6) (by decide) (by decide) (by omega)) (fun v h' q => ?_)
  obtain ⟨rfl, rfl⟩ := q
  refine ex_ifN_le (tgt := 54) (by decide) dX12_firstWrong_34 (by omega) (fun c1 => ?_) (fun c1 => ?_)
  · refine ex_iconst (v := (nI 0)) (by decide) dX12_firstWrong_54 ?_
    refine ex_istore_n (by decide) rfl dX12_firstWrong_55 ?_
    refine ex_iload_n rfl dX12_firstWrong_56 ?_
    refine ex_aload_n rfl dX12_firstWrong_57 ?_
    refine ex_get dX12_firstWrong_58 gf_X12_107 hM.1 rfl ?_
    refine ex_icmpN_lt (tgt := 68) (by decide) dX12_firstWrong_61 (by omega) (by omega) (fun c2 => ?_) (fun c2 => ?_)
    · refine ex_iload_n rfl dX12_firstWrong_68 ?_
      refine ex_goto (tgt := 73) (by decide) dX12_firstWrong_69 ?_
      refine ex_iret dX12_firstWrong_73 rfl (by first | exact ⟨some k, rfl, rfl, ⟨fun i hi => (by cases hi; exact Or.inl ⟨by omega, hw (by omega), he⟩), fun z => (by cases z)⟩⟩ | exact ⟨some k, rfl, rfl, ⟨fun i hi => (by cases hi; exact Or.inr ⟨by omega, fun j hj => he j (by omega), by rw [← bef_0, ← bef_0]; omega⟩), fun z => (by cases z)⟩⟩ | exact ⟨none, rfl, rfl, ⟨fun i hi => (by cases hi), fun _ => ⟨fun j hj => he j (by omega), by rw [← bef_0]; omega, by rw [← bef_0]; omega⟩⟩⟩ | (exfalso; omega))
    · refine ex_iload_n rfl dX12_firstWrong_64 ?_
      refine ex_ifN_ne (tgt := 72) (by decide) dX12_firstWrong_65 (by omega) (fun c3 => ?_) (fun c3 => ?_)
      · refine ex_iconst (v := (-1)) (by decide) dX12_firstWrong_72 ?_
        refine ex_iret dX12_firstWrong_73 rfl (by first | exact ⟨some k, rfl, rfl, ⟨fun i hi => (by cases hi; exact Or.inl ⟨by omega, hw (by omega), he⟩), fun z => (by cases z)⟩⟩ | exact ⟨some k, rfl, rfl, ⟨fun i hi => (by cases hi; exact Or.inr ⟨by omega, fun j hj => he j (by omega), by rw [← bef_0, ← bef_0]; omega⟩), fun z => (by cases z)⟩⟩ | exact ⟨none, rfl, rfl, ⟨fun i hi => (by cases hi), fun _ => ⟨fun j hj => he j (by omega), by rw [← bef_0]; omega, by rw [← bef_0]; omega⟩⟩⟩ | (exfalso; omega))
      · refine ex_iload_n rfl dX12_firstWrong_68 ?_
        refine ex_goto (tgt := 73) (by decide) dX12_firstWrong_69 ?_
        refine ex_iret dX12_firstWrong_73 rfl (by first | exact ⟨some k, rfl, rfl, ⟨fun i hi => (by cases hi; exact Or.inl ⟨by omega, hw (by omega), he⟩), fun z => (by cases z)⟩⟩ | exact ⟨some k, rfl, rfl, ⟨fun i hi => (by cases hi; exact Or.inr ⟨by omega, fun j hj => he j (by omega), by rw [← bef_0, ← bef_0]; omega⟩), fun z => (by cases z)⟩⟩ | exact ⟨none, rfl, rfl, ⟨fun i hi => (by cases hi), fun _ => ⟨fun j hj => he j (by omega), by rw [← bef_0]; omega, by rw [← bef_0]; omega⟩⟩⟩ | (exfalso; omega))
  · refine ex_aload_n rfl dX12_firstWrong_37 ?_
    refine ex_iconst (v := (nI 0)) (by decide) dX12_firstWrong_38 ?_
    refine ex_iconst (v := (nI 0)) (by decide) dX12_firstWrong_39 ?_
    refine ex_aload_n rfl dX12_firstWrong_40 ?_
    refine ex_get dX12_firstWrong_41 gf_X12_107 hM.1 rfl ?_
    refine ex_invv (k := 0) (n := 0) (mc' := 0) (ms' := 0) (As := [_, _, _]) dX12_firstWrong_44 cv_X12_128 (by decide) (Nat.le_of_ble_eq_true rfl) (Or.inl ⟨_, _, _, _, hM.1, rfl⟩) (t_before hM hB (κ := 0) (x := 0) (e := ms y 6) (by decide) (by decide) (by omega)) (fun v h' q => ?_)
    obtain ⟨rfl, rfl⟩ := q
    refine ex_ifN_le (tgt := 54) (by decide) dX12_firstWrong_47 (by omega) (fun c4 => ?_) (fun c4 => ?_)
    · refine ex_iconst (v := (nI 0)) (by decide) dX12_firstWrong_54 ?_
      refine ex_istore_n (by decide) rfl dX12_firstWrong_55 ?_
      refine ex_iload_n rfl dX12_firstWrong_56 ?_
      refine ex_aload_n rfl dX12_firstWrong_57 ?_
      refine ex_get dX12_firstWrong_58 gf_X12_107 hM.1 rfl ?_
      refine ex_icmpN_lt (tgt := 68) (by decide) dX12_firstWrong_61 (by omega) (by omega) (fun c5 => ?_) (fun c5 => ?_)
      · refine ex_iload_n rfl dX12_firstWrong_68 ?_
        refine ex_goto (tgt := 73) (by decide) dX12_firstWrong_69 ?_
        refine ex_iret dX12_firstWrong_73 rfl (by first | exact ⟨some k, rfl, rfl, ⟨fun i hi => (by cases hi; exact Or.inl ⟨by omega, hw (by omega), he⟩), fun z => (by cases z)⟩⟩ | exact ⟨some k, rfl, rfl, ⟨fun i hi => (by cases hi; exact Or.inr ⟨by omega, fun j hj => he j (by omega), by rw [← bef_0, ← bef_0]; omega⟩), fun z => (by cases z)⟩⟩ | exact ⟨none, rfl, rfl, ⟨fun i hi => (by cases hi), fun _ => ⟨fun j hj => he j (by omega), by rw [← bef_0]; omega, by rw [← bef_0]; omega⟩⟩⟩ | (exfalso; omega))
      · refine ex_iload_n rfl dX12_firstWrong_64 ?_
        refine ex_ifN_ne (tgt := 72) (by decide) dX12_firstWrong_65 (by omega) (fun c6 => ?_) (fun c6 => ?_)
        · refine ex_iconst (v := (-1)) (by decide) dX12_firstWrong_72 ?_
          refine ex_iret dX12_firstWrong_73 rfl (by first | exact ⟨some k, rfl, rfl, ⟨fun i hi => (by cases hi; exact Or.inl ⟨by omega, hw (by omega), he⟩), fun z => (by cases z)⟩⟩ | exact ⟨some k, rfl, rfl, ⟨fun i hi => (by cases hi; exact Or.inr ⟨by omega, fun j hj => he j (by omega), by rw [← bef_0, ← bef_0]; omega⟩), fun z => (by cases z)⟩⟩ | exact ⟨none, rfl, rfl, ⟨fun i hi => (by cases hi), fun _ => ⟨fun j hj => he j (by omega), by rw [← bef_0]; omega, by rw [← bef_0]; omega⟩⟩⟩ | (exfalso; omega))
        · refine ex_iload_n rfl dX12_firstWrong_68 ?_
          refine ex_goto (tgt := 73) (by decide) dX12_firstWrong_69 ?_
          refine ex_iret dX12_firstWrong_73 rfl (by first | exact ⟨some k, rfl, rfl, ⟨fun i hi => (by cases hi; exact Or.inl ⟨by omega, hw (by omega), he⟩), fun z => (by cases z)⟩⟩ | exact ⟨some k, rfl, rfl, ⟨fun i hi => (by cases hi; exact Or.inr ⟨by omega, fun j hj => he j (by omega), by rw [← bef_0, ← bef_0]; omega⟩), fun z => (by cases z)⟩⟩ | exact ⟨none, rfl, rfl, ⟨fun i hi => (by cases hi), fun _ => ⟨fun j hj => he j (by omega), by rw [← bef_0]; omega, by rw [← bef_0]; omega⟩⟩⟩ | (exfalso; omega))
    · refine ex_iconst (v := (nI 1)) (by decide) dX12_firstWrong_50 ?_
      refine ex_goto (tgt := 55) (by decide) dX12_firstWrong_51 ?_
      refine ex_istore_n (by decide) rfl dX12_firstWrong_55 ?_
      refine ex_iload_n rfl dX12_firstWrong_56 ?_
      refine ex_aload_n rfl dX12_firstWrong_57 ?_
      refine ex_get dX12_firstWrong_58 gf_X12_107 hM.1 rfl ?_
      refine ex_icmpN_lt (tgt := 68) (by decide) dX12_firstWrong_61 (by omega) (by omega) (fun c7 => ?_) (fun c7 => ?_)
      · refine ex_iload_n rfl dX12_firstWrong_68 ?_
        refine ex_goto (tgt := 73) (by decide) dX12_firstWrong_69 ?_
        refine ex_iret dX12_firstWrong_73 rfl (by first | exact ⟨some k, rfl, rfl, ⟨fun i hi => (by cases hi; exact Or.inl ⟨by omega, hw (by omega), he⟩), fun z => (by cases z)⟩⟩ | exact ⟨some k, rfl, rfl, ⟨fun i hi => (by cases hi; exact Or.inr ⟨by omega, fun j hj => he j (by omega), by rw [← bef_0, ← bef_0]; omega⟩), fun z => (by cases z)⟩⟩ | exact ⟨none, rfl, rfl, ⟨fun i hi => (by cases hi), fun _ => ⟨fun j hj => he j (by omega), by rw [← bef_0]; omega, by rw [← bef_0]; omega⟩⟩⟩ | (exfalso; omega))
      · refine ex_iload_n rfl dX12_firstWrong_64 ?_
        refine ex_ifN_ne (tgt := 72) (by decide) dX12_firstWrong_65 (by omega) (fun c8 => ?_) (fun c8 => ?_)
        · refine ex_iconst (v := (-1)) (by decide) dX12_firstWrong_72 ?_
          refine ex_iret dX12_firstWrong_73 rfl (by first | exact ⟨some k, rfl, rfl, ⟨fun i hi => (by cases hi; exact Or.inl ⟨by omega, hw (by omega), he⟩), fun z => (by cases z)⟩⟩ | exact ⟨some k, rfl, rfl, ⟨fun i hi => (by cases hi; exact Or.inr ⟨by omega, fun j hj => he j (by omega), by rw [← bef_0, ← bef_0]; omega⟩), fun z => (by cases z)⟩⟩ | exact ⟨none, rfl, rfl, ⟨fun i hi => (by cases hi), fun _ => ⟨fun j hj => he j (by omega), by rw [← bef_0]; omega, by rw [← bef_0]; omega⟩⟩⟩ | (exfalso; omega))
        · refine ex_iload_n rfl dX12_firstWrong_68 ?_
          refine ex_goto (tgt := 73) (by decide) dX12_firstWrong_69 ?_
          refine ex_iret dX12_firstWrong_73 rfl (by first | exact ⟨some k, rfl, rfl, ⟨fun i hi => (by cases hi; exact Or.inl ⟨by omega, hw (by omega), he⟩), fun z => (by cases z)⟩⟩ | exact ⟨some k, rfl, rfl, ⟨fun i hi => (by cases hi; exact Or.inr ⟨by omega, fun j hj => he j (by omega), by rw [← bef_0, ← bef_0]; omega⟩), fun z => (by cases z)⟩⟩ | exact ⟨none, rfl, rfl, ⟨fun i hi => (by cases hi), fun _ => ⟨fun j hj => he j (by omega), by rw [← bef_0]; omega, by rw [← bef_0]; omega⟩⟩⟩ | (exfalso; omega))
set_option maxHeartbeats 4000000 in
set_option maxRecDepth 100000 in
theorem l_fw1 {G : EG} {l : Launch} {h : EH} {M : Nat} {y : MS} (hM : MD G h M y) (hB : mB y) (hH : mH y) : ∀ (f k : Nat), ms y 6 - k < f → k ≤ ms y 6 → (∀ j, j < k → ¬ isWr mSelf (mS y) (ms y 6) j) → Ex G l 5 mX12_firstWrong (fun v h' => ∃ r, v = some (.int (oI r)) ∧ h' = h ∧ FW mSelf (mS y) (ms y 6) r) eNoX 0 0 2 [(0, .ref M), (1, .int (nI (k)))] [] h := by
  intro f
  induction f with
  | zero =>
    intro k h1 h2 he
    omega
  | succ f ih =>
    intro k h1 h2 he
    have hn := hB.1
    refine ex_iload_n rfl dX12_firstWrong_2 ?_
    refine ex_aload_n rfl dX12_firstWrong_3 ?_
    refine ex_get dX12_firstWrong_4 gf_X12_107 hM.1 rfl ?_
    refine ex_icmpN_ge (tgt := 24) (by decide) dX12_firstWrong_7 (by omega) (by omega) (fun c1 => ?_) (fun c1 => ?_)
    · exact l_fw2 hM hB hH h2 he (fun z => by omega)
    · refine ex_aload_n rfl dX12_firstWrong_10 ?_
      refine ex_iload_n rfl dX12_firstWrong_11 ?_
      refine ex_invv (k := 0) (n := 0) (mc' := 0) (ms' := 0) (As := [_]) dX12_firstWrong_12 cv_X12_157 (by decide) (Nat.le_of_ble_eq_true rfl) (Or.inl ⟨_, _, _, _, hM.1, rfl⟩) (t_isWrong hM hB hH (i := k) c1) (fun v h' q => ?_)
      obtain ⟨rfl, rfl⟩ := q
      refine ex_ifB_ne (tgt := 24) (by decide) dX12_firstWrong_15 (fun c2 => ?_) (fun c2 => ?_)
      · exact l_fw2 hM hB hH h2 he (fun _ => bP_t c2)
      · refine ex_iincN (z := 1) rfl (by decide) rfl dX12_firstWrong_18 ?_
        refine ex_goto (tgt := 2) (by decide) dX12_firstWrong_21 ?_
        exact ih (k + 1) (by omega) (by omega) (fun j hj => by rcases Nat.lt_or_ge j k with q | q; exact he j q; rw [show j = k by omega]; exact bP_f c2)
set_option maxHeartbeats 4000000 in
set_option maxRecDepth 100000 in
theorem t_firstWrong {G : EG} {l : Launch} {h : EH} {M : Nat} {y : MS} (hM : MD G h M y) (hB : mB y) (hH : mH y) : ES G l 5 mX12_firstWrong [.ref M] h 0 0 (fun v h' => ∃ r, v = some (.int (oI r)) ∧ h' = h ∧ FW mSelf (mS y) (ms y 6) r) eNoX := by
  refine es_of (by decide) rfl (Nat.le_of_ble_eq_true rfl) ?_
  refine ex_iconst (v := (nI 0)) (by decide) dX12_firstWrong_0 ?_
  refine ex_istore_n (by decide) rfl dX12_firstWrong_1 ?_
  exact l_fw1 hM hB hH (ms y 6 + 1) 0 (by omega) (by omega) (fun j hj => by omega)
set_option maxHeartbeats 4000000 in
set_option maxRecDepth 100000 in
theorem l_typeS {G : EG} {l : Launch} {h : EH} {M : Nat} {y : MS} (hM : MD G h M y) (hB : mB y) {k : Nat} (hk : k < cntk (mS y) 1 (ms y 6)) : ∀ (f s : Nat), 40 - s < f → s ≤ 39 → cntk (mS y) 1 s ≤ k → Ex G l 0 mX12_typeStatement (fun v h' => ∃ i, v = some (.int (nI i)) ∧ h' = h ∧ i < ms y 6 ∧ kd (mS y i) = 1 ∧ cntk (mS y) 1 i = k) eNoX 0 0 4 [(0, .ref M), (1, .int (nI (k))), (2, .int (nI (k - cntk (mS y) 1 s))), (3, .int (nI (s)))] [] h := by
  intro f
  induction f with
  | zero =>
    intro s h1 h2 h3
    omega
  | succ f ih =>
    intro s h1 h2 h3
    have k2 : h.2 (M + 2) = some (.inl (eA G 0, 41, .inl (fun j => nI (mA y 2 j)))) := hM.2 2 (by decide) (by decide)
    have hn := hB.1
    have hkk : mA y 2 s < 9 := (hB.2.2 s).1
    have hcn := cntk_le (mS y) 1 (ms y 6)
    have hsn : s < ms y 6 := Classical.byContradiction fun q => by have := cntk_mono (mS y) 1 (i := ms y 6) (j := s) (by omega); omega
    refine ex_iload_n rfl dX12_typeStatement_4 ?_
    refine ex_bipush (v := (nI 39)) (by decide) dX12_typeStatement_5 ?_
    refine ex_icmpN_ge (tgt := 48) (by decide) dX12_typeStatement_7 (by omega) (by omega) (fun c1 => ?_) (fun c1 => ?_)
    · refine ex_iload_n rfl dX12_typeStatement_48 ?_
      refine ex_iret dX12_typeStatement_49 rfl ⟨s, rfl, rfl, hsn, Classical.byContradiction fun q => (by have h8 := cntk_n (i := s) q; rw [show s + 1 = ms y 6 by omega] at h8; omega), Nat.le_antisymm h3 (Classical.byContradiction fun q => by have h8 : cntk (mS y) 1 (s + 1) ≤ cntk (mS y) 1 s + 1 := (by show _ + _ ≤ _; split <;> omega); rw [show s + 1 = ms y 6 by omega] at h8; omega)⟩
    · refine ex_aload_n rfl dX12_typeStatement_10 ?_
      refine ex_get dX12_typeStatement_11 gf_X12_17 hM.1 rfl ?_
      refine ex_iload_n rfl dX12_typeStatement_14 ?_
      refine ex_ialdN dX12_typeStatement_15 k2 (by omega) (by decide) ?_
      refine ex_iconst (v := (nI 1)) (by decide) dX12_typeStatement_16 ?_
      refine ex_icmpN_ne (tgt := 24) (by decide) dX12_typeStatement_17 (by omega) (by omega) (fun c2 => ?_) (fun c2 => ?_)
      · refine ex_aload_n rfl dX12_typeStatement_24 ?_
        refine ex_get dX12_typeStatement_25 gf_X12_17 hM.1 rfl ?_
        refine ex_iload_n rfl dX12_typeStatement_28 ?_
        refine ex_ialdN dX12_typeStatement_29 k2 (by omega) (by decide) ?_
        refine ex_iconst (v := (nI 1)) (by decide) dX12_typeStatement_30 ?_
        refine ex_icmpN_ne (tgt := 40) (by decide) dX12_typeStatement_31 (by omega) (by omega) (fun c3 => ?_) (fun c3 => ?_)
        · refine ex_iload_n rfl dX12_typeStatement_40 ?_
          refine ex_istore_n (by decide) rfl dX12_typeStatement_41 ?_
          refine ex_iincN (z := 1) rfl (by decide) rfl dX12_typeStatement_42 ?_
          refine ex_goto (tgt := 4) (by decide) dX12_typeStatement_45 ?_
          exact ex_lv [(0, .ref M), (1, .int (nI (k))), (2, .int (nI (k - cntk (mS y) 1 (s + 1)))), (3, .int (nI (s + 1)))] ⟨rfl, rfl, by show some (Value.int (nI (k - cntk (mS y) 1 s))) = _; rw [cntk_n c2]; rfl, rfl, trivial⟩ (ih (s + 1) (by omega) (by omega) (by rw [cntk_n c2]; omega))
        · exact absurd c3 c2
      · refine ex_iload_n rfl dX12_typeStatement_20 ?_
        refine ex_ifN_le (tgt := 48) (by decide) dX12_typeStatement_21 (by omega) (fun c4 => ?_) (fun c4 => ?_)
        · refine ex_iload_n rfl dX12_typeStatement_48 ?_
          refine ex_iret dX12_typeStatement_49 rfl ⟨s, rfl, rfl, hsn, c2, by omega⟩
        · refine ex_aload_n rfl dX12_typeStatement_24 ?_
          refine ex_get dX12_typeStatement_25 gf_X12_17 hM.1 rfl ?_
          refine ex_iload_n rfl dX12_typeStatement_28 ?_
          refine ex_ialdN dX12_typeStatement_29 k2 (by omega) (by decide) ?_
          refine ex_iconst (v := (nI 1)) (by decide) dX12_typeStatement_30 ?_
          refine ex_icmpN_ne (tgt := 40) (by decide) dX12_typeStatement_31 (by omega) (by omega) (fun c5 => ?_) (fun c5 => ?_)
          · exact absurd c2 c5
          · refine ex_iload_n rfl dX12_typeStatement_34 ?_
            refine ex_iconst (v := (nI 1)) (by decide) dX12_typeStatement_35 ?_
            refine ex_isubN (by omega) dX12_typeStatement_36 ?_
            refine ex_goto (tgt := 41) (by decide) dX12_typeStatement_37 ?_
            refine ex_istore_n (by decide) rfl dX12_typeStatement_41 ?_
            refine ex_iincN (z := 1) rfl (by decide) rfl dX12_typeStatement_42 ?_
            refine ex_goto (tgt := 4) (by decide) dX12_typeStatement_45 ?_
            exact ex_lv [(0, .ref M), (1, .int (nI (k))), (2, .int (nI (k - cntk (mS y) 1 (s + 1)))), (3, .int (nI (s + 1)))] ⟨rfl, rfl, by show some (Value.int (nI (k - cntk (mS y) 1 s - 1))) = _; rw [cntk_y c2, Nat.sub_sub], rfl, trivial⟩ (ih (s + 1) (by omega) (by omega) (by rw [cntk_y c2]; omega))
set_option maxHeartbeats 4000000 in
set_option maxRecDepth 100000 in
theorem t_typeStatement {G : EG} {l : Launch} {h : EH} {M : Nat} {y : MS} (hM : MD G h M y) (hB : mB y) {k : Nat} (hk : k < cntk (mS y) 1 (ms y 6)) : ES G l 0 mX12_typeStatement [.ref M, .int (nI k)] h 0 0 (fun v h' => ∃ i, v = some (.int (nI i)) ∧ h' = h ∧ i < ms y 6 ∧ kd (mS y i) = 1 ∧ cntk (mS y) 1 i = k) eNoX := by
  refine es_of (by decide) rfl (Nat.le_of_ble_eq_true rfl) ?_
  refine ex_iload_n rfl dX12_typeStatement_0 ?_
  refine ex_istore_n (by decide) rfl dX12_typeStatement_1 ?_
  refine ex_iconst (v := (nI 0)) (by decide) dX12_typeStatement_2 ?_
  refine ex_istore_n (by decide) rfl dX12_typeStatement_3 ?_
  exact ex_lv [(0, .ref M), (1, .int (nI (k))), (2, .int (nI (k - cntk (mS y) 1 0))), (3, .int (nI (0)))] ⟨rfl, rfl, rfl, rfl, trivial⟩ (l_typeS hM hB hk 41 0 (by omega) (by omega) (Nat.zero_le _))
def sFk (y : MS) (s x k : Nat) : Prop := ∃ q, q < k ∧ q < sz (mS y s) ∧ wd (mS y s) q = x
def sF (y : MS) (s x : Nat) : Prop := ∃ q, q < sz (mS y s) ∧ wd (mS y s) q = x
set_option maxHeartbeats 4000000 in
set_option maxRecDepth 100000 in
theorem l_stands {G : EG} {l : Launch} {h : EH} {M : Nat} {y : MS} (hM : MD G h M y) (hB : mB y) {s x : Nat} (hs : s < 41) (hx : x < 2 ^ 30) : ∀ (f k : Nat), 10 - k < f → k ≤ 10 → Ex G l 1 mX12_standsFor (fun v h' => v = some (.int (b2i (bP (sF y s x)))) ∧ h' = h) eNoX 0 0 5 [(0, .ref M), (1, .int (nI (x))), (2, .int (nI (s))), (3, .int (b2i (bP (sFk y s x k)))), (4, .int (nI (k)))] [] h := by
  intro f
  induction f with
  | zero =>
    intro k h1 h2
    omega
  | succ f ih =>
    intro k h1 h2
    have k3 : h.2 (M + 3) = some (.inl (eA G 0, 41, .inl (fun j => nI (mA y 3 j)))) := hM.2 3 (by decide) (by decide)
    have hs3 : mA y 3 s ≤ 9 := (hB.2.2 s).2.1
    have hwk := mS_wd hB s k
    refine ex_iload rfl dX12_standsFor_5 ?_
    refine ex_aload_n rfl dX12_standsFor_7 ?_
    refine ex_get dX12_standsFor_8 gf_X12_21 hM.1 rfl ?_
    refine ex_iload_n rfl dX12_standsFor_11 ?_
    refine ex_ialdN dX12_standsFor_12 k3 (by omega) (by decide) ?_
    refine ex_icmpN_ge (tgt := 43) (by decide) dX12_standsFor_13 (by omega) (by omega) (fun c1 => ?_) (fun c1 => ?_)
    · refine ex_iload_n rfl dX12_standsFor_43 ?_
      refine ex_zret dX12_standsFor_44 rfl (b2i_nb _) ⟨bI_c ⟨fun ⟨q, _, q2⟩ => ⟨q, q2⟩, fun ⟨q, q2⟩ => ⟨q, Nat.lt_of_lt_of_le q2.1 c1, q2⟩⟩, rfl⟩
    · refine ex_iload_n rfl dX12_standsFor_16 ?_
      refine ex_ifB_ne (tgt := 31) (by decide) dX12_standsFor_17 (fun c2 => ?_) (fun c2 => ?_)
      · refine ex_iconst (v := (nI 1)) (by decide) dX12_standsFor_31 ?_
        refine ex_goto (tgt := 36) (by decide) dX12_standsFor_32 ?_
        refine ex_istore_n (by decide) rfl dX12_standsFor_36 ?_
        refine ex_iincN (z := 1) rfl (by decide) rfl dX12_standsFor_37 ?_
        refine ex_goto (tgt := 5) (by decide) dX12_standsFor_40 ?_
        exact ex_lv [(0, .ref M), (1, .int (nI (x))), (2, .int (nI (s))), (3, .int (b2i (bP (sFk y s x (k + 1))))), (4, .int (nI (k + 1)))] ⟨rfl, rfl, rfl, rT (by obtain ⟨q, q1, q2⟩ := bP_t c2; exact ⟨q, by omega, q2⟩), rfl, trivial⟩ (ih (k + 1) (by omega) (by omega))
      · refine ex_aload_n rfl dX12_standsFor_20 ?_
        refine ex_iload_n rfl dX12_standsFor_21 ?_
        refine ex_iload rfl dX12_standsFor_22 ?_
        refine ex_invv (k := 0) (n := 0) (mc' := 0) (ms' := 0) (As := [_, _]) dX12_standsFor_24 cv_X12_124 (by decide) (Nat.le_of_ble_eq_true rfl) (Or.inl ⟨_, _, _, _, hM.1, rfl⟩) (t_nameAt hM (s := s) (k := k) (by omega) (by omega)) (fun v h' q => ?_)
        obtain ⟨rfl, rfl⟩ := q
        refine ex_iload_n rfl dX12_standsFor_27 ?_
        refine ex_icmpN_ne (tgt := 35) (by decide) dX12_standsFor_28 (Nat.lt_trans hwk (by decide)) (by omega) (fun c3 => ?_) (fun c3 => ?_)
        · refine ex_iconst (v := (nI 0)) (by decide) dX12_standsFor_35 ?_
          refine ex_istore_n (by decide) rfl dX12_standsFor_36 ?_
          refine ex_iincN (z := 1) rfl (by decide) rfl dX12_standsFor_37 ?_
          refine ex_goto (tgt := 5) (by decide) dX12_standsFor_40 ?_
          exact ex_lv [(0, .ref M), (1, .int (nI (x))), (2, .int (nI (s))), (3, .int (b2i (bP (sFk y s x (k + 1))))), (4, .int (nI (k + 1)))] ⟨rfl, rfl, rfl, rF (by rintro ⟨q, q1, q2, q3⟩; rcases Nat.lt_or_ge q k with w | w; exact bP_f c2 ⟨q, w, q2, q3⟩; rw [show q = k by omega] at q3; exact c3 q3), rfl, trivial⟩ (ih (k + 1) (by omega) (by omega))
        · refine ex_iconst (v := (nI 1)) (by decide) dX12_standsFor_31 ?_
          refine ex_goto (tgt := 36) (by decide) dX12_standsFor_32 ?_
          refine ex_istore_n (by decide) rfl dX12_standsFor_36 ?_
          refine ex_iincN (z := 1) rfl (by decide) rfl dX12_standsFor_37 ?_
          refine ex_goto (tgt := 5) (by decide) dX12_standsFor_40 ?_
          exact ex_lv [(0, .ref M), (1, .int (nI (x))), (2, .int (nI (s))), (3, .int (b2i (bP (sFk y s x (k + 1))))), (4, .int (nI (k + 1)))] ⟨rfl, rfl, rfl, rT ⟨k, by omega, c1, c3⟩, rfl, trivial⟩ (ih (k + 1) (by omega) (by omega))
set_option maxHeartbeats 4000000 in
set_option maxRecDepth 100000 in
theorem t_standsFor {G : EG} {l : Launch} {h : EH} {M : Nat} {y : MS} (hM : MD G h M y) (hB : mB y) {s x : Nat} (hs : s < 41) (hx : x < 2 ^ 30) : ES G l 1 mX12_standsFor [.ref M, .int (nI x), .int (nI s)] h 0 0 (fun v h' => v = some (.int (b2i (bP (sF y s x)))) ∧ h' = h) eNoX := by
  refine es_of (by decide) rfl (Nat.le_of_ble_eq_true rfl) ?_
  refine ex_iconst (v := (nI 0)) (by decide) dX12_standsFor_0 ?_
  refine ex_istore_n (by decide) rfl dX12_standsFor_1 ?_
  refine ex_iconst (v := (nI 0)) (by decide) dX12_standsFor_2 ?_
  refine ex_istore (by decide) rfl dX12_standsFor_3 ?_
  exact ex_lv [(0, .ref M), (1, .int (nI (x))), (2, .int (nI (s))), (3, .int (b2i (bP (sFk y s x 0)))), (4, .int (nI (0)))] ⟨rfl, rfl, rfl, rF (fun ⟨q, q1, _⟩ => by omega), rfl, trivial⟩ (l_stands hM hB hs hx 11 0 (by omega) (by omega))
theorem sF_ty {y : MS} {i j x : Nat} (h1 : i < ms y 6) (h2 : kd (mS y i) = 1) (h3 : cntk (mS y) 1 i = j) : sF y i x ↔ tyN (mS y) (ms y 6) x j := by
  constructor
  · intro h; exact ⟨i, h1, h2, h3, h⟩
  · rintro ⟨k, k1, k2, k3, k4⟩
    rw [cntk_inj h2 k2 (h3.trans k3.symm)]; exact k4
set_option maxHeartbeats 4000000 in
set_option maxRecDepth 100000 in
theorem t_isAbout {G : EG} {l : Launch} {h : EH} {M : Nat} {y : MS} (hM : MD G h M y) (hB : mB y) {s a b : Nat} (hs : s < 41) (hsz : 2 ≤ sz (mS y s)) (h1 : a < cntk (mS y) 1 (ms y 6)) (h2 : b < cntk (mS y) 1 (ms y 6)) : ES G l 2 mX12_isAbout [.ref M, .int (nI s), .int (nI a), .int (nI b)] h 0 0 (fun v h' => v = some (.int (b2i (bP (abt mSelf (mS y) (ms y 6) s a b)))) ∧ h' = h) eNoX := by
  have hn := hB.1
  have hcn := cntk_le (mS y) 1 (ms y 6)
  have w0 := mS_wd hB s 0
  have w1 := mS_wd hB s 1
  have e0 := wo_wd (s := mS y s) (k := 0) (by omega)
  have e1 := wo_wd (s := mS y s) (k := 1) (by omega)
  refine es_of (by decide) rfl (Nat.le_of_ble_eq_true rfl) ?_
  refine ex_aload_n rfl dX12_isAbout_0 ?_
  refine ex_iload_n rfl dX12_isAbout_1 ?_
  refine ex_iconst (v := (nI 1)) (by decide) dX12_isAbout_2 ?_
  refine ex_invv (k := 0) (n := 0) (mc' := 0) (ms' := 0) (As := [_, _]) dX12_isAbout_3 cv_X12_124 (by decide) (Nat.le_of_ble_eq_true rfl) (Or.inl ⟨_, _, _, _, hM.1, rfl⟩) (t_nameAt hM (s := s) (k := 1) (by omega) (by omega)) (fun v h' q => ?_)
  obtain ⟨rfl, rfl⟩ := q
  refine ex_istore (by decide) rfl dX12_isAbout_6 ?_
  refine ex_aload_n rfl dX12_isAbout_8 ?_
  refine ex_aload_n rfl dX12_isAbout_9 ?_
  refine ex_iload_n rfl dX12_isAbout_10 ?_
  refine ex_iconst (v := (nI 0)) (by decide) dX12_isAbout_11 ?_
  refine ex_invv (k := 0) (n := 0) (mc' := 0) (ms' := 0) (As := [_, _]) dX12_isAbout_12 cv_X12_124 (by decide) (Nat.le_of_ble_eq_true rfl) (Or.inl ⟨_, _, _, _, hM.1, rfl⟩) (t_nameAt hM (s := s) (k := 0) (by omega) (by omega)) (fun v h' q => ?_)
  obtain ⟨rfl, rfl⟩ := q
  refine ex_aload_n rfl dX12_isAbout_15 ?_
  refine ex_iload_n rfl dX12_isAbout_16 ?_
  refine ex_invv (k := 0) (n := 0) (mc' := 0) (ms' := 0) (As := [_]) dX12_isAbout_17 cv_X12_160 (by decide) (Nat.le_of_ble_eq_true rfl) (Or.inl ⟨_, _, _, _, hM.1, rfl⟩) (t_typeStatement hM hB h1) (fun v h' q => ?_)
  obtain ⟨i1, rfl, rfl, a1, a2, a3⟩ := q
  refine ex_invv (k := 0) (n := 0) (mc' := 0) (ms' := 0) (As := [_, _]) dX12_isAbout_20 cv_X12_163 (by decide) (Nat.le_of_ble_eq_true rfl) (Or.inl ⟨_, _, _, _, hM.1, rfl⟩) (t_standsFor hM hB (s := i1) (by omega) w0) (fun v h' q => ?_)
  obtain ⟨rfl, rfl⟩ := q
  refine ex_ifB_eq (tgt := 60) (by decide) dX12_isAbout_23 (fun c1 => ?_) (fun c1 => ?_)
  · refine ex_iconst (v := (nI 0)) (by decide) dX12_isAbout_60 ?_
    refine ex_zret dX12_isAbout_61 rfl rfl ⟨rF (fun z => bP_f c1 ((sF_ty a1 a2 a3).mpr (by have := z.1; rw [e0] at this; exact this))), rfl⟩
  · refine ex_iload rfl dX12_isAbout_26 ?_
    refine ex_invs (k := 0) (n := 0) (mc' := 0) (ms' := 0) (As := [_]) dX12_isAbout_28 cs_X12_151 (by decide) (Nat.le_of_ble_eq_true rfl) (t_isSelf _ w1) (fun v h' q => ?_)
    obtain ⟨rfl, rfl⟩ := q
    refine ex_ifB_eq (tgt := 42) (by decide) dX12_isAbout_31 (fun c2 => ?_) (fun c2 => ?_)
    · refine ex_aload_n rfl dX12_isAbout_42 ?_
      refine ex_iload rfl dX12_isAbout_43 ?_
      refine ex_aload_n rfl dX12_isAbout_45 ?_
      refine ex_iload_n rfl dX12_isAbout_46 ?_
      refine ex_invv (k := 0) (n := 0) (mc' := 0) (ms' := 0) (As := [_]) dX12_isAbout_47 cv_X12_160 (by decide) (Nat.le_of_ble_eq_true rfl) (Or.inl ⟨_, _, _, _, hM.1, rfl⟩) (t_typeStatement hM hB h2) (fun v h' q => ?_)
      obtain ⟨i2, rfl, rfl, b1, b2, b3⟩ := q
      refine ex_invv (k := 0) (n := 0) (mc' := 0) (ms' := 0) (As := [_, _]) dX12_isAbout_50 cv_X12_163 (by decide) (Nat.le_of_ble_eq_true rfl) (Or.inl ⟨_, _, _, _, hM.1, rfl⟩) (t_standsFor hM hB (s := i2) (by omega) w1) (fun v h' q => ?_)
      obtain ⟨rfl, rfl⟩ := q
      refine ex_ifB_eq (tgt := 60) (by decide) dX12_isAbout_53 (fun c3 => ?_) (fun c3 => ?_)
      · refine ex_iconst (v := (nI 0)) (by decide) dX12_isAbout_60 ?_
        refine ex_zret dX12_isAbout_61 rfl rfl ⟨rF (fun z => z.2.elim (fun w => bP_f c2 (by have := w.1; rw [e1] at this; exact this)) (fun w => bP_f c3 ((sF_ty b1 b2 b3).mpr (by have := w.2; rw [e1] at this; exact this)))), rfl⟩
      · refine ex_iconst (v := (nI 1)) (by decide) dX12_isAbout_56 ?_
        refine ex_goto (tgt := 61) (by decide) dX12_isAbout_57 ?_
        refine ex_zret dX12_isAbout_61 rfl rfl ⟨rT ⟨by rw [e0]; exact (sF_ty a1 a2 a3).mp (bP_t c1), Or.inr ⟨by rw [e1]; exact bP_f c2, by rw [e1]; exact (sF_ty b1 b2 b3).mp (bP_t c3)⟩⟩, rfl⟩
    · refine ex_iload_n rfl dX12_isAbout_34 ?_
      refine ex_iload_n rfl dX12_isAbout_35 ?_
      refine ex_icmpN_ne (tgt := 60) (by decide) dX12_isAbout_36 (by omega) (by omega) (fun c4 => ?_) (fun c4 => ?_)
      · refine ex_iconst (v := (nI 0)) (by decide) dX12_isAbout_60 ?_
        refine ex_zret dX12_isAbout_61 rfl rfl ⟨rF (fun z => z.2.elim (fun w => c4 w.2.symm) (fun w => w.1 (by rw [e1]; exact bP_t c2))), rfl⟩
      · refine ex_goto (tgt := 56) (by decide) dX12_isAbout_39 ?_
        refine ex_iconst (v := (nI 1)) (by decide) dX12_isAbout_56 ?_
        refine ex_goto (tgt := 61) (by decide) dX12_isAbout_57 ?_
        refine ex_zret dX12_isAbout_61 rfl rfl ⟨rT ⟨by rw [e0]; exact (sF_ty a1 a2 a3).mp (bP_t c1), Or.inl ⟨by rw [e1]; exact bP_t c2, c4.symm⟩⟩, rfl⟩
