/-! THE MODEL: what is wrong in a draft -/
def wordI (a b c d e : Int32) : Int32 := ((((a - nI 96) ||| ((b - nI 96) <<< (nI 5 &&& 31))) ||| ((c - nI 96) <<< (nI 10 &&& 31))) ||| ((d - nI 96) <<< (nI 15 &&& 31))) ||| ((if e = 0 then nI 0 else e - nI 96) <<< (nI 20 &&& 31))
def kwV (k : Nat) : Nat := [20546947, 181044, 24621441, 19060910, 175149, 374834, 136366, 627891, 643760].getD k 0
def mSelf : Nat := 209075
set_option maxHeartbeats 4000000 in
set_option maxRecDepth 100000 in
theorem t_word {G : EG} {l : Launch} (h : EH) (a b c d e : Int32) : ES G l 0 mX12_word [.int a, .int b, .int c, .int d, .int e] h 0 0 (fun v h' => v = some (.int (wordI a b c d e)) ∧ h' = h) eNoX := by
  refine es_of (by decide) rfl (Nat.le_of_ble_eq_true rfl) ?_
  refine ex_iload rfl dX12_word_0 ?_
  refine ex_if_ne (tgt := 9) (by decide) dX12_word_2 (fun c1 => ?_) (fun c1 => ?_)
  · refine ex_iload rfl dX12_word_9 ?_
    refine ex_bipush (v := (nI 96)) (by decide) dX12_word_11 ?_
    refine ex_isub dX12_word_13 ?_
    refine ex_istore (by decide) rfl dX12_word_14 ?_
    refine ex_iload_n rfl dX12_word_16 ?_
    refine ex_bipush (v := (nI 96)) (by decide) dX12_word_17 ?_
    refine ex_isub dX12_word_19 ?_
    refine ex_iload_n rfl dX12_word_20 ?_
    refine ex_bipush (v := (nI 96)) (by decide) dX12_word_21 ?_
    refine ex_isub dX12_word_23 ?_
    refine ex_iconst (v := (nI 5)) (by decide) dX12_word_24 ?_
    refine ex_ishl dX12_word_25 ?_
    refine ex_ior dX12_word_26 ?_
    refine ex_iload_n rfl dX12_word_27 ?_
    refine ex_bipush (v := (nI 96)) (by decide) dX12_word_28 ?_
    refine ex_isub dX12_word_30 ?_
    refine ex_bipush (v := (nI 10)) (by decide) dX12_word_31 ?_
    refine ex_ishl dX12_word_33 ?_
    refine ex_ior dX12_word_34 ?_
    refine ex_iload_n rfl dX12_word_35 ?_
    refine ex_bipush (v := (nI 96)) (by decide) dX12_word_36 ?_
    refine ex_isub dX12_word_38 ?_
    refine ex_bipush (v := (nI 15)) (by decide) dX12_word_39 ?_
    refine ex_ishl dX12_word_41 ?_
    refine ex_ior dX12_word_42 ?_
    refine ex_iload rfl dX12_word_43 ?_
    refine ex_bipush (v := (nI 20)) (by decide) dX12_word_45 ?_
    refine ex_ishl dX12_word_47 ?_
    refine ex_ior dX12_word_48 ?_
    refine ex_iret dX12_word_49 rfl ⟨by unfold wordI; rw [if_neg c1], rfl⟩
  · refine ex_iconst (v := (nI 0)) (by decide) dX12_word_5 ?_
    refine ex_goto (tgt := 14) (by decide) dX12_word_6 ?_
    refine ex_istore (by decide) rfl dX12_word_14 ?_
    refine ex_iload_n rfl dX12_word_16 ?_
    refine ex_bipush (v := (nI 96)) (by decide) dX12_word_17 ?_
    refine ex_isub dX12_word_19 ?_
    refine ex_iload_n rfl dX12_word_20 ?_
    refine ex_bipush (v := (nI 96)) (by decide) dX12_word_21 ?_
    refine ex_isub dX12_word_23 ?_
    refine ex_iconst (v := (nI 5)) (by decide) dX12_word_24 ?_
    refine ex_ishl dX12_word_25 ?_
    refine ex_ior dX12_word_26 ?_
    refine ex_iload_n rfl dX12_word_27 ?_
    refine ex_bipush (v := (nI 96)) (by decide) dX12_word_28 ?_
    refine ex_isub dX12_word_30 ?_
    refine ex_bipush (v := (nI 10)) (by decide) dX12_word_31 ?_
    refine ex_ishl dX12_word_33 ?_
    refine ex_ior dX12_word_34 ?_
    refine ex_iload_n rfl dX12_word_35 ?_
    refine ex_bipush (v := (nI 96)) (by decide) dX12_word_36 ?_
    refine ex_isub dX12_word_38 ?_
    refine ex_bipush (v := (nI 15)) (by decide) dX12_word_39 ?_
    refine ex_ishl dX12_word_41 ?_
    refine ex_ior dX12_word_42 ?_
    refine ex_iload rfl dX12_word_43 ?_
    refine ex_bipush (v := (nI 20)) (by decide) dX12_word_45 ?_
    refine ex_ishl dX12_word_47 ?_
    refine ex_ior dX12_word_48 ?_
    refine ex_iret dX12_word_49 rfl ⟨by unfold wordI; rw [if_pos c1], rfl⟩
set_option maxHeartbeats 4000000 in
set_option maxRecDepth 100000 in
theorem t_keyword {G : EG} {l : Launch} (h : EH) {k : Nat} (hk : k < 9) : ES G l 1 mX12_keyword [.int (nI k)] h 0 0 (fun v h' => v = some (.int (nI (kwV k))) ∧ h' = h) eNoX := by
  refine es_of (by decide) rfl (Nat.le_of_ble_eq_true rfl) ?_
  refine ex_iload_n rfl dX12_keyword_0 ?_
  rcases (show k = 0 ∨ k = 1 ∨ k = 2 ∨ k = 3 ∨ k = 4 ∨ k = 5 ∨ k = 6 ∨ k = 7 ∨ k = 8 by omega) with e | e | e | e | e | e | e | e | e
  · subst e
    refine ex_tblI (tgt := 48) dX12_keyword_1 (by decide) (by decide) (off := 47) (by decide) (by decide) ?_
    refine ex_bipush (v := (nI 99)) (by decide) dX12_keyword_48 ?_
    refine ex_bipush (v := (nI 108)) (by decide) dX12_keyword_50 ?_
    refine ex_bipush (v := (nI 97)) (by decide) dX12_keyword_52 ?_
    refine ex_bipush (v := (nI 115)) (by decide) dX12_keyword_54 ?_
    refine ex_bipush (v := (nI 115)) (by decide) dX12_keyword_56 ?_
    refine ex_invs (k := 0) (n := 0) (mc' := 0) (ms' := 0) (As := [_, _, _, _, _]) dX12_keyword_58 cs_X12_91 (by decide) (Nat.le_of_ble_eq_true rfl) (t_word _ (nI 99) (nI 108) (nI 97) (nI 115) (nI 115)) (fun v h' q => ?_)
    obtain ⟨rfl, rfl⟩ := q
    refine ex_iret dX12_keyword_61 rfl ⟨congrArg (fun z => some (Value.int z)) (by decide), rfl⟩
  · subst e
    refine ex_tblI (tgt := 62) dX12_keyword_1 (by decide) (by decide) (off := 61) (by decide) (by decide) ?_
    refine ex_bipush (v := (nI 116)) (by decide) dX12_keyword_62 ?_
    refine ex_bipush (v := (nI 121)) (by decide) dX12_keyword_64 ?_
    refine ex_bipush (v := (nI 112)) (by decide) dX12_keyword_66 ?_
    refine ex_bipush (v := (nI 101)) (by decide) dX12_keyword_68 ?_
    refine ex_iconst (v := (nI 0)) (by decide) dX12_keyword_70 ?_
    refine ex_invs (k := 0) (n := 0) (mc' := 0) (ms' := 0) (As := [_, _, _, _, _]) dX12_keyword_71 cs_X12_91 (by decide) (Nat.le_of_ble_eq_true rfl) (t_word _ (nI 116) (nI 121) (nI 112) (nI 101) (nI 0)) (fun v h' q => ?_)
    obtain ⟨rfl, rfl⟩ := q
    refine ex_iret dX12_keyword_74 rfl ⟨congrArg (fun z => some (Value.int z)) (by decide), rfl⟩
  · subst e
    refine ex_tblI (tgt := 75) dX12_keyword_1 (by decide) (by decide) (off := 74) (by decide) (by decide) ?_
    refine ex_bipush (v := (nI 97)) (by decide) dX12_keyword_75 ?_
    refine ex_bipush (v := (nI 108)) (by decide) dX12_keyword_77 ?_
    refine ex_bipush (v := (nI 108)) (by decide) dX12_keyword_79 ?_
    refine ex_bipush (v := (nI 111)) (by decide) dX12_keyword_81 ?_
    refine ex_bipush (v := (nI 119)) (by decide) dX12_keyword_83 ?_
    refine ex_invs (k := 0) (n := 0) (mc' := 0) (ms' := 0) (As := [_, _, _, _, _]) dX12_keyword_85 cs_X12_91 (by decide) (Nat.le_of_ble_eq_true rfl) (t_word _ (nI 97) (nI 108) (nI 108) (nI 111) (nI 119)) (fun v h' q => ?_)
    obtain ⟨rfl, rfl⟩ := q
    refine ex_iret dX12_keyword_88 rfl ⟨congrArg (fun z => some (Value.int z)) (by decide), rfl⟩
  · subst e
    refine ex_tblI (tgt := 89) dX12_keyword_1 (by decide) (by decide) (off := 88) (by decide) (by decide) ?_
    refine ex_bipush (v := (nI 110)) (by decide) dX12_keyword_89 ?_
    refine ex_bipush (v := (nI 101)) (by decide) dX12_keyword_91 ?_
    refine ex_bipush (v := (nI 118)) (by decide) dX12_keyword_93 ?_
    refine ex_bipush (v := (nI 101)) (by decide) dX12_keyword_95 ?_
    refine ex_bipush (v := (nI 114)) (by decide) dX12_keyword_97 ?_
    refine ex_invs (k := 0) (n := 0) (mc' := 0) (ms' := 0) (As := [_, _, _, _, _]) dX12_keyword_99 cs_X12_91 (by decide) (Nat.le_of_ble_eq_true rfl) (t_word _ (nI 110) (nI 101) (nI 118) (nI 101) (nI 114)) (fun v h' q => ?_)
    obtain ⟨rfl, rfl⟩ := q
    refine ex_iret dX12_keyword_102 rfl ⟨congrArg (fun z => some (Value.int z)) (by decide), rfl⟩
  · subst e
    refine ex_tblI (tgt := 103) dX12_keyword_1 (by decide) (by decide) (off := 102) (by decide) (by decide) ?_
    refine ex_bipush (v := (nI 109)) (by decide) dX12_keyword_103 ?_
    refine ex_bipush (v := (nI 97)) (by decide) dX12_keyword_105 ?_
    refine ex_bipush (v := (nI 107)) (by decide) dX12_keyword_107 ?_
    refine ex_bipush (v := (nI 101)) (by decide) dX12_keyword_109 ?_
    refine ex_iconst (v := (nI 0)) (by decide) dX12_keyword_111 ?_
    refine ex_invs (k := 0) (n := 0) (mc' := 0) (ms' := 0) (As := [_, _, _, _, _]) dX12_keyword_112 cs_X12_91 (by decide) (Nat.le_of_ble_eq_true rfl) (t_word _ (nI 109) (nI 97) (nI 107) (nI 101) (nI 0)) (fun v h' q => ?_)
    obtain ⟨rfl, rfl⟩ := q
    refine ex_iret dX12_keyword_115 rfl ⟨congrArg (fun z => some (Value.int z)) (by decide), rfl⟩
  · subst e
    refine ex_tblI (tgt := 116) dX12_keyword_1 (by decide) (by decide) (off := 115) (by decide) (by decide) ?_
    refine ex_bipush (v := (nI 114)) (by decide) dX12_keyword_116 ?_
    refine ex_bipush (v := (nI 97)) (by decide) dX12_keyword_118 ?_
    refine ex_bipush (v := (nI 110)) (by decide) dX12_keyword_120 ?_
    refine ex_bipush (v := (nI 107)) (by decide) dX12_keyword_122 ?_
    refine ex_iconst (v := (nI 0)) (by decide) dX12_keyword_124 ?_
    refine ex_invs (k := 0) (n := 0) (mc' := 0) (ms' := 0) (As := [_, _, _, _, _]) dX12_keyword_125 cs_X12_91 (by decide) (Nat.le_of_ble_eq_true rfl) (t_word _ (nI 114) (nI 97) (nI 110) (nI 107) (nI 0)) (fun v h' q => ?_)
    obtain ⟨rfl, rfl⟩ := q
    refine ex_iret dX12_keyword_128 rfl ⟨congrArg (fun z => some (Value.int z)) (by decide), rfl⟩
  · subst e
    refine ex_tblI (tgt := 129) dX12_keyword_1 (by decide) (by decide) (off := 128) (by decide) (by decide) ?_
    refine ex_bipush (v := (nI 110)) (by decide) dX12_keyword_129 ?_
    refine ex_bipush (v := (nI 101)) (by decide) dX12_keyword_131 ?_
    refine ex_bipush (v := (nI 101)) (by decide) dX12_keyword_133 ?_
    refine ex_bipush (v := (nI 100)) (by decide) dX12_keyword_135 ?_
    refine ex_iconst (v := (nI 0)) (by decide) dX12_keyword_137 ?_
    refine ex_invs (k := 0) (n := 0) (mc' := 0) (ms' := 0) (As := [_, _, _, _, _]) dX12_keyword_138 cs_X12_91 (by decide) (Nat.le_of_ble_eq_true rfl) (t_word _ (nI 110) (nI 101) (nI 101) (nI 100) (nI 0)) (fun v h' q => ?_)
    obtain ⟨rfl, rfl⟩ := q
    refine ex_iret dX12_keyword_141 rfl ⟨congrArg (fun z => some (Value.int z)) (by decide), rfl⟩
  · subst e
    refine ex_tblI (tgt := 142) dX12_keyword_1 (by decide) (by decide) (off := 141) (by decide) (by decide) ?_
    refine ex_bipush (v := (nI 115)) (by decide) dX12_keyword_142 ?_
    refine ex_bipush (v := (nI 101)) (by decide) dX12_keyword_144 ?_
    refine ex_bipush (v := (nI 101)) (by decide) dX12_keyword_146 ?_
    refine ex_bipush (v := (nI 115)) (by decide) dX12_keyword_148 ?_
    refine ex_iconst (v := (nI 0)) (by decide) dX12_keyword_150 ?_
    refine ex_invs (k := 0) (n := 0) (mc' := 0) (ms' := 0) (As := [_, _, _, _, _]) dX12_keyword_151 cs_X12_91 (by decide) (Nat.le_of_ble_eq_true rfl) (t_word _ (nI 115) (nI 101) (nI 101) (nI 115) (nI 0)) (fun v h' q => ?_)
    obtain ⟨rfl, rfl⟩ := q
    refine ex_iret dX12_keyword_154 rfl ⟨congrArg (fun z => some (Value.int z)) (by decide), rfl⟩
  · subst e
    refine ex_tblO (tgt := 155) dX12_keyword_1 (by decide) (by decide) ?_
    refine ex_bipush (v := (nI 112)) (by decide) dX12_keyword_155 ?_
    refine ex_bipush (v := (nI 117)) (by decide) dX12_keyword_157 ?_
    refine ex_bipush (v := (nI 116)) (by decide) dX12_keyword_159 ?_
    refine ex_bipush (v := (nI 115)) (by decide) dX12_keyword_161 ?_
    refine ex_iconst (v := (nI 0)) (by decide) dX12_keyword_163 ?_
    refine ex_invs (k := 0) (n := 0) (mc' := 0) (ms' := 0) (As := [_, _, _, _, _]) dX12_keyword_164 cs_X12_91 (by decide) (Nat.le_of_ble_eq_true rfl) (t_word _ (nI 112) (nI 117) (nI 116) (nI 115) (nI 0)) (fun v h' q => ?_)
    obtain ⟨rfl, rfl⟩ := q
    refine ex_iret dX12_keyword_167 rfl ⟨congrArg (fun z => some (Value.int z)) (by decide), rfl⟩
set_option maxHeartbeats 4000000 in
set_option maxRecDepth 100000 in
theorem t_isSelf {G : EG} {l : Launch} (h : EH) {x : Nat} (hx : x < 2 ^ 30) : ES G l 1 mX12_isSelf [.int (nI x)] h 0 0 (fun v h' => v = some (.int (b2i (bP (x = mSelf)))) ∧ h' = h) eNoX := by
  refine es_of (by decide) rfl (Nat.le_of_ble_eq_true rfl) ?_
  refine ex_iload_n rfl dX12_isSelf_0 ?_
  refine ex_bipush (v := (nI 115)) (by decide) dX12_isSelf_1 ?_
  refine ex_bipush (v := (nI 101)) (by decide) dX12_isSelf_3 ?_
  refine ex_bipush (v := (nI 108)) (by decide) dX12_isSelf_5 ?_
  refine ex_bipush (v := (nI 102)) (by decide) dX12_isSelf_7 ?_
  refine ex_iconst (v := (nI 0)) (by decide) dX12_isSelf_9 ?_
  refine ex_invs (k := 0) (n := 0) (mc' := 0) (ms' := 0) (As := [_, _, _, _, _]) dX12_isSelf_10 cs_X12_91 (by decide) (Nat.le_of_ble_eq_true rfl) (t_word _ (nI 115) (nI 101) (nI 108) (nI 102) (nI 0)) (fun v h' q => ?_)
  obtain ⟨rfl, rfl⟩ := q
  rw [show wordI (nI 115) (nI 101) (nI 108) (nI 102) (nI 0) = nI mSelf by decide]
  refine ex_icmpN_ne (tgt := 20) (by decide) dX12_isSelf_13 (by omega) (by decide) (fun c1 => ?_) (fun c1 => ?_)
  · refine ex_iconst (v := (nI 0)) (by decide) dX12_isSelf_20 ?_
    refine ex_zret dX12_isSelf_21 rfl rfl ⟨rF c1, rfl⟩
  · refine ex_iconst (v := (nI 1)) (by decide) dX12_isSelf_16 ?_
    refine ex_goto (tgt := 21) (by decide) dX12_isSelf_17 ?_
    refine ex_zret dX12_isSelf_21 rfl rfl ⟨rT c1, rfl⟩
def pAt (y : MS) (x i j : Nat) : Prop := i < ms y 6 ∧ kd (mS y i) = 1 ∧ 1 ≤ j ∧ j < sz (mS y i) ∧ wd (mS y i) j = x
set_option maxHeartbeats 4000000 in
set_option maxRecDepth 100000 in
theorem l_isAtt2 {G : EG} {l : Launch} {h : EH} {M : Nat} {y : MS} (hM : MD G h M y) (hB : mB y) {x s : Nat} (hx : x < 2 ^ 30) (hs : s < ms y 6) (ho : Ex G l 1 mX12_isAttribute (fun v h' => v = some (.int (b2i (bP (isAt (mS y) (ms y 6) x)))) ∧ h' = h) eNoX 0 0 4 [(0, .ref M), (1, .int (nI (x))), (2, .int (b2i (bP (ex2 (pAt y x) (s + 1) 0)))), (3, .int (nI (s + 1)))] [] h) : ∀ (f k : Nat), 10 - k < f → 1 ≤ k → k ≤ 10 → Ex G l 1 mX12_isAttribute (fun v h' => v = some (.int (b2i (bP (isAt (mS y) (ms y 6) x)))) ∧ h' = h) eNoX 0 0 15 [(0, .ref M), (1, .int (nI (x))), (2, .int (b2i (bP (ex2 (pAt y x) s k)))), (3, .int (nI (s))), (4, .int (nI (k)))] [] h := by
  intro f
  induction f with
  | zero =>
    intro k h1 h2 h3
    omega
  | succ f ih =>
    intro k h1 h2 h3
    have k2 : h.2 (M + 2) = some (.inl (eA G 0, 41, .inl (fun j => nI (mA y 2 j)))) := hM.2 2 (by decide) (by decide)
    have k3 : h.2 (M + 3) = some (.inl (eA G 0, 41, .inl (fun j => nI (mA y 3 j)))) := hM.2 3 (by decide) (by decide)
    have hn := hB.1
    have hkk := mS_kd hB s
    have hss := mS_sz hB s
    have hs3 : mA y 3 s ≤ 9 := (hB.2.2 s).2.1
    have hwk := mS_wd hB s k
    refine ex_iload rfl dX12_isAttribute_15 ?_
    refine ex_aload_n rfl dX12_isAttribute_17 ?_
    refine ex_get dX12_isAttribute_18 gf_X12_21 hM.1 rfl ?_
    refine ex_iload_n rfl dX12_isAttribute_21 ?_
    refine ex_ialdN dX12_isAttribute_22 k3 (by omega) (by decide) ?_
    refine ex_icmpN_ge (tgt := 63) (by decide) dX12_isAttribute_23 (by omega) (show sz (mS y s) < 2 ^ 31 by omega) (fun c1 => ?_) (fun c1 => ?_)
    · refine ex_iincN (z := 1) rfl (by decide) rfl dX12_isAttribute_63 ?_
      refine ex_goto (tgt := 4) (by decide) dX12_isAttribute_66 ?_
      exact ex_lv [(0, .ref M), (1, .int (nI (x))), (2, .int (b2i (bP (ex2 (pAt y x) (s + 1) 0)))), (3, .int (nI (s + 1)))] ⟨rfl, rfl, bI_c (ex2_n (fun j hj z => by have := z.2.2.2.1; have : sz (mS y s) ≤ k := c1; omega)), rfl, trivial⟩ ho
    · refine ex_iload_n rfl dX12_isAttribute_26 ?_
      refine ex_ifB_ne (tgt := 51) (by decide) dX12_isAttribute_27 (fun c2 => ?_) (fun c2 => ?_)
      · refine ex_iconst (v := (nI 1)) (by decide) dX12_isAttribute_51 ?_
        refine ex_goto (tgt := 56) (by decide) dX12_isAttribute_52 ?_
        refine ex_istore_n (by decide) rfl dX12_isAttribute_56 ?_
        refine ex_iincN (z := 1) rfl (by decide) rfl dX12_isAttribute_57 ?_
        refine ex_goto (tgt := 15) (by decide) dX12_isAttribute_60 ?_
        exact ex_lv [(0, .ref M), (1, .int (nI (x))), (2, .int (b2i (bP (ex2 (pAt y x) s (k + 1))))), (3, .int (nI (s))), (4, .int (nI (k + 1)))] ⟨rfl, rfl, rT (ex2_s.mpr (Or.inl (bP_t c2))), rfl, rfl, trivial⟩ (ih (k + 1) (by omega) (by omega) (by have : k < sz (mS y s) := c1; omega))
      · refine ex_aload_n rfl dX12_isAttribute_30 ?_
        refine ex_get dX12_isAttribute_31 gf_X12_17 hM.1 rfl ?_
        refine ex_iload_n rfl dX12_isAttribute_34 ?_
        refine ex_ialdN dX12_isAttribute_35 k2 (by omega) (by decide) ?_
        refine ex_iconst (v := (nI 1)) (by decide) dX12_isAttribute_36 ?_
        refine ex_icmpN_ne (tgt := 55) (by decide) dX12_isAttribute_37 (show kd (mS y s) < 2 ^ 31 by omega) (by omega) (fun c3 => ?_) (fun c3 => ?_)
        · refine ex_iconst (v := (nI 0)) (by decide) dX12_isAttribute_55 ?_
          refine ex_istore_n (by decide) rfl dX12_isAttribute_56 ?_
          refine ex_iincN (z := 1) rfl (by decide) rfl dX12_isAttribute_57 ?_
          refine ex_goto (tgt := 15) (by decide) dX12_isAttribute_60 ?_
          exact ex_lv [(0, .ref M), (1, .int (nI (x))), (2, .int (b2i (bP (ex2 (pAt y x) s (k + 1))))), (3, .int (nI (s))), (4, .int (nI (k + 1)))] ⟨rfl, rfl, rF (fun z => (ex2_s.mp z).elim (bP_f c2) (fun z => c3 z.2.1)), rfl, rfl, trivial⟩ (ih (k + 1) (by omega) (by omega) (by have : k < sz (mS y s) := c1; omega))
        · refine ex_aload_n rfl dX12_isAttribute_40 ?_
          refine ex_iload_n rfl dX12_isAttribute_41 ?_
          refine ex_iload rfl dX12_isAttribute_42 ?_
          refine ex_invv (k := 0) (n := 0) (mc' := 0) (ms' := 0) (As := [_, _]) dX12_isAttribute_44 cv_X12_124 (by decide) (Nat.le_of_ble_eq_true rfl) (Or.inl ⟨_, _, _, _, hM.1, rfl⟩) (t_nameAt hM (s := s) (k := k) (by omega) (by have : k < sz (mS y s) := c1; omega)) (fun v h' q => ?_)
          obtain ⟨rfl, rfl⟩ := q
          refine ex_iload_n rfl dX12_isAttribute_47 ?_
          refine ex_icmpN_ne (tgt := 55) (by decide) dX12_isAttribute_48 (Nat.lt_trans hwk (by decide)) (by omega) (fun c4 => ?_) (fun c4 => ?_)
          · refine ex_iconst (v := (nI 0)) (by decide) dX12_isAttribute_55 ?_
            refine ex_istore_n (by decide) rfl dX12_isAttribute_56 ?_
            refine ex_iincN (z := 1) rfl (by decide) rfl dX12_isAttribute_57 ?_
            refine ex_goto (tgt := 15) (by decide) dX12_isAttribute_60 ?_
            exact ex_lv [(0, .ref M), (1, .int (nI (x))), (2, .int (b2i (bP (ex2 (pAt y x) s (k + 1))))), (3, .int (nI (s))), (4, .int (nI (k + 1)))] ⟨rfl, rfl, rF (fun z => (ex2_s.mp z).elim (bP_f c2) (fun z => c4 z.2.2.2.2)), rfl, rfl, trivial⟩ (ih (k + 1) (by omega) (by omega) (by have : k < sz (mS y s) := c1; omega))
          · refine ex_iconst (v := (nI 1)) (by decide) dX12_isAttribute_51 ?_
            refine ex_goto (tgt := 56) (by decide) dX12_isAttribute_52 ?_
            refine ex_istore_n (by decide) rfl dX12_isAttribute_56 ?_
            refine ex_iincN (z := 1) rfl (by decide) rfl dX12_isAttribute_57 ?_
            refine ex_goto (tgt := 15) (by decide) dX12_isAttribute_60 ?_
            exact ex_lv [(0, .ref M), (1, .int (nI (x))), (2, .int (b2i (bP (ex2 (pAt y x) s (k + 1))))), (3, .int (nI (s))), (4, .int (nI (k + 1)))] ⟨rfl, rfl, rT (ex2_s.mpr (Or.inr ⟨hs, c3, h2, c1, c4⟩)), rfl, rfl, trivial⟩ (ih (k + 1) (by omega) (by omega) (by have : k < sz (mS y s) := c1; omega))
set_option maxHeartbeats 4000000 in
set_option maxRecDepth 100000 in
theorem l_isAtt1 {G : EG} {l : Launch} {h : EH} {M : Nat} {y : MS} (hM : MD G h M y) (hB : mB y) {x : Nat} (hx : x < 2 ^ 30) : ∀ (f k : Nat), ms y 6 - k < f → k ≤ ms y 6 → Ex G l 1 mX12_isAttribute (fun v h' => v = some (.int (b2i (bP (isAt (mS y) (ms y 6) x)))) ∧ h' = h) eNoX 0 0 4 [(0, .ref M), (1, .int (nI (x))), (2, .int (b2i (bP (ex2 (pAt y x) k 0)))), (3, .int (nI (k)))] [] h := by
  intro f
  induction f with
  | zero =>
    intro k h1 h2
    omega
  | succ f ih =>
    intro k h1 h2
    have hn := hB.1
    refine ex_iload_n rfl dX12_isAttribute_4 ?_
    refine ex_aload_n rfl dX12_isAttribute_5 ?_
    refine ex_get dX12_isAttribute_6 gf_X12_107 hM.1 rfl ?_
    refine ex_icmpN_ge (tgt := 69) (by decide) dX12_isAttribute_9 (by omega) (by omega) (fun c1 => ?_) (fun c1 => ?_)
    · refine ex_iload_n rfl dX12_isAttribute_69 ?_
      refine ex_zret dX12_isAttribute_70 rfl (b2i_nb _) ⟨by rw [show k = ms y 6 by omega, bP_eq (ex2_e (P := (pAt y x)) (fun i j z => z.1))]; exact bI_c ⟨fun ⟨i, j, z1, z2, z3, z4, z5⟩ => ⟨i, z1, z2, j, z3, z4, z5⟩, fun ⟨i, z1, z2, j, z3, z4, z5⟩ => ⟨i, j, z1, z2, z3, z4, z5⟩⟩, rfl⟩
    · refine ex_iconst (v := (nI 1)) (by decide) dX12_isAttribute_12 ?_
      refine ex_istore (by decide) rfl dX12_isAttribute_13 ?_
      exact ex_lv [(0, .ref M), (1, .int (nI (x))), (2, .int (b2i (bP (ex2 (pAt y x) k 1)))), (3, .int (nI k)), (4, .int (nI (1)))] ⟨rfl, rfl, bI_c (ex2_b (fun j hj z => by have := z.2.2.1; omega)), rfl, rfl, trivial⟩ (l_isAtt2 hM hB hx c1 (ih (k + 1) (by omega) (by omega)) 11 1 (by omega) (by omega) (by omega))
set_option maxHeartbeats 4000000 in
set_option maxRecDepth 100000 in
theorem t_isAttribute {G : EG} {l : Launch} {h : EH} {M : Nat} {y : MS} (hM : MD G h M y) (hB : mB y) {x : Nat} (hx : x < 2 ^ 30) : ES G l 1 mX12_isAttribute [.ref M, .int (nI x)] h 0 0 (fun v h' => v = some (.int (b2i (bP (isAt (mS y) (ms y 6) x)))) ∧ h' = h) eNoX := by
  refine es_of (by decide) rfl (Nat.le_of_ble_eq_true rfl) ?_
  refine ex_iconst (v := (nI 0)) (by decide) dX12_isAttribute_0 ?_
  refine ex_istore_n (by decide) rfl dX12_isAttribute_1 ?_
  refine ex_iconst (v := (nI 0)) (by decide) dX12_isAttribute_2 ?_
  refine ex_istore_n (by decide) rfl dX12_isAttribute_3 ?_
  exact ex_lv [(0, .ref M), (1, .int (nI (x))), (2, .int (b2i (bP (ex2 (pAt y x) 0 0)))), (3, .int (nI (0)))] ⟨rfl, rfl, rF ex2_0, rfl, trivial⟩ (l_isAtt1 hM hB hx (ms y 6 + 1) 0 (by omega) (by omega))
def pPe (y : MS) (c x i j : Nat) : Prop := i < ms y 6 ∧ kd (mS y i) = 0 ∧ wd (mS y i) 0 = c ∧ 1 ≤ j ∧ j < sz (mS y i) ∧ wd (mS y i) j = x
set_option maxHeartbeats 4000000 in
set_option maxRecDepth 100000 in
theorem l_isPer2 {G : EG} {l : Launch} {h : EH} {M : Nat} {y : MS} (hM : MD G h M y) (hB : mB y) {c x s : Nat} (hc : c < 2 ^ 30) (hx : x < 2 ^ 30) (hs : s < ms y 6) (ho : Ex G l 1 mX12_isPermission (fun v h' => v = some (.int (b2i (bP (isPm (mS y) (ms y 6) c x)))) ∧ h' = h) eNoX 0 0 5 [(0, .ref M), (1, .int (nI (c))), (2, .int (nI (x))), (3, .int (b2i (bP (ex2 (pPe y c x) (s + 1) 0)))), (4, .int (nI (s + 1)))] [] h) : ∀ (f k : Nat), 10 - k < f → 1 ≤ k → k ≤ 10 → Ex G l 1 mX12_isPermission (fun v h' => v = some (.int (b2i (bP (isPm (mS y) (ms y 6) c x)))) ∧ h' = h) eNoX 0 0 17 [(0, .ref M), (1, .int (nI (c))), (2, .int (nI (x))), (3, .int (b2i (bP (ex2 (pPe y c x) s k)))), (4, .int (nI (s))), (5, .int (nI (k)))] [] h := by
  intro f
  induction f with
  | zero =>
    intro k h1 h2 h3
    omega
  | succ f ih =>
    intro k h1 h2 h3
    have k2 : h.2 (M + 2) = some (.inl (eA G 0, 41, .inl (fun j => nI (mA y 2 j)))) := hM.2 2 (by decide) (by decide)
    have k3 : h.2 (M + 3) = some (.inl (eA G 0, 41, .inl (fun j => nI (mA y 3 j)))) := hM.2 3 (by decide) (by decide)
    have hn := hB.1
    have hkk := mS_kd hB s
    have hss := mS_sz hB s
    have hs3 : mA y 3 s ≤ 9 := (hB.2.2 s).2.1
    have hwk := mS_wd hB s k
    have hw0 := mS_wd hB s 0
    refine ex_iload rfl dX12_isPermission_17 ?_
    refine ex_aload_n rfl dX12_isPermission_19 ?_
    refine ex_get dX12_isPermission_20 gf_X12_21 hM.1 rfl ?_
    refine ex_iload rfl dX12_isPermission_23 ?_
    refine ex_ialdN dX12_isPermission_25 k3 (by omega) (by decide) ?_
    refine ex_icmpN_ge (tgt := 78) (by decide) dX12_isPermission_26 (by omega) (show sz (mS y s) < 2 ^ 31 by omega) (fun c1 => ?_) (fun c1 => ?_)
    · refine ex_iincN (z := 1) rfl (by decide) rfl dX12_isPermission_78 ?_
      refine ex_goto (tgt := 5) (by decide) dX12_isPermission_81 ?_
      exact ex_lv [(0, .ref M), (1, .int (nI (c))), (2, .int (nI (x))), (3, .int (b2i (bP (ex2 (pPe y c x) (s + 1) 0)))), (4, .int (nI (s + 1)))] ⟨rfl, rfl, rfl, bI_c (ex2_n (fun j hj z => by have := z.2.2.2.2.1; have : sz (mS y s) ≤ k := c1; omega)), rfl, trivial⟩ ho
    · refine ex_iload_n rfl dX12_isPermission_29 ?_
      refine ex_ifB_ne (tgt := 66) (by decide) dX12_isPermission_30 (fun c2 => ?_) (fun c2 => ?_)
      · refine ex_iconst (v := (nI 1)) (by decide) dX12_isPermission_66 ?_
        refine ex_goto (tgt := 71) (by decide) dX12_isPermission_67 ?_
        refine ex_istore_n (by decide) rfl dX12_isPermission_71 ?_
        refine ex_iincN (z := 1) rfl (by decide) rfl dX12_isPermission_72 ?_
        refine ex_goto (tgt := 17) (by decide) dX12_isPermission_75 ?_
        exact ex_lv [(0, .ref M), (1, .int (nI (c))), (2, .int (nI (x))), (3, .int (b2i (bP (ex2 (pPe y c x) s (k + 1))))), (4, .int (nI (s))), (5, .int (nI (k + 1)))] ⟨rfl, rfl, rfl, rT (ex2_s.mpr (Or.inl (bP_t c2))), rfl, rfl, trivial⟩ (ih (k + 1) (by omega) (by omega) (by have : k < sz (mS y s) := c1; omega))
      · refine ex_aload_n rfl dX12_isPermission_33 ?_
        refine ex_get dX12_isPermission_34 gf_X12_17 hM.1 rfl ?_
        refine ex_iload rfl dX12_isPermission_37 ?_
        refine ex_ialdN dX12_isPermission_39 k2 (by omega) (by decide) ?_
        refine ex_ifN_ne (tgt := 70) (by decide) dX12_isPermission_40 (show kd (mS y s) < 2 ^ 31 by omega) (fun c3 => ?_) (fun c3 => ?_)
        · refine ex_iconst (v := (nI 0)) (by decide) dX12_isPermission_70 ?_
          refine ex_istore_n (by decide) rfl dX12_isPermission_71 ?_
          refine ex_iincN (z := 1) rfl (by decide) rfl dX12_isPermission_72 ?_
          refine ex_goto (tgt := 17) (by decide) dX12_isPermission_75 ?_
          exact ex_lv [(0, .ref M), (1, .int (nI (c))), (2, .int (nI (x))), (3, .int (b2i (bP (ex2 (pPe y c x) s (k + 1))))), (4, .int (nI (s))), (5, .int (nI (k + 1)))] ⟨rfl, rfl, rfl, rF (fun z => (ex2_s.mp z).elim (bP_f c2) (fun z => c3 z.2.1)), rfl, rfl, trivial⟩ (ih (k + 1) (by omega) (by omega) (by have : k < sz (mS y s) := c1; omega))
        · refine ex_aload_n rfl dX12_isPermission_43 ?_
          refine ex_iload rfl dX12_isPermission_44 ?_
          refine ex_iconst (v := (nI 0)) (by decide) dX12_isPermission_46 ?_
          refine ex_invv (k := 0) (n := 0) (mc' := 0) (ms' := 0) (As := [_, _]) dX12_isPermission_47 cv_X12_124 (by decide) (Nat.le_of_ble_eq_true rfl) (Or.inl ⟨_, _, _, _, hM.1, rfl⟩) (t_nameAt hM (s := s) (k := 0) (by omega) (by omega)) (fun v h' q => ?_)
          obtain ⟨rfl, rfl⟩ := q
          refine ex_iload_n rfl dX12_isPermission_50 ?_
          refine ex_icmpN_ne (tgt := 70) (by decide) dX12_isPermission_51 (Nat.lt_trans hw0 (by decide)) (by omega) (fun c4 => ?_) (fun c4 => ?_)
          · refine ex_iconst (v := (nI 0)) (by decide) dX12_isPermission_70 ?_
            refine ex_istore_n (by decide) rfl dX12_isPermission_71 ?_
            refine ex_iincN (z := 1) rfl (by decide) rfl dX12_isPermission_72 ?_
            refine ex_goto (tgt := 17) (by decide) dX12_isPermission_75 ?_
            exact ex_lv [(0, .ref M), (1, .int (nI (c))), (2, .int (nI (x))), (3, .int (b2i (bP (ex2 (pPe y c x) s (k + 1))))), (4, .int (nI (s))), (5, .int (nI (k + 1)))] ⟨rfl, rfl, rfl, rF (fun z => (ex2_s.mp z).elim (bP_f c2) (fun z => c4 z.2.2.1)), rfl, rfl, trivial⟩ (ih (k + 1) (by omega) (by omega) (by have : k < sz (mS y s) := c1; omega))
          · refine ex_aload_n rfl dX12_isPermission_54 ?_
            refine ex_iload rfl dX12_isPermission_55 ?_
            refine ex_iload rfl dX12_isPermission_57 ?_
            refine ex_invv (k := 0) (n := 0) (mc' := 0) (ms' := 0) (As := [_, _]) dX12_isPermission_59 cv_X12_124 (by decide) (Nat.le_of_ble_eq_true rfl) (Or.inl ⟨_, _, _, _, hM.1, rfl⟩) (t_nameAt hM (s := s) (k := k) (by omega) (by have : k < sz (mS y s) := c1; omega)) (fun v h' q => ?_)
            obtain ⟨rfl, rfl⟩ := q
            refine ex_iload_n rfl dX12_isPermission_62 ?_
            refine ex_icmpN_ne (tgt := 70) (by decide) dX12_isPermission_63 (Nat.lt_trans hwk (by decide)) (by omega) (fun c5 => ?_) (fun c5 => ?_)
            · refine ex_iconst (v := (nI 0)) (by decide) dX12_isPermission_70 ?_
              refine ex_istore_n (by decide) rfl dX12_isPermission_71 ?_
              refine ex_iincN (z := 1) rfl (by decide) rfl dX12_isPermission_72 ?_
              refine ex_goto (tgt := 17) (by decide) dX12_isPermission_75 ?_
              exact ex_lv [(0, .ref M), (1, .int (nI (c))), (2, .int (nI (x))), (3, .int (b2i (bP (ex2 (pPe y c x) s (k + 1))))), (4, .int (nI (s))), (5, .int (nI (k + 1)))] ⟨rfl, rfl, rfl, rF (fun z => (ex2_s.mp z).elim (bP_f c2) (fun z => c5 z.2.2.2.2.2)), rfl, rfl, trivial⟩ (ih (k + 1) (by omega) (by omega) (by have : k < sz (mS y s) := c1; omega))
            · refine ex_iconst (v := (nI 1)) (by decide) dX12_isPermission_66 ?_
              refine ex_goto (tgt := 71) (by decide) dX12_isPermission_67 ?_
              refine ex_istore_n (by decide) rfl dX12_isPermission_71 ?_
              refine ex_iincN (z := 1) rfl (by decide) rfl dX12_isPermission_72 ?_
              refine ex_goto (tgt := 17) (by decide) dX12_isPermission_75 ?_
              exact ex_lv [(0, .ref M), (1, .int (nI (c))), (2, .int (nI (x))), (3, .int (b2i (bP (ex2 (pPe y c x) s (k + 1))))), (4, .int (nI (s))), (5, .int (nI (k + 1)))] ⟨rfl, rfl, rfl, rT (ex2_s.mpr (Or.inr ⟨hs, c3, c4, h2, c1, c5⟩)), rfl, rfl, trivial⟩ (ih (k + 1) (by omega) (by omega) (by have : k < sz (mS y s) := c1; omega))
theorem isPm_m {y : MS} (h : mH y) (hB : mB y) {c x : Nat} : (∃ i j, pPe y c x i j) ↔ isPm (mS y) (ms y 6) c x := by
  constructor
  · rintro ⟨i, j, z1, z2, z3, z4, z5, z6⟩; exact ⟨i, z1, z2, by rw [wo_wd (h.s1 hB z1)]; exact z3, j, z4, z5, z6⟩
  · rintro ⟨i, z1, z2, z3, j, z4, z5, z6⟩; exact ⟨i, j, z1, z2, by rw [wo_wd (h.s1 hB z1)] at z3; exact z3, z4, z5, z6⟩
set_option maxHeartbeats 4000000 in
set_option maxRecDepth 100000 in
theorem l_isPer1 {G : EG} {l : Launch} {h : EH} {M : Nat} {y : MS} (hM : MD G h M y) (hB : mB y) (hH : mH y) {c x : Nat} (hc : c < 2 ^ 30) (hx : x < 2 ^ 30) : ∀ (f k : Nat), ms y 6 - k < f → k ≤ ms y 6 → Ex G l 1 mX12_isPermission (fun v h' => v = some (.int (b2i (bP (isPm (mS y) (ms y 6) c x)))) ∧ h' = h) eNoX 0 0 5 [(0, .ref M), (1, .int (nI (c))), (2, .int (nI (x))), (3, .int (b2i (bP (ex2 (pPe y c x) k 0)))), (4, .int (nI (k)))] [] h := by
  intro f
  induction f with
  | zero =>
    intro k h1 h2
    omega
  | succ f ih =>
    intro k h1 h2
    have hn := hB.1
    refine ex_iload rfl dX12_isPermission_5 ?_
    refine ex_aload_n rfl dX12_isPermission_7 ?_
    refine ex_get dX12_isPermission_8 gf_X12_107 hM.1 rfl ?_
    refine ex_icmpN_ge (tgt := 84) (by decide) dX12_isPermission_11 (by omega) (by omega) (fun c1 => ?_) (fun c1 => ?_)
    · refine ex_iload_n rfl dX12_isPermission_84 ?_
      refine ex_zret dX12_isPermission_85 rfl (b2i_nb _) ⟨by rw [show k = ms y 6 by omega, bP_eq (ex2_e (P := (pPe y c x)) (fun i j z => z.1))]; exact bI_c (isPm_m hH hB), rfl⟩
    · refine ex_iconst (v := (nI 1)) (by decide) dX12_isPermission_14 ?_
      refine ex_istore (by decide) rfl dX12_isPermission_15 ?_
      exact ex_lv [(0, .ref M), (1, .int (nI (c))), (2, .int (nI (x))), (3, .int (b2i (bP (ex2 (pPe y c x) k 1)))), (4, .int (nI k)), (5, .int (nI (1)))] ⟨rfl, rfl, rfl, bI_c (ex2_b (fun j hj z => by have := z.2.2.2.1; omega)), rfl, rfl, trivial⟩ (l_isPer2 hM hB hc hx c1 (ih (k + 1) (by omega) (by omega)) 11 1 (by omega) (by omega) (by omega))
set_option maxHeartbeats 4000000 in
set_option maxRecDepth 100000 in
theorem t_isPermission {G : EG} {l : Launch} {h : EH} {M : Nat} {y : MS} (hM : MD G h M y) (hB : mB y) (hH : mH y) {c x : Nat} (hc : c < 2 ^ 30) (hx : x < 2 ^ 30) : ES G l 1 mX12_isPermission [.ref M, .int (nI c), .int (nI x)] h 0 0 (fun v h' => v = some (.int (b2i (bP (isPm (mS y) (ms y 6) c x)))) ∧ h' = h) eNoX := by
  refine es_of (by decide) rfl (Nat.le_of_ble_eq_true rfl) ?_
  refine ex_iconst (v := (nI 0)) (by decide) dX12_isPermission_0 ?_
  refine ex_istore_n (by decide) rfl dX12_isPermission_1 ?_
  refine ex_iconst (v := (nI 0)) (by decide) dX12_isPermission_2 ?_
  refine ex_istore (by decide) rfl dX12_isPermission_3 ?_
  exact ex_lv [(0, .ref M), (1, .int (nI (c))), (2, .int (nI (x))), (3, .int (b2i (bP (ex2 (pPe y c x) 0 0)))), (4, .int (nI (0)))] ⟨rfl, rfl, rfl, rF ex2_0, rfl, trivial⟩ (l_isPer1 hM hB hH hc hx (ms y 6 + 1) 0 (by omega) (by omega))
def pEq (y : MS) (s i j : Nat) : Prop := 1 ≤ i ∧ i < j ∧ j < sz (mS y s) ∧ wd (mS y s) i = wd (mS y s) j
set_option maxHeartbeats 4000000 in
set_option maxRecDepth 100000 in
theorem l_allD2 {G : EG} {l : Launch} {h : EH} {M : Nat} {y : MS} (hM : MD G h M y) (hB : mB y) {s j : Nat} (hs : s < 41) (hj : 1 ≤ j) (hj9 : j < sz (mS y s)) (ho : Ex G l 1 mX12_allDifferent (fun v h' => v = some (.int (b2i (bP (alld (mS y s) 1)))) ∧ h' = h) eNoX 0 0 4 [(0, .ref M), (1, .int (nI (s))), (2, .int (b2i (bP (¬ ex2 (pEq y s) (j + 1) 0)))), (3, .int (nI (j + 1)))] [] h) : ∀ (f k : Nat), 10 - k < f → j + 1 ≤ k → k ≤ 10 → Ex G l 1 mX12_allDifferent (fun v h' => v = some (.int (b2i (bP (alld (mS y s) 1)))) ∧ h' = h) eNoX 0 0 19 [(0, .ref M), (1, .int (nI (s))), (2, .int (b2i (bP (¬ ex2 (pEq y s) j k)))), (3, .int (nI (j))), (4, .int (nI (k)))] [] h := by
  intro f
  induction f with
  | zero =>
    intro k h1 h2 h3
    omega
  | succ f ih =>
    intro k h1 h2 h3
    have k3 : h.2 (M + 3) = some (.inl (eA G 0, 41, .inl (fun j => nI (mA y 3 j)))) := hM.2 3 (by decide) (by decide)
    have hss := mS_sz hB s
    have hs3 : mA y 3 s ≤ 9 := (hB.2.2 s).2.1
    have hwk := mS_wd hB s k
    have hwj := mS_wd hB s j
    refine ex_iload rfl dX12_allDifferent_19 ?_
    refine ex_aload_n rfl dX12_allDifferent_21 ?_
    refine ex_get dX12_allDifferent_22 gf_X12_21 hM.1 rfl ?_
    refine ex_iload_n rfl dX12_allDifferent_25 ?_
    refine ex_ialdN dX12_allDifferent_26 k3 (by omega) (by decide) ?_
    refine ex_icmpN_ge (tgt := 62) (by decide) dX12_allDifferent_27 (by omega) (show sz (mS y s) < 2 ^ 31 by omega) (fun c1 => ?_) (fun c1 => ?_)
    · refine ex_iincN (z := 1) rfl (by decide) rfl dX12_allDifferent_62 ?_
      refine ex_goto (tgt := 4) (by decide) dX12_allDifferent_65 ?_
      exact ex_lv [(0, .ref M), (1, .int (nI (s))), (2, .int (b2i (bP (¬ ex2 (pEq y s) (j + 1) 0)))), (3, .int (nI (j + 1)))] ⟨rfl, rfl, bI_c (not_congr (ex2_n (fun i hi z => by have := z.2.2.1; have : sz (mS y s) ≤ k := c1; omega))), rfl, trivial⟩ ho
    · refine ex_iload_n rfl dX12_allDifferent_30 ?_
      refine ex_ifB_eq (tgt := 54) (by decide) dX12_allDifferent_31 (fun c2 => ?_) (fun c2 => ?_)
      · refine ex_iconst (v := (nI 0)) (by decide) dX12_allDifferent_54 ?_
        refine ex_istore_n (by decide) rfl dX12_allDifferent_55 ?_
        refine ex_iincN (z := 1) rfl (by decide) rfl dX12_allDifferent_56 ?_
        refine ex_goto (tgt := 19) (by decide) dX12_allDifferent_59 ?_
        exact ex_lv [(0, .ref M), (1, .int (nI (s))), (2, .int (b2i (bP (¬ ex2 (pEq y s) j (k + 1))))), (3, .int (nI (j))), (4, .int (nI (k + 1)))] ⟨rfl, rfl, rF (fun z => bP_f c2 (fun w => z (ex2_s.mpr (Or.inl w)))), rfl, rfl, trivial⟩ (ih (k + 1) (by omega) (by omega) (by have : k < sz (mS y s) := c1; omega))
      · refine ex_aload_n rfl dX12_allDifferent_34 ?_
        refine ex_iload_n rfl dX12_allDifferent_35 ?_
        refine ex_iload_n rfl dX12_allDifferent_36 ?_
        refine ex_invv (k := 0) (n := 0) (mc' := 0) (ms' := 0) (As := [_, _]) dX12_allDifferent_37 cv_X12_124 (by decide) (Nat.le_of_ble_eq_true rfl) (Or.inl ⟨_, _, _, _, hM.1, rfl⟩) (t_nameAt hM (s := s) (k := j) (by omega) (by omega)) (fun v h' q => ?_)
        obtain ⟨rfl, rfl⟩ := q
        refine ex_aload_n rfl dX12_allDifferent_40 ?_
        refine ex_iload_n rfl dX12_allDifferent_41 ?_
        refine ex_iload rfl dX12_allDifferent_42 ?_
        refine ex_invv (k := 0) (n := 0) (mc' := 0) (ms' := 0) (As := [_, _]) dX12_allDifferent_44 cv_X12_124 (by decide) (Nat.le_of_ble_eq_true rfl) (Or.inl ⟨_, _, _, _, hM.1, rfl⟩) (t_nameAt hM (s := s) (k := k) (by omega) (by have : k < sz (mS y s) := c1; omega)) (fun v h' q => ?_)
        obtain ⟨rfl, rfl⟩ := q
        refine ex_icmpN_eq (tgt := 54) (by decide) dX12_allDifferent_47 (Nat.lt_trans hwj (by decide)) (Nat.lt_trans hwk (by decide)) (fun c3 => ?_) (fun c3 => ?_)
        · refine ex_iconst (v := (nI 0)) (by decide) dX12_allDifferent_54 ?_
          refine ex_istore_n (by decide) rfl dX12_allDifferent_55 ?_
          refine ex_iincN (z := 1) rfl (by decide) rfl dX12_allDifferent_56 ?_
          refine ex_goto (tgt := 19) (by decide) dX12_allDifferent_59 ?_
          exact ex_lv [(0, .ref M), (1, .int (nI (s))), (2, .int (b2i (bP (¬ ex2 (pEq y s) j (k + 1))))), (3, .int (nI (j))), (4, .int (nI (k + 1)))] ⟨rfl, rfl, rF (fun z => z (ex2_s.mpr (Or.inr ⟨hj, h2, c1, c3⟩))), rfl, rfl, trivial⟩ (ih (k + 1) (by omega) (by omega) (by have : k < sz (mS y s) := c1; omega))
        · refine ex_iconst (v := (nI 1)) (by decide) dX12_allDifferent_50 ?_
          refine ex_goto (tgt := 55) (by decide) dX12_allDifferent_51 ?_
          refine ex_istore_n (by decide) rfl dX12_allDifferent_55 ?_
          refine ex_iincN (z := 1) rfl (by decide) rfl dX12_allDifferent_56 ?_
          refine ex_goto (tgt := 19) (by decide) dX12_allDifferent_59 ?_
          exact ex_lv [(0, .ref M), (1, .int (nI (s))), (2, .int (b2i (bP (¬ ex2 (pEq y s) j (k + 1))))), (3, .int (nI (j))), (4, .int (nI (k + 1)))] ⟨rfl, rfl, rT (fun z => (ex2_s.mp z).elim (bP_t c2) (fun w => c3 w.2.2.2)), rfl, rfl, trivial⟩ (ih (k + 1) (by omega) (by omega) (by have : k < sz (mS y s) := c1; omega))
set_option maxHeartbeats 4000000 in
set_option maxRecDepth 100000 in
theorem l_allD1 {G : EG} {l : Launch} {h : EH} {M : Nat} {y : MS} (hM : MD G h M y) (hB : mB y) {s : Nat} (hs : s < 41) : ∀ (f k : Nat), 10 - k < f → 1 ≤ k → k ≤ 10 → Ex G l 1 mX12_allDifferent (fun v h' => v = some (.int (b2i (bP (alld (mS y s) 1)))) ∧ h' = h) eNoX 0 0 4 [(0, .ref M), (1, .int (nI (s))), (2, .int (b2i (bP (¬ ex2 (pEq y s) k 0)))), (3, .int (nI (k)))] [] h := by
  intro f
  induction f with
  | zero =>
    intro k h1 h2 h3
    omega
  | succ f ih =>
    intro k h1 h2 h3
    have k3 : h.2 (M + 3) = some (.inl (eA G 0, 41, .inl (fun j => nI (mA y 3 j)))) := hM.2 3 (by decide) (by decide)
    have hss := mS_sz hB s
    have hs3 : mA y 3 s ≤ 9 := (hB.2.2 s).2.1
    refine ex_iload_n rfl dX12_allDifferent_4 ?_
    refine ex_aload_n rfl dX12_allDifferent_5 ?_
    refine ex_get dX12_allDifferent_6 gf_X12_21 hM.1 rfl ?_
    refine ex_iload_n rfl dX12_allDifferent_9 ?_
    refine ex_ialdN dX12_allDifferent_10 k3 (by omega) (by decide) ?_
    refine ex_icmpN_ge (tgt := 68) (by decide) dX12_allDifferent_11 (by omega) (show sz (mS y s) < 2 ^ 31 by omega) (fun c1 => ?_) (fun c1 => ?_)
    · refine ex_iload_n rfl dX12_allDifferent_68 ?_
      refine ex_zret dX12_allDifferent_69 rfl (b2i_nb _) ⟨bI_c ⟨fun z i j i1 i2 i3 w => z ⟨i, j, ⟨i1, i2, i3, w⟩, Or.inl (by have : sz (mS y s) ≤ k := c1; omega)⟩, fun z ⟨i, j, w, _⟩ => z i j w.1 w.2.1 w.2.2.1 w.2.2.2⟩, rfl⟩
    · refine ex_iload_n rfl dX12_allDifferent_14 ?_
      refine ex_iconst (v := (nI 1)) (by decide) dX12_allDifferent_15 ?_
      refine ex_iaddN dX12_allDifferent_16 ?_
      refine ex_istore (by decide) rfl dX12_allDifferent_17 ?_
      exact ex_lv [(0, .ref M), (1, .int (nI (s))), (2, .int (b2i (bP (¬ ex2 (pEq y s) k (k + 1))))), (3, .int (nI k)), (4, .int (nI (k + 1)))] ⟨rfl, rfl, bI_c (not_congr (ex2_b (fun i hi z => by have := z.2.1; omega))), rfl, rfl, trivial⟩ (l_allD2 hM hB hs h2 c1 (ih (k + 1) (by omega) (by omega) (by have : k < sz (mS y s) := c1; omega)) 11 (k + 1) (by omega) (by omega) (by have : k < sz (mS y s) := c1; omega))
set_option maxHeartbeats 4000000 in
set_option maxRecDepth 100000 in
theorem t_allDifferent {G : EG} {l : Launch} {h : EH} {M : Nat} {y : MS} (hM : MD G h M y) (hB : mB y) {s : Nat} (hs : s < 41) : ES G l 1 mX12_allDifferent [.ref M, .int (nI s)] h 0 0 (fun v h' => v = some (.int (b2i (bP (alld (mS y s) 1)))) ∧ h' = h) eNoX := by
  refine es_of (by decide) rfl (Nat.le_of_ble_eq_true rfl) ?_
  refine ex_iconst (v := (nI 1)) (by decide) dX12_allDifferent_0 ?_
  refine ex_istore_n (by decide) rfl dX12_allDifferent_1 ?_
  refine ex_iconst (v := (nI 1)) (by decide) dX12_allDifferent_2 ?_
  refine ex_istore_n (by decide) rfl dX12_allDifferent_3 ?_
  exact ex_lv [(0, .ref M), (1, .int (nI (s))), (2, .int (b2i (bP (¬ ex2 (pEq y s) 1 0)))), (3, .int (nI (1)))] ⟨rfl, rfl, rT (fun ⟨i, j, z, w⟩ => by have := z.1; omega), rfl, trivial⟩ (l_allD1 hM hB hs 11 1 (by omega) (by omega) (by omega))
def pAr (y : MS) (s fr c k : Nat) : Prop := isN (mS y) (ms y 6) 0 c ∧ ∀ j, fr ≤ j → j < k → j < sz (mS y s) → isPm (mS y) (ms y 6) c (wd (mS y s) j)
def arP (y : MS) (s fr c : Nat) : Prop := isN (mS y) (ms y 6) 0 c ∧ ∀ j, fr ≤ j → j < sz (mS y s) → isPm (mS y) (ms y 6) c (wd (mS y s) j)
set_option maxHeartbeats 4000000 in
set_option maxRecDepth 100000 in
theorem l_areP {G : EG} {l : Launch} {h : EH} {M : Nat} {y : MS} (hM : MD G h M y) (hB : mB y) (hH : mH y) {s fr c : Nat} (hs : s < 41) (hc : c < 2 ^ 30) (h0 : c ≠ 0) : ∀ (f k : Nat), 10 - k < f → fr ≤ k → k ≤ 10 → Ex G l 3 mX12_arePermissions (fun v h' => v = some (.int (b2i (bP (arP y s fr c)))) ∧ h' = h) eNoX 0 0 10 [(0, .ref M), (1, .int (nI (s))), (2, .int (nI (fr))), (3, .int (nI (c))), (4, .int (b2i (bP (pAr y s fr c k)))), (5, .int (nI (k)))] [] h := by
  intro f
  induction f with
  | zero =>
    intro k h1 h2 h3
    omega
  | succ f ih =>
    intro k h1 h2 h3
    have k3 : h.2 (M + 3) = some (.inl (eA G 0, 41, .inl (fun j => nI (mA y 3 j)))) := hM.2 3 (by decide) (by decide)
    have hss := mS_sz hB s
    have hs3 : mA y 3 s ≤ 9 := (hB.2.2 s).2.1
    have hwk := mS_wd hB s k
    refine ex_iload rfl dX12_arePermissions_10 ?_
    refine ex_aload_n rfl dX12_arePermissions_12 ?_
    refine ex_get dX12_arePermissions_13 gf_X12_21 hM.1 rfl ?_
    refine ex_iload_n rfl dX12_arePermissions_16 ?_
    refine ex_ialdN dX12_arePermissions_17 k3 (by omega) (by decide) ?_
    refine ex_icmpN_ge (tgt := 54) (by decide) dX12_arePermissions_18 (by omega) (show sz (mS y s) < 2 ^ 31 by omega) (fun c1 => ?_) (fun c1 => ?_)
    · refine ex_iload rfl dX12_arePermissions_54 ?_
      refine ex_zret dX12_arePermissions_56 rfl (b2i_nb _) ⟨bI_c ⟨fun z => ⟨z.1, fun j j1 j2 => z.2 j j1 (by have : sz (mS y s) ≤ k := c1; omega) j2⟩, fun z => ⟨z.1, fun j j1 _ j3 => z.2 j j1 j3⟩⟩, rfl⟩
    · refine ex_iload rfl dX12_arePermissions_21 ?_
      refine ex_ifB_eq (tgt := 45) (by decide) dX12_arePermissions_23 (fun c2 => ?_) (fun c2 => ?_)
      · refine ex_iconst (v := (nI 0)) (by decide) dX12_arePermissions_45 ?_
        refine ex_istore (by decide) rfl dX12_arePermissions_46 ?_
        refine ex_iincN (z := 1) rfl (by decide) rfl dX12_arePermissions_48 ?_
        refine ex_goto (tgt := 10) (by decide) dX12_arePermissions_51 ?_
        exact ex_lv [(0, .ref M), (1, .int (nI (s))), (2, .int (nI (fr))), (3, .int (nI (c))), (4, .int (b2i (bP (pAr y s fr c (k + 1))))), (5, .int (nI (k + 1)))] ⟨rfl, rfl, rfl, rfl, rF (fun z => bP_f c2 ⟨z.1, fun j j1 j2 => z.2 j j1 (by omega)⟩), rfl, trivial⟩ (ih (k + 1) (by omega) (by omega) (by have : k < sz (mS y s) := c1; omega))
      · refine ex_aload_n rfl dX12_arePermissions_26 ?_
        refine ex_iload_n rfl dX12_arePermissions_27 ?_
        refine ex_aload_n rfl dX12_arePermissions_28 ?_
        refine ex_iload_n rfl dX12_arePermissions_29 ?_
        refine ex_iload rfl dX12_arePermissions_30 ?_
        refine ex_invv (k := 0) (n := 0) (mc' := 0) (ms' := 0) (As := [_, _]) dX12_arePermissions_32 cv_X12_124 (by decide) (Nat.le_of_ble_eq_true rfl) (Or.inl ⟨_, _, _, _, hM.1, rfl⟩) (t_nameAt hM (s := s) (k := k) (by omega) (by have : k < sz (mS y s) := c1; omega)) (fun v h' q => ?_)
        obtain ⟨rfl, rfl⟩ := q
        refine ex_invv (k := 0) (n := 0) (mc' := 0) (ms' := 0) (As := [_, _]) dX12_arePermissions_35 cv_X12_136 (by decide) (Nat.le_of_ble_eq_true rfl) (Or.inl ⟨_, _, _, _, hM.1, rfl⟩) (t_isPermission hM hB hH hc hwk) (fun v h' q => ?_)
        obtain ⟨rfl, rfl⟩ := q
        refine ex_ifB_eq (tgt := 45) (by decide) dX12_arePermissions_38 (fun c3 => ?_) (fun c3 => ?_)
        · refine ex_iconst (v := (nI 0)) (by decide) dX12_arePermissions_45 ?_
          refine ex_istore (by decide) rfl dX12_arePermissions_46 ?_
          refine ex_iincN (z := 1) rfl (by decide) rfl dX12_arePermissions_48 ?_
          refine ex_goto (tgt := 10) (by decide) dX12_arePermissions_51 ?_
          exact ex_lv [(0, .ref M), (1, .int (nI (s))), (2, .int (nI (fr))), (3, .int (nI (c))), (4, .int (b2i (bP (pAr y s fr c (k + 1))))), (5, .int (nI (k + 1)))] ⟨rfl, rfl, rfl, rfl, rF (fun z => bP_f c3 (z.2 k h2 (by omega) c1)), rfl, trivial⟩ (ih (k + 1) (by omega) (by omega) (by have : k < sz (mS y s) := c1; omega))
        · refine ex_iconst (v := (nI 1)) (by decide) dX12_arePermissions_41 ?_
          refine ex_goto (tgt := 46) (by decide) dX12_arePermissions_42 ?_
          refine ex_istore (by decide) rfl dX12_arePermissions_46 ?_
          refine ex_iincN (z := 1) rfl (by decide) rfl dX12_arePermissions_48 ?_
          refine ex_goto (tgt := 10) (by decide) dX12_arePermissions_51 ?_
          exact ex_lv [(0, .ref M), (1, .int (nI (s))), (2, .int (nI (fr))), (3, .int (nI (c))), (4, .int (b2i (bP (pAr y s fr c (k + 1))))), (5, .int (nI (k + 1)))] ⟨rfl, rfl, rfl, rfl, rT ⟨(bP_t c2).1, fun j j1 j2 j3 => (by rcases Nat.lt_or_ge j k with w | w; exact (bP_t c2).2 j j1 w j3; rw [show j = k by omega]; exact bP_t c3)⟩, rfl, trivial⟩ (ih (k + 1) (by omega) (by omega) (by have : k < sz (mS y s) := c1; omega))
set_option maxHeartbeats 4000000 in
set_option maxRecDepth 100000 in
theorem t_areP {G : EG} {l : Launch} {h : EH} {M : Nat} {y : MS} (hM : MD G h M y) (hB : mB y) (hH : mH y) {s fr c : Nat} (hs : s < 41) (hf : fr ≤ 9) (hc : c < 2 ^ 30) (h0 : c ≠ 0) : ES G l 3 mX12_arePermissions [.ref M, .int (nI s), .int (nI fr), .int (nI c)] h 0 0 (fun v h' => v = some (.int (b2i (bP (arP y s fr c)))) ∧ h' = h) eNoX := by
  refine es_of (by decide) rfl (Nat.le_of_ble_eq_true rfl) ?_
  refine ex_aload_n rfl dX12_arePermissions_0 ?_
  refine ex_iload_n rfl dX12_arePermissions_1 ?_
  refine ex_invv (k := 0) (n := 0) (mc' := 0) (ms' := 0) (As := [_]) dX12_arePermissions_2 cv_X12_132 (by decide) (Nat.le_of_ble_eq_true rfl) (Or.inl ⟨_, _, _, _, hM.1, rfl⟩) (t_isClass hM hB hH hc h0) (fun v h' q => ?_)
  obtain ⟨rfl, rfl⟩ := q
  refine ex_istore (by decide) rfl dX12_arePermissions_5 ?_
  refine ex_iload_n rfl dX12_arePermissions_7 ?_
  refine ex_istore (by decide) rfl dX12_arePermissions_8 ?_
  exact ex_lv [(0, .ref M), (1, .int (nI (s))), (2, .int (nI (fr))), (3, .int (nI (c))), (4, .int (b2i (bP (pAr y s fr c fr)))), (5, .int (nI (fr)))] ⟨rfl, rfl, rfl, rfl, bI_c ⟨fun z => ⟨z, fun j j1 j2 => by omega⟩, fun z => z.1⟩, rfl, trivial⟩ (l_areP hM hB hH hs hc h0 11 fr (by omega) (by omega) (by omega))
def tw (y : MS) (s r : Nat) : Prop := kd (mS y r) = 4 ∧ wd (mS y r) 0 = wd (mS y s) 0 ∧ wd (mS y r) 1 = wd (mS y s) 1 ∧ wd (mS y r) 2 = wd (mS y s) 2
set_option maxHeartbeats 4000000 in
set_option maxRecDepth 100000 in
theorem l_twice {G : EG} {l : Launch} {h : EH} {M : Nat} {y : MS} (hM : MD G h M y) (hB : mB y) {s : Nat} (hs : s < 41) : ∀ (f k : Nat), s - k < f → k ≤ s → (∀ r, r < k → ¬ tw y s r) → Ex G l 1 mX12_twice (fun v h' => v = some (.int (b2i (bP (∃ r, r < s ∧ tw y s r)))) ∧ h' = h) eNoX 0 0 2 [(0, .ref M), (1, .int (nI (s))), (2, .int (nI (k)))] [] h := by
  intro f
  induction f with
  | zero =>
    intro k h1 h2 he
    omega
  | succ f ih =>
    intro k h1 h2 he
    have k2 : h.2 (M + 2) = some (.inl (eA G 0, 41, .inl (fun j => nI (mA y 2 j)))) := hM.2 2 (by decide) (by decide)
    have hkk := mS_kd hB k
    have wk0 := mS_wd hB k 0
    have wk1 := mS_wd hB k 1
    have wk2 := mS_wd hB k 2
    have ws0 := mS_wd hB s 0
    have ws1 := mS_wd hB s 1
    have ws2 := mS_wd hB s 2
    refine ex_iload_n rfl dX12_twice_2 ?_
    refine ex_iload_n rfl dX12_twice_3 ?_
    refine ex_icmpN_ge (tgt := 70) (by decide) dX12_twice_4 (by omega) (by omega) (fun c1 => ?_) (fun c1 => ?_)
    · refine ex_iconst (v := (nI 0)) (by decide) dX12_twice_70 ?_
      refine ex_zret dX12_twice_71 rfl rfl ⟨rF (fun ⟨r, r1, r2⟩ => he r (by omega) r2), rfl⟩
    · refine ex_aload_n rfl dX12_twice_7 ?_
      refine ex_get dX12_twice_8 gf_X12_17 hM.1 rfl ?_
      refine ex_iload_n rfl dX12_twice_11 ?_
      refine ex_ialdN dX12_twice_12 k2 (by omega) (by decide) ?_
      refine ex_iconst (v := (nI 4)) (by decide) dX12_twice_13 ?_
      refine ex_icmpN_ne (tgt := 64) (by decide) dX12_twice_14 (show kd (mS y k) < 2 ^ 31 by omega) (by omega) (fun c2 => ?_) (fun c2 => ?_)
      · refine ex_iincN (z := 1) rfl (by decide) rfl dX12_twice_64 ?_
        refine ex_goto (tgt := 2) (by decide) dX12_twice_67 ?_
        exact ih (k + 1) (by omega) (by omega) (fun r hr z => by rcases Nat.lt_or_ge r k with w | w; exact he r w z; rw [show r = k by omega] at z; exact c2 z.1)
      · refine ex_aload_n rfl dX12_twice_17 ?_
        refine ex_iload_n rfl dX12_twice_18 ?_
        refine ex_iconst (v := (nI 0)) (by decide) dX12_twice_19 ?_
        refine ex_invv (k := 0) (n := 0) (mc' := 0) (ms' := 0) (As := [_, _]) dX12_twice_20 cv_X12_124 (by decide) (Nat.le_of_ble_eq_true rfl) (Or.inl ⟨_, _, _, _, hM.1, rfl⟩) (t_nameAt hM (s := k) (k := 0) (by omega) (by omega)) (fun v h' q => ?_)
        obtain ⟨rfl, rfl⟩ := q
        refine ex_aload_n rfl dX12_twice_23 ?_
        refine ex_iload_n rfl dX12_twice_24 ?_
        refine ex_iconst (v := (nI 0)) (by decide) dX12_twice_25 ?_
        refine ex_invv (k := 0) (n := 0) (mc' := 0) (ms' := 0) (As := [_, _]) dX12_twice_26 cv_X12_124 (by decide) (Nat.le_of_ble_eq_true rfl) (Or.inl ⟨_, _, _, _, hM.1, rfl⟩) (t_nameAt hM (s := s) (k := 0) (by omega) (by omega)) (fun v h' q => ?_)
        obtain ⟨rfl, rfl⟩ := q
        refine ex_icmpN_ne (tgt := 64) (by decide) dX12_twice_29 (Nat.lt_trans wk0 (by decide)) (Nat.lt_trans ws0 (by decide)) (fun c3 => ?_) (fun c3 => ?_)
        · refine ex_iincN (z := 1) rfl (by decide) rfl dX12_twice_64 ?_
          refine ex_goto (tgt := 2) (by decide) dX12_twice_67 ?_
          exact ih (k + 1) (by omega) (by omega) (fun r hr z => by rcases Nat.lt_or_ge r k with w | w; exact he r w z; rw [show r = k by omega] at z; exact c3 z.2.1)
        · refine ex_aload_n rfl dX12_twice_32 ?_
          refine ex_iload_n rfl dX12_twice_33 ?_
          refine ex_iconst (v := (nI 1)) (by decide) dX12_twice_34 ?_
          refine ex_invv (k := 0) (n := 0) (mc' := 0) (ms' := 0) (As := [_, _]) dX12_twice_35 cv_X12_124 (by decide) (Nat.le_of_ble_eq_true rfl) (Or.inl ⟨_, _, _, _, hM.1, rfl⟩) (t_nameAt hM (s := k) (k := 1) (by omega) (by omega)) (fun v h' q => ?_)
          obtain ⟨rfl, rfl⟩ := q
          refine ex_aload_n rfl dX12_twice_38 ?_
          refine ex_iload_n rfl dX12_twice_39 ?_
          refine ex_iconst (v := (nI 1)) (by decide) dX12_twice_40 ?_
          refine ex_invv (k := 0) (n := 0) (mc' := 0) (ms' := 0) (As := [_, _]) dX12_twice_41 cv_X12_124 (by decide) (Nat.le_of_ble_eq_true rfl) (Or.inl ⟨_, _, _, _, hM.1, rfl⟩) (t_nameAt hM (s := s) (k := 1) (by omega) (by omega)) (fun v h' q => ?_)
          obtain ⟨rfl, rfl⟩ := q
          refine ex_icmpN_ne (tgt := 64) (by decide) dX12_twice_44 (Nat.lt_trans wk1 (by decide)) (Nat.lt_trans ws1 (by decide)) (fun c4 => ?_) (fun c4 => ?_)
          · refine ex_iincN (z := 1) rfl (by decide) rfl dX12_twice_64 ?_
            refine ex_goto (tgt := 2) (by decide) dX12_twice_67 ?_
            exact ih (k + 1) (by omega) (by omega) (fun r hr z => by rcases Nat.lt_or_ge r k with w | w; exact he r w z; rw [show r = k by omega] at z; exact c4 z.2.2.1)
          · refine ex_aload_n rfl dX12_twice_47 ?_
            refine ex_iload_n rfl dX12_twice_48 ?_
            refine ex_iconst (v := (nI 2)) (by decide) dX12_twice_49 ?_
            refine ex_invv (k := 0) (n := 0) (mc' := 0) (ms' := 0) (As := [_, _]) dX12_twice_50 cv_X12_124 (by decide) (Nat.le_of_ble_eq_true rfl) (Or.inl ⟨_, _, _, _, hM.1, rfl⟩) (t_nameAt hM (s := k) (k := 2) (by omega) (by omega)) (fun v h' q => ?_)
            obtain ⟨rfl, rfl⟩ := q
            refine ex_aload_n rfl dX12_twice_53 ?_
            refine ex_iload_n rfl dX12_twice_54 ?_
            refine ex_iconst (v := (nI 2)) (by decide) dX12_twice_55 ?_
            refine ex_invv (k := 0) (n := 0) (mc' := 0) (ms' := 0) (As := [_, _]) dX12_twice_56 cv_X12_124 (by decide) (Nat.le_of_ble_eq_true rfl) (Or.inl ⟨_, _, _, _, hM.1, rfl⟩) (t_nameAt hM (s := s) (k := 2) (by omega) (by omega)) (fun v h' q => ?_)
            obtain ⟨rfl, rfl⟩ := q
            refine ex_icmpN_ne (tgt := 64) (by decide) dX12_twice_59 (Nat.lt_trans wk2 (by decide)) (Nat.lt_trans ws2 (by decide)) (fun c5 => ?_) (fun c5 => ?_)
            · refine ex_iincN (z := 1) rfl (by decide) rfl dX12_twice_64 ?_
              refine ex_goto (tgt := 2) (by decide) dX12_twice_67 ?_
              exact ih (k + 1) (by omega) (by omega) (fun r hr z => by rcases Nat.lt_or_ge r k with w | w; exact he r w z; rw [show r = k by omega] at z; exact c5 z.2.2.2)
            · refine ex_iconst (v := (nI 1)) (by decide) dX12_twice_62 ?_
              refine ex_zret dX12_twice_63 rfl rfl ⟨rT ⟨k, c1, c2, c3, c4, c5⟩, rfl⟩
set_option maxHeartbeats 4000000 in
set_option maxRecDepth 100000 in
theorem t_twice {G : EG} {l : Launch} {h : EH} {M : Nat} {y : MS} (hM : MD G h M y) (hB : mB y) {s : Nat} (hs : s < 41) : ES G l 1 mX12_twice [.ref M, .int (nI s)] h 0 0 (fun v h' => v = some (.int (b2i (bP (∃ r, r < s ∧ tw y s r)))) ∧ h' = h) eNoX := by
  refine es_of (by decide) rfl (Nat.le_of_ble_eq_true rfl) ?_
  refine ex_iconst (v := (nI 0)) (by decide) dX12_twice_0 ?_
  refine ex_istore_n (by decide) rfl dX12_twice_1 ?_
  exact l_twice hM hB hs (s + 1) 0 (by omega) (by omega) (fun r hr => by omega)
