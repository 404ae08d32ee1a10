/-! STRINGS: the JDK's methods on the enum's constant texts; Math.max, min -/
def kStrN : List (List Nat) := [[99, 108, 97, 115, 115], [116, 121, 112, 101], [97, 108, 108, 111, 119], [110, 101, 118, 101, 114], [109, 97, 107, 101], [114, 97, 110, 107], [110, 101, 101, 100], [115, 101, 101, 115], [112, 117, 116, 115], [], [48, 49, 50, 51, 52, 53, 54, 55], [62, 61, 60]]
/-- character j of constant text i, its length -/
def kCh (i j : Nat) : Nat := (kStrN.getD i []).getD j 0
def kLen (i : Nat) : Nat := (kStrN.getD i []).length
theorem kStr_ch : ∀ i, i < 12 → ∀ j, j < 9 → (kStr.getD i []).getD j 0 = nI (kCh i j) := by decide
theorem kStr_len : ∀ i, i < 12 → (kStr.getD i []).length = kLen i := by decide
theorem kLen_le : ∀ i, i < 12 → kLen i ≤ 8 := by decide
theorem kCh_lt : ∀ i, i < 12 → ∀ j, j < 9 → kCh i j < 128 := by decide
theorem ch_and {c : Nat} (h : c < 128) : (((nI c) &&& nI 255).toUInt32 % 65536).toInt32 = nI c := by
  rw [and255, pk_tn (by omega), pk_char, pk_tn (by omega)]
  congr 1
  omega
theorem i2c_N {c : Nat} (h : c < 65536) : ((nI c).toUInt32 % 65536).toInt32 = nI c := by
  rw [pk_char, pk_tn (by omega)]
  congr 1
  omega
theorem i2b_N {c : Nat} (h : c < 128) : (nI c).toInt8.toInt32 = nI c := by
  have : ∀ c, c < 128 → (nI c).toInt8.toInt32 = nI c := by decide +kernel
  exact this c h
section EXM
variable {G : EG} {l : Launch} {d : Nat} {M : EM} {Q : Option Value → EH → Prop} {X : String → EH → Prop} {k n pc : Nat} {lv : List (Nat × Value)} {rest st : List Value} {h : EH}
theorem ex_mmax {idx : Nat} {x y : Int32} (hd : decode (eC M) pc = .ok (.invokestatic idx, 3)) (hN : ECS (eY M).cls idx mJ9_max_7cf53 2) (hdd : 1 ≤ d) (hrs : (rest.map fun v => v.category).sum ≤ 8) (kk : Ex G l d M Q X k n (pc + 3) lv (.int (if x < y then y else x) :: rest) h) : Ex G l d M Q X k n pc lv (.int y :: .int x :: rest) h := by
  intro p e s m args below meth c H locs ls cells slots mc ms C R S L e1 e2
  have hts := C.2.2.2.2.1
  exact va_mmax C.1 C.2.1 (C.2.2.1.trans L.1.symm) C.2.2.2.1 (hts _ hN.1) (hts _ hN.2.1) (hts _ hN.2.2.1) (hts _ hN.2.2.2.1) hdd (by show _ + 13 ≤ 38 * d; omega) (by show cells ≤ mc; omega) (by show slots ≤ ms; omega) hd (kk p e s m args below meth c H locs ls cells slots mc ms C R S L e1 e2)
theorem ex_mmin {idx : Nat} {x y : Int32} (hd : decode (eC M) pc = .ok (.invokestatic idx, 3)) (hN : ECS (eY M).cls idx mJ9_min_7cf53 2) (hdd : 1 ≤ d) (hrs : (rest.map fun v => v.category).sum ≤ 8) (kk : Ex G l d M Q X k n (pc + 3) lv (.int (if y < x then y else x) :: rest) h) : Ex G l d M Q X k n pc lv (.int y :: .int x :: rest) h := by
  intro p e s m args below meth c H locs ls cells slots mc ms C R S L e1 e2
  have hts := C.2.2.2.2.1
  exact va_mmin C.1 C.2.1 (C.2.2.1.trans L.1.symm) C.2.2.2.1 (hts _ hN.1) (hts _ hN.2.1) (hts _ hN.2.2.1) (hts _ hN.2.2.2.1) hdd (by show _ + 13 ≤ 38 * d; omega) (by show cells ≤ mc; omega) (by show slots ≤ ms; omega) hd (kk p e s m args below meth c H locs ls cells slots mc ms C R S L e1 e2)
theorem ex_mmaxN {idx x y : Nat} (hd : decode (eC M) pc = .ok (.invokestatic idx, 3)) (hN : ECS (eY M).cls idx mJ9_max_7cf53 2) (hdd : 1 ≤ d) (hrs : (rest.map fun v => v.category).sum ≤ 8) (hx : x < 2 ^ 31) (hy : y < 2 ^ 31) (kk : Ex G l d M Q X k n (pc + 3) lv (.int (nI (max x y)) :: rest) h) : Ex G l d M Q X k n pc lv (.int (nI y) :: .int (nI x) :: rest) h := ex_mmax hd hN hdd hrs (by
  have : (if nI x < nI y then nI y else nI x) = nI (max x y) := by
    by_cases q : x < y
    · rw [if_pos ((nI_ltI hx hy).mpr q), Nat.max_eq_right (by omega)]
    · rw [if_neg (fun z => q ((nI_ltI hx hy).mp z)), Nat.max_eq_left (by omega)]
  rw [this]; exact kk)
theorem ex_mminN {idx x y : Nat} (hd : decode (eC M) pc = .ok (.invokestatic idx, 3)) (hN : ECS (eY M).cls idx mJ9_min_7cf53 2) (hdd : 1 ≤ d) (hrs : (rest.map fun v => v.category).sum ≤ 8) (hx : x < 2 ^ 31) (hy : y < 2 ^ 31) (kk : Ex G l d M Q X k n (pc + 3) lv (.int (nI (min x y)) :: rest) h) : Ex G l d M Q X k n pc lv (.int (nI y) :: .int (nI x) :: rest) h := ex_mmin hd hN hdd hrs (by
  have : (if nI y < nI x then nI y else nI x) = nI (min x y) := by
    by_cases q : y < x
    · rw [if_pos ((nI_ltI hy hx).mpr q), Nat.min_eq_right (by omega)]
    · rw [if_neg (fun z => q ((nI_ltI hy hx).mp z)), Nat.min_eq_left (by omega)]
  rw [this]; exact kk)
end EXM
theorem va_rfo (r : Option Nat) : va_rf r = .null ∨ ∃ q, va_rf r = .ref q := by cases r with | none => exact Or.inl rfl | some q => exact Or.inr ⟨q, rfl⟩
theorem nc_char {c : Nat} (h : c < 65536) : narrow .char (.int (nI c)) = .int (nI c) := (pk_charN h).1
set_option maxHeartbeats 4000000 in
set_option maxRecDepth 100000 in
theorem s_coder {G : EG} {l : Launch} (h : EH) {i : Nat} (hi : i < 12) : ES G l 0 mJ0_coder_7d493 [.ref (ead G (16 + i))] h 0 0 (fun v h' => v = some (.int (0)) ∧ h' = h) eNoX := by
  refine es_of (by decide) rfl (Nat.le_of_ble_eq_true rfl) ?_
  refine ex_gets (z := ("java/lang/String", "COMPACT_STRINGS", "Z", .int 1)) dJ0_coder_7d493_0 (eZo 2 rfl) gz_J0_38 ?_
  refine ex_if_eq (tgt := 13) (by decide) dJ0_coder_7d493_3 (fun c1 => ?_) (fun c1 => ?_)
  · refine ex_iconst (v := (nI 1)) (by decide) dJ0_coder_7d493_13 ?_
    exact absurd c1 (by decide)
  · refine ex_aload_n rfl dJ0_coder_7d493_6 ?_
    refine ex_getc (z := ("java/lang/String", "coder", "B", .int 0, ead G (16 + i))) dJ0_coder_7d493_7 (eF2 hi 1 rfl) gc_J0_15 ?_
    refine ex_goto (tgt := 14) (by decide) dJ0_coder_7d493_10 ?_
    refine ex_zret dJ0_coder_7d493_14 rfl rfl ⟨rfl, rfl⟩
set_option maxHeartbeats 4000000 in
set_option maxRecDepth 100000 in
theorem s_isLatin1 {G : EG} {l : Launch} (h : EH) {i : Nat} (hi : i < 12) : ES G l 0 mJ0_isLatin1_aae02 [.ref (ead G (16 + i))] h 0 0 (fun v h' => v = some (.int (b2i true)) ∧ h' = h) eNoX := by
  refine es_of (by decide) rfl (Nat.le_of_ble_eq_true rfl) ?_
  refine ex_gets (z := ("java/lang/String", "COMPACT_STRINGS", "Z", .int 1)) dJ0_isLatin1_aae02_0 (eZo 2 rfl) gz_J0_38 ?_
  refine ex_if_eq (tgt := 17) (by decide) dJ0_isLatin1_aae02_3 (fun c1 => ?_) (fun c1 => ?_)
  · refine ex_iconst (v := (nI 0)) (by decide) dJ0_isLatin1_aae02_17 ?_
    exact absurd c1 (by decide)
  · refine ex_aload_n rfl dJ0_isLatin1_aae02_6 ?_
    refine ex_getc (z := ("java/lang/String", "coder", "B", .int 0, ead G (16 + i))) dJ0_isLatin1_aae02_7 (eF2 hi 1 rfl) gc_J0_15 ?_
    refine ex_if_ne (tgt := 17) (by decide) dJ0_isLatin1_aae02_10 (fun c2 => ?_) (fun c2 => ?_)
    · refine ex_iconst (v := (nI 0)) (by decide) dJ0_isLatin1_aae02_17 ?_
      exact absurd rfl c2
    · refine ex_iconst (v := (nI 1)) (by decide) dJ0_isLatin1_aae02_13 ?_
      refine ex_goto (tgt := 18) (by decide) dJ0_isLatin1_aae02_14 ?_
      refine ex_zret dJ0_isLatin1_aae02_18 rfl rfl ⟨rfl, rfl⟩
set_option maxHeartbeats 4000000 in
set_option maxRecDepth 100000 in
theorem s_slength {G : EG} {l : Launch} (h : EH) {i : Nat} (hi : i < 12) : ES G l 1 mJ0_length_8abf5 [.ref (ead G (16 + i))] h 0 0 (fun v h' => v = some (.int (nI (kLen i))) ∧ h' = h) eNoX := by
  refine es_of (by decide) rfl (Nat.le_of_ble_eq_true rfl) ?_
  refine ex_aload_n rfl dJ0_length_8abf5_0 ?_
  refine ex_getc (z := ("java/lang/String", "value", "[B", .ref (ead G (32 + i)), ead G (16 + i))) dJ0_length_8abf5_1 (eF2 hi 0 rfl) gc_J0_9 ?_
  refine ex_tlen (v := nI ((kStr.getD i []).length)) dJ0_length_8abf5_4 (eTst hi) rfl ?_
  refine ex_aload_n rfl dJ0_length_8abf5_5 ?_
  refine ex_invv (k := 0) (n := 0) (mc' := 0) (ms' := 0) (As := []) dJ0_length_8abf5_6 cv_J0_335 (by decide) (Nat.le_of_ble_eq_true rfl) (Or.inr (eOs hi)) (s_coder _ hi) (fun v h' q => ?_)
  obtain ⟨rfl, rfl⟩ := q
  refine ex_ishr dJ0_length_8abf5_9 ?_
  rw [sb_shr0]
  refine ex_iret dJ0_length_8abf5_10 rfl ⟨by rw [kStr_len i hi], rfl⟩
set_option maxHeartbeats 4000000 in
set_option maxRecDepth 100000 in
theorem s_isEmpty {G : EG} {l : Launch} (h : EH) {i : Nat} (hi : i < 12) : ES G l 0 mJ0_isEmpty_aae02 [.ref (ead G (16 + i))] h 0 0 (fun v h' => v = some (.int (b2i (decide (kLen i = 0)))) ∧ h' = h) eNoX := by
  have hl := kLen_le i hi
  have hl2 := kStr_len i hi
  refine es_of (by decide) rfl (Nat.le_of_ble_eq_true rfl) ?_
  refine ex_aload_n rfl dJ0_isEmpty_aae02_0 ?_
  refine ex_getc (z := ("java/lang/String", "value", "[B", .ref (ead G (32 + i)), ead G (16 + i))) dJ0_isEmpty_aae02_1 (eF2 hi 0 rfl) gc_J0_9 ?_
  refine ex_tlen (v := nI ((kStr.getD i []).length)) dJ0_isEmpty_aae02_4 (eTst hi) rfl ?_
  refine ex_ifN_ne (tgt := 12) (by decide) dJ0_isEmpty_aae02_5 (by omega) (fun c1 => ?_) (fun c1 => ?_)
  · refine ex_iconst (v := (nI 0)) (by decide) dJ0_isEmpty_aae02_12 ?_
    refine ex_zret dJ0_isEmpty_aae02_13 rfl rfl ⟨by rw [decide_eq_false (by omega)]; rfl, rfl⟩
  · refine ex_iconst (v := (nI 1)) (by decide) dJ0_isEmpty_aae02_8 ?_
    refine ex_goto (tgt := 13) (by decide) dJ0_isEmpty_aae02_9 ?_
    refine ex_zret dJ0_isEmpty_aae02_13 rfl rfl ⟨by rw [decide_eq_true (by omega)]; rfl, rfl⟩
set_option maxHeartbeats 4000000 in
set_option maxRecDepth 100000 in
theorem s_pcheck {G : EG} {l : Launch} (h : EH) {j n : Nat} {z : Value} (hz : z = .null ∨ ∃ q, z = .ref q) (hj : j < n) (hn : n < 2 ^ 31) : ES G l 0 mJ3_checkIndex_8e157 [.int (nI j), .int (nI n), z] h 0 0 (fun v h' => v = some (.int (nI j)) ∧ h' = h) eNoX := by
  rcases hz with rfl | ⟨q, rfl⟩
  · refine es_of (by decide) rfl (Nat.le_of_ble_eq_true rfl) ?_
    refine ex_iload_n rfl dJ3_checkIndex_8e157_0 ?_
    refine ex_ifN_lt (tgt := 9) (by decide) dJ3_checkIndex_8e157_1 (by omega) (fun c1 => ?_) (fun c1 => ?_)
    · exact c1.elim
    · refine ex_iload_n rfl dJ3_checkIndex_8e157_4 ?_
      refine ex_iload_n rfl dJ3_checkIndex_8e157_5 ?_
      refine ex_icmpN_lt (tgt := 16) (by decide) dJ3_checkIndex_8e157_6 (by omega) (by omega) (fun c2 => ?_) (fun c2 => ?_)
      · refine ex_iload_n rfl dJ3_checkIndex_8e157_16 ?_
        refine ex_iret dJ3_checkIndex_8e157_17 rfl ⟨rfl, rfl⟩
      · omega
  · refine es_of (by decide) rfl (Nat.le_of_ble_eq_true rfl) ?_
    refine ex_iload_n rfl dJ3_checkIndex_8e157_0 ?_
    refine ex_ifN_lt (tgt := 9) (by decide) dJ3_checkIndex_8e157_1 (by omega) (fun c1 => ?_) (fun c1 => ?_)
    · exact c1.elim
    · refine ex_iload_n rfl dJ3_checkIndex_8e157_4 ?_
      refine ex_iload_n rfl dJ3_checkIndex_8e157_5 ?_
      refine ex_icmpN_lt (tgt := 16) (by decide) dJ3_checkIndex_8e157_6 (by omega) (by omega) (fun c2 => ?_) (fun c2 => ?_)
      · refine ex_iload_n rfl dJ3_checkIndex_8e157_16 ?_
        refine ex_iret dJ3_checkIndex_8e157_17 rfl ⟨rfl, rfl⟩
      · omega
set_option maxHeartbeats 4000000 in
set_option maxRecDepth 100000 in
theorem s_checkIndex {G : EG} {l : Launch} (h : EH) {j n : Nat} (hj : j < n) (hn : n < 2 ^ 31) : ES G l 1 mJ0_checkIndex_df160 [.int (nI j), .int (nI n)] h 0 0 (fun v h' => v = none ∧ h' = h) eNoX := by
  refine es_of (by decide) rfl (Nat.le_of_ble_eq_true rfl) ?_
  refine ex_iload_n rfl dJ0_checkIndex_df160_0 ?_
  refine ex_iload_n rfl dJ0_checkIndex_df160_1 ?_
  refine ex_gets (z := ("jdk/internal/util/Preconditions", "SIOOBE_FORMATTER", "Ljava/util/function/BiFunction;", va_rf (efm G))) dJ0_checkIndex_df160_2 (eZo 3 rfl) gz_J0_1053 ?_
  refine ex_invs (k := 0) (n := 0) (mc' := 0) (ms' := 0) (As := [_, _, _]) dJ0_checkIndex_df160_5 cs_J0_1059 (by decide) (Nat.le_of_ble_eq_true rfl) (s_pcheck _ (va_rfo _) hj hn) (fun v h' q => ?_)
  obtain ⟨rfl, rfl⟩ := q
  refine ex_pop rfl dJ0_checkIndex_df160_8 ?_
  refine ex_vret dJ0_checkIndex_df160_9 rfl ⟨rfl, rfl⟩
set_option maxHeartbeats 4000000 in
set_option maxRecDepth 100000 in
theorem s_l1char {G : EG} {l : Launch} (h : EH) {i : Nat} (hi : i < 12) {j : Nat} (hj : j < kLen i) : ES G l 2 mJ1_charAt_3b067 [.ref (ead G (32 + i)), .int (nI j)] h 0 0 (fun v h' => v = some (.int (nI (kCh i j))) ∧ h' = h) eNoX := by
  have hl := kLen_le i hi
  have hl2 := kStr_len i hi
  have hch := kStr_ch i hi j (by omega)
  have hcl := kCh_lt i hi j (by omega)
  refine es_of (by decide) rfl (Nat.le_of_ble_eq_true rfl) ?_
  refine ex_iload_n rfl dJ1_charAt_3b067_0 ?_
  refine ex_aload_n rfl dJ1_charAt_3b067_1 ?_
  refine ex_tlen (v := nI ((kStr.getD i []).length)) dJ1_charAt_3b067_2 (eTst hi) rfl ?_
  refine ex_invs (k := 0) (n := 0) (mc' := 0) (ms' := 0) (As := [_, _]) dJ1_charAt_3b067_3 cs_J1_9 (by decide) (Nat.le_of_ble_eq_true rfl) (s_checkIndex _ (n := (kStr.getD i []).length) (by omega) (by omega)) (fun v h' q => ?_)
  obtain ⟨rfl, rfl⟩ := q
  refine ex_aload_n rfl dJ1_charAt_3b067_6 ?_
  refine ex_iload_n rfl dJ1_charAt_3b067_7 ?_
  refine ex_tbldN dJ1_charAt_3b067_8 (eTst hi) (by omega) (by rw [kStr_len i hi]; omega) ?_
  rw [hch]
  refine ex_sipush (v := (nI 255)) (by decide) dJ1_charAt_3b067_9 ?_
  refine ex_iand dJ1_charAt_3b067_12 ?_
  refine ex_i2c dJ1_charAt_3b067_13 ?_
  rw [ch_and hcl]
  refine ex_zret dJ1_charAt_3b067_14 rfl (nc_char (by omega)) ⟨rfl, rfl⟩
set_option maxHeartbeats 4000000 in
set_option maxRecDepth 100000 in
theorem s_charAt {G : EG} {l : Launch} (h : EH) {i : Nat} (hi : i < 12) {j : Nat} (hj : j < kLen i) : ES G l 3 mJ0_charAt_5068e [.ref (ead G (16 + i)), .int (nI j)] h 0 0 (fun v h' => v = some (.int (nI (kCh i j))) ∧ h' = h) eNoX := by
  have hl := kLen_le i hi
  have hl2 := kStr_len i hi
  have hch := kStr_ch i hi j (by omega)
  have hcl := kCh_lt i hi j (by omega)
  refine es_of (by decide) rfl (Nat.le_of_ble_eq_true rfl) ?_
  refine ex_aload_n rfl dJ0_charAt_5068e_0 ?_
  refine ex_invv (k := 0) (n := 0) (mc' := 0) (ms' := 0) (As := []) dJ0_charAt_5068e_1 cv_J0_492 (by decide) (Nat.le_of_ble_eq_true rfl) (Or.inr (eOs hi)) (s_isLatin1 _ hi) (fun v h' q => ?_)
  obtain ⟨rfl, rfl⟩ := q
  refine ex_ifB_eq (tgt := 16) (by decide) dJ0_charAt_5068e_4 (fun c1 => ?_) (fun c1 => ?_)
  · cases c1
  · refine ex_aload_n rfl dJ0_charAt_5068e_7 ?_
    refine ex_getc (z := ("java/lang/String", "value", "[B", .ref (ead G (32 + i)), ead G (16 + i))) dJ0_charAt_5068e_8 (eF2 hi 0 rfl) gc_J0_9 ?_
    refine ex_iload_n rfl dJ0_charAt_5068e_11 ?_
    refine ex_invs (k := 0) (n := 0) (mc' := 0) (ms' := 0) (As := [_, _]) dJ0_charAt_5068e_12 cs_J0_495 (by decide) (Nat.le_of_ble_eq_true rfl) (s_l1char _ hi hj) (fun v h' q => ?_)
    obtain ⟨rfl, rfl⟩ := q
    refine ex_zret dJ0_charAt_5068e_15 rfl (nc_char (by omega)) ⟨rfl, rfl⟩
set_option maxHeartbeats 4000000 in
set_option maxRecDepth 100000 in
theorem s_canEncode {G : EG} {l : Launch} (h : EH) {c : Nat} (hc : c < 256) : ES G l 0 mJ1_canEncode_9a6ad [.int (nI c)] h 0 0 (fun v h' => v = some (.int (b2i true)) ∧ h' = h) eNoX := by
  refine es_of (by decide) rfl (Nat.le_of_ble_eq_true rfl) ?_
  refine ex_iload_n rfl dJ1_canEncode_9a6ad_0 ?_
  refine ex_ifN_lt (tgt := 15) (by decide) dJ1_canEncode_9a6ad_1 (by omega) (fun c1 => ?_) (fun c1 => ?_)
  · exact c1.elim
  · refine ex_iload_n rfl dJ1_canEncode_9a6ad_4 ?_
    refine ex_sipush (v := (nI 255)) (by decide) dJ1_canEncode_9a6ad_5 ?_
    refine ex_icmpN_gt (tgt := 15) (by decide) dJ1_canEncode_9a6ad_8 (by omega) (by omega) (fun c2 => ?_) (fun c2 => ?_)
    · refine ex_iconst (v := (nI 0)) (by decide) dJ1_canEncode_9a6ad_15 ?_
      omega
    · refine ex_iconst (v := (nI 1)) (by decide) dJ1_canEncode_9a6ad_11 ?_
      refine ex_goto (tgt := 16) (by decide) dJ1_canEncode_9a6ad_12 ?_
      refine ex_zret dJ1_canEncode_9a6ad_16 rfl rfl ⟨rfl, rfl⟩
set_option maxHeartbeats 4000000 in
set_option maxRecDepth 100000 in
theorem l_idx {G : EG} {l : Launch} (h : EH) {i : Nat} (hi : i < 12) {c : Nat} (hc : c < 128) : ∀ (f k : Nat), kLen i - k < f → k ≤ kLen i → fnd (kCh i) c 0 (kLen i) = fnd (kCh i) c k (kLen i - k) → Ex G l 0 mJ1_indexOfChar_4cfef (fun v h' => v = some (.int (oI (fnd (kCh i) c 0 (kLen i)))) ∧ h' = h) eNoX 0 0 7 [(0, .ref (ead G (32 + i))), (1, .int (nI c)), (2, .int (nI 0)), (3, .int (nI (kLen i))), (4, .int (nI c)), (5, .int (nI k))] [] h := by
  intro f
  induction f with
  | zero =>
    intro k h1 h2 he
    omega
  | succ f ih =>
    intro k h1 h2 he
    have hl := kLen_le i hi
    have hl2 := kStr_len i hi
    have hch := kStr_ch i hi k (by omega)
    have hcl := kCh_lt i hi k (by omega)
    refine ex_iload rfl dJ1_indexOfChar_4cfef_7 ?_
    refine ex_iload_n rfl dJ1_indexOfChar_4cfef_9 ?_
    refine ex_icmpN_ge (tgt := 31) (by decide) dJ1_indexOfChar_4cfef_10 (by omega) (by omega) (fun c1 => ?_) (fun c1 => ?_)
    · refine ex_iconst (v := (-1)) (by decide) dJ1_indexOfChar_4cfef_31 ?_
      refine ex_iret dJ1_indexOfChar_4cfef_32 rfl ⟨by rw [he, show kLen i - k = 0 by omega]; rfl, rfl⟩
    · refine ex_aload_n rfl dJ1_indexOfChar_4cfef_13 ?_
      refine ex_iload rfl dJ1_indexOfChar_4cfef_14 ?_
      refine ex_tbldN dJ1_indexOfChar_4cfef_16 (eTst hi) (by omega) (by rw [kStr_len i hi]; omega) ?_
      rw [hch]
      refine ex_iload rfl dJ1_indexOfChar_4cfef_17 ?_
      refine ex_icmpN_ne (tgt := 25) (by decide) dJ1_indexOfChar_4cfef_19 (by omega) (by omega) (fun c2 => ?_) (fun c2 => ?_)
      · refine ex_iincN (z := 1) rfl (by decide) rfl dJ1_indexOfChar_4cfef_25 ?_
        refine ex_goto (tgt := 7) (by decide) dJ1_indexOfChar_4cfef_28 ?_
        exact ih (k + 1) (by omega) (by omega) (he.trans (fnd_step c2 (by omega)))
      · refine ex_iload rfl dJ1_indexOfChar_4cfef_22 ?_
        refine ex_iret dJ1_indexOfChar_4cfef_24 rfl ⟨by rw [he, fnd_hit c2 (by omega)]; rfl, rfl⟩
set_option maxHeartbeats 4000000 in
set_option maxRecDepth 100000 in
theorem s_idxChar {G : EG} {l : Launch} (h : EH) {i : Nat} (hi : i < 12) {c : Nat} (hc : c < 128) : ES G l 0 mJ1_indexOfChar_4cfef [.ref (ead G (32 + i)), .int (nI c), .int (nI 0), .int (nI (kLen i))] h 0 0 (fun v h' => v = some (.int (oI (fnd (kCh i) c 0 (kLen i)))) ∧ h' = h) eNoX := by
  refine es_of (by decide) rfl (Nat.le_of_ble_eq_true rfl) ?_
  refine ex_iload_n rfl dJ1_indexOfChar_4cfef_0 ?_
  refine ex_i2b dJ1_indexOfChar_4cfef_1 ?_
  rw [i2b_N hc]
  refine ex_istore (by decide) rfl dJ1_indexOfChar_4cfef_2 ?_
  refine ex_iload_n rfl dJ1_indexOfChar_4cfef_4 ?_
  refine ex_istore (by decide) rfl dJ1_indexOfChar_4cfef_5 ?_
  exact l_idx _ hi hc (kLen i + 1) 0 (by omega) (by omega) rfl
set_option maxHeartbeats 4000000 in
set_option maxRecDepth 100000 in
theorem s_l1idx {G : EG} {l : Launch} (h : EH) {i : Nat} (hi : i < 12) {c : Nat} (hc : c < 128) (h0 : 0 < kLen i) : ES G l 1 mJ1_indexOf_4cfef [.ref (ead G (32 + i)), .int (nI c), .int (nI 0), .int (nI (kLen i))] h 0 0 (fun v h' => v = some (.int (oI (fnd (kCh i) c 0 (kLen i)))) ∧ h' = h) eNoX := by
  have hl := kLen_le i hi
  have hl2 := kStr_len i hi
  refine es_of (by decide) rfl (Nat.le_of_ble_eq_true rfl) ?_
  refine ex_iload_n rfl dJ1_indexOf_4cfef_0 ?_
  refine ex_invs (k := 0) (n := 0) (mc' := 0) (ms' := 0) (As := [_]) dJ1_indexOf_4cfef_1 cs_J1_88 (by decide) (Nat.le_of_ble_eq_true rfl) (s_canEncode _ (by omega)) (fun v h' q => ?_)
  obtain ⟨rfl, rfl⟩ := q
  refine ex_ifB_ne (tgt := 9) (by decide) dJ1_indexOf_4cfef_4 (fun c1 => ?_) (fun c1 => ?_)
  · refine ex_iload_n rfl dJ1_indexOf_4cfef_9 ?_
    refine ex_iconst (v := (nI 0)) (by decide) dJ1_indexOf_4cfef_10 ?_
    refine ex_mmaxN dJ1_indexOf_4cfef_11 cs_J1_92 (by decide) (Nat.le_of_ble_eq_true rfl) (by omega) (by omega) ?_
    refine ex_istore_n (by decide) rfl dJ1_indexOf_4cfef_14 ?_
    refine ex_iload_n rfl dJ1_indexOf_4cfef_15 ?_
    refine ex_aload_n rfl dJ1_indexOf_4cfef_16 ?_
    refine ex_tlen (v := nI ((kStr.getD i []).length)) dJ1_indexOf_4cfef_17 (eTst hi) rfl ?_
    refine ex_mminN dJ1_indexOf_4cfef_18 cs_J1_38 (by decide) (Nat.le_of_ble_eq_true rfl) (by omega) (by omega) ?_
    rw [show min (kLen i) (kStr.getD i []).length = kLen i by omega]
    refine ex_istore_n (by decide) rfl dJ1_indexOf_4cfef_21 ?_
    refine ex_iload_n rfl dJ1_indexOf_4cfef_22 ?_
    refine ex_iload_n rfl dJ1_indexOf_4cfef_23 ?_
    refine ex_icmpN_lt (tgt := 29) (by decide) dJ1_indexOf_4cfef_24 (by omega) (by omega) (fun c2 => ?_) (fun c2 => ?_)
    · refine ex_aload_n rfl dJ1_indexOf_4cfef_29 ?_
      refine ex_iload_n rfl dJ1_indexOf_4cfef_30 ?_
      refine ex_iload_n rfl dJ1_indexOf_4cfef_31 ?_
      refine ex_iload_n rfl dJ1_indexOf_4cfef_32 ?_
      refine ex_invs (k := 0) (n := 0) (mc' := 0) (ms' := 0) (As := [_, _, _, _]) dJ1_indexOf_4cfef_33 cs_J1_95 (by decide) (Nat.le_of_ble_eq_true rfl) (s_idxChar _ hi hc) (fun v h' q => ?_)
      obtain ⟨rfl, rfl⟩ := q
      refine ex_iret dJ1_indexOf_4cfef_36 rfl ⟨rfl, rfl⟩
    · refine ex_iconst (v := (-1)) (by decide) dJ1_indexOf_4cfef_27 ?_
      exact absurd c2 (by show ¬ (kLen i ≤ max 0 0); omega)
  · refine ex_iconst (v := (-1)) (by decide) dJ1_indexOf_4cfef_7 ?_
    cases c1
set_option maxHeartbeats 4000000 in
set_option maxRecDepth 100000 in
theorem s_idx2 {G : EG} {l : Launch} (h : EH) {i : Nat} (hi : i < 12) {c : Nat} (hc : c < 128) (h0 : 0 < kLen i) : ES G l 2 mJ0_indexOf_7cf53 [.ref (ead G (16 + i)), .int (nI c), .int (nI 0)] h 0 0 (fun v h' => v = some (.int (oI (fnd (kCh i) c 0 (kLen i)))) ∧ h' = h) eNoX := by
  refine es_of (by decide) rfl (Nat.le_of_ble_eq_true rfl) ?_
  refine ex_aload_n rfl dJ0_indexOf_7cf53_0 ?_
  refine ex_invv (k := 0) (n := 0) (mc' := 0) (ms' := 0) (As := []) dJ0_indexOf_7cf53_1 cv_J0_492 (by decide) (Nat.le_of_ble_eq_true rfl) (Or.inr (eOs hi)) (s_isLatin1 _ hi) (fun v h' q => ?_)
  obtain ⟨rfl, rfl⟩ := q
  refine ex_ifB_eq (tgt := 23) (by decide) dJ0_indexOf_7cf53_4 (fun c1 => ?_) (fun c1 => ?_)
  · cases c1
  · refine ex_aload_n rfl dJ0_indexOf_7cf53_7 ?_
    refine ex_getc (z := ("java/lang/String", "value", "[B", .ref (ead G (32 + i)), ead G (16 + i))) dJ0_indexOf_7cf53_8 (eF2 hi 0 rfl) gc_J0_9 ?_
    refine ex_iload_n rfl dJ0_indexOf_7cf53_11 ?_
    refine ex_iload_n rfl dJ0_indexOf_7cf53_12 ?_
    refine ex_aload_n rfl dJ0_indexOf_7cf53_13 ?_
    refine ex_invv (k := 0) (n := 0) (mc' := 0) (ms' := 0) (As := []) dJ0_indexOf_7cf53_14 cv_J0_505 (by decide) (Nat.le_of_ble_eq_true rfl) (Or.inr (eOs hi)) (s_slength _ hi) (fun v h' q => ?_)
    obtain ⟨rfl, rfl⟩ := q
    refine ex_invs (k := 0) (n := 0) (mc' := 0) (ms' := 0) (As := [_, _, _, _]) dJ0_indexOf_7cf53_17 cs_J0_637 (by decide) (Nat.le_of_ble_eq_true rfl) (s_l1idx _ hi hc h0) (fun v h' q => ?_)
    obtain ⟨rfl, rfl⟩ := q
    refine ex_goto (tgt := 36) (by decide) dJ0_indexOf_7cf53_20 ?_
    refine ex_iret dJ0_indexOf_7cf53_36 rfl ⟨rfl, rfl⟩
set_option maxHeartbeats 4000000 in
set_option maxRecDepth 100000 in
theorem s_indexOf {G : EG} {l : Launch} (h : EH) {i : Nat} (hi : i < 12) {c : Nat} (hc : c < 128) (h0 : 0 < kLen i) : ES G l 3 mJ0_indexOf_0f7a4 [.ref (ead G (16 + i)), .int (nI c)] h 0 0 (fun v h' => v = some (.int (oI (fnd (kCh i) c 0 (kLen i)))) ∧ h' = h) eNoX := by
  refine es_of (by decide) rfl (Nat.le_of_ble_eq_true rfl) ?_
  refine ex_aload_n rfl dJ0_indexOf_0f7a4_0 ?_
  refine ex_iload_n rfl dJ0_indexOf_0f7a4_1 ?_
  refine ex_iconst (v := (nI 0)) (by decide) dJ0_indexOf_0f7a4_2 ?_
  refine ex_invv (k := 0) (n := 0) (mc' := 0) (ms' := 0) (As := [_, _]) dJ0_indexOf_0f7a4_3 cv_J0_633 (by decide) (Nat.le_of_ble_eq_true rfl) (Or.inr (eOs hi)) (s_idx2 _ hi hc h0) (fun v h' q => ?_)
  obtain ⟨rfl, rfl⟩ := q
  refine ex_iret dJ0_indexOf_0f7a4_6 rfl ⟨rfl, rfl⟩
