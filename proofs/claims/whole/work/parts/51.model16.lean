/-! THE MODEL: its constructor -/
def y0M (cap : Nat) : MS := (va_up (fun _ => 0) 0 cap, (-1, -1), (fun _ _ => 0), (fun _ => 0), (fun _ => false), (fun _ => false))
theorem capN_1 {z : Int32} (h : ¬ nI 1 ≤ z) : capN z = 1 := by
  have := Int32.not_le.mp h
  rw [Int32.lt_iff_toInt_lt, show (nI 1).toInt = 1 from rfl] at this
  unfold capN
  rw [if_pos this]
theorem capN_8 {z : Int32} (h : ¬ z ≤ nI 8) : capN z = 8 := by
  have := Int32.not_le.mp h
  rw [Int32.lt_iff_toInt_lt, show (nI 8).toInt = 8 from rfl] at this
  unfold capN
  rw [if_neg (by omega), if_pos this]
theorem capN_z {z : Int32} (h1 : nI 1 ≤ z) (h8 : z ≤ nI 8) : z = nI (capN z) := by
  rw [Int32.le_iff_toInt_le, show (nI 1).toInt = 1 from rfl] at h1
  rw [Int32.le_iff_toInt_le, show (nI 8).toInt = 8 from rfl] at h8
  unfold capN
  rw [if_neg (by omega), if_neg (by omega)]
  apply Int32.toInt_inj.mp
  rw [nI_toInt (by omega)]
  omega
set_option maxHeartbeats 4000000 in
set_option maxRecDepth 100000 in
theorem l_in18 {G : EG} {l : Launch} {h0 : EH} {M : Nat} {z : Int32} {h : EH} (h1 : h.1 = M + 19) (ho : h.2 M = some (.inr (8, [.int 0, .int 0, .int 0, .ref (M + 1), .int 0, .int (-1), .int 0, .ref (M + 2), .ref (M + 3), .ref (M + 4), .ref (M + 5), .int (-1), .int 0, .int 0, .ref (M + 6), .ref (M + 7), .ref (M + 8), .ref (M + 9), .ref (M + 10), .ref (M + 11), .ref (M + 12), .int 0, .ref (M + 13), .ref (M + 14), .int 0, .int 0, .int 0, .ref (M + 15), .int 0, .ref (M + 16), .ref (M + 17), .ref (M + 18)]))) (ha : ∀ i, 1 ≤ i → i ≤ 18 → h.2 (M + i) = some (mAr G (y0M 0) i)) (hb : ∀ q, q < M → h.2 q = h0.2 q) : Ex G l 1 mX12_init (fun v h' => v = none ∧ h'.1 = M + 19 ∧ MD G h' M (y0M (capN z)) ∧ ∀ q, q < M → h'.2 q = h0.2 q) eNoX 0 0 161 [(0, .ref M), (1, .int z)] [] h := by
  refine ex_aload_n rfl dX12_init_161 ?_
  refine ex_iload_n rfl dX12_init_162 ?_
  refine ex_iconst (v := (nI 1)) (by decide) dX12_init_163 ?_
  refine ex_icmp_ge (tgt := 171) (by decide) dX12_init_164 (fun c1 => ?_) (fun c1 => ?_)
  · refine ex_iload_n rfl dX12_init_171 ?_
    refine ex_bipush (v := (nI 8)) (by decide) dX12_init_172 ?_
    refine ex_icmp_le (tgt := 182) (by decide) dX12_init_174 (fun c2 => ?_) (fun c2 => ?_)
    · refine ex_iload_n rfl dX12_init_182 ?_
      refine ex_putF dX12_init_183 pf_X12_73 rfl ho (Nat.le_of_ble_eq_true rfl) rfl rfl ?_
      refine ex_vret dX12_init_186 rfl ⟨rfl, h1, (by have e : MD G (hup h M (.inr (8, ([.int 0, .int 0, .int 0, .ref (M + 1), .int 0, .int (-1), .int 0, .ref (M + 2), .ref (M + 3), .ref (M + 4), .ref (M + 5), .int (-1), .int 0, .int 0, .ref (M + 6), .ref (M + 7), .ref (M + 8), .ref (M + 9), .ref (M + 10), .ref (M + 11), .ref (M + 12), .int 0, .ref (M + 13), .ref (M + 14), .int 0, .int 0, .int 0, .ref (M + 15), .int 0, .ref (M + 16), .ref (M + 17), .ref (M + 18)] : List Value).set 0 (.int (nI (capN z)))))) M (y0M (capN z)) := ⟨hup_eq, fun i h1 h2 => hup_ne (by omega) (ha i h1 h2)⟩; rw [← capN_z c1 c2] at e; exact e), fun q hq => hup_ne (by omega) (hb q hq)⟩
    · refine ex_bipush (v := (nI 8)) (by decide) dX12_init_177 ?_
      refine ex_goto (tgt := 183) (by decide) dX12_init_179 ?_
      refine ex_putF dX12_init_183 pf_X12_73 rfl ho (Nat.le_of_ble_eq_true rfl) rfl rfl ?_
      refine ex_vret dX12_init_186 rfl ⟨rfl, h1, (by rw [capN_8 c2]; exact ⟨hup_eq, fun i h1 h2 => hup_ne (by omega) (ha i h1 h2)⟩), fun q hq => hup_ne (by omega) (hb q hq)⟩
  · refine ex_iconst (v := (nI 1)) (by decide) dX12_init_167 ?_
    refine ex_goto (tgt := 183) (by decide) dX12_init_168 ?_
    refine ex_putF dX12_init_183 pf_X12_73 rfl ho (Nat.le_of_ble_eq_true rfl) rfl rfl ?_
    refine ex_vret dX12_init_186 rfl ⟨rfl, h1, (by rw [capN_1 c1]; exact ⟨hup_eq, fun i h1 h2 => hup_ne (by omega) (ha i h1 h2)⟩), fun q hq => hup_ne (by omega) (hb q hq)⟩
set_option maxHeartbeats 4000000 in
set_option maxRecDepth 100000 in
theorem l_in17 {G : EG} {l : Launch} {h0 : EH} {M : Nat} {z : Int32} {h : EH} (h1 : h.1 = M + 18) (ho : h.2 M = some (.inr (8, [.int 0, .int 0, .int 0, .ref (M + 1), .int 0, .int (-1), .int 0, .ref (M + 2), .ref (M + 3), .ref (M + 4), .ref (M + 5), .int (-1), .int 0, .int 0, .ref (M + 6), .ref (M + 7), .ref (M + 8), .ref (M + 9), .ref (M + 10), .ref (M + 11), .ref (M + 12), .int 0, .ref (M + 13), .ref (M + 14), .int 0, .int 0, .int 0, .ref (M + 15), .int 0, .ref (M + 16), .ref (M + 17), .null]))) (ha : ∀ i, 1 ≤ i → i ≤ 17 → h.2 (M + i) = some (mAr G (y0M 0) i)) (hb : ∀ q, q < M → h.2 q = h0.2 q) : Ex G l 1 mX12_init (fun v h' => v = none ∧ h'.1 = M + 19 ∧ MD G h' M (y0M (capN z)) ∧ ∀ q, q < M → h'.2 q = h0.2 q) eNoX 1 8 153 [(0, .ref M), (1, .int z)] [] h := by
  obtain ⟨hs, hf⟩ := h
  change hs = M + 18 at h1
  subst h1
  refine ex_aload_n rfl dX12_init_153 ?_
  refine ex_bipush (v := (nI 8)) (by decide) dX12_init_154 ?_
  refine ex_newa_bool (k := 0) (n := 0) dX12_init_156 ac_boolean (N := 8) (by decide) (by decide) (by decide) ?_
  refine ex_putF dX12_init_158 pf_X12_70 rfl (hnew_ne (show M ≠ M + 18 by omega) ho) (Nat.le_of_ble_eq_true rfl) rfl rfl ?_
  exact ex_lv [(0, .ref M), (1, .int z)] ⟨rfl, rfl, trivial⟩ (l_in18 (h0 := h0) rfl hup_eq (fun i h1 h2 => by rcases Nat.lt_or_ge i 18 with q | q; exact hup_ne (by omega) (hnew_ne (show M + i ≠ M + 18 by omega) (ha i h1 (by omega))); obtain rfl : i = 18 := (by omega); exact hup_ne (by omega) hnew_eq) (fun q hq => hup_ne (by omega) (hnew_ne (show q ≠ M + 18 by omega) (hb q hq))))
set_option maxHeartbeats 4000000 in
set_option maxRecDepth 100000 in
theorem l_in16 {G : EG} {l : Launch} {h0 : EH} {M : Nat} {z : Int32} {h : EH} (h1 : h.1 = M + 17) (ho : h.2 M = some (.inr (8, [.int 0, .int 0, .int 0, .ref (M + 1), .int 0, .int (-1), .int 0, .ref (M + 2), .ref (M + 3), .ref (M + 4), .ref (M + 5), .int (-1), .int 0, .int 0, .ref (M + 6), .ref (M + 7), .ref (M + 8), .ref (M + 9), .ref (M + 10), .ref (M + 11), .ref (M + 12), .int 0, .ref (M + 13), .ref (M + 14), .int 0, .int 0, .int 0, .ref (M + 15), .int 0, .ref (M + 16), .null, .null]))) (ha : ∀ i, 1 ≤ i → i ≤ 16 → h.2 (M + i) = some (mAr G (y0M 0) i)) (hb : ∀ q, q < M → h.2 q = h0.2 q) : Ex G l 1 mX12_init (fun v h' => v = none ∧ h'.1 = M + 19 ∧ MD G h' M (y0M (capN z)) ∧ ∀ q, q < M → h'.2 q = h0.2 q) eNoX 2 16 145 [(0, .ref M), (1, .int z)] [] h := by
  obtain ⟨hs, hf⟩ := h
  change hs = M + 17 at h1
  subst h1
  refine ex_aload_n rfl dX12_init_145 ?_
  refine ex_bipush (v := (nI 8)) (by decide) dX12_init_146 ?_
  refine ex_newa_bool (k := 1) (n := 8) dX12_init_148 ac_boolean (N := 8) (by decide) (by decide) (by decide) ?_
  refine ex_putF dX12_init_150 pf_X12_66 rfl (hnew_ne (show M ≠ M + 17 by omega) ho) (Nat.le_of_ble_eq_true rfl) rfl rfl ?_
  exact ex_lv [(0, .ref M), (1, .int z)] ⟨rfl, rfl, trivial⟩ (l_in17 (h0 := h0) rfl hup_eq (fun i h1 h2 => by rcases Nat.lt_or_ge i 17 with q | q; exact hup_ne (by omega) (hnew_ne (show M + i ≠ M + 17 by omega) (ha i h1 (by omega))); obtain rfl : i = 17 := (by omega); exact hup_ne (by omega) hnew_eq) (fun q hq => hup_ne (by omega) (hnew_ne (show q ≠ M + 17 by omega) (hb q hq))))
set_option maxHeartbeats 4000000 in
set_option maxRecDepth 100000 in
theorem l_in15 {G : EG} {l : Launch} {h0 : EH} {M : Nat} {z : Int32} {h : EH} (h1 : h.1 = M + 16) (ho : h.2 M = some (.inr (8, [.int 0, .int 0, .int 0, .ref (M + 1), .int 0, .int (-1), .int 0, .ref (M + 2), .ref (M + 3), .ref (M + 4), .ref (M + 5), .int (-1), .int 0, .int 0, .ref (M + 6), .ref (M + 7), .ref (M + 8), .ref (M + 9), .ref (M + 10), .ref (M + 11), .ref (M + 12), .int 0, .ref (M + 13), .ref (M + 14), .int 0, .int 0, .int 0, .ref (M + 15), .int 0, .null, .null, .null]))) (ha : ∀ i, 1 ≤ i → i ≤ 15 → h.2 (M + i) = some (mAr G (y0M 0) i)) (hb : ∀ q, q < M → h.2 q = h0.2 q) : Ex G l 1 mX12_init (fun v h' => v = none ∧ h'.1 = M + 19 ∧ MD G h' M (y0M (capN z)) ∧ ∀ q, q < M → h'.2 q = h0.2 q) eNoX 3 436 136 [(0, .ref M), (1, .int z)] [] h := by
  obtain ⟨hs, hf⟩ := h
  change hs = M + 16 at h1
  subst h1
  refine ex_aload_n rfl dX12_init_136 ?_
  refine ex_sipush (v := (nI 420)) (by decide) dX12_init_137 ?_
  refine ex_newa_int (k := 2) (n := 16) dX12_init_140 ac_int (N := 420) (by decide) (by decide) (by decide) ?_
  refine ex_putF dX12_init_142 pf_X12_63 rfl (hnew_ne (show M ≠ M + 16 by omega) ho) (Nat.le_of_ble_eq_true rfl) rfl rfl ?_
  exact ex_lv [(0, .ref M), (1, .int z)] ⟨rfl, rfl, trivial⟩ (l_in16 (h0 := h0) rfl hup_eq (fun i h1 h2 => by rcases Nat.lt_or_ge i 16 with q | q; exact hup_ne (by omega) (hnew_ne (show M + i ≠ M + 16 by omega) (ha i h1 (by omega))); obtain rfl : i = 16 := (by omega); exact hup_ne (by omega) hnew_eq) (fun q hq => hup_ne (by omega) (hnew_ne (show q ≠ M + 16 by omega) (hb q hq))))
set_option maxHeartbeats 4000000 in
set_option maxRecDepth 100000 in
theorem l_in14 {G : EG} {l : Launch} {h0 : EH} {M : Nat} {z : Int32} {h : EH} (h1 : h.1 = M + 15) (ho : h.2 M = some (.inr (8, [.int 0, .int 0, .int 0, .ref (M + 1), .int 0, .int (-1), .int 0, .ref (M + 2), .ref (M + 3), .ref (M + 4), .ref (M + 5), .int (-1), .int 0, .int 0, .ref (M + 6), .ref (M + 7), .ref (M + 8), .ref (M + 9), .ref (M + 10), .ref (M + 11), .ref (M + 12), .int 0, .ref (M + 13), .ref (M + 14), .int 0, .int 0, .int 0, .null, .int 0, .null, .null, .null]))) (ha : ∀ i, 1 ≤ i → i ≤ 14 → h.2 (M + i) = some (mAr G (y0M 0) i)) (hb : ∀ q, q < M → h.2 q = h0.2 q) : Ex G l 1 mX12_init (fun v h' => v = none ∧ h'.1 = M + 19 ∧ MD G h' M (y0M (capN z)) ∧ ∀ q, q < M → h'.2 q = h0.2 q) eNoX 4 856 127 [(0, .ref M), (1, .int z)] [] h := by
  obtain ⟨hs, hf⟩ := h
  change hs = M + 15 at h1
  subst h1
  refine ex_aload_n rfl dX12_init_127 ?_
  refine ex_sipush (v := (nI 420)) (by decide) dX12_init_128 ?_
  refine ex_newa_int (k := 3) (n := 436) dX12_init_131 ac_int (N := 420) (by decide) (by decide) (by decide) ?_
  refine ex_putF dX12_init_133 pf_X12_60 rfl (hnew_ne (show M ≠ M + 15 by omega) ho) (Nat.le_of_ble_eq_true rfl) rfl rfl ?_
  exact ex_lv [(0, .ref M), (1, .int z)] ⟨rfl, rfl, trivial⟩ (l_in15 (h0 := h0) rfl hup_eq (fun i h1 h2 => by rcases Nat.lt_or_ge i 15 with q | q; exact hup_ne (by omega) (hnew_ne (show M + i ≠ M + 15 by omega) (ha i h1 (by omega))); obtain rfl : i = 15 := (by omega); exact hup_ne (by omega) hnew_eq) (fun q hq => hup_ne (by omega) (hnew_ne (show q ≠ M + 15 by omega) (hb q hq))))
set_option maxHeartbeats 4000000 in
set_option maxRecDepth 100000 in
theorem l_in13 {G : EG} {l : Launch} {h0 : EH} {M : Nat} {z : Int32} {h : EH} (h1 : h.1 = M + 14) (ho : h.2 M = some (.inr (8, [.int 0, .int 0, .int 0, .ref (M + 1), .int 0, .int (-1), .int 0, .ref (M + 2), .ref (M + 3), .ref (M + 4), .ref (M + 5), .int (-1), .int 0, .int 0, .ref (M + 6), .ref (M + 7), .ref (M + 8), .ref (M + 9), .ref (M + 10), .ref (M + 11), .ref (M + 12), .int 0, .ref (M + 13), .null, .int 0, .int 0, .int 0, .null, .int 0, .null, .null, .null]))) (ha : ∀ i, 1 ≤ i → i ≤ 13 → h.2 (M + i) = some (mAr G (y0M 0) i)) (hb : ∀ q, q < M → h.2 q = h0.2 q) : Ex G l 1 mX12_init (fun v h' => v = none ∧ h'.1 = M + 19 ∧ MD G h' M (y0M (capN z)) ∧ ∀ q, q < M → h'.2 q = h0.2 q) eNoX 5 865 119 [(0, .ref M), (1, .int z)] [] h := by
  obtain ⟨hs, hf⟩ := h
  change hs = M + 14 at h1
  subst h1
  refine ex_aload_n rfl dX12_init_119 ?_
  refine ex_bipush (v := (nI 9)) (by decide) dX12_init_120 ?_
  refine ex_newa_int (k := 4) (n := 856) dX12_init_122 ac_int (N := 9) (by decide) (by decide) (by decide) ?_
  refine ex_putF dX12_init_124 pf_X12_57 rfl (hnew_ne (show M ≠ M + 14 by omega) ho) (Nat.le_of_ble_eq_true rfl) rfl rfl ?_
  exact ex_lv [(0, .ref M), (1, .int z)] ⟨rfl, rfl, trivial⟩ (l_in14 (h0 := h0) rfl hup_eq (fun i h1 h2 => by rcases Nat.lt_or_ge i 14 with q | q; exact hup_ne (by omega) (hnew_ne (show M + i ≠ M + 14 by omega) (ha i h1 (by omega))); obtain rfl : i = 14 := (by omega); exact hup_ne (by omega) hnew_eq) (fun q hq => hup_ne (by omega) (hnew_ne (show q ≠ M + 14 by omega) (hb q hq))))
set_option maxHeartbeats 4000000 in
set_option maxRecDepth 100000 in
theorem l_in12 {G : EG} {l : Launch} {h0 : EH} {M : Nat} {z : Int32} {h : EH} (h1 : h.1 = M + 13) (ho : h.2 M = some (.inr (8, [.int 0, .int 0, .int 0, .ref (M + 1), .int 0, .int (-1), .int 0, .ref (M + 2), .ref (M + 3), .ref (M + 4), .ref (M + 5), .int (-1), .int 0, .int 0, .ref (M + 6), .ref (M + 7), .ref (M + 8), .ref (M + 9), .ref (M + 10), .ref (M + 11), .ref (M + 12), .int 0, .null, .null, .int 0, .int 0, .int 0, .null, .int 0, .null, .null, .null]))) (ha : ∀ i, 1 ≤ i → i ≤ 12 → h.2 (M + i) = some (mAr G (y0M 0) i)) (hb : ∀ q, q < M → h.2 q = h0.2 q) : Ex G l 1 mX12_init (fun v h' => v = none ∧ h'.1 = M + 19 ∧ MD G h' M (y0M (capN z)) ∧ ∀ q, q < M → h'.2 q = h0.2 q) eNoX 6 874 111 [(0, .ref M), (1, .int z)] [] h := by
  obtain ⟨hs, hf⟩ := h
  change hs = M + 13 at h1
  subst h1
  refine ex_aload_n rfl dX12_init_111 ?_
  refine ex_bipush (v := (nI 9)) (by decide) dX12_init_112 ?_
  refine ex_newa_int (k := 5) (n := 865) dX12_init_114 ac_int (N := 9) (by decide) (by decide) (by decide) ?_
  refine ex_putF dX12_init_116 pf_X12_54 rfl (hnew_ne (show M ≠ M + 13 by omega) ho) (Nat.le_of_ble_eq_true rfl) rfl rfl ?_
  exact ex_lv [(0, .ref M), (1, .int z)] ⟨rfl, rfl, trivial⟩ (l_in13 (h0 := h0) rfl hup_eq (fun i h1 h2 => by rcases Nat.lt_or_ge i 13 with q | q; exact hup_ne (by omega) (hnew_ne (show M + i ≠ M + 13 by omega) (ha i h1 (by omega))); obtain rfl : i = 13 := (by omega); exact hup_ne (by omega) hnew_eq) (fun q hq => hup_ne (by omega) (hnew_ne (show q ≠ M + 13 by omega) (hb q hq))))
set_option maxHeartbeats 4000000 in
set_option maxRecDepth 100000 in
theorem l_in11 {G : EG} {l : Launch} {h0 : EH} {M : Nat} {z : Int32} {h : EH} (h1 : h.1 = M + 12) (ho : h.2 M = some (.inr (8, [.int 0, .int 0, .int 0, .ref (M + 1), .int 0, .int (-1), .int 0, .ref (M + 2), .ref (M + 3), .ref (M + 4), .ref (M + 5), .int (-1), .int 0, .int 0, .ref (M + 6), .ref (M + 7), .ref (M + 8), .ref (M + 9), .ref (M + 10), .ref (M + 11), .null, .int 0, .null, .null, .int 0, .int 0, .int 0, .null, .int 0, .null, .null, .null]))) (ha : ∀ i, 1 ≤ i → i ≤ 11 → h.2 (M + i) = some (mAr G (y0M 0) i)) (hb : ∀ q, q < M → h.2 q = h0.2 q) : Ex G l 1 mX12_init (fun v h' => v = none ∧ h'.1 = M + 19 ∧ MD G h' M (y0M (capN z)) ∧ ∀ q, q < M → h'.2 q = h0.2 q) eNoX 7 877 104 [(0, .ref M), (1, .int z)] [] h := by
  obtain ⟨hs, hf⟩ := h
  change hs = M + 12 at h1
  subst h1
  refine ex_aload_n rfl dX12_init_104 ?_
  refine ex_iconst (v := (nI 3)) (by decide) dX12_init_105 ?_
  refine ex_newa_int (k := 6) (n := 874) dX12_init_106 ac_int (N := 3) (by decide) (by decide) (by decide) ?_
  refine ex_putF dX12_init_108 pf_X12_51 rfl (hnew_ne (show M ≠ M + 12 by omega) ho) (Nat.le_of_ble_eq_true rfl) rfl rfl ?_
  exact ex_lv [(0, .ref M), (1, .int z)] ⟨rfl, rfl, trivial⟩ (l_in12 (h0 := h0) rfl hup_eq (fun i h1 h2 => by rcases Nat.lt_or_ge i 12 with q | q; exact hup_ne (by omega) (hnew_ne (show M + i ≠ M + 12 by omega) (ha i h1 (by omega))); obtain rfl : i = 12 := (by omega); exact hup_ne (by omega) hnew_eq) (fun q hq => hup_ne (by omega) (hnew_ne (show q ≠ M + 12 by omega) (hb q hq))))
set_option maxHeartbeats 4000000 in
set_option maxRecDepth 100000 in
theorem l_in10 {G : EG} {l : Launch} {h0 : EH} {M : Nat} {z : Int32} {h : EH} (h1 : h.1 = M + 11) (ho : h.2 M = some (.inr (8, [.int 0, .int 0, .int 0, .ref (M + 1), .int 0, .int (-1), .int 0, .ref (M + 2), .ref (M + 3), .ref (M + 4), .ref (M + 5), .int (-1), .int 0, .int 0, .ref (M + 6), .ref (M + 7), .ref (M + 8), .ref (M + 9), .ref (M + 10), .null, .null, .int 0, .null, .null, .int 0, .int 0, .int 0, .null, .int 0, .null, .null, .null]))) (ha : ∀ i, 1 ≤ i → i ≤ 10 → h.2 (M + i) = some (mAr G (y0M 0) i)) (hb : ∀ q, q < M → h.2 q = h0.2 q) : Ex G l 1 mX12_init (fun v h' => v = none ∧ h'.1 = M + 19 ∧ MD G h' M (y0M (capN z)) ∧ ∀ q, q < M → h'.2 q = h0.2 q) eNoX 8 885 96 [(0, .ref M), (1, .int z)] [] h := by
  obtain ⟨hs, hf⟩ := h
  change hs = M + 11 at h1
  subst h1
  refine ex_aload_n rfl dX12_init_96 ?_
  refine ex_bipush (v := (nI 8)) (by decide) dX12_init_97 ?_
  refine ex_newa_int (k := 7) (n := 877) dX12_init_99 ac_int (N := 8) (by decide) (by decide) (by decide) ?_
  refine ex_putF dX12_init_101 pf_X12_48 rfl (hnew_ne (show M ≠ M + 11 by omega) ho) (Nat.le_of_ble_eq_true rfl) rfl rfl ?_
  exact ex_lv [(0, .ref M), (1, .int z)] ⟨rfl, rfl, trivial⟩ (l_in11 (h0 := h0) rfl hup_eq (fun i h1 h2 => by rcases Nat.lt_or_ge i 11 with q | q; exact hup_ne (by omega) (hnew_ne (show M + i ≠ M + 11 by omega) (ha i h1 (by omega))); obtain rfl : i = 11 := (by omega); exact hup_ne (by omega) hnew_eq) (fun q hq => hup_ne (by omega) (hnew_ne (show q ≠ M + 11 by omega) (hb q hq))))
set_option maxHeartbeats 4000000 in
set_option maxRecDepth 100000 in
theorem l_in9 {G : EG} {l : Launch} {h0 : EH} {M : Nat} {z : Int32} {h : EH} (h1 : h.1 = M + 10) (ho : h.2 M = some (.inr (8, [.int 0, .int 0, .int 0, .ref (M + 1), .int 0, .int (-1), .int 0, .ref (M + 2), .ref (M + 3), .ref (M + 4), .ref (M + 5), .int (-1), .int 0, .int 0, .ref (M + 6), .ref (M + 7), .ref (M + 8), .ref (M + 9), .null, .null, .null, .int 0, .null, .null, .int 0, .int 0, .int 0, .null, .int 0, .null, .null, .null]))) (ha : ∀ i, 1 ≤ i → i ≤ 9 → h.2 (M + i) = some (mAr G (y0M 0) i)) (hb : ∀ q, q < M → h.2 q = h0.2 q) : Ex G l 1 mX12_init (fun v h' => v = none ∧ h'.1 = M + 19 ∧ MD G h' M (y0M (capN z)) ∧ ∀ q, q < M → h'.2 q = h0.2 q) eNoX 9 900 88 [(0, .ref M), (1, .int z)] [] h := by
  obtain ⟨hs, hf⟩ := h
  change hs = M + 10 at h1
  subst h1
  refine ex_aload_n rfl dX12_init_88 ?_
  refine ex_bipush (v := (nI 15)) (by decide) dX12_init_89 ?_
  refine ex_newa_int (k := 8) (n := 885) dX12_init_91 ac_int (N := 15) (by decide) (by decide) (by decide) ?_
  refine ex_putF dX12_init_93 pf_X12_45 rfl (hnew_ne (show M ≠ M + 10 by omega) ho) (Nat.le_of_ble_eq_true rfl) rfl rfl ?_
  exact ex_lv [(0, .ref M), (1, .int z)] ⟨rfl, rfl, trivial⟩ (l_in10 (h0 := h0) rfl hup_eq (fun i h1 h2 => by rcases Nat.lt_or_ge i 10 with q | q; exact hup_ne (by omega) (hnew_ne (show M + i ≠ M + 10 by omega) (ha i h1 (by omega))); obtain rfl : i = 10 := (by omega); exact hup_ne (by omega) hnew_eq) (fun q hq => hup_ne (by omega) (hnew_ne (show q ≠ M + 10 by omega) (hb q hq))))
set_option maxHeartbeats 4000000 in
set_option maxRecDepth 100000 in
theorem l_in8 {G : EG} {l : Launch} {h0 : EH} {M : Nat} {z : Int32} {h : EH} (h1 : h.1 = M + 9) (ho : h.2 M = some (.inr (8, [.int 0, .int 0, .int 0, .ref (M + 1), .int 0, .int (-1), .int 0, .ref (M + 2), .ref (M + 3), .ref (M + 4), .ref (M + 5), .int (-1), .int 0, .int 0, .ref (M + 6), .ref (M + 7), .ref (M + 8), .null, .null, .null, .null, .int 0, .null, .null, .int 0, .int 0, .int 0, .null, .int 0, .null, .null, .null]))) (ha : ∀ i, 1 ≤ i → i ≤ 8 → h.2 (M + i) = some (mAr G (y0M 0) i)) (hb : ∀ q, q < M → h.2 q = h0.2 q) : Ex G l 1 mX12_init (fun v h' => v = none ∧ h'.1 = M + 19 ∧ MD G h' M (y0M (capN z)) ∧ ∀ q, q < M → h'.2 q = h0.2 q) eNoX 10 1092 79 [(0, .ref M), (1, .int z)] [] h := by
  obtain ⟨hs, hf⟩ := h
  change hs = M + 9 at h1
  subst h1
  refine ex_aload_n rfl dX12_init_79 ?_
  refine ex_sipush (v := (nI 192)) (by decide) dX12_init_80 ?_
  refine ex_newa_int (k := 9) (n := 900) dX12_init_83 ac_int (N := 192) (by decide) (by decide) (by decide) ?_
  refine ex_putF dX12_init_85 pf_X12_42 rfl (hnew_ne (show M ≠ M + 9 by omega) ho) (Nat.le_of_ble_eq_true rfl) rfl rfl ?_
  exact ex_lv [(0, .ref M), (1, .int z)] ⟨rfl, rfl, trivial⟩ (l_in9 (h0 := h0) rfl hup_eq (fun i h1 h2 => by rcases Nat.lt_or_ge i 9 with q | q; exact hup_ne (by omega) (hnew_ne (show M + i ≠ M + 9 by omega) (ha i h1 (by omega))); obtain rfl : i = 9 := (by omega); exact hup_ne (by omega) hnew_eq) (fun q hq => hup_ne (by omega) (hnew_ne (show q ≠ M + 9 by omega) (hb q hq))))
set_option maxHeartbeats 4000000 in
set_option maxRecDepth 100000 in
theorem l_in7 {G : EG} {l : Launch} {h0 : EH} {M : Nat} {z : Int32} {h : EH} (h1 : h.1 = M + 8) (ho : h.2 M = some (.inr (8, [.int 0, .int 0, .int 0, .ref (M + 1), .int 0, .int (-1), .int 0, .ref (M + 2), .ref (M + 3), .ref (M + 4), .ref (M + 5), .int (-1), .int 0, .int 0, .ref (M + 6), .ref (M + 7), .null, .null, .null, .null, .null, .int 0, .null, .null, .int 0, .int 0, .int 0, .null, .int 0, .null, .null, .null]))) (ha : ∀ i, 1 ≤ i → i ≤ 7 → h.2 (M + i) = some (mAr G (y0M 0) i)) (hb : ∀ q, q < M → h.2 q = h0.2 q) : Ex G l 1 mX12_init (fun v h' => v = none ∧ h'.1 = M + 19 ∧ MD G h' M (y0M (capN z)) ∧ ∀ q, q < M → h'.2 q = h0.2 q) eNoX 11 1284 70 [(0, .ref M), (1, .int z)] [] h := by
  obtain ⟨hs, hf⟩ := h
  change hs = M + 8 at h1
  subst h1
  refine ex_aload_n rfl dX12_init_70 ?_
  refine ex_sipush (v := (nI 192)) (by decide) dX12_init_71 ?_
  refine ex_newa_int (k := 10) (n := 1092) dX12_init_74 ac_int (N := 192) (by decide) (by decide) (by decide) ?_
  refine ex_putF dX12_init_76 pf_X12_39 rfl (hnew_ne (show M ≠ M + 8 by omega) ho) (Nat.le_of_ble_eq_true rfl) rfl rfl ?_
  exact ex_lv [(0, .ref M), (1, .int z)] ⟨rfl, rfl, trivial⟩ (l_in8 (h0 := h0) rfl hup_eq (fun i h1 h2 => by rcases Nat.lt_or_ge i 8 with q | q; exact hup_ne (by omega) (hnew_ne (show M + i ≠ M + 8 by omega) (ha i h1 (by omega))); obtain rfl : i = 8 := (by omega); exact hup_ne (by omega) hnew_eq) (fun q hq => hup_ne (by omega) (hnew_ne (show q ≠ M + 8 by omega) (hb q hq))))
set_option maxHeartbeats 4000000 in
set_option maxRecDepth 100000 in
theorem l_in6 {G : EG} {l : Launch} {h0 : EH} {M : Nat} {z : Int32} {h : EH} (h1 : h.1 = M + 7) (ho : h.2 M = some (.inr (8, [.int 0, .int 0, .int 0, .ref (M + 1), .int 0, .int (-1), .int 0, .ref (M + 2), .ref (M + 3), .ref (M + 4), .ref (M + 5), .int (-1), .int 0, .int 0, .ref (M + 6), .null, .null, .null, .null, .null, .null, .int 0, .null, .null, .int 0, .int 0, .int 0, .null, .int 0, .null, .null, .null]))) (ha : ∀ i, 1 ≤ i → i ≤ 6 → h.2 (M + i) = some (mAr G (y0M 0) i)) (hb : ∀ q, q < M → h.2 q = h0.2 q) : Ex G l 1 mX12_init (fun v h' => v = none ∧ h'.1 = M + 19 ∧ MD G h' M (y0M (capN z)) ∧ ∀ q, q < M → h'.2 q = h0.2 q) eNoX 12 1292 62 [(0, .ref M), (1, .int z)] [] h := by
  obtain ⟨hs, hf⟩ := h
  change hs = M + 7 at h1
  subst h1
  refine ex_aload_n rfl dX12_init_62 ?_
  refine ex_bipush (v := (nI 8)) (by decide) dX12_init_63 ?_
  refine ex_newa_int (k := 11) (n := 1284) dX12_init_65 ac_int (N := 8) (by decide) (by decide) (by decide) ?_
  refine ex_putF dX12_init_67 pf_X12_36 rfl (hnew_ne (show M ≠ M + 7 by omega) ho) (Nat.le_of_ble_eq_true rfl) rfl rfl ?_
  exact ex_lv [(0, .ref M), (1, .int z)] ⟨rfl, rfl, trivial⟩ (l_in7 (h0 := h0) rfl hup_eq (fun i h1 h2 => by rcases Nat.lt_or_ge i 7 with q | q; exact hup_ne (by omega) (hnew_ne (show M + i ≠ M + 7 by omega) (ha i h1 (by omega))); obtain rfl : i = 7 := (by omega); exact hup_ne (by omega) hnew_eq) (fun q hq => hup_ne (by omega) (hnew_ne (show q ≠ M + 7 by omega) (hb q hq))))
set_option maxHeartbeats 4000000 in
set_option maxRecDepth 100000 in
theorem l_in5 {G : EG} {l : Launch} {h0 : EH} {M : Nat} {z : Int32} {h : EH} (h1 : h.1 = M + 6) (ho : h.2 M = some (.inr (8, [.int 0, .int 0, .int 0, .ref (M + 1), .int 0, .int (-1), .int 0, .ref (M + 2), .ref (M + 3), .ref (M + 4), .ref (M + 5), .int 0, .int 0, .int 0, .null, .null, .null, .null, .null, .null, .null, .int 0, .null, .null, .int 0, .int 0, .int 0, .null, .int 0, .null, .null, .null]))) (ha : ∀ i, 1 ≤ i → i ≤ 5 → h.2 (M + i) = some (mAr G (y0M 0) i)) (hb : ∀ q, q < M → h.2 q = h0.2 q) : Ex G l 1 mX12_init (fun v h' => v = none ∧ h'.1 = M + 19 ∧ MD G h' M (y0M (capN z)) ∧ ∀ q, q < M → h'.2 q = h0.2 q) eNoX 13 1295 50 [(0, .ref M), (1, .int z)] [] h := by
  obtain ⟨hs, hf⟩ := h
  change hs = M + 6 at h1
  subst h1
  refine ex_aload_n rfl dX12_init_50 ?_
  refine ex_iconst (v := (-1)) (by decide) dX12_init_51 ?_
  refine ex_put dX12_init_52 pf_X12_30 ho (Nat.le_of_ble_eq_true rfl) rfl rfl ?_
  refine ex_aload_n rfl dX12_init_55 ?_
  refine ex_iconst (v := (nI 3)) (by decide) dX12_init_56 ?_
  refine ex_newa_int (k := 12) (n := 1292) dX12_init_57 ac_int (N := 3) (by decide) (by decide) (by decide) ?_
  refine ex_putF dX12_init_59 pf_X12_33 rfl (hnew_ne (show M ≠ M + 6 by omega) hup_eq) (Nat.le_of_ble_eq_true rfl) rfl rfl ?_
  exact ex_lv [(0, .ref M), (1, .int z)] ⟨rfl, rfl, trivial⟩ (l_in6 (h0 := h0) rfl hup_eq (fun i h1 h2 => by rcases Nat.lt_or_ge i 6 with q | q; exact hup_ne (by omega) (hnew_ne (show M + i ≠ M + 6 by omega) ((fun i a b => hup_ne (by omega) (ha i a b)) i h1 (by omega))); obtain rfl : i = 6 := (by omega); exact hup_ne (by omega) hnew_eq) (fun q hq => hup_ne (by omega) (hnew_ne (show q ≠ M + 6 by omega) ((fun q a => hup_ne (by omega) (hb q a)) q hq))))
set_option maxHeartbeats 4000000 in
set_option maxRecDepth 100000 in
theorem l_in4 {G : EG} {l : Launch} {h0 : EH} {M : Nat} {z : Int32} {h : EH} (h1 : h.1 = M + 5) (ho : h.2 M = some (.inr (8, [.int 0, .int 0, .int 0, .ref (M + 1), .int 0, .int (-1), .int 0, .ref (M + 2), .ref (M + 3), .ref (M + 4), .null, .int 0, .int 0, .int 0, .null, .null, .null, .null, .null, .null, .null, .int 0, .null, .null, .int 0, .int 0, .int 0, .null, .int 0, .null, .null, .null]))) (ha : ∀ i, 1 ≤ i → i ≤ 4 → h.2 (M + i) = some (mAr G (y0M 0) i)) (hb : ∀ q, q < M → h.2 q = h0.2 q) : Ex G l 1 mX12_init (fun v h' => v = none ∧ h'.1 = M + 19 ∧ MD G h' M (y0M (capN z)) ∧ ∀ q, q < M → h'.2 q = h0.2 q) eNoX 14 1336 42 [(0, .ref M), (1, .int z)] [] h := by
  obtain ⟨hs, hf⟩ := h
  change hs = M + 5 at h1
  subst h1
  refine ex_aload_n rfl dX12_init_42 ?_
  refine ex_bipush (v := (nI 41)) (by decide) dX12_init_43 ?_
  refine ex_newa_int (k := 13) (n := 1295) dX12_init_45 ac_int (N := 41) (by decide) (by decide) (by decide) ?_
  refine ex_putF dX12_init_47 pf_X12_27 rfl (hnew_ne (show M ≠ M + 5 by omega) ho) (Nat.le_of_ble_eq_true rfl) rfl rfl ?_
  exact ex_lv [(0, .ref M), (1, .int z)] ⟨rfl, rfl, trivial⟩ (l_in5 (h0 := h0) rfl hup_eq (fun i h1 h2 => by rcases Nat.lt_or_ge i 5 with q | q; exact hup_ne (by omega) (hnew_ne (show M + i ≠ M + 5 by omega) (ha i h1 (by omega))); obtain rfl : i = 5 := (by omega); exact hup_ne (by omega) hnew_eq) (fun q hq => hup_ne (by omega) (hnew_ne (show q ≠ M + 5 by omega) (hb q hq))))
set_option maxHeartbeats 4000000 in
set_option maxRecDepth 100000 in
theorem l_in3 {G : EG} {l : Launch} {h0 : EH} {M : Nat} {z : Int32} {h : EH} (h1 : h.1 = M + 4) (ho : h.2 M = some (.inr (8, [.int 0, .int 0, .int 0, .ref (M + 1), .int 0, .int (-1), .int 0, .ref (M + 2), .ref (M + 3), .null, .null, .int 0, .int 0, .int 0, .null, .null, .null, .null, .null, .null, .null, .int 0, .null, .null, .int 0, .int 0, .int 0, .null, .int 0, .null, .null, .null]))) (ha : ∀ i, 1 ≤ i → i ≤ 3 → h.2 (M + i) = some (mAr G (y0M 0) i)) (hb : ∀ q, q < M → h.2 q = h0.2 q) : Ex G l 1 mX12_init (fun v h' => v = none ∧ h'.1 = M + 19 ∧ MD G h' M (y0M (capN z)) ∧ ∀ q, q < M → h'.2 q = h0.2 q) eNoX 15 1746 33 [(0, .ref M), (1, .int z)] [] h := by
  obtain ⟨hs, hf⟩ := h
  change hs = M + 4 at h1
  subst h1
  refine ex_aload_n rfl dX12_init_33 ?_
  refine ex_sipush (v := (nI 410)) (by decide) dX12_init_34 ?_
  refine ex_newa_int (k := 14) (n := 1336) dX12_init_37 ac_int (N := 410) (by decide) (by decide) (by decide) ?_
  refine ex_putF dX12_init_39 pf_X12_24 rfl (hnew_ne (show M ≠ M + 4 by omega) ho) (Nat.le_of_ble_eq_true rfl) rfl rfl ?_
  exact ex_lv [(0, .ref M), (1, .int z)] ⟨rfl, rfl, trivial⟩ (l_in4 (h0 := h0) rfl hup_eq (fun i h1 h2 => by rcases Nat.lt_or_ge i 4 with q | q; exact hup_ne (by omega) (hnew_ne (show M + i ≠ M + 4 by omega) (ha i h1 (by omega))); obtain rfl : i = 4 := (by omega); exact hup_ne (by omega) hnew_eq) (fun q hq => hup_ne (by omega) (hnew_ne (show q ≠ M + 4 by omega) (hb q hq))))
set_option maxHeartbeats 4000000 in
set_option maxRecDepth 100000 in
theorem l_in2 {G : EG} {l : Launch} {h0 : EH} {M : Nat} {z : Int32} {h : EH} (h1 : h.1 = M + 3) (ho : h.2 M = some (.inr (8, [.int 0, .int 0, .int 0, .ref (M + 1), .int 0, .int (-1), .int 0, .ref (M + 2), .null, .null, .null, .int 0, .int 0, .int 0, .null, .null, .null, .null, .null, .null, .null, .int 0, .null, .null, .int 0, .int 0, .int 0, .null, .int 0, .null, .null, .null]))) (ha : ∀ i, 1 ≤ i → i ≤ 2 → h.2 (M + i) = some (mAr G (y0M 0) i)) (hb : ∀ q, q < M → h.2 q = h0.2 q) : Ex G l 1 mX12_init (fun v h' => v = none ∧ h'.1 = M + 19 ∧ MD G h' M (y0M (capN z)) ∧ ∀ q, q < M → h'.2 q = h0.2 q) eNoX 16 1787 25 [(0, .ref M), (1, .int z)] [] h := by
  obtain ⟨hs, hf⟩ := h
  change hs = M + 3 at h1
  subst h1
  refine ex_aload_n rfl dX12_init_25 ?_
  refine ex_bipush (v := (nI 41)) (by decide) dX12_init_26 ?_
  refine ex_newa_int (k := 15) (n := 1746) dX12_init_28 ac_int (N := 41) (by decide) (by decide) (by decide) ?_
  refine ex_putF dX12_init_30 pf_X12_21 rfl (hnew_ne (show M ≠ M + 3 by omega) ho) (Nat.le_of_ble_eq_true rfl) rfl rfl ?_
  exact ex_lv [(0, .ref M), (1, .int z)] ⟨rfl, rfl, trivial⟩ (l_in3 (h0 := h0) rfl hup_eq (fun i h1 h2 => by rcases Nat.lt_or_ge i 3 with q | q; exact hup_ne (by omega) (hnew_ne (show M + i ≠ M + 3 by omega) (ha i h1 (by omega))); obtain rfl : i = 3 := (by omega); exact hup_ne (by omega) hnew_eq) (fun q hq => hup_ne (by omega) (hnew_ne (show q ≠ M + 3 by omega) (hb q hq))))
set_option maxHeartbeats 4000000 in
set_option maxRecDepth 100000 in
theorem l_in1 {G : EG} {l : Launch} {h0 : EH} {M : Nat} {z : Int32} {h : EH} (h1 : h.1 = M + 2) (ho : h.2 M = some (.inr (8, [.int 0, .int 0, .int 0, .ref (M + 1), .int 0, .int 0, .int 0, .null, .null, .null, .null, .int 0, .int 0, .int 0, .null, .null, .null, .null, .null, .null, .null, .int 0, .null, .null, .int 0, .int 0, .int 0, .null, .int 0, .null, .null, .null]))) (ha : ∀ i, 1 ≤ i → i ≤ 1 → h.2 (M + i) = some (mAr G (y0M 0) i)) (hb : ∀ q, q < M → h.2 q = h0.2 q) : Ex G l 1 mX12_init (fun v h' => v = none ∧ h'.1 = M + 19 ∧ MD G h' M (y0M (capN z)) ∧ ∀ q, q < M → h'.2 q = h0.2 q) eNoX 17 1828 12 [(0, .ref M), (1, .int z)] [] h := by
  obtain ⟨hs, hf⟩ := h
  change hs = M + 2 at h1
  subst h1
  refine ex_aload_n rfl dX12_init_12 ?_
  refine ex_iconst (v := (-1)) (by decide) dX12_init_13 ?_
  refine ex_put dX12_init_14 pf_X12_13 ho (Nat.le_of_ble_eq_true rfl) rfl rfl ?_
  refine ex_aload_n rfl dX12_init_17 ?_
  refine ex_bipush (v := (nI 41)) (by decide) dX12_init_18 ?_
  refine ex_newa_int (k := 16) (n := 1787) dX12_init_20 ac_int (N := 41) (by decide) (by decide) (by decide) ?_
  refine ex_putF dX12_init_22 pf_X12_17 rfl (hnew_ne (show M ≠ M + 2 by omega) hup_eq) (Nat.le_of_ble_eq_true rfl) rfl rfl ?_
  exact ex_lv [(0, .ref M), (1, .int z)] ⟨rfl, rfl, trivial⟩ (l_in2 (h0 := h0) rfl hup_eq (fun i h1 h2 => by rcases Nat.lt_or_ge i 2 with q | q; exact hup_ne (by omega) (hnew_ne (show M + i ≠ M + 2 by omega) ((fun i a b => hup_ne (by omega) (ha i a b)) i h1 (by omega))); obtain rfl : i = 2 := (by omega); exact hup_ne (by omega) hnew_eq) (fun q hq => hup_ne (by omega) (hnew_ne (show q ≠ M + 2 by omega) ((fun q a => hup_ne (by omega) (hb q a)) q hq))))
set_option maxHeartbeats 4000000 in
set_option maxRecDepth 100000 in
theorem l_in0 {G : EG} {l : Launch} {h0 : EH} {M : Nat} {z : Int32} {h : EH} (h1 : h.1 = M + 1) (ho : h.2 M = some (.inr (8, [.int 0, .int 0, .int 0, .null, .int 0, .int 0, .int 0, .null, .null, .null, .null, .int 0, .int 0, .int 0, .null, .null, .null, .null, .null, .null, .null, .int 0, .null, .null, .int 0, .int 0, .int 0, .null, .int 0, .null, .null, .null]))) (ha : ∀ i, 1 ≤ i → i ≤ 0 → h.2 (M + i) = some (mAr G (y0M 0) i)) (hb : ∀ q, q < M → h.2 q = h0.2 q) : Ex G l 1 mX12_init (fun v h' => v = none ∧ h'.1 = M + 19 ∧ MD G h' M (y0M (capN z)) ∧ ∀ q, q < M → h'.2 q = h0.2 q) eNoX 18 1900 4 [(0, .ref M), (1, .int z)] [] h := by
  obtain ⟨hs, hf⟩ := h
  change hs = M + 1 at h1
  subst h1
  refine ex_aload_n rfl dX12_init_4 ?_
  refine ex_bipush (v := (nI 72)) (by decide) dX12_init_5 ?_
  refine ex_newa_char (k := 17) (n := 1828) dX12_init_7 ac_char (N := 72) (by decide) (by decide) (by decide) ?_
  refine ex_putF dX12_init_9 pf_X12_7 rfl (hnew_ne (show M ≠ M + 1 by omega) ho) (Nat.le_of_ble_eq_true rfl) rfl rfl ?_
  exact ex_lv [(0, .ref M), (1, .int z)] ⟨rfl, rfl, trivial⟩ (l_in1 (h0 := h0) rfl hup_eq (fun i h1 h2 => by rcases Nat.lt_or_ge i 1 with q | q; exact hup_ne (by omega) (hnew_ne (show M + i ≠ M + 1 by omega) (ha i h1 (by omega))); obtain rfl : i = 1 := (by omega); exact hup_ne (by omega) hnew_eq) (fun q hq => hup_ne (by omega) (hnew_ne (show q ≠ M + 1 by omega) (hb q hq))))
set_option maxHeartbeats 4000000 in
set_option maxRecDepth 100000 in
theorem t_init {G : EG} {l : Launch} {M : Nat} {z : Int32} {h : EH} (h1 : h.1 = M + 1) (ho : h.2 M = some (.inr (8, [.int 0, .int 0, .int 0, .null, .int 0, .int 0, .int 0, .null, .null, .null, .null, .int 0, .int 0, .int 0, .null, .null, .null, .null, .null, .null, .null, .int 0, .null, .null, .int 0, .int 0, .int 0, .null, .int 0, .null, .null, .null]))) : ES G l 1 mX12_init [.ref M, .int z] h 18 1900 (fun v h' => v = none ∧ h'.1 = M + 19 ∧ MD G h' M (y0M (capN z)) ∧ ∀ q, q < M → h'.2 q = h.2 q) eNoX := by
  refine es_of (by decide) rfl (Nat.le_of_ble_eq_true rfl) ?_
  refine ex_aload_n rfl dX12_init_0 ?_
  refine ex_obj dX12_init_1 ob_X12_1 ob_i ob_c (by decide) (Nat.le_of_ble_eq_true rfl) ?_
  exact ex_lv [(0, .ref M), (1, .int z)] ⟨rfl, rfl, trivial⟩ (l_in0 (h0 := h) h1 ho (fun i a b => by omega) (fun q _ => rfl))
