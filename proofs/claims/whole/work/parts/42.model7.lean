/-! THE MODEL: what is allowed, the memory, what is made, flows -/
def mV (y : MS) : Prop := ms y 12 ≤ 8 ∧ ms y 13 ≤ 3 ∧ (∀ t, t < ms y 12 → mA y 7 t < 2 ^ 30) ∧ (∀ s t c, s < ms y 12 → t < ms y 12 → c < ms y 13 → mA y 8 (64 * c + 8 * s + t) < 2 ^ 30) ∧ ∀ j, j < 5 * ms y 13 → mA y 10 j < 2 ^ 30
def ifm (P : Prop) [Decidable P] (m f : Nat) : Nat := if P then andn m f else m
def wkd (y : MS) (s t c : Nat) : Nat := ifm (mA y 7 t < mA y 7 s) (ifm (mA y 7 s ≠ mA y 7 t) (ifm (mA y 7 s < mA y 7 t) (mA y 8 (64 * c + 8 * s + t)) (mA y 10 (5 * c))) (mA y 10 (5 * c + 1))) (mA y 10 (5 * c + 2))
theorem wkd_l {y : MS} {s t c : Nat} (h : mA y 7 s < mA y 7 t) : wkd y s t c = andn (andn (mA y 8 (64 * c + 8 * s + t)) (mA y 10 (5 * c))) (mA y 10 (5 * c + 1)) := by unfold wkd ifm; rw [if_neg (by omega), if_pos (by omega), if_pos h]
theorem wkd_e {y : MS} {s t c : Nat} (h : mA y 7 s = mA y 7 t) : wkd y s t c = mA y 8 (64 * c + 8 * s + t) := by unfold wkd ifm; rw [if_neg (by omega), if_neg (by omega), if_neg (by omega)]
theorem wkd_g {y : MS} {s t c : Nat} (h : mA y 7 t < mA y 7 s) : wkd y s t c = andn (andn (mA y 8 (64 * c + 8 * s + t)) (mA y 10 (5 * c + 1))) (mA y 10 (5 * c + 2)) := by unfold wkd ifm; rw [if_pos h, if_pos (by omega), if_neg (by omega)]
theorem wkd_lt {y : MS} (hV : mV y) {s t c : Nat} (hs : s < ms y 12) (ht : t < ms y 12) (hc : c < ms y 13) : wkd y s t c < 2 ^ 30 := by
  have h8 := hV.2.2.2.1 s t c hs ht hc
  rcases Nat.lt_trichotomy (mA y 7 s) (mA y 7 t) with q | q | q
  · rw [wkd_l q]; exact andn_lt (andn_lt h8)
  · rw [wkd_e q]; exact h8
  · rw [wkd_g q]; exact andn_lt (andn_lt h8)
set_option maxHeartbeats 4000000 in
set_option maxRecDepth 100000 in
theorem t_worked {G : EG} {l : Launch} {h : EH} {M : Nat} {y : MS} (hM : MD G h M y) (hV : mV y) {s t c : Nat} (hs : s < ms y 12) (ht : t < ms y 12) (hc : c < ms y 13) : ES G l 0 mX12_worked [.ref M, .int (nI s), .int (nI t), .int (nI c)] h 0 0 (fun v h' => v = some (.int (nI (wkd y s t c))) ∧ h' = h) eNoX := by
  have k7 : h.2 (M + 7) = some (.inl (eA G 0, 8, .inl (fun j => nI (mA y 7 j)))) := hM.2 7 (by decide) (by decide)
  have k8 : h.2 (M + 8) = some (.inl (eA G 0, 192, .inl (fun j => nI (mA y 8 j)))) := hM.2 8 (by decide) (by decide)
  have k10 : h.2 (M + 10) = some (.inl (eA G 0, 15, .inl (fun j => nI (mA y 10 j)))) := hM.2 10 (by decide) (by decide)
  have h12 := hV.1
  have h13 := hV.2.1
  have r1 := hV.2.2.1 s hs
  have r2 := hV.2.2.1 t ht
  refine es_of (by decide) rfl (Nat.le_of_ble_eq_true rfl) ?_
  refine ex_aload_n rfl dX12_worked_0 ?_
  refine ex_get dX12_worked_1 gf_X12_39 hM.1 rfl ?_
  refine ex_bipush (v := (nI 64)) (by decide) dX12_worked_4 ?_
  refine ex_iload_n rfl dX12_worked_6 ?_
  refine ex_imulN dX12_worked_7 ?_
  refine ex_bipush (v := (nI 8)) (by decide) dX12_worked_8 ?_
  refine ex_iload_n rfl dX12_worked_10 ?_
  refine ex_imulN dX12_worked_11 ?_
  refine ex_iaddN dX12_worked_12 ?_
  refine ex_iload_n rfl dX12_worked_13 ?_
  refine ex_iaddN dX12_worked_14 ?_
  refine ex_ialdN dX12_worked_15 k8 (by omega) (by decide) ?_
  refine ex_istore (by decide) rfl dX12_worked_16 ?_
  refine ex_aload_n rfl dX12_worked_18 ?_
  refine ex_get dX12_worked_19 gf_X12_36 hM.1 rfl ?_
  refine ex_iload_n rfl dX12_worked_22 ?_
  refine ex_ialdN dX12_worked_23 k7 (by omega) (by decide) ?_
  refine ex_aload_n rfl dX12_worked_24 ?_
  refine ex_get dX12_worked_25 gf_X12_36 hM.1 rfl ?_
  refine ex_iload_n rfl dX12_worked_28 ?_
  refine ex_ialdN dX12_worked_29 k7 (by omega) (by decide) ?_
  refine ex_icmpN_ge (tgt := 49) (by decide) dX12_worked_30 (by omega) (by omega) (fun c1 => ?_) (fun c1 => ?_)
  · refine ex_iload rfl dX12_worked_49 ?_
    refine ex_istore (by decide) rfl dX12_worked_51 ?_
    refine ex_aload_n rfl dX12_worked_53 ?_
    refine ex_get dX12_worked_54 gf_X12_36 hM.1 rfl ?_
    refine ex_iload_n rfl dX12_worked_57 ?_
    refine ex_ialdN dX12_worked_58 k7 (by omega) (by decide) ?_
    refine ex_aload_n rfl dX12_worked_59 ?_
    refine ex_get dX12_worked_60 gf_X12_36 hM.1 rfl ?_
    refine ex_iload_n rfl dX12_worked_63 ?_
    refine ex_ialdN dX12_worked_64 k7 (by omega) (by decide) ?_
    refine ex_icmpN_eq (tgt := 86) (by decide) dX12_worked_65 (by omega) (by omega) (fun c2 => ?_) (fun c2 => ?_)
    · refine ex_iload rfl dX12_worked_86 ?_
      refine ex_istore (by decide) rfl dX12_worked_88 ?_
      refine ex_aload_n rfl dX12_worked_90 ?_
      refine ex_get dX12_worked_91 gf_X12_36 hM.1 rfl ?_
      refine ex_iload_n rfl dX12_worked_94 ?_
      refine ex_ialdN dX12_worked_95 k7 (by omega) (by decide) ?_
      refine ex_aload_n rfl dX12_worked_96 ?_
      refine ex_get dX12_worked_97 gf_X12_36 hM.1 rfl ?_
      refine ex_iload_n rfl dX12_worked_100 ?_
      refine ex_ialdN dX12_worked_101 k7 (by omega) (by decide) ?_
      refine ex_icmpN_le (tgt := 123) (by decide) dX12_worked_102 (by omega) (by omega) (fun c3 => ?_) (fun c3 => ?_)
      · refine ex_iload rfl dX12_worked_123 ?_
        refine ex_iret dX12_worked_125 rfl (by first | (exfalso; omega) | exact ⟨by rw [wkd_l (y := y) (s := s) (t := t) (c := c) (by omega)], rfl⟩ | exact ⟨by rw [wkd_e (y := y) (s := s) (t := t) (c := c) (by omega)], rfl⟩ | exact ⟨by rw [wkd_g (y := y) (s := s) (t := t) (c := c) (by omega)], rfl⟩)
      · refine ex_iload rfl dX12_worked_105 ?_
        refine ex_aload_n rfl dX12_worked_107 ?_
        refine ex_get dX12_worked_108 gf_X12_45 hM.1 rfl ?_
        refine ex_iconst (v := (nI 5)) (by decide) dX12_worked_111 ?_
        refine ex_iload_n rfl dX12_worked_112 ?_
        refine ex_imulN dX12_worked_113 ?_
        refine ex_iconst (v := (nI 2)) (by decide) dX12_worked_114 ?_
        refine ex_iaddN dX12_worked_115 ?_
        refine ex_ialdN dX12_worked_116 k10 (by omega) (by decide) ?_
        refine ex_iconst (v := (-1)) (by decide) dX12_worked_117 ?_
        refine ex_ixor dX12_worked_118 ?_
        refine ex_iand dX12_worked_119 ?_
        rw [nx_andn]
        refine ex_goto (tgt := 125) (by decide) dX12_worked_120 ?_
        refine ex_iret dX12_worked_125 rfl (by first | (exfalso; omega) | exact ⟨by rw [wkd_l (y := y) (s := s) (t := t) (c := c) (by omega)], rfl⟩ | exact ⟨by rw [wkd_e (y := y) (s := s) (t := t) (c := c) (by omega)], rfl⟩ | exact ⟨by rw [wkd_g (y := y) (s := s) (t := t) (c := c) (by omega)], rfl⟩)
    · refine ex_iload rfl dX12_worked_68 ?_
      refine ex_aload_n rfl dX12_worked_70 ?_
      refine ex_get dX12_worked_71 gf_X12_45 hM.1 rfl ?_
      refine ex_iconst (v := (nI 5)) (by decide) dX12_worked_74 ?_
      refine ex_iload_n rfl dX12_worked_75 ?_
      refine ex_imulN dX12_worked_76 ?_
      refine ex_iconst (v := (nI 1)) (by decide) dX12_worked_77 ?_
      refine ex_iaddN dX12_worked_78 ?_
      refine ex_ialdN dX12_worked_79 k10 (by omega) (by decide) ?_
      refine ex_iconst (v := (-1)) (by decide) dX12_worked_80 ?_
      refine ex_ixor dX12_worked_81 ?_
      refine ex_iand dX12_worked_82 ?_
      rw [nx_andn]
      refine ex_goto (tgt := 88) (by decide) dX12_worked_83 ?_
      refine ex_istore (by decide) rfl dX12_worked_88 ?_
      refine ex_aload_n rfl dX12_worked_90 ?_
      refine ex_get dX12_worked_91 gf_X12_36 hM.1 rfl ?_
      refine ex_iload_n rfl dX12_worked_94 ?_
      refine ex_ialdN dX12_worked_95 k7 (by omega) (by decide) ?_
      refine ex_aload_n rfl dX12_worked_96 ?_
      refine ex_get dX12_worked_97 gf_X12_36 hM.1 rfl ?_
      refine ex_iload_n rfl dX12_worked_100 ?_
      refine ex_ialdN dX12_worked_101 k7 (by omega) (by decide) ?_
      refine ex_icmpN_le (tgt := 123) (by decide) dX12_worked_102 (by omega) (by omega) (fun c4 => ?_) (fun c4 => ?_)
      · refine ex_iload rfl dX12_worked_123 ?_
        refine ex_iret dX12_worked_125 rfl (by first | (exfalso; omega) | exact ⟨by rw [wkd_l (y := y) (s := s) (t := t) (c := c) (by omega)], rfl⟩ | exact ⟨by rw [wkd_e (y := y) (s := s) (t := t) (c := c) (by omega)], rfl⟩ | exact ⟨by rw [wkd_g (y := y) (s := s) (t := t) (c := c) (by omega)], rfl⟩)
      · refine ex_iload rfl dX12_worked_105 ?_
        refine ex_aload_n rfl dX12_worked_107 ?_
        refine ex_get dX12_worked_108 gf_X12_45 hM.1 rfl ?_
        refine ex_iconst (v := (nI 5)) (by decide) dX12_worked_111 ?_
        refine ex_iload_n rfl dX12_worked_112 ?_
        refine ex_imulN dX12_worked_113 ?_
        refine ex_iconst (v := (nI 2)) (by decide) dX12_worked_114 ?_
        refine ex_iaddN dX12_worked_115 ?_
        refine ex_ialdN dX12_worked_116 k10 (by omega) (by decide) ?_
        refine ex_iconst (v := (-1)) (by decide) dX12_worked_117 ?_
        refine ex_ixor dX12_worked_118 ?_
        refine ex_iand dX12_worked_119 ?_
        rw [nx_andn]
        refine ex_goto (tgt := 125) (by decide) dX12_worked_120 ?_
        refine ex_iret dX12_worked_125 rfl (by first | (exfalso; omega) | exact ⟨by rw [wkd_l (y := y) (s := s) (t := t) (c := c) (by omega)], rfl⟩ | exact ⟨by rw [wkd_e (y := y) (s := s) (t := t) (c := c) (by omega)], rfl⟩ | exact ⟨by rw [wkd_g (y := y) (s := s) (t := t) (c := c) (by omega)], rfl⟩)
  · refine ex_iload rfl dX12_worked_33 ?_
    refine ex_aload_n rfl dX12_worked_35 ?_
    refine ex_get dX12_worked_36 gf_X12_45 hM.1 rfl ?_
    refine ex_iconst (v := (nI 5)) (by decide) dX12_worked_39 ?_
    refine ex_iload_n rfl dX12_worked_40 ?_
    refine ex_imulN dX12_worked_41 ?_
    refine ex_ialdN dX12_worked_42 k10 (by omega) (by decide) ?_
    refine ex_iconst (v := (-1)) (by decide) dX12_worked_43 ?_
    refine ex_ixor dX12_worked_44 ?_
    refine ex_iand dX12_worked_45 ?_
    rw [nx_andn]
    refine ex_goto (tgt := 51) (by decide) dX12_worked_46 ?_
    refine ex_istore (by decide) rfl dX12_worked_51 ?_
    refine ex_aload_n rfl dX12_worked_53 ?_
    refine ex_get dX12_worked_54 gf_X12_36 hM.1 rfl ?_
    refine ex_iload_n rfl dX12_worked_57 ?_
    refine ex_ialdN dX12_worked_58 k7 (by omega) (by decide) ?_
    refine ex_aload_n rfl dX12_worked_59 ?_
    refine ex_get dX12_worked_60 gf_X12_36 hM.1 rfl ?_
    refine ex_iload_n rfl dX12_worked_63 ?_
    refine ex_ialdN dX12_worked_64 k7 (by omega) (by decide) ?_
    refine ex_icmpN_eq (tgt := 86) (by decide) dX12_worked_65 (by omega) (by omega) (fun c5 => ?_) (fun c5 => ?_)
    · refine ex_iload rfl dX12_worked_86 ?_
      refine ex_istore (by decide) rfl dX12_worked_88 ?_
      refine ex_aload_n rfl dX12_worked_90 ?_
      refine ex_get dX12_worked_91 gf_X12_36 hM.1 rfl ?_
      refine ex_iload_n rfl dX12_worked_94 ?_
      refine ex_ialdN dX12_worked_95 k7 (by omega) (by decide) ?_
      refine ex_aload_n rfl dX12_worked_96 ?_
      refine ex_get dX12_worked_97 gf_X12_36 hM.1 rfl ?_
      refine ex_iload_n rfl dX12_worked_100 ?_
      refine ex_ialdN dX12_worked_101 k7 (by omega) (by decide) ?_
      refine ex_icmpN_le (tgt := 123) (by decide) dX12_worked_102 (by omega) (by omega) (fun c6 => ?_) (fun c6 => ?_)
      · refine ex_iload rfl dX12_worked_123 ?_
        refine ex_iret dX12_worked_125 rfl (by first | (exfalso; omega) | exact ⟨by rw [wkd_l (y := y) (s := s) (t := t) (c := c) (by omega)], rfl⟩ | exact ⟨by rw [wkd_e (y := y) (s := s) (t := t) (c := c) (by omega)], rfl⟩ | exact ⟨by rw [wkd_g (y := y) (s := s) (t := t) (c := c) (by omega)], rfl⟩)
      · refine ex_iload rfl dX12_worked_105 ?_
        refine ex_aload_n rfl dX12_worked_107 ?_
        refine ex_get dX12_worked_108 gf_X12_45 hM.1 rfl ?_
        refine ex_iconst (v := (nI 5)) (by decide) dX12_worked_111 ?_
        refine ex_iload_n rfl dX12_worked_112 ?_
        refine ex_imulN dX12_worked_113 ?_
        refine ex_iconst (v := (nI 2)) (by decide) dX12_worked_114 ?_
        refine ex_iaddN dX12_worked_115 ?_
        refine ex_ialdN dX12_worked_116 k10 (by omega) (by decide) ?_
        refine ex_iconst (v := (-1)) (by decide) dX12_worked_117 ?_
        refine ex_ixor dX12_worked_118 ?_
        refine ex_iand dX12_worked_119 ?_
        rw [nx_andn]
        refine ex_goto (tgt := 125) (by decide) dX12_worked_120 ?_
        refine ex_iret dX12_worked_125 rfl (by first | (exfalso; omega) | exact ⟨by rw [wkd_l (y := y) (s := s) (t := t) (c := c) (by omega)], rfl⟩ | exact ⟨by rw [wkd_e (y := y) (s := s) (t := t) (c := c) (by omega)], rfl⟩ | exact ⟨by rw [wkd_g (y := y) (s := s) (t := t) (c := c) (by omega)], rfl⟩)
    · refine ex_iload rfl dX12_worked_68 ?_
      refine ex_aload_n rfl dX12_worked_70 ?_
      refine ex_get dX12_worked_71 gf_X12_45 hM.1 rfl ?_
      refine ex_iconst (v := (nI 5)) (by decide) dX12_worked_74 ?_
      refine ex_iload_n rfl dX12_worked_75 ?_
      refine ex_imulN dX12_worked_76 ?_
      refine ex_iconst (v := (nI 1)) (by decide) dX12_worked_77 ?_
      refine ex_iaddN dX12_worked_78 ?_
      refine ex_ialdN dX12_worked_79 k10 (by omega) (by decide) ?_
      refine ex_iconst (v := (-1)) (by decide) dX12_worked_80 ?_
      refine ex_ixor dX12_worked_81 ?_
      refine ex_iand dX12_worked_82 ?_
      rw [nx_andn]
      refine ex_goto (tgt := 88) (by decide) dX12_worked_83 ?_
      refine ex_istore (by decide) rfl dX12_worked_88 ?_
      refine ex_aload_n rfl dX12_worked_90 ?_
      refine ex_get dX12_worked_91 gf_X12_36 hM.1 rfl ?_
      refine ex_iload_n rfl dX12_worked_94 ?_
      refine ex_ialdN dX12_worked_95 k7 (by omega) (by decide) ?_
      refine ex_aload_n rfl dX12_worked_96 ?_
      refine ex_get dX12_worked_97 gf_X12_36 hM.1 rfl ?_
      refine ex_iload_n rfl dX12_worked_100 ?_
      refine ex_ialdN dX12_worked_101 k7 (by omega) (by decide) ?_
      refine ex_icmpN_le (tgt := 123) (by decide) dX12_worked_102 (by omega) (by omega) (fun c7 => ?_) (fun c7 => ?_)
      · refine ex_iload rfl dX12_worked_123 ?_
        refine ex_iret dX12_worked_125 rfl (by first | (exfalso; omega) | exact ⟨by rw [wkd_l (y := y) (s := s) (t := t) (c := c) (by omega)], rfl⟩ | exact ⟨by rw [wkd_e (y := y) (s := s) (t := t) (c := c) (by omega)], rfl⟩ | exact ⟨by rw [wkd_g (y := y) (s := s) (t := t) (c := c) (by omega)], rfl⟩)
      · refine ex_iload rfl dX12_worked_105 ?_
        refine ex_aload_n rfl dX12_worked_107 ?_
        refine ex_get dX12_worked_108 gf_X12_45 hM.1 rfl ?_
        refine ex_iconst (v := (nI 5)) (by decide) dX12_worked_111 ?_
        refine ex_iload_n rfl dX12_worked_112 ?_
        refine ex_imulN dX12_worked_113 ?_
        refine ex_iconst (v := (nI 2)) (by decide) dX12_worked_114 ?_
        refine ex_iaddN dX12_worked_115 ?_
        refine ex_ialdN dX12_worked_116 k10 (by omega) (by decide) ?_
        refine ex_iconst (v := (-1)) (by decide) dX12_worked_117 ?_
        refine ex_ixor dX12_worked_118 ?_
        refine ex_iand dX12_worked_119 ?_
        rw [nx_andn]
        refine ex_goto (tgt := 125) (by decide) dX12_worked_120 ?_
        refine ex_iret dX12_worked_125 rfl (by first | (exfalso; omega) | exact ⟨by rw [wkd_l (y := y) (s := s) (t := t) (c := c) (by omega)], rfl⟩ | exact ⟨by rw [wkd_e (y := y) (s := s) (t := t) (c := c) (by omega)], rfl⟩ | exact ⟨by rw [wkd_g (y := y) (s := s) (t := t) (c := c) (by omega)], rfl⟩)
set_option maxHeartbeats 4000000 in
set_option maxRecDepth 100000 in
theorem t_isThere {G : EG} {l : Launch} {h : EH} {M : Nat} {y : MS} (hM : MD G h M y) (s t c : Int32) : ES G l 0 mX12_isThere [.ref M, .int s, .int t, .int c] h 0 0 (fun v h' => v = some (.int (b2i (bP (inR s (ms y 12) ∧ inR t (ms y 12) ∧ inR c (ms y 13))))) ∧ h' = h) eNoX := by
  refine es_of (by decide) rfl (Nat.le_of_ble_eq_true rfl) ?_
  refine ex_iload_n rfl dX12_isThere_0 ?_
  refine ex_if_lt (tgt := 40) (by decide) dX12_isThere_1 (fun c1 => ?_) (fun c1 => ?_)
  · refine ex_iconst (v := (nI 0)) (by decide) dX12_isThere_40 ?_
    refine ex_zret dX12_isThere_41 rfl rfl ⟨rF (fun z => z.1.1 c1), rfl⟩
  · refine ex_iload_n rfl dX12_isThere_4 ?_
    refine ex_aload_n rfl dX12_isThere_5 ?_
    refine ex_get dX12_isThere_6 gf_X12_172 hM.1 rfl ?_
    refine ex_icmp_ge (tgt := 40) (by decide) dX12_isThere_9 (fun c2 => ?_) (fun c2 => ?_)
    · refine ex_iconst (v := (nI 0)) (by decide) dX12_isThere_40 ?_
      refine ex_zret dX12_isThere_41 rfl rfl ⟨rF (fun z => z.1.2 c2), rfl⟩
    · refine ex_iload_n rfl dX12_isThere_12 ?_
      refine ex_if_lt (tgt := 40) (by decide) dX12_isThere_13 (fun c3 => ?_) (fun c3 => ?_)
      · refine ex_iconst (v := (nI 0)) (by decide) dX12_isThere_40 ?_
        refine ex_zret dX12_isThere_41 rfl rfl ⟨rF (fun z => z.2.1.1 c3), rfl⟩
      · refine ex_iload_n rfl dX12_isThere_16 ?_
        refine ex_aload_n rfl dX12_isThere_17 ?_
        refine ex_get dX12_isThere_18 gf_X12_172 hM.1 rfl ?_
        refine ex_icmp_ge (tgt := 40) (by decide) dX12_isThere_21 (fun c4 => ?_) (fun c4 => ?_)
        · refine ex_iconst (v := (nI 0)) (by decide) dX12_isThere_40 ?_
          refine ex_zret dX12_isThere_41 rfl rfl ⟨rF (fun z => z.2.1.2 c4), rfl⟩
        · refine ex_iload_n rfl dX12_isThere_24 ?_
          refine ex_if_lt (tgt := 40) (by decide) dX12_isThere_25 (fun c5 => ?_) (fun c5 => ?_)
          · refine ex_iconst (v := (nI 0)) (by decide) dX12_isThere_40 ?_
            refine ex_zret dX12_isThere_41 rfl rfl ⟨rF (fun z => z.2.2.1 c5), rfl⟩
          · refine ex_iload_n rfl dX12_isThere_28 ?_
            refine ex_aload_n rfl dX12_isThere_29 ?_
            refine ex_get dX12_isThere_30 gf_X12_175 hM.1 rfl ?_
            refine ex_icmp_ge (tgt := 40) (by decide) dX12_isThere_33 (fun c6 => ?_) (fun c6 => ?_)
            · refine ex_iconst (v := (nI 0)) (by decide) dX12_isThere_40 ?_
              refine ex_zret dX12_isThere_41 rfl rfl ⟨rF (fun z => z.2.2.2 c6), rfl⟩
            · refine ex_iconst (v := (nI 1)) (by decide) dX12_isThere_36 ?_
              refine ex_goto (tgt := 41) (by decide) dX12_isThere_37 ?_
              refine ex_zret dX12_isThere_41 rfl rfl ⟨rT ⟨⟨c1, c2⟩, ⟨c3, c4⟩, ⟨c5, c6⟩⟩, rfl⟩
abbrev th0 (y : MS) (v : Nat) : MS := (va_up (ms y) 1 v, y.2)
theorem MD.th {G : EG} {h : EH} {M : Nat} {y : MS} (x : MD G h M y) (v : Nat) {e : va_E} (he : e = mOb M (va_up (ms y) 1 v) (mpo y) (mfa y)) : MD G (hup h M e) M (th0 y v) := x.ob' (va_up (ms y) 1 v) (mpo y) (mfa y) he
set_option maxHeartbeats 4000000 in
set_option maxRecDepth 100000 in
theorem l_made {G : EG} {l : Launch} {h : EH} {M : Nat} {y : MS} (hM : MD G h M y) (h12 : ms y 12 ≤ 8) (h13 : ms y 13 ≤ 3) {s t c : Nat} (hs : s < ms y 12) (ht : t < ms y 12) (hc : c < ms y 13) {Q : Option Value → EH → Prop} (hQ : Q (some (.int (mmk y (64 * c + 8 * s + t)))) h) : Ex G l 1 mX12_made Q eNoX 0 0 5 [(0, .ref M), (1, .int (nI (s))), (2, .int (nI (t))), (3, .int (nI (c)))] [] h := by
  have k9 : h.2 (M + 9) = some (.inl (eA G 0, 192, .inl (mmk y))) := hM.2 9 (by decide) (by decide)
  refine ex_aload_n rfl dX12_made_5 ?_
  refine ex_iload_n rfl dX12_made_6 ?_
  refine ex_iload_n rfl dX12_made_7 ?_
  refine ex_iload_n rfl dX12_made_8 ?_
  refine ex_invv (k := 0) (n := 0) (mc' := 0) (ms' := 0) (As := [_, _, _]) dX12_made_9 cv_X12_203 (by decide) (Nat.le_of_ble_eq_true rfl) (Or.inl ⟨_, _, _, _, hM.1, rfl⟩) (t_isThere hM (nI s) (nI t) (nI c)) (fun v h' q => ?_)
  obtain ⟨rfl, rfl⟩ := q
  refine ex_ifB_eq (tgt := 34) (by decide) dX12_made_12 (fun c1 => ?_) (fun c1 => ?_)
  · exact absurd (bP_t (bP_iff.mpr ⟨(inR_nI (by omega) (by omega)).mpr hs, (inR_nI (by omega) (by omega)).mpr ht, (inR_nI (by omega) (by omega)).mpr hc⟩)) (bP_f c1)
  · refine ex_aload_n rfl dX12_made_15 ?_
    refine ex_get dX12_made_16 gf_X12_42 hM.1 rfl ?_
    refine ex_bipush (v := (nI 64)) (by decide) dX12_made_19 ?_
    refine ex_iload_n rfl dX12_made_21 ?_
    refine ex_imulN dX12_made_22 ?_
    refine ex_bipush (v := (nI 8)) (by decide) dX12_made_23 ?_
    refine ex_iload_n rfl dX12_made_25 ?_
    refine ex_imulN dX12_made_26 ?_
    refine ex_iaddN dX12_made_27 ?_
    refine ex_iload_n rfl dX12_made_28 ?_
    refine ex_iaddN dX12_made_29 ?_
    refine ex_ialdN dX12_made_30 k9 (by omega) (by decide) ?_
    refine ex_goto (tgt := 35) (by decide) dX12_made_31 ?_
    refine ex_iret dX12_made_35 rfl hQ
set_option maxHeartbeats 4000000 in
set_option maxRecDepth 100000 in
theorem l_madeN {G : EG} {l : Launch} {h : EH} {M : Nat} {y : MS} (hM : MD G h M y) {s t c : Int32} (hn : ¬ (inR s (ms y 12) ∧ inR t (ms y 12) ∧ inR c (ms y 13))) {Q : Option Value → EH → Prop} (hQ : Q (some (.int (-1))) h) : Ex G l 1 mX12_made Q eNoX 0 0 5 [(0, .ref M), (1, .int s), (2, .int t), (3, .int c)] [] h := by
  refine ex_aload_n rfl dX12_made_5 ?_
  refine ex_iload_n rfl dX12_made_6 ?_
  refine ex_iload_n rfl dX12_made_7 ?_
  refine ex_iload_n rfl dX12_made_8 ?_
  refine ex_invv (k := 0) (n := 0) (mc' := 0) (ms' := 0) (As := [_, _, _]) dX12_made_9 cv_X12_203 (by decide) (Nat.le_of_ble_eq_true rfl) (Or.inl ⟨_, _, _, _, hM.1, rfl⟩) (t_isThere hM s t c) (fun v h' q => ?_)
  obtain ⟨rfl, rfl⟩ := q
  refine ex_ifB_eq (tgt := 34) (by decide) dX12_made_12 (fun c1 => ?_) (fun c1 => ?_)
  · refine ex_iconst (v := (-1)) (by decide) dX12_made_34 ?_
    refine ex_iret dX12_made_35 rfl hQ
  · exact absurd (bP_t c1) hn
set_option maxHeartbeats 4000000 in
set_option maxRecDepth 100000 in
theorem t_made {G : EG} {l : Launch} {h : EH} {M : Nat} {y : MS} (hM : MD G h M y) (h12 : ms y 12 ≤ 8) (h13 : ms y 13 ≤ 3) {s t c : Nat} (hs : s < ms y 12) (ht : t < ms y 12) (hc : c < ms y 13) : ES G l 1 mX12_made [.ref M, .int (nI s), .int (nI t), .int (nI c)] h 0 0 (fun v h' => v = some (.int (mmk y (64 * c + 8 * s + t))) ∧ MD G h' M (th0 y 0) ∧ Fr (atN M) h h') eNoX := by
  refine es_of (by decide) rfl (Nat.le_of_ble_eq_true rfl) ?_
  refine ex_aload_n rfl dX12_made_0 ?_
  refine ex_iconst (v := (nI 0)) (by decide) dX12_made_1 ?_
  refine ex_put dX12_made_2 pf_X12_76 hM.1 (Nat.le_of_ble_eq_true rfl) rfl rfl ?_
  exact l_made (hM.th 0 rfl) h12 h13 hs ht hc ⟨rfl, (hM.th 0 rfl), Fr.rf.up ⟨by omega, by omega⟩⟩
set_option maxHeartbeats 4000000 in
set_option maxRecDepth 100000 in
theorem t_madeN {G : EG} {l : Launch} {h : EH} {M : Nat} {y : MS} (hM : MD G h M y) {s t c : Int32} (hn : ¬ (inR s (ms y 12) ∧ inR t (ms y 12) ∧ inR c (ms y 13))) : ES G l 1 mX12_made [.ref M, .int s, .int t, .int c] h 0 0 (fun v h' => v = some (.int (-1)) ∧ MD G h' M (th0 y 0) ∧ Fr (atN M) h h') eNoX := by
  refine es_of (by decide) rfl (Nat.le_of_ble_eq_true rfl) ?_
  refine ex_aload_n rfl dX12_made_0 ?_
  refine ex_iconst (v := (nI 0)) (by decide) dX12_made_1 ?_
  refine ex_put dX12_made_2 pf_X12_76 hM.1 (Nat.le_of_ble_eq_true rfl) rfl rfl ?_
  exact l_madeN (hM.th 0 rfl) hn ⟨rfl, (hM.th 0 rfl), Fr.rf.up ⟨by omega, by omega⟩⟩
def fPm (y : MS) (f t c : Nat) : Prop := wkd y t f c &&& mA y 10 (5 * c + 3) ≠ 0 ∨ wkd y f t c &&& mA y 10 (5 * c + 4) ≠ 0
def flk (y : MS) (f t k : Nat) : Prop := ∃ c, c < k ∧ fPm y f t c
def flm (y : MS) (f t : Nat) : Prop := flk y f t (ms y 13)
theorem flk_s {y : MS} {f t k : Nat} : flk y f t (k + 1) ↔ flk y f t k ∨ fPm y f t k := by
  constructor
  · rintro ⟨c, c1, c2⟩
    rcases Nat.lt_or_ge c k with q | q
    · exact Or.inl ⟨c, q, c2⟩
    · rw [show c = k by omega] at c2; exact Or.inr c2
  · rintro (⟨c, c1, c2⟩ | z)
    · exact ⟨c, by omega, c2⟩
    · exact ⟨k, by omega, z⟩
set_option maxHeartbeats 4000000 in
set_option maxRecDepth 100000 in
theorem l_mflows {G : EG} {l : Launch} {h : EH} {M : Nat} {y : MS} (hM : MD G h M y) (hV : mV y) {a t : Nat} (ha : a < ms y 12) (ht : t < ms y 12) : ∀ (f k : Nat), ms y 13 - k < f → k ≤ ms y 13 → Ex G l 1 mX12_flows (fun v h' => v = some (.int (b2i (bP (flm y a t)))) ∧ h' = h) eNoX 0 0 5 [(0, .ref M), (1, .int (nI (a))), (2, .int (nI (t))), (3, .int (b2i (bP (flk y a t k)))), (4, .int (nI (k)))] [] h := by
  intro f
  induction f with
  | zero =>
    intro k h1 h2
    omega
  | succ f ih =>
    intro k h1 h2
    have k10 : h.2 (M + 10) = some (.inl (eA G 0, 15, .inl (fun j => nI (mA y 10 j)))) := hM.2 10 (by decide) (by decide)
    have h12 := hV.1
    have h13 := hV.2.1
    have w1 : k < ms y 13 → wkd y t a k < 2 ^ 30 := fun z => wkd_lt hV ht ha z
    have w2 : k < ms y 13 → wkd y a t k < 2 ^ 30 := fun z => wkd_lt hV ha ht z
    refine ex_iload rfl dX12_flows_5 ?_
    refine ex_aload_n rfl dX12_flows_7 ?_
    refine ex_get dX12_flows_8 gf_X12_175 hM.1 rfl ?_
    refine ex_icmpN_ge (tgt := 76) (by decide) dX12_flows_11 (by omega) (by omega) (fun c1 => ?_) (fun c1 => ?_)
    · refine ex_iload_n rfl dX12_flows_76 ?_
      refine ex_zret dX12_flows_77 rfl (b2i_nb _) ⟨by rw [show k = ms y 13 by omega]; rfl, rfl⟩
    · refine ex_iload_n rfl dX12_flows_14 ?_
      refine ex_ifB_ne (tgt := 64) (by decide) dX12_flows_15 (fun c2 => ?_) (fun c2 => ?_)
      · refine ex_iconst (v := (nI 1)) (by decide) dX12_flows_64 ?_
        refine ex_goto (tgt := 69) (by decide) dX12_flows_65 ?_
        refine ex_istore_n (by decide) rfl dX12_flows_69 ?_
        refine ex_iincN (z := 1) rfl (by decide) rfl dX12_flows_70 ?_
        refine ex_goto (tgt := 5) (by decide) dX12_flows_73 ?_
        exact ex_lv [(0, .ref M), (1, .int (nI (a))), (2, .int (nI (t))), (3, .int (b2i (bP (flk y a t (k + 1))))), (4, .int (nI (k + 1)))] ⟨rfl, rfl, rfl, rT (flk_s.mpr (Or.inl (bP_t c2))), rfl, trivial⟩ (ih (k + 1) (by omega) (by omega))
      · refine ex_aload_n rfl dX12_flows_18 ?_
        refine ex_iload_n rfl dX12_flows_19 ?_
        refine ex_iload_n rfl dX12_flows_20 ?_
        refine ex_iload rfl dX12_flows_21 ?_
        refine ex_invv (k := 0) (n := 0) (mc' := 0) (ms' := 0) (As := [_, _, _]) dX12_flows_23 cv_X12_206 (by decide) (Nat.le_of_ble_eq_true rfl) (Or.inl ⟨_, _, _, _, hM.1, rfl⟩) (t_worked hM hV ht ha (show k < ms y 13 by omega)) (fun v h' q => ?_)
        obtain ⟨rfl, rfl⟩ := q
        refine ex_aload_n rfl dX12_flows_26 ?_
        refine ex_get dX12_flows_27 gf_X12_45 hM.1 rfl ?_
        refine ex_iconst (v := (nI 5)) (by decide) dX12_flows_30 ?_
        refine ex_iload rfl dX12_flows_31 ?_
        refine ex_imulN dX12_flows_33 ?_
        refine ex_iconst (v := (nI 3)) (by decide) dX12_flows_34 ?_
        refine ex_iaddN dX12_flows_35 ?_
        refine ex_ialdN dX12_flows_36 k10 (by omega) (by decide) ?_
        refine ex_iand dX12_flows_37 ?_
        rw [nx_and]
        refine ex_ifN_ne (tgt := 64) (by decide) dX12_flows_38 (Nat.lt_trans (and_lt (w1 (by omega))) (by decide)) (fun c3 => ?_) (fun c3 => ?_)
        · refine ex_iconst (v := (nI 1)) (by decide) dX12_flows_64 ?_
          refine ex_goto (tgt := 69) (by decide) dX12_flows_65 ?_
          refine ex_istore_n (by decide) rfl dX12_flows_69 ?_
          refine ex_iincN (z := 1) rfl (by decide) rfl dX12_flows_70 ?_
          refine ex_goto (tgt := 5) (by decide) dX12_flows_73 ?_
          exact ex_lv [(0, .ref M), (1, .int (nI (a))), (2, .int (nI (t))), (3, .int (b2i (bP (flk y a t (k + 1))))), (4, .int (nI (k + 1)))] ⟨rfl, rfl, rfl, rT (flk_s.mpr (Or.inr (Or.inl c3))), rfl, trivial⟩ (ih (k + 1) (by omega) (by omega))
        · refine ex_aload_n rfl dX12_flows_41 ?_
          refine ex_iload_n rfl dX12_flows_42 ?_
          refine ex_iload_n rfl dX12_flows_43 ?_
          refine ex_iload rfl dX12_flows_44 ?_
          refine ex_invv (k := 0) (n := 0) (mc' := 0) (ms' := 0) (As := [_, _, _]) dX12_flows_46 cv_X12_206 (by decide) (Nat.le_of_ble_eq_true rfl) (Or.inl ⟨_, _, _, _, hM.1, rfl⟩) (t_worked hM hV ha ht (show k < ms y 13 by omega)) (fun v h' q => ?_)
          obtain ⟨rfl, rfl⟩ := q
          refine ex_aload_n rfl dX12_flows_49 ?_
          refine ex_get dX12_flows_50 gf_X12_45 hM.1 rfl ?_
          refine ex_iconst (v := (nI 5)) (by decide) dX12_flows_53 ?_
          refine ex_iload rfl dX12_flows_54 ?_
          refine ex_imulN dX12_flows_56 ?_
          refine ex_iconst (v := (nI 4)) (by decide) dX12_flows_57 ?_
          refine ex_iaddN dX12_flows_58 ?_
          refine ex_ialdN dX12_flows_59 k10 (by omega) (by decide) ?_
          refine ex_iand dX12_flows_60 ?_
          rw [nx_and]
          refine ex_ifN_eq (tgt := 68) (by decide) dX12_flows_61 (Nat.lt_trans (and_lt (w2 (by omega))) (by decide)) (fun c4 => ?_) (fun c4 => ?_)
          · refine ex_iconst (v := (nI 0)) (by decide) dX12_flows_68 ?_
            refine ex_istore_n (by decide) rfl dX12_flows_69 ?_
            refine ex_iincN (z := 1) rfl (by decide) rfl dX12_flows_70 ?_
            refine ex_goto (tgt := 5) (by decide) dX12_flows_73 ?_
            exact ex_lv [(0, .ref M), (1, .int (nI (a))), (2, .int (nI (t))), (3, .int (b2i (bP (flk y a t (k + 1))))), (4, .int (nI (k + 1)))] ⟨rfl, rfl, rfl, rF (fun z => (flk_s.mp z).elim (bP_f c2) (fun w => w.elim (fun q => q c3) (fun q => q c4))), rfl, trivial⟩ (ih (k + 1) (by omega) (by omega))
          · refine ex_iconst (v := (nI 1)) (by decide) dX12_flows_64 ?_
            refine ex_goto (tgt := 69) (by decide) dX12_flows_65 ?_
            refine ex_istore_n (by decide) rfl dX12_flows_69 ?_
            refine ex_iincN (z := 1) rfl (by decide) rfl dX12_flows_70 ?_
            refine ex_goto (tgt := 5) (by decide) dX12_flows_73 ?_
            exact ex_lv [(0, .ref M), (1, .int (nI (a))), (2, .int (nI (t))), (3, .int (b2i (bP (flk y a t (k + 1))))), (4, .int (nI (k + 1)))] ⟨rfl, rfl, rfl, rT (flk_s.mpr (Or.inr (Or.inr c4))), rfl, trivial⟩ (ih (k + 1) (by omega) (by omega))
set_option maxHeartbeats 4000000 in
set_option maxRecDepth 100000 in
theorem t_flows {G : EG} {l : Launch} {h : EH} {M : Nat} {y : MS} (hM : MD G h M y) (hV : mV y) {a t : Nat} (ha : a < ms y 12) (ht : t < ms y 12) : ES G l 1 mX12_flows [.ref M, .int (nI a), .int (nI t)] h 0 0 (fun v h' => v = some (.int (b2i (bP (flm y a t)))) ∧ h' = h) eNoX := by
  refine es_of (by decide) rfl (Nat.le_of_ble_eq_true rfl) ?_
  refine ex_iconst (v := (nI 0)) (by decide) dX12_flows_0 ?_
  refine ex_istore_n (by decide) rfl dX12_flows_1 ?_
  refine ex_iconst (v := (nI 0)) (by decide) dX12_flows_2 ?_
  refine ex_istore (by decide) rfl dX12_flows_3 ?_
  exact ex_lv [(0, .ref M), (1, .int (nI (a))), (2, .int (nI (t))), (3, .int (b2i (bP (flk y a t 0)))), (4, .int (nI (0)))] ⟨rfl, rfl, rfl, rF (fun ⟨c, c1, _⟩ => by omega), rfl, trivial⟩ (l_mflows hM hV ha ht (ms y 13 + 1) 0 (by omega) (by omega))
def rcm (F : Nat → Nat → Prop) (T u : Nat) : Nat → Nat → Prop
  | 0 => fun t => t = u
  | k + 1 => fun t => rcm F T u k t ∨ ∃ f, f < T ∧ rcm F T u k f ∧ F f t
def stm (F : Nat → Nat → Prop) (T u b : Nat) (o : Option Nat) : Prop := (∀ k, o = some k → k < 8 ∧ rcm F T u k b ∧ ∀ j, j < k → ¬ rcm F T u j b) ∧ (o = none → ∀ k, k < 8 → ¬ rcm F T u k b)
theorem Kp.rc {FS AS : List Nat} {a b : MS} (h : Kp FS AS a b) {k : Nat} {v : Bool} : Kp FS AS a (mUr b k v) := h
theorem Kp.nx {FS AS : List Nat} {a b : MS} (h : Kp FS AS a b) {k : Nat} {v : Bool} : Kp FS AS a (mUx b k v) := h
theorem Kp.fl {a b : MS} (h : Kp [] [] a b) : flm b = flm a := by
  have e : wkd b = wkd a := by unfold wkd; rw [h.2.2 7 (by decide), h.2.2 8 (by decide), h.2.2 10 (by decide)]
  unfold flm flk fPm
  rw [e, h.2.2 10 (by decide), h.1 13 (by decide)]
theorem Kp.V {a b : MS} (h : Kp [] [] a b) (hV : mV a) : mV b := by unfold mV; rw [h.1 12 (by decide), h.1 13 (by decide), h.2.2 7 (by decide), h.2.2 8 (by decide), h.2.2 10 (by decide)]; exact hV
def inx (F : Nat → Nat → Prop) (T u n i t : Nat) : Prop := rcm F T u n t ∨ ∃ f, f < i ∧ rcm F T u n f ∧ F f t
theorem inx_s {F : Nat → Nat → Prop} {T u n i t : Nat} : inx F T u n (i + 1) t ↔ inx F T u n i t ∨ (rcm F T u n i ∧ F i t) := by
  constructor
  · rintro (z | ⟨f, f1, f2⟩)
    · exact Or.inl (Or.inl z)
    · rcases Nat.lt_or_ge f i with q | q
      · exact Or.inl (Or.inr ⟨f, q, f2⟩)
      · rw [show f = i by omega] at f2; exact Or.inr f2
  · rintro ((z | ⟨f, f1, f2⟩) | z)
    · exact Or.inl z
    · exact Or.inr ⟨f, by omega, f2⟩
    · exact Or.inr ⟨i, by omega, z⟩
theorem bPt {P : Prop} (h : P) : true = bP P := (bP_iff.mpr h).symm
theorem bPn {P : Prop} (h : ¬ P) : false = bP P := (bP_no h).symm
set_option maxHeartbeats 4000000 in
set_option maxRecDepth 100000 in
theorem l_fl5 {G : EG} {l : Launch} {h0 : EH} {M : Nat} {y0 : MS} (hV : mV y0) {a b T : Nat} (hT : ms y0 12 = T) (ha : a < T) (hb : b < T) {n : Nat} (ho : ∀ (h : EH) (y : MS), MD G h M y → Kp [] [] y0 y → (∀ t, t < T → mrc y t = bP (rcm (flm y0) T a (n + 1) t)) → Fr (atN M) h0 h → Ex G l 2 mX12_flow (fun v h' => ∃ r, v = some (.int (oI r)) ∧ stm (flm y0) T a b r ∧ Fr (atN M) h0 h' ∧ ∃ y', MD G h' M y' ∧ Kp [] [] y0 y') eNoX 0 0 51 [(0, .ref M), (1, .int (nI (a))), (2, .int (nI (b))), (3, .int (nI (n + 1)))] [] h) : ∀ (f k : Nat), T - k < f → k ≤ T → ∀ (h : EH) (y : MS), MD G h M y → Kp [] [] y0 y → (∀ t, t < T → mnx y t = bP (rcm (flm y0) T a (n + 1) t)) → (∀ t, t < k → mrc y t = bP (rcm (flm y0) T a (n + 1) t)) → Fr (atN M) h0 h → Ex G l 2 mX12_flow (fun v h' => ∃ r, v = some (.int (oI r)) ∧ stm (flm y0) T a b r ∧ Fr (atN M) h0 h' ∧ ∃ y', MD G h' M y' ∧ Kp [] [] y0 y') eNoX 0 0 164 [(0, .ref M), (1, .int (nI (a))), (2, .int (nI (b))), (3, .int (nI (n))), (4, .int (nI (k)))] [] h := by
  intro f
  induction f with
  | zero =>
    intro k h1 h2 h y hM hK hx hr hF
    omega
  | succ f ih =>
    intro k h1 h2 h y hM hK hx hr hF
    have h8 := hV.1
    have eT : ms y 12 = T := (hK.1 12 (by decide)).trans hT
    have k17 : h.2 (M + 17) = some (.inl (eA G 3, 8, .inl (fun j => b2i (mrc y j)))) := hM.2 17 (by decide) (by decide)
    have k18 : h.2 (M + 18) = some (.inl (eA G 3, 8, .inl (fun j => b2i (mnx y j)))) := hM.2 18 (by decide) (by decide)
    refine ex_iload rfl dX12_flow_164 ?_
    refine ex_aload_n rfl dX12_flow_166 ?_
    refine ex_get dX12_flow_167 gf_X12_172 hM.1 rfl ?_
    rw [eT]
    refine ex_icmpN_ge (tgt := 193) (by decide) dX12_flow_170 (by omega) (by omega) (fun c1 => ?_) (fun c1 => ?_)
    · refine ex_iincN (z := 1) rfl (by decide) rfl dX12_flow_193 ?_
      refine ex_goto (tgt := 51) (by decide) dX12_flow_196 ?_
      exact ex_lv [(0, .ref M), (1, .int (nI (a))), (2, .int (nI (b))), (3, .int (nI (n + 1)))] ⟨rfl, rfl, rfl, rfl, trivial⟩ (ho _ _ hM hK (fun t ht => hr t (by omega)) hF)
    · refine ex_aload_n rfl dX12_flow_173 ?_
      refine ex_get dX12_flow_174 gf_X12_66 hM.1 rfl ?_
      refine ex_iload rfl dX12_flow_177 ?_
      refine ex_aload_n rfl dX12_flow_179 ?_
      refine ex_get dX12_flow_180 gf_X12_70 hM.1 rfl ?_
      refine ex_iload rfl dX12_flow_183 ?_
      refine ex_zaldN dX12_flow_185 k18 (by omega) (by decide) ?_
      refine ex_zastN dX12_flow_186 k17 (by omega) (by decide) ?_
      refine ex_iincN (z := 1) rfl (by decide) rfl dX12_flow_187 ?_
      refine ex_goto (tgt := 164) (by decide) dX12_flow_190 ?_
      exact ex_lv [(0, .ref M), (1, .int (nI (a))), (2, .int (nI (b))), (3, .int (nI (n))), (4, .int (nI (k + 1)))] ⟨rfl, rfl, rfl, rfl, rfl, trivial⟩ (ih (k + 1) (by omega) (by omega) _ _ (hM.rc k (mnx y k)) hK.rc hx (fun t ht => by show va_up (mrc y) k (mnx y k) t = _; unfold va_up; by_cases e : t = k; (rw [if_pos e, e]; exact hx k (by omega)); (rw [if_neg e]; exact hr t (by omega))) (hF.up ⟨by omega, by omega⟩))
set_option maxHeartbeats 4000000 in
set_option maxRecDepth 100000 in
theorem l_fl4 {G : EG} {l : Launch} {h0 : EH} {M : Nat} {y0 : MS} (hV : mV y0) {a b T : Nat} (hT : ms y0 12 = T) (ha : a < T) (hb : b < T) {n t : Nat} (ht : t < T) (ho : ∀ (h : EH) (y : MS), MD G h M y → Kp [] [] y0 y → (∀ j, j < T → mrc y j = bP (rcm (flm y0) T a n j)) → (∀ j, j < t + 1 → mnx y j = bP (rcm (flm y0) T a (n + 1) j)) → Fr (atN M) h0 h → Ex G l 2 mX12_flow (fun v h' => ∃ r, v = some (.int (oI r)) ∧ stm (flm y0) T a b r ∧ Fr (atN M) h0 h' ∧ ∃ y', MD G h' M y' ∧ Kp [] [] y0 y') eNoX 0 0 71 [(0, .ref M), (1, .int (nI (a))), (2, .int (nI (b))), (3, .int (nI (n))), (4, .int (nI (t + 1)))] [] h) : ∀ (f k : Nat), T - k < f → k ≤ T → ∀ (h : EH) (y : MS), MD G h M y → Kp [] [] y0 y → (∀ j, j < T → mrc y j = bP (rcm (flm y0) T a n j)) → (∀ j, j < t → mnx y j = bP (rcm (flm y0) T a (n + 1) j)) → mnx y t = bP (inx (flm y0) T a n k t) → Fr (atN M) h0 h → Ex G l 2 mX12_flow (fun v h' => ∃ r, v = some (.int (oI r)) ∧ stm (flm y0) T a b r ∧ Fr (atN M) h0 h' ∧ ∃ y', MD G h' M y' ∧ Kp [] [] y0 y') eNoX 0 0 97 [(0, .ref M), (1, .int (nI (a))), (2, .int (nI (b))), (3, .int (nI (n))), (4, .int (nI (t))), (5, .int (nI (k)))] [] h := by
  intro f
  induction f with
  | zero =>
    intro k h1 h2 h y hM hK hr hp hx hF
    omega
  | succ f ih =>
    intro k h1 h2 h y hM hK hr hp hx hF
    have h8 := hV.1
    have eT : ms y 12 = T := (hK.1 12 (by decide)).trans hT
    have k17 : h.2 (M + 17) = some (.inl (eA G 3, 8, .inl (fun j => b2i (mrc y j)))) := hM.2 17 (by decide) (by decide)
    have k18 : h.2 (M + 18) = some (.inl (eA G 3, 8, .inl (fun j => b2i (mnx y j)))) := hM.2 18 (by decide) (by decide)
    refine ex_iload rfl dX12_flow_97 ?_
    refine ex_aload_n rfl dX12_flow_99 ?_
    refine ex_get dX12_flow_100 gf_X12_172 hM.1 rfl ?_
    rw [eT]
    refine ex_icmpN_ge (tgt := 155) (by decide) dX12_flow_103 (by omega) (by omega) (fun c1 => ?_) (fun c1 => ?_)
    · refine ex_iincN (z := 1) rfl (by decide) rfl dX12_flow_155 ?_
      refine ex_goto (tgt := 71) (by decide) dX12_flow_158 ?_
      exact ex_lv [(0, .ref M), (1, .int (nI (a))), (2, .int (nI (b))), (3, .int (nI (n))), (4, .int (nI (t + 1)))] ⟨rfl, rfl, rfl, rfl, rfl, trivial⟩ (ho _ _ hM hK hr (fun j hj => by rcases Nat.lt_or_ge j t with q | q; exact hp j q; rw [show j = t by omega, hx, show k = T by omega]; rfl) hF)
    · refine ex_aload_n rfl dX12_flow_106 ?_
      refine ex_get dX12_flow_107 gf_X12_70 hM.1 rfl ?_
      refine ex_iload rfl dX12_flow_110 ?_
      refine ex_aload_n rfl dX12_flow_112 ?_
      refine ex_get dX12_flow_113 gf_X12_70 hM.1 rfl ?_
      refine ex_iload rfl dX12_flow_116 ?_
      refine ex_zaldN dX12_flow_118 k18 (by omega) (by decide) ?_
      refine ex_ifB_ne (tgt := 143) (by decide) dX12_flow_119 (fun c2 => ?_) (fun c2 => ?_)
      · refine ex_iconst (v := (nI 1)) (by decide) dX12_flow_143 ?_
        refine ex_goto (tgt := 148) (by decide) dX12_flow_144 ?_
        refine ex_zastN (b := true) dX12_flow_148 k18 (by omega) (by decide) ?_
        refine ex_iincN (z := 1) rfl (by decide) rfl dX12_flow_149 ?_
        refine ex_goto (tgt := 97) (by decide) dX12_flow_152 ?_
        exact ex_lv [(0, .ref M), (1, .int (nI (a))), (2, .int (nI (b))), (3, .int (nI (n))), (4, .int (nI (t))), (5, .int (nI (k + 1)))] ⟨rfl, rfl, rfl, rfl, rfl, rfl, trivial⟩ (ih (k + 1) (by omega) (by omega) _ _ (hM.nx t true) hK.nx hr (fun j hj => by show va_up (mnx y) t true j = _; unfold va_up; rw [if_neg (by omega)]; exact hp j hj) (by show va_up (mnx y) t true t = _; unfold va_up; rw [if_pos rfl]; exact bPt (inx_s.mpr (Or.inl (bP_t (hx.symm.trans c2))))) (hF.up ⟨by omega, by omega⟩))
      · refine ex_aload_n rfl dX12_flow_122 ?_
        refine ex_get dX12_flow_123 gf_X12_66 hM.1 rfl ?_
        refine ex_iload rfl dX12_flow_126 ?_
        refine ex_zaldN dX12_flow_128 k17 (by omega) (by decide) ?_
        refine ex_ifB_eq (tgt := 147) (by decide) dX12_flow_129 (fun c3 => ?_) (fun c3 => ?_)
        · refine ex_iconst (v := (nI 0)) (by decide) dX12_flow_147 ?_
          refine ex_zastN (b := false) dX12_flow_148 k18 (by omega) (by decide) ?_
          refine ex_iincN (z := 1) rfl (by decide) rfl dX12_flow_149 ?_
          refine ex_goto (tgt := 97) (by decide) dX12_flow_152 ?_
          exact ex_lv [(0, .ref M), (1, .int (nI (a))), (2, .int (nI (b))), (3, .int (nI (n))), (4, .int (nI (t))), (5, .int (nI (k + 1)))] ⟨rfl, rfl, rfl, rfl, rfl, rfl, trivial⟩ (ih (k + 1) (by omega) (by omega) _ _ (hM.nx t false) hK.nx hr (fun j hj => by show va_up (mnx y) t false j = _; unfold va_up; rw [if_neg (by omega)]; exact hp j hj) (by show va_up (mnx y) t false t = _; unfold va_up; rw [if_pos rfl]; exact bPn (fun z => (inx_s.mp z).elim (bP_f (hx.symm.trans c2)) (fun w => bP_f ((hr k (by omega)).symm.trans c3) w.1))) (hF.up ⟨by omega, by omega⟩))
        · refine ex_aload_n rfl dX12_flow_132 ?_
          refine ex_iload rfl dX12_flow_133 ?_
          refine ex_iload rfl dX12_flow_135 ?_
          refine ex_invv (k := 0) (n := 0) (mc' := 0) (ms' := 0) (As := [_, _]) dX12_flow_137 cv_X12_215 (by decide) (Nat.le_of_ble_eq_true rfl) (Or.inl ⟨_, _, _, _, hM.1, rfl⟩) (t_flows hM (hK.V hV) (a := k) (t := t) (by omega) (by omega)) (fun v h' q => ?_)
          obtain ⟨rfl, rfl⟩ := q
          rw [hK.fl]
          refine ex_ifB_eq (tgt := 147) (by decide) dX12_flow_140 (fun c4 => ?_) (fun c4 => ?_)
          · refine ex_iconst (v := (nI 0)) (by decide) dX12_flow_147 ?_
            refine ex_zastN (b := false) dX12_flow_148 k18 (by omega) (by decide) ?_
            refine ex_iincN (z := 1) rfl (by decide) rfl dX12_flow_149 ?_
            refine ex_goto (tgt := 97) (by decide) dX12_flow_152 ?_
            exact ex_lv [(0, .ref M), (1, .int (nI (a))), (2, .int (nI (b))), (3, .int (nI (n))), (4, .int (nI (t))), (5, .int (nI (k + 1)))] ⟨rfl, rfl, rfl, rfl, rfl, rfl, trivial⟩ (ih (k + 1) (by omega) (by omega) _ _ (hM.nx t false) hK.nx hr (fun j hj => by show va_up (mnx y) t false j = _; unfold va_up; rw [if_neg (by omega)]; exact hp j hj) (by show va_up (mnx y) t false t = _; unfold va_up; rw [if_pos rfl]; exact bPn (fun z => (inx_s.mp z).elim (bP_f (hx.symm.trans c2)) (fun w => bP_f c4 w.2))) (hF.up ⟨by omega, by omega⟩))
          · refine ex_iconst (v := (nI 1)) (by decide) dX12_flow_143 ?_
            refine ex_goto (tgt := 148) (by decide) dX12_flow_144 ?_
            refine ex_zastN (b := true) dX12_flow_148 k18 (by omega) (by decide) ?_
            refine ex_iincN (z := 1) rfl (by decide) rfl dX12_flow_149 ?_
            refine ex_goto (tgt := 97) (by decide) dX12_flow_152 ?_
            exact ex_lv [(0, .ref M), (1, .int (nI (a))), (2, .int (nI (b))), (3, .int (nI (n))), (4, .int (nI (t))), (5, .int (nI (k + 1)))] ⟨rfl, rfl, rfl, rfl, rfl, rfl, trivial⟩ (ih (k + 1) (by omega) (by omega) _ _ (hM.nx t true) hK.nx hr (fun j hj => by show va_up (mnx y) t true j = _; unfold va_up; rw [if_neg (by omega)]; exact hp j hj) (by show va_up (mnx y) t true t = _; unfold va_up; rw [if_pos rfl]; exact bPt (inx_s.mpr (Or.inr ⟨bP_t ((hr k (by omega)).symm.trans c3), bP_t c4⟩))) (hF.up ⟨by omega, by omega⟩))
set_option maxHeartbeats 4000000 in
set_option maxRecDepth 100000 in
theorem l_fl3 {G : EG} {l : Launch} {h0 : EH} {M : Nat} {y0 : MS} (hV : mV y0) {a b T : Nat} (hT : ms y0 12 = T) (ha : a < T) (hb : b < T) {n : Nat} (ho : ∀ (h : EH) (y : MS), MD G h M y → Kp [] [] y0 y → (∀ t, t < T → mrc y t = bP (rcm (flm y0) T a (n + 1) t)) → Fr (atN M) h0 h → Ex G l 2 mX12_flow (fun v h' => ∃ r, v = some (.int (oI r)) ∧ stm (flm y0) T a b r ∧ Fr (atN M) h0 h' ∧ ∃ y', MD G h' M y' ∧ Kp [] [] y0 y') eNoX 0 0 51 [(0, .ref M), (1, .int (nI (a))), (2, .int (nI (b))), (3, .int (nI (n + 1)))] [] h) : ∀ (f k : Nat), T - k < f → k ≤ T → ∀ (h : EH) (y : MS), MD G h M y → Kp [] [] y0 y → (∀ j, j < T → mrc y j = bP (rcm (flm y0) T a n j)) → (∀ j, j < k → mnx y j = bP (rcm (flm y0) T a (n + 1) j)) → Fr (atN M) h0 h → Ex G l 2 mX12_flow (fun v h' => ∃ r, v = some (.int (oI r)) ∧ stm (flm y0) T a b r ∧ Fr (atN M) h0 h' ∧ ∃ y', MD G h' M y' ∧ Kp [] [] y0 y') eNoX 0 0 71 [(0, .ref M), (1, .int (nI (a))), (2, .int (nI (b))), (3, .int (nI (n))), (4, .int (nI (k)))] [] h := by
  intro f
  induction f with
  | zero =>
    intro k h1 h2 h y hM hK hr hp hF
    omega
  | succ f ih =>
    intro k h1 h2 h y hM hK hr hp hF
    have h8 := hV.1
    have eT : ms y 12 = T := (hK.1 12 (by decide)).trans hT
    have k17 : h.2 (M + 17) = some (.inl (eA G 3, 8, .inl (fun j => b2i (mrc y j)))) := hM.2 17 (by decide) (by decide)
    have k18 : h.2 (M + 18) = some (.inl (eA G 3, 8, .inl (fun j => b2i (mnx y j)))) := hM.2 18 (by decide) (by decide)
    refine ex_iload rfl dX12_flow_71 ?_
    refine ex_aload_n rfl dX12_flow_73 ?_
    refine ex_get dX12_flow_74 gf_X12_172 hM.1 rfl ?_
    rw [eT]
    refine ex_icmpN_ge (tgt := 161) (by decide) dX12_flow_77 (by omega) (by omega) (fun c1 => ?_) (fun c1 => ?_)
    · refine ex_iconst (v := (nI 0)) (by decide) dX12_flow_161 ?_
      refine ex_istore (by decide) rfl dX12_flow_162 ?_
      exact ex_lv [(0, .ref M), (1, .int (nI (a))), (2, .int (nI (b))), (3, .int (nI (n))), (4, .int (nI (0)))] ⟨rfl, rfl, rfl, rfl, rfl, trivial⟩ (l_fl5 hV hT ha hb ho (T + 1) 0 (by omega) (by omega) _ _ hM hK (fun t ht => hp t (by omega)) (fun t ht => by omega) hF)
    · refine ex_aload_n rfl dX12_flow_80 ?_
      refine ex_get dX12_flow_81 gf_X12_70 hM.1 rfl ?_
      refine ex_iload rfl dX12_flow_84 ?_
      refine ex_aload_n rfl dX12_flow_86 ?_
      refine ex_get dX12_flow_87 gf_X12_66 hM.1 rfl ?_
      refine ex_iload rfl dX12_flow_90 ?_
      refine ex_zaldN dX12_flow_92 k17 (by omega) (by decide) ?_
      refine ex_zastN dX12_flow_93 k18 (by omega) (by decide) ?_
      refine ex_iconst (v := (nI 0)) (by decide) dX12_flow_94 ?_
      refine ex_istore (by decide) rfl dX12_flow_95 ?_
      exact ex_lv [(0, .ref M), (1, .int (nI (a))), (2, .int (nI (b))), (3, .int (nI (n))), (4, .int (nI (k))), (5, .int (nI (0)))] ⟨rfl, rfl, rfl, rfl, rfl, rfl, trivial⟩ (l_fl4 hV hT ha hb (t := k) (by omega) (fun h y hM hK hr hp hF => ih (k + 1) (by omega) (by omega) h y hM hK hr hp hF) (T + 1) 0 (by omega) (by omega) _ _ (hM.nx k (mrc y k)) hK.nx hr (fun j hj => by show va_up (mnx y) k _ j = _; unfold va_up; rw [if_neg (by omega)]; exact hp j hj) (by show va_up (mnx y) k (mrc y k) k = _; unfold va_up; rw [if_pos rfl, hr k (by omega)]; exact bP_eq ⟨Or.inl, fun z => z.elim id (fun ⟨f, f1, _⟩ => by omega)⟩) (hF.up ⟨by omega, by omega⟩))
set_option maxHeartbeats 4000000 in
set_option maxRecDepth 100000 in
theorem l_fl2 {G : EG} {l : Launch} {h0 : EH} {M : Nat} {y0 : MS} (hV : mV y0) {a b T : Nat} (hT : ms y0 12 = T) (ha : a < T) (hb : b < T) : ∀ (f k : Nat), 8 - k < f → k ≤ 8 → ∀ (h : EH) (y : MS), MD G h M y → Kp [] [] y0 y → (∀ j, j < T → mrc y j = bP (rcm (flm y0) T a k j)) → (∀ j, j < k → ¬ rcm (flm y0) T a j b) → Fr (atN M) h0 h → Ex G l 2 mX12_flow (fun v h' => ∃ r, v = some (.int (oI r)) ∧ stm (flm y0) T a b r ∧ Fr (atN M) h0 h' ∧ ∃ y', MD G h' M y' ∧ Kp [] [] y0 y') eNoX 0 0 51 [(0, .ref M), (1, .int (nI (a))), (2, .int (nI (b))), (3, .int (nI (k)))] [] h := by
  intro f
  induction f with
  | zero =>
    intro k h1 h2 h y hM hK hr hne hF
    omega
  | succ f ih =>
    intro k h1 h2 h y hM hK hr hne hF
    have h8 := hV.1
    have eT : ms y 12 = T := (hK.1 12 (by decide)).trans hT
    have k17 : h.2 (M + 17) = some (.inl (eA G 3, 8, .inl (fun j => b2i (mrc y j)))) := hM.2 17 (by decide) (by decide)
    have k18 : h.2 (M + 18) = some (.inl (eA G 3, 8, .inl (fun j => b2i (mnx y j)))) := hM.2 18 (by decide) (by decide)
    refine ex_iload_n rfl dX12_flow_51 ?_
    refine ex_bipush (v := (nI 8)) (by decide) dX12_flow_52 ?_
    refine ex_icmpN_ge (tgt := 199) (by decide) dX12_flow_54 (by omega) (by omega) (fun c1 => ?_) (fun c1 => ?_)
    · refine ex_iconst (v := (-1)) (by decide) dX12_flow_199 ?_
      refine ex_iret dX12_flow_200 rfl ⟨none, rfl, ⟨fun i hi => (by cases hi), fun _ j hj => hne j (by omega)⟩, hF, y, hM, hK⟩
    · refine ex_aload_n rfl dX12_flow_57 ?_
      refine ex_get dX12_flow_58 gf_X12_66 hM.1 rfl ?_
      refine ex_iload_n rfl dX12_flow_61 ?_
      refine ex_zaldN dX12_flow_62 k17 (by omega) (by decide) ?_
      refine ex_ifB_eq (tgt := 68) (by decide) dX12_flow_63 (fun c2 => ?_) (fun c2 => ?_)
      · refine ex_iconst (v := (nI 0)) (by decide) dX12_flow_68 ?_
        refine ex_istore (by decide) rfl dX12_flow_69 ?_
        have hnb : ¬ rcm (flm y0) T a k b := bP_f ((hr b hb).symm.trans c2)
        exact ex_lv [(0, .ref M), (1, .int (nI (a))), (2, .int (nI (b))), (3, .int (nI (k))), (4, .int (nI (0)))] ⟨rfl, rfl, rfl, rfl, rfl, trivial⟩ (l_fl3 hV hT ha hb (fun h y hM hK hr hF => ih (k + 1) (by omega) (by omega) h y hM hK hr (fun j hj => by rcases Nat.lt_or_ge j k with q | q; exact hne j q; rw [show j = k by omega]; exact hnb) hF) (T + 1) 0 (by omega) (by omega) _ _ hM hK hr (fun j hj => by omega) hF)
      · refine ex_iload_n rfl dX12_flow_66 ?_
        refine ex_iret dX12_flow_67 rfl ⟨some k, rfl, ⟨fun i hi => (by cases hi; exact ⟨c1, bP_t ((hr b hb).symm.trans c2), hne⟩), fun z => (by cases z)⟩, hF, y, hM, hK⟩
set_option maxHeartbeats 4000000 in
set_option maxRecDepth 100000 in
theorem l_fl1 {G : EG} {l : Launch} {h0 : EH} {M : Nat} {y0 : MS} (hV : mV y0) {a b T : Nat} (hT : ms y0 12 = T) (ha : a < T) (hb : b < T) : ∀ (f k : Nat), T - k < f → k ≤ T → ∀ (h : EH) (y : MS), MD G h M y → Kp [] [] y0 y → (∀ j, j < k → mrc y j = bP (j = a)) → Fr (atN M) h0 h → Ex G l 2 mX12_flow (fun v h' => ∃ r, v = some (.int (oI r)) ∧ stm (flm y0) T a b r ∧ Fr (atN M) h0 h' ∧ ∃ y', MD G h' M y' ∧ Kp [] [] y0 y') eNoX 0 0 19 [(0, .ref M), (1, .int (nI (a))), (2, .int (nI (b))), (3, .int (nI (k)))] [] h := by
  intro f
  induction f with
  | zero =>
    intro k h1 h2 h y hM hK hr hF
    omega
  | succ f ih =>
    intro k h1 h2 h y hM hK hr hF
    have h8 := hV.1
    have eT : ms y 12 = T := (hK.1 12 (by decide)).trans hT
    have k17 : h.2 (M + 17) = some (.inl (eA G 3, 8, .inl (fun j => b2i (mrc y j)))) := hM.2 17 (by decide) (by decide)
    refine ex_iload_n rfl dX12_flow_19 ?_
    refine ex_aload_n rfl dX12_flow_20 ?_
    refine ex_get dX12_flow_21 gf_X12_172 hM.1 rfl ?_
    rw [eT]
    refine ex_icmpN_ge (tgt := 49) (by decide) dX12_flow_24 (by omega) (by omega) (fun c1 => ?_) (fun c1 => ?_)
    · refine ex_iconst (v := (nI 0)) (by decide) dX12_flow_49 ?_
      refine ex_istore_n (by decide) rfl dX12_flow_50 ?_
      exact ex_lv [(0, .ref M), (1, .int (nI (a))), (2, .int (nI (b))), (3, .int (nI (0)))] ⟨rfl, rfl, rfl, rfl, trivial⟩ (l_fl2 hV hT ha hb 9 0 (by omega) (by omega) _ _ hM hK (fun j hj => hr j (by omega)) (fun j hj => by omega) hF)
    · refine ex_aload_n rfl dX12_flow_27 ?_
      refine ex_get dX12_flow_28 gf_X12_66 hM.1 rfl ?_
      refine ex_iload_n rfl dX12_flow_31 ?_
      refine ex_iload_n rfl dX12_flow_32 ?_
      refine ex_iload_n rfl dX12_flow_33 ?_
      refine ex_icmpN_ne (tgt := 41) (by decide) dX12_flow_34 (by omega) (by omega) (fun c2 => ?_) (fun c2 => ?_)
      · refine ex_iconst (v := (nI 0)) (by decide) dX12_flow_41 ?_
        refine ex_zastN (b := false) dX12_flow_42 k17 (by omega) (by decide) ?_
        refine ex_iincN (z := 1) rfl (by decide) rfl dX12_flow_43 ?_
        refine ex_goto (tgt := 19) (by decide) dX12_flow_46 ?_
        exact ex_lv [(0, .ref M), (1, .int (nI (a))), (2, .int (nI (b))), (3, .int (nI (k + 1)))] ⟨rfl, rfl, rfl, rfl, trivial⟩ (ih (k + 1) (by omega) (by omega) _ _ (hM.rc k false) hK.rc (fun t ht => by show va_up (mrc y) k false t = _; unfold va_up; by_cases e : t = k; (rw [if_pos e, e]; exact bPn c2); (rw [if_neg e]; exact hr t (by omega))) (hF.up ⟨by omega, by omega⟩))
      · refine ex_iconst (v := (nI 1)) (by decide) dX12_flow_37 ?_
        refine ex_goto (tgt := 42) (by decide) dX12_flow_38 ?_
        refine ex_zastN (b := true) dX12_flow_42 k17 (by omega) (by decide) ?_
        refine ex_iincN (z := 1) rfl (by decide) rfl dX12_flow_43 ?_
        refine ex_goto (tgt := 19) (by decide) dX12_flow_46 ?_
        exact ex_lv [(0, .ref M), (1, .int (nI (a))), (2, .int (nI (b))), (3, .int (nI (k + 1)))] ⟨rfl, rfl, rfl, rfl, trivial⟩ (ih (k + 1) (by omega) (by omega) _ _ (hM.rc k true) hK.rc (fun t ht => by show va_up (mrc y) k true t = _; unfold va_up; by_cases e : t = k; (rw [if_pos e, e]; exact bPt c2); (rw [if_neg e]; exact hr t (by omega))) (hF.up ⟨by omega, by omega⟩))
set_option maxHeartbeats 4000000 in
set_option maxRecDepth 100000 in
theorem l_flow {G : EG} {l : Launch} {M : Nat} {h0 : EH} {y : MS} (hV : mV y) {a b : Nat} (ha : a < ms y 12) (hb : b < ms y 12) (hc : 0 < ms y 13) {h : EH} (hM : MD G h M y) (hF : Fr (atN M) h0 h) : Ex G l 2 mX12_flow (fun v h' => ∃ r, v = some (.int (oI r)) ∧ stm (flm y) (ms y 12) a b r ∧ Fr (atN M) h0 h' ∧ ∃ y', MD G h' M y' ∧ Kp [] [] y y') eNoX 0 0 5 [(0, .ref M), (1, .int (nI (a))), (2, .int (nI (b)))] [] h := by
  have h12 := hV.1
  have h13 := hV.2.1
  refine ex_aload_n rfl dX12_flow_5 ?_
  refine ex_iload_n rfl dX12_flow_6 ?_
  refine ex_iload_n rfl dX12_flow_7 ?_
  refine ex_iconst (v := (nI 0)) (by decide) dX12_flow_8 ?_
  refine ex_invv (k := 0) (n := 0) (mc' := 0) (ms' := 0) (As := [_, _, _]) dX12_flow_9 cv_X12_203 (by decide) (Nat.le_of_ble_eq_true rfl) (Or.inl ⟨_, _, _, _, hM.1, rfl⟩) (t_isThere hM (nI a) (nI b) (nI 0)) (fun v h' q => ?_)
  obtain ⟨rfl, rfl⟩ := q
  refine ex_ifB_ne (tgt := 17) (by decide) dX12_flow_12 (fun c1 => ?_) (fun c1 => ?_)
  · refine ex_iconst (v := (nI 0)) (by decide) dX12_flow_17 ?_
    refine ex_istore_n (by decide) rfl dX12_flow_18 ?_
    exact ex_lv [(0, .ref M), (1, .int (nI (a))), (2, .int (nI (b))), (3, .int (nI (0)))] ⟨rfl, rfl, rfl, rfl, trivial⟩ (l_fl1 hV rfl ha hb (ms y 12 + 1) 0 (by omega) (by omega) _ _ hM Kp.rf (fun j hj => by omega) hF)
  · exact absurd (⟨(inR_nI (by omega) (by omega)).mpr ha, (inR_nI (by omega) (by omega)).mpr hb, (inR_nI (by omega) (by omega)).mpr hc⟩ : _ ∧ _) (bP_f c1)
set_option maxHeartbeats 4000000 in
set_option maxRecDepth 100000 in
theorem l_flowN {G : EG} {l : Launch} {h : EH} {M : Nat} {y : MS} (hM : MD G h M y) {s t : Int32} (hn : ¬ (inR s (ms y 12) ∧ inR t (ms y 12) ∧ inR (nI 0) (ms y 13))) {Q : Option Value → EH → Prop} (hQ : Q (some (.int (-1))) h) : Ex G l 2 mX12_flow Q eNoX 0 0 5 [(0, .ref M), (1, .int s), (2, .int t)] [] h := by
  refine ex_aload_n rfl dX12_flow_5 ?_
  refine ex_iload_n rfl dX12_flow_6 ?_
  refine ex_iload_n rfl dX12_flow_7 ?_
  refine ex_iconst (v := (nI 0)) (by decide) dX12_flow_8 ?_
  refine ex_invv (k := 0) (n := 0) (mc' := 0) (ms' := 0) (As := [_, _, _]) dX12_flow_9 cv_X12_203 (by decide) (Nat.le_of_ble_eq_true rfl) (Or.inl ⟨_, _, _, _, hM.1, rfl⟩) (t_isThere hM s t (nI 0)) (fun v h' q => ?_)
  obtain ⟨rfl, rfl⟩ := q
  refine ex_ifB_ne (tgt := 17) (by decide) dX12_flow_12 (fun c1 => ?_) (fun c1 => ?_)
  · exact absurd (bP_t c1) hn
  · refine ex_iconst (v := (-1)) (by decide) dX12_flow_15 ?_
    refine ex_iret dX12_flow_16 rfl hQ
set_option maxHeartbeats 4000000 in
set_option maxRecDepth 100000 in
theorem t_flow {G : EG} {l : Launch} {h : EH} {M : Nat} {y : MS} (hM : MD G h M y) (hV : mV y) {a b : Nat} (ha : a < ms y 12) (hb : b < ms y 12) (hc : 0 < ms y 13) : ES G l 2 mX12_flow [.ref M, .int (nI a), .int (nI b)] h 0 0 (fun v h' => ∃ r, v = some (.int (oI r)) ∧ stm (flm y) (ms y 12) a b r ∧ Fr (atN M) h h' ∧ ∃ y', MD G h' M y' ∧ Kp [] [] (th0 y 0) y') eNoX := by
  refine es_of (by decide) rfl (Nat.le_of_ble_eq_true rfl) ?_
  refine ex_aload_n rfl dX12_flow_0 ?_
  refine ex_iconst (v := (nI 0)) (by decide) dX12_flow_1 ?_
  refine ex_put dX12_flow_2 pf_X12_76 hM.1 (Nat.le_of_ble_eq_true rfl) rfl rfl ?_
  exact l_flow (y := th0 y 0) hV ha hb hc (hM.th 0 rfl) (Fr.rf.up ⟨by omega, by omega⟩)
set_option maxHeartbeats 4000000 in
set_option maxRecDepth 100000 in
theorem t_flowN {G : EG} {l : Launch} {h : EH} {M : Nat} {y : MS} (hM : MD G h M y) {s t : Int32} (hn : ¬ (inR s (ms y 12) ∧ inR t (ms y 12) ∧ inR (nI 0) (ms y 13))) : ES G l 2 mX12_flow [.ref M, .int s, .int t] h 0 0 (fun v h' => v = some (.int (-1)) ∧ MD G h' M (th0 y 0) ∧ Fr (atN M) h h') eNoX := by
  refine es_of (by decide) rfl (Nat.le_of_ble_eq_true rfl) ?_
  refine ex_aload_n rfl dX12_flow_0 ?_
  refine ex_iconst (v := (nI 0)) (by decide) dX12_flow_1 ?_
  refine ex_put dX12_flow_2 pf_X12_76 hM.1 (Nat.le_of_ble_eq_true rfl) rfl rfl ?_
  exact l_flowN (hM.th 0 rfl) hn ⟨rfl, (hM.th 0 rfl), Fr.rf.up ⟨by omega, by omega⟩⟩
def cntM (y : MS) (k : Int32) : Int32 := if k = 0 then nI (ms y 12) else if k = 1 then nI (ms y 13) else if k = 2 then nI (ms y 24) else if k = 3 then nI (ms y 25) else if k = 4 then nI (ms y 21) else if k = 5 then nI (ms y 6) else 0
set_option maxHeartbeats 4000000 in
set_option maxRecDepth 100000 in
theorem t_count {G : EG} {l : Launch} {h : EH} {M : Nat} {y : MS} (hM : MD G h M y) {k : Int32} : ES G l 0 mX12_count [.ref M, .int k] h 0 0 (fun v h' => v = some (.int (cntM y k)) ∧ MD G h' M (th0 y 0) ∧ Fr (atN M) h h') eNoX := by
  refine es_of (by decide) rfl (Nat.le_of_ble_eq_true rfl) ?_
  refine ex_aload_n rfl dX12_count_0 ?_
  refine ex_iconst (v := (nI 0)) (by decide) dX12_count_1 ?_
  refine ex_put dX12_count_2 pf_X12_76 hM.1 (Nat.le_of_ble_eq_true rfl) rfl rfl ?_
  refine ex_iload_n rfl dX12_count_5 ?_
  by_cases e0 : k = 0
  · refine ex_tblI (tgt := 44) dX12_count_6 (by rw [e0]; decide) (by rw [e0]; decide) (off := 38) (by rw [e0]; decide) (by decide) ?_
    refine ex_aload_n rfl dX12_count_44 ?_
    refine ex_get dX12_count_45 gf_X12_172 hup_eq rfl ?_
    refine ex_iret dX12_count_48 rfl ⟨by unfold cntM; rw [if_pos e0], (hM.th 0 rfl), Fr.rf.up ⟨by omega, by omega⟩⟩
  by_cases e1 : k = 1
  · refine ex_tblI (tgt := 49) dX12_count_6 (by rw [e1]; decide) (by rw [e1]; decide) (off := 43) (by rw [e1]; decide) (by decide) ?_
    refine ex_aload_n rfl dX12_count_49 ?_
    refine ex_get dX12_count_50 gf_X12_175 hup_eq rfl ?_
    refine ex_iret dX12_count_53 rfl ⟨by unfold cntM; rw [if_neg e0, if_pos e1], (hM.th 0 rfl), Fr.rf.up ⟨by omega, by omega⟩⟩
  by_cases e2 : k = 2
  · refine ex_tblI (tgt := 54) dX12_count_6 (by rw [e2]; decide) (by rw [e2]; decide) (off := 48) (by rw [e2]; decide) (by decide) ?_
    refine ex_aload_n rfl dX12_count_54 ?_
    refine ex_get dX12_count_55 gf_X12_209 hup_eq rfl ?_
    refine ex_iret dX12_count_58 rfl ⟨by unfold cntM; rw [if_neg e0, if_neg e1, if_pos e2], (hM.th 0 rfl), Fr.rf.up ⟨by omega, by omega⟩⟩
  by_cases e3 : k = 3
  · refine ex_tblI (tgt := 59) dX12_count_6 (by rw [e3]; decide) (by rw [e3]; decide) (off := 53) (by rw [e3]; decide) (by decide) ?_
    refine ex_aload_n rfl dX12_count_59 ?_
    refine ex_get dX12_count_60 gf_X12_212 hup_eq rfl ?_
    refine ex_iret dX12_count_63 rfl ⟨by unfold cntM; rw [if_neg e0, if_neg e1, if_neg e2, if_pos e3], (hM.th 0 rfl), Fr.rf.up ⟨by omega, by omega⟩⟩
  by_cases e4 : k = 4
  · refine ex_tblI (tgt := 64) dX12_count_6 (by rw [e4]; decide) (by rw [e4]; decide) (off := 58) (by rw [e4]; decide) (by decide) ?_
    refine ex_aload_n rfl dX12_count_64 ?_
    refine ex_get dX12_count_65 gf_X12_200 hup_eq rfl ?_
    refine ex_iret dX12_count_68 rfl ⟨by unfold cntM; rw [if_neg e0, if_neg e1, if_neg e2, if_neg e3, if_pos e4], (hM.th 0 rfl), Fr.rf.up ⟨by omega, by omega⟩⟩
  by_cases e5 : k = 5
  · refine ex_tblI (tgt := 69) dX12_count_6 (by rw [e5]; decide) (by rw [e5]; decide) (off := 63) (by rw [e5]; decide) (by decide) ?_
    refine ex_aload_n rfl dX12_count_69 ?_
    refine ex_get dX12_count_70 gf_X12_107 hup_eq rfl ?_
    refine ex_iret dX12_count_73 rfl ⟨by unfold cntM; rw [if_neg e0, if_neg e1, if_neg e2, if_neg e3, if_neg e4, if_pos e5], (hM.th 0 rfl), Fr.rf.up ⟨by omega, by omega⟩⟩
  refine ex_tblO (tgt := 74) dX12_count_6 (i32_5 e0 e1 e2 e3 e4 e5) (by decide) ?_
  refine ex_iconst (v := (nI 0)) (by decide) dX12_count_74 ?_
  refine ex_iret dX12_count_75 rfl ⟨by unfold cntM; rw [if_neg e0, if_neg e1, if_neg e2, if_neg e3, if_neg e4, if_neg e5]; rfl, (hM.th 0 rfl), Fr.rf.up ⟨by omega, by omega⟩⟩
