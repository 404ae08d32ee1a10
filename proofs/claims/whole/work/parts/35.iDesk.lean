/-! THE DESK'S CONSTRUCTOR -/
def capN (z : Int32) : Nat := if z.toInt < 1 then 1 else if 8 < z.toInt then 8 else z.toInt.toNat
theorem capN_b (z : Int32) : 1 ≤ capN z ∧ capN z ≤ 8 := by unfold capN; split; omega; split; omega; omega
theorem capN_i (z : Int32) : (nI (capN z)).toInt = if z.toInt < 1 then 1 else if 8 < z.toInt then 8 else z.toInt := by
  have := capN_b z
  rw [nI_toInt (by omega)]
  unfold capN
  split
  · rfl
  · split
    · rfl
    · omega
theorem capV (z : Int32) : (if (nI 1 : Int32) < (if z < nI 8 then z else nI 8) then (if z < nI 8 then z else nI 8) else nI 1) = nI (capN z) := by
  apply Int32.toInt_inj.mp
  rw [capN_i]
  have e1 : (nI 1).toInt = 1 := rfl
  have e8 : (nI 8).toInt = 8 := rfl
  by_cases h1 : z < nI 8
  · rw [if_pos h1]
    rw [Int32.lt_iff_toInt_lt, e8] at h1
    by_cases h2 : nI 1 < z
    · rw [if_pos h2]
      rw [Int32.lt_iff_toInt_lt, e1] at h2
      rw [if_neg (by omega), if_neg (by omega)]
    · rw [if_neg h2]
      rw [Int32.lt_iff_toInt_lt, e1] at h2
      by_cases h3 : z.toInt < 1
      · rw [if_pos h3]; rfl
      · rw [if_neg h3, if_neg (by omega), e1]; omega
  · rw [if_neg h1, if_pos (by rw [Int32.lt_iff_toInt_lt]; decide), e8]
    rw [Int32.lt_iff_toInt_lt, e8] at h1
    rw [if_neg (by omega)]
    by_cases h3 : 8 < z.toInt
    · rw [if_pos h3]
    · rw [if_neg h3]; omega
def x0D (cap : Nat) : DS := ((fun _ => 0, 0), (0, fun _ => (0, 0, 0, fun _ => 0)), (cap, [], 0, 0), ([], []), (0, 0, fun _ => 0, fun _ => 0, fun _ => 0, fun _ => 0, fun _ => 0), (-1, -1))
set_option maxHeartbeats 4000000 in
set_option maxRecDepth 100000 in
theorem s_iDesk {G : EG} {l : Launch} {h : EH} {D : Nat} {z : Int32} (hh : h.1 = D + 1) (ha : h.2 D = some (.inr (7, [.null, .null, .null, .null, .null, .null, .null, .null, .int 0, .int 0]))) : ES G l 3 mX11_init [.ref D, .int z] h 106 2355 (fun v h' => v = none ∧ h'.1 = D + 107 ∧ DSK G h' D (x0D (capN z)) ∧ ∀ q, q < D → h'.2 q = h.2 q) eNoX := by
  obtain ⟨hs, hf⟩ := h
  change hs = D + 1 at hh
  subst hh
  refine es_of (by decide) rfl (Nat.le_of_ble_eq_true rfl) ?_
  refine ex_aload_n rfl dX11_init_0 ?_
  refine ex_obj dX11_init_1 ob_X11_1 ob_i ob_c (by decide) (Nat.le_of_ble_eq_true rfl) ?_
  refine ex_aload_n rfl dX11_init_4 ?_
  refine ex_new (k := 105) (n := 2353) (N := 2) dX11_init_5 nw_X11_7 ?_
  refine ex_dup rfl dX11_init_8 ?_
  refine ex_inviN (k := 104) (n := 2281) (mc' := 1) (ms' := 72) (As := []) dX11_init_9 ci_X11_9 (by decide) (Nat.le_of_ble_eq_true rfl) (s_iText rfl hnew_eq) (fun v h' q => ?_)
  obtain ⟨rfl, q1, p0, q3⟩ := q
  obtain ⟨hs0, hf0⟩ := h'
  change hs0 = D + 3 at q1
  subst q1
  have g0 : ((D + 3, hf0) : EH).2 D = some (.inr (7, [.null, .null, .null, .null, .null, .null, .null, .null, .int 0, .int 0])) := (q3 D (show D < D + 1 by omega)).trans (hnew_ne (show D ≠ D + 1 by omega) ha)
  refine ex_putF dX11_init_12 pf_X11_10 rfl g0 (Nat.le_of_ble_eq_true rfl) rfl rfl ?_
  have fr0 : ∀ q, q ≠ D → q < D + 1 → (hup ((D + 3, hf0) : EH) D (.inr (7, [.ref (D + 1), .null, .null, .null, .null, .null, .null, .null, .int 0, .int 0]))).2 q = ((D + 1, hf) : EH).2 q := fun q n1 n2 => hup_ne n1 ((q3 q n2).trans (hnew_ne (show q ≠ D + 1 by omega) rfl))
  refine ex_aload_n rfl dX11_init_15 ?_
  refine ex_new (k := 103) (n := 2279) (N := 2) dX11_init_16 nw_X11_16 ?_
  refine ex_dup rfl dX11_init_19 ?_
  refine ex_aload_n rfl dX11_init_20 ?_
  refine ex_get dX11_init_21 gf_X11_10 (hnew_ne (show D ≠ D + 3 by omega) hup_eq) rfl ?_
  refine ex_invi (k := 103) (n := 2279) (mc' := 0) (ms' := 0) (As := [_]) dX11_init_24 ci_X11_18 (by decide) (Nat.le_of_ble_eq_true rfl) (s_iRd rfl hnew_eq) (fun v h' q => ?_)
  obtain ⟨rfl, q1, p1, q3⟩ := q
  obtain ⟨hs1, hf1⟩ := h'
  change hs1 = D + 4 at q1
  subst q1
  have g1 : ((D + 4, hf1) : EH).2 D = some (.inr (7, [.ref (D + 1), .null, .null, .null, .null, .null, .null, .null, .int 0, .int 0])) := (q3 D (show D < D + 3 by omega)).trans (hnew_ne (show D ≠ D + 3 by omega) hup_eq)
  refine ex_putF dX11_init_27 pf_X11_21 rfl g1 (Nat.le_of_ble_eq_true rfl) rfl rfl ?_
  have fr1 : ∀ q, q ≠ D → q < D + 3 → (hup ((D + 4, hf1) : EH) D (.inr (7, [.ref (D + 1), .ref (D + 3), .null, .null, .null, .null, .null, .null, .int 0, .int 0]))).2 q = (hup ((D + 3, hf0) : EH) D (.inr (7, [.ref (D + 1), .null, .null, .null, .null, .null, .null, .null, .int 0, .int 0]))).2 q := fun q n1 n2 => hup_ne n1 ((q3 q n2).trans (hnew_ne (show q ≠ D + 3 by omega) rfl))
  refine ex_aload_n rfl dX11_init_30 ?_
  refine ex_new (k := 102) (n := 2277) (N := 2) dX11_init_31 nw_X11_25 ?_
  refine ex_dup rfl dX11_init_34 ?_
  refine ex_invi (k := 19) (n := 1703) (mc' := 83) (ms' := 574) (As := []) dX11_init_35 ci_X11_27 (by decide) (Nat.le_of_ble_eq_true rfl) (s_iDraft rfl hnew_eq) (fun v h' q => ?_)
  obtain ⟨rfl, q1, p2, q3⟩ := q
  obtain ⟨hs2, hf2⟩ := h'
  change hs2 = D + 88 at q1
  subst q1
  have g2 : ((D + 88, hf2) : EH).2 D = some (.inr (7, [.ref (D + 1), .ref (D + 3), .null, .null, .null, .null, .null, .null, .int 0, .int 0])) := (q3 D (show D < D + 4 by omega)).trans (hnew_ne (show D ≠ D + 4 by omega) hup_eq)
  refine ex_putF dX11_init_38 pf_X11_28 rfl g2 (Nat.le_of_ble_eq_true rfl) rfl rfl ?_
  have fr2 : ∀ q, q ≠ D → q < D + 4 → (hup ((D + 88, hf2) : EH) D (.inr (7, [.ref (D + 1), .ref (D + 3), .ref (D + 4), .null, .null, .null, .null, .null, .int 0, .int 0]))).2 q = (hup ((D + 4, hf1) : EH) D (.inr (7, [.ref (D + 1), .ref (D + 3), .null, .null, .null, .null, .null, .null, .int 0, .int 0]))).2 q := fun q n1 n2 => hup_ne n1 ((q3 q n2).trans (hnew_ne (show q ≠ D + 4 by omega) rfl))
  refine ex_aload_n rfl dX11_init_41 ?_
  refine ex_new (k := 18) (n := 1698) (N := 5) dX11_init_42 nw_X11_32 ?_
  refine ex_dup rfl dX11_init_45 ?_
  refine ex_iconst (v := (nI 1)) (by decide) dX11_init_46 ?_
  refine ex_bipush (v := (nI 8)) (by decide) dX11_init_47 ?_
  refine ex_iload_n rfl dX11_init_49 ?_
  refine ex_mmin dX11_init_50 cs_X11_34 (by decide) (Nat.le_of_ble_eq_true rfl) ?_
  refine ex_mmax dX11_init_53 cs_X11_40 (by decide) (Nat.le_of_ble_eq_true rfl) ?_
  rw [capV z]
  refine ex_invi (k := 16) (n := 1682) (mc' := 2) (ms' := 16) (As := [_]) dX11_init_56 ci_X11_43 (by decide) (Nat.le_of_ble_eq_true rfl) (s_iMem (capN_b z).1 (capN_b z).2 rfl hnew_eq) (fun v h' q => ?_)
  obtain ⟨rfl, q1, p3, q3⟩ := q
  obtain ⟨hs3, hf3⟩ := h'
  change hs3 = D + 91 at q1
  subst q1
  have g3 : ((D + 91, hf3) : EH).2 D = some (.inr (7, [.ref (D + 1), .ref (D + 3), .ref (D + 4), .null, .null, .null, .null, .null, .int 0, .int 0])) := (q3 D (show D < D + 88 by omega)).trans (hnew_ne (show D ≠ D + 88 by omega) hup_eq)
  refine ex_putF dX11_init_59 pf_X11_46 rfl g3 (Nat.le_of_ble_eq_true rfl) rfl rfl ?_
  have fr3 : ∀ q, q ≠ D → q < D + 88 → (hup ((D + 91, hf3) : EH) D (.inr (7, [.ref (D + 1), .ref (D + 3), .ref (D + 4), .ref (D + 88), .null, .null, .null, .null, .int 0, .int 0]))).2 q = (hup ((D + 88, hf2) : EH) D (.inr (7, [.ref (D + 1), .ref (D + 3), .ref (D + 4), .null, .null, .null, .null, .null, .int 0, .int 0]))).2 q := fun q n1 n2 => hup_ne n1 ((q3 q n2).trans (hnew_ne (show q ≠ D + 88 by omega) rfl))
  refine ex_aload_n rfl dX11_init_62 ?_
  refine ex_new (k := 15) (n := 1678) (N := 4) dX11_init_63 nw_X11_50 ?_
  refine ex_dup rfl dX11_init_66 ?_
  refine ex_inviN (k := 14) (n := 1258) (mc' := 1) (ms' := 420) (As := []) dX11_init_67 ci_X11_52 (by decide) (Nat.le_of_ble_eq_true rfl) (s_iRow rfl hnew_eq) (fun v h' q => ?_)
  obtain ⟨rfl, q1, p4, q3⟩ := q
  obtain ⟨hs4, hf4⟩ := h'
  change hs4 = D + 93 at q1
  subst q1
  have g4 : ((D + 93, hf4) : EH).2 D = some (.inr (7, [.ref (D + 1), .ref (D + 3), .ref (D + 4), .ref (D + 88), .null, .null, .null, .null, .int 0, .int 0])) := (q3 D (show D < D + 91 by omega)).trans (hnew_ne (show D ≠ D + 91 by omega) hup_eq)
  refine ex_putF dX11_init_70 pf_X11_53 rfl g4 (Nat.le_of_ble_eq_true rfl) rfl rfl ?_
  have fr4 : ∀ q, q ≠ D → q < D + 91 → (hup ((D + 93, hf4) : EH) D (.inr (7, [.ref (D + 1), .ref (D + 3), .ref (D + 4), .ref (D + 88), .ref (D + 91), .null, .null, .null, .int 0, .int 0]))).2 q = (hup ((D + 91, hf3) : EH) D (.inr (7, [.ref (D + 1), .ref (D + 3), .ref (D + 4), .ref (D + 88), .null, .null, .null, .null, .int 0, .int 0]))).2 q := fun q n1 n2 => hup_ne n1 ((q3 q n2).trans (hnew_ne (show q ≠ D + 91 by omega) rfl))
  refine ex_aload_n rfl dX11_init_73 ?_
  refine ex_new (k := 13) (n := 1254) (N := 4) dX11_init_74 nw_X11_50 ?_
  refine ex_dup rfl dX11_init_77 ?_
  refine ex_inviN (k := 12) (n := 834) (mc' := 1) (ms' := 420) (As := []) dX11_init_78 ci_X11_52 (by decide) (Nat.le_of_ble_eq_true rfl) (s_iRow rfl hnew_eq) (fun v h' q => ?_)
  obtain ⟨rfl, q1, p5, q3⟩ := q
  obtain ⟨hs5, hf5⟩ := h'
  change hs5 = D + 95 at q1
  subst q1
  have g5 : ((D + 95, hf5) : EH).2 D = some (.inr (7, [.ref (D + 1), .ref (D + 3), .ref (D + 4), .ref (D + 88), .ref (D + 91), .null, .null, .null, .int 0, .int 0])) := (q3 D (show D < D + 93 by omega)).trans (hnew_ne (show D ≠ D + 93 by omega) hup_eq)
  refine ex_putF dX11_init_81 pf_X11_57 rfl g5 (Nat.le_of_ble_eq_true rfl) rfl rfl ?_
  have fr5 : ∀ q, q ≠ D → q < D + 93 → (hup ((D + 95, hf5) : EH) D (.inr (7, [.ref (D + 1), .ref (D + 3), .ref (D + 4), .ref (D + 88), .ref (D + 91), .ref (D + 93), .null, .null, .int 0, .int 0]))).2 q = (hup ((D + 93, hf4) : EH) D (.inr (7, [.ref (D + 1), .ref (D + 3), .ref (D + 4), .ref (D + 88), .ref (D + 91), .null, .null, .null, .int 0, .int 0]))).2 q := fun q n1 n2 => hup_ne n1 ((q3 q n2).trans (hnew_ne (show q ≠ D + 93 by omega) rfl))
  refine ex_aload_n rfl dX11_init_84 ?_
  refine ex_new (k := 11) (n := 827) (N := 7) dX11_init_85 nw_X11_60 ?_
  refine ex_dup rfl dX11_init_88 ?_
  refine ex_inviN (k := 6) (n := 417) (mc' := 5) (ms' := 410) (As := []) dX11_init_89 ci_X11_62 (by decide) (Nat.le_of_ble_eq_true rfl) (s_iPol rfl hnew_eq) (fun v h' q => ?_)
  obtain ⟨rfl, q1, p6, q3⟩ := q
  obtain ⟨hs6, hf6⟩ := h'
  change hs6 = D + 101 at q1
  subst q1
  have g6 : ((D + 101, hf6) : EH).2 D = some (.inr (7, [.ref (D + 1), .ref (D + 3), .ref (D + 4), .ref (D + 88), .ref (D + 91), .ref (D + 93), .null, .null, .int 0, .int 0])) := (q3 D (show D < D + 95 by omega)).trans (hnew_ne (show D ≠ D + 95 by omega) hup_eq)
  refine ex_put dX11_init_92 pf_X11_63 g6 (Nat.le_of_ble_eq_true rfl) rfl rfl ?_
  have fr6 : ∀ q, q ≠ D → q < D + 95 → (hup ((D + 101, hf6) : EH) D (.inr (7, [.ref (D + 1), .ref (D + 3), .ref (D + 4), .ref (D + 88), .ref (D + 91), .ref (D + 93), .ref (D + 95), .null, .int 0, .int 0]))).2 q = (hup ((D + 95, hf5) : EH) D (.inr (7, [.ref (D + 1), .ref (D + 3), .ref (D + 4), .ref (D + 88), .ref (D + 91), .ref (D + 93), .null, .null, .int 0, .int 0]))).2 q := fun q n1 n2 => hup_ne n1 ((q3 q n2).trans (hnew_ne (show q ≠ D + 95 by omega) rfl))
  refine ex_aload_n rfl dX11_init_95 ?_
  refine ex_new (k := 5) (n := 410) (N := 7) dX11_init_96 nw_X11_60 ?_
  refine ex_dup rfl dX11_init_99 ?_
  refine ex_inviN (k := 0) (n := 0) (mc' := 5) (ms' := 410) (As := []) dX11_init_100 ci_X11_62 (by decide) (Nat.le_of_ble_eq_true rfl) (s_iPol rfl hnew_eq) (fun v h' q => ?_)
  obtain ⟨rfl, q1, p7, q3⟩ := q
  obtain ⟨hs7, hf7⟩ := h'
  change hs7 = D + 107 at q1
  subst q1
  have g7 : ((D + 107, hf7) : EH).2 D = some (.inr (7, [.ref (D + 1), .ref (D + 3), .ref (D + 4), .ref (D + 88), .ref (D + 91), .ref (D + 93), .ref (D + 95), .null, .int 0, .int 0])) := (q3 D (show D < D + 101 by omega)).trans (hnew_ne (show D ≠ D + 101 by omega) hup_eq)
  refine ex_put dX11_init_103 pf_X11_67 g7 (Nat.le_of_ble_eq_true rfl) rfl rfl ?_
  have fr7 : ∀ q, q ≠ D → q < D + 101 → (hup ((D + 107, hf7) : EH) D (.inr (7, [.ref (D + 1), .ref (D + 3), .ref (D + 4), .ref (D + 88), .ref (D + 91), .ref (D + 93), .ref (D + 95), .ref (D + 101), .int 0, .int 0]))).2 q = (hup ((D + 101, hf6) : EH) D (.inr (7, [.ref (D + 1), .ref (D + 3), .ref (D + 4), .ref (D + 88), .ref (D + 91), .ref (D + 93), .ref (D + 95), .null, .int 0, .int 0]))).2 q := fun q n1 n2 => hup_ne n1 ((q3 q n2).trans (hnew_ne (show q ≠ D + 101 by omega) rfl))
  refine ex_aload_n rfl dX11_init_106 ?_
  refine ex_iconst (v := (-1)) (by decide) dX11_init_107 ?_
  refine ex_put dX11_init_108 pf_X11_70 hup_eq (Nat.le_of_ble_eq_true rfl) rfl rfl ?_
  refine ex_aload_n rfl dX11_init_111 ?_
  refine ex_iconst (v := (-1)) (by decide) dX11_init_112 ?_
  refine ex_put dX11_init_113 pf_X11_74 hup_eq (Nat.le_of_ble_eq_true rfl) rfl rfl ?_
  refine ex_vret dX11_init_116 rfl ⟨rfl, rfl, ⟨D + 95, D + 101, 0, 0, false, fun _ => 0, 0, false, fun _ => 0, (0, 0, fun _ => 0, fun _ => 0, fun _ => 0, fun _ => 0, fun _ => 0), Or.inl ⟨rfl, rfl⟩, hup_eq, p0.sm (fun q (hq : q = D + 1 ∨ q = D + 2) => (hup_ne (show q ≠ D by omega) (hup_ne (show q ≠ D by omega) (((((((fr7 q (by omega) (by omega)).trans (fr6 q (by omega) (by omega))).trans (fr5 q (by omega) (by omega))).trans (fr4 q (by omega) (by omega))).trans (fr3 q (by omega) (by omega))).trans (fr2 q (by omega) (by omega))).trans (fr1 q (by omega) (by omega))))).trans (hup_ne (show q ≠ D by omega) rfl)), p1.sm ((hup_ne (show (D + 3) ≠ D by omega) (hup_ne (show (D + 3) ≠ D by omega) ((((((fr7 (D + 3) (by omega) (by omega)).trans (fr6 (D + 3) (by omega) (by omega))).trans (fr5 (D + 3) (by omega) (by omega))).trans (fr4 (D + 3) (by omega) (by omega))).trans (fr3 (D + 3) (by omega) (by omega))).trans (fr2 (D + 3) (by omega) (by omega))))).trans (hup_ne (show D + 3 ≠ D by omega) rfl)), p2.sm (fun q (hq : D + 4 ≤ q ∧ q ≤ D + 4 + 83) => (hup_ne (show q ≠ D by omega) (hup_ne (show q ≠ D by omega) (((((fr7 q (by omega) (by omega)).trans (fr6 q (by omega) (by omega))).trans (fr5 q (by omega) (by omega))).trans (fr4 q (by omega) (by omega))).trans (fr3 q (by omega) (by omega))))).trans (hup_ne (show q ≠ D by omega) rfl)), p3.sm (fun q (hq : q = D + 88 ∨ q = D + 89 ∨ q = D + 90) => (hup_ne (show q ≠ D by omega) (hup_ne (show q ≠ D by omega) ((((fr7 q (by omega) (by omega)).trans (fr6 q (by omega) (by omega))).trans (fr5 q (by omega) (by omega))).trans (fr4 q (by omega) (by omega))))).trans (hup_ne (show q ≠ D by omega) rfl)), ⟨p4.sm (fun q (hq : q = D + 91 ∨ q = D + 92) => (hup_ne (show q ≠ D by omega) (hup_ne (show q ≠ D by omega) (((fr7 q (by omega) (by omega)).trans (fr6 q (by omega) (by omega))).trans (fr5 q (by omega) (by omega))))).trans (hup_ne (show q ≠ D by omega) rfl)), bL.nil _⟩, ⟨p5.sm (fun q (hq : q = D + 93 ∨ q = D + 94) => (hup_ne (show q ≠ D by omega) (hup_ne (show q ≠ D by omega) ((fr7 q (by omega) (by omega)).trans (fr6 q (by omega) (by omega))))).trans (hup_ne (show q ≠ D by omega) rfl)), bL.nil _⟩, p6.sm (fun q (hq : D + 95 ≤ q ∧ q ≤ D + 95 + 5) => (hup_ne (show q ≠ D by omega) (hup_ne (show q ≠ D by omega) (fr7 q (by omega) (by omega)))).trans (hup_ne (show q ≠ D by omega) rfl)), p7.sm (fun q (hq : D + 101 ≤ q ∧ q ≤ D + 101 + 5) => (hup_ne (show q ≠ D by omega) (hup_ne (show q ≠ D by omega) rfl)).trans (hup_ne (show q ≠ D by omega) rfl)), by omega⟩, fun q hq => hup_ne (show q ≠ D by omega) (hup_ne (show q ≠ D by omega) ((((((((fr7 q (by omega) (by omega)).trans (fr6 q (by omega) (by omega))).trans (fr5 q (by omega) (by omega))).trans (fr4 q (by omega) (by omega))).trans (fr3 q (by omega) (by omega))).trans (fr2 q (by omega) (by omega))).trans (fr1 q (by omega) (by omega))).trans (fr0 q (by omega) (by omega))))⟩
