/-! DRAFT, second part: what is wrong -/
def dSelf : Nat := 628102
def doer (S : Nat → Stm) (n x : Nat) : Prop := isN S n 1 x ∨ isAt S n x
def wr0 (S : Nat → Stm) (i : Nat) : Prop := rep S i 1 ∨ ¬ alld (S i) 1 ∨ 3 ≤ cntk S 0 i
def wr1 (S : Nat → Stm) (n i : Nat) : Prop := rep S i 1 ∨ isAt S n (wo (S i) 0) ∨ ¬ alld (S i) 1 ∨ 8 ≤ cntk S 1 i
def wr2 (self : Nat) (S : Nat → Stm) (n i : Nat) : Prop := ¬ doer S n (wo (S i) 0) ∨ ¬ (wo (S i) 1 = self ∨ doer S n (wo (S i) 1)) ∨ ¬ areP S n i 2
def wr4 (S : Nat → Stm) (n i : Nat) : Prop := rep S i 3 ∨ ¬ isN S n 1 (wo (S i) 0) ∨ ¬ isN S n 1 (wo (S i) 1) ∨ ¬ isN S n 0 (wo (S i) 2) ∨ ¬ isN S n 1 (wo (S i) 3)
def wr5 (S : Nat → Stm) (n i : Nat) : Prop := rep S i 1 ∨ ¬ isN S n 1 (wo (S i) 0)
def isWr (self : Nat) (S : Nat → Stm) (n i : Nat) : Prop := (kd (S i) = 0 → wr0 S i) ∧ (kd (S i) = 1 → wr1 S n i) ∧ (kd (S i) = 2 ∨ kd (S i) = 3 → wr2 self S n i) ∧ (kd (S i) = 4 → wr4 S n i) ∧ (kd (S i) = 5 → wr5 S n i) ∧ (6 ≤ kd (S i) → ¬ areP S n i 0)
theorem isWr0 {self : Nat} {S : Nat → Stm} {n i : Nat} (h : kd (S i) = 0) : isWr self S n i ↔ wr0 S i := ⟨fun z => z.1 h, fun z => ⟨fun _ => z, fun q => by omega, fun q => by omega, fun q => by omega, fun q => by omega, fun q => by omega⟩⟩
theorem isWr1 {self : Nat} {S : Nat → Stm} {n i : Nat} (h : kd (S i) = 1) : isWr self S n i ↔ wr1 S n i := ⟨fun z => z.2.1 h, fun z => ⟨fun q => by omega, fun _ => z, fun q => by omega, fun q => by omega, fun q => by omega, fun q => by omega⟩⟩
theorem isWr2 {self : Nat} {S : Nat → Stm} {n i : Nat} (h : kd (S i) = 2 ∨ kd (S i) = 3) : isWr self S n i ↔ wr2 self S n i := ⟨fun z => z.2.2.1 h, fun z => ⟨fun q => by omega, fun q => by omega, fun _ => z, fun q => by omega, fun q => by omega, fun q => by omega⟩⟩
theorem isWr4 {self : Nat} {S : Nat → Stm} {n i : Nat} (h : kd (S i) = 4) : isWr self S n i ↔ wr4 S n i := ⟨fun z => z.2.2.2.1 h, fun z => ⟨fun q => by omega, fun q => by omega, fun q => by omega, fun _ => z, fun q => by omega, fun q => by omega⟩⟩
theorem isWr5 {self : Nat} {S : Nat → Stm} {n i : Nat} (h : kd (S i) = 5) : isWr self S n i ↔ wr5 S n i := ⟨fun z => z.2.2.2.2.1 h, fun z => ⟨fun q => by omega, fun q => by omega, fun q => by omega, fun q => by omega, fun _ => z, fun q => by omega⟩⟩
theorem isWr6 {self : Nat} {S : Nat → Stm} {n i : Nat} (h : 6 ≤ kd (S i)) : isWr self S n i ↔ ¬ areP S n i 0 := ⟨fun z => z.2.2.2.2.2 h, fun z => ⟨fun q => by omega, fun q => by omega, fun q => by omega, fun q => by omega, fun q => by omega, fun _ => z⟩⟩
set_option maxHeartbeats 4000000 in
set_option maxRecDepth 100000 in
theorem w_0 {G : EG} {l : Launch} {h : EH} {a n : Nat} {S : Nat → Stm} (hD : DR G h a n S) (hG : eInj G) {i : Nat} (hi : i < 41) : Ex G l 4 mX3_isWrong (fun v h' => v = some (.int (b2i (bP (wr0 S i)))) ∧ h' = h) eNoX 0 0 56 [(0, .ref a), (1, .int (nI i)), (2, .ref (a + 2 + 2 * i))] [] h := by
  have hn := hD.2.2.2
  have hc0 := cntk_le S 0 i
  have hc1 := cntk_le S 1 i
  refine ex_aload_n rfl dX3_isWrong_56 ?_
  refine ex_iload_n rfl dX3_isWrong_57 ?_
  refine ex_iconst (v := (nI 1)) (by decide) dX3_isWrong_58 ?_
  refine ex_invv (k := 0) (n := 0) (mc' := 0) (ms' := 0) (As := [_, _]) dX3_isWrong_59 cv_X3_57 (by decide) (Nat.le_of_ble_eq_true rfl) (Or.inl ⟨_, _, _, _, hD.1, rfl⟩) (s_repeats hD hG hi (m := 1) (by decide)) (fun v h' q => ?_)
  obtain ⟨rfl, rfl⟩ := q
  refine ex_ifB_ne (tgt := 85) (by decide) dX3_isWrong_62 (fun c1 => ?_) (fun c1 => ?_)
  · refine ex_iconst (v := (nI 1)) (by decide) dX3_isWrong_85 ?_
    refine ex_goto (tgt := 90) (by decide) dX3_isWrong_86 ?_
    refine ex_zret dX3_isWrong_90 rfl rfl ⟨rT (Or.inl (bP_t c1)), rfl⟩
  · refine ex_aload_n rfl dX3_isWrong_65 ?_
    refine ex_iconst (v := (nI 1)) (by decide) dX3_isWrong_66 ?_
    refine ex_invv (k := 0) (n := 0) (mc' := 0) (ms' := 0) (As := [_]) dX3_isWrong_67 cv_X3_61 (by decide) (Nat.le_of_ble_eq_true rfl) (Or.inl ⟨_, _, _, _, (hD.2.2.1 i (by omega)).1.1, rfl⟩) (s_alld (hD.2.2.1 i (by omega)).1 (fr := 1) (by decide) (B := bP (alld (S i) 1)) bP_iff) (fun v h' q => ?_)
    obtain ⟨rfl, rfl⟩ := q
    refine ex_ifB_eq (tgt := 85) (by decide) dX3_isWrong_70 (fun c2 => ?_) (fun c2 => ?_)
    · refine ex_iconst (v := (nI 1)) (by decide) dX3_isWrong_85 ?_
      refine ex_goto (tgt := 90) (by decide) dX3_isWrong_86 ?_
      refine ex_zret dX3_isWrong_90 rfl rfl ⟨rT (Or.inr (Or.inl (bP_f c2))), rfl⟩
    · refine ex_aload_n rfl dX3_isWrong_73 ?_
      refine ex_gets (z := ("PolicyDesk$Kind", "CLASS", "LPolicyDesk$Kind;", .ref (ead G 0))) dX3_isWrong_74 (eZk (i := 0) (by decide)) gz_X3_40 ?_
      refine ex_iload_n rfl dX3_isWrong_77 ?_
      refine ex_invv (k := 0) (n := 0) (mc' := 0) (ms' := 0) (As := [_, _]) dX3_isWrong_78 cv_X3_36 (by decide) (Nat.le_of_ble_eq_true rfl) (Or.inl ⟨_, _, _, _, hD.1, rfl⟩) (s_howMany hD hG (κ := 0) (e := i) (by decide) (by omega)) (fun v h' q => ?_)
      obtain ⟨rfl, rfl⟩ := q
      refine ex_iconst (v := (nI 3)) (by decide) dX3_isWrong_81 ?_
      refine ex_icmpN_lt (tgt := 89) (by decide) dX3_isWrong_82 (by omega) (by omega) (fun c3 => ?_) (fun c3 => ?_)
      · refine ex_iconst (v := (nI 0)) (by decide) dX3_isWrong_89 ?_
        refine ex_zret dX3_isWrong_90 rfl rfl ⟨rF (by rintro (z | z | z); exact bP_f c1 z; exact z (bP_t c2); omega), rfl⟩
      · refine ex_iconst (v := (nI 1)) (by decide) dX3_isWrong_85 ?_
        refine ex_goto (tgt := 90) (by decide) dX3_isWrong_86 ?_
        refine ex_zret dX3_isWrong_90 rfl rfl ⟨rT (Or.inr (Or.inr (by omega))), rfl⟩
set_option maxHeartbeats 4000000 in
set_option maxRecDepth 100000 in
theorem w_1 {G : EG} {l : Launch} {h : EH} {a n : Nat} {S : Nat → Stm} (hD : DR G h a n S) (hG : eInj G) {i : Nat} (hi : i < 41) : Ex G l 4 mX3_isWrong (fun v h' => v = some (.int (b2i (bP (wr1 S n i)))) ∧ h' = h) eNoX 0 0 91 [(0, .ref a), (1, .int (nI i)), (2, .ref (a + 2 + 2 * i))] [] h := by
  have hn := hD.2.2.2
  have hc0 := cntk_le S 0 i
  have hc1 := cntk_le S 1 i
  refine ex_aload_n rfl dX3_isWrong_91 ?_
  refine ex_iload_n rfl dX3_isWrong_92 ?_
  refine ex_iconst (v := (nI 1)) (by decide) dX3_isWrong_93 ?_
  refine ex_invv (k := 0) (n := 0) (mc' := 0) (ms' := 0) (As := [_, _]) dX3_isWrong_94 cv_X3_57 (by decide) (Nat.le_of_ble_eq_true rfl) (Or.inl ⟨_, _, _, _, hD.1, rfl⟩) (s_repeats hD hG hi (m := 1) (by decide)) (fun v h' q => ?_)
  obtain ⟨rfl, rfl⟩ := q
  refine ex_ifB_ne (tgt := 133) (by decide) dX3_isWrong_97 (fun c1 => ?_) (fun c1 => ?_)
  · refine ex_iconst (v := (nI 1)) (by decide) dX3_isWrong_133 ?_
    refine ex_goto (tgt := 138) (by decide) dX3_isWrong_134 ?_
    refine ex_zret dX3_isWrong_138 rfl rfl ⟨rT (Or.inl (bP_t c1)), rfl⟩
  · refine ex_aload_n rfl dX3_isWrong_100 ?_
    refine ex_aload_n rfl dX3_isWrong_101 ?_
    refine ex_iconst (v := (nI 0)) (by decide) dX3_isWrong_102 ?_
    refine ex_invv (k := 0) (n := 0) (mc' := 0) (ms' := 0) (As := [_]) dX3_isWrong_103 cv_X3_64 (by decide) (Nat.le_of_ble_eq_true rfl) (Or.inl ⟨_, _, _, _, (hD.2.2.1 i (by omega)).1.1, rfl⟩) (s_word (hD.2.2.1 i (by omega)).1 (k := 0) (by decide)) (fun v h' q => ?_)
    obtain ⟨rfl, rfl⟩ := q
    refine ex_invv (k := 0) (n := 0) (mc' := 0) (ms' := 0) (As := [_]) dX3_isWrong_106 cv_X3_68 (by decide) (Nat.le_of_ble_eq_true rfl) (Or.inl ⟨_, _, _, _, hD.1, rfl⟩) (s_isAttribute hD hG (wo_lt (hD.2.2.1 i hi).1 0)) (fun v h' q => ?_)
    obtain ⟨rfl, rfl⟩ := q
    refine ex_ifB_ne (tgt := 133) (by decide) dX3_isWrong_109 (fun c2 => ?_) (fun c2 => ?_)
    · refine ex_iconst (v := (nI 1)) (by decide) dX3_isWrong_133 ?_
      refine ex_goto (tgt := 138) (by decide) dX3_isWrong_134 ?_
      refine ex_zret dX3_isWrong_138 rfl rfl ⟨rT (Or.inr (Or.inl (bP_t c2))), rfl⟩
    · refine ex_aload_n rfl dX3_isWrong_112 ?_
      refine ex_iconst (v := (nI 1)) (by decide) dX3_isWrong_113 ?_
      refine ex_invv (k := 0) (n := 0) (mc' := 0) (ms' := 0) (As := [_]) dX3_isWrong_114 cv_X3_61 (by decide) (Nat.le_of_ble_eq_true rfl) (Or.inl ⟨_, _, _, _, (hD.2.2.1 i (by omega)).1.1, rfl⟩) (s_alld (hD.2.2.1 i (by omega)).1 (fr := 1) (by decide) (B := bP (alld (S i) 1)) bP_iff) (fun v h' q => ?_)
      obtain ⟨rfl, rfl⟩ := q
      refine ex_ifB_eq (tgt := 133) (by decide) dX3_isWrong_117 (fun c3 => ?_) (fun c3 => ?_)
      · refine ex_iconst (v := (nI 1)) (by decide) dX3_isWrong_133 ?_
        refine ex_goto (tgt := 138) (by decide) dX3_isWrong_134 ?_
        refine ex_zret dX3_isWrong_138 rfl rfl ⟨rT (Or.inr (Or.inr (Or.inl (bP_f c3)))), rfl⟩
      · refine ex_aload_n rfl dX3_isWrong_120 ?_
        refine ex_gets (z := ("PolicyDesk$Kind", "TYPE", "LPolicyDesk$Kind;", .ref (ead G 1))) dX3_isWrong_121 (eZk (i := 1) (by decide)) gz_X3_30 ?_
        refine ex_iload_n rfl dX3_isWrong_124 ?_
        refine ex_invv (k := 0) (n := 0) (mc' := 0) (ms' := 0) (As := [_, _]) dX3_isWrong_125 cv_X3_36 (by decide) (Nat.le_of_ble_eq_true rfl) (Or.inl ⟨_, _, _, _, hD.1, rfl⟩) (s_howMany hD hG (κ := 1) (e := i) (by decide) (by omega)) (fun v h' q => ?_)
        obtain ⟨rfl, rfl⟩ := q
        refine ex_bipush (v := (nI 8)) (by decide) dX3_isWrong_128 ?_
        refine ex_icmpN_lt (tgt := 137) (by decide) dX3_isWrong_130 (by omega) (by omega) (fun c4 => ?_) (fun c4 => ?_)
        · refine ex_iconst (v := (nI 0)) (by decide) dX3_isWrong_137 ?_
          refine ex_zret dX3_isWrong_138 rfl rfl ⟨rF (by rintro (z | z | z | z); exact bP_f c1 z; exact bP_f c2 z; exact z (bP_t c3); omega), rfl⟩
        · refine ex_iconst (v := (nI 1)) (by decide) dX3_isWrong_133 ?_
          refine ex_goto (tgt := 138) (by decide) dX3_isWrong_134 ?_
          refine ex_zret dX3_isWrong_138 rfl rfl ⟨rT (Or.inr (Or.inr (Or.inr (by omega)))), rfl⟩
set_option maxHeartbeats 4000000 in
set_option maxRecDepth 100000 in
theorem w_2 {G : EG} {l : Launch} {h : EH} {a n : Nat} {S : Nat → Stm} (hD : DR G h a n S) (hG : eInj G) {i : Nat} (hi : i < 41) : Ex G l 4 mX3_isWrong (fun v h' => v = some (.int (b2i (bP (wr2 dSelf S n i)))) ∧ h' = h) eNoX 0 0 139 [(0, .ref a), (1, .int (nI i)), (2, .ref (a + 2 + 2 * i))] [] h := by
  have hn := hD.2.2.2
  have hc0 := cntk_le S 0 i
  have hc1 := cntk_le S 1 i
  refine ex_aload_n rfl dX3_isWrong_139 ?_
  refine ex_aload_n rfl dX3_isWrong_140 ?_
  refine ex_iconst (v := (nI 0)) (by decide) dX3_isWrong_141 ?_
  refine ex_invv (k := 0) (n := 0) (mc' := 0) (ms' := 0) (As := [_]) dX3_isWrong_142 cv_X3_64 (by decide) (Nat.le_of_ble_eq_true rfl) (Or.inl ⟨_, _, _, _, (hD.2.2.1 i (by omega)).1.1, rfl⟩) (s_word (hD.2.2.1 i (by omega)).1 (k := 0) (by decide)) (fun v h' q => ?_)
  obtain ⟨rfl, rfl⟩ := q
  refine ex_invv (k := 0) (n := 0) (mc' := 0) (ms' := 0) (As := [_]) dX3_isWrong_145 cv_X3_71 (by decide) (Nat.le_of_ble_eq_true rfl) (Or.inl ⟨_, _, _, _, hD.1, rfl⟩) (s_isDoer hD hG (wo_lt (hD.2.2.1 i hi).1 0)) (fun v h' q => ?_)
  obtain ⟨rfl, rfl⟩ := q
  refine ex_ifB_eq (tgt := 182) (by decide) dX3_isWrong_148 (fun c1 => ?_) (fun c1 => ?_)
  · refine ex_iconst (v := (nI 1)) (by decide) dX3_isWrong_182 ?_
    refine ex_goto (tgt := 187) (by decide) dX3_isWrong_183 ?_
    refine ex_zret dX3_isWrong_187 rfl rfl ⟨rT (Or.inl (bP_f c1)), rfl⟩
  · refine ex_aload_n rfl dX3_isWrong_151 ?_
    refine ex_iconst (v := (nI 1)) (by decide) dX3_isWrong_152 ?_
    refine ex_invv (k := 0) (n := 0) (mc' := 0) (ms' := 0) (As := [_]) dX3_isWrong_153 cv_X3_64 (by decide) (Nat.le_of_ble_eq_true rfl) (Or.inl ⟨_, _, _, _, (hD.2.2.1 i (by omega)).1.1, rfl⟩) (s_word (hD.2.2.1 i (by omega)).1 (k := 1) (by decide)) (fun v h' q => ?_)
    obtain ⟨rfl, rfl⟩ := q
    refine ex_ldc lc_X3_74 dX3_isWrong_156 ?_
    rw [show (628102 : Int32) = nI dSelf from rfl]
    refine ex_icmpN_eq (tgt := 173) (by decide) dX3_isWrong_158 (Nat.lt_trans (wo_lt (hD.2.2.1 i hi).1 1) (by decide)) (by decide) (fun c2 => ?_) (fun c2 => ?_)
    · refine ex_aload_n rfl dX3_isWrong_173 ?_
      refine ex_aload_n rfl dX3_isWrong_174 ?_
      refine ex_iconst (v := (nI 2)) (by decide) dX3_isWrong_175 ?_
      refine ex_invv (k := 0) (n := 0) (mc' := 0) (ms' := 0) (As := [_, _]) dX3_isWrong_176 cv_X3_75 (by decide) (Nat.le_of_ble_eq_true rfl) (Or.inl ⟨_, _, _, _, hD.1, rfl⟩) (s_declPerms hD hG hi (c := 2) (by decide)) (fun v h' q => ?_)
      obtain ⟨rfl, rfl⟩ := q
      refine ex_ifB_ne (tgt := 186) (by decide) dX3_isWrong_179 (fun c3 => ?_) (fun c3 => ?_)
      · refine ex_iconst (v := (nI 0)) (by decide) dX3_isWrong_186 ?_
        refine ex_zret dX3_isWrong_187 rfl rfl ⟨rF (by rintro (z | z | z); exact z (bP_t c1); exact z (Or.inl c2); exact z (bP_t c3)), rfl⟩
      · refine ex_iconst (v := (nI 1)) (by decide) dX3_isWrong_182 ?_
        refine ex_goto (tgt := 187) (by decide) dX3_isWrong_183 ?_
        refine ex_zret dX3_isWrong_187 rfl rfl ⟨rT (Or.inr (Or.inr (bP_f c3))), rfl⟩
    · refine ex_aload_n rfl dX3_isWrong_161 ?_
      refine ex_aload_n rfl dX3_isWrong_162 ?_
      refine ex_iconst (v := (nI 1)) (by decide) dX3_isWrong_163 ?_
      refine ex_invv (k := 0) (n := 0) (mc' := 0) (ms' := 0) (As := [_]) dX3_isWrong_164 cv_X3_64 (by decide) (Nat.le_of_ble_eq_true rfl) (Or.inl ⟨_, _, _, _, (hD.2.2.1 i (by omega)).1.1, rfl⟩) (s_word (hD.2.2.1 i (by omega)).1 (k := 1) (by decide)) (fun v h' q => ?_)
      obtain ⟨rfl, rfl⟩ := q
      refine ex_invv (k := 0) (n := 0) (mc' := 0) (ms' := 0) (As := [_]) dX3_isWrong_167 cv_X3_71 (by decide) (Nat.le_of_ble_eq_true rfl) (Or.inl ⟨_, _, _, _, hD.1, rfl⟩) (s_isDoer hD hG (wo_lt (hD.2.2.1 i hi).1 1)) (fun v h' q => ?_)
      obtain ⟨rfl, rfl⟩ := q
      refine ex_ifB_eq (tgt := 182) (by decide) dX3_isWrong_170 (fun c4 => ?_) (fun c4 => ?_)
      · refine ex_iconst (v := (nI 1)) (by decide) dX3_isWrong_182 ?_
        refine ex_goto (tgt := 187) (by decide) dX3_isWrong_183 ?_
        refine ex_zret dX3_isWrong_187 rfl rfl ⟨rT (Or.inr (Or.inl (fun z => z.elim c2 (bP_f c4)))), rfl⟩
      · refine ex_aload_n rfl dX3_isWrong_173 ?_
        refine ex_aload_n rfl dX3_isWrong_174 ?_
        refine ex_iconst (v := (nI 2)) (by decide) dX3_isWrong_175 ?_
        refine ex_invv (k := 0) (n := 0) (mc' := 0) (ms' := 0) (As := [_, _]) dX3_isWrong_176 cv_X3_75 (by decide) (Nat.le_of_ble_eq_true rfl) (Or.inl ⟨_, _, _, _, hD.1, rfl⟩) (s_declPerms hD hG hi (c := 2) (by decide)) (fun v h' q => ?_)
        obtain ⟨rfl, rfl⟩ := q
        refine ex_ifB_ne (tgt := 186) (by decide) dX3_isWrong_179 (fun c5 => ?_) (fun c5 => ?_)
        · refine ex_iconst (v := (nI 0)) (by decide) dX3_isWrong_186 ?_
          refine ex_zret dX3_isWrong_187 rfl rfl ⟨rF (by rintro (z | z | z); exact z (bP_t c1); exact z (Or.inr (bP_t c4)); exact z (bP_t c5)), rfl⟩
        · refine ex_iconst (v := (nI 1)) (by decide) dX3_isWrong_182 ?_
          refine ex_goto (tgt := 187) (by decide) dX3_isWrong_183 ?_
          refine ex_zret dX3_isWrong_187 rfl rfl ⟨rT (Or.inr (Or.inr (bP_f c5))), rfl⟩
set_option maxHeartbeats 4000000 in
set_option maxRecDepth 100000 in
theorem w_4 {G : EG} {l : Launch} {h : EH} {a n : Nat} {S : Nat → Stm} (hD : DR G h a n S) (hG : eInj G) {i : Nat} (hi : i < 41) : Ex G l 4 mX3_isWrong (fun v h' => v = some (.int (b2i (bP (wr4 S n i)))) ∧ h' = h) eNoX 0 0 188 [(0, .ref a), (1, .int (nI i)), (2, .ref (a + 2 + 2 * i))] [] h := by
  have hn := hD.2.2.2
  have hc0 := cntk_le S 0 i
  have hc1 := cntk_le S 1 i
  refine ex_aload_n rfl dX3_isWrong_188 ?_
  refine ex_iload_n rfl dX3_isWrong_189 ?_
  refine ex_iconst (v := (nI 3)) (by decide) dX3_isWrong_190 ?_
  refine ex_invv (k := 0) (n := 0) (mc' := 0) (ms' := 0) (As := [_, _]) dX3_isWrong_191 cv_X3_57 (by decide) (Nat.le_of_ble_eq_true rfl) (Or.inl ⟨_, _, _, _, hD.1, rfl⟩) (s_repeats hD hG hi (m := 3) (by decide)) (fun v h' q => ?_)
  obtain ⟨rfl, rfl⟩ := q
  refine ex_ifB_ne (tgt := 249) (by decide) dX3_isWrong_194 (fun c1 => ?_) (fun c1 => ?_)
  · refine ex_iconst (v := (nI 1)) (by decide) dX3_isWrong_249 ?_
    refine ex_goto (tgt := 254) (by decide) dX3_isWrong_250 ?_
    refine ex_zret dX3_isWrong_254 rfl rfl ⟨rT (Or.inl (bP_t c1)), rfl⟩
  · refine ex_aload_n rfl dX3_isWrong_197 ?_
    refine ex_aload_n rfl dX3_isWrong_198 ?_
    refine ex_iconst (v := (nI 0)) (by decide) dX3_isWrong_199 ?_
    refine ex_invv (k := 0) (n := 0) (mc' := 0) (ms' := 0) (As := [_]) dX3_isWrong_200 cv_X3_64 (by decide) (Nat.le_of_ble_eq_true rfl) (Or.inl ⟨_, _, _, _, (hD.2.2.1 i (by omega)).1.1, rfl⟩) (s_word (hD.2.2.1 i (by omega)).1 (k := 0) (by decide)) (fun v h' q => ?_)
    obtain ⟨rfl, rfl⟩ := q
    refine ex_invv (k := 0) (n := 0) (mc' := 0) (ms' := 0) (As := [_]) dX3_isWrong_203 cv_X3_79 (by decide) (Nat.le_of_ble_eq_true rfl) (Or.inl ⟨_, _, _, _, hD.1, rfl⟩) (s_isType hD hG (wo_lt (hD.2.2.1 i hi).1 0)) (fun v h' q => ?_)
    obtain ⟨rfl, rfl⟩ := q
    refine ex_ifB_eq (tgt := 249) (by decide) dX3_isWrong_206 (fun c2 => ?_) (fun c2 => ?_)
    · refine ex_iconst (v := (nI 1)) (by decide) dX3_isWrong_249 ?_
      refine ex_goto (tgt := 254) (by decide) dX3_isWrong_250 ?_
      refine ex_zret dX3_isWrong_254 rfl rfl ⟨rT (Or.inr (Or.inl (bP_f c2))), rfl⟩
    · refine ex_aload_n rfl dX3_isWrong_209 ?_
      refine ex_aload_n rfl dX3_isWrong_210 ?_
      refine ex_iconst (v := (nI 1)) (by decide) dX3_isWrong_211 ?_
      refine ex_invv (k := 0) (n := 0) (mc' := 0) (ms' := 0) (As := [_]) dX3_isWrong_212 cv_X3_64 (by decide) (Nat.le_of_ble_eq_true rfl) (Or.inl ⟨_, _, _, _, (hD.2.2.1 i (by omega)).1.1, rfl⟩) (s_word (hD.2.2.1 i (by omega)).1 (k := 1) (by decide)) (fun v h' q => ?_)
      obtain ⟨rfl, rfl⟩ := q
      refine ex_invv (k := 0) (n := 0) (mc' := 0) (ms' := 0) (As := [_]) dX3_isWrong_215 cv_X3_79 (by decide) (Nat.le_of_ble_eq_true rfl) (Or.inl ⟨_, _, _, _, hD.1, rfl⟩) (s_isType hD hG (wo_lt (hD.2.2.1 i hi).1 1)) (fun v h' q => ?_)
      obtain ⟨rfl, rfl⟩ := q
      refine ex_ifB_eq (tgt := 249) (by decide) dX3_isWrong_218 (fun c3 => ?_) (fun c3 => ?_)
      · refine ex_iconst (v := (nI 1)) (by decide) dX3_isWrong_249 ?_
        refine ex_goto (tgt := 254) (by decide) dX3_isWrong_250 ?_
        refine ex_zret dX3_isWrong_254 rfl rfl ⟨rT (Or.inr (Or.inr (Or.inl (bP_f c3)))), rfl⟩
      · refine ex_aload_n rfl dX3_isWrong_221 ?_
        refine ex_gets (z := ("PolicyDesk$Kind", "CLASS", "LPolicyDesk$Kind;", .ref (ead G 0))) dX3_isWrong_222 (eZk (i := 0) (by decide)) gz_X3_40 ?_
        refine ex_aload_n rfl dX3_isWrong_225 ?_
        refine ex_iconst (v := (nI 2)) (by decide) dX3_isWrong_226 ?_
        refine ex_invv (k := 0) (n := 0) (mc' := 0) (ms' := 0) (As := [_]) dX3_isWrong_227 cv_X3_64 (by decide) (Nat.le_of_ble_eq_true rfl) (Or.inl ⟨_, _, _, _, (hD.2.2.1 i (by omega)).1.1, rfl⟩) (s_word (hD.2.2.1 i (by omega)).1 (k := 2) (by decide)) (fun v h' q => ?_)
        obtain ⟨rfl, rfl⟩ := q
        refine ex_invv (k := 0) (n := 0) (mc' := 0) (ms' := 0) (As := [_, _]) dX3_isWrong_230 cv_X3_82 (by decide) (Nat.le_of_ble_eq_true rfl) (Or.inl ⟨_, _, _, _, hD.1, rfl⟩) (s_numberOf hD hG (κ := 0) (by decide) (wo_lt (hD.2.2.1 i hi).1 2)) (fun v h' q => ?_)
        obtain ⟨rfl, rfl⟩ := q
        refine ex_iconst (v := (-1)) (by decide) dX3_isWrong_233 ?_
        refine ex_icmpO_eq (tgt := 249) (by decide) dX3_isWrong_234 (fun j hj => Nat.lt_trans (nof_lt hn j hj) (by decide)) (fun c4 => ?_) (fun jc4 c4 => ?_)
        · refine ex_iconst (v := (nI 1)) (by decide) dX3_isWrong_249 ?_
          refine ex_goto (tgt := 254) (by decide) dX3_isWrong_250 ?_
          refine ex_zret dX3_isWrong_254 rfl rfl ⟨rT (Or.inr (Or.inr (Or.inr (Or.inl (nof_none.mp c4))))), rfl⟩
        · refine ex_aload_n rfl dX3_isWrong_237 ?_
          refine ex_aload_n rfl dX3_isWrong_238 ?_
          refine ex_iconst (v := (nI 3)) (by decide) dX3_isWrong_239 ?_
          refine ex_invv (k := 0) (n := 0) (mc' := 0) (ms' := 0) (As := [_]) dX3_isWrong_240 cv_X3_64 (by decide) (Nat.le_of_ble_eq_true rfl) (Or.inl ⟨_, _, _, _, (hD.2.2.1 i (by omega)).1.1, rfl⟩) (s_word (hD.2.2.1 i (by omega)).1 (k := 3) (by decide)) (fun v h' q => ?_)
          obtain ⟨rfl, rfl⟩ := q
          refine ex_invv (k := 0) (n := 0) (mc' := 0) (ms' := 0) (As := [_]) dX3_isWrong_243 cv_X3_79 (by decide) (Nat.le_of_ble_eq_true rfl) (Or.inl ⟨_, _, _, _, hD.1, rfl⟩) (s_isType hD hG (wo_lt (hD.2.2.1 i hi).1 3)) (fun v h' q => ?_)
          obtain ⟨rfl, rfl⟩ := q
          refine ex_ifB_ne (tgt := 253) (by decide) dX3_isWrong_246 (fun c5 => ?_) (fun c5 => ?_)
          · refine ex_iconst (v := (nI 0)) (by decide) dX3_isWrong_253 ?_
            refine ex_zret dX3_isWrong_254 rfl rfl ⟨rF (by rintro (z | z | z | z | z); exact bP_f c1 z; exact z (bP_t c2); exact z (bP_t c3); rw [nof_none.mpr z] at c4; cases c4; exact z (bP_t c5)), rfl⟩
          · refine ex_iconst (v := (nI 1)) (by decide) dX3_isWrong_249 ?_
            refine ex_goto (tgt := 254) (by decide) dX3_isWrong_250 ?_
            refine ex_zret dX3_isWrong_254 rfl rfl ⟨rT (Or.inr (Or.inr (Or.inr (Or.inr (bP_f c5))))), rfl⟩
set_option maxHeartbeats 4000000 in
set_option maxRecDepth 100000 in
theorem w_5 {G : EG} {l : Launch} {h : EH} {a n : Nat} {S : Nat → Stm} (hD : DR G h a n S) (hG : eInj G) {i : Nat} (hi : i < 41) : Ex G l 4 mX3_isWrong (fun v h' => v = some (.int (b2i (bP (wr5 S n i)))) ∧ h' = h) eNoX 0 0 255 [(0, .ref a), (1, .int (nI i)), (2, .ref (a + 2 + 2 * i))] [] h := by
  have hn := hD.2.2.2
  have hc0 := cntk_le S 0 i
  have hc1 := cntk_le S 1 i
  refine ex_aload_n rfl dX3_isWrong_255 ?_
  refine ex_iload_n rfl dX3_isWrong_256 ?_
  refine ex_iconst (v := (nI 1)) (by decide) dX3_isWrong_257 ?_
  refine ex_invv (k := 0) (n := 0) (mc' := 0) (ms' := 0) (As := [_, _]) dX3_isWrong_258 cv_X3_57 (by decide) (Nat.le_of_ble_eq_true rfl) (Or.inl ⟨_, _, _, _, hD.1, rfl⟩) (s_repeats hD hG hi (m := 1) (by decide)) (fun v h' q => ?_)
  obtain ⟨rfl, rfl⟩ := q
  refine ex_ifB_ne (tgt := 276) (by decide) dX3_isWrong_261 (fun c1 => ?_) (fun c1 => ?_)
  · refine ex_iconst (v := (nI 1)) (by decide) dX3_isWrong_276 ?_
    refine ex_goto (tgt := 281) (by decide) dX3_isWrong_277 ?_
    refine ex_zret dX3_isWrong_281 rfl rfl ⟨rT (Or.inl (bP_t c1)), rfl⟩
  · refine ex_aload_n rfl dX3_isWrong_264 ?_
    refine ex_aload_n rfl dX3_isWrong_265 ?_
    refine ex_iconst (v := (nI 0)) (by decide) dX3_isWrong_266 ?_
    refine ex_invv (k := 0) (n := 0) (mc' := 0) (ms' := 0) (As := [_]) dX3_isWrong_267 cv_X3_64 (by decide) (Nat.le_of_ble_eq_true rfl) (Or.inl ⟨_, _, _, _, (hD.2.2.1 i (by omega)).1.1, rfl⟩) (s_word (hD.2.2.1 i (by omega)).1 (k := 0) (by decide)) (fun v h' q => ?_)
    obtain ⟨rfl, rfl⟩ := q
    refine ex_invv (k := 0) (n := 0) (mc' := 0) (ms' := 0) (As := [_]) dX3_isWrong_270 cv_X3_79 (by decide) (Nat.le_of_ble_eq_true rfl) (Or.inl ⟨_, _, _, _, hD.1, rfl⟩) (s_isType hD hG (wo_lt (hD.2.2.1 i hi).1 0)) (fun v h' q => ?_)
    obtain ⟨rfl, rfl⟩ := q
    refine ex_ifB_ne (tgt := 280) (by decide) dX3_isWrong_273 (fun c2 => ?_) (fun c2 => ?_)
    · refine ex_iconst (v := (nI 0)) (by decide) dX3_isWrong_280 ?_
      refine ex_zret dX3_isWrong_281 rfl rfl ⟨rF (by rintro (z | z); exact bP_f c1 z; exact z (bP_t c2)), rfl⟩
    · refine ex_iconst (v := (nI 1)) (by decide) dX3_isWrong_276 ?_
      refine ex_goto (tgt := 281) (by decide) dX3_isWrong_277 ?_
      refine ex_zret dX3_isWrong_281 rfl rfl ⟨rT (Or.inr (bP_f c2)), rfl⟩
set_option maxHeartbeats 4000000 in
set_option maxRecDepth 100000 in
theorem w_6 {G : EG} {l : Launch} {h : EH} {a n : Nat} {S : Nat → Stm} (hD : DR G h a n S) (hG : eInj G) {i : Nat} (hi : i < 41) : Ex G l 4 mX3_isWrong (fun v h' => v = some (.int (b2i (bP (¬ areP S n i 0)))) ∧ h' = h) eNoX 0 0 282 [(0, .ref a), (1, .int (nI i)), (2, .ref (a + 2 + 2 * i))] [] h := by
  have hn := hD.2.2.2
  have hc0 := cntk_le S 0 i
  have hc1 := cntk_le S 1 i
  refine ex_aload_n rfl dX3_isWrong_282 ?_
  refine ex_aload_n rfl dX3_isWrong_283 ?_
  refine ex_iconst (v := (nI 0)) (by decide) dX3_isWrong_284 ?_
  refine ex_invv (k := 0) (n := 0) (mc' := 0) (ms' := 0) (As := [_, _]) dX3_isWrong_285 cv_X3_75 (by decide) (Nat.le_of_ble_eq_true rfl) (Or.inl ⟨_, _, _, _, hD.1, rfl⟩) (s_declPerms hD hG hi (c := 0) (by decide)) (fun v h' q => ?_)
  obtain ⟨rfl, rfl⟩ := q
  refine ex_ifB_ne (tgt := 295) (by decide) dX3_isWrong_288 (fun c1 => ?_) (fun c1 => ?_)
  · refine ex_iconst (v := (nI 0)) (by decide) dX3_isWrong_295 ?_
    refine ex_zret dX3_isWrong_296 rfl rfl ⟨rF (fun z => z (bP_t c1)), rfl⟩
  · refine ex_iconst (v := (nI 1)) (by decide) dX3_isWrong_291 ?_
    refine ex_goto (tgt := 296) (by decide) dX3_isWrong_292 ?_
    refine ex_zret dX3_isWrong_296 rfl rfl ⟨rT (bP_f c1), rfl⟩
set_option maxHeartbeats 4000000 in
set_option maxRecDepth 100000 in
theorem s_isWrong {G : EG} {l : Launch} {h : EH} {a n : Nat} {S : Nat → Stm} (hD : DR G h a n S) (hG : eInj G) {i : Nat} (hi : i < 41) : ES G l 4 mX3_isWrong [.ref a, .int (nI i)] h 0 0 (fun v h' => v = some (.int (b2i (bP (isWr dSelf S n i)))) ∧ h' = h) eNoX := by
  have hn := hD.2.2.2
  refine es_of (by decide) rfl (Nat.le_of_ble_eq_true rfl) ?_
  refine ex_aload_n rfl dX3_isWrong_0 ?_
  refine ex_get dX3_isWrong_1 gf_X3_11 hD.1 rfl ?_
  refine ex_iload_n rfl dX3_isWrong_4 ?_
  refine ex_aldqN dX3_isWrong_5 hD.2.1 (by omega) (by decide) (if_pos (by omega)) ?_
  refine ex_astore_n (by decide) rfl dX3_isWrong_6 ?_
  refine ex_gets (z := ("PolicyDesk$1", "$SwitchMap$PolicyDesk$Kind", "[I", .ref (ead G 10))) dX3_isWrong_7 (eZo 1 rfl) gz_X3_43 ?_
  refine ex_aload_n rfl dX3_isWrong_10 ?_
  refine ex_invv (k := 0) (n := 0) (mc' := 0) (ms' := 0) (As := []) dX3_isWrong_11 cv_X3_49 (by decide) (Nat.le_of_ble_eq_true rfl) (Or.inl ⟨_, _, _, _, (hD.2.2.1 i (by omega)).1.1, rfl⟩) (s_kind (hD.2.2.1 i (by omega)).1) (fun v h' q => ?_)
  obtain ⟨rfl, rfl⟩ := q
  refine ex_invU (x := yKord) (N := mJx29ce0_ordinal_8abf5) dX3_isWrong_14 kol3 kos kox koi rfl caJx29ce0_ordinal_8abf5 (by decide) (Nat.le_of_ble_eq_true rfl) (Or.inr (eOk (hD.2.2.1 i hi).2)) (s_ordinal _ (hD.2.2.1 i hi).2) (fun v h' q => ?_)
  obtain ⟨rfl, rfl⟩ := q
  refine ex_taldN dX3_isWrong_17 eTsw (hD.2.2.1 i hi).2 (by decide) ?_
  have hk9 := (hD.2.2.1 i hi).2
  rcases (show kd (S i) = 0 ∨ kd (S i) = 1 ∨ kd (S i) = 2 ∨ kd (S i) = 3 ∨ kd (S i) = 4 ∨ kd (S i) = 5 ∨ kd (S i) = 6 ∨ kd (S i) = 7 ∨ kd (S i) = 8 by omega) with e | e | e | e | e | e | e | e | e
  · rw [e, bP_eq (isWr0 e)]
    exact ex_tblI (tgt := 56) dX3_isWrong_18 (by decide) (by decide) (off := 38) (by decide) (by decide) (w_0 hD hG hi)
  · rw [e, bP_eq (isWr1 e)]
    exact ex_tblI (tgt := 91) dX3_isWrong_18 (by decide) (by decide) (off := 73) (by decide) (by decide) (w_1 hD hG hi)
  · rw [e, bP_eq (isWr2 (Or.inl e))]
    exact ex_tblI (tgt := 139) dX3_isWrong_18 (by decide) (by decide) (off := 121) (by decide) (by decide) (w_2 hD hG hi)
  · rw [e, bP_eq (isWr2 (Or.inr e))]
    exact ex_tblI (tgt := 139) dX3_isWrong_18 (by decide) (by decide) (off := 121) (by decide) (by decide) (w_2 hD hG hi)
  · rw [e, bP_eq (isWr4 e)]
    exact ex_tblI (tgt := 188) dX3_isWrong_18 (by decide) (by decide) (off := 170) (by decide) (by decide) (w_4 hD hG hi)
  · rw [e, bP_eq (isWr5 e)]
    exact ex_tblI (tgt := 255) dX3_isWrong_18 (by decide) (by decide) (off := 237) (by decide) (by decide) (w_5 hD hG hi)
  · rw [e, bP_eq (isWr6 (by omega))]
    exact ex_tblO (tgt := 282) dX3_isWrong_18 (by decide) (by decide) (w_6 hD hG hi)
  · rw [e, bP_eq (isWr6 (by omega))]
    exact ex_tblO (tgt := 282) dX3_isWrong_18 (by decide) (by decide) (w_6 hD hG hi)
  · rw [e, bP_eq (isWr6 (by omega))]
    exact ex_tblO (tgt := 282) dX3_isWrong_18 (by decide) (by decide) (w_6 hD hG hi)
/-- at which statement a draft is wrong; its end, if it has no type or no class -/
def FW (self : Nat) (S : Nat → Stm) (n : Nat) (r : Option Nat) : Prop := (∀ i, r = some i → (i < n ∧ isWr self S n i ∧ ∀ j, j < i → ¬ isWr self S n j) ∨ (i = n ∧ (∀ j, j < n → ¬ isWr self S n j) ∧ (cntk S 1 n = 0 ∨ cntk S 0 n = 0))) ∧ (r = none → (∀ j, j < n → ¬ isWr self S n j) ∧ cntk S 1 n ≠ 0 ∧ cntk S 0 n ≠ 0)
set_option maxHeartbeats 4000000 in
set_option maxRecDepth 100000 in
theorem l_firstWrong {G : EG} {l : Launch} {h : EH} {a n : Nat} {S : Nat → Stm} (hD : DR G h a n S) (hG : eInj G) : ∀ (f k : Nat), n - k < f → k ≤ n → (∀ j, j < k → ¬ isWr dSelf S n j) → Ex G l 5 mX3_firstWrong (fun v h' => ∃ r, v = some (.int (oI r)) ∧ h' = h ∧ FW dSelf S n r) eNoX 0 0 2 [(0, .ref a), (1, .int (nI k))] [] h := by
  intro f
  induction f with
  | zero =>
    intro k h1 h2 he
    omega
  | succ f ih =>
    intro k h1 h2 he
    have hn := hD.2.2.2
    have hc0 := cntk_le S 0 n
    have hc1 := cntk_le S 1 n
    refine ex_iload_n rfl dX3_firstWrong_2 ?_
    refine ex_aload_n rfl dX3_firstWrong_3 ?_
    refine ex_get dX3_firstWrong_4 gf_X3_17 hD.1 rfl ?_
    refine ex_icmpN_ge (tgt := 26) (by decide) dX3_firstWrong_7 (by omega) (by omega) (fun c1 => ?_) (fun c1 => ?_)
    · refine ex_aload_n rfl dX3_firstWrong_26 ?_
      refine ex_gets (z := ("PolicyDesk$Kind", "TYPE", "LPolicyDesk$Kind;", .ref (ead G 1))) dX3_firstWrong_27 (eZk (i := 1) (by decide)) gz_X3_30 ?_
      refine ex_aload_n rfl dX3_firstWrong_30 ?_
      refine ex_get dX3_firstWrong_31 gf_X3_17 hD.1 rfl ?_
      refine ex_invv (k := 0) (n := 0) (mc' := 0) (ms' := 0) (As := [_, _]) dX3_firstWrong_34 cv_X3_36 (by decide) (Nat.le_of_ble_eq_true rfl) (Or.inl ⟨_, _, _, _, hD.1, rfl⟩) (s_howMany hD hG (κ := 1) (e := n) (by decide) (by omega)) (fun v h' q => ?_)
      obtain ⟨rfl, rfl⟩ := q
      refine ex_ifN_eq (tgt := 54) (by decide) dX3_firstWrong_37 (by omega) (fun c2 => ?_) (fun c2 => ?_)
      · refine ex_aload_n rfl dX3_firstWrong_54 ?_
        refine ex_get dX3_firstWrong_55 gf_X3_17 hD.1 rfl ?_
        refine ex_goto (tgt := 62) (by decide) dX3_firstWrong_58 ?_
        refine ex_iret dX3_firstWrong_62 rfl ⟨some n, rfl, rfl, ⟨fun i hi => (by cases hi; exact Or.inr ⟨rfl, fun j hj => he j (by omega), by first | exact Or.inl c2 | exact Or.inr c3⟩), fun z => (by cases z)⟩⟩
      · refine ex_aload_n rfl dX3_firstWrong_40 ?_
        refine ex_gets (z := ("PolicyDesk$Kind", "CLASS", "LPolicyDesk$Kind;", .ref (ead G 0))) dX3_firstWrong_41 (eZk (i := 0) (by decide)) gz_X3_40 ?_
        refine ex_aload_n rfl dX3_firstWrong_44 ?_
        refine ex_get dX3_firstWrong_45 gf_X3_17 hD.1 rfl ?_
        refine ex_invv (k := 0) (n := 0) (mc' := 0) (ms' := 0) (As := [_, _]) dX3_firstWrong_48 cv_X3_36 (by decide) (Nat.le_of_ble_eq_true rfl) (Or.inl ⟨_, _, _, _, hD.1, rfl⟩) (s_howMany hD hG (κ := 0) (e := n) (by decide) (by omega)) (fun v h' q => ?_)
        obtain ⟨rfl, rfl⟩ := q
        refine ex_ifN_ne (tgt := 61) (by decide) dX3_firstWrong_51 (by omega) (fun c3 => ?_) (fun c3 => ?_)
        · refine ex_iconst (v := (-1)) (by decide) dX3_firstWrong_61 ?_
          refine ex_iret dX3_firstWrong_62 rfl ⟨none, rfl, rfl, ⟨fun i hi => (by cases hi), fun _ => ⟨fun j hj => he j (by omega), c2, c3⟩⟩⟩
        · refine ex_aload_n rfl dX3_firstWrong_54 ?_
          refine ex_get dX3_firstWrong_55 gf_X3_17 hD.1 rfl ?_
          refine ex_goto (tgt := 62) (by decide) dX3_firstWrong_58 ?_
          refine ex_iret dX3_firstWrong_62 rfl ⟨some n, rfl, rfl, ⟨fun i hi => (by cases hi; exact Or.inr ⟨rfl, fun j hj => he j (by omega), by first | exact Or.inl c2 | exact Or.inr c3⟩), fun z => (by cases z)⟩⟩
    · refine ex_aload_n rfl dX3_firstWrong_10 ?_
      refine ex_iload_n rfl dX3_firstWrong_11 ?_
      refine ex_invv (k := 0) (n := 0) (mc' := 0) (ms' := 0) (As := [_]) dX3_firstWrong_12 cv_X3_26 (by decide) (Nat.le_of_ble_eq_true rfl) (Or.inl ⟨_, _, _, _, hD.1, rfl⟩) (s_isWrong hD hG (i := k) (by omega)) (fun v h' q => ?_)
      obtain ⟨rfl, rfl⟩ := q
      refine ex_ifB_eq (tgt := 20) (by decide) dX3_firstWrong_15 (fun c4 => ?_) (fun c4 => ?_)
      · refine ex_iincN (z := 1) rfl (by decide) rfl dX3_firstWrong_20 ?_
        refine ex_goto (tgt := 2) (by decide) dX3_firstWrong_23 ?_
        exact ih (k + 1) (by omega) (by omega) (fun j hj => by rcases Nat.lt_or_ge j k with q | q; exact he j q; rw [show j = k by omega]; exact bP_f c4)
      · refine ex_iload_n rfl dX3_firstWrong_18 ?_
        refine ex_iret dX3_firstWrong_19 rfl ⟨some k, rfl, rfl, ⟨fun i hi => (by cases hi; exact Or.inl ⟨c1, bP_t c4, he⟩), fun z => (by cases z)⟩⟩
set_option maxHeartbeats 4000000 in
set_option maxRecDepth 100000 in
theorem s_firstWrong {G : EG} {l : Launch} {h : EH} {a n : Nat} {S : Nat → Stm} (hD : DR G h a n S) (hG : eInj G) : ES G l 5 mX3_firstWrong [.ref a] h 0 0 (fun v h' => ∃ r, v = some (.int (oI r)) ∧ h' = h ∧ FW dSelf S n r) eNoX := by
  refine es_of (by decide) rfl (Nat.le_of_ble_eq_true rfl) ?_
  refine ex_iconst (v := (nI 0)) (by decide) dX3_firstWrong_0 ?_
  refine ex_istore_n (by decide) rfl dX3_firstWrong_1 ?_
  exact l_firstWrong hD hG (n + 1) 0 (by omega) (by omega) (fun j hj => by omega)
