/-! THE START, 2: the addresses, the world at the law's entry -/
def adr (A : Array Value) (s : State) (t : Term) : Nat := match t.eval A s none [] s with
  | some (.ref a) => a
  | _ => 0
theorem adr_ok {A : Array Value} {s : State} {t : Term} (h : ∃ a, t.eval A s none [] s = some (.ref a)) : t.eval A s none [] s = some (.ref (adr A s t)) := by
  obtain ⟨a, h⟩ := h
  have e : adr A s t = a := by unfold adr; rw [h]
  rw [e]; exact h
def stT (i : Nat) : Term := if i < 9 then stK i else if i = 9 then stKs else if i = 10 then stSw else if i < 32 then stS (i - 16) else if i < 48 then stV (i - 32) else stM (i - 48)
theorem stT_k {i : Nat} (h : i < 9) : stT i = stK i := if_pos h
theorem stT_s {i : Nat} (h : i < 12) : stT (16 + i) = stS i := by
  unfold stT
  rw [if_neg (by omega), if_neg (by omega), if_neg (by omega), if_pos (by omega)]
  congr 1; omega
theorem stT_v {i : Nat} (h : i < 12) : stT (32 + i) = stV i := by
  unfold stT
  rw [if_neg (by omega), if_neg (by omega), if_neg (by omega), if_neg (by omega), if_pos (by omega)]
  congr 1; omega
theorem stT_m {i : Nat} : stT (48 + i) = stM i := by
  unfold stT
  rw [if_neg (by omega), if_neg (by omega), if_neg (by omega), if_neg (by omega), if_neg (by omega)]
  congr 1; omega
def stG (A : Array Value) (s : State) (D : va_G) (cA : Nat → ClassId) (b L : Nat) (xs : Nat → Int32) (fm : Option Nat) : EG := (D, cA, fun i => adr A s (stT i), s.heap.size, (b, L, xs), fm)
theorem stG_k {A : Array Value} {s : State} {D : va_G} {cA : Nat → ClassId} {b L : Nat} {xs : Nat → Int32} {fm : Option Nat} {i : Nat} (h : i < 9) : ead (stG A s D cA b L xs fm) i = adr A s (stK i) := by
  show adr A s (stT i) = _
  rw [stT_k h]
theorem stG_s {A : Array Value} {s : State} {D : va_G} {cA : Nat → ClassId} {b L : Nat} {xs : Nat → Int32} {fm : Option Nat} {i : Nat} (h : i < 12) : ead (stG A s D cA b L xs fm) (16 + i) = adr A s (stS i) := by
  show adr A s (stT (16 + i)) = _
  rw [stT_s h]
theorem stG_v {A : Array Value} {s : State} {D : va_G} {cA : Nat → ClassId} {b L : Nat} {xs : Nat → Int32} {fm : Option Nat} {i : Nat} (h : i < 12) : ead (stG A s D cA b L xs fm) (32 + i) = adr A s (stV i) := by
  show adr A s (stT (32 + i)) = _
  rw [stT_v h]
theorem stG_m {A : Array Value} {s : State} {D : va_G} {cA : Nat → ClassId} {b L : Nat} {xs : Nat → Int32} {fm : Option Nat} {i : Nat} : ead (stG A s D cA b L xs fm) (48 + i) = adr A s (stM i) := by
  show adr A s (stT (48 + i)) = _
  rw [stT_m]
theorem st_ref {A : Array Value} {s : State} {t : Term} {C : String} (h : (Cond.exactly t C).before A s = true) : t.eval A s none [] s = some (.ref (adr A s t)) := by
  obtain ⟨a, _, _, _, e, _⟩ := Cond.exactly_spec (first := s) (o := none) (idx := []) h
  exact adr_ok ⟨a, e⟩
theorem nI_9 : ∀ i, i < 9 → ∀ j, j < 9 → nI i = nI j → i = j := by decide
theorem st_inj {A : Array Value} {s : State} {D : va_G} {cA : Nat → ClassId} {b L : Nat} {xs : Nat → Int32} {fm : Option Nat} (hgv : gvn.before A s = true) : eInj (stG A s D cA b L xs fm) := by
  intro i j hi hj e
  have hg := flat_of_before gvn hgv
  rw [stG_k hi, stG_k hj] at e
  have e1 := st_ref (hg _ (gv_k i hi).1)
  have e2 := st_ref (hg _ (gv_k j hj).1)
  rw [← e] at e2
  have o1 : Term.eval A s none [] s (.field (stK i) "java/lang/Enum" "ordinal" "I") = some (.int (nI i)) := va_eqv (hg _ (gv_k i hi).2.1) rfl
  have o2 : Term.eval A s none [] s (.field (stK j) "java/lang/Enum" "ordinal" "I") = some (.int (nI j)) := va_eqv (hg _ (gv_k j hj).2.1) rfl
  rw [Term.eval, e1] at o1
  rw [Term.eval, e2] at o2
  have q : some (Value.int (nI i)) = some (Value.int (nI j)) := o1.symm.trans o2
  exact nI_9 i hi j hj (Value.int.inj (Option.some.inj q))
theorem kStr_sm : ∀ i, i < 12 → (kStr.getD i []).length < 2 ^ 31 := by decide
theorem kMarks_lt : ∀ i, i < 9 → kMarks.getD i 0 < 12 := by decide
theorem st_stat {A : Array Value} {s : State} {D : va_G} {cA : Nat → ClassId} {b L : Nat} {xs : Nat → Int32} {fm : Option Nat} (hts : ∀ w ∈ lw_tbl, w.before A s = true) (hgv : gvn.before A s = true) (hX : va_X b L xs s s.heap) (hbl : b < s.heap.size) (hf : stF.eval A s none [] s = some (va_rf fm)) : eStat (stG A s D cA b L xs fm) s s.heap := by
  have hg := flat_of_before gvn hgv
  have hA : ∀ a : Nat, a < s.heap.size → ¬ eF (stG A s D cA b L xs fm) a := fun a h => Nat.not_le.mpr h
  have eK : ∀ i, i < 9 → (stK i).eval A s none [] s = some (.ref (ead (stG A s D cA b L xs fm) i)) := fun i hi => by rw [stG_k hi]; exact st_ref (hg _ (gv_k i hi).1)
  have eS : ∀ i, i < 12 → (stS i).eval A s none [] s = some (.ref (ead (stG A s D cA b L xs fm) (16 + i))) := fun i hi => by rw [stG_s hi]; exact st_ref (hg _ (gv_s i hi).1)
  obtain ⟨a9, f9, t9⟩ := va_Tof (A := eF (stG A s D cA b L xs fm)) (tm := stKs) (N := 9) (f := fun j => .ref (ead (stG A s D cA b L xs fm) j)) (by decide) (hg _ gv_a.1) (va_eqv (hg _ gv_a.2.1) rfl) (fun j hj => va_eqv (hg _ (gv_k j hj).2.2.1) (eK j hj)) hA
  obtain ⟨a10, f10, t10⟩ := va_Tof (A := eF (stG A s D cA b L xs fm)) (tm := stSw) (N := 9) (f := fun j => .int (nI (j + 1))) (by decide) (hg _ gv_a.2.2.1) (va_eqv (hg _ gv_a.2.2.2.1) rfl) (fun j hj => va_eqv (hg _ (gv_k j hj).2.2.2) rfl) hA
  have g9 : ead (stG A s D cA b L xs fm) 9 = a9 := by
    show adr A s stKs = a9
    unfold adr; rw [f9]
  have g10 : ead (stG A s D cA b L xs fm) 10 = a10 := by
    show adr A s stSw = a10
    unfold adr; rw [f10]
  have tV : ∀ i, i < 12 → (stV i).eval A s none [] s = some (.ref (ead (stG A s D cA b L xs fm) (32 + i))) ∧ va_T .byte (ead (stG A s D cA b L xs fm) (32 + i)) (kStr.getD i []).length (fun j => .int ((kStr.getD i []).getD j 0)) (eF (stG A s D cA b L xs fm)) s s.heap := by
    intro i hi
    obtain ⟨a, f, t⟩ := va_Tof (A := eF (stG A s D cA b L xs fm)) (tm := stV i) (N := (kStr.getD i []).length) (f := fun j => .int ((kStr.getD i []).getD j 0)) (kStr_sm i hi) (hg _ (gv_s i hi).2.2.1) (va_eqv (hg _ (gv_s i hi).2.2.2) rfl) (fun j hj => va_eqv (hg _ (gv_y i hi j hj)) rfl) hA
    have g : ead (stG A s D cA b L xs fm) (32 + i) = a := by
      rw [stG_v hi]
      unfold adr; rw [f]
    rw [g]
    exact ⟨f, t⟩
  refine ⟨?_, ?_, ?_, ?_, vx_Zqof (hts _ tb_z.2.2.2.2.1) (hts _ tb_i.2.2.2.2.2) (hg _ gv_a.2.2.2.2.2.2.1) hA, vx_Zqof (hts _ tb_z.2.2.2.2.2) (hts _ tb_i.2.2.2.2.2) (hg _ gv_a.2.2.2.2.2.2.2.1) hA⟩
  · intro z hz
    rcases List.mem_append.mp hz with hz | hz
    · obtain ⟨i, hi, rfl⟩ := List.mem_map.mp hz
      have hi := List.mem_range.mp hi
      exact va_Zof (hts _ (tb_k i hi)) (hts _ tb_i.1) (eK i hi) hA
    · simp only [List.mem_cons, List.not_mem_nil, or_false] at hz
      rcases hz with rfl | rfl | rfl | rfl
      · exact va_Zof (hts _ tb_z.1) (hts _ tb_i.2.1) (by rw [g9]; exact f9) hA
      · exact va_Zof (hts _ tb_z.2.1) (hts _ tb_i.2.2.1) (by rw [g10]; exact f10) hA
      · exact va_Zof (hts _ tb_z.2.2.1) (hts _ tb_i.2.2.2.1) (va_eqi (hg _ gv_a.2.2.2.2.1)) hA
      · exact va_Zof (hts _ tb_z.2.2.2.1) (hts _ tb_i.2.2.2.2.1) hf hA
  · intro z hz
    rcases List.mem_append.mp hz with hz | hz
    · obtain ⟨i, hi, rfl⟩ := List.mem_map.mp hz
      have hi := List.mem_range.mp hi
      exact va_Oof (hg _ (gv_k i hi).1) (eK i hi) hA
    · obtain ⟨i, hi, rfl⟩ := List.mem_map.mp hz
      have hi := List.mem_range.mp hi
      exact va_Oof (hg _ (gv_s i hi).1) (eS i hi) hA
  · intro z hz
    rcases hz with ⟨i, hi, hz⟩ | ⟨i, hi, hz⟩
    · unfold eO1 at hz
      simp only [List.mem_cons, List.not_mem_nil, or_false] at hz
      rcases hz with rfl | rfl | rfl | rfl | rfl | rfl
      · exact vk_OFof (eK i hi) (va_eqv (hg _ (gv_w i hi).1) (eS i (by omega))) hA
      · exact vk_OFof (eK i hi) (va_eqv (hg _ (gv_n i hi).1) rfl) hA
      · exact vk_OFof (eK i hi) (va_eqv (hg _ (gv_w i hi).2) (eS _ (kMarks_lt i hi))) hA
      · exact vk_OFof (eK i hi) (va_eqv (hg _ (gv_n i hi).2.1) rfl) hA
      · exact vk_OFof (eK i hi) (va_eqv (hg _ (gv_n i hi).2.2) rfl) hA
      · exact vk_OFof (eK i hi) (va_eqv (hg _ (gv_k i hi).2.1) rfl) hA
    · unfold eO2 at hz
      simp only [List.mem_cons, List.not_mem_nil, or_false] at hz
      rcases hz with rfl | rfl
      · exact vk_OFof (eS i hi) (tV i hi).1 hA
      · exact vk_OFof (eS i hi) (va_eqv (hg _ (gv_s i hi).2.1) rfl) hA
  · intro z hz
    rcases hz with rfl | rfl | rfl | ⟨i, hi, rfl⟩
    · obtain ⟨scr, h1, h2, h3, h4, h5⟩ := hX
      exact ⟨scr, h1, h2, h3, Nat.le_of_eq h4.symm, by rw [h4]; rfl, fun j hj => h5 j hj, hA b hbl⟩
    · show va_T _ (ead (stG A s D cA b L xs fm) 10) _ _ _ _ _
      rw [g10]; exact t10
    · show va_T _ (ead (stG A s D cA b L xs fm) 9) _ _ _ _ _
      rw [g9]; exact t9
    · exact (tV i hi).2
theorem st_K {A : Array Value} {s : State} (hts : ∀ w ∈ lw_tbl, w.before A s = true) : ∃ (D : va_G) (cA : Nat → ClassId), va_K D vwCl [(cA 0, .int), (cA 1, .long), (cA 2, .char), (cA 3, .boolean), (cA 4, .object "PolicyDesk$Statement")] s := by
  have inn : ∀ {ws : List Cond}, (∀ w ∈ ws, w ∈ egood) → ∀ w ∈ ws, w ∈ lw_tbl := fun h w hw => (List.mem_filter.mp (h w hw)).1
  obtain ⟨i1, i3, i6, i7, i8, i9, i10, i11, i12⟩ := tb_c
  obtain ⟨c0, s0, k0⟩ := u_known (C := RX1) (T := TX1) (N := 4) hts (inn innX1) (hts _ i1)
  obtain ⟨c1, s1, k1⟩ := u_known (C := RX3) (T := TX3) (N := 2) hts (inn innX3) (hts _ i3)
  obtain ⟨c2, s2, k2⟩ := u_known (C := RX6) (T := TX6) (N := 5) hts (inn innX6) (hts _ i6)
  obtain ⟨c3, s3, k3⟩ := u_known (C := RX7) (T := TX7) (N := 7) hts (inn innX7) (hts _ i7)
  obtain ⟨c4, s4, k4⟩ := u_known (C := RX8) (T := TX8) (N := 2) hts (inn innX8) (hts _ i8)
  obtain ⟨c5, s5, k5⟩ := u_known (C := RX9) (T := TX9) (N := 4) hts (inn innX9) (hts _ i9)
  obtain ⟨c6, s6, k6⟩ := u_known (C := RX10) (T := TX10) (N := 2) hts (inn innX10) (hts _ i10)
  obtain ⟨c7, s7, k7⟩ := u_known (C := RX11) (T := TX11) (N := 10) hts (inn innX11) (hts _ i11)
  obtain ⟨c8, s8, k8⟩ := u_known (C := RX12) (T := TX12) (N := 32) hts (inn innX12) (hts _ i12)
  obtain ⟨a0, m0, p0, q0, r0, t0⟩ := Cond.arrayClass_spec (first := s) (o := none) (idx := []) (hts _ tb_a.1)
  obtain ⟨a1, m1, p1, q1, r1, t1⟩ := Cond.arrayClass_spec (first := s) (o := none) (idx := []) (hts _ tb_a.2.1)
  obtain ⟨a2, m2, p2, q2, r2, t2⟩ := Cond.arrayClass_spec (first := s) (o := none) (idx := []) (hts _ tb_a.2.2.1)
  obtain ⟨a3, m3, p3, q3, r3, t3⟩ := Cond.arrayClass_spec (first := s) (o := none) (idx := []) (hts _ tb_a.2.2.2.1)
  obtain ⟨p4, a4, m4, q4, u4, r4, t4, v4⟩ := Cond.arrayOver_spec (first := s) (o := none) (idx := []) (hts _ tb_a.2.2.2.2)
  refine ⟨(fun k => match k with
    | 0 => c0
    | 1 => c1
    | 2 => c2
    | 3 => c3
    | 4 => c4
    | 5 => c5
    | 6 => c6
    | 7 => c7
    | _ => c8, fun k => match k with
    | 0 => s0
    | 1 => s1
    | 2 => s2
    | 3 => s3
    | 4 => s4
    | 5 => s5
    | 6 => s6
    | 7 => s7
    | _ => s8), fun k => match k with
    | 0 => a0
    | 1 => a1
    | 2 => a2
    | 3 => a3
    | _ => a4, ?_, ?_⟩
  · intro k q hq
    match k, hq with
    | 0, hq => cases hq; exact k0
    | 1, hq => cases hq; exact k1
    | 2, hq => cases hq; exact k2
    | 3, hq => cases hq; exact k3
    | 4, hq => cases hq; exact k4
    | 5, hq => cases hq; exact k5
    | 6, hq => cases hq; exact k6
    | 7, hq => cases hq; exact k7
    | 8, hq => cases hq; exact k8
    | k + 9, hq => simp [vwCl] at hq
  · intro k q hq
    match k, hq with
    | 0, hq => cases hq; exact ⟨fun n z => ⟨fun k h => (by cases h), m0, r0, p0, t0⟩, q0⟩
    | 1, hq => cases hq; exact ⟨fun n z => ⟨fun k h => (by cases h), m1, r1, p1, t1⟩, q1⟩
    | 2, hq => cases hq; exact ⟨fun n z => ⟨fun k h => (by cases h), m2, r2, p2, t2⟩, q2⟩
    | 3, hq => cases hq; exact ⟨fun n z => ⟨fun k h => (by cases h), m3, r3, p3, t3⟩, q3⟩
    | 4, hq => cases hq; exact ⟨fun n z => ⟨fun k h => (by cases h), m4, r4, p4, t4⟩, m4, p4, r4, t4, q4, v4⟩
    | k + 5, hq => simp at hq
theorem st_W {A : Array Value} {s : State} {D : va_G} {cA : Nat → ClassId} {b L : Nat} {xs : Nat → Int32} {fm : Option Nat} (hts : ∀ w ∈ lw_tbl, w.before A s = true) (hgv : gvn.before A s = true) (hX : va_X b L xs s s.heap) (hbl : b < s.heap.size) (hf : stF.eval A s none [] s = some (va_rf fm)) (hK : va_K D vwCl [(cA 0, .int), (cA 1, .long), (cA 2, .char), (cA 3, .boolean), (cA 4, .object "PolicyDesk$Statement")] s) : eW (stG A s D cA b L xs fm) s := by
  have hg := flat_of_before gvn hgv
  refine ⟨hK, st_stat hts hgv hX hbl hf, ?_, va_AO.of (C := "PolicyDesk$Statement") (hts _ tb_a.2.2.2.2), Nat.le_refl _, ?_, ?_, ?_, ?_, ?_⟩
  · intro i hi
    rw [stG_m]
    exact vk_R.of (hts _ (tb_m i hi)) (st_ref (hg _ (gv_m i hi)))
  · exact fun a i x h hm => va_Nw.of rfl (hts _ hm)
  · exact fun a i b n d h hm => va_Nw.of rfl (hts _ hm)
  · exact fun C T hm => va_Nw.of rfl (hts _ hm)
  · exact va_Nc.of (hg _ gv_a.2.2.2.2.2.2.2.2)
  · exact fun x hm => va_Nw.of rfl (hts _ hm)
