/-! EACH CALL KEEPS THEM SIDE BY SIDE -/
theorem la_mem {L : List (Nat × Nat)} {B : Nat} (h0 : 0 < B) : (∀ j, la L j < B) ↔ ∀ e, e ∈ L → e.2 < B := by
  constructor
  · intro h e he
    obtain ⟨i, hi, rfl⟩ := List.mem_iff_getElem.mp he
    have := h i
    unfold la at this
    rw [List.getD_eq_getElem?_getD, List.getElem?_eq_getElem hi] at this
    exact this
  · intro h j
    unfold la
    rw [List.getD_eq_getElem?_getD]
    by_cases hj : j < L.length
    · rw [List.getElem?_eq_getElem hj]; exact h _ (List.getElem_mem hj)
    · rw [List.getElem?_eq_none (by omega)]; exact h0
theorem la_hit {L : List (Nat × Nat)} {q k : Nat} (h : ∀ j, la L j < 2 ^ 30) : ∀ j, la (mhit L q k) j < 2 ^ 30 := (la_mem (by decide)).mpr fun e he => by
  unfold mhit at he
  rcases List.mem_append.mp he with z | z
  · exact (la_mem (by decide)).mp h e (List.mem_of_mem_eraseIdx z)
  · rw [List.mem_singleton] at z; rw [z]; exact h k
theorem la_mis {L : List (Nat × Nat)} {cap q x : Nat} (h : ∀ j, la L j < 2 ^ 30) (hx : x < 2 ^ 30) : ∀ j, la (mmiss cap L q x) j < 2 ^ 30 := (la_mem (by decide)).mpr fun e he => by
  unfold mmiss at he
  rcases List.mem_append.mp he with z | z
  · refine (la_mem (by decide)).mp h e ?_
    split at z
    · exact List.mem_of_mem_eraseIdx z
    · exact z
  · rw [List.mem_singleton] at z; rw [z]; exact hx
theorem RR.mem {x : DS} {y y' : MS} (h : RR x y) (k : Kp [21, 24, 25] [13, 14] y y') {L : List (Nat × Nat)} {hi mi : Nat} (hL : ML y' L) (e24 : ms y' 24 = hi) (e25 : ms y' 25 = mi) (hl : ∀ j, la L j < 2 ^ 30) : RR (x.1, x.2.1, (dcap x, L, hi, mi), x.2.2.2) y' := by
  obtain ⟨⟨t1, t2⟩, ⟨r1, r2⟩, ⟨m0, m1, m2, m3⟩, ⟨b1, b2⟩, ⟨p1, p2⟩, ⟨f1, f2⟩, ⟨hB, hN⟩, hI⟩ := h
  exact ⟨⟨(k.1 2 (by decide)).trans t1, (k.2.2 1 (by decide)).trans t2⟩, ⟨(k.1 6 (by decide)).trans r1, by rw [(k.all (by decide)).1]; exact r2⟩, ⟨(k.1 0 (by decide)).trans m0, hL, e24, e25⟩, ⟨by rw [k.2.2 15 (by decide), k.1 26 (by decide)]; exact b1, by rw [k.2.2 16 (by decide), k.1 28 (by decide)]; exact b2⟩, ⟨k.pol (by decide) p1, p2⟩, ⟨(congrArg Prod.fst k.2.1.1).trans f1, (congrArg Prod.snd k.2.1.1).trans f2⟩, ⟨(k.all (by decide)).2.2.1 hB, mN_k k (by decide) hN⟩, hI.1, hI.2.1, hl, hI.2.2.2⟩
theorem RR.wr {x : DS} {y y' : MS} {w : Int64} (h : RR x y) (hy : if wok w (ms y 2) = true then wrY y y' w 8 else y' = y) : RR ((if wok w (dn x) then wt (dt x) (dn x) w 8 else dt x, if wok w (dn x) then dn x + cntb w 8 else dn x), x.2) y' := by
  obtain ⟨⟨t1, t2⟩, ⟨r1, r2⟩, ⟨m0, m1, m2, m3⟩, ⟨b1, b2⟩, ⟨p1, p2⟩, ⟨f1, f2⟩, ⟨hB, hN⟩, hI⟩ := h
  rw [t1] at hy
  cases hw : wok w (dn x) with
  | false =>
    rw [hw, if_neg (by decide)] at hy
    rw [if_neg (by decide), if_neg (by decide), hy]
    exact ⟨⟨t1, t2⟩, ⟨r1, r2⟩, ⟨m0, m1, m2, m3⟩, ⟨b1, b2⟩, ⟨p1, p2⟩, ⟨f1, f2⟩, ⟨hB, hN⟩, hI⟩
  | true =>
    rw [hw, if_pos rfl] at hy
    rw [if_pos rfl, if_pos rfl]
    obtain ⟨k, -, e2, e1⟩ := hy
    rw [t1] at e2
    rw [t1, t2] at e1
    unfold wok at hw
    rw [Bool.and_eq_true, decide_eq_true_iff] at hw
    have eS : mS y' = mS y := by unfold mS; rw [k.2.2 2 (by decide), k.2.2 3 (by decide), k.2.2 4 (by decide), k.2.2 5 (by decide)]
    exact ⟨⟨e2, e1⟩, ⟨(k.1 6 (by decide)).trans r1, by rw [eS]; exact r2⟩, ⟨(k.1 0 (by decide)).trans m0, k.ml (by decide) m1, (k.1 24 (by decide)).trans m2, (k.1 25 (by decide)).trans m3⟩, ⟨by rw [k.2.2 15 (by decide), k.1 26 (by decide)]; exact b1, by rw [k.2.2 16 (by decide), k.1 28 (by decide)]; exact b2⟩, ⟨k.pol (by decide) p1, p2⟩, ⟨(congrArg Prod.fst k.2.1.1).trans f1, (congrArg Prod.snd k.2.1.1).trans f2⟩, ⟨⟨by rw [k.1 6 (by decide)]; exact hB.1, by rw [e2]; exact hw.2, by rw [k.2.2 2 (by decide), k.2.2 3 (by decide), k.2.2 4 (by decide)]; exact hB.2.2⟩, mN_k k (by decide) hN⟩, fun j => dWr_lt hI.1 hw.1 8 (Nat.le_refl _) j, hI.2⟩
theorem RR.cut {x : DS} {y : MS} {m : Nat} (h : RR x y) (hm : m ≤ dm x) : RR (x.1, (m, dS x), x.2.2) (va_up (va_up (ms y) 1 0) 6 m, y.2) := by
  obtain ⟨⟨t1, t2⟩, ⟨r1, r2⟩, ⟨m0, m1, m2, m3⟩, ⟨b1, b2⟩, ⟨p1, p2⟩, ⟨f1, f2⟩, ⟨hB, hN⟩, hI⟩ := h
  exact ⟨⟨t1, t2⟩, ⟨rfl, fun i hi => r2 i (Nat.lt_of_lt_of_le hi hm)⟩, ⟨m0, m1, m2, m3⟩, ⟨b1, b2⟩, ⟨p1, p2⟩, ⟨f1, f2⟩, ⟨⟨Nat.le_trans hm (by rw [← r1]; exact hB.1), hB.2⟩, hN⟩, hI.1, fun i hi => hI.2.1 i (Nat.lt_of_lt_of_le hi hm), hI.2.2⟩
theorem RR.img {x : DS} {y y' : MS} (h : RR x y) (g : Nat → Nat) (hg : PE (dp x) (mP y g (mA y 7))) (hy : IMG (th0 (va_up (ms y) 26 0, y.2) 0) y' (imgL (mP (th0 (va_up (ms y) 26 0, y.2) 0) g (mA y 7)))) : RR (x.1, x.2.1, x.2.2.1, (imgL (dp x), dF x), x.2.2.2.2) y' := by
  obtain ⟨⟨t1, t2⟩, ⟨r1, r2⟩, ⟨m0, m1, m2, m3⟩, ⟨b1, b2⟩, ⟨p1, p2⟩, ⟨f1, f2⟩, ⟨hB, hN⟩, hI⟩ := h
  obtain ⟨k, -, hb⟩ := hy
  have e : imgL (mP (th0 (va_up (ms y) 26 0, y.2) 0) g (mA y 7)) = imgL (dp x) := (imgL_PE hg).symm
  rw [e] at hb
  exact ⟨⟨(k.1 2 (by decide)).trans t1, (k.2.2 1 (by decide)).trans t2⟩, ⟨(k.1 6 (by decide)).trans r1, by rw [(k.all (by decide)).1]; exact r2⟩, ⟨(k.1 0 (by decide)).trans m0, k.ml (by decide) m1, (k.1 24 (by decide)).trans m2, (k.1 25 (by decide)).trans m3⟩, ⟨hb, by rw [k.2.2 16 (by decide), k.1 28 (by decide)]; exact b2⟩, ⟨k.pol (y := th0 (va_up (ms y) 26 0, y.2) 0) (by decide) p1, p2⟩, ⟨(congrArg Prod.fst k.2.1.1).trans f1, (congrArg Prod.snd k.2.1.1).trans f2⟩, ⟨(k.all (by decide)).2.2.1 hB, mN_k k (by decide) hN⟩, hI⟩
theorem fdL_256 {L : List Nat} {w : Int64} {m : Nat} (h : ∀ j, L.getD j 0 < 256) : ∀ j, (L ++ fdL w m).getD j 0 < 256 := by
  intro j
  rw [List.getD_eq_getElem?_getD]
  rcases Nat.lt_or_ge j L.length with q | q
  · rw [List.getElem?_append_left q, ← List.getD_eq_getElem?_getD]; exact h j
  · rw [List.getElem?_append_right q]
    unfold fdL rmap
    rw [List.getElem?_map]
    cases (List.range m)[j - L.length]? with
    | none => exact (by decide : (0 : Nat) < 256)
    | some i => exact byt_lt w i
theorem RR.fed {x : DS} {y y' : MS} {w : Int64} {m : Nat} (h : RR x y) (hy : FED y y' (dF x ++ fdL w m)) : RR (x.1, x.2.1, x.2.2.1, (dW x, dF x ++ fdL w m), x.2.2.2.2) y' := by
  obtain ⟨⟨t1, t2⟩, ⟨r1, r2⟩, ⟨m0, m1, m2, m3⟩, ⟨b1, b2⟩, ⟨p1, p2⟩, ⟨f1, f2⟩, ⟨hB, hN⟩, hI⟩ := h
  obtain ⟨k, hb, -⟩ := hy
  exact ⟨⟨(k.1 2 (by decide)).trans t1, (k.2.2 1 (by decide)).trans t2⟩, ⟨(k.1 6 (by decide)).trans r1, by rw [(k.all (by decide)).1]; exact r2⟩, ⟨(k.1 0 (by decide)).trans m0, k.ml (by decide) m1, (k.1 24 (by decide)).trans m2, (k.1 25 (by decide)).trans m3⟩, ⟨by rw [k.2.2 15 (by decide), k.1 26 (by decide)]; exact b1, hb⟩, ⟨k.pol (by decide) p1, p2⟩, ⟨(congrArg Prod.fst k.2.1.1).trans f1, (congrArg Prod.snd k.2.1.1).trans f2⟩, ⟨(k.all (by decide)).2.2.1 hB, mN_k k (by decide) hN⟩, hI.1, hI.2.1, hI.2.2.1, fdL_256 hI.2.2.2⟩
theorem RR.rdN {x : DS} {y : MS} (h : RR x y) : RR (x.1, x.2.1, x.2.2.1, (dW x, []), x.2.2.2.2) (va_up (va_up (ms y) 1 1) 28 0, y.2) := by
  obtain ⟨⟨t1, t2⟩, ⟨r1, r2⟩, ⟨m0, m1, m2, m3⟩, ⟨b1, b2⟩, ⟨p1, p2⟩, ⟨f1, f2⟩, ⟨hB, hN⟩, hI⟩ := h
  exact ⟨⟨t1, t2⟩, ⟨r1, r2⟩, ⟨m0, m1, m2, m3⟩, ⟨b1, bL.nil _⟩, ⟨p1, p2⟩, ⟨f1, f2⟩, ⟨hB, hN⟩, hI.1, hI.2.1, hI.2.2.1, fun j => by show 0 < 256; decide⟩
theorem RR.ff {x : DS} {y : MS} (h : RR x y) : ms y 28 = (dF x).length ∧ ∀ j, j < (dF x).length → mA y 16 j = ffn x j := by
  obtain ⟨e1, e2⟩ := h.2.2.2.1.2
  exact ⟨e1, fun j hj => e2 j (by rw [e1]; exact hj)⟩
theorem RR.wf {x : DS} {y : MS} (h : RR x y) : WF (mA y 16) (ms y 28) ↔ WF (ffn x) (dF x).length := by
  obtain ⟨e1, e2⟩ := h.ff
  rw [e1]
  exact ⟨WF_c e2, WF_c (fun j hj => (e2 j hj).symm)⟩
theorem RR.rd {x : DS} {y y' : MS} (h : RR x y) (hW : WF (ffn x) (dF x).length) {p : Pol} (hp : RDP (ffn x) p) (k : Kp [1, 12, 13, 21, 28] [6, 7, 8, 9, 10] y y') (e21 : ms y' 21 = 0) (e28 : ms y' 28 = 0) {g rk : Nat → Nat} (hM : MP y' g rk) (hR : RDP (mA y 16) (mP y' g rk)) : RR (putD x p [] (dfa x)) y' ∧ pT p = mA y 16 0 := by
  have hff := h.ff
  obtain ⟨⟨t1, t2⟩, ⟨r1, r2⟩, ⟨m0, m1, m2, m3⟩, ⟨b1, b2⟩, ⟨p1, p2⟩, ⟨f1, f2⟩, ⟨hB, hN⟩, hI⟩ := h
  have hpe := RDP_u hW (fun j hj => (hff.2 j hj).symm) hp hR
  refine ⟨⟨⟨(k.1 2 (by decide)).trans t1, (k.2.2 1 (by decide)).trans t2⟩, ⟨(k.1 6 (by decide)).trans r1, by rw [(k.all (by decide)).1]; exact r2⟩, ⟨(k.1 0 (by decide)).trans m0, ⟨e21, fun j hj => absurd hj (Nat.not_lt_zero _)⟩, (k.1 24 (by decide)).trans m2, (k.1 25 (by decide)).trans m3⟩, ⟨by rw [k.2.2 15 (by decide), k.1 26 (by decide)]; exact b1, by rw [e28]; exact bL.nil _⟩, ⟨⟨g, hM.1, hpe.rk hM.2⟩, fun _ z => ?_⟩, ⟨(congrArg Prod.fst k.2.1.1).trans f1, (congrArg Prod.snd k.2.1.1).trans f2⟩, ⟨(k.all (by decide)).2.2.1 hB, mN_k k (by decide) hN⟩, hI.1, hI.2.1, fun j => (by show la [] j < 2 ^ 30; exact (la_mem (L := []) (by decide)).mpr (fun e he => by cases he) j), fun j => by show 0 < 256; decide⟩, ?_⟩
  · have a := hp.1.2
    have b := hW.1.2.2.1
    have z : pC p = 0 := z
    omega
  · rw [hp.1.1]; exact (hff.2 0 (by have := hW.1.1; omega)).symm
theorem RR.fa {x : DS} {y : MS} (h : RR x y) (v : Nat) (z : Int32) : RR (faD x z) (va_up (ms y) 1 v, (mpo y, z), y.2.2) := by
  obtain ⟨⟨t1, t2⟩, ⟨r1, r2⟩, ⟨m0, m1, m2, m3⟩, ⟨b1, b2⟩, ⟨p1, p2⟩, ⟨f1, f2⟩, ⟨hB, hN⟩, hI⟩ := h
  exact ⟨⟨t1, t2⟩, ⟨r1, r2⟩, ⟨m0, m1, m2, m3⟩, ⟨b1, b2⟩, ⟨p1, p2⟩, ⟨f1, rfl⟩, ⟨hB, hN⟩, hI⟩
theorem FA_c {n : Nat} {P R : Nat → Prop} (h : ∀ i, i < n → (P i ↔ R i)) {r : Option Nat} (x : (∀ i, r = some i → i < n ∧ P i ∧ ∀ j, j < i → ¬ P j) ∧ (r = none → ∀ j, j < n → ¬ P j)) : (∀ i, r = some i → i < n ∧ R i ∧ ∀ j, j < i → ¬ R j) ∧ (r = none → ∀ j, j < n → ¬ R j) := ⟨fun i hi => by
  obtain ⟨a, b, c⟩ := x.1 i hi
  exact ⟨a, (h i a).mp b, fun j hj z => c j hj ((h j (by omega)).mpr z)⟩, fun hr j hj z => x.2 hr j hj ((h j hj).mpr z)⟩
theorem RR.ac1 {x : DS} {y y' : MS} {v : Option Value} (h : RR x y) (hA : ACC y v y') {i : Nat} (hf : FW dSelf (dS x) (dm x) (some i)) : ms y' 1 = 1 ∧ RR (faD x (nI i)) y' := by
  have hw := h.tr.fw hf
  have e6 : ms y 6 = dm x := h.2.1.1
  rcases hA with ⟨j, a1, -, rfl⟩ | ⟨j, a1, -⟩ | ⟨a1, -⟩
  · rw [e6] at a1
    have := FW_u hw a1
    cases this
    exact ⟨rfl, h.fa 1 (nI i)⟩
  · rw [e6] at a1; exact absurd (FW_u hw a1) (by intro z; cases z)
  · rw [e6] at a1; exact absurd (FW_u hw a1) (by intro z; cases z)
theorem RR.fam {x : DS} {y : MS} (h : RR x y) {p : Pol} (hf : FW dSelf (dS x) (dm x) none) (hc : CP dSelf (dS x) (dm x) (dm x) p) {r r' : Option Nat} (ha : FA dSelf (dS x) (dm x) p r) (hm : FAm y r') : r = r' := by
  have e6 : ms y 6 = dm x := h.2.1.1
  have hH := h.H
  have tr := h.tr
  have hB := h.2.2.2.2.2.2.1.1
  have hN : NW mSelf (mS y) (ms y 6) := by rw [e6]; exact ((tr.fw hf).2 rfl).1
  have hc' : CP mSelf (mS y) (ms y 6) (ms y 6) p := by rw [e6]; exact tr.cp hc
  unfold FAm at hm
  rw [e6] at hm
  exact FA_u ha (FA_c (fun i hi => (agm_ag hB hH hN hc' (by rw [e6]; exact hi)).trans (by rw [e6]; exact (tr.agi hi).symm)) hm)
theorem RR.ac2 {x : DS} {y y' : MS} {v : Option Value} (h : RR x y) (hA : ACC y v y') {i : Nat} {p : Pol} (hf : FW dSelf (dS x) (dm x) none) (hc : CP dSelf (dS x) (dm x) (dm x) p) (ha : FA dSelf (dS x) (dm x) p (some i)) : ms y' 1 = 2 ∧ RR (faD x (nI i)) y' := by
  have hw := h.tr.fw hf
  have e6 : ms y 6 = dm x := h.2.1.1
  rcases hA with ⟨j, a1, -⟩ | ⟨j, a1, a2, -, rfl⟩ | ⟨a1, a2, -⟩
  · rw [e6] at a1; exact absurd (FW_u hw a1) (by intro z; cases z)
  · have := h.fam hf hc ha a2
    cases this
    exact ⟨rfl, h.fa 2 (nI i)⟩
  · exact absurd (h.fam hf hc ha a2) (by intro z; cases z)
theorem RR.ac3 {x : DS} {y y' : MS} {v : Option Value} (h : RR x y) (hA : ACC y v y') {p : Pol} (hf : FW dSelf (dS x) (dm x) none) (hc : CP dSelf (dS x) (dm x) (dm x) p) (ha : FA dSelf (dS x) (dm x) p none) : ms y' 1 = 0 ∧ v = some (.int (nI (pT p))) ∧ RR (putD x p (dF x) (-1)) y' := by
  have hw := h.tr.fw hf
  have e6 : ms y 6 = dm x := h.2.1.1
  have tr := h.tr
  rcases hA with ⟨j, a1, -⟩ | ⟨j, a1, a2, -⟩ | ⟨a1, a2, a3, k, e21, hN', g, rk, hM, hcm⟩
  · rw [e6] at a1; exact absurd (FW_u hw a1) (by intro z; cases z)
  · exact absurd (h.fam hf hc ha a2) (by intro z; cases z)
  · rw [e6] at hcm
    have hpe := CP_u (hw.2 rfl).1 (tr.cp hc) hcm
    have hC0 : pC p ≠ 0 := by rw [hc.1.2.1]; exact (hf.2 rfl).2.2
    obtain ⟨⟨t1, t2⟩, ⟨r1, r2⟩, ⟨m0, m1, m2, m3⟩, ⟨b1, b2⟩, ⟨p1, p2⟩, ⟨f1, f2⟩, ⟨hB, hN⟩, hI⟩ := h
    have e12 : pT p = ms y' 12 := hpe.1
    refine ⟨k.1 1 (by decide), by rw [a3, e12], ⟨(k.1 2 (by decide)).trans t1, (k.2.2 1 (by decide)).trans t2⟩, ⟨(k.1 6 (by decide)).trans r1, by rw [(k.all (by decide)).1]; exact r2⟩, ⟨(k.1 0 (by decide)).trans m0, ⟨e21, fun j hj => absurd hj (Nat.not_lt_zero _)⟩, (k.1 24 (by decide)).trans m2, (k.1 25 (by decide)).trans m3⟩, ⟨by rw [k.2.2 15 (by decide), k.1 26 (by decide)]; exact b1, by rw [k.2.2 16 (by decide), k.1 28 (by decide)]; exact b2⟩, ⟨⟨g, hM.1, hpe.rk hM.2⟩, fun _ => hC0⟩, ⟨(congrArg Prod.fst k.2.1.1).trans f1, (show mfa y' = (-1 : Int32) from (congrArg Prod.snd k.2.1.1).trans rfl)⟩, ⟨(k.all (by decide)).2.2.1 hB, hN'⟩, hI.1, hI.2.1, fun j => (by show la [] j < 2 ^ 30; exact (la_mem (L := []) (by decide)).mpr (fun e he => by cases he) j), hI.2.2.2⟩
theorem SR1.c {s s' s'' : Stm} (h : SR1 s s') (e : kd s'' = kd s' ∧ sz s'' = sz s' ∧ mk s'' = mk s') (hw : ∀ k, k < sz s' → wd s'' k = wd s' k) : SR1 s s'' := ⟨e.1.trans h.1, e.2.1.trans h.2.1, e.2.2.trans h.2.2.1, fun k hk => by rw [hw k (by rw [h.2.1]; exact hk)]; exact h.2.2.2 k hk⟩
theorem RW.row {a i : Nat} {y y' : MS} (h : RW a y y') (hB : mB y) (hi : i < a) {s : Stm} (x : SR1 s (mS y i)) : SR1 s (mS y' i) := x.c ⟨(h.2.1 i (by omega)).1, (h.2.1 i (by omega)).2.1, (h.2.1 i (by omega)).2.2⟩ (fun k hk => h.2.2.1 _ (Or.inl (by have := mS_sz hB i; omega)))
theorem RR.ad {x : DS} {y y2 : MS} (h : RR x y) (hb : dB x) (k : RW (ms y 6) y y2) (v : Nat) : RR (addD x) (va_up (va_up (ms y2) 1 v) 2 0, (addE x, mfa y2), y2.2.2) := by
  obtain ⟨⟨t1, t2⟩, ⟨r1, r2⟩, ⟨m0, m1, m2, m3⟩, ⟨b1, b2⟩, ⟨p1, p2⟩, ⟨f1, f2⟩, ⟨hB, hN⟩, hI⟩ := h
  have kk := k.1
  refine ⟨⟨rfl, (kk.2.2 1 (by decide)).trans t2⟩, ⟨(kk.1 6 (by decide)).trans r1, fun i hi => ?_⟩, ⟨(kk.1 0 (by decide)).trans m0, kk.ml (by decide) m1, (kk.1 24 (by decide)).trans m2, (kk.1 25 (by decide)).trans m3⟩, ⟨by show bL (mA y2 15) (ms y2 26) _; rw [kk.2.2 15 (by decide), kk.1 26 (by decide)]; exact b1, by show bL (mA y2 16) (ms y2 28) _; rw [kk.2.2 16 (by decide), kk.1 28 (by decide)]; exact b2⟩, ⟨kk.pol (by decide) p1, p2⟩, ⟨rfl, (congrArg Prod.snd kk.2.1.1).trans f2⟩, ⟨⟨k.2.2.2.1, Nat.zero_le _, k.2.2.2.2.2⟩, (show mN y2 from mN_k kk (by decide) hN)⟩, hI.1, fun i hi => ?_, hI.2.2⟩
  · have hi : i < dm x := hi
    show SR1 (va_up (dS x) (dm x) (aPs x).2.2 i) (mS y2 i)
    rw [show va_up (dS x) (dm x) (aPs x).2.2 i = dS x i from if_neg (by omega)]
    exact k.row hB (by omega) (r2 i hi)
  · have hi : i < dm x := hi
    show shp (va_up (dS x) (dm x) (aPs x).2.2 i)
    rw [show va_up (dS x) (dm x) (aPs x).2.2 i = dS x i from if_neg (by omega)]
    exact hI.2.1 i hi
theorem RR.mps {x : DS} {y : MS} (h : RR x y) : REL (aPs x) (mPs (mA y 1) (ms y 2) (wd (mS y (ms y 6)))) := by
  rw [h.1.1, h.1.2]
  exact rel_ps
theorem RR.ak {x : DS} {y y2 : MS} (h : RR x y) (hb : dB x) (hk9 : kd (dS x (dm x)) < 9) (k : RW (ms y 6) y y2) (h1 : (aPs x).1 = true) (h40 : dm x < 40) (hs : SR1 (aPs x).2.2 (mS y2 (ms y 6))) : RR (addK x) (va_up (va_up (va_up (ms y2) 1 0) 2 0) 6 (ms y 6 + 1), (-1, mfa y2), y2.2.2) := by
  obtain ⟨⟨t1, t2⟩, ⟨r1, r2⟩, ⟨m0, m1, m2, m3⟩, ⟨b1, b2⟩, ⟨p1, p2⟩, ⟨f1, f2⟩, ⟨hB, hN⟩, hI⟩ := h
  have kk := k.1
  have hok := (pPs_ok (t := dt x) (n := dn x) (s := dS x (dm x)) hb.1.1 hk9).2.2 h1
  have he : addE x = -1 := by unfold addE; rw [h1]; rfl
  refine ⟨⟨rfl, (kk.2.2 1 (by decide)).trans t2⟩, ⟨by show ms y 6 + 1 = dm x + 1; rw [r1], fun i hi => ?_⟩, ⟨(kk.1 0 (by decide)).trans m0, kk.ml (by decide) m1, (kk.1 24 (by decide)).trans m2, (kk.1 25 (by decide)).trans m3⟩, ⟨by show bL (mA y2 15) (ms y2 26) _; rw [kk.2.2 15 (by decide), kk.1 26 (by decide)]; exact b1, by show bL (mA y2 16) (ms y2 28) _; rw [kk.2.2 16 (by decide), kk.1 28 (by decide)]; exact b2⟩, ⟨kk.pol (by decide) p1, p2⟩, ⟨he.symm, (congrArg Prod.snd kk.2.1.1).trans f2⟩, ⟨⟨by show ms y 6 + 1 ≤ 40; omega, Nat.zero_le _, k.2.2.2.2.2⟩, (show mN y2 from mN_k kk (by decide) hN)⟩, hI.1, fun i hi => ?_, hI.2.2⟩
  · have hi : i < dm x + 1 := hi
    show SR1 (va_up (dS x) (dm x) (aPs x).2.2 i) (mS y2 i)
    rcases Nat.lt_or_ge i (dm x) with q | q
    · rw [show va_up (dS x) (dm x) (aPs x).2.2 i = dS x i from if_neg (by omega)]
      exact k.row hB (by omega) (r2 i q)
    · rw [show va_up (dS x) (dm x) (aPs x).2.2 i = (aPs x).2.2 from if_pos (by omega), show i = ms y 6 by omega]
      exact hs
  · have hi : i < dm x + 1 := hi
    show shp (va_up (dS x) (dm x) (aPs x).2.2 i)
    rcases Nat.lt_or_ge i (dm x) with q | q
    · rw [show va_up (dS x) (dm x) (aPs x).2.2 i = dS x i from if_neg (by omega)]
      exact hI.2.1 i q
    · rw [show va_up (dS x) (dm x) (aPs x).2.2 i = (aPs x).2.2 from if_pos (by omega)]
      exact hok
theorem DSK.k9 {G : EG} {h : EH} {D : Nat} {x : DS} (z : DSK G h D x) : kd (dS x (dm x)) < 9 := by
  obtain ⟨pa, ca, rp, wtk, wbr, wf, ftk, fbr, ff, q, -, -, -, -, hD, -⟩ := z
  have := hD.2.2.2
  exact (hD.2.2.1 (dm x) (by omega)).2
theorem RR.made {x : DS} {y : MS} (h : RR x y) (hb : dB x) {s t c : Nat} (hs : s < pT (dp x)) (ht : t < pT (dp x)) (hc : c < pC (dp x)) : mmk y (64 * c + 8 * s + t) = nI (pPr (dp x) (cel s t c)) - nI 1 := by
  obtain ⟨g, g1, g2⟩ := h.2.2.2.2.1.1
  have h8 := hb.2.1.1
  have e1 : pT (dp x) = ms y 12 := g2.1
  have e2 : pC (dp x) = ms y 13 := g2.2.1
  rw [cel_64, g1 _ (by unfold inC; rw [cel_S (by omega) (by omega), cel_T (by omega), cel_C (by omega) (by omega)]; omega), (g2.2.2.2.2.1 s t c hs ht hc).2]
  rfl
theorem RR.cnt {x : DS} {y : MS} (h : RR x y) (k : Int32) : cntM y k = cntR x k := by
  obtain ⟨g, g1, g2⟩ := h.2.2.2.2.1.1
  have e1 : pT (dp x) = ms y 12 := g2.1
  have e2 : pC (dp x) = ms y 13 := g2.2.1
  unfold cntM cntR
  rw [h.2.2.1.2.2.1, h.2.2.1.2.2.2, h.2.2.1.2.1.1, h.2.1.1, e1, e2]
theorem RR.T {x : DS} {y : MS} (h : RR x y) : pT (dp x) = ms y 12 ∧ pC (dp x) = ms y 13 := h.2.2.2.2.1.1.elim fun g z => ⟨z.2.1, z.2.2.1⟩
theorem RR.V {x : DS} {y : MS} (h : RR x y) (hb : dB x) : mV y := pol_V h.2.2.2.2.1.1 hb.2.1
theorem i_cut (m : Int32) {N : Nat} (hN : N < 2 ^ 30) : (∃ n, n ≤ N ∧ m = nI n) ∨ (m < 0 ∨ nI N < m) := by
  by_cases c : m < 0 ∨ nI N < m
  · exact Or.inr c
  · refine Or.inl ?_
    have h1 : ¬ m < 0 := fun z => c (Or.inl z)
    have h2 : ¬ nI N < m := fun z => c (Or.inr z)
    obtain ⟨j, j1, j2⟩ := inR.out (x := m) (n := N + 1) ⟨h1, fun z => h2 (by
      rw [Int32.le_iff_toInt_le, nI_toInt (by omega)] at z
      rw [Int32.lt_iff_toInt_lt, nI_toInt (by omega)]
      omega)⟩ (by omega)
    exact ⟨j, by omega, j2⟩
theorem i_feed (m : Int32) {F : Nat} (hF : F ≤ 420) : (∃ n, m = nI n ∧ 1 ≤ n ∧ n ≤ 8 ∧ F + n ≤ 420) ∨ ((m < nI 1 ∨ nI 8 < m ∨ nI (420 - F) < m) ∧ (m < nI 1 ∨ nI 8 < m ∨ ∃ n, m = nI n ∧ n ≤ 8 ∧ 420 < F + n)) := by
  rcases i_cut m (N := 8) (by decide) with ⟨n, n1, rfl⟩ | z | z
  · by_cases c1 : 1 ≤ n
    · by_cases c2 : F + n ≤ 420
      · exact Or.inl ⟨n, rfl, c1, n1, c2⟩
      · refine Or.inr ⟨Or.inr (Or.inr ?_), Or.inr (Or.inr ⟨n, rfl, n1, by omega⟩)⟩
        rw [Int32.lt_iff_toInt_lt, nI_toInt (by omega), nI_toInt (by omega)]
        omega
    · have : nI n < nI 1 := by rw [Int32.lt_iff_toInt_lt, nI_toInt (by omega), nI_toInt (by omega)]; omega
      exact Or.inr ⟨Or.inl this, Or.inl this⟩
  · have : m < nI 1 := by
      rw [Int32.lt_iff_toInt_lt] at z ⊢
      rw [nI_toInt (by omega)]
      have e : (0 : Int32).toInt = 0 := rfl
      omega
    exact Or.inr ⟨Or.inl this, Or.inl this⟩
  · exact Or.inr ⟨Or.inr (Or.inl z), Or.inr (Or.inl z)⟩
theorem RR.init {z : Int32} : RR (x0D (capN z)) (y0M (capN z)) := by
  refine ⟨⟨rfl, rfl⟩, ⟨rfl, fun i hi => absurd hi (Nat.not_lt_zero _)⟩, ⟨rfl, ⟨rfl, fun j hj => absurd hj (Nat.not_lt_zero _)⟩, rfl, rfl⟩, ⟨bL.nil _, bL.nil _⟩, ⟨⟨fun _ => 0, fun j hj => absurd hj.1 (Nat.not_lt_zero _), rfl, rfl, fun c hc => absurd hc (Nat.not_lt_zero _), fun t ht => absurd ht (Nat.not_lt_zero _), fun s t c hs => absurd hs (Nat.not_lt_zero _), fun c w hc => absurd hc (Nat.not_lt_zero _)⟩, fun z => absurd rfl z⟩, ⟨rfl, rfl⟩, ⟨⟨Nat.zero_le _, Nat.zero_le _, fun j => ⟨by show 0 < 9; decide, by show 0 ≤ 9; decide, by show 0 < 2 ^ 30; decide⟩⟩, fun j => ⟨by show 0 < 2 ^ 30; decide, by show 0 < 2 ^ 30; decide⟩⟩, fun j => by show 0 < 128; decide, fun i hi => absurd hi (Nat.not_lt_zero _), fun j => (by show la [] j < 2 ^ 30; exact (la_mem (L := []) (by decide)).mpr (fun e he => by cases he) j), fun j => by show 0 < 256; decide⟩
