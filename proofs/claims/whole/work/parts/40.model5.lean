/-! THE MODEL: a draft is put together -/
/-- all but the named fields and arrays are as before -/
def Kp (FS AS : List Nat) (y y' : MS) : Prop := (∀ f, f ∉ FS → ms y' f = ms y f) ∧ (y'.2.1 = y.2.1 ∧ (9 ∉ AS → mmk y' = mmk y)) ∧ ∀ i, i ∉ AS → mA y' i = mA y i
theorem Kp.rf {FS AS : List Nat} {y : MS} : Kp FS AS y y := ⟨fun _ _ => rfl, ⟨rfl, fun _ => rfl⟩, fun _ _ => rfl⟩
theorem Kp.tr {FS AS : List Nat} {a b c : MS} (h : Kp FS AS a b) (h' : Kp FS AS b c) : Kp FS AS a c := ⟨fun f hf => (h'.1 f hf).trans (h.1 f hf), ⟨h'.2.1.1.trans h.2.1.1, fun z => (h'.2.1.2 z).trans (h.2.1.2 z)⟩, fun i hi => (h'.2.2 i hi).trans (h.2.2 i hi)⟩
theorem Kp.wk {FS AS FS' AS' : List Nat} {a b : MS} (h : Kp FS AS a b) (h1 : ∀ f, f ∈ FS → f ∈ FS') (h2 : ∀ f, f ∈ AS → f ∈ AS') : Kp FS' AS' a b := ⟨fun f hf => h.1 f (fun z => hf (h1 f z)), ⟨h.2.1.1, fun z => h.2.1.2 (fun w => z (h2 9 w))⟩, fun i hi => h.2.2 i (fun z => hi (h2 i z))⟩
theorem Kp.up {FS AS : List Nat} {a b : MS} (h : Kp FS AS a b) {i k v : Nat} (hi : i ∈ AS) : Kp FS AS a (mUp b i k v) := ⟨h.1, h.2.1, fun j hj => (mUp_ne (j := j) (i := i) (fun z => hj (by rw [z]; exact hi))).trans (h.2.2 j hj)⟩
theorem Kp.um {FS AS : List Nat} {a b : MS} (h : Kp FS AS a b) (hi : 9 ∈ AS) {k : Nat} {v : Int32} : Kp FS AS a (mUm b k v) := ⟨h.1, ⟨h.2.1.1, fun z => absurd hi z⟩, h.2.2⟩
theorem Kp.fd {FS AS : List Nat} {a b : MS} (h : Kp FS AS a b) {f v : Nat} (hf : f ∈ FS) : Kp FS AS a (va_up (ms b) f v, b.2) := ⟨fun g hg => (if_neg (show ¬ g = f from fun z => hg (by rw [z]; exact hf))).trans (h.1 g hg), h.2.1, h.2.2⟩
theorem Kp.all {FS AS : List Nat} {a b : MS} (h : Kp FS AS a b) (hd : (6 ∉ FS ∧ 2 ∉ FS) ∧ 2 ∉ AS ∧ 3 ∉ AS ∧ 4 ∉ AS ∧ 5 ∉ AS) : mS b = mS a ∧ ms b 6 = ms a 6 ∧ (mB a → mB b) ∧ (mH a → mH b) := by
  have e : mS b = mS a := by unfold mS; rw [h.2.2 2 hd.2.1, h.2.2 3 hd.2.2.1, h.2.2 4 hd.2.2.2.1, h.2.2 5 hd.2.2.2.2]
  have e6 := h.1 6 hd.1.1
  refine ⟨e, e6, fun hB => ?_, fun hH => ?_⟩
  · unfold mB; rw [e6, h.1 2 hd.1.2, h.2.2 2 hd.2.1, h.2.2 3 hd.2.2.1, h.2.2 4 hd.2.2.2.1]; exact hB
  · unfold mH; rw [e6, e]; exact hH
theorem MD.ob' {G : EG} {h : EH} {M : Nat} {y : MS} (x : MD G h M y) (σ : Nat → Nat) (po fa : Int32) {e : va_E} (he : e = mOb M σ po fa) : MD G (hup h M e) M (σ, (po, fa), y.2.2) := he ▸ x.ob σ po fa
theorem nI_prd (u : Nat) : nI (u + 1) - nI 1 = nI u := pk_sub (Nat.le_add_left 1 u)
/-- the policy that the model holds (what it makes as the class counts it, ranks of its types) -/
def mP (y : MS) (g rk : Nat → Nat) : Pol := (ms y 12, ms y 13, mA y 6, rk, mA y 8, g, mA y 10)
def inC (y : MS) (j : Nat) : Prop := cS j < ms y 12 ∧ cT j < ms y 12 ∧ cC j < ms y 13
def MP (y : MS) (g rk : Nat → Nat) : Prop := (∀ j, inC y j → mmk y j = nI (g j) - nI 1) ∧ ∀ j, j < ms y 12 → rk j = mA y 7 j
def mN (y : MS) : Prop := ∀ j, mA y 11 j < 2 ^ 30 ∧ mA y 12 j < 2 ^ 30
def NC (S : Nat → Stm) (n : Nat) (y : MS) : Prop := (∀ i, i < n → kd (S i) = 1 → mA y 11 (cntk S 1 i) = wd (S i) 0) ∧ (∀ i, i < n → kd (S i) = 0 → mA y 12 (cntk S 0 i) = wd (S i) 0) ∧ mN y
theorem cnt_sur {S : Nat → Stm} {κ : Nat} : ∀ {n j : Nat}, j < cntk S κ n → ∃ i, i < n ∧ kd (S i) = κ ∧ cntk S κ i = j := by
  intro n
  induction n with
  | zero => intro j h; exact absurd h (Nat.not_lt_zero _)
  | succ n ih =>
    intro j h
    by_cases hk : kd (S n) = κ
    · rw [cntk_y hk] at h
      rcases Nat.lt_or_ge j (cntk S κ n) with q | q
      · obtain ⟨i, i1, i2⟩ := ih q; exact ⟨i, by omega, i2⟩
      · exact ⟨n, by omega, hk, by omega⟩
    · rw [cntk_n hk] at h
      obtain ⟨i, i1, i2⟩ := ih h
      exact ⟨i, by omega, i2⟩
theorem nc_cl {y : MS} (hB : mB y) (hH : mH y) (hN : NW mSelf (mS y) (ms y 6)) (hC : NC (mS y) (ms y 6) y) {x c : Nat} (h : nof (mS y) 0 x (ms y 6) = some c) : c < 3 ∧ mA y 12 c = x ∧ ∀ j, j < c → mA y 12 j ≠ x := by
  obtain ⟨k, k1, k2, k3, k4⟩ := nof_sp h
  have hk := cntk_lt k1 k2
  have h3 := cnt3 hN _ (Nat.le_refl _)
  have hw := wo_wd (hH.s1 hB k1)
  refine ⟨by omega, by rw [← k4, hC.2.1 k k1 k2, ← hw]; exact k3, fun j hj e => ?_⟩
  obtain ⟨i, i1, i2, i3⟩ := cnt_sur (S := mS y) (κ := 0) (n := k) (j := j) (by omega)
  have e1 := hC.2.1 i (by omega) i2
  rw [i3, e] at e1
  exact hN k k1 ((isWr0 k2).mpr (Or.inl ((rep_1 k2).mpr ⟨i, i1, i2, by rw [wo_wd (hH.s1 hB (by omega)), ← e1]; exact k3.symm⟩)))
theorem nc_ty {y : MS} (hB : mB y) (hH : mH y) (hN : NW mSelf (mS y) (ms y 6)) (hC : NC (mS y) (ms y 6) y) {x c : Nat} (h : nof (mS y) 1 x (ms y 6) = some c) : c < 8 ∧ mA y 11 c = x ∧ ∀ j, j < c → mA y 11 j ≠ x := by
  obtain ⟨k, k1, k2, k3, k4⟩ := nof_sp h
  have hk := cntk_lt k1 k2
  have h3 := cnt8 hN _ (Nat.le_refl _)
  have hw := wo_wd (hH.s1 hB k1)
  refine ⟨by omega, by rw [← k4, hC.1 k k1 k2, ← hw]; exact k3, fun j hj e => ?_⟩
  obtain ⟨i, i1, i2, i3⟩ := cnt_sur (S := mS y) (κ := 1) (n := k) (j := j) (by omega)
  have e1 := hC.1 i (by omega) i2
  rw [i3, e] at e1
  exact hN k k1 ((isWr1 k2).mpr (Or.inl ((rep_1 k2).mpr ⟨i, i1, i2, by rw [wo_wd (hH.s1 hB (by omega)), ← e1]; exact k3.symm⟩)))
theorem msk_m {y : MS} (hB : mB y) (hH : mH y) (hN : NW mSelf (mS y) (ms y 6)) {s m : Nat} (hm : m < sz (mS y s)) (b : Nat) : mskm y s (m + 1) (wd (mS y s) m) b ↔ msk (mS y) (ms y 6) s m b := by
  constructor
  · rintro ⟨r, j, z1, z2, z3, z4, z5, z6, z7, z8⟩
    have ha : alld (mS y r) 1 := Classical.byContradiction fun q => hN r z1 ((isWr0 z2).mpr (Or.inr (Or.inl q)))
    refine ⟨r, z2, by rw [wo_wd (hH.s1 hB z1), wo_wd hm]; exact z3, j, z6, z7, ?_, Or.inl z1⟩
    rw [wo_wd z7]
    obtain ⟨k, hk⟩ := fnd_ex (ws := wd (mS y r)) (x := wd (mS y s) j) (j := 1) (r := sz (mS y r) - 1) (i := b + 1) z4 (by omega) z8
    obtain ⟨f1, f2, f3, f4⟩ := fnd_some hk
    rw [hk]
    congr 1
    rcases Nat.lt_trichotomy k (b + 1) with q | q | q
    · exact absurd (f3.trans z8.symm) (ha k (b + 1) f1 q z5)
    · exact q
    · exact absurd z8 (f4 (b + 1) z4 q)
  · rintro ⟨r, z2, z3, j, z6, z7, z8, z9⟩
    have z1 : r < ms y 6 := by omega
    rw [wo_wd (hH.s1 hB z1), wo_wd hm] at z3
    rw [wo_wd z7] at z8
    obtain ⟨f1, f2, f3, -⟩ := fnd_some z8
    exact ⟨r, j, z1, z2, z3, f1, by omega, z6, z7, f3⟩
def BZ (y : MS) (a b : Nat) : Prop := (∀ j, j < a → mA y 8 j = 0 ∧ mmk y j = -1) ∧ ∀ j, j < b → mA y 10 j = 0
theorem BZ.a {y : MS} {k : Nat} (h : BZ y k 0) : BZ (mUm (mUp y 8 k 0) k (-1)) (k + 1) 0 := by
  refine ⟨fun j hj => ⟨?_, ?_⟩, fun j hj => by omega⟩
  · show va_up (mA y 8) k 0 j = 0
    unfold va_up
    by_cases e : j = k
    · rw [if_pos e]
    · rw [if_neg e]; exact (h.1 j (by omega)).1
  · show upd (mmk y) k (-1) j = -1
    unfold upd
    by_cases e : j = k
    · rw [if_pos e]
    · rw [if_neg e]; exact (h.1 j (by omega)).2
theorem BZ.b {y : MS} {k : Nat} (h : BZ y 192 k) : BZ (mUp y 10 k 0) 192 (k + 1) := by
  refine ⟨h.1, fun j hj => ?_⟩
  show va_up (mA y 10) k 0 j = 0
  unfold va_up
  by_cases e : j = k
  · rw [if_pos e]
  · rw [if_neg e]; exact h.2 j (by omega)
def B3 (S : Nat → Stm) (y : MS) (k : Nat) : Prop := (ms y 12 = cntk S 1 k ∧ ms y 13 = cntk S 0 k) ∧ (∀ j, j < cntk S 1 k → mA y 7 j = 0) ∧ (∀ i, i < k → kd (S i) = 0 → mA y 6 (cntk S 0 i) = sz (S i) - 1 ∧ mA y 12 (cntk S 0 i) = wd (S i) 0) ∧ (∀ i, i < k → kd (S i) = 1 → mA y 11 (cntk S 1 i) = wd (S i) 0) ∧ mN y
theorem up_lt {f : Nat → Nat} {k v : Nat} {B : Nat} (h : ∀ j, f j < B) (hv : v < B) (j : Nat) : va_up f k v j < B := by unfold va_up; split; exact hv; exact h j
theorem B3.ty {S : Nat → Stm} {y : MS} {k : Nat} (h : B3 S y k) (hk : kd (S k) = 1) (hw : wd (S k) 0 < 2 ^ 30) : B3 S (va_up (ms y) 12 (ms y 12 + 1), (mUp (mUp y 11 (ms y 12) (wd (S k) 0)) 7 (ms y 12) 0).2) (k + 1) := by
  obtain ⟨⟨h1, h2⟩, h3, h4, h5, h6⟩ := h
  refine ⟨⟨by rw [cntk_y hk, ← h1]; rfl, by rw [cntk_n (by omega), ← h2]; rfl⟩, fun j hj => ?_, fun i hi hi0 => ?_, fun i hi hi1 => ?_, fun j => ⟨up_lt (fun j => (h6 j).1) hw j, (h6 j).2⟩⟩
  · show va_up (mA y 7) (ms y 12) 0 j = 0
    unfold va_up
    by_cases e : j = ms y 12
    · rw [if_pos e]
    · rw [if_neg e]; rw [cntk_y hk] at hj; exact h3 j (by omega)
  · exact h4 i (Nat.lt_of_le_of_ne (by omega) (fun e => by rw [e] at hi0; omega)) hi0
  · show va_up (mA y 11) (ms y 12) (wd (S k) 0) (cntk S 1 i) = _
    unfold va_up
    rcases Nat.lt_or_ge i k with q | q
    · rw [if_neg (by rw [h1]; have := cntk_lt q hi1; omega)]; exact h5 i q hi1
    · rw [show i = k by omega, if_pos h1.symm]
theorem B3.cl {S : Nat → Stm} {y : MS} {k : Nat} (h : B3 S y k) (hk : kd (S k) = 0) (hw : wd (S k) 0 < 2 ^ 30) : B3 S (va_up (ms y) 13 (ms y 13 + 1), (mUp (mUp y 12 (ms y 13) (wd (S k) 0)) 6 (ms y 13) (sz (S k) - 1)).2) (k + 1) := by
  obtain ⟨⟨h1, h2⟩, h3, h4, h5, h6⟩ := h
  refine ⟨⟨by rw [cntk_n (by omega), ← h1]; rfl, by rw [cntk_y hk, ← h2]; rfl⟩, fun j hj => ?_, fun i hi hi0 => ⟨?_, ?_⟩, fun i hi hi1 => ?_, fun j => ⟨(h6 j).1, up_lt (fun j => (h6 j).2) hw j⟩⟩
  · rw [cntk_n (by omega)] at hj; exact h3 j hj
  · show va_up (mA y 6) (ms y 13) (sz (S k) - 1) (cntk S 0 i) = _
    unfold va_up
    rcases Nat.lt_or_ge i k with q | q
    · rw [if_neg (by rw [h2]; have := cntk_lt q hi0; omega)]; exact (h4 i q hi0).1
    · rw [show i = k by omega, if_pos h2.symm]
  · show va_up (mA y 12) (ms y 13) (wd (S k) 0) (cntk S 0 i) = _
    unfold va_up
    rcases Nat.lt_or_ge i k with q | q
    · rw [if_neg (by rw [h2]; have := cntk_lt q hi0; omega)]; exact (h4 i q hi0).2
    · rw [show i = k by omega, if_pos h2.symm]
  · exact h5 i (Nat.lt_of_le_of_ne (by omega) (fun e => by rw [e] at hi1; omega)) hi1
theorem B3.no {S : Nat → Stm} {y : MS} {k : Nat} (h : B3 S y k) (h1 : kd (S k) ≠ 1) (h0 : kd (S k) ≠ 0) : B3 S y (k + 1) := by
  obtain ⟨⟨a1, a2⟩, h3, h4, h5, h6⟩ := h
  refine ⟨⟨by rw [cntk_n h1, ← a1]; rfl, by rw [cntk_n h0, ← a2]; rfl⟩, fun j hj => by rw [cntk_n h1] at hj; exact h3 j hj, fun i hi q => h4 i (Nat.lt_of_le_of_ne (by omega) (fun e => by rw [e] at q; omega)) q, fun i hi q => h5 i (Nat.lt_of_le_of_ne (by omega) (fun e => by rw [e] at q; omega)) q, h6⟩
set_option maxHeartbeats 4000000 in
set_option maxRecDepth 100000 in
theorem l_bg3 {G : EG} {l : Launch} {h0 : EH} {M : Nat} {y0 : MS} (hB : mB y0) (hH : mH y0) (hN : NW mSelf (mS y0) (ms y0 6)) : ∀ (f k : Nat), ms y0 6 - k < f → k ≤ ms y0 6 → ∀ (h : EH) (y : MS), MD G h M y → Kp [12, 13] [6, 7, 8, 9, 10, 11, 12] y0 y → BZ y 192 15 → B3 (mS y0) y k → Fr (atN M) h0 h → Ex G l 1 mX12_begin (fun v h' => v = none ∧ ∃ y', MD G h' M y' ∧ Kp [12, 13] [6, 7, 8, 9, 10, 11, 12] y0 y' ∧ DC (mS y0) (ms y0 6) (mP y' (fun _ => 0) (fun _ => 0)) ∧ MP y' (fun _ => 0) (fun _ => 0) ∧ NC (mS y0) (ms y0 6) y' ∧ Fr (atN M) h0 h') eNoX 0 0 62 [(0, .ref M), (1, .int (nI (k)))] [] h := by
  intro f
  induction f with
  | zero =>
    intro k h1 h2 h y hM hK hZ h3 hF
    omega
  | succ f ih =>
    intro k h1 h2 h y hM hK hZ h3 hF
    have k2 : h.2 (M + 2) = some (.inl (eA G 0, 41, .inl (fun j => nI (mA y 2 j)))) := hM.2 2 (by decide) (by decide)
    have k3 : h.2 (M + 3) = some (.inl (eA G 0, 41, .inl (fun j => nI (mA y 3 j)))) := hM.2 3 (by decide) (by decide)
    have k6 : h.2 (M + 6) = some (.inl (eA G 0, 3, .inl (fun j => nI (mA y 6 j)))) := hM.2 6 (by decide) (by decide)
    have k7 : h.2 (M + 7) = some (.inl (eA G 0, 8, .inl (fun j => nI (mA y 7 j)))) := hM.2 7 (by decide) (by decide)
    have k11 : h.2 (M + 11) = some (.inl (eA G 0, 8, .inl (fun j => nI (mA y 11 j)))) := hM.2 11 (by decide) (by decide)
    have k12 : h.2 (M + 12) = some (.inl (eA G 0, 3, .inl (fun j => nI (mA y 12 j)))) := hM.2 12 (by decide) (by decide)
    have hn := hB.1
    obtain ⟨eS, e6, hB1, -⟩ := hK.all (by decide)
    have hB' := hB1 hB
    have hkk : mA y 2 k < 9 := (hB'.2.2 k).1
    have hk2 : mA y 2 k = kd (mS y0 k) := by rw [← eS]; rfl
    have hs2 : mA y 3 k = sz (mS y0 k) := by rw [← eS]; rfl
    have hs1 : k < ms y0 6 → 1 ≤ mA y 3 k := fun z => by rw [hs2]; exact hH.s1 hB z
    have hs9 : mA y 3 k ≤ 9 := (hB'.2.2 k).2.1
    have hww := mS_wd hB k 0
    have hwe : wd (mS y k) 0 = wd (mS y0 k) 0 := by rw [eS]
    have x8 := cnt8 hN (ms y0 6) (Nat.le_refl _)
    have x3 := cnt3 hN (ms y0 6) (Nat.le_refl _)
    have l8 : k < ms y0 6 → kd (mS y0 k) = 1 → ms y 12 < 8 := fun a b => by have := cntk_lt a b; rw [h3.1.1]; omega
    have l3 : k < ms y0 6 → kd (mS y0 k) = 0 → ms y 13 < 3 := fun a b => by have := cntk_lt a b; rw [h3.1.2]; omega
    refine ex_iload_n rfl dX12_begin_62 ?_
    refine ex_aload_n rfl dX12_begin_63 ?_
    refine ex_get dX12_begin_64 gf_X12_107 hM.1 rfl ?_
    refine ex_icmpN_ge (tgt := 175) (by decide) dX12_begin_67 (by first | omega | exact hs1 (by omega)) (by first | omega | exact hs1 (by omega)) (fun c1 => ?_) (fun c1 => ?_)
    · refine ex_vret dX12_begin_175 rfl ⟨rfl, y, hM, hK, (have ek : k = ms y0 6 := (by omega); ⟨⟨(by rw [← ek]; exact h3.1.1), (by rw [← ek]; exact h3.1.2), fun i hi h0 => (h3.2.2.1 i (by omega) h0).1⟩, fun _ _ => rfl, fun j hj => (hZ.1 j hj).1, fun _ _ => rfl, fun j hj => hZ.2 j hj⟩), ⟨fun j hj => by rw [(hZ.1 j (by have q := hj.2.2; rw [h3.1.2, show k = ms y0 6 by omega] at q; unfold cC at q; omega)).2]; show (-1 : Int32) = nI 0 - nI 1; decide, fun j hj => (h3.2.1 j (by rw [← h3.1.1]; exact hj)).symm⟩, ⟨fun i hi h1 => h3.2.2.2.1 i (by omega) h1, fun i hi h0 => (h3.2.2.1 i (by omega) h0).2, h3.2.2.2.2⟩, hF⟩
    · refine ex_aload_n rfl dX12_begin_70 ?_
      refine ex_get dX12_begin_71 gf_X12_17 hM.1 rfl ?_
      refine ex_iload_n rfl dX12_begin_74 ?_
      refine ex_ialdN dX12_begin_75 k2 (by first | omega | exact hs1 (by omega)) (by decide) ?_
      refine ex_iconst (v := (nI 1)) (by decide) dX12_begin_76 ?_
      refine ex_icmpN_ne (tgt := 118) (by decide) dX12_begin_77 (by first | omega | exact hs1 (by omega)) (by first | omega | exact hs1 (by omega)) (fun c2 => ?_) (fun c2 => ?_)
      · refine ex_aload_n rfl dX12_begin_118 ?_
        refine ex_get dX12_begin_119 gf_X12_17 hM.1 rfl ?_
        refine ex_iload_n rfl dX12_begin_122 ?_
        refine ex_ialdN dX12_begin_123 k2 (by first | omega | exact hs1 (by omega)) (by decide) ?_
        refine ex_ifN_ne (tgt := 169) (by decide) dX12_begin_124 (by first | omega | exact hs1 (by omega)) (fun c3 => ?_) (fun c3 => ?_)
        · refine ex_iincN (z := 1) rfl (by decide) rfl dX12_begin_169 ?_
          refine ex_goto (tgt := 62) (by decide) dX12_begin_172 ?_
          exact ih (k + 1) (by omega) (by omega) _ _ hM hK hZ (h3.no (by omega) (by omega)) hF
        · refine ex_aload_n rfl dX12_begin_127 ?_
          refine ex_get dX12_begin_128 gf_X12_51 hM.1 rfl ?_
          refine ex_aload_n rfl dX12_begin_131 ?_
          refine ex_get dX12_begin_132 gf_X12_175 hM.1 rfl ?_
          refine ex_aload_n rfl dX12_begin_135 ?_
          refine ex_iload_n rfl dX12_begin_136 ?_
          refine ex_iconst (v := (nI 0)) (by decide) dX12_begin_137 ?_
          refine ex_invv (k := 0) (n := 0) (mc' := 0) (ms' := 0) (As := [_, _]) dX12_begin_138 cv_X12_124 (by decide) (Nat.le_of_ble_eq_true rfl) (Or.inl ⟨_, _, _, _, hM.1, rfl⟩) (t_nameAt hM (s := k) (k := 0) (by omega) (by omega)) (fun v h' q => ?_)
          obtain ⟨rfl, rfl⟩ := q
          refine ex_iastN dX12_begin_141 k12 (l3 (by omega) (by omega)) (by decide) ?_
          refine ex_aload_n rfl dX12_begin_142 ?_
          refine ex_get dX12_begin_143 gf_X12_33 (hup_ne (by omega) hM.1) rfl ?_
          refine ex_aload_n rfl dX12_begin_146 ?_
          refine ex_get dX12_begin_147 gf_X12_175 (hup_ne (by omega) hM.1) rfl ?_
          refine ex_aload_n rfl dX12_begin_150 ?_
          refine ex_get dX12_begin_151 gf_X12_21 (hup_ne (by omega) hM.1) rfl ?_
          refine ex_iload_n rfl dX12_begin_154 ?_
          refine ex_ialdN dX12_begin_155 (hup_ne (by omega) k3) (by first | omega | exact hs1 (by omega)) (by decide) ?_
          refine ex_iconst (v := (nI 1)) (by decide) dX12_begin_156 ?_
          refine ex_isubN (by first | omega | exact hs1 (by omega)) dX12_begin_157 ?_
          refine ex_iastN dX12_begin_158 (hup_ne (by omega) k6) (l3 (by omega) (by omega)) (by decide) ?_
          refine ex_aload_n rfl dX12_begin_159 ?_
          refine ex_dup rfl dX12_begin_160 ?_
          refine ex_get dX12_begin_161 gf_X12_175 (hup_ne (by omega) (hup_ne (by omega) hM.1)) rfl ?_
          refine ex_iconst (v := (nI 1)) (by decide) dX12_begin_164 ?_
          refine ex_iaddN dX12_begin_165 ?_
          refine ex_put dX12_begin_166 pf_X12_175 (hup_ne (by omega) (hup_ne (by omega) hM.1)) (Nat.le_of_ble_eq_true rfl) rfl rfl ?_
          refine ex_iincN (z := 1) rfl (by decide) rfl dX12_begin_169 ?_
          refine ex_goto (tgt := 62) (by decide) dX12_begin_172 ?_
          rw [hwe, hs2]
          exact ih (k + 1) (by omega) (by omega) _ _ (((hM.st 12 (ms y 13) (wd (mS y0 k) 0) (by decide) (by decide)).st 6 (ms y 13) (sz (mS y0 k) - 1) (by decide) (by decide)).ob' (va_up (ms y) 13 (ms y 13 + 1)) (mpo y) (mfa y) rfl) (((hK.up (by decide)).up (by decide)).fd (by decide)) hZ (h3.cl (by omega) hww) (((hF.up ⟨by omega, by omega⟩).up ⟨by omega, by omega⟩).up ⟨by omega, by omega⟩)
      · refine ex_aload_n rfl dX12_begin_80 ?_
        refine ex_get dX12_begin_81 gf_X12_48 hM.1 rfl ?_
        refine ex_aload_n rfl dX12_begin_84 ?_
        refine ex_get dX12_begin_85 gf_X12_172 hM.1 rfl ?_
        refine ex_aload_n rfl dX12_begin_88 ?_
        refine ex_iload_n rfl dX12_begin_89 ?_
        refine ex_iconst (v := (nI 0)) (by decide) dX12_begin_90 ?_
        refine ex_invv (k := 0) (n := 0) (mc' := 0) (ms' := 0) (As := [_, _]) dX12_begin_91 cv_X12_124 (by decide) (Nat.le_of_ble_eq_true rfl) (Or.inl ⟨_, _, _, _, hM.1, rfl⟩) (t_nameAt hM (s := k) (k := 0) (by omega) (by omega)) (fun v h' q => ?_)
        obtain ⟨rfl, rfl⟩ := q
        refine ex_iastN dX12_begin_94 k11 (l8 (by omega) (by omega)) (by decide) ?_
        refine ex_aload_n rfl dX12_begin_95 ?_
        refine ex_get dX12_begin_96 gf_X12_36 (hup_ne (by omega) hM.1) rfl ?_
        refine ex_aload_n rfl dX12_begin_99 ?_
        refine ex_get dX12_begin_100 gf_X12_172 (hup_ne (by omega) hM.1) rfl ?_
        refine ex_iconst (v := (nI 0)) (by decide) dX12_begin_103 ?_
        refine ex_iastN dX12_begin_104 (hup_ne (by omega) k7) (l8 (by omega) (by omega)) (by decide) ?_
        refine ex_aload_n rfl dX12_begin_105 ?_
        refine ex_dup rfl dX12_begin_106 ?_
        refine ex_get dX12_begin_107 gf_X12_172 (hup_ne (by omega) (hup_ne (by omega) hM.1)) rfl ?_
        refine ex_iconst (v := (nI 1)) (by decide) dX12_begin_110 ?_
        refine ex_iaddN dX12_begin_111 ?_
        refine ex_put dX12_begin_112 pf_X12_172 (hup_ne (by omega) (hup_ne (by omega) hM.1)) (Nat.le_of_ble_eq_true rfl) rfl rfl ?_
        refine ex_goto (tgt := 169) (by decide) dX12_begin_115 ?_
        refine ex_iincN (z := 1) rfl (by decide) rfl dX12_begin_169 ?_
        refine ex_goto (tgt := 62) (by decide) dX12_begin_172 ?_
        rw [hwe]
        exact ih (k + 1) (by omega) (by omega) _ _ (((hM.st 11 (ms y 12) (wd (mS y0 k) 0) (by decide) (by decide)).st 7 (ms y 12) 0 (by decide) (by decide)).ob' (va_up (ms y) 12 (ms y 12 + 1)) (mpo y) (mfa y) rfl) (((hK.up (by decide)).up (by decide)).fd (by decide)) hZ (h3.ty (by omega) hww) (((hF.up ⟨by omega, by omega⟩).up ⟨by omega, by omega⟩).up ⟨by omega, by omega⟩)
set_option maxHeartbeats 4000000 in
set_option maxRecDepth 100000 in
theorem l_bg2 {G : EG} {l : Launch} {h0 : EH} {M : Nat} {y0 : MS} (hB : mB y0) (hH : mH y0) (hN : NW mSelf (mS y0) (ms y0 6)) : ∀ (f k : Nat), 15 - k < f → k ≤ 15 → ∀ (h : EH) (y : MS), MD G h M y → Kp [12, 13] [6, 7, 8, 9, 10, 11, 12] y0 y → BZ y 192 k → ms y 12 = 0 ∧ ms y 13 = 0 → mN y → Fr (atN M) h0 h → Ex G l 1 mX12_begin (fun v h' => v = none ∧ ∃ y', MD G h' M y' ∧ Kp [12, 13] [6, 7, 8, 9, 10, 11, 12] y0 y' ∧ DC (mS y0) (ms y0 6) (mP y' (fun _ => 0) (fun _ => 0)) ∧ MP y' (fun _ => 0) (fun _ => 0) ∧ NC (mS y0) (ms y0 6) y' ∧ Fr (atN M) h0 h') eNoX 0 0 41 [(0, .ref M), (1, .int (nI (k)))] [] h := by
  intro f
  induction f with
  | zero =>
    intro k h1 h2 h y hM hK hZ h3 hY hF
    omega
  | succ f ih =>
    intro k h1 h2 h y hM hK hZ h3 hY hF
    have k10 : h.2 (M + 10) = some (.inl (eA G 0, 15, .inl (fun j => nI (mA y 10 j)))) := hM.2 10 (by decide) (by decide)
    refine ex_iload_n rfl dX12_begin_41 ?_
    refine ex_bipush (v := (nI 15)) (by decide) dX12_begin_42 ?_
    refine ex_icmpN_ge (tgt := 60) (by decide) dX12_begin_44 (by omega) (by omega) (fun c1 => ?_) (fun c1 => ?_)
    · refine ex_iconst (v := (nI 0)) (by decide) dX12_begin_60 ?_
      refine ex_istore_n (by decide) rfl dX12_begin_61 ?_
      exact ex_lv [(0, .ref M), (1, .int (nI (0)))] ⟨rfl, rfl, trivial⟩ (l_bg3 hB hH hN (ms y0 6 + 1) 0 (by omega) (by omega) _ _ hM hK (by rw [show (15 : Nat) = k by omega]; exact hZ) ⟨h3, fun j hj => absurd hj (Nat.not_lt_zero _), fun i hi => absurd hi (Nat.not_lt_zero _), fun i hi => absurd hi (Nat.not_lt_zero _), hY⟩ hF)
    · refine ex_aload_n rfl dX12_begin_47 ?_
      refine ex_get dX12_begin_48 gf_X12_45 hM.1 rfl ?_
      refine ex_iload_n rfl dX12_begin_51 ?_
      refine ex_iconst (v := (nI 0)) (by decide) dX12_begin_52 ?_
      refine ex_iastN dX12_begin_53 k10 (by omega) (by decide) ?_
      refine ex_iincN (z := 1) rfl (by decide) rfl dX12_begin_54 ?_
      refine ex_goto (tgt := 41) (by decide) dX12_begin_57 ?_
      exact ih (k + 1) (by omega) (by omega) _ _ (hM.st 10 k 0 (by decide) (by decide)) (hK.up (by decide)) hZ.b h3 hY (hF.up ⟨by omega, by omega⟩)
set_option maxHeartbeats 4000000 in
set_option maxRecDepth 100000 in
theorem l_bg1 {G : EG} {l : Launch} {h0 : EH} {M : Nat} {y0 : MS} (hB : mB y0) (hH : mH y0) (hN : NW mSelf (mS y0) (ms y0 6)) : ∀ (f k : Nat), 192 - k < f → k ≤ 192 → ∀ (h : EH) (y : MS), MD G h M y → Kp [12, 13] [6, 7, 8, 9, 10, 11, 12] y0 y → BZ y k 0 → ms y 12 = 0 ∧ ms y 13 = 0 → mN y → Fr (atN M) h0 h → Ex G l 1 mX12_begin (fun v h' => v = none ∧ ∃ y', MD G h' M y' ∧ Kp [12, 13] [6, 7, 8, 9, 10, 11, 12] y0 y' ∧ DC (mS y0) (ms y0 6) (mP y' (fun _ => 0) (fun _ => 0)) ∧ MP y' (fun _ => 0) (fun _ => 0) ∧ NC (mS y0) (ms y0 6) y' ∧ Fr (atN M) h0 h') eNoX 0 0 12 [(0, .ref M), (1, .int (nI (k)))] [] h := by
  intro f
  induction f with
  | zero =>
    intro k h1 h2 h y hM hK hZ h3 hY hF
    omega
  | succ f ih =>
    intro k h1 h2 h y hM hK hZ h3 hY hF
    have k8 : h.2 (M + 8) = some (.inl (eA G 0, 192, .inl (fun j => nI (mA y 8 j)))) := hM.2 8 (by decide) (by decide)
    have k9 : h.2 (M + 9) = some (.inl (eA G 0, 192, .inl (mmk y))) := hM.2 9 (by decide) (by decide)
    refine ex_iload_n rfl dX12_begin_12 ?_
    refine ex_sipush (v := (nI 192)) (by decide) dX12_begin_13 ?_
    refine ex_icmpN_ge (tgt := 39) (by decide) dX12_begin_16 (by omega) (by omega) (fun c1 => ?_) (fun c1 => ?_)
    · refine ex_iconst (v := (nI 0)) (by decide) dX12_begin_39 ?_
      refine ex_istore_n (by decide) rfl dX12_begin_40 ?_
      exact ex_lv [(0, .ref M), (1, .int (nI (0)))] ⟨rfl, rfl, trivial⟩ (l_bg2 hB hH hN 16 0 (by omega) (by omega) _ _ hM hK (by rw [show (192 : Nat) = k by omega]; exact hZ) h3 hY hF)
    · refine ex_aload_n rfl dX12_begin_19 ?_
      refine ex_get dX12_begin_20 gf_X12_39 hM.1 rfl ?_
      refine ex_iload_n rfl dX12_begin_23 ?_
      refine ex_iconst (v := (nI 0)) (by decide) dX12_begin_24 ?_
      refine ex_iastN dX12_begin_25 k8 (by omega) (by decide) ?_
      refine ex_aload_n rfl dX12_begin_26 ?_
      refine ex_get dX12_begin_27 gf_X12_42 (hup_ne (by omega) hM.1) rfl ?_
      refine ex_iload_n rfl dX12_begin_30 ?_
      refine ex_iconst (v := (-1)) (by decide) dX12_begin_31 ?_
      refine ex_iastN dX12_begin_32 (hup_ne (by omega) k9) (by omega) (by decide) ?_
      refine ex_iincN (z := 1) rfl (by decide) rfl dX12_begin_33 ?_
      refine ex_goto (tgt := 12) (by decide) dX12_begin_36 ?_
      exact ih (k + 1) (by omega) (by omega) _ _ ((hM.st 8 k 0 (by decide) (by decide)).mk k (-1)) ((hK.up (by decide)).um (by decide)) hZ.a h3 hY ((hF.up ⟨by omega, by omega⟩).up ⟨by omega, by omega⟩)
set_option maxHeartbeats 4000000 in
set_option maxRecDepth 100000 in
theorem t_begin {G : EG} {l : Launch} {h : EH} {M : Nat} {y : MS} (hM : MD G h M y) (hB : mB y) (hH : mH y) (hN : NW mSelf (mS y) (ms y 6)) (hY : mN y) : ES G l 1 mX12_begin [.ref M] h 0 0 (fun v h' => v = none ∧ ∃ y', MD G h' M y' ∧ Kp [12, 13] [6, 7, 8, 9, 10, 11, 12] y y' ∧ DC (mS y) (ms y 6) (mP y' (fun _ => 0) (fun _ => 0)) ∧ MP y' (fun _ => 0) (fun _ => 0) ∧ NC (mS y) (ms y 6) y' ∧ Fr (atN M) h h') eNoX := by
  refine es_of (by decide) rfl (Nat.le_of_ble_eq_true rfl) ?_
  refine ex_aload_n rfl dX12_begin_0 ?_
  refine ex_iconst (v := (nI 0)) (by decide) dX12_begin_1 ?_
  refine ex_put dX12_begin_2 pf_X12_172 hM.1 (Nat.le_of_ble_eq_true rfl) rfl rfl ?_
  refine ex_aload_n rfl dX12_begin_5 ?_
  refine ex_iconst (v := (nI 0)) (by decide) dX12_begin_6 ?_
  refine ex_put dX12_begin_7 pf_X12_175 hup_eq (Nat.le_of_ble_eq_true rfl) rfl rfl ?_
  refine ex_iconst (v := (nI 0)) (by decide) dX12_begin_10 ?_
  refine ex_istore_n (by decide) rfl dX12_begin_11 ?_
  exact ex_lv [(0, .ref M), (1, .int (nI (0)))] ⟨rfl, rfl, trivial⟩ (l_bg1 hB hH hN 193 0 (by omega) (by omega) _ (va_up (va_up (ms y) 12 0) 13 0, y.2) ((hM.ob' (va_up (ms y) 12 0) (mpo y) (mfa y) rfl).ob' (va_up (va_up (ms y) 12 0) 13 0) (mpo y) (mfa y) rfl) ((Kp.rf.fd (by decide)).fd (by decide)) ⟨fun j hj => by omega, fun j hj => by omega⟩ ⟨rfl, rfl⟩ hY ((Fr.rf.up ⟨by omega, by omega⟩).up ⟨by omega, by omega⟩))
theorem MP.make {y : MS} {g rk : Nat → Nat} (h : MP y g rk) (k u : Nat) : MP (mUm y k (nI u)) (va_up g k (u + 1)) rk := ⟨fun j hj => by
  show upd (mmk y) k (nI u) j = _
  unfold upd va_up
  by_cases e : j = k
  · rw [if_pos e, if_pos e]; exact (nI_prd u).symm
  · rw [if_neg e, if_neg e]; exact h.1 j hj, h.2⟩
theorem MP.rank {y : MS} {g rk : Nat → Nat} (h : MP y g rk) (t v : Nat) : MP (mUp y 7 t v) g (va_up rk t v) := ⟨h.1, fun j hj => by
  show _ = va_up (mA y 7) t v j
  unfold va_up
  by_cases e : j = t
  · rw [if_pos e, if_pos e]
  · rw [if_neg e, if_neg e]; exact h.2 j hj⟩
def PK (T c : Nat) (B : Nat → Nat → Prop) (k j : Nat) : Prop := cC j = c ∧ cS j < T ∧ cT j < T ∧ cS j * T + cT j < k ∧ B (cS j) (cT j)
def AK (T c x : Nat) (B : Nat → Nat → Prop) (k : Nat) (f0 f : Nat → Nat) : Prop := ∀ j, (PK T c B k j ∧ f j = f0 j ||| x) ∨ (¬ PK T c B k j ∧ f j = f0 j)
theorem AK.z {T c x : Nat} {B : Nat → Nat → Prop} {f : Nat → Nat} : AK T c x B 0 f f := fun j => Or.inr ⟨fun z => by have := z.2.2.2.1; omega, rfl⟩
theorem at_c {T k c : Nat} (hT : T ≤ 8) (h : k < T * T) : cC (64 * c + 8 * (k / T) + k % T) = c ∧ cS (64 * c + 8 * (k / T) + k % T) = k / T ∧ cT (64 * c + 8 * (k / T) + k % T) = k % T := by
  obtain ⟨h1, h2⟩ := sq_pair h
  generalize k / T = a at *
  generalize k % T = b at *
  unfold cC cS cT
  exact ⟨by omega, by omega, by omega⟩
theorem at_u {T k c j : Nat} (h1 : cC j = c) (h2 : cT j < T) (h3 : cS j < T) (h4 : cS j * T + cT j = k) : j = 64 * c + 8 * (k / T) + k % T := by
  have h5 := sq_back h3 h2
  rw [h4] at h5
  rw [h5.2.1, h5.2.2, ← h1]
  unfold cC cS cT
  omega
theorem AK.st {T c x k v : Nat} {B : Nat → Nat → Prop} {f0 f : Nat → Nat} (h : AK T c x B k f0 f) (hT : T ≤ 8) (hk : k < T * T) (hv : (B (k / T) (k % T) ∧ v = f (64 * c + 8 * (k / T) + k % T) ||| x) ∨ (¬ B (k / T) (k % T) ∧ v = f (64 * c + 8 * (k / T) + k % T))) : AK T c x B (k + 1) f0 (va_up f (64 * c + 8 * (k / T) + k % T) v) := by
  intro j
  have ha := at_c (c := c) hT hk
  have hq := sq_pair hk
  have hdm : k / T * T + k % T = k := by rw [Nat.mul_comm]; exact Nat.div_add_mod k T
  generalize hA : 64 * c + 8 * (k / T) + k % T = A at *
  unfold va_up
  by_cases e : j = A
  · rw [if_pos e]
    have hno : ¬ PK T c B k j := fun z => by have := z.2.2.2.1; rw [e, ha.2.1, ha.2.2, hdm] at this; omega
    have hf : f j = f0 j := (h j).elim (fun z => absurd z.1 hno) (fun z => z.2)
    rcases hv with ⟨v1, v2⟩ | ⟨v1, v2⟩
    · exact Or.inl ⟨⟨by rw [e]; exact ha.1, by rw [e, ha.2.1]; exact hq.1, by rw [e, ha.2.2]; exact hq.2, by rw [e, ha.2.1, ha.2.2, hdm]; omega, by rw [e, ha.2.1, ha.2.2]; exact v1⟩, by rw [v2, ← e, hf]⟩
    · exact Or.inr ⟨fun z => v1 (by have := z.2.2.2.2; rw [e, ha.2.1, ha.2.2] at this; exact this), by rw [v2, ← e, hf]⟩
  · rw [if_neg e]
    have hi : PK T c B (k + 1) j ↔ PK T c B k j := ⟨fun z => ⟨z.1, z.2.1, z.2.2.1, Nat.lt_of_le_of_ne (Nat.le_of_lt_succ z.2.2.2.1) (fun q => e ((at_u z.1 z.2.2.1 z.2.1 q).trans hA)), z.2.2.2.2⟩, fun z => ⟨z.1, z.2.1, z.2.2.1, by have := z.2.2.2.1; omega, z.2.2.2.2⟩⟩
    rcases h j with ⟨q1, q2⟩ | ⟨q1, q2⟩
    · exact Or.inl ⟨hi.mpr q1, q2⟩
    · exact Or.inr ⟨fun z => q1 (hi.mp z), q2⟩
set_option maxHeartbeats 4000000 in
set_option maxRecDepth 100000 in
theorem pu_5 {G : EG} {l : Launch} {h : EH} {M : Nat} {y : MS} (hM : MD G h M y) (hB : mB y) (hH : mH y) (hN : NW mSelf (mS y) (ms y 6)) (hC : NC (mS y) (ms y 6) y) {g rk : Nat → Nat} (hP : MP y g rk) {s : Nat} (hs : s < ms y 6) (hcp : CP mSelf (mS y) (ms y 6) s (mP y g rk)) (hk : kd (mS y s) = 5) : Ex G l 3 mX12_put (fun v h' => v = none ∧ ∃ y' g' rk', MD G h' M y' ∧ Kp [] [7, 8, 9, 10] y y' ∧ MP y' g' rk' ∧ CP mSelf (mS y) (ms y 6) (s + 1) (mP y' g' rk') ∧ Fr (atN M) h h') eNoX 0 0 208 [(0, .ref M), (1, .int (nI (s))), (2, .int (nI (wd (mS y s) 0)))] [] h := by
  have hn := hB.1
  have h8 := cnt8 hN (ms y 6) (Nat.le_refl _)
  have h3 := cnt3 hN (ms y 6) (Nat.le_refl _)
  have hT : ms y 12 = cntk (mS y) 1 (ms y 6) := hcp.1.1
  obtain ⟨hr, ⟨t, n0, ht⟩⟩ := nw5 hN hs hk
  have hsz := hH.sk (m := 1) hs hk (by decide)
  have e0 := wo_wd (s := mS y s) (k := 0) (by omega)
  obtain ⟨d1, d2, d3⟩ := nc_ty hB hH hN hC n0
  rw [e0] at d2 d3
  have k5 : h.2 (M + 5) = some (.inl (eA G 0, 41, .inl (fun j => nI (mA y 5 j)))) := hM.2 5 (by decide) (by decide)
  have k7 : h.2 (M + 7) = some (.inl (eA G 0, 8, .inl (fun j => nI (mA y 7 j)))) := hM.2 7 (by decide) (by decide)
  refine ex_aload_n rfl dX12_put_208 ?_
  refine ex_get dX12_put_209 gf_X12_36 hM.1 rfl ?_
  refine ex_aload_n rfl dX12_put_212 ?_
  refine ex_iload_n rfl dX12_put_213 ?_
  refine ex_invv (k := 0) (n := 0) (mc' := 0) (ms' := 0) (As := [_]) dX12_put_214 cv_X12_184 (by decide) (Nat.le_of_ble_eq_true rfl) (Or.inl ⟨_, _, _, _, hM.1, rfl⟩) (t_typeN hM d1 d2 d3 (fun j => (hC.2.2 j).1)) (fun v h' q => ?_)
  obtain ⟨rfl, rfl⟩ := q
  refine ex_aload_n rfl dX12_put_217 ?_
  refine ex_get dX12_put_218 gf_X12_27 hM.1 rfl ?_
  refine ex_iload_n rfl dX12_put_221 ?_
  refine ex_ialdN dX12_put_222 k5 (by omega) (by decide) ?_
  refine ex_iastN dX12_put_223 k7 (by omega) (by decide) ?_
  refine ex_goto (tgt := 307) (by decide) dX12_put_224 ?_
  refine ex_vret dX12_put_307 rfl ⟨rfl, mUp y 7 t (mk (mS y s)), g, va_up rk t (mk (mS y s)), hM.st 7 t (mk (mS y s)) (by decide) (by decide), Kp.rf.up (by decide), hP.rank t _, hcp.rank hk hr n0, Fr.rf.up ⟨by omega, by omega⟩⟩
set_option maxHeartbeats 4000000 in
set_option maxRecDepth 100000 in
theorem pu_4 {G : EG} {l : Launch} {h : EH} {M : Nat} {y : MS} (hM : MD G h M y) (hB : mB y) (hH : mH y) (hN : NW mSelf (mS y) (ms y 6)) (hC : NC (mS y) (ms y 6) y) {g rk : Nat → Nat} (hP : MP y g rk) {s : Nat} (hs : s < ms y 6) (hcp : CP mSelf (mS y) (ms y 6) s (mP y g rk)) (hk : kd (mS y s) = 4) : Ex G l 3 mX12_put (fun v h' => v = none ∧ ∃ y' g' rk', MD G h' M y' ∧ Kp [] [7, 8, 9, 10] y y' ∧ MP y' g' rk' ∧ CP mSelf (mS y) (ms y 6) (s + 1) (mP y' g' rk') ∧ Fr (atN M) h h') eNoX 0 0 147 [(0, .ref M), (1, .int (nI (s))), (2, .int (nI (wd (mS y s) 0)))] [] h := by
  have hn := hB.1
  have h8 := cnt8 hN (ms y 6) (Nat.le_refl _)
  have h3 := cnt3 hN (ms y 6) (Nat.le_refl _)
  have hT : ms y 12 = cntk (mS y) 1 (ms y 6) := hcp.1.1
  obtain ⟨hr, ⟨a, n0, ha⟩, ⟨b, n1, hb⟩, ⟨c, n2, hc⟩, ⟨u, n3, hu⟩⟩ := nw4 hN hs hk
  have hsz := hH.sk (m := 4) hs hk (by decide)
  have e0 := wo_wd (s := mS y s) (k := 0) (by omega)
  have e1 := wo_wd (s := mS y s) (k := 1) (by omega)
  have e2 := wo_wd (s := mS y s) (k := 2) (by omega)
  have e3 := wo_wd (s := mS y s) (k := 3) (by omega)
  obtain ⟨a1, a2, a3⟩ := nc_ty hB hH hN hC n0
  obtain ⟨b1, b2, b3⟩ := nc_ty hB hH hN hC n1
  obtain ⟨x1, x2, x3⟩ := nc_cl hB hH hN hC n2
  obtain ⟨u1, u2, u3⟩ := nc_ty hB hH hN hC n3
  rw [e0] at a2 a3
  rw [e1] at b2 b3
  rw [e2] at x2 x3
  rw [e3] at u2 u3
  have eat : 64 * c + 8 * a + b = cel a b c := by unfold cel; omega
  have k9 : h.2 (M + 9) = some (.inl (eA G 0, 192, .inl (mmk y))) := hM.2 9 (by decide) (by decide)
  refine ex_aload_n rfl dX12_put_147 ?_
  refine ex_get dX12_put_148 gf_X12_42 hM.1 rfl ?_
  refine ex_bipush (v := (nI 64)) (by decide) dX12_put_151 ?_
  refine ex_aload_n rfl dX12_put_153 ?_
  refine ex_aload_n rfl dX12_put_154 ?_
  refine ex_iload_n rfl dX12_put_155 ?_
  refine ex_iconst (v := (nI 2)) (by decide) dX12_put_156 ?_
  refine ex_invv (k := 0) (n := 0) (mc' := 0) (ms' := 0) (As := [_, _]) dX12_put_157 cv_X12_124 (by decide) (Nat.le_of_ble_eq_true rfl) (Or.inl ⟨_, _, _, _, hM.1, rfl⟩) (t_nameAt hM (s := s) (k := 2) (by omega) (by omega)) (fun v h' q => ?_)
  obtain ⟨rfl, rfl⟩ := q
  refine ex_invv (k := 0) (n := 0) (mc' := 0) (ms' := 0) (As := [_]) dX12_put_160 cv_X12_178 (by decide) (Nat.le_of_ble_eq_true rfl) (Or.inl ⟨_, _, _, _, hM.1, rfl⟩) (t_classN hM x1 x2 x3 (fun j => (hC.2.2 j).2)) (fun v h' q => ?_)
  obtain ⟨rfl, rfl⟩ := q
  refine ex_imulN dX12_put_163 ?_
  refine ex_bipush (v := (nI 8)) (by decide) dX12_put_164 ?_
  refine ex_aload_n rfl dX12_put_166 ?_
  refine ex_iload_n rfl dX12_put_167 ?_
  refine ex_invv (k := 0) (n := 0) (mc' := 0) (ms' := 0) (As := [_]) dX12_put_168 cv_X12_184 (by decide) (Nat.le_of_ble_eq_true rfl) (Or.inl ⟨_, _, _, _, hM.1, rfl⟩) (t_typeN hM a1 a2 a3 (fun j => (hC.2.2 j).1)) (fun v h' q => ?_)
  obtain ⟨rfl, rfl⟩ := q
  refine ex_imulN dX12_put_171 ?_
  refine ex_iaddN dX12_put_172 ?_
  refine ex_aload_n rfl dX12_put_173 ?_
  refine ex_aload_n rfl dX12_put_174 ?_
  refine ex_iload_n rfl dX12_put_175 ?_
  refine ex_iconst (v := (nI 1)) (by decide) dX12_put_176 ?_
  refine ex_invv (k := 0) (n := 0) (mc' := 0) (ms' := 0) (As := [_, _]) dX12_put_177 cv_X12_124 (by decide) (Nat.le_of_ble_eq_true rfl) (Or.inl ⟨_, _, _, _, hM.1, rfl⟩) (t_nameAt hM (s := s) (k := 1) (by omega) (by omega)) (fun v h' q => ?_)
  obtain ⟨rfl, rfl⟩ := q
  refine ex_invv (k := 0) (n := 0) (mc' := 0) (ms' := 0) (As := [_]) dX12_put_180 cv_X12_184 (by decide) (Nat.le_of_ble_eq_true rfl) (Or.inl ⟨_, _, _, _, hM.1, rfl⟩) (t_typeN hM b1 b2 b3 (fun j => (hC.2.2 j).1)) (fun v h' q => ?_)
  obtain ⟨rfl, rfl⟩ := q
  refine ex_iaddN dX12_put_183 ?_
  refine ex_aload_n rfl dX12_put_184 ?_
  refine ex_aload_n rfl dX12_put_185 ?_
  refine ex_iload_n rfl dX12_put_186 ?_
  refine ex_iconst (v := (nI 3)) (by decide) dX12_put_187 ?_
  refine ex_invv (k := 0) (n := 0) (mc' := 0) (ms' := 0) (As := [_, _]) dX12_put_188 cv_X12_124 (by decide) (Nat.le_of_ble_eq_true rfl) (Or.inl ⟨_, _, _, _, hM.1, rfl⟩) (t_nameAt hM (s := s) (k := 3) (by omega) (by omega)) (fun v h' q => ?_)
  obtain ⟨rfl, rfl⟩ := q
  refine ex_invv (k := 0) (n := 0) (mc' := 0) (ms' := 0) (As := [_]) dX12_put_191 cv_X12_184 (by decide) (Nat.le_of_ble_eq_true rfl) (Or.inl ⟨_, _, _, _, hM.1, rfl⟩) (t_typeN hM u1 u2 u3 (fun j => (hC.2.2 j).1)) (fun v h' q => ?_)
  obtain ⟨rfl, rfl⟩ := q
  refine ex_iastN dX12_put_194 k9 (by omega) (by decide) ?_
  refine ex_goto (tgt := 307) (by decide) dX12_put_195 ?_
  refine ex_vret dX12_put_307 rfl ⟨rfl, mUm y (64 * c + 8 * a + b) (nI u), va_up g (64 * c + 8 * a + b) (u + 1), rk, hM.mk _ _, (Kp.rf.um (by decide)), hP.make _ _, (by rw [eat]; exact hcp.make hk hs hr n0 n1 n2 n3 a1 b1), Fr.rf.up ⟨by omega, by omega⟩⟩
set_option maxHeartbeats 4000000 in
set_option maxRecDepth 100000 in
theorem pu_6 {G : EG} {l : Launch} {h : EH} {M : Nat} {y : MS} (hM : MD G h M y) (hB : mB y) (hH : mH y) (hN : NW mSelf (mS y) (ms y 6)) (hC : NC (mS y) (ms y 6) y) {g rk : Nat → Nat} (hP : MP y g rk) {s : Nat} (hs : s < ms y 6) (hcp : CP mSelf (mS y) (ms y 6) s (mP y g rk)) (hk : 6 ≤ kd (mS y s)) : Ex G l 3 mX12_put (fun v h' => v = none ∧ ∃ y' g' rk', MD G h' M y' ∧ Kp [] [7, 8, 9, 10] y y' ∧ MP y' g' rk' ∧ CP mSelf (mS y) (ms y 6) (s + 1) (mP y' g' rk') ∧ Fr (atN M) h h') eNoX 0 0 237 [(0, .ref M), (1, .int (nI (s))), (2, .int (nI (wd (mS y s) 0)))] [] h := by
  have hn := hB.1
  have h8 := cnt8 hN (ms y 6) (Nat.le_refl _)
  have h3 := cnt3 hN (ms y 6) (Nat.le_refl _)
  have hT : ms y 12 = cntk (mS y) 1 (ms y 6) := hcp.1.1
  have hk9 := mS_kd hB s
  have hk9b : mA y 2 s < 9 := hk9
  have hk6 : 6 ≤ mA y 2 s := hk
  obtain ⟨c, n0, hc⟩ := nw6 hN hs hk hk9 (hH s hs).1
  have hmk := (hH s hs).1.2.2.2
  have hmk_ : mA y 2 s = 6 → mA y 5 s < 3 := hmk
  have hsz := hH.s1 hB hs
  have e0 := wo_wd (s := mS y s) (k := 0) (by omega)
  obtain ⟨d1, d2, d3⟩ := nc_cl hB hH hN hC n0
  rw [e0] at d2 d3
  have hd0 := (hC.2.2 c).2
  have k2 : h.2 (M + 2) = some (.inl (eA G 0, 41, .inl (fun j => nI (mA y 2 j)))) := hM.2 2 (by decide) (by decide)
  have k5 : h.2 (M + 5) = some (.inl (eA G 0, 41, .inl (fun j => nI (mA y 5 j)))) := hM.2 5 (by decide) (by decide)
  have k10 : h.2 (M + 10) = some (.inl (eA G 0, 15, .inl (fun j => nI (mA y 10 j)))) := hM.2 10 (by decide) (by decide)
  refine ex_aload_n rfl dX12_put_237 ?_
  refine ex_iload_n rfl dX12_put_238 ?_
  refine ex_invv (k := 0) (n := 0) (mc' := 0) (ms' := 0) (As := [_]) dX12_put_239 cv_X12_178 (by decide) (Nat.le_of_ble_eq_true rfl) (Or.inl ⟨_, _, _, _, hM.1, rfl⟩) (t_classN hM d1 d2 d3 (fun j => (hC.2.2 j).2)) (fun v h' q => ?_)
  obtain ⟨rfl, rfl⟩ := q
  refine ex_istore_n (by decide) rfl dX12_put_242 ?_
  refine ex_iconst (v := (nI 5)) (by decide) dX12_put_243 ?_
  refine ex_iload_n rfl dX12_put_244 ?_
  refine ex_imulN dX12_put_245 ?_
  refine ex_aload_n rfl dX12_put_246 ?_
  refine ex_get dX12_put_247 gf_X12_17 hM.1 rfl ?_
  refine ex_iload_n rfl dX12_put_250 ?_
  refine ex_ialdN dX12_put_251 k2 (by omega) (by decide) ?_
  refine ex_bipush (v := (nI 6)) (by decide) dX12_put_252 ?_
  refine ex_icmpN_ne (tgt := 266) (by decide) dX12_put_254 (by omega) (by omega) (fun c1 => ?_) (fun c1 => ?_)
  · refine ex_aload_n rfl dX12_put_266 ?_
    refine ex_get dX12_put_267 gf_X12_17 hM.1 rfl ?_
    refine ex_iload_n rfl dX12_put_270 ?_
    refine ex_ialdN dX12_put_271 k2 (by omega) (by decide) ?_
    refine ex_bipush (v := (nI 7)) (by decide) dX12_put_272 ?_
    refine ex_icmpN_ne (tgt := 281) (by decide) dX12_put_274 (by omega) (by omega) (fun c2 => ?_) (fun c2 => ?_)
    · refine ex_iconst (v := (nI 4)) (by decide) dX12_put_281 ?_
      refine ex_iaddN dX12_put_282 ?_
      refine ex_istore (by decide) rfl dX12_put_283 ?_
      refine ex_aload_n rfl dX12_put_285 ?_
      refine ex_get dX12_put_286 gf_X12_45 hM.1 rfl ?_
      refine ex_iload rfl dX12_put_289 ?_
      refine ex_aload_n rfl dX12_put_291 ?_
      refine ex_get dX12_put_292 gf_X12_45 hM.1 rfl ?_
      refine ex_iload rfl dX12_put_295 ?_
      refine ex_ialdN dX12_put_297 k10 (by omega) (by decide) ?_
      refine ex_aload_n rfl dX12_put_298 ?_
      refine ex_iload_n rfl dX12_put_299 ?_
      refine ex_iconst (v := (nI 1)) (by decide) dX12_put_300 ?_
      refine ex_iload_n rfl dX12_put_301 ?_
      refine ex_invv (k := 0) (n := 0) (mc' := 0) (ms' := 0) (As := [_, _, _]) dX12_put_302 cv_X12_181 (by decide) (Nat.le_of_ble_eq_true rfl) (Or.inl ⟨_, _, _, _, hM.1, rfl⟩) (t_maskOf hM hB (s := s) (fr := 1) (c := c) (by omega) (by decide) d1 hd0) (fun v h' q => ?_)
      obtain ⟨x, rfl, rfl, hx⟩ := q
      refine ex_ior dX12_put_305 ?_
      rw [nx_or]
      refine ex_iastN dX12_put_306 k10 (by omega) (by decide) ?_
      refine ex_vret dX12_put_307 rfl ⟨rfl, mUp y 10 (5 * c + 4) (mA y 10 (5 * c + 4) ||| x), g, rk, hM.st 10 _ _ (by decide) (by decide), Kp.rf.up (by decide), hP, (by rw [Nat.mul_comm 5 c]; exact hcp.wid (w := 4) (Or.inr (Or.inr ⟨show mA y 2 s = 8 by omega, rfl⟩)) (by omega) n0 (by rw [d2] at hx; exact hx.c (msk_m hB hH hN (by omega)))), Fr.rf.up ⟨by omega, by omega⟩⟩
    · refine ex_iconst (v := (nI 3)) (by decide) dX12_put_277 ?_
      refine ex_goto (tgt := 282) (by decide) dX12_put_278 ?_
      refine ex_iaddN dX12_put_282 ?_
      refine ex_istore (by decide) rfl dX12_put_283 ?_
      refine ex_aload_n rfl dX12_put_285 ?_
      refine ex_get dX12_put_286 gf_X12_45 hM.1 rfl ?_
      refine ex_iload rfl dX12_put_289 ?_
      refine ex_aload_n rfl dX12_put_291 ?_
      refine ex_get dX12_put_292 gf_X12_45 hM.1 rfl ?_
      refine ex_iload rfl dX12_put_295 ?_
      refine ex_ialdN dX12_put_297 k10 (by omega) (by decide) ?_
      refine ex_aload_n rfl dX12_put_298 ?_
      refine ex_iload_n rfl dX12_put_299 ?_
      refine ex_iconst (v := (nI 1)) (by decide) dX12_put_300 ?_
      refine ex_iload_n rfl dX12_put_301 ?_
      refine ex_invv (k := 0) (n := 0) (mc' := 0) (ms' := 0) (As := [_, _, _]) dX12_put_302 cv_X12_181 (by decide) (Nat.le_of_ble_eq_true rfl) (Or.inl ⟨_, _, _, _, hM.1, rfl⟩) (t_maskOf hM hB (s := s) (fr := 1) (c := c) (by omega) (by decide) d1 hd0) (fun v h' q => ?_)
      obtain ⟨x, rfl, rfl, hx⟩ := q
      refine ex_ior dX12_put_305 ?_
      rw [nx_or]
      refine ex_iastN dX12_put_306 k10 (by omega) (by decide) ?_
      refine ex_vret dX12_put_307 rfl ⟨rfl, mUp y 10 (5 * c + 3) (mA y 10 (5 * c + 3) ||| x), g, rk, hM.st 10 _ _ (by decide) (by decide), Kp.rf.up (by decide), hP, (by rw [Nat.mul_comm 5 c]; exact hcp.wid (w := 3) (Or.inr (Or.inl ⟨c2, rfl⟩)) (by omega) n0 (by rw [d2] at hx; exact hx.c (msk_m hB hH hN (by omega)))), Fr.rf.up ⟨by omega, by omega⟩⟩
  · refine ex_aload_n rfl dX12_put_257 ?_
    refine ex_get dX12_put_258 gf_X12_27 hM.1 rfl ?_
    refine ex_iload_n rfl dX12_put_261 ?_
    refine ex_ialdN dX12_put_262 k5 (by omega) (by decide) ?_
    refine ex_goto (tgt := 282) (by decide) dX12_put_263 ?_
    refine ex_iaddN dX12_put_282 ?_
    refine ex_istore (by decide) rfl dX12_put_283 ?_
    refine ex_aload_n rfl dX12_put_285 ?_
    refine ex_get dX12_put_286 gf_X12_45 hM.1 rfl ?_
    refine ex_iload rfl dX12_put_289 ?_
    refine ex_aload_n rfl dX12_put_291 ?_
    refine ex_get dX12_put_292 gf_X12_45 hM.1 rfl ?_
    refine ex_iload rfl dX12_put_295 ?_
    refine ex_ialdN dX12_put_297 k10 (by omega) (by decide) ?_
    refine ex_aload_n rfl dX12_put_298 ?_
    refine ex_iload_n rfl dX12_put_299 ?_
    refine ex_iconst (v := (nI 1)) (by decide) dX12_put_300 ?_
    refine ex_iload_n rfl dX12_put_301 ?_
    refine ex_invv (k := 0) (n := 0) (mc' := 0) (ms' := 0) (As := [_, _, _]) dX12_put_302 cv_X12_181 (by decide) (Nat.le_of_ble_eq_true rfl) (Or.inl ⟨_, _, _, _, hM.1, rfl⟩) (t_maskOf hM hB (s := s) (fr := 1) (c := c) (by omega) (by decide) d1 hd0) (fun v h' q => ?_)
    obtain ⟨x, rfl, rfl, hx⟩ := q
    refine ex_ior dX12_put_305 ?_
    rw [nx_or]
    refine ex_iastN dX12_put_306 k10 (by omega) (by decide) ?_
    refine ex_vret dX12_put_307 rfl ⟨rfl, mUp y 10 (5 * c + mk (mS y s)) (mA y 10 (5 * c + mk (mS y s)) ||| x), g, rk, hM.st 10 _ _ (by decide) (by decide), Kp.rf.up (by decide), hP, (by rw [Nat.mul_comm 5 c]; exact hcp.wid (w := mk (mS y s)) (Or.inl ⟨c1, rfl⟩) (show mA y 5 s < 5 by have := hmk_ c1; omega) n0 (by rw [d2] at hx; exact hx.c (msk_m hB hH hN (by omega)))), Fr.rf.up ⟨by omega, by omega⟩⟩
set_option maxHeartbeats 4000000 in
set_option maxRecDepth 100000 in
theorem l_pu {G : EG} {l : Launch} {h0 : EH} {M : Nat} {y0 : MS} (hB : mB y0) (hH : mH y0) (hN : NW mSelf (mS y0) (ms y0 6)) {g rk : Nat → Nat} (hP : MP y0 g rk) {s : Nat} (hs : s < ms y0 6) (hcp : CP mSelf (mS y0) (ms y0 6) s (mP y0 g rk)) (hk : kd (mS y0 s) = 2) {c x T : Nat} (hc : c < 3) (n2 : nof (mS y0) 0 (wo (mS y0 s) 2) (ms y0 6) = some c) (hx : isB x (msk (mS y0) (ms y0 6) s 2)) (hT0 : ms y0 12 = T) (hT8 : T ≤ 8) (hTc : cntk (mS y0) 1 (ms y0 6) = T) : ∀ (f k : Nat), T * T - k < f → k ≤ T * T → ∀ (h : EH) (y : MS), MD G h M y → Kp [] [8] y0 y → mmk y = mmk y0 → AK T c x (fun a b => abt mSelf (mS y0) (ms y0 6) s a b) k (mA y0 8) (mA y 8) → Fr (atN M) h0 h → Ex G l 3 mX12_put (fun v h' => v = none ∧ ∃ y' g' rk', MD G h' M y' ∧ Kp [] [7, 8, 9, 10] y0 y' ∧ MP y' g' rk' ∧ CP mSelf (mS y0) (ms y0 6) (s + 1) (mP y' g' rk') ∧ Fr (atN M) h0 h') eNoX 0 0 40 [(0, .ref M), (1, .int (nI (s))), (2, .int (nI (wd (mS y0 s) 0))), (3, .int (nI (c))), (4, .int (nI (x))), (5, .int (nI (k)))] [] h := by
  intro f
  induction f with
  | zero =>
    intro k h1 h2 h y hM hK hmk hA hF
    omega
  | succ f ih =>
    intro k h1 h2 h y hM hK hmk hA hF
    have k8 : h.2 (M + 8) = some (.inl (eA G 0, 192, .inl (fun j => nI (mA y 8 j)))) := hM.2 8 (by decide) (by decide)
    have hn := hB.1
    obtain ⟨eS, e6, hB1, -⟩ := hK.all (by decide)
    have hT : ms y 12 = T := (hK.1 12 (by decide)).trans hT0
    have hTT : T * T ≤ 8 * 8 := Nat.mul_le_mul hT8 hT8
    have hsz := hH.sk (m := 2) hs hk (by decide)
    refine ex_iload rfl dX12_put_40 ?_
    refine ex_aload_n rfl dX12_put_42 ?_
    refine ex_get dX12_put_43 gf_X12_172 hM.1 rfl ?_
    rw [hT]
    refine ex_aload_n rfl dX12_put_46 ?_
    refine ex_get dX12_put_47 gf_X12_172 hM.1 rfl ?_
    rw [hT]
    refine ex_imulN dX12_put_50 ?_
    refine ex_icmpN_ge (tgt := 134) (by decide) dX12_put_51 (by omega) (by omega) (fun c1 => ?_) (fun c1 => ?_)
    · refine ex_goto (tgt := 307) (by decide) dX12_put_134 ?_
      refine ex_vret dX12_put_307 rfl ⟨rfl, y, g, rk, hM, hK.wk (by decide) (by decide), ⟨fun j hj => (by rw [hmk]; exact hP.1 j (by unfold inC at hj ⊢; rw [hK.1 12 (by decide), hK.1 13 (by decide)] at hj; exact hj)), by rw [hK.1 12 (by decide), hK.2.2 7 (by decide)]; exact hP.2⟩, hcp.allow hk n2 hx ⟨(by show (ms y 12, ms y 13, mA y 6, rk, mA y 8, g, mA y 10) = (ms y0 12, ms y0 13, mA y0 6, rk, mA y 8, g, mA y0 10); rw [hK.1 12 (by decide), hK.1 13 (by decide), hK.2.2 6 (by decide), hK.2.2 10 (by decide)]), fun j hj => (by rw [show pT (mP y0 g rk) = T from hT0] at hj ⊢; exact (hA j).elim (fun z => Or.inl ⟨⟨z.1.1, z.1.2.1, z.1.2.2.2.2⟩, z.2⟩) (fun z => Or.inr ⟨fun w => z.1 ⟨w.1, w.2.1, hj, Nat.lt_of_lt_of_le (sq_back w.2.1 hj).1 c1, w.2.2⟩, z.2⟩))⟩, hF⟩
    · refine ex_bipush (v := (nI 64)) (by decide) dX12_put_54 ?_
      have q1 := (sq_pair c1).1
      have q2 := (sq_pair c1).2
      have q0 : 0 < T := Nat.lt_of_le_of_lt (Nat.zero_le _) q1
      refine ex_iload_n rfl dX12_put_56 ?_
      refine ex_imulN dX12_put_57 ?_
      refine ex_bipush (v := (nI 8)) (by decide) dX12_put_58 ?_
      refine ex_iload rfl dX12_put_60 ?_
      refine ex_aload_n rfl dX12_put_62 ?_
      refine ex_get dX12_put_63 gf_X12_172 hM.1 rfl ?_
      rw [hT]
      refine ex_idivN (by omega) (by omega) (by omega) dX12_put_66 ?_
      refine ex_imulN dX12_put_67 ?_
      refine ex_iaddN dX12_put_68 ?_
      refine ex_iload rfl dX12_put_69 ?_
      refine ex_aload_n rfl dX12_put_71 ?_
      refine ex_get dX12_put_72 gf_X12_172 hM.1 rfl ?_
      rw [hT]
      refine ex_iremN (by omega) (by omega) (by omega) dX12_put_75 ?_
      refine ex_iaddN dX12_put_76 ?_
      refine ex_istore (by decide) rfl dX12_put_77 ?_
      refine ex_aload_n rfl dX12_put_79 ?_
      refine ex_get dX12_put_80 gf_X12_39 hM.1 rfl ?_
      refine ex_iload rfl dX12_put_83 ?_
      refine ex_aload_n rfl dX12_put_85 ?_
      refine ex_iload_n rfl dX12_put_86 ?_
      refine ex_iload rfl dX12_put_87 ?_
      refine ex_aload_n rfl dX12_put_89 ?_
      refine ex_get dX12_put_90 gf_X12_172 hM.1 rfl ?_
      rw [hT]
      refine ex_idivN (by omega) (by omega) (by omega) dX12_put_93 ?_
      refine ex_iload rfl dX12_put_94 ?_
      refine ex_aload_n rfl dX12_put_96 ?_
      refine ex_get dX12_put_97 gf_X12_172 hM.1 rfl ?_
      rw [hT]
      refine ex_iremN (by omega) (by omega) (by omega) dX12_put_100 ?_
      refine ex_invv (k := 0) (n := 0) (mc' := 0) (ms' := 0) (As := [_, _, _]) dX12_put_101 cv_X12_169 (by decide) (Nat.le_of_ble_eq_true rfl) (Or.inl ⟨_, _, _, _, hM.1, rfl⟩) (t_isAbout hM (hB1 hB) (s := s) (by omega) (by rw [eS]; exact hsz) (by rw [eS, e6, hTc]; exact (sq_pair c1).1) (by rw [eS, e6, hTc]; exact (sq_pair c1).2)) (fun v h' q => ?_)
      obtain ⟨rfl, rfl⟩ := q
      refine ex_ifB_eq (tgt := 120) (by decide) dX12_put_104 (fun c2 => ?_) (fun c2 => ?_)
      · refine ex_aload_n rfl dX12_put_120 ?_
        refine ex_get dX12_put_121 gf_X12_39 hM.1 rfl ?_
        refine ex_iload rfl dX12_put_124 ?_
        refine ex_ialdN dX12_put_126 k8 (by omega) (by decide) ?_
        refine ex_iastN dX12_put_127 k8 (by omega) (by decide) ?_
        refine ex_iincN (z := 1) rfl (by decide) rfl dX12_put_128 ?_
        refine ex_goto (tgt := 40) (by decide) dX12_put_131 ?_
        exact ex_lv [(0, .ref M), (1, .int (nI (s))), (2, .int (nI (wd (mS y0 s) 0))), (3, .int (nI (c))), (4, .int (nI (x))), (5, .int (nI (k + 1)))] ⟨rfl, rfl, rfl, rfl, rfl, rfl, trivial⟩ (ih (k + 1) (by omega) (by omega) _ _ (hM.st 8 (64 * c + 8 * (k / T) + k % T) (mA y 8 (64 * c + 8 * (k / T) + k % T)) (by decide) (by decide)) (hK.up (by decide)) hmk (hA.st hT8 c1 (Or.inr ⟨fun z => bP_f c2 (by rw [eS, e6]; exact z), rfl⟩)) (hF.up ⟨by omega, by omega⟩))
      · refine ex_aload_n rfl dX12_put_107 ?_
        refine ex_get dX12_put_108 gf_X12_39 hM.1 rfl ?_
        refine ex_iload rfl dX12_put_111 ?_
        refine ex_ialdN dX12_put_113 k8 (by omega) (by decide) ?_
        refine ex_iload rfl dX12_put_114 ?_
        refine ex_ior dX12_put_116 ?_
        rw [nx_or]
        refine ex_goto (tgt := 127) (by decide) dX12_put_117 ?_
        refine ex_iastN dX12_put_127 k8 (by omega) (by decide) ?_
        refine ex_iincN (z := 1) rfl (by decide) rfl dX12_put_128 ?_
        refine ex_goto (tgt := 40) (by decide) dX12_put_131 ?_
        exact ex_lv [(0, .ref M), (1, .int (nI (s))), (2, .int (nI (wd (mS y0 s) 0))), (3, .int (nI (c))), (4, .int (nI (x))), (5, .int (nI (k + 1)))] ⟨rfl, rfl, rfl, rfl, rfl, rfl, trivial⟩ (ih (k + 1) (by omega) (by omega) _ _ (hM.st 8 (64 * c + 8 * (k / T) + k % T) (mA y 8 (64 * c + 8 * (k / T) + k % T) ||| x) (by decide) (by decide)) (hK.up (by decide)) hmk (hA.st hT8 c1 (Or.inl ⟨by have := bP_t c2; rw [eS, e6] at this; exact this, rfl⟩)) (hF.up ⟨by omega, by omega⟩))
set_option maxHeartbeats 4000000 in
set_option maxRecDepth 100000 in
theorem pu_2 {G : EG} {l : Launch} {h : EH} {M : Nat} {y : MS} (hM : MD G h M y) (hB : mB y) (hH : mH y) (hN : NW mSelf (mS y) (ms y 6)) (hC : NC (mS y) (ms y 6) y) {g rk : Nat → Nat} (hP : MP y g rk) {s : Nat} (hs : s < ms y 6) (hcp : CP mSelf (mS y) (ms y 6) s (mP y g rk)) (hk : kd (mS y s) = 2) : Ex G l 3 mX12_put (fun v h' => v = none ∧ ∃ y' g' rk', MD G h' M y' ∧ Kp [] [7, 8, 9, 10] y y' ∧ MP y' g' rk' ∧ CP mSelf (mS y) (ms y 6) (s + 1) (mP y' g' rk') ∧ Fr (atN M) h h') eNoX 0 0 17 [(0, .ref M), (1, .int (nI (s))), (2, .int (nI (wd (mS y s) 0)))] [] h := by
  have hn := hB.1
  have h8 := cnt8 hN (ms y 6) (Nat.le_refl _)
  have h3 := cnt3 hN (ms y 6) (Nat.le_refl _)
  have hT : ms y 12 = cntk (mS y) 1 (ms y 6) := hcp.1.1
  obtain ⟨c, n2, hc⟩ := nw23 hN hs (Or.inl hk) (hH s hs).1
  have hsz := hH.sk (m := 4) hs hk (by decide)
  have e2 := wo_wd (s := mS y s) (k := 2) (by omega)
  obtain ⟨d1, d2, d3⟩ := nc_cl hB hH hN hC n2
  rw [e2] at d2 d3
  have hd0 := (hC.2.2 c).2
  refine ex_aload_n rfl dX12_put_17 ?_
  refine ex_aload_n rfl dX12_put_18 ?_
  refine ex_iload_n rfl dX12_put_19 ?_
  refine ex_iconst (v := (nI 2)) (by decide) dX12_put_20 ?_
  refine ex_invv (k := 0) (n := 0) (mc' := 0) (ms' := 0) (As := [_, _]) dX12_put_21 cv_X12_124 (by decide) (Nat.le_of_ble_eq_true rfl) (Or.inl ⟨_, _, _, _, hM.1, rfl⟩) (t_nameAt hM (s := s) (k := 2) (by omega) (by omega)) (fun v h' q => ?_)
  obtain ⟨rfl, rfl⟩ := q
  refine ex_invv (k := 0) (n := 0) (mc' := 0) (ms' := 0) (As := [_]) dX12_put_24 cv_X12_178 (by decide) (Nat.le_of_ble_eq_true rfl) (Or.inl ⟨_, _, _, _, hM.1, rfl⟩) (t_classN hM d1 d2 d3 (fun j => (hC.2.2 j).2)) (fun v h' q => ?_)
  obtain ⟨rfl, rfl⟩ := q
  refine ex_istore_n (by decide) rfl dX12_put_27 ?_
  refine ex_aload_n rfl dX12_put_28 ?_
  refine ex_iload_n rfl dX12_put_29 ?_
  refine ex_iconst (v := (nI 3)) (by decide) dX12_put_30 ?_
  refine ex_iload_n rfl dX12_put_31 ?_
  refine ex_invv (k := 0) (n := 0) (mc' := 0) (ms' := 0) (As := [_, _, _]) dX12_put_32 cv_X12_181 (by decide) (Nat.le_of_ble_eq_true rfl) (Or.inl ⟨_, _, _, _, hM.1, rfl⟩) (t_maskOf hM hB (s := s) (fr := 3) (c := c) (by omega) (by decide) d1 hd0) (fun v h' q => ?_)
  obtain ⟨x, rfl, rfl, hx⟩ := q
  refine ex_istore (by decide) rfl dX12_put_35 ?_
  refine ex_iconst (v := (nI 0)) (by decide) dX12_put_37 ?_
  refine ex_istore (by decide) rfl dX12_put_38 ?_
  exact ex_lv [(0, .ref M), (1, .int (nI (s))), (2, .int (nI (wd (mS y s) 0))), (3, .int (nI (c))), (4, .int (nI (x))), (5, .int (nI (0)))] ⟨rfl, rfl, rfl, rfl, rfl, rfl, trivial⟩ (l_pu hB hH hN hP hs hcp hk d1 n2 (by rw [d2] at hx; exact hx.c (msk_m hB hH hN (by omega))) rfl (by omega) hT.symm (ms y 12 * ms y 12 + 1) 0 (by omega) (by omega) _ _ hM Kp.rf rfl AK.z Fr.rf)
set_option maxHeartbeats 4000000 in
set_option maxRecDepth 100000 in
theorem t_put {G : EG} {l : Launch} {h : EH} {M : Nat} {y : MS} (hM : MD G h M y) (hB : mB y) (hH : mH y) (hN : NW mSelf (mS y) (ms y 6)) (hC : NC (mS y) (ms y 6) y) {g rk : Nat → Nat} (hP : MP y g rk) {s : Nat} (hs : s < ms y 6) (hcp : CP mSelf (mS y) (ms y 6) s (mP y g rk)) : ES G l 3 mX12_put [.ref M, .int (nI s)] h 0 0 (fun v h' => v = none ∧ ∃ y' g' rk', MD G h' M y' ∧ Kp [] [7, 8, 9, 10] y y' ∧ MP y' g' rk' ∧ CP mSelf (mS y) (ms y 6) (s + 1) (mP y' g' rk') ∧ Fr (atN M) h h') eNoX := by
  have hn := hB.1
  have hk9 : mA y 2 s < 9 := mS_kd hB s
  have k2 : h.2 (M + 2) = some (.inl (eA G 0, 41, .inl (fun j => nI (mA y 2 j)))) := hM.2 2 (by decide) (by decide)
  refine es_of (by decide) rfl (Nat.le_of_ble_eq_true rfl) ?_
  refine ex_aload_n rfl dX12_put_0 ?_
  refine ex_iload_n rfl dX12_put_1 ?_
  refine ex_iconst (v := (nI 0)) (by decide) dX12_put_2 ?_
  refine ex_invv (k := 0) (n := 0) (mc' := 0) (ms' := 0) (As := [_, _]) dX12_put_3 cv_X12_124 (by decide) (Nat.le_of_ble_eq_true rfl) (Or.inl ⟨_, _, _, _, hM.1, rfl⟩) (t_nameAt hM (s := s) (k := 0) (by omega) (by omega)) (fun v h' q => ?_)
  obtain ⟨rfl, rfl⟩ := q
  refine ex_istore_n (by decide) rfl dX12_put_6 ?_
  refine ex_aload_n rfl dX12_put_7 ?_
  refine ex_get dX12_put_8 gf_X12_17 hM.1 rfl ?_
  refine ex_iload_n rfl dX12_put_11 ?_
  refine ex_ialdN dX12_put_12 k2 (by omega) (by decide) ?_
  refine ex_iconst (v := (nI 2)) (by decide) dX12_put_13 ?_
  refine ex_icmpN_ne (tgt := 137) (by decide) dX12_put_14 (by omega) (by omega) (fun c1 => ?_) (fun c1 => ?_)
  · refine ex_aload_n rfl dX12_put_137 ?_
    refine ex_get dX12_put_138 gf_X12_17 hM.1 rfl ?_
    refine ex_iload_n rfl dX12_put_141 ?_
    refine ex_ialdN dX12_put_142 k2 (by omega) (by decide) ?_
    refine ex_iconst (v := (nI 4)) (by decide) dX12_put_143 ?_
    refine ex_icmpN_ne (tgt := 198) (by decide) dX12_put_144 (by omega) (by omega) (fun c2 => ?_) (fun c2 => ?_)
    · refine ex_aload_n rfl dX12_put_198 ?_
      refine ex_get dX12_put_199 gf_X12_17 hM.1 rfl ?_
      refine ex_iload_n rfl dX12_put_202 ?_
      refine ex_ialdN dX12_put_203 k2 (by omega) (by decide) ?_
      refine ex_iconst (v := (nI 5)) (by decide) dX12_put_204 ?_
      refine ex_icmpN_ne (tgt := 227) (by decide) dX12_put_205 (by omega) (by omega) (fun c3 => ?_) (fun c3 => ?_)
      · refine ex_aload_n rfl dX12_put_227 ?_
        refine ex_get dX12_put_228 gf_X12_17 hM.1 rfl ?_
        refine ex_iload_n rfl dX12_put_231 ?_
        refine ex_ialdN dX12_put_232 k2 (by omega) (by decide) ?_
        refine ex_iconst (v := (nI 5)) (by decide) dX12_put_233 ?_
        refine ex_icmpN_le (tgt := 307) (by decide) dX12_put_234 (by omega) (by omega) (fun c4 => ?_) (fun c4 => ?_)
        · refine ex_vret dX12_put_307 rfl ⟨rfl, y, g, rk, hM, Kp.rf, hP, hcp.skip (by have : kd (mS y s) = mA y 2 s := rfl; omega), Fr.rf⟩
        · exact pu_6 hM hB hH hN hC hP hs hcp (show 6 ≤ mA y 2 s by omega)
      · exact pu_5 hM hB hH hN hC hP hs hcp c3
    · exact pu_4 hM hB hH hN hC hP hs hcp c2
  · exact pu_2 hM hB hH hN hC hP hs hcp c1
