/-! THE DESK AND THE MODEL SIDE BY SIDE -/
def dB (x : DS) : Prop := (dn x ≤ 72 ∧ dm x ≤ 40) ∧ pB (dp x) ∧ ((dL x).length ≤ dcap x ∧ 1 ≤ dcap x ∧ dcap x ≤ 8 ∧ ∀ j, j < (dL x).length → lq (dL x) j < 2 ^ 30) ∧ (dW x).length ≤ 420 ∧ (dF x).length ≤ 420
theorem DSK.bd {G : EG} {h : EH} {D : Nat} {x : DS} (z : DSK G h D x) : dB x := by
  obtain ⟨pa, ca, rp, wtk, wbr, wf, ftk, fbr, ff, q, -, -, hT, -, hD, hM, ⟨hW, -⟩, ⟨hF, -⟩, hP, -⟩ := z
  obtain ⟨qf, af, -, -, -, -, hm, -⟩ := hM
  exact ⟨⟨hT.2.2.1, hD.2.2.2⟩, hP.2.2.2.2.2.2, hm, hW.2.2.1, hF.2.2.1⟩
theorem DSK.sm {G : EG} {h h' : EH} {D : Nat} {x : DS} (z : DSK G h D x) (w : ∀ q, D ≤ q → q ≤ D + 106 → h'.2 q = h.2 q) : DSK G h' D x := by
  obtain ⟨pa, ca, rp, wtk, wbr, wf, ftk, fbr, ff, q, h1, h2, hT, hR, hD, hM, ⟨hW, hw⟩, ⟨hF, hf⟩, hP, hQ, hr⟩ := z
  exact ⟨pa, ca, rp, wtk, wbr, wf, ftk, fbr, ff, q, h1, (w D (by omega) (by omega)).trans h2, hT.sm (by rintro q (z | z) <;> exact w q (by omega) (by omega)), hR.sm (w _ (by omega) (by omega)), hD.sm (by rintro q ⟨z1, z2⟩; exact w q (by omega) (by omega)), hM.sm (by rintro q (z | z | z) <;> exact w q (by omega) (by omega)), ⟨hW.sm (by rintro q (z | z) <;> exact w q (by omega) (by omega)), hw⟩, ⟨hF.sm (by rintro q (z | z) <;> exact w q (by omega) (by omega)), hf⟩, hP.sm (by rintro q ⟨z1, z2⟩; exact w q (by omega) (by omega)), hQ.sm (by rintro q ⟨z1, z2⟩; exact w q (by omega) (by omega)), hr⟩
def pol (p : Pol) (y : MS) : Prop := ∃ g, (∀ j, inC y j → mmk y j = nI (g j) - nI 1) ∧ PE p (mP y g (mA y 7))
def RR (x : DS) (y : MS) : Prop := (ms y 2 = dn x ∧ mA y 1 = dt x) ∧ (ms y 6 = dm x ∧ ∀ i, i < dm x → SR1 (dS x i) (mS y i)) ∧ (ms y 0 = dcap x ∧ ML y (dL x) ∧ ms y 24 = dhi x ∧ ms y 25 = dmi x) ∧ (bL (mA y 15) (ms y 26) (dW x) ∧ bL (mA y 16) (ms y 28) (dF x)) ∧ (pol (dp x) y ∧ (pT (dp x) ≠ 0 → pC (dp x) ≠ 0)) ∧ (mpo y = der x ∧ mfa y = dfa x) ∧ (mB y ∧ mN y) ∧ dI x
theorem RR.th {x : DS} {y : MS} (h : RR x y) (v : Nat) : RR x (th0 y v) := h
theorem RR.k0 {x : DS} {y y' : MS} (h : RR x y) (k : Kp [] [] y y') : RR x y' := by
  obtain ⟨σ, pf, A, mk', rc, nx⟩ := y
  obtain ⟨σ', pf', A', mk2, rc', nx'⟩ := y'
  obtain ⟨k1, ⟨k2, k3⟩, k4⟩ := k
  have e1 : σ' = σ := funext fun f => k1 f (by simp)
  have e4 : A' = A := funext fun i => k4 i (by simp)
  have e2 : pf' = pf := k2
  have e3 : mk2 = mk' := k3 (by decide)
  subst e1 e2 e3 e4
  exact h
theorem Kp.ml {FS AS : List Nat} {y y' : MS} (h : Kp FS AS y y') (hd : 21 ∉ FS ∧ 13 ∉ AS ∧ 14 ∉ AS) {L : List (Nat × Nat)} (x : ML y L) : ML y' L := by
  unfold ML
  rw [h.1 21 hd.1, h.2.2 13 hd.2.1, h.2.2 14 hd.2.2]
  exact x
theorem Kp.pol {FS AS : List Nat} {y y' : MS} (h : Kp FS AS y y') (hd : (12 ∉ FS ∧ 13 ∉ FS) ∧ 6 ∉ AS ∧ 7 ∉ AS ∧ 8 ∉ AS ∧ 9 ∉ AS ∧ 10 ∉ AS) {p : Pol} (x : pol p y) : pol p y' := by
  obtain ⟨g, x1, x2⟩ := x
  have em := h.2.1.2 hd.2.2.2.2.1
  refine ⟨g, fun j hj => ?_, ?_⟩
  · rw [em]
    refine x1 j ?_
    unfold inC at hj ⊢
    rw [h.1 12 hd.1.1, h.1 13 hd.1.2] at hj
    exact hj
  · unfold mP
    rw [h.1 12 hd.1.1, h.1 13 hd.1.2, h.2.2 6 hd.2.1, h.2.2 7 hd.2.2.1, h.2.2 8 hd.2.2.2.1, h.2.2 10 hd.2.2.2.2.2]
    exact x2
theorem mN_k {FS AS : List Nat} {y y' : MS} (h : Kp FS AS y y') (hd : 11 ∉ AS ∧ 12 ∉ AS) (x : mN y) : mN y' := by
  unfold mN
  rw [h.2.2 11 hd.1, h.2.2 12 hd.2]
  exact x
theorem RR.H {x : DS} {y : MS} (h : RR x y) : mH y := by
  obtain ⟨-, ⟨h6, hr⟩, -, -, -, -, -, hI⟩ := h
  intro i hi
  rw [h6] at hi
  obtain ⟨s1, s2, s3, s4⟩ := hr i hi
  refine ⟨?_, fun k hk => nmR_0 (s4 k (by rw [← s2]; exact hk))⟩
  have := hI.2.1 i hi
  unfold shp at this ⊢
  rw [s1, s2, s3]
  exact this
theorem RR.tr {x : DS} {y : MS} (h : RR x y) : TR dSelf mSelf (dm x) (dS x) (mS y) := by
  obtain ⟨-, ⟨h6, hr⟩, -, -, -, -, ⟨hB, -⟩, hI⟩ := h
  exact ⟨fun i hi => ⟨(hr i hi).1, (hr i hi).2.1, (hr i hi).2.2.1⟩, fun i j k m hi hj hk hm => nmR_i ((hr i hi).2.2.2 k hk) ((hr j hj).2.2.2 m hm), fun i k hi hk => nmR_i ((hr i hi).2.2.2 k hk) nmR_self, fun i hi => ⟨hI.2.1 i hi, by rw [← (hr i hi).1]; exact mS_kd hB i⟩⟩
/-! what is worked out -/
theorem cel_64 (s t c : Nat) : 64 * c + 8 * s + t = cel s t c := by unfold cel; omega
theorem pol_V {p : Pol} {y : MS} (hp : pol p y) (hb : pB p) : mV y := by
  obtain ⟨g, -, e1, e2, -, e4, e5, e6⟩ := hp
  have e1 : pT p = ms y 12 := e1
  have e2 : pC p = ms y 13 := e2
  refine ⟨by rw [← e1]; exact hb.1, by rw [← e2]; exact hb.2.1, fun t ht => ?_, fun s t c hs ht hc => ?_, fun j hj => ?_⟩
  · have := e4 t (by omega)
    show pRk (mP y g (mA y 7)) t < _
    rw [← this]; exact (hb.2.2 t).2.1
  · have := (e5 s t c (by omega) (by omega) (by omega)).1
    rw [cel_64]
    show pAl (mP y g (mA y 7)) (cel s t c) < _
    rw [← this]; exact (hb.2.2 _).2.2.1
  · have := e6 (j / 5) (j % 5) (by omega) (by omega)
    rw [show j / 5 * 5 + j % 5 = j by omega] at this
    show pMs (mP y g (mA y 7)) j < _
    rw [← this]; exact (hb.2.2 _).2.2.2.2
theorem pol_w {p : Pol} {y : MS} (hp : pol p y) (hb : pB p) {s t c : Nat} (hs : s < pT p) (ht : t < pT p) (hc : c < pC p) : wkd y s t c = perm p s t c := by
  obtain ⟨g, -, e1, e2, -, e4, e5, e6⟩ := hp
  have r1 : pRk p s = mA y 7 s := e4 s hs
  have r2 : pRk p t = mA y 7 t := e4 t ht
  have a1 : pAl p (cel s t c) = mA y 8 (cel s t c) := (e5 s t c hs ht hc).1
  have m0 : pMs p (c * 5 + 0) = mA y 10 (c * 5 + 0) := e6 c 0 hc (by decide)
  have m1 : pMs p (c * 5 + 1) = mA y 10 (c * 5 + 1) := e6 c 1 hc (by decide)
  have m2 : pMs p (c * 5 + 2) = mA y 10 (c * 5 + 2) := e6 c 2 hc (by decide)
  unfold perm forb
  simp only [r1, r2, a1, m0, m1, m2]
  rcases Nat.lt_trichotomy (mA y 7 s) (mA y 7 t) with q | q | q
  · rw [wkd_l q, cel_64, if_neg (by omega), if_pos (by omega), if_pos q, andn_andn, Nat.zero_or, Nat.mul_comm 5 c]; rfl
  · rw [wkd_e q, cel_64, if_neg (by omega), if_neg (by omega), if_neg (by omega)]
    unfold andn
    simp
    have h30 : mA y 8 (cel s t c) < 2 ^ 30 := by rw [← a1]; exact (hb.2.2 _).2.2.1
    rw [show (4294967295 : Nat) = 2 ^ 32 - 1 from rfl, Nat.and_two_pow_sub_one_eq_mod]
    omega
  · rw [wkd_g q, cel_64, if_pos q, if_pos (by omega), if_neg (by omega), andn_andn, Nat.zero_or, Nat.mul_comm 5 c]
theorem pol_f {p : Pol} {y : MS} (hp : pol p y) (hb : pB p) {f t : Nat} (hf : f < pT p) (ht : t < pT p) : flm y f t ↔ flw p f t := by
  have e2 : pC p = ms y 13 := hp.elim fun g z => z.2.2.1
  have m : ∀ c w, c < pC p → w < 5 → pMs p (c * 5 + w) = mA y 10 (5 * c + w) := fun c w hc hw => by rw [Nat.mul_comm 5 c]; exact hp.elim fun g z => z.2.2.2.2.2.2 c w hc hw
  unfold flm flk fPm flw
  rw [← e2]
  constructor
  · rintro ⟨c, hc, z⟩
    rw [pol_w hp hb ht hf hc, pol_w hp hb hf ht hc, ← m c 3 hc (by decide), ← m c 4 hc (by decide)] at z
    exact ⟨c, hc, z⟩
  · rintro ⟨c, hc, z⟩
    rw [m c 3 hc (by decide), m c 4 hc (by decide)] at z
    exact ⟨c, hc, by rw [pol_w hp hb ht hf hc, pol_w hp hb hf ht hc]; exact z⟩
theorem rcm_rch {F : Nat → Nat → Prop} {p : Pol} {u : Nat} (hu : u < pT p) (h : ∀ f t, f < pT p → t < pT p → (F f t ↔ flw p f t)) : ∀ k t, t < pT p → (rcm F (pT p) u k t ↔ rch p u k t) := by
  intro k
  induction k with
  | zero => intro t _; exact Iff.rfl
  | succ k ih =>
    intro t ht
    show (rcm F (pT p) u k t ∨ ∃ f, f < pT p ∧ rcm F (pT p) u k f ∧ F f t) ↔ (rch p u k t ∨ ∃ f, f < pT p ∧ rch p u k f ∧ flw p f t)
    rw [ih t ht]
    constructor
    · rintro (z | ⟨f, f1, f2, f3⟩)
      · exact Or.inl z
      · exact Or.inr ⟨f, f1, (ih f f1).mp f2, (h f t f1 ht).mp f3⟩
    · rintro (z | ⟨f, f1, f2, f3⟩)
      · exact Or.inl z
      · exact Or.inr ⟨f, f1, (ih f f1).mpr f2, (h f t f1 ht).mpr f3⟩
/-- how many of the first T numbers have it -/
noncomputable def cnP (P : Nat → Prop) : Nat → Nat
  | 0 => 0
  | T + 1 => cnP P T + (bP (P T)).toNat
theorem cnP_le (P : Nat → Prop) : ∀ T, cnP P T ≤ T := by
  intro T
  induction T with
  | zero => exact Nat.le_refl _
  | succ T ih => show cnP P T + _ ≤ T + 1; have := Bool.toNat_le (bP (P T)); omega
theorem cnP_all {P : Nat → Prop} : ∀ {T : Nat}, T ≤ cnP P T → ∀ t, t < T → P t := by
  intro T
  induction T with
  | zero => intro _ t h; omega
  | succ T ih =>
    intro h t ht
    have h1 := cnP_le P T
    have h2 : cnP P (T + 1) = cnP P T + (bP (P T)).toNat := rfl
    have h3 := Bool.toNat_le (bP (P T))
    rcases Nat.lt_or_ge t T with q | q
    · exact ih (by omega) t q
    · rw [show t = T by omega]
      exact bP_t (by cases e : bP (P T) with | true => rfl | false => rw [e] at h2; have : (false : Bool).toNat = 0 := rfl; omega)
theorem cnP_mono {P R : Nat → Prop} (h : ∀ t, P t → R t) : ∀ T, cnP P T ≤ cnP R T := by
  intro T
  induction T with
  | zero => exact Nat.le_refl _
  | succ T ih =>
    show cnP P T + (bP (P T)).toNat ≤ cnP R T + (bP (R T)).toNat
    have : (bP (P T)).toNat ≤ (bP (R T)).toNat := by
      cases e : bP (P T) with
      | false => exact Nat.zero_le _
      | true => rw [bP_iff.mpr (h T (bP_t e))]; exact Nat.le_refl _
    omega
theorem cnP_lt {P R : Nat → Prop} (h : ∀ t, P t → R t) {t : Nat} (h1 : ¬ P t) (h2 : R t) : ∀ T, t < T → cnP P T < cnP R T := by
  intro T
  induction T with
  | zero => intro z; omega
  | succ T ih =>
    intro z
    show cnP P T + (bP (P T)).toNat < cnP R T + (bP (R T)).toNat
    have hm : (bP (P T)).toNat ≤ (bP (R T)).toNat := by
      cases e : bP (P T) with
      | false => exact Nat.zero_le _
      | true => rw [bP_iff.mpr (h T (bP_t e))]; exact Nat.le_refl _
    rcases Nat.lt_or_ge t T with q | q
    · have := ih q; omega
    · have e : t = T := by omega
      subst e
      have := cnP_mono h t
      rw [bP_no h1, bP_iff.mpr h2]
      show cnP P t + 0 < cnP R t + 1
      omega
theorem rch_up {p : Pol} {u k t : Nat} (h : rch p u k t) : ∀ j, k ≤ j → rch p u j t := by
  intro j
  induction j with
  | zero => intro hj; rw [show (0 : Nat) = k by omega]; exact h
  | succ j ih =>
    intro hj
    rcases Nat.lt_or_ge k (j + 1) with q | q
    · exact Or.inl (ih (by omega))
    · rw [show j + 1 = k by omega]; exact h
theorem rch_st {p : Pol} {u k : Nat} (h : ∀ t, t < pT p → rch p u (k + 1) t → rch p u k t) : ∀ j t, k ≤ j → t < pT p → rch p u j t → rch p u k t := by
  intro j
  induction j with
  | zero => intro t hj _ z; rw [show k = 0 by omega]; exact z
  | succ j ih =>
    intro t hj ht z
    rcases Nat.lt_or_ge k (j + 1) with q | q
    · rcases z with z | ⟨f, f1, f2, f3⟩
      · exact ih t (by omega) ht z
      · exact h t ht (Or.inr ⟨f, f1, ih f (by omega) f1 f2, f3⟩)
    · rw [show k = j + 1 by omega]; exact z
theorem rch_few {p : Pol} {u : Nat} (hu : u < pT p) {j t : Nat} (ht : t < pT p) (hz : rch p u j t) : rch p u (pT p - 1) t := by
  have key : ∀ k, k + 1 ≤ cnP (rch p u k) (pT p) ∨ ∃ i, i < k ∧ ∀ t, t < pT p → rch p u (i + 1) t → rch p u i t := by
    intro k
    induction k with
    | zero =>
      refine Or.inl ?_
      have := cnP_lt (P := fun _ => False) (R := rch p u 0) (fun t z => z.elim) (t := u) (fun z => z) rfl (pT p) hu
      omega
    | succ k ih =>
      rcases ih with ih | ⟨i, i1, i2⟩
      · by_cases c : ∀ t, t < pT p → rch p u (k + 1) t → rch p u k t
        · exact Or.inr ⟨k, by omega, c⟩
        · refine Or.inl ?_
          obtain ⟨t, ht⟩ := Classical.not_forall.mp c
          obtain ⟨h1, h2⟩ := Classical.not_imp.mp ht
          obtain ⟨h3, h4⟩ := Classical.not_imp.mp h2
          have := cnP_lt (P := rch p u k) (R := rch p u (k + 1)) (fun t z => Or.inl z) h4 h3 (pT p) h1
          omega
      · exact Or.inr ⟨i, by omega, i2⟩
  rcases key (pT p - 1) with q | ⟨i, i1, i2⟩
  · exact cnP_all (by omega) t ht
  · rcases Nat.lt_or_ge j i with w | w
    · exact rch_up hz _ (by omega)
    · exact rch_up (rch_st i2 j t w ht hz) _ (by omega)
theorem stp_stm {F : Nat → Nat → Prop} {p : Pol} (hT8 : pT p ≤ 8) {u b : Nat} (hu : u < pT p) (hb : b < pT p) (h : ∀ f t, f < pT p → t < pT p → (F f t ↔ flw p f t)) {r r' : Option Nat} (x : stp p u b r) (y : stm F (pT p) u b r') : r = r' := by
  have e := fun k => rcm_rch hu h k b hb
  cases r with
  | none =>
    cases r' with
    | none => rfl
    | some k =>
      have := (e k).mp (y.1 k rfl).2.1
      exact absurd (rch_few hu hb this) (x.2 rfl _ (by omega))
  | some i =>
    obtain ⟨x1, x2, x3⟩ := x.1 i rfl
    cases r' with
    | none => exact absurd ((e i).mpr x2) (y.2 rfl i (by omega))
    | some k =>
      obtain ⟨y1, y2, y3⟩ := y.1 k rfl
      congr 1
      rcases Nat.lt_trichotomy i k with q | q | q
      · exact absurd ((e i).mpr x2) (y3 i q)
      · exact q
      · exact absurd ((e k).mp y2) (x3 k q)
theorem imgL_PE {p q : Pol} (h : PE p q) : imgL p = imgL q := by
  obtain ⟨h1, h2, h3, h4, h5, h6⟩ := h
  have hc : ∀ k, k ≤ pC p → cls p k = cls q k := by
    intro k
    induction k with
    | zero => intro _; rfl
    | succ k ih =>
      intro hk
      rw [cls_s, cls_s, ih (by omega)]
      congr 1
      unfold imgC
      have e1 : ∀ f g : Nat → Nat → Nat, (∀ s t, s < pT p → t < pT p → f s t = g s t) → prw (pT p) f (pT p) = prw (pT p) g (pT p) := fun f g hfg => by
        rw [prw_lin, prw_lin]
        exact rmap_c fun j hj => hfg _ _ (sq_pair hj).1 (sq_pair hj).2
      rw [← h1, e1 _ _ (fun s t hs ht => (h5 s t k hs ht (by omega)).1), e1 _ _ (fun s t hs ht => (h5 s t k hs ht (by omega)).2), rmap_c (fun w hw => h6 k w (by omega) hw)]
  unfold imgL
  rw [← h1, ← h2, rmap_c h3, rmap_c h4, hc _ (Nat.le_refl _)]
theorem PE.rk {p : Pol} {y : MS} {g rk : Nat → Nat} (h : PE p (mP y g rk)) (hr : ∀ j, j < ms y 12 → rk j = mA y 7 j) : PE p (mP y g (mA y 7)) := by
  obtain ⟨h1, h2, h3, h4, h5⟩ := h
  have h1' : pT p = ms y 12 := h1
  exact ⟨h1, h2, h3, fun t ht => (h4 t ht).trans (hr t (by omega)), h5⟩
