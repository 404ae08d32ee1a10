/-! THE SAME DRAFT IN TWO PACKINGS: what holds of one holds of the other -/
def TR (a b n : Nat) (S S' : Nat → Stm) : Prop := (∀ i, i < n → kd (S' i) = kd (S i) ∧ sz (S' i) = sz (S i) ∧ mk (S' i) = mk (S i)) ∧ (∀ i j k m, i < n → j < n → k < sz (S i) → m < sz (S j) → (wd (S i) k = wd (S j) m ↔ wd (S' i) k = wd (S' j) m)) ∧ (∀ i k, i < n → k < sz (S i) → (wd (S i) k = a ↔ wd (S' i) k = b)) ∧ ∀ i, i < n → shp (S i) ∧ kd (S i) < 9
theorem TR.symm {a b n : Nat} {S S' : Nat → Stm} (h : TR a b n S S') : TR b a n S' S := by
  obtain ⟨h1, h2, h3, h4⟩ := h
  refine ⟨fun i hi => ⟨(h1 i hi).1.symm, (h1 i hi).2.1.symm, (h1 i hi).2.2.symm⟩, fun i j k m hi hj hk hm => (h2 i j k m hi hj (by rw [← (h1 i hi).2.1]; exact hk) (by rw [← (h1 j hj).2.1]; exact hm)).symm, fun i k hi hk => (h3 i k hi (by rw [← (h1 i hi).2.1]; exact hk)).symm, fun i hi => ?_⟩
  obtain ⟨e1, e2, e3⟩ := h1 i hi
  unfold shp
  rw [e1, e2, e3]
  exact h4 i hi
theorem TR.cnt {a b n : Nat} {S S' : Nat → Stm} (h : TR a b n S S') (κ : Nat) : ∀ i, i ≤ n → cntk S' κ i = cntk S κ i := by
  intro i
  induction i with
  | zero => intro _; rfl
  | succ i ih =>
    intro hi
    show cntk S' κ i + _ = cntk S κ i + _
    rw [ih (by omega), (h.1 i (by omega)).1]
theorem kNm_1 : ∀ κ, κ < 9 → 1 ≤ kNm κ := by decide
theorem TR.s1 {a b n : Nat} {S S' : Nat → Stm} (h : TR a b n S S') {i : Nat} (hi : i < n) : 0 < sz (S i) := by
  obtain ⟨h1, h2⟩ := h.2.2.2 i hi
  have := kNm_1 _ h2
  have := h1.1
  omega
theorem TR.sk {a b n : Nat} {S S' : Nat → Stm} (h : TR a b n S S') {i κ m : Nat} (hi : i < n) (hk : kd (S i) = κ) (hm : m ≤ kNm κ + kFw κ) : m ≤ sz (S i) := by
  have := (h.2.2.2 i hi).1.1
  rw [hk] at this
  omega
theorem TR.w {a b n : Nat} {S S' : Nat → Stm} (h : TR a b n S S') {i j k m : Nat} (hi : i < n) (hj : j < n) (hk : k < sz (S i)) (hm : m < sz (S j)) : wo (S i) k = wo (S j) m ↔ wo (S' i) k = wo (S' j) m := by
  rw [wo_wd hk, wo_wd hm, wo_wd (s := S' i) (by rw [(h.1 i hi).2.1]; exact hk), wo_wd (s := S' j) (by rw [(h.1 j hj).2.1]; exact hm)]
  exact h.2.1 i j k m hi hj hk hm
theorem TR.wd {a b n : Nat} {S S' : Nat → Stm} (h : TR a b n S S') {i j k m : Nat} (hi : i < n) (hj : j < n) (hk : k < sz (S i)) (hm : m < sz (S j)) : wd (S i) k = wo (S j) m ↔ wd (S' i) k = wo (S' j) m := by
  rw [wo_wd hm, wo_wd (s := S' j) (by rw [(h.1 j hj).2.1]; exact hm)]
  exact h.2.1 i j k m hi hj hk hm
theorem TR.self {a b n : Nat} {S S' : Nat → Stm} (h : TR a b n S S') {i k : Nat} (hi : i < n) (hk : k < sz (S i)) : wo (S i) k = a ↔ wo (S' i) k = b := by
  rw [wo_wd hk, wo_wd (s := S' i) (by rw [(h.1 i hi).2.1]; exact hk)]
  exact h.2.2.1 i k hi hk
theorem TR.isN {a b n : Nat} {S S' : Nat → Stm} (h : TR a b n S S') {i k κ : Nat} (hi : i < n) (hk : k < sz (S i)) (x : isN S n κ (wo (S i) k)) : isN S' n κ (wo (S' i) k) := by
  obtain ⟨q, q1, q2, q3⟩ := x
  exact ⟨q, q1, by rw [(h.1 q q1).1]; exact q2, (h.w q1 hi (h.s1 q1) hk).mp q3⟩
theorem TR.isAt {a b n : Nat} {S S' : Nat → Stm} (h : TR a b n S S') {i k : Nat} (hi : i < n) (hk : k < sz (S i)) (x : isAt S n (wo (S i) k)) : isAt S' n (wo (S' i) k) := by
  obtain ⟨q, q1, q2, m, m1, m2, m3⟩ := x
  exact ⟨q, q1, by rw [(h.1 q q1).1]; exact q2, m, m1, by rw [(h.1 q q1).2.1]; exact m2, (h.wd q1 hi m2 hk).mp m3⟩
theorem TR.isPm {a b n : Nat} {S S' : Nat → Stm} (h : TR a b n S S') {i c k : Nat} (hi : i < n) (hc : c < sz (S i)) (hk : k < sz (S i)) (x : isPm S n (wo (S i) c) (wo (S i) k)) : isPm S' n (wo (S' i) c) (wo (S' i) k) := by
  obtain ⟨q, q1, q2, q3, m, m1, m2, m3⟩ := x
  exact ⟨q, q1, by rw [(h.1 q q1).1]; exact q2, (h.w q1 hi (h.s1 q1) hc).mp q3, m, m1, by rw [(h.1 q q1).2.1]; exact m2, (h.wd q1 hi m2 hk).mp m3⟩
theorem TR.rep {a b n : Nat} {S S' : Nat → Stm} (h : TR a b n S S') {i m : Nat} (hi : i < n) (hm : ∀ q, q < n → kd (S q) = kd (S i) → m ≤ sz (S q)) (x : rep S i m) : rep S' i m := by
  obtain ⟨q, q1, q2, q3⟩ := x
  refine ⟨q, q1, by rw [(h.1 q (by omega)).1, (h.1 i hi).1]; exact q2, fun j hj => (h.w (by omega) hi ?_ ?_).mp (q3 j hj)⟩
  · have := hm q (by omega) q2; omega
  · have := hm i hi rfl; omega
theorem TR.alld {a b n : Nat} {S S' : Nat → Stm} (h : TR a b n S S') {i f : Nat} (hi : i < n) (x : alld (S i) f) : alld (S' i) f := by
  intro p q h1 h2 h3 z
  rw [(h.1 i hi).2.1] at h3
  exact x p q h1 h2 h3 ((h.2.1 i i p q hi hi (by omega) h3).mpr z)
theorem TR.areP {a b n : Nat} {S S' : Nat → Stm} (h : TR a b n S S') {i c : Nat} (hi : i < n) (hc : c < sz (S i)) (x : areP S n i c) : areP S' n i c := by
  intro k k1 k2
  rw [(h.1 i hi).2.1] at k2
  exact h.isPm hi hc k2 (x k k1 k2)
theorem TR.doer {a b n : Nat} {S S' : Nat → Stm} (h : TR a b n S S') {i k : Nat} (hi : i < n) (hk : k < sz (S i)) (x : doer S n (wo (S i) k)) : doer S' n (wo (S' i) k) := x.elim (fun z => Or.inl (h.isN hi hk z)) (fun z => Or.inr (h.isAt hi hk z))
theorem TR.wr {a b n : Nat} {S S' : Nat → Stm} (h : TR a b n S S') {i : Nat} (hi : i < n) (x : isWr a S n i) : isWr b S' n i := by
  have g := h.symm
  obtain ⟨e1, e2, e3⟩ := h.1 i hi
  have z0 := h.s1 hi
  have y0 : 0 < sz (S' i) := by rw [e2]; exact z0
  have o1 : ∀ q, q < n → kd (S q) = kd (S i) → 1 ≤ sz (S q) := fun q hq _ => h.s1 hq
  obtain ⟨x0, x1, x2, x4, x5, x6⟩ := x
  unfold isWr
  rw [e1]
  refine ⟨fun k => ?_, fun k => ?_, fun k => ?_, fun k => ?_, fun k => ?_, fun k => ?_⟩
  · rcases x0 k with z | z | z
    · exact Or.inl (h.rep hi o1 z)
    · exact Or.inr (Or.inl (fun w => z (g.alld hi w)))
    · exact Or.inr (Or.inr (by rw [h.cnt 0 i (by omega)]; exact z))
  · rcases x1 k with z | z | z | z
    · exact Or.inl (h.rep hi o1 z)
    · exact Or.inr (Or.inl (h.isAt hi z0 z))
    · exact Or.inr (Or.inr (Or.inl (fun w => z (g.alld hi w))))
    · exact Or.inr (Or.inr (Or.inr (by rw [h.cnt 1 i (by omega)]; exact z)))
  · have hs : 4 ≤ sz (S i) := k.elim (fun z => h.sk hi z (by decide)) (fun z => h.sk hi z (by decide))
    have hs' : 4 ≤ sz (S' i) := by rw [e2]; exact hs
    rcases x2 k with z | z | z
    · exact Or.inl (fun w => z (g.doer hi (by omega) w))
    · exact Or.inr (Or.inl (fun w => z (w.elim (fun q => Or.inl ((h.self hi (by omega)).mpr q)) (fun q => Or.inr (g.doer hi (by omega) q)))))
    · exact Or.inr (Or.inr (fun w => z (g.areP hi (by omega) w)))
  · have hs : 4 ≤ sz (S i) := h.sk hi k (by decide)
    have hs' : 4 ≤ sz (S' i) := by rw [e2]; exact hs
    rcases x4 k with z | z | z | z | z
    · exact Or.inl (h.rep hi (fun q hq w => by have := h.sk (m := 4) hq (w.trans k) (by decide); omega) z)
    · exact Or.inr (Or.inl (fun w => z (g.isN hi (by omega) w)))
    · exact Or.inr (Or.inr (Or.inl (fun w => z (g.isN hi (by omega) w))))
    · exact Or.inr (Or.inr (Or.inr (Or.inl (fun w => z (g.isN hi (by omega) w)))))
    · exact Or.inr (Or.inr (Or.inr (Or.inr (fun w => z (g.isN hi (by omega) w)))))
  · rcases x5 k with z | z
    · exact Or.inl (h.rep hi o1 z)
    · exact Or.inr (fun w => z (g.isN hi y0 w))
  · exact fun w => x6 k (g.areP hi y0 w)
theorem TR.wri {a b n : Nat} {S S' : Nat → Stm} (h : TR a b n S S') {i : Nat} (hi : i < n) : isWr a S n i ↔ isWr b S' n i := ⟨h.wr hi, h.symm.wr hi⟩
theorem TR.fw {a b n : Nat} {S S' : Nat → Stm} (h : TR a b n S S') {r : Option Nat} (x : FW a S n r) : FW b S' n r := by
  refine ⟨fun i hi => ?_, fun hr => ?_⟩
  · rcases x.1 i hi with ⟨x1, x2, x3⟩ | ⟨x1, x2, x3⟩
    · exact Or.inl ⟨x1, h.wr x1 x2, fun j hj z => x3 j hj (h.symm.wr (by omega) z)⟩
    · exact Or.inr ⟨x1, fun j hj z => x2 j hj (h.symm.wr hj z), by rw [h.cnt 1 n (Nat.le_refl _), h.cnt 0 n (Nat.le_refl _)]; exact x3⟩
  · obtain ⟨x1, x2⟩ := x.2 hr
    exact ⟨fun j hj z => x1 j hj (h.symm.wr hj z), by rw [h.cnt 1 n (Nat.le_refl _), h.cnt 0 n (Nat.le_refl _)]; exact x2⟩
theorem FW_u {a n : Nat} {S : Nat → Stm} {r r' : Option Nat} (x : FW a S n r) (y : FW a S n r') : r = r' := by
  cases r with
  | none =>
    cases r' with
    | none => rfl
    | some j =>
      obtain ⟨x1, x2, x3⟩ := x.2 rfl
      rcases y.1 j rfl with ⟨y1, y2, y3⟩ | ⟨y1, y2, y3⟩
      · exact absurd y2 (x1 j y1)
      · exact absurd y3 (fun z => z.elim x2 x3)
  | some i =>
    cases r' with
    | none =>
      obtain ⟨x1, x2, x3⟩ := y.2 rfl
      rcases x.1 i rfl with ⟨y1, y2, y3⟩ | ⟨y1, y2, y3⟩
      · exact absurd y2 (x1 i y1)
      · exact absurd y3 (fun z => z.elim x2 x3)
    | some j =>
      congr 1
      rcases x.1 i rfl with ⟨x1, x2, x3⟩ | ⟨x1, x2, x3⟩ <;> rcases y.1 j rfl with ⟨y1, y2, y3⟩ | ⟨y1, y2, y3⟩
      · rcases Nat.lt_trichotomy i j with q | q | q
        · exact absurd x2 (y3 i q)
        · exact q
        · exact absurd y2 (x3 j q)
      · exact absurd x2 (y2 i x1)
      · exact absurd y2 (x2 j y1)
      · omega
theorem fnd_rel {f g : Nat → Nat} {x x' : Nat} : ∀ r j, (∀ q, j ≤ q → q < j + r → (f q = x ↔ g q = x')) → fnd f x j r = fnd g x' j r := by
  intro r
  induction r with
  | zero => intro j _; rfl
  | succ r ih =>
    intro j h
    unfold fnd
    by_cases c : f j = x
    · rw [if_pos c, if_pos ((h j (Nat.le_refl _) (by omega)).mp c)]
    · rw [if_neg c, if_neg (fun z => c ((h j (Nat.le_refl _) (by omega)).mpr z))]
      exact ih (j + 1) (fun q h1 h2 => h q (by omega) (by omega))
theorem decl_i {S : Nat → Stm} {κ x q : Nat} : decl S κ x q = 1 ↔ kd (S q) = κ ∧ wo (S q) 0 = x := by
  unfold decl
  by_cases c : kd (S q) = κ ∧ wo (S q) 0 = x
  · rw [if_pos c]; exact ⟨fun _ => c, fun _ => rfl⟩
  · rw [if_neg c]; exact ⟨fun z => absurd z (by decide), fun z => absurd z c⟩
theorem TR.nofE {a b n : Nat} {S S' : Nat → Stm} (h : TR a b n S S') {i k κ : Nat} (hi : i < n) (hk : k < sz (S i)) : nof S' κ (wo (S' i) k) n = nof S κ (wo (S i) k) n := by
  unfold nof
  rw [fnd_rel (f := decl S' κ (wo (S' i) k)) (g := decl S κ (wo (S i) k)) (x := 1) (x' := 1) n 0 (fun q _ hq => by
    rw [decl_i, decl_i, (h.1 q (by omega)).1]
    exact and_congr_right fun _ => (h.w (by omega) hi (h.s1 (by omega)) hk).symm)]
  cases e : fnd (decl S κ (wo (S i) k)) 1 0 n with
  | none => rfl
  | some q =>
    show some (cntk S' κ q) = some (cntk S κ q)
    rw [h.cnt κ q (by have := (fnd_some e).2.1; omega)]
theorem TR.tyN {a b n : Nat} {S S' : Nat → Stm} (h : TR a b n S S') {i k j : Nat} (hi : i < n) (hk : k < sz (S i)) (x : tyN S n (wo (S i) k) j) : tyN S' n (wo (S' i) k) j := by
  obtain ⟨q, q1, q2, q3, m, m1, m2⟩ := x
  exact ⟨q, q1, by rw [(h.1 q q1).1]; exact q2, by rw [h.cnt 1 q (by omega)]; exact q3, m, by rw [(h.1 q q1).2.1]; exact m1, (h.wd q1 hi m1 hk).mp m2⟩
theorem TR.abt {a b n : Nat} {S S' : Nat → Stm} (h : TR a b n S S') {i s t : Nat} (hi : i < n) (h2 : 2 ≤ sz (S i)) (x : abt a S n i s t) : abt b S' n i s t := by
  refine ⟨h.tyN hi (by omega) x.1, ?_⟩
  rcases x.2 with ⟨x1, x2⟩ | ⟨x1, x2⟩
  · exact Or.inl ⟨(h.self hi (by omega)).mp x1, x2⟩
  · exact Or.inr ⟨fun z => x1 ((h.self hi (by omega)).mpr z), h.tyN hi (by omega) x2⟩
theorem TR.msk {a b n : Nat} {S S' : Nat → Stm} (h : TR a b n S S') {i c j : Nat} (hi : i < n) (hc : c < sz (S i)) (x : msk S n i c j) : msk S' n i c j := by
  obtain ⟨q, q1, q2, m, m1, m2, m3, m4⟩ := x
  have hq : q < n := by omega
  refine ⟨q, by rw [(h.1 q hq).1]; exact q1, (h.w hq hi (h.s1 hq) hc).mp q2, m, m1, by rw [(h.1 i hi).2.1]; exact m2, ?_, m4⟩
  rw [(h.1 q hq).2.1, ← m3]
  exact fnd_rel _ _ (fun p h1 h2 => (h.wd hq hi (by omega) m2).symm)
theorem asg_c {R R' : Nat → Nat → Prop} {v v' : Nat → Nat} {D D' : Nat → Prop} {k : Nat} {f : Nat → Nat} (x : asg R v D k f) (hD : ∀ j, D' j → D j) (hR : ∀ i j, i < k → (R i j ↔ R' i j)) (hv : ∀ i j, i < k → R i j → v' i = v i) : asg R' v' D' k f := by
  intro j hj
  obtain ⟨x1, x2⟩ := x j (hD j hj)
  exact ⟨fun z => x1 (fun i hi w => z i hi ((hR i j hi).mp w)), fun i hi w => by rw [hv i j hi ((hR i j hi).mpr w)]; exact x2 i hi ((hR i j hi).mpr w)⟩
theorem acc_c {R R' : Nat → Nat → Nat → Prop} {D D' : Nat → Prop} {k : Nat} {f : Nat → Nat} (x : acc R D k f) (hD : ∀ j, D' j → D j) (hR : ∀ i j b, i < k → (R i j b ↔ R' i j b)) : acc R' D' k f := fun j hj => (x j (hD j hj)).c fun b => ⟨fun ⟨i, i1, i2⟩ => ⟨i, i1, (hR i j b i1).mp i2⟩, fun ⟨i, i1, i2⟩ => ⟨i, i1, (hR i j b i1).mpr i2⟩⟩
theorem TR.alj {a b n : Nat} {S S' : Nat → Stm} (h : TR a b n S S') {i j c : Nat} (hi : i < n) (x : alj a S n i j c) : alj b S' n i j c := by
  obtain ⟨x1, x2, x3, x4⟩ := x
  have hs := h.sk (m := 4) hi x1 (by decide)
  exact ⟨by rw [(h.1 i hi).1]; exact x1, by rw [h.nofE hi (by omega)]; exact x2, h.abt hi (by omega) x3, h.msk hi (by omega) x4⟩
theorem TR.mkj {a b n : Nat} {S S' : Nat → Stm} (h : TR a b n S S') {i j : Nat} (hi : i < n) (x : mkj S n i j) : mkj S' n i j := by
  obtain ⟨x1, x2, x3, x4⟩ := x
  have hs := h.sk (m := 4) hi x1 (by decide)
  exact ⟨by rw [(h.1 i hi).1]; exact x1, by rw [h.nofE hi (by omega)]; exact x2, by rw [h.nofE hi (by omega)]; exact x3, by rw [h.nofE hi (by omega)]; exact x4⟩
theorem TR.rkj {a b n : Nat} {S S' : Nat → Stm} (h : TR a b n S S') {i j : Nat} (hi : i < n) (x : rkj S n i j) : rkj S' n i j := ⟨by rw [(h.1 i hi).1]; exact x.1, by rw [h.nofE hi (h.s1 hi)]; exact x.2⟩
theorem TR.wij {a b n : Nat} {S S' : Nat → Stm} (h : TR a b n S S') {i j c : Nat} (hi : i < n) (x : wij S n i j c) : wij S' n i j c := ⟨by unfold whi; rw [(h.1 i hi).1, (h.1 i hi).2.2]; exact x.1, by rw [h.nofE hi (h.s1 hi)]; exact x.2.1, h.msk hi (h.s1 hi) x.2.2⟩
theorem TR.cp {a b n : Nat} {S S' : Nat → Stm} (h : TR a b n S S') {p : Pol} (x : CP a S n n p) : CP b S' n n p := by
  have g := h.symm
  obtain ⟨⟨x1, x2, x3⟩, x4, x5, x6, x7⟩ := x
  have eT := h.cnt 1 n (Nat.le_refl _)
  have eC := h.cnt 0 n (Nat.le_refl _)
  have hD : ∀ j, inD S' n j → inD S n j := fun j hj => by unfold inD at hj ⊢; rw [eT, eC] at hj; exact hj
  refine ⟨⟨by rw [eT]; exact x1, by rw [eC]; exact x2, fun i hi hk => ?_⟩, asg_c x4 (fun _ z => z) (fun i j hi => ⟨h.rkj hi, g.rkj hi⟩) (fun i j hi _ => (h.1 i hi).2.2), acc_c x5 hD (fun i j b hi => ⟨h.alj hi, g.alj hi⟩), asg_c x6 hD (fun i j hi => ⟨h.mkj hi, g.mkj hi⟩) (fun i j hi z => ?_), acc_c x7 (fun j z => by rw [eC] at z; exact z) (fun i j b hi => ⟨h.wij hi, g.wij hi⟩)⟩
  · rw [h.cnt 0 i (by omega), (h.1 i hi).2.1]
    exact x3 i hi (by rw [← (h.1 i hi).1]; exact hk)
  · have hs := h.sk (m := 4) hi z.1 (by decide)
    unfold mkv
    rw [h.nofE hi (by omega)]
theorem TR.agE {a b n : Nat} {S S' : Nat → Stm} (h : TR a b n S S') {p : Pol} {i : Nat} (hi : i < n) (x : ag a S n p i) : ag b S' n p i := by
  obtain ⟨x1, c, x2, s, x3, t, x4, x5, b', x6, x7⟩ := x
  have hs := h.sk (m := 4) hi x1 (by decide)
  exact ⟨by rw [(h.1 i hi).1]; exact x1, c, by rw [h.nofE hi (by omega)]; exact x2, s, x3, t, x4, h.abt hi (by omega) x5, b', x6, h.msk hi (by omega) x7⟩
theorem TR.agi {a b n : Nat} {S S' : Nat → Stm} (h : TR a b n S S') {p : Pol} {i : Nat} (hi : i < n) : ag a S n p i ↔ ag b S' n p i := ⟨h.agE hi, h.symm.agE hi⟩
/-- two policies that say the same -/
def PE (p q : Pol) : Prop := pT p = pT q ∧ pC p = pC q ∧ (∀ c, c < pC p → pPm p c = pPm q c) ∧ (∀ t, t < pT p → pRk p t = pRk q t) ∧ (∀ s t c, s < pT p → t < pT p → c < pC p → pAl p (cel s t c) = pAl q (cel s t c) ∧ pPr p (cel s t c) = pPr q (cel s t c)) ∧ ∀ c w, c < pC p → w < 5 → pMs p (c * 5 + w) = pMs q (c * 5 + w)
theorem asg_u {R : Nat → Nat → Prop} {v : Nat → Nat} {D : Nat → Prop} {k j : Nat} {f g : Nat → Nat} (x : asg R v D k f) (y : asg R v D k g) (hj : D j) : f j = g j := by
  by_cases c : ∃ i, i < k ∧ R i j
  · obtain ⟨i, i1, i2⟩ := c
    rw [(x j hj).2 i i1 i2, (y j hj).2 i i1 i2]
  · rw [(x j hj).1 (fun i hi z => c ⟨i, hi, z⟩), (y j hj).1 (fun i hi z => c ⟨i, hi, z⟩)]
theorem CP_u {a n : Nat} {S : Nat → Stm} {p q : Pol} (hN : NW a S n) (x : CP a S n n p) (y : CP a S n n q) : PE p q := by
  obtain ⟨⟨x1, x2, x3⟩, x4, x5, x6, x7⟩ := x
  obtain ⟨⟨y1, y2, y3⟩, y4, y5, y6, y7⟩ := y
  have h8 := cnt8 hN n (Nat.le_refl _)
  have hD : ∀ s t c, s < pT p → t < pT p → c < pC p → inD S n (cel s t c) := fun s t c hs ht hc => by
    unfold inD
    rw [cel_S (by omega) (by omega), cel_T (by omega), cel_C (by omega) (by omega)]
    omega
  refine ⟨by omega, by omega, fun c hc => ?_, fun t ht => asg_u x4 y4 (by omega), fun s t c hs ht hc => ⟨(x5 _ (hD s t c hs ht hc)).eq (y5 _ (hD s t c hs ht hc)), asg_u x6 y6 (hD s t c hs ht hc)⟩, fun c w hc hw => (x7 _ (by omega)).eq (y7 _ (by omega))⟩
  obtain ⟨i, i1, i2, i3⟩ := cnt_sur (S := S) (κ := 0) (n := n) (j := c) (by omega)
  rw [← i3, x3 i i1 i2, y3 i i1 i2]
theorem RDP_u {f g : Nat → Nat} {n : Nat} {p q : Pol} (hW : WF f n) (hfg : ∀ j, j < n → f j = g j) (x : RDP f p) (y : RDP g q) : PE p q := by
  obtain ⟨⟨h2, ⟨t1, t8⟩, c1, c3⟩, hn, -⟩ := hW
  obtain ⟨⟨x1, x2⟩, x3, x4, x5⟩ := x
  obtain ⟨⟨y1, y2⟩, y3, y4, y5⟩ := y
  have e0 := hfg 0 (by omega)
  have e1 := hfg 1 (by omega)
  rw [← e0] at y1 y4 y5
  rw [← e1] at y2 y3 y4 y5
  have hb : n = 2 + f 1 + f 0 + f 1 * (2 * (f 0 * f 0) + 5) := hn
  have hk : ∀ c k, c < f 1 → k < 2 * (f 0 * f 0) + 5 → f (bAtc (f 0) (f 1) c + k) = g (bAtc (f 0) (f 1) c + k) := fun c k hc hk => hfg _ (by rw [hn]; exact blk_lt hc hk)
  refine ⟨by rw [x1, y1], by rw [x2, y2], fun c hc => ?_, fun t ht => ?_, fun s t c hs ht hc => ?_, fun c w hc hw => ?_⟩
  · rw [x2] at hc; rw [x3 c hc, y3 c hc]; exact hfg _ (by omega)
  · rw [x1] at ht; rw [x4 t ht, y4 t ht]; exact hfg _ (by omega)
  · rw [x1] at hs ht
    rw [x2] at hc
    have hq := (sq_back hs ht).1
    rw [(x5 c hc).1 s t hs ht, (y5 c hc).1 s t hs ht, (x5 c hc).2.1 s t hs ht, (y5 c hc).2.1 s t hs ht]
    exact ⟨hk c _ hc (by omega), hk c _ hc (by omega)⟩
  · rw [x2] at hc
    rw [(x5 c hc).2.2 w hw, (y5 c hc).2.2 w hw]
    exact hk c _ hc (by omega)
theorem WF_c' {f g : Nat → Nat} {n : Nat} (h : ∀ j, j < n → f j = g j) (x : WF f n) : WF g n := by
  obtain ⟨⟨h2, ⟨t1, t8⟩, c1, c3⟩, hn, a1, a2, a3⟩ := x
  have e0 := h 0 (by omega)
  have e1 := h 1 (by omega)
  have hb : n = 2 + f 1 + f 0 + f 1 * (2 * (f 0 * f 0) + 5) := hn
  unfold WF
  rw [← e0, ← e1]
  refine ⟨⟨h2, ⟨t1, t8⟩, c1, c3⟩, hn, fun c hc => by rw [← h _ (by omega)]; exact a1 c hc, fun t ht => by rw [← h _ (by omega)]; exact a2 t ht, fun c hc k hk => ?_⟩
  rw [← h _ (by rw [hn]; exact blk_lt hc hk), ← h (2 + c) (by omega)]
  exact a3 c hc k hk
/-- the model's first never against an allow is the class's -/
theorem agm_ag {y : MS} (hB : mB y) (hH : mH y) (hN : NW mSelf (mS y) (ms y 6)) {p : Pol} (hp : CP mSelf (mS y) (ms y 6) (ms y 6) p) {i : Nat} (hi : i < ms y 6) : agm y i ↔ ag mSelf (mS y) (ms y 6) p i := by
  obtain ⟨⟨p1, p2, -⟩, -, p5, -, -⟩ := hp
  have h8 := cnt8 hN (ms y 6) (Nat.le_refl _)
  constructor
  · rintro ⟨k3, r, hr, g1, g2, ⟨u, v, u1, u2, v1, v2, uv⟩, o, q, ho, hq, a1, a2⟩
    have s3 := hH.sk (m := 4) hi k3 (by decide)
    have ho : o < cntk (mS y) 1 (ms y 6) := ho
    have hq : q < cntk (mS y) 1 (ms y 6) := hq
    have s2 := hH.sk (m := 4) hr g1 (by decide)
    obtain ⟨c, n0, hc⟩ := nw23 hN hi (Or.inr k3) (hH i hi).1
    have e2 : wo (mS y r) 2 = wo (mS y i) 2 := by rw [wo_wd (by omega), wo_wd (by omega)]; exact g2
    have w3 := hN i hi
    have hP : areP (mS y) (ms y 6) i 2 := Classical.byContradiction fun z => w3 ((isWr2 (Or.inr k3)).mpr (Or.inr (Or.inr z)))
    obtain ⟨z, z1, z2, z3, m, m1, m2, m3⟩ := hP v v1 v2
    have hsz : wo (mS y i) v = wd (mS y i) v := wo_wd v2
    obtain ⟨b, hb⟩ : ∃ b, m = b + 1 := ⟨m - 1, by omega⟩
    have M1 : msk (mS y) (ms y 6) i 2 b := (msk_m hB hH hN (by omega) b).mp ⟨z, v, z1, z2, by rw [wo_wd (hH.s1 hB z1), wo_wd (by omega)] at z3; exact z3, by omega, by omega, by omega, v2, by rw [← hb, m3, hsz]⟩
    have M2 : msk (mS y) (ms y 6) r 2 b := (msk_m hB hH hN (by omega) b).mp ⟨z, u, z1, z2, by rw [wo_wd (hH.s1 hB z1), wo_wd (by omega)] at z3; rw [z3]; exact g2.symm, by omega, by omega, by omega, u2, by rw [← hb, m3, hsz]; exact uv.symm⟩
    have hD : inD (mS y) (ms y 6) (cel o q c) := by
      unfold inD
      rw [cel_S (by omega) (by omega), cel_T (by omega), cel_C (by omega) (by omega)]
      exact ⟨ho, hq, hc⟩
    refine ⟨k3, c, n0, o, by omega, q, by omega, a1, b, ((p5 _ hD).2 b).mpr ⟨r, hr, g1, ?_, ?_, M2⟩, M1⟩
    · rw [e2, cel_C (by omega) (by omega)]; exact n0
    · rw [cel_S (by omega) (by omega), cel_T (by omega)]; exact a2
  · rintro ⟨k3, c, n0, o, ho, q, hq, a1, b, tb, M1⟩
    have s3 := hH.sk (m := 4) hi k3 (by decide)
    obtain ⟨c', n0', hc⟩ := nw23 hN hi (Or.inr k3) (hH i hi).1
    rw [n0] at n0'
    cases n0'
    have hD : inD (mS y) (ms y 6) (cel o q c) := by
      unfold inD
      rw [cel_S (by omega) (by omega), cel_T (by omega), cel_C (by omega) (by omega)]
      exact ⟨by omega, by omega, hc⟩
    obtain ⟨r, hr, g1, g2, a2, M2⟩ := ((p5 _ hD).2 b).mp tb
    rw [cel_C (by omega) (by omega)] at g2
    rw [cel_S (by omega) (by omega), cel_T (by omega)] at a2
    have s2 := hH.sk (m := 4) hr g1 (by decide)
    have e2 := nof_inj g2 n0
    obtain ⟨z, v, z1, z2, z3, z4, z5, z6, z7, z8⟩ := (msk_m hB hH hN (s := i) (m := 2) (by omega) b).mpr M1
    obtain ⟨w, u, w1, w2, w3, w4, w5, w6, w7, w8⟩ := (msk_m hB hH hN (s := r) (m := 2) (by omega) b).mpr M2
    rw [wo_wd (by omega), wo_wd (by omega)] at e2
    have ezw : z = w := by
      rcases Nat.lt_trichotomy z w with q' | q' | q'
      · exact absurd ((isWr0 w2).mpr (Or.inl ((rep_1 w2).mpr ⟨z, q', z2, by rw [wo_wd (hH.s1 hB z1), wo_wd (hH.s1 hB w1), z3, w3, e2]⟩))) (hN w w1)
      · exact q'
      · exact absurd ((isWr0 z2).mpr (Or.inl ((rep_1 z2).mpr ⟨w, q', w2, by rw [wo_wd (hH.s1 hB z1), wo_wd (hH.s1 hB w1), z3, w3, e2]⟩))) (hN z z1)
    subst ezw
    exact ⟨k3, r, hr, g1, e2, ⟨u, v, w6, w7, z6, z7, w8.symm.trans z8⟩, o, q, (show o < cntk (mS y) 1 (ms y 6) by omega), (show q < cntk (mS y) 1 (ms y 6) by omega), a1, a2⟩
theorem FA_u {n : Nat} {P : Nat → Prop} {r r' : Option Nat} (x : (∀ i, r = some i → i < n ∧ P i ∧ ∀ j, j < i → ¬ P j) ∧ (r = none → ∀ j, j < n → ¬ P j)) (y : (∀ i, r' = some i → i < n ∧ P i ∧ ∀ j, j < i → ¬ P j) ∧ (r' = none → ∀ j, j < n → ¬ P j)) : r = r' := by
  cases r with
  | none =>
    cases r' with
    | none => rfl
    | some j => exact absurd (y.1 j rfl).2.1 (x.2 rfl j (y.1 j rfl).1)
  | some i =>
    cases r' with
    | none => exact absurd (x.1 i rfl).2.1 (y.2 rfl i (x.1 i rfl).1)
    | some j =>
      congr 1
      rcases Nat.lt_trichotomy i j with q | q | q
      · exact absurd (x.1 i rfl).2.1 ((y.1 j rfl).2.2 i q)
      · exact q
      · exact absurd (y.1 j rfl).2.1 ((x.1 i rfl).2.2 j q)
