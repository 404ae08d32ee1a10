/-! THE LOGIC, 2: the heap, calls, returns -/
theorem eRel.one {G : EG} {h : EH} {H : Heap} (R : eRel G h H) {a : Nat} {e : va_E} (ha : h.2 a = some e) : va_P (eD G) vwCl [(a, e)] H := by
  intro k q hk
  have hz : k < 1 := (List.getElem?_eq_some_iff.mp hk).1
  rw [show k = 0 by omega] at hk
  cases hk
  exact (R.2.2 a e ha).1
theorem eRel.up {G : EG} {h : EH} {H H1 : Heap} (R : eRel G h H) {a : Nat} {e0 e : va_E} (ha : h.2 a = some e0) (he : va_at (eD G) vwCl (a, e) H1) (hz : H1.size = H.size) (ho : ∀ q : Nat, q ≠ a → H1[q]? = H[q]?) : eRel G (hup h a e) H1 := by
  refine ⟨hz.trans R.1, R.2.1, fun b x hx => ?_⟩
  by_cases hb : b = a
  · subst hb
    have : x = e := by
      have h9 : (if b = b then some e else h.2 b) = some x := hx
      rw [if_pos rfl] at h9
      exact (Option.some.inj h9).symm
    subst this
    exact ⟨he, (R.2.2 b e0 ha).2⟩
  · have h9 : (if b = a then some e else h.2 b) = some x := hx
    rw [if_neg hb] at h9
    exact ⟨(R.2.2 b x h9).1.kept (ho b hb), (R.2.2 b x h9).2⟩
theorem eRel.born {G : EG} {h : EH} {H H1 : Heap} (R : eRel G h H) {e : va_E} (he : va_at (eD G) vwCl (H.size, e) H1) (hz : H1.size = H.size + 1) (ho : ∀ q : Nat, q < H.size → H1[q]? = H[q]?) : eRel G (hnew h e) H1 := by
  refine ⟨by rw [hz, R.1]; rfl, Nat.le_trans R.2.1 (Nat.le_succ _), fun b x hx => ?_⟩
  by_cases hb : b = h.1
  · subst hb
    have : x = e := by
      have h9 : (if h.1 = h.1 then some e else h.2 h.1) = some x := hx
      rw [if_pos rfl] at h9
      exact (Option.some.inj h9).symm
    subst this
    rw [← R.1]
    exact ⟨he, by rw [R.1]; exact R.2.1⟩
  · have h9 : (if b = h.1 then some e else h.2 b) = some x := hx
    rw [if_neg hb] at h9
    have h8 := R.2.2 b x h9
    exact ⟨h8.1.kept (ho b h8.1.lt), h8.2⟩
theorem eS_put {G : EG} {s : State} {H H1 : Heap} {locs : List Loc} {a i : Nat} (S : va_S (eF G) s.heap H locs) (hz : H1.size = H.size) (ho : ∀ q : Nat, q ≠ a → H1[q]? = H[q]?) (ha : eb G ≤ a) : va_S (eF G) s.heap H1 (locs ++ [⟨a, i⟩]) := S.put hz ho ha
theorem eS_new {G : EG} {s : State} {H H1 : Heap} {locs : List Loc} (S : va_S (eF G) s.heap H locs) (hz : H1.size = H.size + 1) (ho : ∀ q : Nat, q < H.size → H1[q]? = H[q]?) : va_S (eF G) s.heap H1 locs :=
  ⟨Nat.le_trans S.1 (by omega), fun x h1 h2 => (ho x (Nat.lt_of_lt_of_le h1 S.1)).trans (S.2.1 x h1 h2), S.2.2⟩
/-- a field's link, by class number and place -/
def EGF (own : String) (idx ci j : Nat) : Prop := ∃ (C : String) (T : u_T) (N : Nat), vwCl[ci]? = some (C, T, N) ∧ (∀ w ∈ u_ws C T N, w ∈ egood) ∧ j < N ∧ Cond.fieldLink own idx (T j).1 (T j).2.1 (T j).2.2.1 ∈ egood
/-- beside it what a store asks: the field's type, and whether it is final -/
def EPF (own : String) (idx ci j : Nat) (ty : FieldType) (fin : Bool) : Prop := ∃ (C : String) (T : u_T) (N : Nat) (ty0 : Nat → FieldType), vwCl[ci]? = some (C, T, N) ∧ (∀ w ∈ u_ws C T N, w ∈ egood) ∧ j < N ∧ Cond.fieldLink own idx (T j).1 (T j).2.1 (T j).2.2.1 ∈ egood ∧
  (∀ k, k < N → parseFieldDescriptor (T k).2.2.1 = some (ty0 k)) ∧ (∀ a, a < N → ∀ b, b < N → a ≠ b → (T a).2.1 ≠ (T b).2.1) ∧ ty0 j = ty ∧ (T j).2.2.2 = fin ∧ (fin = true → (T j).1 = own)
/-- a class that is made -/
def ENW (own : String) (idx ci N : Nat) (fs : List Value) : Prop := ∃ (C : String) (T : u_T) (ty0 : Nat → FieldType), vwCl[ci]? = some (C, T, N) ∧ (∀ w ∈ u_ws C T N, w ∈ egood) ∧ (∀ k, k < N → parseFieldDescriptor (T k).2.2.1 = some (ty0 k)) ∧ Cond.classLink own idx C ∈ egood ∧ Cond.instantiable C N ∈ egood ∧ Cond.initialized C ∈ egood ∧ ∀ j, j < N → defaultValue (ty0 j) = vp_V fs j
section EXH
variable {G : EG} {l : Launch} {d : Nat} {M : EM} {Q : Option Value → EH → Prop} {X : String → EH → Prop} {k n pc : Nat} {lv : List (Nat × Value)} {rest st : List Value} {h : EH}
theorem ex_get {a ci idx j : Nat} {fs : List Value} {v : Value} (hd : decode (eC M) pc = .ok (.getfield idx, 3)) (hf : EGF (eY M).cls idx ci j) (hh : h.2 a = some (.inr (ci, fs))) (hv : fs[j]? = some v) (kk : Ex G l d M Q X k n (pc + 3) lv (v :: rest) h) : Ex G l d M Q X k n pc lv (.ref a :: rest) h := by
  intro p e s m args below meth c H locs ls cells slots mc ms C R S L e1 e2
  obtain ⟨C9, T9, N9, f1, f2, f3, f4⟩ := hf
  exact va_get (D := eD G) (cl := vwCl) (tys := etys G) (ws := [(a, .inr (ci, fs))]) C.1 C.2.1 C.2.2.2.2.1 f2 C.2.2.2.1 C.2.2.2.2.2.2.2.2.1 (R.one hh) 0 rfl f1 j f3 (C.2.2.2.2.1 _ f4) (fun _ h9 => h9) hv hd (kk p e s m args below meth c H locs ls cells slots mc ms C R S L e1 e2)
theorem ex_put {a ci idx j : Nat} {fs : List Value} {v : Value} {ty : FieldType} (hd : decode (eC M) pc = .ok (.putfield idx, 3)) (hf : EPF (eY M).cls idx ci j ty false) (hh : h.2 a = some (.inr (ci, fs))) (hl : j < fs.length) (hn : narrow ty v = v) (hfit : fits ty v = true) (kk : Ex G l d M Q X k n (pc + 3) lv rest (hup h a (.inr (ci, fs.set j v)))) : Ex G l d M Q X k n pc lv (v :: .ref a :: rest) h := by
  intro p e s m args below meth c H locs ls cells slots mc ms C R S L e1 e2
  obtain ⟨C9, T9, N9, ty0, hc, hin, hk, hlink, hty, hnm, ety, hfin, -⟩ := hf
  have hK := C.2.2.2.2.2.2.2.2.1
  have hts := C.2.2.2.2.1
  have hap := va_apart (own := (eY M).cls) hts hin ty0 hty hnm hK hc
  obtain ⟨⟨r, h1, cell, q1, q2, q3, q4⟩, hba⟩ := R.2.2 a _ hh
  have hr : r = (C9, T9, N9) := Option.some.inj (h1.symm.trans hc)
  subst hr
  obtain ⟨hS, hfc, kC, hkC, hkind⟩ := hK.1 ci _ hc
  obtain ⟨cf, kf, fi, f, hi, hsl⟩ := hS j hk
  have hlay := hts _ (hin _ (u_in_lay hk))
  unfold u_lay at hlay
  rw [if_neg (by rw [hfin]; decide)] at hlay
  have hst := (u_facts hfc hkC (u_lays hts hin hk) hi).1
  have h6 := u_store hfc hkC hkind hlay hi (by rw [← ety]; exact hty j hk) hn hfit
  refine W.putK C.1 C.2.1 (f := f) ⟨C.2.2.2.1, hts _ hlink, ⟨_, _, _, hi⟩, hst⟩ (by rw [q2]; exact h6) q1 q3 (by rw [hsl]; exact k2_hasslot (q4 j hk)) rfl rfl hd fun H' e1' e2' e3' => ?_
  rw [hsl] at e1' ⊢
  exact kk p e s m args below meth c H' _ ls cells slots mc ms C (R.up hh ⟨_, hc, t_OB.to (V := updV (vp_V fs) j v) ⟨_, e1', q2, q3, t_set q4 hap hk v⟩ (fun i _ => vp_updV_set hl v i)⟩ e2' e3') (S.put e2' e3' hba) L e1 e2
theorem ex_putF {a ci idx j : Nat} {fs : List Value} {v : Value} {ty : FieldType} (hd : decode (eC M) pc = .ok (.putfield idx, 3)) (hf : EPF (eY M).cls idx ci j ty true) (hini : (eY M).name = "<init>") (hh : h.2 a = some (.inr (ci, fs))) (hl : j < fs.length) (hn : narrow ty v = v) (hfit : fits ty v = true) (kk : Ex G l d M Q X k n (pc + 3) lv rest (hup h a (.inr (ci, fs.set j v)))) : Ex G l d M Q X k n pc lv (v :: .ref a :: rest) h := by
  intro p e s m args below meth c H locs ls cells slots mc ms C R S L e1 e2
  obtain ⟨C9, T9, N9, ty0, hc, hin, hk, hlink, hty, hnm, ety, hfin, hdecl⟩ := hf
  have hK := C.2.2.2.2.2.2.2.2.1
  have hts := C.2.2.2.2.1
  have hap := va_apart (own := (eY M).cls) hts hin ty0 hty hnm hK hc
  obtain ⟨⟨r, h1, cell, q1, q2, q3, q4⟩, hba⟩ := R.2.2 a _ hh
  have hr : r = (C9, T9, N9) := Option.some.inj (h1.symm.trans hc)
  subst hr
  obtain ⟨hS, hfc, kC, hkC, hkind⟩ := hK.1 ci _ hc
  obtain ⟨cf, kf, fi, f, hi, hsl⟩ := hS j hk
  have hlay := hts _ (hin _ (u_in_lay hk))
  unfold u_lay at hlay
  rw [if_pos hfin] at hlay
  have hst := (u_facts hfc hkC (u_lays hts hin hk) hi).1
  have hcf : m.cls = cf := by
    obtain ⟨_, _, c', _, _, _, -, -, hf', -, -, -, hown2, -⟩ := Cond.laysFinal_spec hlay
    have z1 : c' = cf := by have := hi.symm.trans hf'; simp at this; exact this.1.symm
    rw [hdecl rfl] at hown2
    rw [← z1]; exact Option.some.inj (C.2.2.2.1.symm.trans hown2)
  have h6 := u_fits hfc hkC hkind (Or.inr hlay) hi (by rw [← ety]; exact hty j hk) hn hfit
  refine W.putFinK C.1 C.2.1 C.2.2.2.1 (hts _ hlink) hi hst hcf (C.2.2.2.2.2.2.2.1.1.trans hini) (by rw [q2]; exact h6) q1 q3 (by rw [hsl]; exact k2_hasslot (q4 j hk)) rfl rfl hd fun H' e1' e2' e3' => ?_
  rw [hsl] at e1' ⊢
  exact kk p e s m args below meth c H' _ ls cells slots mc ms C (R.up hh ⟨_, hc, t_OB.to (V := updV (vp_V fs) j v) ⟨_, e1', q2, q3, t_set q4 hap hk v⟩ (fun i _ => vp_updV_set hl v i)⟩ e2' e3') (S.put e2' e3' hba) L e1 e2
theorem ex_gets {idx : Nat} {z : String × String × String × Value} (hd : decode (eC M) pc = .ok (.getstatic idx, 3)) (hz : z ∈ eZ G) (hl : Cond.fieldLink (eY M).cls idx z.1 z.2.1 z.2.2.1 ∈ egood) (kk : Ex G l d M Q X k n (pc + 3) lv (z.2.2.2 :: rest) h) : Ex G l d M Q X k n pc lv rest h := by
  intro p e s m args below meth c H locs ls cells slots mc ms C R S L e1 e2
  exact va_gets C.1 C.2.1 (C.2.2.2.2.2.2.2.2.2.1.1 z hz) S C.2.2.2.1 (C.2.2.2.2.1 _ hl) (fun _ h9 => h9) hd (kk p e s m args below meth c H locs ls cells slots mc ms C R S L e1 e2)
theorem ex_getsN {idx : Nat} {z : String × String × String × Value} {host : String} (hd : decode (eC M) pc = .ok (.getstatic idx, 3)) (hz : z ∈ eZ G) (hl : Cond.fieldLinkNest (eY M).cls idx z.1 z.2.1 z.2.2.1 host ∈ lw_tbl) (kk : Ex G l d M Q X k n (pc + 3) lv (z.2.2.2 :: rest) h) : Ex G l d M Q X k n pc lv rest h := by
  intro p e s m args below meth c H locs ls cells slots mc ms C R S L e1 e2
  exact va_getsN C.1 C.2.1 (C.2.2.2.2.2.2.2.2.2.1.1 z hz) S C.2.2.2.1 (va_Nw.use rfl (C.2.2.2.2.2.2.2.2.2.2.2.2.2.2.1 _ _ _ _ _ _ hl)) (fun _ h9 => h9) hd (kk p e s m args below meth c H locs ls cells slots mc ms C R S L e1 e2)
theorem ex_getc {idx : Nat} {z : String × String × String × Value × Nat} (hd : decode (eC M) pc = .ok (.getfield idx, 3)) (hz : eOF G z) (hl : Cond.fieldLink (eY M).cls idx z.1 z.2.1 z.2.2.1 ∈ egood) (kk : Ex G l d M Q X k n (pc + 3) lv (z.2.2.2.1 :: rest) h) : Ex G l d M Q X k n pc lv (.ref z.2.2.2.2 :: rest) h := by
  intro p e s m args below meth c H locs ls cells slots mc ms C R S L e1 e2
  exact vk_getf C.1 C.2.1 (C.2.2.2.2.2.2.2.2.2.1.2.2.1 z hz) S C.2.2.2.1 (C.2.2.2.2.1 _ hl) (fun _ h9 => h9) hd (kk p e s m args below meth c H locs ls cells slots mc ms C R S L e1 e2)
theorem ex_getcN {idx : Nat} {z : String × String × String × Value × Nat} {host : String} (hd : decode (eC M) pc = .ok (.getfield idx, 3)) (hz : eOF G z) (hl : Cond.fieldLinkNest (eY M).cls idx z.1 z.2.1 z.2.2.1 host ∈ lw_tbl) (kk : Ex G l d M Q X k n (pc + 3) lv (z.2.2.2.1 :: rest) h) : Ex G l d M Q X k n pc lv (.ref z.2.2.2.2 :: rest) h := by
  intro p e s m args below meth c H locs ls cells slots mc ms C R S L e1 e2
  obtain ⟨cf, kf, i, f, cell, o1, o2, o3, o4, o5, o6⟩ := (C.2.2.2.2.2.2.2.2.2.1.2.2.1 z hz).kept S.2.1
  exact va_Wgetf C.1 C.2.1 C.2.2.2.1 (va_Nw.use rfl (C.2.2.2.2.2.2.2.2.2.2.2.2.2.2.1 _ _ _ _ _ _ hl)) o1 o2 o3 o4 o5 rfl rfl hd (kk p e s m args below meth c H locs ls cells slots mc ms C R S L e1 e2)
theorem ex_iald {a N : Nat} {f : Nat → Int32} {i : Int32} (hd : decode (eC M) pc = .ok (.iaload, 1)) (hh : h.2 a = some (.inl (eA G 0, N, .inl f))) (hin : vp_in i N) (kk : Ex G l d M Q X k n (pc + 1) lv (.int (f i.toNatClampNeg) :: rest) h) : Ex G l d M Q X k n pc lv (.int i :: .ref a :: rest) h := by
  intro p e s m args below meth c H locs ls cells slots mc ms C R S L e1 e2
  exact va_iald (D := eD G) (cl := vwCl) (tys := etys G) (ws := [(a, .inl (eA G 0, N, .inl f))]) C.1 C.2.1 C.2.2.2.2.2.2.2.2.1 (R.one hh) 0 0 rfl rfl hin hd (kk p e s m args below meth c H locs ls cells slots mc ms C R S L e1 e2)
theorem ex_lald {a N : Nat} {f : Nat → Int64} {i : Int32} (hd : decode (eC M) pc = .ok (.laload, 1)) (hh : h.2 a = some (.inl (eA G 1, N, .inr (.inl f)))) (hin : vp_in i N) (kk : Ex G l d M Q X k n (pc + 1) lv (.long (f i.toNatClampNeg) :: rest) h) : Ex G l d M Q X k n pc lv (.int i :: .ref a :: rest) h := by
  intro p e s m args below meth c H locs ls cells slots mc ms C R S L e1 e2
  exact va_lald (D := eD G) (cl := vwCl) (tys := etys G) (ws := [(a, .inl (eA G 1, N, .inr (.inl f)))]) C.1 C.2.1 C.2.2.2.2.2.2.2.2.1 (R.one hh) 0 1 rfl rfl hin hd (kk p e s m args below meth c H locs ls cells slots mc ms C R S L e1 e2)
theorem ex_cald {a N : Nat} {f : Nat → Int32} {i : Int32} (hd : decode (eC M) pc = .ok (.caload, 1)) (hh : h.2 a = some (.inl (eA G 2, N, .inl f))) (hin : vp_in i N) (kk : Ex G l d M Q X k n (pc + 1) lv (.int (f i.toNatClampNeg) :: rest) h) : Ex G l d M Q X k n pc lv (.int i :: .ref a :: rest) h := by
  intro p e s m args below meth c H locs ls cells slots mc ms C R S L e1 e2
  exact va_cald (D := eD G) (cl := vwCl) (tys := etys G) (ws := [(a, .inl (eA G 2, N, .inl f))]) C.1 C.2.1 C.2.2.2.2.2.2.2.2.1 (R.one hh) 0 2 rfl rfl hin hd (kk p e s m args below meth c H locs ls cells slots mc ms C R S L e1 e2)
theorem ex_zald {a N : Nat} {f : Nat → Int32} {i : Int32} (hd : decode (eC M) pc = .ok (.baload, 1)) (hh : h.2 a = some (.inl (eA G 3, N, .inl f))) (hin : vp_in i N) (kk : Ex G l d M Q X k n (pc + 1) lv (.int (f i.toNatClampNeg) :: rest) h) : Ex G l d M Q X k n pc lv (.int i :: .ref a :: rest) h := by
  intro p e s m args below meth c H locs ls cells slots mc ms C R S L e1 e2
  exact va_zald (D := eD G) (cl := vwCl) (tys := etys G) (ws := [(a, .inl (eA G 3, N, .inl f))]) C.1 C.2.1 C.2.2.2.2.2.2.2.2.1 (R.one hh) 0 3 rfl rfl hin hd (kk p e s m args below meth c H locs ls cells slots mc ms C R S L e1 e2)
theorem ex_aldq {a N : Nat} {f : Nat → Option Nat} {i : Int32} (hd : decode (eC M) pc = .ok (.aaload, 1)) (hh : h.2 a = some (.inl (eA G 4, N, .inr (.inr (.inr (.inr f)))))) (hin : vp_in i N) (kk : Ex G l d M Q X k n (pc + 1) lv (va_rf (f i.toNatClampNeg) :: rest) h) : Ex G l d M Q X k n pc lv (.int i :: .ref a :: rest) h := by
  intro p e s m args below meth c H locs ls cells slots mc ms C R S L e1 e2
  exact va_aldq (D := eD G) (cl := vwCl) (tys := etys G) (ws := [(a, .inl (eA G 4, N, .inr (.inr (.inr (.inr f)))))]) C.1 C.2.1 C.2.2.2.2.2.2.2.2.1 (R.one hh) 0 4 rfl rfl hin hd (kk p e s m args below meth c H locs ls cells slots mc ms C R S L e1 e2)
theorem ex_alen {a t : Nat} {x : vp_A} {ty : FieldType} {v : Int32} (hd : decode (eC M) pc = .ok (.arraylength, 1)) (hh : h.2 a = some (.inl (eA G t, x))) (ht : (etys G)[t]? = some (eA G t, ty)) (hv : Int32.ofNat x.1 = v) (kk : Ex G l d M Q X k n (pc + 1) lv (.int v :: rest) h) : Ex G l d M Q X k n pc lv (.ref a :: rest) h := by
  intro p e s m args below meth c H locs ls cells slots mc ms C R S L e1 e2
  exact va_alen (D := eD G) (cl := vwCl) (tys := etys G) (ws := [(a, .inl (eA G t, x))]) C.1 C.2.1 C.2.2.2.2.2.2.2.2.1 (R.one hh) 0 t rfl ht hv hd (kk p e s m args below meth c H locs ls cells slots mc ms C R S L e1 e2)
theorem ex_iast {a N : Nat} {f : Nat → Int32} {i : Int32} {x : Int32} (hd : decode (eC M) pc = .ok (.iastore, 1)) (hh : h.2 a = some (.inl (eA G 0, N, .inl f))) (hin : vp_in i N) (kk : Ex G l d M Q X k n (pc + 1) lv rest (hup h a (.inl (eA G 0, N, .inl (upd f i.toNatClampNeg x))))) : Ex G l d M Q X k n pc lv (.int x :: .int i :: .ref a :: rest) h := by
  intro p e s m args below meth c H locs ls cells slots mc ms C R S L e1 e2
  have hat : H[a]? = some (vp_cell (eA G 0) (N, .inl f)) := (R.2.2 a _ hh).1
  refine W.iast C.1 C.2.1 hat ((C.2.2.2.2.2.2.2.2.1.2 0 _ rfl).1 N (fun j => .int (f j))) (fun q => by cases q) (by show ¬ (i < 0 ∨ (arrV _ _ _).slots.size ≤ _); rw [arrV_size]; exact hin) rfl rfl hd fun H1 ee z oq => ?_
  refine kk p e s m args below meth c H1 _ ls cells slots mc ms C (R.up hh ?_ z oq) (S.put z oq (R.2.2 a _ hh).2) L e1 e2
  show H1[a]? = some (vp_cell _ _)
  rw [ee]
  rw [vp_cell_i, vp_cell_i, arrV_store]
  congr 2
  funext q
  by_cases hq : q = i.toNatClampNeg
  · subst hq
    simp [updV, upd]
    try rfl
  · simp [updV, upd, hq]
theorem ex_last {a N : Nat} {f : Nat → Int64} {i : Int32} {x : Int64} (hd : decode (eC M) pc = .ok (.lastore, 1)) (hh : h.2 a = some (.inl (eA G 1, N, .inr (.inl f)))) (hin : vp_in i N) (kk : Ex G l d M Q X k n (pc + 1) lv rest (hup h a (.inl (eA G 1, N, .inr (.inl (vp_updL f i.toNatClampNeg x)))))) : Ex G l d M Q X k n pc lv (.long x :: .int i :: .ref a :: rest) h := by
  intro p e s m args below meth c H locs ls cells slots mc ms C R S L e1 e2
  have hat : H[a]? = some (vp_cell (eA G 1) (N, .inr (.inl f))) := (R.2.2 a _ hh).1
  refine W.last C.1 C.2.1 hat ((C.2.2.2.2.2.2.2.2.1.2 1 _ rfl).1 N (fun j => .long (f j))) (fun q => by cases q) (by show ¬ (i < 0 ∨ (arrV _ _ _).slots.size ≤ _); rw [arrV_size]; exact hin) rfl rfl hd fun H1 ee z oq => ?_
  refine kk p e s m args below meth c H1 _ ls cells slots mc ms C (R.up hh ?_ z oq) (S.put z oq (R.2.2 a _ hh).2) L e1 e2
  show H1[a]? = some (vp_cell _ _)
  rw [ee]
  rw [vp_cell_l, vp_cell_l, arrV_store]
  congr 2
  funext q
  by_cases hq : q = i.toNatClampNeg
  · subst hq
    simp [updV, vp_updL]
    try rfl
  · simp [updV, vp_updL, hq]
theorem ex_cast {a N : Nat} {f : Nat → Int32} {i : Int32} {x : Int32} (hd : decode (eC M) pc = .ok (.castore, 1)) (hh : h.2 a = some (.inl (eA G 2, N, .inl f))) (hin : vp_in i N) (kk : Ex G l d M Q X k n (pc + 1) lv rest (hup h a (.inl (eA G 2, N, .inl (upd f i.toNatClampNeg (vp_nar .char x)))))) : Ex G l d M Q X k n pc lv (.int x :: .int i :: .ref a :: rest) h := by
  intro p e s m args below meth c H locs ls cells slots mc ms C R S L e1 e2
  have hat : H[a]? = some (vp_cell (eA G 2) (N, .inl f)) := (R.2.2 a _ hh).1
  refine W.cast C.1 C.2.1 hat ((C.2.2.2.2.2.2.2.2.1.2 2 _ rfl).1 N (fun j => .int (f j))) (fun q => by cases q) (by show ¬ (i < 0 ∨ (arrV _ _ _).slots.size ≤ _); rw [arrV_size]; exact hin) rfl rfl hd fun H1 ee z oq => ?_
  refine kk p e s m args below meth c H1 _ ls cells slots mc ms C (R.up hh ?_ z oq) (S.put z oq (R.2.2 a _ hh).2) L e1 e2
  show H1[a]? = some (vp_cell _ _)
  rw [ee]
  rw [vp_cell_i, vp_cell_i, arrV_store]
  congr 2
  funext q
  by_cases hq : q = i.toNatClampNeg
  · subst hq
    simp [updV, upd, vp_nar]
    try rfl
  · simp [updV, upd, hq]
theorem ex_zast {a N : Nat} {f : Nat → Int32} {i : Int32} {x : Int32} (hd : decode (eC M) pc = .ok (.bastore, 1)) (hh : h.2 a = some (.inl (eA G 3, N, .inl f))) (hin : vp_in i N) (kk : Ex G l d M Q X k n (pc + 1) lv rest (hup h a (.inl (eA G 3, N, .inl (upd f i.toNatClampNeg (vp_nar .boolean x)))))) : Ex G l d M Q X k n pc lv (.int x :: .int i :: .ref a :: rest) h := by
  intro p e s m args below meth c H locs ls cells slots mc ms C R S L e1 e2
  have hat : H[a]? = some (vp_cell (eA G 3) (N, .inl f)) := (R.2.2 a _ hh).1
  refine W.zast C.1 C.2.1 hat ((C.2.2.2.2.2.2.2.2.1.2 3 _ rfl).1 N (fun j => .int (f j))) (fun q => by cases q) (by show ¬ (i < 0 ∨ (arrV _ _ _).slots.size ≤ _); rw [arrV_size]; exact hin) rfl rfl hd fun H1 ee z oq => ?_
  refine kk p e s m args below meth c H1 _ ls cells slots mc ms C (R.up hh ?_ z oq) (S.put z oq (R.2.2 a _ hh).2) L e1 e2
  show H1[a]? = some (vp_cell _ _)
  rw [ee]
  rw [vp_cell_i, vp_cell_i, arrV_store]
  congr 2
  funext q
  by_cases hq : q = i.toNatClampNeg
  · subst hq
    simp [updV, upd, vp_nar]
    try rfl
  · simp [updV, upd, hq]
theorem ex_astq {a N v : Nat} {f : Nat → Option Nat} {i : Int32} {vs : List Value} (hd : decode (eC M) pc = .ok (.aastore, 1)) (hh : h.2 a = some (.inl (eA G 4, N, .inr (.inr (.inr (.inr f)))))) (hin : vp_in i N) (hv : h.2 v = some (.inr (5, vs))) (kk : Ex G l d M Q X k n (pc + 1) lv rest (hup h a (.inl (eA G 4, N, .inr (.inr (.inr (.inr (va_up f i.toNatClampNeg (some v))))))))) : Ex G l d M Q X k n pc lv (.ref v :: .int i :: .ref a :: rest) h := by
  intro p e s m args below meth c H locs ls cells slots mc ms C R S L e1 e2
  have hlt : i.toNatClampNeg < N := Nat.not_le.mp fun q => hin (Or.inr q)
  have h0 : ¬ i < 0 := fun q => hin (Or.inl q)
  have hat : H[a]? = some (vp_cell (eA G 4) (N, .inr (.inr (.inr (.inr f))))) := (R.2.2 a _ hh).1
  obtain ⟨⟨r', hr', cellV, g1, g2, g3, -⟩, -⟩ := R.2.2 v _ hv
  have hK := C.2.2.2.2.2.2.2.2.1
  have hcls := (hK.1 5 (RX9, TX9, 4) rfl).2
  obtain ⟨kA, comp, k1, k2, k3, -⟩ := (hK.2 4 (eA G 4, .object "PolicyDesk$Statement") rfl).2
  have hcomp : comp = (eD G).1 5 := Option.some.inj (k3.symm.trans hcls.1)
  subst hcomp
  obtain ⟨kC, hkC, -⟩ := hcls.2
  refine W.aast C.1 C.2.1 hat (fun q h => by cases h) (fun h => by cases h) k1 k2 rfl hkC ⟨h0, by show _ < (arrV _ _ _).slots.size; rw [arrV_size]; exact hlt⟩ g1 (fun q h => by rw [g3] at h; cases h) (by rw [g2]; exact hkC) (by rw [g2]; exact va_assign hcls) rfl rfl hd fun H1 ee z oq => ?_
  refine kk p e s m args below meth c H1 _ ls cells slots mc ms C (R.up hh ?_ z oq) (S.put z oq (R.2.2 a _ hh).2) L e1 e2
  show H1[a]? = some (vp_cell _ _)
  rw [ee]
  rw [vp_cell_q, vp_cell_q, arrV_store]
  congr 2
  funext q
  by_cases hq : q = i.toNatClampNeg
  · subst hq
    simp [updV, va_up, va_rf]
  · simp [updV, va_up, hq]
theorem ex_tlen {z : FieldType × Nat × Nat × (Nat → Value)} {v : Int32} (hd : decode (eC M) pc = .ok (.arraylength, 1)) (hz : eT G z) (hv : Int32.ofNat z.2.2.1 = v) (kk : Ex G l d M Q X k n (pc + 1) lv (.int v :: rest) h) : Ex G l d M Q X k n pc lv (.ref z.2.1 :: rest) h := by
  intro p e s m args below meth c H locs ls cells slots mc ms C R S L e1 e2
  exact va_tlen C.1 C.2.1 (C.2.2.2.2.2.2.2.2.2.1.2.2.2.1 z hz) S hv hd (kk p e s m args below meth c H locs ls cells slots mc ms C R S L e1 e2)
theorem ex_tald {t N : Nat} {f : Nat → Value} {i : Int32} (hd : decode (eC M) pc = .ok (.iaload, 1)) (hz : eT G (.int, t, N, f)) (hin : vp_in i N) (kk : Ex G l d M Q X k n (pc + 1) lv (f i.toNatClampNeg :: rest) h) : Ex G l d M Q X k n pc lv (.int i :: .ref t :: rest) h := by
  intro p e s m args below meth c H locs ls cells slots mc ms C R S L e1 e2
  obtain ⟨cell, c1, c2, c3, c4, c5, c6, c7⟩ := (C.2.2.2.2.2.2.2.2.2.1.2.2.2.1 _ hz).kept S.2.1
  have hlt : i.toNatClampNeg < N := Nat.not_le.mp fun q => hin (Or.inr q)
  exact W.iald C.1 C.2.1 c1 c2 c3 (fun q => q.elim (fun q => hin (Or.inl q)) (fun q => hin (Or.inr (Nat.le_trans c4 q)))) (c6 _ hlt) rfl rfl hd (kk p e s m args below meth c H locs ls cells slots mc ms C R S L e1 e2)
theorem ex_tbld {t N : Nat} {f : Nat → Value} {i : Int32} (hd : decode (eC M) pc = .ok (.baload, 1)) (hz : eT G (.byte, t, N, f)) (hin : vp_in i N) (kk : Ex G l d M Q X k n (pc + 1) lv (f i.toNatClampNeg :: rest) h) : Ex G l d M Q X k n pc lv (.int i :: .ref t :: rest) h := by
  intro p e s m args below meth c H locs ls cells slots mc ms C R S L e1 e2
  obtain ⟨cell, c1, c2, c3, c4, c5, c6, c7⟩ := (C.2.2.2.2.2.2.2.2.2.1.2.2.2.1 _ hz).kept S.2.1
  have hlt : i.toNatClampNeg < N := Nat.not_le.mp fun q => hin (Or.inr q)
  exact W.bald C.1 C.2.1 c1 c2 c3 (fun q => q.elim (fun q => hin (Or.inl q)) (fun q => hin (Or.inr (Nat.le_trans c4 q)))) (c6 _ hlt) rfl rfl hd (kk p e s m args below meth c H locs ls cells slots mc ms C R S L e1 e2)
theorem ex_tqld {t N : Nat} {E : String} {f : Nat → Value} {i : Int32} (hd : decode (eC M) pc = .ok (.aaload, 1)) (hz : eT G (.object E, t, N, f)) (hin : vp_in i N) (kk : Ex G l d M Q X k n (pc + 1) lv (f i.toNatClampNeg :: rest) h) : Ex G l d M Q X k n pc lv (.int i :: .ref t :: rest) h := by
  intro p e s m args below meth c H locs ls cells slots mc ms C R S L e1 e2
  exact vb_tq C.1 C.2.1 (C.2.2.2.2.2.2.2.2.2.1.2.2.2.1 _ hz) S hin rfl hd (kk p e s m args below meth c H locs ls cells slots mc ms C R S L e1 e2)
theorem ex_new {idx ci N : Nat} {fs : List Value} (hd : decode (eC M) pc = .ok (.new idx, 3)) (hc : ENW (eY M).cls idx ci N fs) (kk : Ex G l d M Q X k n (pc + 3) lv (.ref h.1 :: rest) (hnew h (.inr (ci, fs)))) : Ex G l d M Q X (k + 1) (n + N) pc lv rest h := by
  intro p e s m args below meth c H locs ls cells slots mc ms C R S L e1 e2
  obtain ⟨C9, T9, ty0, f1, f2, f3, f4, f5, f6, f7⟩ := hc
  have hK := C.2.2.2.2.2.2.2.2.1
  have hts := C.2.2.2.2.1
  have hKn := hK.1 ci _ f1
  refine W.newcK C.1 C.2.1 C.2.2.2.1 (hts _ f4) (hts _ f5) (hts _ f6) rfl hd (by show cells + 1 ≤ mc; omega) (by show slots + N ≤ ms; omega) hKn.2.1 rfl fun H1 kC hkC w1 z1 o1 => ?_
  rw [R.1]
  refine kk p e s m args below meth c H1 locs ls (cells + 1) (slots + N) mc ms C (R.born ?_ z1 o1) (eS_new S z1 o1) L (by omega) (by omega)
  exact ⟨_, f1, (u_born ty0 hts f2 hKn hkC w1 f3).to f7⟩
theorem ex_newa_int {z : Int32} {N : Nat} (hd : decode (eC M) pc = .ok (.newarray .int, 2)) (hw : Cond.arrayClass .int ∈ egood) (h0 : ¬ z < 0) (hN : z.toNatClampNeg = N) (hb : N ≤ 60000000) (kk : Ex G l d M Q X k n (pc + 2) lv (.ref h.1 :: rest) (hnew h (.inl (eA G 0, N, .inl (fun _ => 0))))) : Ex G l d M Q X (k + 1) (n + N) pc lv (.int z :: rest) h := by
  intro p e s m args below meth c H locs ls cells slots mc ms C R S L e1 e2
  have hK := C.2.2.2.2.2.2.2.2.1
  refine va_newaK C.1 C.2.1 (atype := .int) (C.2.2.2.2.1 _ hw) rfl hd rfl h0 hN (by show N * 4 ≤ 536870912; omega) (by show cells + 1 ≤ mc; omega) (by show slots + N ≤ ms; omega) R.1 fun H1 cA w1 z1 o1 hAr hNm => ?_
  have hcA : cA = eA G 0 := Option.some.inj (hNm.symm.trans ((hK.2 0 (eA G 0, .int) rfl).2))
  subst hcA
  refine kk p e s m args below meth c H1 locs ls (cells + 1) (slots + N) mc ms C (R.born ?_ (by rw [z1, R.1]) (fun q hq => o1 q (by rw [← R.1]; exact hq))) (eS_new S (by rw [z1, R.1]) (fun q hq => o1 q (by rw [← R.1]; exact hq))) L (by omega) (by omega)
  show H1[H.size]? = some (vp_cell _ _)
  rw [R.1, w1]
  rfl
theorem ex_newa_long {z : Int32} {N : Nat} (hd : decode (eC M) pc = .ok (.newarray .long, 2)) (hw : Cond.arrayClass .long ∈ egood) (h0 : ¬ z < 0) (hN : z.toNatClampNeg = N) (hb : N ≤ 60000000) (kk : Ex G l d M Q X k n (pc + 2) lv (.ref h.1 :: rest) (hnew h (.inl (eA G 1, N, .inr (.inl (fun _ => 0)))))) : Ex G l d M Q X (k + 1) (n + N) pc lv (.int z :: rest) h := by
  intro p e s m args below meth c H locs ls cells slots mc ms C R S L e1 e2
  have hK := C.2.2.2.2.2.2.2.2.1
  refine va_newaK C.1 C.2.1 (atype := .long) (C.2.2.2.2.1 _ hw) rfl hd rfl h0 hN (by show N * 8 ≤ 536870912; omega) (by show cells + 1 ≤ mc; omega) (by show slots + N ≤ ms; omega) R.1 fun H1 cA w1 z1 o1 hAr hNm => ?_
  have hcA : cA = eA G 1 := Option.some.inj (hNm.symm.trans ((hK.2 1 (eA G 1, .long) rfl).2))
  subst hcA
  refine kk p e s m args below meth c H1 locs ls (cells + 1) (slots + N) mc ms C (R.born ?_ (by rw [z1, R.1]) (fun q hq => o1 q (by rw [← R.1]; exact hq))) (eS_new S (by rw [z1, R.1]) (fun q hq => o1 q (by rw [← R.1]; exact hq))) L (by omega) (by omega)
  show H1[H.size]? = some (vp_cell _ _)
  rw [R.1, w1]
  rfl
theorem ex_newa_char {z : Int32} {N : Nat} (hd : decode (eC M) pc = .ok (.newarray .char, 2)) (hw : Cond.arrayClass .char ∈ egood) (h0 : ¬ z < 0) (hN : z.toNatClampNeg = N) (hb : N ≤ 60000000) (kk : Ex G l d M Q X k n (pc + 2) lv (.ref h.1 :: rest) (hnew h (.inl (eA G 2, N, .inl (fun _ => 0))))) : Ex G l d M Q X (k + 1) (n + N) pc lv (.int z :: rest) h := by
  intro p e s m args below meth c H locs ls cells slots mc ms C R S L e1 e2
  have hK := C.2.2.2.2.2.2.2.2.1
  refine va_newaK C.1 C.2.1 (atype := .char) (C.2.2.2.2.1 _ hw) rfl hd rfl h0 hN (by show N * 2 ≤ 536870912; omega) (by show cells + 1 ≤ mc; omega) (by show slots + N ≤ ms; omega) R.1 fun H1 cA w1 z1 o1 hAr hNm => ?_
  have hcA : cA = eA G 2 := Option.some.inj (hNm.symm.trans ((hK.2 2 (eA G 2, .char) rfl).2))
  subst hcA
  refine kk p e s m args below meth c H1 locs ls (cells + 1) (slots + N) mc ms C (R.born ?_ (by rw [z1, R.1]) (fun q hq => o1 q (by rw [← R.1]; exact hq))) (eS_new S (by rw [z1, R.1]) (fun q hq => o1 q (by rw [← R.1]; exact hq))) L (by omega) (by omega)
  show H1[H.size]? = some (vp_cell _ _)
  rw [R.1, w1]
  rfl
theorem ex_newa_bool {z : Int32} {N : Nat} (hd : decode (eC M) pc = .ok (.newarray .boolean, 2)) (hw : Cond.arrayClass .boolean ∈ egood) (h0 : ¬ z < 0) (hN : z.toNatClampNeg = N) (hb : N ≤ 60000000) (kk : Ex G l d M Q X k n (pc + 2) lv (.ref h.1 :: rest) (hnew h (.inl (eA G 3, N, .inl (fun _ => 0))))) : Ex G l d M Q X (k + 1) (n + N) pc lv (.int z :: rest) h := by
  intro p e s m args below meth c H locs ls cells slots mc ms C R S L e1 e2
  have hK := C.2.2.2.2.2.2.2.2.1
  refine va_newaK C.1 C.2.1 (atype := .boolean) (C.2.2.2.2.1 _ hw) rfl hd rfl h0 hN (by show N * 1 ≤ 536870912; omega) (by show cells + 1 ≤ mc; omega) (by show slots + N ≤ ms; omega) R.1 fun H1 cA w1 z1 o1 hAr hNm => ?_
  have hcA : cA = eA G 3 := Option.some.inj (hNm.symm.trans ((hK.2 3 (eA G 3, .boolean) rfl).2))
  subst hcA
  refine kk p e s m args below meth c H1 locs ls (cells + 1) (slots + N) mc ms C (R.born ?_ (by rw [z1, R.1]) (fun q hq => o1 q (by rw [← R.1]; exact hq))) (eS_new S (by rw [z1, R.1]) (fun q hq => o1 q (by rw [← R.1]; exact hq))) L (by omega) (by omega)
  show H1[H.size]? = some (vp_cell _ _)
  rw [R.1, w1]
  rfl
theorem ex_newq {z : Int32} {N idx : Nat} (hd : decode (eC M) pc = .ok (.anewarray idx, 3)) (hw : Cond.classLink (eY M).cls idx "PolicyDesk$Statement" ∈ egood) (h0 : ¬ z < 0) (hN : z.toNatClampNeg = N) (hb : N ≤ 60000000) (kk : Ex G l d M Q X k n (pc + 3) lv (.ref h.1 :: rest) (hnew h (.inl (eA G 4, N, .inr (.inr (.inr (.inr (fun _ => none)))))))) : Ex G l d M Q X (k + 1) (n + N) pc lv (.int z :: rest) h := by
  intro p e s m args below meth c H locs ls cells slots mc ms C R S L e1 e2
  have hK := C.2.2.2.2.2.2.2.2.1
  subst hN
  refine W.anew C.1 C.2.1 C.2.2.2.1 (C.2.2.2.2.1 _ hw) (va_AO.use (C := "PolicyDesk$Statement") C.2.2.2.2.2.2.2.2.2.2.2.1) rfl hd rfl h0 (by omega) (by show cells + 1 ≤ mc; omega) (by show slots + _ ≤ ms; omega) fun cA kA comp f1 f2 f3 f4 => ?_
  obtain ⟨kA', comp', g1, g2, g3, g4⟩ := (hK.2 4 (eA G 4, .object "PolicyDesk$Statement") rfl).2
  have hcA : cA = eA G 4 := Option.some.inj (f1.symm.trans g4)
  subst hcA
  generalize hH1 : H.push ({ cls := eA G 4, slots := Array.replicate z.toNatClampNeg .null, vm := .none } : Cell) = H1
  have z1 : H1.size = H.size + 1 := by rw [← hH1, Array.size_push]
  have w1 : H1[H.size]? = some (arrV (eA G 4) z.toNatClampNeg (fun _ => .null)) := by rw [← hH1, Array.getElem?_push_size, ← arrV_new]
  have o1 : ∀ q : Nat, q < H.size → H1[q]? = H[q]? := fun q hq => by rw [← hH1, Array.getElem?_push, if_neg (Nat.ne_of_lt hq)]
  rw [R.1]
  refine kk p e s m args below meth c H1 locs ls (cells + 1) (slots + z.toNatClampNeg) mc ms C (R.born ?_ z1 o1) (eS_new S z1 o1) L (by omega) (by omega)
  show H1[H.size]? = some (vp_cell _ _)
  rw [w1]
  rfl
theorem ex_iret {v : Int32} (hd : decode (eC M) pc = .ok (.ireturn, 1)) (hr : eR M = some .int) (hq : Q (some (.int v)) h) : Ex G l d M Q X k n pc lv [.int v] h := by
  intro p e s m args below meth c H locs ls cells slots mc ms C R S L e1 e2
  refine W.widen (k := mc) (n := ms) (by omega) (by omega) (vx_ret ?_)
  exact W.iret C.1 C.2.1 (C.2.2.2.2.2.1.trans hr) (fun t ht hW => ⟨_, h, rfl, hq, by rw [ht]; exact R, S.F ht⟩) S.2.2 hd (hlocks := C.2.2.2.2.2.2.1)
theorem ex_zret {v : Int32} {ty : FieldType} (hd : decode (eC M) pc = .ok (.ireturn, 1)) (hr : eR M = some ty) (hn : narrow ty (.int v) = .int v) (hq : Q (some (.int v)) h) : Ex G l d M Q X k n pc lv [.int v] h := by
  intro p e s m args below meth c H locs ls cells slots mc ms C R S L e1 e2
  refine W.widen (k := mc) (n := ms) (by omega) (by omega) (vx_ret ?_)
  exact W.zret C.1 C.2.1 (C.2.2.2.2.2.1.trans hr) hn (fun t ht hW => ⟨_, h, rfl, hq, by rw [ht]; exact R, S.F ht⟩) S.2.2 hd (hlocks := C.2.2.2.2.2.2.1)
theorem ex_vret (hd : decode (eC M) pc = .ok (.return_, 1)) (hr : eR M = none) (hq : Q none h) : Ex G l d M Q X k n pc lv [] h := by
  intro p e s m args below meth c H locs ls cells slots mc ms C R S L e1 e2
  refine W.widen (k := mc) (n := ms) (by omega) (by omega) (vx_ret ?_)
  exact W.vret C.1 C.2.1 (C.2.2.2.2.2.1.trans hr) (fun t ht hW => ⟨_, h, rfl, hq, by rw [ht]; exact R, S.F ht⟩) S.2.2 hd (hlocks := C.2.2.2.2.2.2.1)
theorem ex_aret {a : Nat} {E : String} (hd : decode (eC M) pc = .ok (.areturn, 1)) (hr : eR M = some (.object E)) (hq : Q (some (.ref a)) h) : Ex G l d M Q X k n pc lv [.ref a] h := by
  intro p e s m args below meth c H locs ls cells slots mc ms C R S L e1 e2
  refine W.widen (k := mc) (n := ms) (by omega) (by omega) (vx_ret ?_)
  exact W.aret C.1 C.2.1 (C.2.2.2.2.2.1.trans hr) (Or.inl ⟨_, rfl⟩) (Or.inr ⟨_, rfl⟩) (fun t ht hW => ⟨_, h, rfl, hq, by rw [ht]; exact R, S.F ht⟩) S.2.2 hd (hlocks := C.2.2.2.2.2.2.1)
end EXH
