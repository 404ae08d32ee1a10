/-! THE LOGIC, 3: entry, calls -/
theorem eW.go {G : EG} {s U : State} {H : Heap} {locs : List Loc} (w : eW G s) (S : va_S (eF G) s.heap H locs) (hU : U.heap = H) (hW : s.WarmedH U.vm) : eW G U :=
  ⟨va_K.moved hW.alike w.1, eStat.moved hW.alike (by rw [hU]; exact w.2.1.kept S.2.1), fun i hi => vk_R.warm hW (w.2.2.1 i hi), va_AO.moved (C := "PolicyDesk$Statement") hW.alike w.2.2.2.1, by rw [hU]; exact Nat.le_trans w.2.2.2.2.1 S.1, eNst.warm hW w.2.2.2.2.2⟩
theorem eW.calling {G : EG} {U : State} (w : eW G U) (g : JFrame) (mk : MethodId) (a : Array Value) : eW G (U.calling g mk a) :=
  ⟨va_K.moved (u := U) (U := U.calling g mk a) (Vm.Alike.refl U.vm) w.1, eStat.moved (u := U) (U := U.calling g mk a) (Vm.Alike.refl U.vm) w.2.1, fun i hi => vk_R.same (u := U) (U := U.calling g mk a) rfl (w.2.2.1 i hi), va_AO.moved (C := "PolicyDesk$Statement") (u := U) (U := U.calling g mk a) (Vm.Alike.refl U.vm) w.2.2.2.1, w.2.2.2.2.1, eNst.same (s := U) (U := U.calling g mk a) rfl w.2.2.2.2.2⟩
theorem e_blind {G : EG} {As : List Value} {h : EH} : FrameBlind (va_Pc As (fun U => eRel G h U.heap ∧ eW G U)) := fun a U g mk q => ⟨q.1, q.2.1, q.2.2.calling g mk a⟩
theorem e_pre {G : EG} {As : List Value} {h : EH} {s : State} {H : Heap} {locs : List Loc} (w : eW G s) (S : va_S (eF G) s.heap H locs) (R : eRel G h H) : PreS s H (va_Pc As (fun U => eRel G h U.heap ∧ eW G U)) As := ⟨e_blind, fun U hU hW => ⟨rfl, by rw [hU]; exact R, w.go S hU hW⟩⟩
theorem es_of {G : EG} {l : Launch} {d : Nat} {M : EM} {As : List Value} {h : EH} {mc ms : Nat} {Q : Option Value → EH → Prop} {X : String → EH → Prop} (hy : plainName (eY M).cls = true) (hT : eTb M = []) (ha : (lg_sl As).length ≤ eL M) (body : Ex G l d M Q X mc ms 0 (lv_args 0 As) [] h) : ES G l d M As h mc ms Q X := by
  have hw : ews M = Cond.code (eY M) (eC M) (eL M) (eR M) :: egood := by unfold ews; rw [hT]
  unfold ES
  rw [hw]
  refine vx_ofW (cc := eC M) (maxL := eL M) (ret := eR M) hy rfl ?_
  intro p e s m args below meth c s₁ B hml htab hv
  obtain ⟨rfl, hR, hW⟩ := hv
  have hts := atoms_spec (ws := Cond.code (eY M) (eC M) (eL M) (eR M) :: egood) B.pre
  have htb : c.exceptionTable.toList = tableOf (eTb M) := by
    rw [hT]
    cases hq : c.exceptionTable.toList with
    | nil => rfl
    | cons a t => exact (htab a (by rw [hq]; exact List.mem_cons_self)).elim
  have C : eCtx G M p s m As.toArray meth c := ⟨B.exec, B.bytes, hml, findClass_of_methodNamed B.named, fun w hw => hts w (List.mem_cons_of_mem _ hw), B.returns, B.notSynchronized, ⟨(name_of_methodNamed B.named B.method).1, htb⟩, hW⟩
  rw [lg_entry_eq]
  exact body p e s m _ below meth c s.heap [] _ 0 0 mc ms C hR va_S.rf (lv_entry As ha) (Nat.zero_add _) (Nat.zero_add _)
theorem es_met {G : EG} {l : Launch} {d : Nat} {M : EM} {As : List Value} {h : EH} {mc ms : Nat} {Q : Option Value → EH → Prop} (hT : eTb M = []) (hS : ES G l d M As h mc ms Q eNoX) : Met l (eY M) (Cond.code (eY M) (eC M) (eL M) (eR M) :: egood) (erm d mc ms) (va_Pc As (fun U => eRel G h U.heap ∧ eW G U)) (eQ G Q) mc ms (eF G) := by
  have hw : ews M = Cond.code (eY M) (eC M) (eL M) (eR M) :: egood := by unfold ews; rw [hT]
  unfold ES at hS
  rw [hw] at hS
  intro p e ha hc hk s m args below hf happ hP hK
  obtain ⟨n, o, h1, h2, h3, h4⟩ := hS p e ha hc hk s m args below hf happ hP hK
  refine ⟨n, o, h1, h2, h3, ?_⟩
  rcases h4 with h4 | ⟨q, -, E, ce, L, ⟨h', hx, -⟩, -⟩
  · exact h4
  · exact hx.elim
theorem es_mono {G : EG} {l : Launch} {d : Nat} {M : EM} {As : List Value} {h : EH} {mc ms : Nat} {Q Q' : Option Value → EH → Prop} {X X' : String → EH → Prop} (hq : ∀ v h, Q v h → Q' v h) (hx : ∀ E h, X E h → X' E h) (hS : ES G l d M As h mc ms Q X) : ES G l d M As h mc ms Q' X' := by
  intro p e ha hc hk s m args below hf happ hP hK
  obtain ⟨n, o, h1, h2, h3, h4⟩ := hS p e ha hc hk s m args below hf happ hP hK
  refine ⟨n, o, h1, h2, h3, ?_⟩
  rcases h4 with ⟨⟨v, h', x1, x2, x3⟩, x4⟩ | ⟨q, x1, E, ce, L2, ⟨h', y1, y2⟩, x3⟩
  · exact Or.inl ⟨⟨v, h', x1, hq _ _ x2, x3⟩, x4⟩
  · exact Or.inr ⟨q, x1, E, ce, L2, ⟨h', hx _ _ y1, y2⟩, x3⟩
/-- what a callee is asked, apart from its link -/
def ECA (N : EM) (np : Nat) : Prop := Cond.initialized (eY N).cls ∈ egood ∧ Cond.code (eY N) (eC N) (eL N) (eR N) ∈ egood ∧ ((eY N).cls ≠ "java/lang/invoke/MethodHandle" ∧ (eY N).cls ≠ "java/lang/invoke/VarHandle" ∧ (parseMethodDescriptor (eY N).desc).map (fun d => d.parameters.length) = some np) ∧ eL N ≤ 19 ∧ eTb N = []
theorem ECA.good {N : EM} {np : Nat} (h : ECA N np) : GoodIn egood (Cond.code (eY N) (eC N) (eL N) (eR N) :: egood) := fun w hw => by
  rcases List.mem_cons.mp hw with e | e
  · rw [e]; exact egood_all _ h.2.1
  · exact egood_all _ e
def ECS (own : String) (idx : Nat) (N : EM) (np : Nat) : Prop := Cond.methodLink own idx (eY N) ∈ egood ∧ Cond.static (eY N) ∈ egood ∧ ECA N np
def ECV (own : String) (idx : Nat) (N : EM) (np : Nat) : Prop := Cond.methodLink own idx (eY N) ∈ egood ∧ Cond.instanceMethod (eY N) ∈ egood ∧ Cond.selects (eY N).cls (eY N) (eY N) ∈ egood ∧ ECA N np
def ECI (own : String) (idx : Nat) (N : EM) (np : Nat) : Prop := Cond.methodLink own idx (eY N) ∈ egood ∧ Cond.instanceMethod (eY N) ∈ egood ∧ (eY N).name = "<init>" ∧ eR N = none ∧ ECA N np
def ECSN (own : String) (idx : Nat) (N : EM) (np : Nat) : Prop := (∃ host : String, Cond.methodLinkNest own idx (eY N) host ∈ lw_tbl) ∧ Cond.static (eY N) ∈ egood ∧ ECA N np
def ECIN (own : String) (idx : Nat) (N : EM) (np : Nat) : Prop := (∃ host : String, Cond.methodLinkNest own idx (eY N) host ∈ lw_tbl) ∧ Cond.instanceMethod (eY N) ∈ egood ∧ (eY N).name = "<init>" ∧ eR N = none ∧ ECA N np
/-- an object on which a method of class C is called -/
def ERc (G : EG) (h : EH) (b : Nat) (C : String) : Prop := (∃ (ci : Nat) (fs : List Value) (T : u_T) (N : Nat), h.2 b = some (.inr (ci, fs)) ∧ vwCl[ci]? = some (C, T, N)) ∨ (C, b) ∈ eO G
theorem ERc.cell {G : EG} {h : EH} {b : Nat} {C : String} {s : State} {H : Heap} {locs : List Loc} (r : ERc G h b C) (R : eRel G h H) (w : eW G s) (S : va_S (eF G) s.heap H locs) : ∃ cell : Cell, H[b]? = some cell ∧ cell.vm.isStatics = false ∧ s.vm.findClass C = some cell.cls := by
  rcases r with ⟨ci, fs, T, N, h1, h2⟩ | h1
  · exact va_recv w.1 (R.one h1) h2 (q0 := 0) rfl
  · obtain ⟨cell, c1, c2, c3, -⟩ := (w.2.1.2.1 _ h1).kept S.2.1
    exact ⟨cell, c1, c2, c3⟩
section EXC
variable {G : EG} {l : Launch} {d : Nat} {M : EM} {Q : Option Value → EH → Prop} {X : String → EH → Prop} {k n pc : Nat} {lv : List (Nat × Value)} {rest st : List Value} {h : EH}
theorem e_go {p : Program} {e : Env} {R0 : Room} {s : State} {m : MethodId} {args : Array Value} {below : List Frame} {meth : Method} {c : Code} {H : Heap} {locs : List Loc} {cells slots mc' ms' : Nat} {Z : State → Prop} {ls : Array Slot} {a : Array Value} {Q' : Option Value → EH → Prop} (hr : va_Run p l e R0 s m args below meth c H locs cells slots mc' ms' (F0 m pc ls st) rest (eQ G Q' a) (eF G)) (S : va_S (eF G) s.heap H locs)
    (kk : ∀ (v : Option Value) (h' : EH) (H1 : Heap) (locs1 : List Loc), Q' v h' → eRel G h' H1 → va_S (eF G) s.heap H1 locs1 → W p l e R0 s m args below meth c H1 locs1 (cells + mc') (slots + ms') Z (F0 m (pc + 3) ls (v.toList ++ rest))) : W p l e R0 s m args below meth c H locs cells slots Z (F0 m pc ls st) := by
  intro T hT Y
  obtain ⟨v, st₀, t, T', L, h0, X', hL, e1, e2, ⟨v2, h', hv, hq, hR, hz, hk⟩, go⟩ := hr T hT Y
  cases hv
  rw [h0] at hz hk
  obtain ⟨t2, a1, b1⟩ := kk v h' T'.heap (locs ++ L) hq (by rw [e1]; exact hR)
    ⟨Nat.le_trans S.1 (by rw [e1]; exact hz), fun q h1 h2 => by rw [e1, hk q (Nat.lt_of_lt_of_le h1 S.1) h2]; exact S.2.1 q h1 h2, fun q hq => by
      rcases List.mem_append.mp hq with h | h
      · exact S.2.2 q h
      · exact hL q h⟩ T' rfl X'
  exact ⟨t2, go t2 a1, b1⟩
theorem ex_invs {idx d' mc' ms' : Nat} {N : EM} {As : List Value} {Q' : Option Value → EH → Prop} (hd : decode (eC M) pc = .ok (.invokestatic idx, 3)) (hN : ECS (eY M).cls idx N As.length) (hdd : d' + 1 ≤ d) (hrs : (rest.map fun v => v.category).sum ≤ 8) (hS : ES G l d' N As h mc' ms' Q' eNoX) (kk : ∀ (v : Option Value) (h' : EH), Q' v h' → Ex G l d M Q X k n (pc + 3) lv (v.toList ++ rest) h') : Ex G l d M Q X (k + mc') (n + ms') pc lv (As.reverse ++ rest) h := by
  intro p e s m args below meth c H locs ls cells slots mc ms C R S L e1 e2
  obtain ⟨n1, n2, hN_⟩ := hN
  have hts := C.2.2.2.2.1
  exact e_go (va_runS (As := As) (rest := rest) ⟨C.1, C.2.1, C.2.2.1, C.2.2.2.1, C.2.2.2.2.1⟩ (es_met hN_.2.2.2.2 hS) ⟨callB_of As.length hts hN_.good rfl rfl rfl (hts _ hN_.1) (hts _ n1) hN_.2.2.1 ⟨hdd, by show 8 + (eL N + 11) + 38 * d' ≤ 38 * d; have := hN_.2.2.2.1; omega⟩, hts _ n2⟩ (e_pre C.2.2.2.2.2.2.2.2 S R) rfl rfl L.1 rfl (lv_room hrs) hd ⟨by show cells + mc' ≤ mc; omega, by show slots + ms' ≤ ms; omega⟩) S (fun v h' H1 locs1 hq hR hS1 => kk v h' hq p e s m args below meth c H1 locs1 ls (cells + mc') (slots + ms') mc ms C hR hS1 L (by omega) (by omega))
theorem ex_invsN {idx d' mc' ms' : Nat} {N : EM} {As : List Value} {Q' : Option Value → EH → Prop} (hd : decode (eC M) pc = .ok (.invokestatic idx, 3)) (hN : ECSN (eY M).cls idx N As.length) (hdd : d' + 1 ≤ d) (hrs : (rest.map fun v => v.category).sum ≤ 8) (hS : ES G l d' N As h mc' ms' Q' eNoX) (kk : ∀ (v : Option Value) (h' : EH), Q' v h' → Ex G l d M Q X k n (pc + 3) lv (v.toList ++ rest) h') : Ex G l d M Q X (k + mc') (n + ms') pc lv (As.reverse ++ rest) h := by
  intro p e s m args below meth c H locs ls cells slots mc ms C R S L e1 e2
  obtain ⟨⟨host, n1⟩, n2, hN_⟩ := hN
  have hts := C.2.2.2.2.1
  exact e_go (va_runSN (As := As) (rest := rest) ⟨C.1, C.2.1, C.2.2.1, C.2.2.2.1, C.2.2.2.2.1⟩ (es_met hN_.2.2.2.2 hS) ⟨va_cnB As.length hts hN_.good rfl rfl rfl (C.2.2.2.2.2.2.2.2.2.2.2.2.2.1 _ _ _ _ n1) (hts _ hN_.1) hN_.2.2.1 ⟨hdd, by show 8 + (eL N + 11) + 38 * d' ≤ 38 * d; have := hN_.2.2.2.1; omega⟩, hts _ n2, trivial⟩ (e_pre C.2.2.2.2.2.2.2.2 S R) rfl rfl L.1 rfl (lv_room hrs) hd ⟨by show cells + mc' ≤ mc; omega, by show slots + ms' ≤ ms; omega⟩) S (fun v h' H1 locs1 hq hR hS1 => kk v h' hq p e s m args below meth c H1 locs1 ls (cells + mc') (slots + ms') mc ms C hR hS1 L (by omega) (by omega))
theorem ex_invv {idx d' mc' ms' : Nat} {N : EM} {As : List Value} {Q' : Option Value → EH → Prop} {b : Nat} (hd : decode (eC M) pc = .ok (.invokevirtual idx, 3)) (hN : ECV (eY M).cls idx N As.length) (hdd : d' + 1 ≤ d) (hrs : (rest.map fun v => v.category).sum ≤ 8) (hb : ERc G h b (eY N).cls) (hS : ES G l d' N (.ref b :: As) h mc' ms' Q' eNoX) (kk : ∀ (v : Option Value) (h' : EH), Q' v h' → Ex G l d M Q X k n (pc + 3) lv (v.toList ++ rest) h') : Ex G l d M Q X (k + mc') (n + ms') pc lv (As.reverse ++ .ref b :: rest) h := by
  intro p e s m args below meth c H locs ls cells slots mc ms C R S L e1 e2
  obtain ⟨n1, n2, n3, hN_⟩ := hN
  have hts := C.2.2.2.2.1
  exact e_go (va_runV (As := As) (rest := rest) ⟨C.1, C.2.1, C.2.2.1, C.2.2.2.1, C.2.2.2.2.1⟩ (es_met hN_.2.2.2.2 hS) ⟨callB_of As.length hts hN_.good rfl rfl rfl (hts _ hN_.1) (hts _ n1) hN_.2.2.1 ⟨hdd, by show 8 + (eL N + 11) + 38 * d' ≤ 38 * d; have := hN_.2.2.2.1; omega⟩, hts _ n2, hts _ n3⟩ ⟨e_blind, hb.cell R C.2.2.2.2.2.2.2.2 S, (e_pre C.2.2.2.2.2.2.2.2 S R).2⟩ rfl rfl L.1 rfl (lv_room hrs) hd ⟨by show cells + mc' ≤ mc; omega, by show slots + ms' ≤ ms; omega⟩) S (fun v h' H1 locs1 hq hR hS1 => kk v h' hq p e s m args below meth c H1 locs1 ls (cells + mc') (slots + ms') mc ms C hR hS1 L (by omega) (by omega))
theorem ex_invi {idx d' mc' ms' : Nat} {N : EM} {As : List Value} {Q' : Option Value → EH → Prop} {b : Nat} (hd : decode (eC M) pc = .ok (.invokespecial idx, 3)) (hN : ECI (eY M).cls idx N As.length) (hdd : d' + 1 ≤ d) (hrs : (rest.map fun v => v.category).sum ≤ 8) (hS : ES G l d' N (.ref b :: As) h mc' ms' Q' eNoX) (kk : ∀ (v : Option Value) (h' : EH), Q' v h' → Ex G l d M Q X k n (pc + 3) lv (v.toList ++ rest) h') : Ex G l d M Q X (k + mc') (n + ms') pc lv (As.reverse ++ .ref b :: rest) h := by
  intro p e s m args below meth c H locs ls cells slots mc ms C R S L e1 e2
  obtain ⟨n1, n2, n3, n4, hN_⟩ := hN
  have hts := C.2.2.2.2.1
  have hm := es_met hN_.2.2.2.2 hS
  have hg := hN_.good
  rw [n4] at hm hg
  exact e_go (va_runI (As := As) (rest := rest) ⟨C.1, C.2.1, C.2.2.1, C.2.2.2.1, C.2.2.2.2.1⟩ hm ⟨callB_of As.length hts hg rfl rfl rfl (hts _ hN_.1) (hts _ n1) hN_.2.2.1 ⟨hdd, by show 8 + (eL N + 11) + 38 * d' ≤ 38 * d; have := hN_.2.2.2.1; omega⟩, n3, hts _ n2⟩ (e_pre C.2.2.2.2.2.2.2.2 S R) rfl rfl L.1 rfl (lv_room hrs) hd ⟨by show cells + mc' ≤ mc; omega, by show slots + ms' ≤ ms; omega⟩) S (fun v h' H1 locs1 hq hR hS1 => kk v h' hq p e s m args below meth c H1 locs1 ls (cells + mc') (slots + ms') mc ms C hR hS1 L (by omega) (by omega))
theorem ex_inviN {idx d' mc' ms' : Nat} {N : EM} {As : List Value} {Q' : Option Value → EH → Prop} {b : Nat} (hd : decode (eC M) pc = .ok (.invokespecial idx, 3)) (hN : ECIN (eY M).cls idx N As.length) (hdd : d' + 1 ≤ d) (hrs : (rest.map fun v => v.category).sum ≤ 8) (hS : ES G l d' N (.ref b :: As) h mc' ms' Q' eNoX) (kk : ∀ (v : Option Value) (h' : EH), Q' v h' → Ex G l d M Q X k n (pc + 3) lv (v.toList ++ rest) h') : Ex G l d M Q X (k + mc') (n + ms') pc lv (As.reverse ++ .ref b :: rest) h := by
  intro p e s m args below meth c H locs ls cells slots mc ms C R S L e1 e2
  obtain ⟨⟨host, n1⟩, n2, n3, n4, hN_⟩ := hN
  have hts := C.2.2.2.2.1
  have hm := es_met hN_.2.2.2.2 hS
  have hg := hN_.good
  rw [n4] at hm hg
  exact e_go (va_runIN (As := As) (rest := rest) ⟨C.1, C.2.1, C.2.2.1, C.2.2.2.1, C.2.2.2.2.1⟩ hm ⟨va_cnB As.length hts hg rfl rfl rfl (C.2.2.2.2.2.2.2.2.2.2.2.2.2.1 _ _ _ _ n1) (hts _ hN_.1) hN_.2.2.1 ⟨hdd, by show 8 + (eL N + 11) + 38 * d' ≤ 38 * d; have := hN_.2.2.2.1; omega⟩, n3, hts _ n2⟩ (e_pre C.2.2.2.2.2.2.2.2 S R) rfl rfl L.1 rfl (lv_room hrs) hd ⟨by show cells + mc' ≤ mc; omega, by show slots + ms' ≤ ms; omega⟩) S (fun v h' H1 locs1 hq hR hS1 => kk v h' hq p e s m args below meth c H1 locs1 ls (cells + mc') (slots + ms') mc ms C hR hS1 L (by omega) (by omega))
/-- Object's constructor -/
theorem ex_obj {idx a : Nat} (hd : decode (eC M) pc = .ok (.invokespecial idx, 3)) (hl : Cond.methodLink (eY M).cls idx objectInit ∈ egood) (hi : Cond.instanceMethod objectInit ∈ egood) (hc : Cond.code objectInit ⟨#[0xb1]⟩ 1 none ∈ egood) (hdd : 1 ≤ d) (hrs : (rest.map fun v => v.category).sum ≤ 8) (kk : Ex G l d M Q X k n (pc + 3) lv rest h) : Ex G l d M Q X k n pc lv (.ref a :: rest) h := by
  intro p e s m args below meth c H locs ls cells slots mc ms C R S L e1 e2
  have hts := C.2.2.2.2.1
  exact W.objInit C.1 C.2.1 C.2.2.2.1 (hts _ hl) (hts _ hi) (hts _ hc) rfl (by rw [C.2.2.1]; exact L.1) rfl hd hdd (by have h9 := lv_room (m := m) (pc := pc) (ls := ls) (rest := .ref a :: rest) hrs; show _ + 12 ≤ 38 * d; omega) (kk p e s m args below meth c H locs ls cells slots mc ms C R S L e1 e2)
/-- a method that a class has from another (an enum constant's ordinal) -/
theorem ex_invU {idx d' b : Nat} {N : EM} {Q' : Option Value → EH → Prop} {x : MethodName} (hd : decode (eC M) pc = .ok (.invokevirtual idx, 3)) (hl : Cond.methodLink (eY M).cls idx x ∈ egood) (hsm : Cond.sameMethod x.cls (eY N).cls x.name x.desc ∈ egood) (hsel : Cond.selects x.cls x (eY N) ∈ egood) (hin : Cond.instanceMethod (eY N) ∈ egood) (hyx : eY N = ⟨(eY N).cls, x.name, x.desc⟩) (hN_ : ECA N 0) (hdd : d' + 1 ≤ d) (hrs : (rest.map fun v => v.category).sum ≤ 8) (hb : ERc G h b x.cls) (hS : ES G l d' N [.ref b] h 0 0 Q' eNoX) (kk : ∀ (v : Option Value) (h' : EH), Q' v h' → Ex G l d M Q X k n (pc + 3) lv (v.toList ++ rest) h') : Ex G l d M Q X k n pc lv (.ref b :: rest) h := by
  intro p e s m args below meth c H locs ls cells slots mc ms C R S L e1 e2
  have hts := C.2.2.2.2.1
  have hdesc : x.desc = (eY N).desc := by rw [hyx]
  have hT : GoodIn egood (va_wsU (eY M).cls idx x.cls (eY N).cls x (eY N) (Cond.code (eY N) (eC N) (eL N) (eR N) :: egood)) := by
    intro w hw
    unfold va_wsU at hw
    rcases List.mem_append.mp hw with hw | hw
    · refine egood_all w ?_
      rcases List.mem_cons.mp hw with e | hw
      · rw [e]; exact hl
      rcases List.mem_cons.mp hw with e | hw
      · rw [e]; exact hsm
      rcases List.mem_cons.mp hw with e | hw
      · rw [e]; exact hsel
      rcases List.mem_cons.mp hw with e | hw
      · rw [e]; exact hin
      rcases List.mem_cons.mp hw with e | hw
      · rw [e]; exact hN_.1
      · cases hw
    · exact hN_.good w hw
  exact e_go (va_runU (As := []) (rest := rest) (C := x.cls) ⟨C.1, C.2.1, C.2.2.1, C.2.2.2.1, C.2.2.2.2.1⟩ (es_met hN_.2.2.2.2 hS) (va_cwU (x := x) 0 hts hT rfl rfl rfl hyx ⟨hN_.2.2.1.1, hN_.2.2.1.2.1, by rw [hdesc]; exact hN_.2.2.1.2.2⟩ ⟨hdd, by show 8 + (eL N + 11) + 38 * d' ≤ 38 * d; have := hN_.2.2.2.1; omega⟩) ⟨e_blind, hb.cell R C.2.2.2.2.2.2.2.2 S, (e_pre C.2.2.2.2.2.2.2.2 S R).2⟩ rfl rfl L.1 rfl (lv_room hrs) hd ⟨by show cells + 0 ≤ mc; omega, by show slots + 0 ≤ ms; omega⟩) S (fun v h' H1 locs1 hq hR hS1 => kk v h' hq p e s m args below meth c H1 locs1 ls (cells + 0) (slots + 0) mc ms C hR hS1 L (by omega) (by omega))
end EXC
theorem tst3 : goodWord (.sameMethod "a" "a" "b" "c") = true := rfl
theorem tst4 : goodWord (.selects "a" ⟨"a", "b", "c"⟩ ⟨"a", "b", "c"⟩) = true := rfl
theorem tst5 : goodWord (.constant "a" 1 5) = true := rfl

