/-! THE LOGIC: Ex, a walk over an abstract heap (size, cells by address); ES, a method's contract in its words. -/
def egood : List Cond := lw_tbl.filter goodWord
theorem eg (i : Nat) {w : Cond} (h : lw_tbl[i]? = some w) (g : goodWord w = true) : w ∈ egood := List.mem_filter.mpr ⟨List.mem_of_getElem? h, g⟩
theorem egood_all : GoodIn egood egood := fun w h => ⟨h, good_of_word (List.mem_filter.mp h).2⟩
abbrev EM : Type := MethodName × ByteArray × Nat × Option FieldType × List (Nat × Nat × Nat × Nat)
abbrev eY (M : EM) : MethodName := M.1
abbrev eC (M : EM) : ByteArray := M.2.1
abbrev eL (M : EM) : Nat := M.2.2.1
abbrev eR (M : EM) : Option FieldType := M.2.2.2.1
abbrev eTb (M : EM) : List (Nat × Nat × Nat × Nat) := M.2.2.2.2
/-- class numbers and slots, array classes, addresses of constants, the heap's size at the law's start, the script, Preconditions' formatter -/
abbrev EG : Type := va_G × (Nat → ClassId) × (Nat → Nat) × Nat × (Nat × Nat × (Nat → Int32)) × Option Nat
def eD (G : EG) : va_G := G.1
def eA (G : EG) : Nat → ClassId := G.2.1
def ead (G : EG) : Nat → Nat := G.2.2.1
def eb (G : EG) : Nat := G.2.2.2.1
def esc (G : EG) : Nat × Nat × (Nat → Int32) := G.2.2.2.2.1
def efm (G : EG) : Option Nat := G.2.2.2.2.2
def eF (G : EG) : Nat → Prop := fun q => eb G ≤ q
def etys (G : EG) : List (ClassId × FieldType) := [(eA G 0, .int), (eA G 1, .long), (eA G 2, .char), (eA G 3, .boolean), (eA G 4, .object "PolicyDesk$Statement")]
abbrev EH : Type := Nat × (Nat → Option va_E)
def eRel (G : EG) (h : EH) (H : Heap) : Prop := H.size = h.1 ∧ eb G ≤ h.1 ∧ ∀ (a : Nat) (e : va_E), h.2 a = some e → va_at (eD G) vwCl (a, e) H ∧ eb G ≤ a
def hup (h : EH) (a : Nat) (e : va_E) : EH := (h.1, fun b => if b = a then some e else h.2 b)
def hnew (h : EH) (e : va_E) : EH := (h.1 + 1, fun b => if b = h.1 then some e else h.2 b)
-- what the constants hold
def kNames : List Int32 := [1, 1, 3, 3, 4, 1, 1, 1, 1]
def kFewest : List Int32 := [1, 0, 1, 1, 0, 0, 1, 1, 1]
def kMost : List Int32 := [6, 4, 6, 6, 0, 0, 6, 6, 6]
def kMarks : List Nat := [9, 9, 9, 9, 9, 10, 11, 9, 9]
def kStr : List (List Int32) := [[99, 108, 97, 115, 115], [116, 121, 112, 101], [97, 108, 108, 111, 119], [110, 101, 118, 101, 114], [109, 97, 107, 101], [114, 97, 110, 107], [110, 101, 101, 100], [115, 101, 101, 115], [112, 117, 116, 115], [], [48, 49, 50, 51, 52, 53, 54, 55], [62, 61, 60]]
def kCon : List String := ["CLASS", "TYPE", "ALLOW", "NEVER", "MAKE", "RANK", "NEED", "SEES", "PUTS"]
def kMsg : List (Nat × String) := [(98, "the text is no statement"), (109, "the draft is full"), (122, "the draft is wrong"), (134, "the draft is against itself"), (145, "no such type or class"), (215, "what was fed is no image")]
def eZ (G : EG) : List (String × String × String × Value) := (List.range 9).map (fun i => ("PolicyDesk$Kind", kCon.getD i "", "LPolicyDesk$Kind;", Value.ref (ead G i))) ++ [("PolicyDesk", "KINDS", "[LPolicyDesk$Kind;", .ref (ead G 9)), ("PolicyDesk$1", "$SwitchMap$PolicyDesk$Kind", "[I", .ref (ead G 10)), ("java/lang/String", "COMPACT_STRINGS", "Z", .int 1), ("jdk/internal/util/Preconditions", "SIOOBE_FORMATTER", "Ljava/util/function/BiFunction;", va_rf (efm G))]
def eO (G : EG) : List (String × Nat) := (List.range 9).map (fun i => ("PolicyDesk$Kind", ead G i)) ++ (List.range 12).map (fun i => ("java/lang/String", ead G (16 + i)))
def eO1 (G : EG) (i : Nat) : List (String × String × String × Value × Nat) := [("PolicyDesk$Kind", "word", "Ljava/lang/String;", .ref (ead G (16 + i)), ead G i), ("PolicyDesk$Kind", "names", "I", .int (kNames.getD i 0), ead G i), ("PolicyDesk$Kind", "marks", "Ljava/lang/String;", .ref (ead G (16 + kMarks.getD i 0)), ead G i), ("PolicyDesk$Kind", "fewest", "I", .int (kFewest.getD i 0), ead G i), ("PolicyDesk$Kind", "most", "I", .int (kMost.getD i 0), ead G i), ("java/lang/Enum", "ordinal", "I", .int (nI i), ead G i)]
def eO2 (G : EG) (i : Nat) : List (String × String × String × Value × Nat) := [("java/lang/String", "value", "[B", .ref (ead G (32 + i)), ead G (16 + i)), ("java/lang/String", "coder", "B", .int 0, ead G (16 + i))]
def eOF (G : EG) (z : String × String × String × Value × Nat) : Prop := (∃ i, i < 9 ∧ z ∈ eO1 G i) ∨ ∃ i, i < 12 ∧ z ∈ eO2 G i
def eT (G : EG) (z : FieldType × Nat × Nat × (Nat → Value)) : Prop := z = (.int, (esc G).1, (esc G).2.1, fun j => .int ((esc G).2.2 j)) ∨ z = (.int, ead G 10, 9, fun j => .int (nI (j + 1))) ∨ z = (.object "PolicyDesk$Kind", ead G 9, 9, fun j => .ref (ead G j)) ∨ ∃ i, i < 12 ∧ z = (.byte, ead G (32 + i), (kStr.getD i []).length, fun j => .int ((kStr.getD i []).getD j 0))
def eStat (G : EG) (U : State) (H : Heap) : Prop := (∀ z ∈ eZ G, va_Z z.1 z.2.1 z.2.2.1 z.2.2.2 (eF G) U H) ∧ (∀ z ∈ eO G, va_O z.1 z.2 (eF G) U H) ∧ (∀ z, eOF G z → va_OF z.1 z.2.1 z.2.2.1 z.2.2.2.1 z.2.2.2.2 (eF G) U H) ∧ (∀ z, eT G z → va_T z.1 z.2.1 z.2.2.1 z.2.2.2 (eF G) U H) ∧ vx_Zq Bundle.tN "UNASSIGNED_STACK" Bundle.steD (eF G) U H ∧ vx_Zq Bundle.tN "SUPPRESSED_SENTINEL" Bundle.listD (eF G) U H
theorem eStat.moved {G : EG} {u U : State} {H : Heap} (hvm : u.vm.Alike U.vm) (h : eStat G u H) : eStat G U H := ⟨fun z hz => va_Z.moved hvm (h.1 z hz), fun z hz => va_O.moved hvm (h.2.1 z hz), fun z hz => va_OF.moved hvm (h.2.2.1 z hz), fun z hz => va_T.moved hvm (h.2.2.2.1 z hz), vx_Zq.moved hvm h.2.2.2.2.1, vx_Zq.moved hvm h.2.2.2.2.2⟩
theorem eStat.kept {G : EG} {U : State} {H H1 : Heap} (h : eStat G U H) (hq : ∀ a : Nat, a < H.size → ¬ eF G a → H1[a]? = H[a]?) : eStat G U H1 := ⟨fun z hz => (h.1 z hz).kept hq, fun z hz => (h.2.1 z hz).kept hq, fun z hz => (h.2.2.1 z hz).kept hq, fun z hz => (h.2.2.2.1 z hz).kept hq, vx_Zq.kept h.2.2.2.2.1 hq, vx_Zq.kept h.2.2.2.2.2 hq⟩
def eMsg (G : EG) (U : State) : Prop := ∀ i, i < 6 → vk_R "PolicyDesk" (kMsg.getD i (0, "")).1 (kMsg.getD i (0, "")).2 (ead G (48 + i)) U
/-- what is kept of a state beside its heap's cells -/
def eNst (U : State) : Prop := (∀ (a : String) (i : Nat) (x : MethodName) (h : String), Cond.methodLinkNest a i x h ∈ lw_tbl → va_Nw (.methodLinkNest a i x h) U) ∧ (∀ (a : String) (i : Nat) (b n d h : String), Cond.fieldLinkNest a i b n d h ∈ lw_tbl → va_Nw (.fieldLinkNest a i b n d h) U) ∧ (∀ C T : String, Cond.castable C T ∈ lw_tbl → va_Nw (.castable C T) U) ∧ va_Nc "java/lang/IllegalStateException" "java/lang/IllegalArgumentException" U ∧ ∀ x : MethodName, Cond.declares x ∈ lw_tbl → va_Nw (.declares x) U
theorem eNst.warm {s U : State} (hW : s.WarmedH U.vm) (h : eNst s) : eNst U := ⟨fun a i x o hh => va_Nw.warmM hW (h.1 a i x o hh), fun a i b n d o hh => va_Nw.warmF hW (h.2.1 a i b n d o hh), fun C T hh => va_Nw.warmC hW (h.2.2.1 C T hh), h.2.2.2.1.moved hW.alike, fun x hh => va_Nw.warmD hW (h.2.2.2.2 x hh)⟩
theorem eNst.same {s U : State} (hv : s.vm = U.vm) (h : eNst s) : eNst U := ⟨fun a i x o hh => va_Nw.same rfl hv (h.1 a i x o hh), fun a i b n d o hh => va_Nw.same rfl hv (h.2.1 a i b n d o hh), fun C T hh => va_Nw.same rfl hv (h.2.2.1 C T hh), h.2.2.2.1.moved (by rw [hv]; exact Vm.Alike.refl _), fun x hh => va_Nw.same rfl hv (h.2.2.2.2 x hh)⟩
def eW (G : EG) (U : State) : Prop := va_K (eD G) vwCl (etys G) U ∧ eStat G U U.heap ∧ eMsg G U ∧ (Cond.arrayOver (.object "PolicyDesk$Statement")).before #[] U = true ∧ eb G ≤ U.heap.size ∧ eNst U
def erm (d mc ms : Nat) : Room := { frames := d, cells := mc, slots := ms, locals := 38 * d }
def eQ (G : EG) (Q : Option Value → EH → Prop) : Array Value → State → Outcome → State → Prop := fun _ st o t => ∃ (v : Option Value) (h : EH), o = .returned v ∧ Q v h ∧ eRel G h t.heap ∧ va_F (eF G) st t
def eX (G : EG) (X : String → EH → Prop) : String → State → State → Prop := fun E st t => ∃ h : EH, X E h ∧ eRel G h t.heap ∧ va_F (eF G) st t
def eCtx (G : EG) (M : EM) (p : Program) (s : State) (m : MethodId) (args : Array Value) (meth : Method) (c : Code) : Prop :=
  p.tables.exec = Jvm.exec ∧ c.code = eC M ∧ c.maxLocals = eL M ∧ s.vm.findClass (eY M).cls = some m.cls ∧ (∀ w ∈ egood, w.before args s = true) ∧ meth.sig.returnType = eR M ∧ meth.locks = false ∧ (meth.name = (eY M).name ∧ c.exceptionTable.toList = tableOf (eTb M)) ∧ eW G s
/-- the walk from pc, with locals lv, stack st, abstract heap h, k cells and n slots still to be made: it returns with Q or throws with X -/
def Ex (G : EG) (l : Launch) (d : Nat) (M : EM) (Q : Option Value → EH → Prop) (X : String → EH → Prop) (k n pc : Nat) (lv : List (Nat × Value)) (st : List Value) (h : EH) : Prop :=
  ∀ (p : Program) (e : Env) (s : State) (m : MethodId) (args : Array Value) (below : List Frame) (meth : Method) (c : Code) (H : Heap) (locs : List Loc) (ls : Array Slot) (cells slots mc ms : Nat),
    eCtx G M p s m args meth c → eRel G h H → va_S (eF G) s.heap H locs → lv_has ls (eL M) lv → cells + k = mc → slots + n = ms →
    W p l e (erm d mc ms) s m args below meth c H locs cells slots (vx_MQ below (eQ G Q) (eX G X) args s mc ms (eF G)) (F0 m pc ls st)
def ews (M : EM) : List Cond := (match eTb M with
  | [] => Cond.code (eY M) (eC M) (eL M) (eR M)
  | hh => Cond.codeWith (eY M) (eC M) (eL M) (eR M) hh) :: egood
/-- a method's contract -/
def ES (G : EG) (l : Launch) (d : Nat) (M : EM) (As : List Value) (h : EH) (mc ms : Nat) (Q : Option Value → EH → Prop) (X : String → EH → Prop) : Prop :=
  vx_Met l (eY M) (ews M) (erm d mc ms) (va_Pc As (fun U => eRel G h U.heap ∧ eW G U)) (eQ G Q) (eX G X) mc ms (eF G)
def eNoX : String → EH → Prop := fun _ _ => False
-- locals
def lget : List (Nat × Value) → Nat → Option Value
  | [], _ => none
  | (i, v) :: t, k => match Nat.beq i k with
    | true => some v
    | false => lget t k
theorem lget_mem {l : List (Nat × Value)} {k : Nat} {v : Value} (h : lget l k = some v) : (k, v) ∈ l := by
  induction l with
  | nil => cases h
  | cons q t ih =>
    obtain ⟨i, w⟩ := q
    unfold lget at h
    cases hb : Nat.beq i k with
    | true =>
      rw [hb] at h
      have hi : i = k := Nat.eq_of_beq_eq_true hb
      cases h
      subst hi
      exact List.mem_cons_self
    | false =>
      rw [hb] at h
      exact List.mem_cons_of_mem _ (ih h)
def lset : List (Nat × Value) → Nat → Value → List (Nat × Value)
  | [], i, v => [(i, v)]
  | (j, w) :: t, i, v => match Nat.beq j i with
    | true => (i, v) :: t.filter (fun q => !(Nat.beq q.1 i))
    | false => (j, w) :: lset t i v
/-- none holds a wide value just ahead of i -/
def lfree : List (Nat × Value) → Nat → Bool
  | [], _ => true
  | (j, w) :: t, i => match Nat.beq (j + 1) i with
    | true => (match w.category with
      | 1 => lfree t i
      | _ => false)
    | false => lfree t i
theorem lset_mem {l : List (Nat × Value)} {i : Nat} {v : Value} {q : Nat × Value} (h : q ∈ lset l i v) : q = (i, v) ∨ (q ∈ l ∧ q.1 ≠ i) := by
  induction l with
  | nil => exact Or.inl (List.mem_singleton.mp h)
  | cons r t ih =>
    obtain ⟨j, w⟩ := r
    unfold lset at h
    cases hb : Nat.beq j i with
    | true =>
      rw [hb] at h
      rcases List.mem_cons.mp h with h | h
      · exact Or.inl h
      · obtain ⟨h1, h2⟩ := List.mem_filter.mp h
        refine Or.inr ⟨List.mem_cons_of_mem _ h1, fun hq => ?_⟩
        rw [hq] at h2
        simp at h2
    | false =>
      rw [hb] at h
      rcases List.mem_cons.mp h with h | h
      · refine Or.inr ⟨by rw [h]; exact List.mem_cons_self, fun hq => ?_⟩
        rw [h] at hq
        rw [show j = i from hq] at hb
        simp at hb
      · rcases ih h with h | h
        · exact Or.inl h
        · exact Or.inr ⟨List.mem_cons_of_mem _ h.1, h.2⟩
theorem lfree_spec {l : List (Nat × Value)} {i : Nat} (h : lfree l i = true) {q : Nat × Value} (hq : q ∈ l) : ¬ (q.1 + 1 = i ∧ q.2.category = 2) := by
  induction l with
  | nil => cases hq
  | cons r t ih =>
    obtain ⟨j, w⟩ := r
    unfold lfree at h
    rcases List.mem_cons.mp hq with e | e
    · subst e
      rintro ⟨e1, e2⟩
      rw [show Nat.beq (j + 1) i = true from by rw [show j + 1 = i from e1]; simp] at h
      rw [show w.category = 2 from e2] at h
      cases h
    · refine ih ?_ e
      cases hb : Nat.beq (j + 1) i with
      | true =>
        rw [hb] at h
        rcases lv_cat w with e1 | e1
        · rw [e1] at h; exact h
        · rw [e1] at h; cases h
      | false => rw [hb] at h; exact h
theorem lset_has {ls : Array Slot} {nL i : Nat} {v : Value} {l : List (Nat × Value)} (hf : lfree l i = true) (h : lv_has ls nL ((i, v) :: l.filter (fun q => !(q.1 == i) && !(q.1 + 1 == i && q.2.category == 2)))) : lv_has ls nL (lset l i v) := by
  refine ⟨h.1, h.2.1, fun q hq => h.2.2 q ?_⟩
  rcases lset_mem hq with e | ⟨e1, e2⟩
  · rw [e]; exact List.mem_cons_self
  · refine List.mem_cons_of_mem _ (List.mem_filter.mpr ⟨e1, ?_⟩)
    have := lfree_spec hf e1
    simp [e2]
    omega
theorem lv_of {ls : Array Slot} {nL i : Nat} {v : Value} {l : List (Nat × Value)} (h : lv_has ls nL l) (hg : lget l i = some v) : ls[i]? = some (.val v) := h.2.2 (i, v) (lget_mem hg)
/-- the locals in another order, or fewer of them -/
def lall (l : List (Nat × Value)) : List (Nat × Value) → Prop
  | [] => True
  | (i, v) :: t => lget l i = some v ∧ lall l t
theorem lall_mem {l l' : List (Nat × Value)} (h : lall l l') {q : Nat × Value} (hq : q ∈ l') : q ∈ l := by
  induction l' with
  | nil => cases hq
  | cons r t ih =>
    obtain ⟨i, v⟩ := r
    rcases List.mem_cons.mp hq with e | e
    · rw [e]; exact lget_mem h.1
    · exact ih h.2 e

section EXR
variable {G : EG} {l : Launch} {d : Nat} {M : EM} {Q : Option Value → EH → Prop} {X : String → EH → Prop} {k n pc : Nat} {lv : List (Nat × Value)} {rest st : List Value} {h : EH}
theorem ex_iconst {z : Int} {v : Int32} (hv : Int32.ofInt z = v) (hd : decode (eC M) pc = .ok (.iconst z, 1)) (kk : Ex G l d M Q X k n (pc + 1) lv (.int v :: rest) h) : Ex G l d M Q X k n pc lv (rest) h := by
  intro p e s m args below meth c H locs ls cells slots mc ms C R S L e1 e2
  exact lv_iconst C.1 C.2.1 hd hv (kk p e s m args below meth c H locs ls cells slots mc ms C R S L e1 e2)
theorem ex_bipush {z : Int} {v : Int32} (hv : (Int8.ofInt z).toInt32 = v) (hd : decode (eC M) pc = .ok (.bipush z, 2)) (kk : Ex G l d M Q X k n (pc + 2) lv (.int v :: rest) h) : Ex G l d M Q X k n pc lv (rest) h := by
  intro p e s m args below meth c H locs ls cells slots mc ms C R S L e1 e2
  exact lv_bipush C.1 C.2.1 hd hv (kk p e s m args below meth c H locs ls cells slots mc ms C R S L e1 e2)
theorem ex_sipush {z : Int} {v : Int32} (hv : (Int16.ofInt z).toInt32 = v) (hd : decode (eC M) pc = .ok (.sipush z, 3)) (kk : Ex G l d M Q X k n (pc + 3) lv (.int v :: rest) h) : Ex G l d M Q X k n pc lv (rest) h := by
  intro p e s m args below meth c H locs ls cells slots mc ms C R S L e1 e2
  exact lv_sipush C.1 C.2.1 hd hv (kk p e s m args below meth c H locs ls cells slots mc ms C R S L e1 e2)
theorem ex_ldc {i : Nat} {v : Int32} (hc : Cond.constant (eY M).cls i v ∈ egood) (hd : decode (eC M) pc = .ok (.ldc i, 2)) (kk : Ex G l d M Q X k n (pc + 2) lv (.int v :: rest) h) : Ex G l d M Q X k n pc lv (rest) h := by
  intro p e s m args below meth c H locs ls cells slots mc ms C R S L e1 e2
  exact lv_ldc C.1 C.2.1 C.2.2.2.1 (C.2.2.2.2.1 _ hc) hd (kk p e s m args below meth c H locs ls cells slots mc ms C R S L e1 e2)
theorem ex_ldc2 {i : Nat} {v : Int64} (hc : Cond.constantLong (eY M).cls i v ∈ egood) (hd : decode (eC M) pc = .ok (.ldc2_w i, 3)) (kk : Ex G l d M Q X k n (pc + 3) lv (.long v :: rest) h) : Ex G l d M Q X k n pc lv (rest) h := by
  intro p e s m args below meth c H locs ls cells slots mc ms C R S L e1 e2
  exact lv_ldc2 C.1 C.2.1 C.2.2.2.1 (C.2.2.2.2.1 _ hc) hd (kk p e s m args below meth c H locs ls cells slots mc ms C R S L e1 e2)
theorem ex_iload_n {i : Fin 4} {x : Int32} (hl : lget lv i = some (.int x)) (hd : decode (eC M) pc = .ok (.iload_n i, 1)) (kk : Ex G l d M Q X k n (pc + 1) lv (.int x :: rest) h) : Ex G l d M Q X k n pc lv (rest) h := by
  intro p e s m args below meth c H locs ls cells slots mc ms C R S L e1 e2
  exact lv_iload_n C.1 C.2.1 hd rfl (lv_of L hl) (kk p e s m args below meth c H locs ls cells slots mc ms C R S L e1 e2)
theorem ex_iload {i : Nat} {x : Int32} (hl : lget lv i = some (.int x)) (hd : decode (eC M) pc = .ok (.iload i, 2)) (kk : Ex G l d M Q X k n (pc + 2) lv (.int x :: rest) h) : Ex G l d M Q X k n pc lv (rest) h := by
  intro p e s m args below meth c H locs ls cells slots mc ms C R S L e1 e2
  exact lv_iload C.1 C.2.1 hd (lv_of L hl) (kk p e s m args below meth c H locs ls cells slots mc ms C R S L e1 e2)
theorem ex_lload_n {i : Fin 4} {x : Int64} (hl : lget lv i = some (.long x)) (hd : decode (eC M) pc = .ok (.lload_n i, 1)) (kk : Ex G l d M Q X k n (pc + 1) lv (.long x :: rest) h) : Ex G l d M Q X k n pc lv (rest) h := by
  intro p e s m args below meth c H locs ls cells slots mc ms C R S L e1 e2
  exact lv_lload_n C.1 C.2.1 hd rfl (lv_of L hl) (kk p e s m args below meth c H locs ls cells slots mc ms C R S L e1 e2)
theorem ex_lload {i : Nat} {x : Int64} (hl : lget lv i = some (.long x)) (hd : decode (eC M) pc = .ok (.lload i, 2)) (kk : Ex G l d M Q X k n (pc + 2) lv (.long x :: rest) h) : Ex G l d M Q X k n pc lv (rest) h := by
  intro p e s m args below meth c H locs ls cells slots mc ms C R S L e1 e2
  exact lv_lload C.1 C.2.1 hd (lv_of L hl) (kk p e s m args below meth c H locs ls cells slots mc ms C R S L e1 e2)
theorem ex_aload_n {i : Fin 4} {x : Nat} (hl : lget lv i = some (.ref x)) (hd : decode (eC M) pc = .ok (.aload_n i, 1)) (kk : Ex G l d M Q X k n (pc + 1) lv (.ref x :: rest) h) : Ex G l d M Q X k n pc lv (rest) h := by
  intro p e s m args below meth c H locs ls cells slots mc ms C R S L e1 e2
  exact lv_aload_n C.1 C.2.1 hd rfl (lv_of L hl) (kk p e s m args below meth c H locs ls cells slots mc ms C R S L e1 e2)
theorem ex_aload {i : Nat} {x : Nat} (hl : lget lv i = some (.ref x)) (hd : decode (eC M) pc = .ok (.aload i, 2)) (kk : Ex G l d M Q X k n (pc + 2) lv (.ref x :: rest) h) : Ex G l d M Q X k n pc lv (rest) h := by
  intro p e s m args below meth c H locs ls cells slots mc ms C R S L e1 e2
  exact lv_aload C.1 C.2.1 hd (lv_of L hl) (kk p e s m args below meth c H locs ls cells slots mc ms C R S L e1 e2)
theorem ex_istore_n {i : Fin 4} {x : Int32} (hi : (i : Nat) < eL M) (hf : lfree lv i = true) (hd : decode (eC M) pc = .ok (.istore_n i, 1)) (kk : Ex G l d M Q X k n (pc + 1) (lset lv i (.int x)) rest h) : Ex G l d M Q X k n pc lv (.int x :: rest) h := by
  intro p e s m args below meth c H locs ls cells slots mc ms C R S L e1 e2
  exact lv_istore_n C.1 C.2.1 hd rfl L hi rfl (fun ls' L' => kk p e s m args below meth c H locs ls' cells slots mc ms C R S (lset_has hf L') e1 e2)
theorem ex_istore {i : Nat} {x : Int32} (hi : (i : Nat) < eL M) (hf : lfree lv i = true) (hd : decode (eC M) pc = .ok (.istore i, 2)) (kk : Ex G l d M Q X k n (pc + 2) (lset lv i (.int x)) rest h) : Ex G l d M Q X k n pc lv (.int x :: rest) h := by
  intro p e s m args below meth c H locs ls cells slots mc ms C R S L e1 e2
  exact lv_istore C.1 C.2.1 hd L hi rfl (fun ls' L' => kk p e s m args below meth c H locs ls' cells slots mc ms C R S (lset_has hf L') e1 e2)
theorem ex_astore_n {i : Fin 4} {x : Nat} (hi : (i : Nat) < eL M) (hf : lfree lv i = true) (hd : decode (eC M) pc = .ok (.astore_n i, 1)) (kk : Ex G l d M Q X k n (pc + 1) (lset lv i (.ref x)) rest h) : Ex G l d M Q X k n pc lv (.ref x :: rest) h := by
  intro p e s m args below meth c H locs ls cells slots mc ms C R S L e1 e2
  exact lv_astore_n C.1 C.2.1 hd rfl L hi rfl (fun ls' L' => kk p e s m args below meth c H locs ls' cells slots mc ms C R S (lset_has hf L') e1 e2)
theorem ex_astore {i : Nat} {x : Nat} (hi : (i : Nat) < eL M) (hf : lfree lv i = true) (hd : decode (eC M) pc = .ok (.astore i, 2)) (kk : Ex G l d M Q X k n (pc + 2) (lset lv i (.ref x)) rest h) : Ex G l d M Q X k n pc lv (.ref x :: rest) h := by
  intro p e s m args below meth c H locs ls cells slots mc ms C R S L e1 e2
  exact lv_astore C.1 C.2.1 hd L hi rfl (fun ls' L' => kk p e s m args below meth c H locs ls' cells slots mc ms C R S (lset_has hf L') e1 e2)
theorem lget_at {l : List (Nat × Value)} {k : Nat} {v : Value} (h : lget l k = some v) : ∃ j : Nat, l[j]? = some (k, v) := List.getElem?_of_mem (lget_mem h)
theorem ex_iinc {i : Nat} {z : Int} {x v : Int32} (hl : lget lv i = some (.int x)) (hv : x + Int32.ofInt z = v) (hi : i < eL M) (hf : lfree lv i = true) (hd : decode (eC M) pc = .ok (.iinc i z, 3)) (kk : Ex G l d M Q X k n (pc + 3) (lset lv i (.int v)) st h) : Ex G l d M Q X k n pc lv st h := by
  intro p e s m args below meth c H locs ls cells slots mc ms C R S L e1 e2
  obtain ⟨j, hj⟩ := lget_at hl
  exact lv_iinc C.1 C.2.1 hd L hj hv hi rfl (fun ls' L' => kk p e s m args below meth c H locs ls' cells slots mc ms C R S (lset_has hf L') e1 e2)
theorem ex_iadd {x y : Int32} (hd : decode (eC M) pc = .ok (.iadd, 1)) (kk : Ex G l d M Q X k n (pc + 1) lv (.int (x + y) :: rest) h) : Ex G l d M Q X k n pc lv (.int y :: .int x :: rest) h := by
  intro p e s m args below meth c H locs ls cells slots mc ms C R S L e1 e2
  exact lv_iadd C.1 C.2.1 hd (kk p e s m args below meth c H locs ls cells slots mc ms C R S L e1 e2)
theorem ex_isub {x y : Int32} (hd : decode (eC M) pc = .ok (.isub, 1)) (kk : Ex G l d M Q X k n (pc + 1) lv (.int (x - y) :: rest) h) : Ex G l d M Q X k n pc lv (.int y :: .int x :: rest) h := by
  intro p e s m args below meth c H locs ls cells slots mc ms C R S L e1 e2
  exact lv_isub C.1 C.2.1 hd (kk p e s m args below meth c H locs ls cells slots mc ms C R S L e1 e2)
theorem ex_imul {x y : Int32} (hd : decode (eC M) pc = .ok (.imul, 1)) (kk : Ex G l d M Q X k n (pc + 1) lv (.int (x * y) :: rest) h) : Ex G l d M Q X k n pc lv (.int y :: .int x :: rest) h := by
  intro p e s m args below meth c H locs ls cells slots mc ms C R S L e1 e2
  exact lv_imul C.1 C.2.1 hd (kk p e s m args below meth c H locs ls cells slots mc ms C R S L e1 e2)
theorem ex_iand {x y : Int32} (hd : decode (eC M) pc = .ok (.iand, 1)) (kk : Ex G l d M Q X k n (pc + 1) lv (.int (x &&& y) :: rest) h) : Ex G l d M Q X k n pc lv (.int y :: .int x :: rest) h := by
  intro p e s m args below meth c H locs ls cells slots mc ms C R S L e1 e2
  exact lv_iand C.1 C.2.1 hd (kk p e s m args below meth c H locs ls cells slots mc ms C R S L e1 e2)
theorem ex_ior {x y : Int32} (hd : decode (eC M) pc = .ok (.ior, 1)) (kk : Ex G l d M Q X k n (pc + 1) lv (.int (x ||| y) :: rest) h) : Ex G l d M Q X k n pc lv (.int y :: .int x :: rest) h := by
  intro p e s m args below meth c H locs ls cells slots mc ms C R S L e1 e2
  exact lv_ior C.1 C.2.1 hd (kk p e s m args below meth c H locs ls cells slots mc ms C R S L e1 e2)
theorem ex_ixor {x y : Int32} (hd : decode (eC M) pc = .ok (.ixor, 1)) (kk : Ex G l d M Q X k n (pc + 1) lv (.int (x ^^^ y) :: rest) h) : Ex G l d M Q X k n pc lv (.int y :: .int x :: rest) h := by
  intro p e s m args below meth c H locs ls cells slots mc ms C R S L e1 e2
  exact lv_ixor C.1 C.2.1 hd (kk p e s m args below meth c H locs ls cells slots mc ms C R S L e1 e2)
theorem ex_ishl {x y : Int32} (hd : decode (eC M) pc = .ok (.ishl, 1)) (kk : Ex G l d M Q X k n (pc + 1) lv (.int (x <<< (y &&& 31)) :: rest) h) : Ex G l d M Q X k n pc lv (.int y :: .int x :: rest) h := by
  intro p e s m args below meth c H locs ls cells slots mc ms C R S L e1 e2
  exact lv_ishl C.1 C.2.1 hd (kk p e s m args below meth c H locs ls cells slots mc ms C R S L e1 e2)
theorem ex_ishr {x y : Int32} (hd : decode (eC M) pc = .ok (.ishr, 1)) (kk : Ex G l d M Q X k n (pc + 1) lv (.int (x >>> (y &&& 31)) :: rest) h) : Ex G l d M Q X k n pc lv (.int y :: .int x :: rest) h := by
  intro p e s m args below meth c H locs ls cells slots mc ms C R S L e1 e2
  exact lv_ishr C.1 C.2.1 hd (kk p e s m args below meth c H locs ls cells slots mc ms C R S L e1 e2)
theorem ex_idiv {x y : Int32} (hne : ¬ y = 0) (hd : decode (eC M) pc = .ok (.idiv, 1)) (kk : Ex G l d M Q X k n (pc + 1) lv (.int (x / y) :: rest) h) : Ex G l d M Q X k n pc lv (.int y :: .int x :: rest) h := by
  intro p e s m args below meth c H locs ls cells slots mc ms C R S L e1 e2
  exact lv_idiv C.1 C.2.1 hd hne (kk p e s m args below meth c H locs ls cells slots mc ms C R S L e1 e2)
theorem ex_irem {x y : Int32} (hne : ¬ y = 0) (hd : decode (eC M) pc = .ok (.irem, 1)) (kk : Ex G l d M Q X k n (pc + 1) lv (.int (x - x / y * y) :: rest) h) : Ex G l d M Q X k n pc lv (.int y :: .int x :: rest) h := by
  intro p e s m args below meth c H locs ls cells slots mc ms C R S L e1 e2
  exact lv_irem C.1 C.2.1 hd hne (kk p e s m args below meth c H locs ls cells slots mc ms C R S L e1 e2)
theorem ex_land {x y : Int64} (hd : decode (eC M) pc = .ok (.land, 1)) (kk : Ex G l d M Q X k n (pc + 1) lv (.long (x &&& y) :: rest) h) : Ex G l d M Q X k n pc lv (.long y :: .long x :: rest) h := by
  intro p e s m args below meth c H locs ls cells slots mc ms C R S L e1 e2
  exact lv_land C.1 C.2.1 hd (kk p e s m args below meth c H locs ls cells slots mc ms C R S L e1 e2)
theorem ex_lor {x y : Int64} (hd : decode (eC M) pc = .ok (.lor, 1)) (kk : Ex G l d M Q X k n (pc + 1) lv (.long (x ||| y) :: rest) h) : Ex G l d M Q X k n pc lv (.long y :: .long x :: rest) h := by
  intro p e s m args below meth c H locs ls cells slots mc ms C R S L e1 e2
  exact lv_lor C.1 C.2.1 hd (kk p e s m args below meth c H locs ls cells slots mc ms C R S L e1 e2)
theorem ex_lushr {x : Int64} {y : Int32} (hd : decode (eC M) pc = .ok (.lushr, 1)) (kk : Ex G l d M Q X k n (pc + 1) lv (.long ((x.toUInt64 >>> (y.toInt64.toUInt64 &&& Int64.toUInt64 63)).toInt64) :: rest) h) : Ex G l d M Q X k n pc lv (.int y :: .long x :: rest) h := by
  intro p e s m args below meth c H locs ls cells slots mc ms C R S L e1 e2
  exact lv_lushr C.1 C.2.1 hd rfl (kk p e s m args below meth c H locs ls cells slots mc ms C R S L e1 e2)
theorem ex_lshl {x : Int64} {y : Int32} (hd : decode (eC M) pc = .ok (.lshl, 1)) (kk : Ex G l d M Q X k n (pc + 1) lv (.long (x <<< (y.toInt64 &&& 63)) :: rest) h) : Ex G l d M Q X k n pc lv (.int y :: .long x :: rest) h := by
  intro p e s m args below meth c H locs ls cells slots mc ms C R S L e1 e2
  exact lv_lshl C.1 C.2.1 hd rfl (kk p e s m args below meth c H locs ls cells slots mc ms C R S L e1 e2)
theorem ex_iushr {x y : Int32} (hd : decode (eC M) pc = .ok (.iushr, 1)) (kk : Ex G l d M Q X k n (pc + 1) lv (.int ((x.toUInt32 >>> (y.toUInt32 &&& Int32.toUInt32 31)).toInt32) :: rest) h) : Ex G l d M Q X k n pc lv (.int y :: .int x :: rest) h := by
  intro p e s m args below meth c H locs ls cells slots mc ms C R S L e1 e2
  exact lv_iushr C.1 C.2.1 hd rfl (kk p e s m args below meth c H locs ls cells slots mc ms C R S L e1 e2)
theorem ex_lcmp {x y : Int64} (hd : decode (eC M) pc = .ok (.lcmp, 1)) (kk : Ex G l d M Q X k n (pc + 1) lv (.int (lg_cmp x y) :: rest) h) : Ex G l d M Q X k n pc lv (.long y :: .long x :: rest) h := by
  intro p e s m args below meth c H locs ls cells slots mc ms C R S L e1 e2
  exact W.lcmp C.1 C.2.1 hd (kk p e s m args below meth c H locs ls cells slots mc ms C R S L e1 e2)
theorem ex_i2l {x : Int32} (hd : decode (eC M) pc = .ok (.i2l, 1)) (kk : Ex G l d M Q X k n (pc + 1) lv (.long x.toInt64 :: rest) h) : Ex G l d M Q X k n pc lv (.int x :: rest) h := by
  intro p e s m args below meth c H locs ls cells slots mc ms C R S L e1 e2
  exact lv_i2l C.1 C.2.1 hd rfl (kk p e s m args below meth c H locs ls cells slots mc ms C R S L e1 e2)
theorem ex_l2i {x : Int64} (hd : decode (eC M) pc = .ok (.l2i, 1)) (kk : Ex G l d M Q X k n (pc + 1) lv (.int x.toInt32 :: rest) h) : Ex G l d M Q X k n pc lv (.long x :: rest) h := by
  intro p e s m args below meth c H locs ls cells slots mc ms C R S L e1 e2
  exact lv_l2i C.1 C.2.1 hd rfl (kk p e s m args below meth c H locs ls cells slots mc ms C R S L e1 e2)
theorem ex_i2c {x : Int32} (hd : decode (eC M) pc = .ok (.i2c, 1)) (kk : Ex G l d M Q X k n (pc + 1) lv (.int (x.toUInt32 % 65536).toInt32 :: rest) h) : Ex G l d M Q X k n pc lv (.int x :: rest) h := by
  intro p e s m args below meth c H locs ls cells slots mc ms C R S L e1 e2
  exact lv_i2c C.1 C.2.1 hd rfl (kk p e s m args below meth c H locs ls cells slots mc ms C R S L e1 e2)
theorem ex_i2b {x : Int32} (hd : decode (eC M) pc = .ok (.i2b, 1)) (kk : Ex G l d M Q X k n (pc + 1) lv (.int x.toInt8.toInt32 :: rest) h) : Ex G l d M Q X k n pc lv (.int x :: rest) h := by
  intro p e s m args below meth c H locs ls cells slots mc ms C R S L e1 e2
  exact lv_i2b C.1 C.2.1 hd rfl (kk p e s m args below meth c H locs ls cells slots mc ms C R S L e1 e2)
theorem ex_dup {v : Value} (hc : v.category = 1) (hd : decode (eC M) pc = .ok (.dup, 1)) (kk : Ex G l d M Q X k n (pc + 1) lv (v :: v :: rest) h) : Ex G l d M Q X k n pc lv (v :: rest) h := by
  intro p e s m args below meth c H locs ls cells slots mc ms C R S L e1 e2
  exact lv_dup C.1 C.2.1 hd hc (kk p e s m args below meth c H locs ls cells slots mc ms C R S L e1 e2)
theorem ex_pop {v : Value} (hc : v.category = 1) (hd : decode (eC M) pc = .ok (.pop, 1)) (kk : Ex G l d M Q X k n (pc + 1) lv (rest) h) : Ex G l d M Q X k n pc lv (v :: rest) h := by
  intro p e s m args below meth c H locs ls cells slots mc ms C R S L e1 e2
  exact lv_pop C.1 C.2.1 hd hc (kk p e s m args below meth c H locs ls cells slots mc ms C R S L e1 e2)
theorem ex_dup2 {v w : Value} (hc : v.category = 1) (hc2 : w.category = 1) (hd : decode (eC M) pc = .ok (.dup2, 1)) (kk : Ex G l d M Q X k n (pc + 1) lv (v :: w :: v :: w :: rest) h) : Ex G l d M Q X k n pc lv (v :: w :: rest) h := by
  intro p e s m args below meth c H locs ls cells slots mc ms C R S L e1 e2
  exact lv_dup2_11 C.1 C.2.1 hd hc hc2 (kk p e s m args below meth c H locs ls cells slots mc ms C R S L e1 e2)
theorem ex_goto {off : Int} {tgt : Nat} (ht : (pc : Int) + off = (tgt : Int)) (hd : decode (eC M) pc = .ok (.goto off, 3)) (kk : Ex G l d M Q X k n tgt lv st h) : Ex G l d M Q X k n pc lv st h := by
  intro p e s m args below meth c H locs ls cells slots mc ms C R S L e1 e2
  exact lv_goto C.1 C.2.1 hd ht (kk p e s m args below meth c H locs ls cells slots mc ms C R S L e1 e2)
theorem ex_if_eq {x : Int32} {off : Int} {tgt : Nat} (ht : (pc : Int) + off = (tgt : Int)) (hd : decode (eC M) pc = .ok (.ifCond .eq off, 3)) (kt : x = 0 → Ex G l d M Q X k n tgt lv rest h) (kf : ¬ x = 0 → Ex G l d M Q X k n (pc + 3) lv rest h) : Ex G l d M Q X k n pc lv (.int x :: rest) h := by
  intro p e s m args below meth c H locs ls cells slots mc ms C R S L e1 e2
  exact lv_if_eq C.1 C.2.1 hd ht (fun q => kt q p e s m args below meth c H locs ls cells slots mc ms C R S L e1 e2) (fun q => kf q p e s m args below meth c H locs ls cells slots mc ms C R S L e1 e2)
theorem ex_if_ne {x : Int32} {off : Int} {tgt : Nat} (ht : (pc : Int) + off = (tgt : Int)) (hd : decode (eC M) pc = .ok (.ifCond .ne off, 3)) (kt : ¬ x = 0 → Ex G l d M Q X k n tgt lv rest h) (kf : x = 0 → Ex G l d M Q X k n (pc + 3) lv rest h) : Ex G l d M Q X k n pc lv (.int x :: rest) h := by
  intro p e s m args below meth c H locs ls cells slots mc ms C R S L e1 e2
  exact lv_if_ne C.1 C.2.1 hd ht (fun q => kt q p e s m args below meth c H locs ls cells slots mc ms C R S L e1 e2) (fun q => kf q p e s m args below meth c H locs ls cells slots mc ms C R S L e1 e2)
theorem ex_if_lt {x : Int32} {off : Int} {tgt : Nat} (ht : (pc : Int) + off = (tgt : Int)) (hd : decode (eC M) pc = .ok (.ifCond .lt off, 3)) (kt : x < 0 → Ex G l d M Q X k n tgt lv rest h) (kf : ¬ x < 0 → Ex G l d M Q X k n (pc + 3) lv rest h) : Ex G l d M Q X k n pc lv (.int x :: rest) h := by
  intro p e s m args below meth c H locs ls cells slots mc ms C R S L e1 e2
  exact lv_if_lt C.1 C.2.1 hd ht (fun q => kt q p e s m args below meth c H locs ls cells slots mc ms C R S L e1 e2) (fun q => kf q p e s m args below meth c H locs ls cells slots mc ms C R S L e1 e2)
theorem ex_if_ge {x : Int32} {off : Int} {tgt : Nat} (ht : (pc : Int) + off = (tgt : Int)) (hd : decode (eC M) pc = .ok (.ifCond .ge off, 3)) (kt : 0 ≤ x → Ex G l d M Q X k n tgt lv rest h) (kf : ¬ 0 ≤ x → Ex G l d M Q X k n (pc + 3) lv rest h) : Ex G l d M Q X k n pc lv (.int x :: rest) h := by
  intro p e s m args below meth c H locs ls cells slots mc ms C R S L e1 e2
  exact lv_if_ge C.1 C.2.1 hd ht (fun q => kt q p e s m args below meth c H locs ls cells slots mc ms C R S L e1 e2) (fun q => kf q p e s m args below meth c H locs ls cells slots mc ms C R S L e1 e2)
theorem ex_if_gt {x : Int32} {off : Int} {tgt : Nat} (ht : (pc : Int) + off = (tgt : Int)) (hd : decode (eC M) pc = .ok (.ifCond .gt off, 3)) (kt : 0 < x → Ex G l d M Q X k n tgt lv rest h) (kf : ¬ 0 < x → Ex G l d M Q X k n (pc + 3) lv rest h) : Ex G l d M Q X k n pc lv (.int x :: rest) h := by
  intro p e s m args below meth c H locs ls cells slots mc ms C R S L e1 e2
  exact lv_if_gt C.1 C.2.1 hd ht (fun q => kt q p e s m args below meth c H locs ls cells slots mc ms C R S L e1 e2) (fun q => kf q p e s m args below meth c H locs ls cells slots mc ms C R S L e1 e2)
theorem ex_if_le {x : Int32} {off : Int} {tgt : Nat} (ht : (pc : Int) + off = (tgt : Int)) (hd : decode (eC M) pc = .ok (.ifCond .le off, 3)) (kt : x ≤ 0 → Ex G l d M Q X k n tgt lv rest h) (kf : ¬ x ≤ 0 → Ex G l d M Q X k n (pc + 3) lv rest h) : Ex G l d M Q X k n pc lv (.int x :: rest) h := by
  intro p e s m args below meth c H locs ls cells slots mc ms C R S L e1 e2
  exact lv_if_le C.1 C.2.1 hd ht (fun q => kt q p e s m args below meth c H locs ls cells slots mc ms C R S L e1 e2) (fun q => kf q p e s m args below meth c H locs ls cells slots mc ms C R S L e1 e2)
theorem ex_icmp_eq {x y : Int32} {off : Int} {tgt : Nat} (ht : (pc : Int) + off = (tgt : Int)) (hd : decode (eC M) pc = .ok (.if_icmp .eq off, 3)) (kt : x = y → Ex G l d M Q X k n tgt lv rest h) (kf : ¬ x = y → Ex G l d M Q X k n (pc + 3) lv rest h) : Ex G l d M Q X k n pc lv (.int y :: .int x :: rest) h := by
  intro p e s m args below meth c H locs ls cells slots mc ms C R S L e1 e2
  exact lv_icmp_eq C.1 C.2.1 hd ht (fun q => kt q p e s m args below meth c H locs ls cells slots mc ms C R S L e1 e2) (fun q => kf q p e s m args below meth c H locs ls cells slots mc ms C R S L e1 e2)
theorem ex_icmp_ne {x y : Int32} {off : Int} {tgt : Nat} (ht : (pc : Int) + off = (tgt : Int)) (hd : decode (eC M) pc = .ok (.if_icmp .ne off, 3)) (kt : ¬ x = y → Ex G l d M Q X k n tgt lv rest h) (kf : x = y → Ex G l d M Q X k n (pc + 3) lv rest h) : Ex G l d M Q X k n pc lv (.int y :: .int x :: rest) h := by
  intro p e s m args below meth c H locs ls cells slots mc ms C R S L e1 e2
  exact lv_icmp_ne C.1 C.2.1 hd ht (fun q => kt q p e s m args below meth c H locs ls cells slots mc ms C R S L e1 e2) (fun q => kf q p e s m args below meth c H locs ls cells slots mc ms C R S L e1 e2)
theorem ex_icmp_lt {x y : Int32} {off : Int} {tgt : Nat} (ht : (pc : Int) + off = (tgt : Int)) (hd : decode (eC M) pc = .ok (.if_icmp .lt off, 3)) (kt : x < y → Ex G l d M Q X k n tgt lv rest h) (kf : ¬ x < y → Ex G l d M Q X k n (pc + 3) lv rest h) : Ex G l d M Q X k n pc lv (.int y :: .int x :: rest) h := by
  intro p e s m args below meth c H locs ls cells slots mc ms C R S L e1 e2
  exact lv_icmp_lt C.1 C.2.1 hd ht (fun q => kt q p e s m args below meth c H locs ls cells slots mc ms C R S L e1 e2) (fun q => kf q p e s m args below meth c H locs ls cells slots mc ms C R S L e1 e2)
theorem ex_icmp_ge {x y : Int32} {off : Int} {tgt : Nat} (ht : (pc : Int) + off = (tgt : Int)) (hd : decode (eC M) pc = .ok (.if_icmp .ge off, 3)) (kt : y ≤ x → Ex G l d M Q X k n tgt lv rest h) (kf : ¬ y ≤ x → Ex G l d M Q X k n (pc + 3) lv rest h) : Ex G l d M Q X k n pc lv (.int y :: .int x :: rest) h := by
  intro p e s m args below meth c H locs ls cells slots mc ms C R S L e1 e2
  exact lv_icmp_ge C.1 C.2.1 hd ht (fun q => kt q p e s m args below meth c H locs ls cells slots mc ms C R S L e1 e2) (fun q => kf q p e s m args below meth c H locs ls cells slots mc ms C R S L e1 e2)
theorem ex_icmp_gt {x y : Int32} {off : Int} {tgt : Nat} (ht : (pc : Int) + off = (tgt : Int)) (hd : decode (eC M) pc = .ok (.if_icmp .gt off, 3)) (kt : y < x → Ex G l d M Q X k n tgt lv rest h) (kf : ¬ y < x → Ex G l d M Q X k n (pc + 3) lv rest h) : Ex G l d M Q X k n pc lv (.int y :: .int x :: rest) h := by
  intro p e s m args below meth c H locs ls cells slots mc ms C R S L e1 e2
  exact lv_icmp_gt C.1 C.2.1 hd ht (fun q => kt q p e s m args below meth c H locs ls cells slots mc ms C R S L e1 e2) (fun q => kf q p e s m args below meth c H locs ls cells slots mc ms C R S L e1 e2)
theorem ex_icmp_le {x y : Int32} {off : Int} {tgt : Nat} (ht : (pc : Int) + off = (tgt : Int)) (hd : decode (eC M) pc = .ok (.if_icmp .le off, 3)) (kt : x ≤ y → Ex G l d M Q X k n tgt lv rest h) (kf : ¬ x ≤ y → Ex G l d M Q X k n (pc + 3) lv rest h) : Ex G l d M Q X k n pc lv (.int y :: .int x :: rest) h := by
  intro p e s m args below meth c H locs ls cells slots mc ms C R S L e1 e2
  exact lv_icmp_le C.1 C.2.1 hd ht (fun q => kt q p e s m args below meth c H locs ls cells slots mc ms C R S L e1 e2) (fun q => kf q p e s m args below meth c H locs ls cells slots mc ms C R S L e1 e2)
theorem ex_acmp_eq {x y : Nat} {off : Int} {tgt : Nat} (ht : (pc : Int) + off = (tgt : Int)) (hd : decode (eC M) pc = .ok (.if_acmp .eq off, 3)) (kt : x = y → Ex G l d M Q X k n tgt lv rest h) (kf : ¬ x = y → Ex G l d M Q X k n (pc + 3) lv rest h) : Ex G l d M Q X k n pc lv (.ref y :: .ref x :: rest) h := by
  intro p e s m args below meth c H locs ls cells slots mc ms C R S L e1 e2
  exact lv_acmp_eq (rx := some x) (ry := some y) C.1 C.2.1 hd ht (fun q => kt (Option.some.inj q) p e s m args below meth c H locs ls cells slots mc ms C R S L e1 e2) (fun q => kf (fun z => q (congrArg some z)) p e s m args below meth c H locs ls cells slots mc ms C R S L e1 e2)
theorem ex_acmp_ne {x y : Nat} {off : Int} {tgt : Nat} (ht : (pc : Int) + off = (tgt : Int)) (hd : decode (eC M) pc = .ok (.if_acmp .ne off, 3)) (kt : ¬ x = y → Ex G l d M Q X k n tgt lv rest h) (kf : x = y → Ex G l d M Q X k n (pc + 3) lv rest h) : Ex G l d M Q X k n pc lv (.ref y :: .ref x :: rest) h := by
  intro p e s m args below meth c H locs ls cells slots mc ms C R S L e1 e2
  exact lv_acmp_ne (rx := some x) (ry := some y) C.1 C.2.1 hd ht (fun q => kt (fun z => q (congrArg some z)) p e s m args below meth c H locs ls cells slots mc ms C R S L e1 e2) (fun q => kf (Option.some.inj q) p e s m args below meth c H locs ls cells slots mc ms C R S L e1 e2)
theorem ex_tblO {dflt lo hi : Int} {offs : Array Int} {len : Nat} {x : Int32} {tgt : Nat} (hd : decode (eC M) pc = .ok (.tableswitch dflt lo hi offs, len)) (hx : x.toInt < lo ∨ hi < x.toInt) (ht : (pc : Int) + dflt = (tgt : Int)) (kk : Ex G l d M Q X k n tgt lv rest h) : Ex G l d M Q X k n pc lv (.int x :: rest) h := by
  intro p e s m args below meth c H locs ls cells slots mc ms C R S L e1 e2
  exact lv_tableOut C.1 C.2.1 hd hx ht (kk p e s m args below meth c H locs ls cells slots mc ms C R S L e1 e2)
theorem ex_tblI {dflt lo hi : Int} {offs : Array Int} {len : Nat} {x : Int32} {off : Int} {tgt : Nat} (hd : decode (eC M) pc = .ok (.tableswitch dflt lo hi offs, len)) (h1 : ¬ x.toInt < lo) (h2 : ¬ hi < x.toInt) (ho : offs[(x.toInt - lo).toNat]? = some off) (ht : (pc : Int) + off = (tgt : Int)) (kk : Ex G l d M Q X k n tgt lv rest h) : Ex G l d M Q X k n pc lv (.int x :: rest) h := by
  intro p e s m args below meth c H locs ls cells slots mc ms C R S L e1 e2
  exact lv_tableIn C.1 C.2.1 hd h1 h2 ho ht (kk p e s m args below meth c H locs ls cells slots mc ms C R S L e1 e2)
theorem ex_lv (lv' : List (Nat × Value)) (hs : lall lv lv') (kk : Ex G l d M Q X k n pc lv' st h) : Ex G l d M Q X k n pc lv st h := by
  intro p e s m args below meth c H locs ls cells slots mc ms C R S L e1 e2
  exact kk p e s m args below meth c H locs ls cells slots mc ms C R S ⟨L.1, L.2.1, fun q hq => L.2.2 q (lall_mem hs hq)⟩ e1 e2
theorem ex_mono {Q' : Option Value → EH → Prop} {X' : String → EH → Prop} (hq : ∀ v h, Q' v h → Q v h) (hx : ∀ E h, X' E h → X E h) (kk : Ex G l d M Q' X' k n pc lv st h) : Ex G l d M Q X k n pc lv st h := by
  intro p e s m args below meth c H locs ls cells slots mc ms C R S L e1 e2
  intro T hT Y
  obtain ⟨t, a, o, b1, b2, b3⟩ := kk p e s m args below meth c H locs ls cells slots mc ms C R S L e1 e2 T hT Y
  refine ⟨t, a, o, b1, b2, ?_⟩
  rcases b3 with ⟨⟨v, h', x1, x2, x3⟩, x4⟩ | ⟨q, x1, E, ce, L2, ⟨h', y1, y2⟩, x3⟩
  · exact Or.inl ⟨⟨v, h', x1, hq _ _ x2, x3⟩, x4⟩
  · exact Or.inr ⟨q, x1, E, ce, L2, ⟨h', hx _ _ y1, y2⟩, x3⟩
end EXR
