/-! THE LAW: methods with a table of handlers, calls of them; links of the law -/
def mL_law : EM := (yL_law, cL_law, 7, (some .boolean), [])
theorem es_ofH {G : EG} {l : Launch} {d : Nat} {M : EM} {As : List Value} {h : EH} {mc ms : Nat} {Q : Option Value → EH → Prop} {X : String → EH → Prop} (hy : plainName (eY M).cls = true) (hT : eTb M ≠ []) (ha : (lg_sl As).length ≤ eL M) (body : Ex G l d M Q X mc ms 0 (lv_args 0 As) [] h) : ES G l d M As h mc ms Q X := by
  have hw : ews M = Cond.codeWith (eY M) (eC M) (eL M) (eR M) (eTb M) :: egood := by
    unfold ews
    cases e : eTb M with
    | nil => exact absurd e hT
    | cons a t => rfl
  unfold ES
  rw [hw]
  refine vx_ofWH (hh := eTb M) (cc := eC M) (maxL := eL M) (ret := eR M) hy rfl ?_
  intro p e s m args below meth c s₁ B hml hv
  obtain ⟨rfl, hR, hW⟩ := hv
  have hts := atoms_spec (ws := Cond.codeWith (eY M) (eC M) (eL M) (eR M) (eTb M) :: egood) B.pre
  have htb : c.exceptionTable.toList = tableOf (eTb M) := vx_table (x := eY M) B (hts _ List.mem_cons_self)
  have C : eCtx G M p s m As.toArray meth c := ⟨B.exec, B.bytes, hml, findClass_of_methodNamed B.named, fun w hw => hts w (List.mem_cons_of_mem _ hw), B.returns, B.notSynchronized, ⟨(name_of_methodNamed B.named B.method).1, htb⟩, hW⟩
  rw [lg_entry_eq]
  exact body p e s m _ below meth c s.heap [] _ 0 0 mc ms C hR va_S.rf (lv_entry As ha) (Nat.zero_add _) (Nat.zero_add _)
theorem es_metW {G : EG} {l : Launch} {d : Nat} {M : EM} {As : List Value} {h : EH} {mc ms : Nat} {Q : Option Value → EH → Prop} (hT : eTb M ≠ []) (hS : ES G l d M As h mc ms Q eNoX) : Met l (eY M) (Cond.codeWith (eY M) (eC M) (eL M) (eR M) (eTb M) :: egood) (erm d mc ms) (va_Pc As (fun U => eRel G h U.heap ∧ eW G U)) (eQ G Q) mc ms (eF G) := by
  have hw : ews M = Cond.codeWith (eY M) (eC M) (eL M) (eR M) (eTb M) :: egood := by
    unfold ews
    cases e : eTb M with
    | nil => exact absurd e hT
    | cons a t => rfl
  unfold ES at hS
  rw [hw] at hS
  intro p e ha hc hk s m args below hf happ hP hK
  obtain ⟨n, o, h1, h2, h3, h4⟩ := hS p e ha hc hk s m args below hf happ hP hK
  refine ⟨n, o, h1, h2, h3, ?_⟩
  rcases h4 with h4 | ⟨q, -, E, ce, L, ⟨h', hx, -⟩, -⟩
  · exact h4
  · exact hx.elim
def ECSW (own : String) (idx : Nat) (N : EM) (np : Nat) : Prop := Cond.methodLink own idx (eY N) ∈ egood ∧ Cond.static (eY N) ∈ egood ∧ Cond.initialized (eY N).cls ∈ egood ∧ Cond.codeWith (eY N) (eC N) (eL N) (eR N) (eTb N) ∈ egood ∧ ((eY N).cls ≠ "java/lang/invoke/MethodHandle" ∧ (eY N).cls ≠ "java/lang/invoke/VarHandle" ∧ (parseMethodDescriptor (eY N).desc).map (fun d => d.parameters.length) = some np) ∧ eL N ≤ 19 ∧ eTb N ≠ []
section EXW
variable {G : EG} {l : Launch} {d : Nat} {M : EM} {Q : Option Value → EH → Prop} {X : String → EH → Prop} {k n pc : Nat} {lv : List (Nat × Value)} {rest st : List Value} {h : EH}
theorem ex_invsW {idx d' mc' ms' : Nat} {N : EM} {As : List Value} {Q' : Option Value → EH → Prop} (hd : decode (eC M) pc = .ok (.invokestatic idx, 3)) (hN : ECSW (eY M).cls idx N As.length) (hdd : d' + 1 ≤ d) (hrs : (rest.map fun v => v.category).sum ≤ 8) (hS : ES G l d' N As h mc' ms' Q' eNoX) (kk : ∀ (v : Option Value) (h' : EH), Q' v h' → Ex G l d M Q X k n (pc + 3) lv (v.toList ++ rest) h') : Ex G l d M Q X (k + mc') (n + ms') pc lv (As.reverse ++ rest) h := by
  intro p e s m args below meth c H locs ls cells slots mc ms C R S L e1 e2
  obtain ⟨n1, n2, n3, n4, n5, n6, n7⟩ := hN
  have hts := C.2.2.2.2.1
  have hT : GoodIn egood (va_wsS (eY M).cls idx (eY N) (Cond.codeWith (eY N) (eC N) (eL N) (eR N) (eTb N) :: egood)) := by
    intro w hw
    refine egood_all w ?_
    simp only [va_wsS, List.mem_append, List.mem_cons, List.not_mem_nil, or_false, false_or] at hw
    rcases hw with (e | e | e) | e | e
    all_goals first | (rw [e]; assumption) | assumption
  exact e_go (vx_runSW (As := As) (rest := rest) ⟨C.1, C.2.1, C.2.2.1, C.2.2.2.1, C.2.2.2.2.1⟩ (es_metW n7 hS) (vx_cwSW As.length hts hT rfl rfl rfl n5 ⟨hdd, by show 8 + (eL N + 11) + 38 * d' ≤ 38 * d; omega⟩) (e_pre C.2.2.2.2.2.2.2.2 S R) rfl rfl L.1 rfl (lv_room hrs) hd ⟨by show cells + mc' ≤ mc; omega, by show slots + ms' ≤ ms; omega⟩) S (fun v h' H1 locs1 hq hR hS1 => kk v h' hq p e s m args below meth c H1 locs1 ls (cells + mc') (slots + ms') mc ms C hR hS1 L (by omega) (by omega))
/-- the row of this method's table that takes what is thrown -/
def ECt (M : EM) (pc : Nat) (E : String) (hpc : Nat) : Prop := ∃ (pre : List ExceptionTableEntry) (x : ExceptionTableEntry) (suf : List ExceptionTableEntry), tableOf (eTb M) = pre ++ x :: suf ∧ x.handlerPc = hpc ∧ (∀ z ∈ pre, E = "java/lang/IllegalStateException" ∧ z.catchType ≠ 0 ∧ Cond.classLink (eY M).cls z.catchType "java/lang/IllegalArgumentException" ∈ egood) ∧ covers x pc = true ∧ x.catchType ≠ 0 ∧ Cond.classLink (eY M).cls x.catchType E ∈ egood ∧ Cond.castable E E ∈ lw_tbl
theorem ex_invvC {idx d' mc' ms' : Nat} {N : EM} {As : List Value} {Q' : Option Value → EH → Prop} {X' : String → EH → Prop} {b : Nat} (hd : decode (eC M) pc = .ok (.invokevirtual idx, 3)) (hN : ECV (eY M).cls idx N As.length) (hdd : d' + 1 ≤ d) (hrs : (rest.map fun v => v.category).sum ≤ 8) (hb : ERc G h b (eY N).cls) (hS : ES G l d' N (.ref b :: As) h mc' ms' Q' X')
    (kx : ∀ (E : String) (h' : EH), X' E h' → ∃ hpc, ECt M pc E hpc ∧ ∀ q, Ex G l d M Q X k n hpc lv [.ref q] h') (kk : ∀ (v : Option Value) (h' : EH), Q' v h' → Ex G l d M Q X k n (pc + 3) lv (v.toList ++ rest) h') : Ex G l d M Q X (k + mc') (n + ms') pc lv (As.reverse ++ .ref b :: rest) h := by
  intro p e s m args below meth c H locs ls cells slots mc ms C R S L e1 e2
  obtain ⟨n1, n2, n3, hN_⟩ := hN
  have hts := C.2.2.2.2.1
  have hw : ews N = Cond.code (eY N) (eC N) (eL N) (eR N) :: egood := by unfold ews; rw [hN_.2.2.2.2]
  unfold ES at hS
  rw [hw] at hS
  have hr := vx_runV (R := erm d mc ms) (As := As) (rest := rest) (cells := cells) (slots := slots) (g := F0 m pc ls (As.reverse ++ .ref b :: rest)) ⟨C.1, C.2.1, C.2.2.1, C.2.2.2.1, C.2.2.2.2.1⟩ hS ⟨callB_of As.length hts hN_.good rfl rfl rfl (hts _ hN_.1) (hts _ n1) hN_.2.2.1 ⟨hdd, by show 8 + (eL N + 11) + 38 * d' ≤ 38 * d; have := hN_.2.2.2.1; omega⟩, hts _ n2, hts _ n3⟩ ⟨e_blind, hb.cell R C.2.2.2.2.2.2.2.2 S, (e_pre C.2.2.2.2.2.2.2.2 S R).2⟩ rfl rfl L.1 rfl (lv_room hrs) hd ⟨by show cells + mc' ≤ mc; omega, by show slots + ms' ≤ ms; omega⟩ (p := p) (l := l) (e := e) (below := below) (meth := meth) (locs := locs)
  intro T hT Y
  rcases hr T hT Y with ⟨v, st₀, t, T', L', h0, X1, hL, a1, a2, ⟨v2, h', hv, hq, hR, hz, hk⟩, go⟩ | ⟨q, st₀, t, T', L', E, ce, h0, X1, hL, a1, a2, ⟨h', hx, hR, hz, hk⟩, hce, hcv, hcl, st⟩
  · cases hv
    rw [h0] at hz hk
    obtain ⟨t2, b1, b2⟩ := kk v h' hq p e s m args below meth c T'.heap (locs ++ L') ls (cells + mc') (slots + ms') mc ms C (by rw [a1]; exact hR)
      ⟨Nat.le_trans S.1 (by rw [a1]; exact hz), fun q h1 h2 => by rw [a1, hk q (Nat.lt_of_lt_of_le h1 S.1) h2]; exact S.2.1 q h1 h2, fun q hq => (List.mem_append.mp hq).elim (S.2.2 q) (hL q)⟩ L (by omega) (by omega) T' rfl X1
    exact ⟨t2, go t2 b1, b2⟩
  · rw [h0] at hz hk
    obtain ⟨hpc, ⟨pre, x, suf, c1, c2, c3, c4, c5, c6, c7⟩, kq⟩ := kx E h' hx
    have hN0 := C.2.2.2.2.2.2.2.2.2.2.2.2.2
    have hW := kq q p e s m args below meth c T'.heap (locs ++ L') ls (cells + mc') (slots + ms') mc ms C (by rw [a1]; exact hR)
      ⟨Nat.le_trans S.1 (by rw [a1]; exact hz), fun q h1 h2 => by rw [a1, hk q (Nat.lt_of_lt_of_le h1 S.1) h2]; exact S.2.1 q h1 h2, fun q hq => (List.mem_append.mp hq).elim (S.2.2 q) (hL q)⟩ L (by omega) (by omega)
    rw [← c2] at hW
    obtain ⟨t2, b1, b2⟩ := vx_catch (E := E) (name := E) (own := (eY M).cls) C.2.2.2.1 pre x suf (C.2.2.2.2.2.2.2.1.2.trans c1)
      (fun z hz => by
        obtain ⟨d1, d2, d3⟩ := c3 z hz
        exact Or.inr ⟨d2, _, hts _ d3, by rw [d1]; exact hN0.2.2.2.1⟩) c4 c5 (hts _ c6) (va_Nw.use rfl (hN0.2.2.1 _ _ c7)) (by rw [a1]; exact hce) hcv hcl hW T' rfl X1
    exact ⟨t2, st.trans b1, b2⟩
end EXW
theorem nw_L_8 : ENW RL 8 7 10 [.null, .null, .null, .null, .null, .null, .null, .null, .int 0, .int 0] := ⟨RX11, TX11, tyX11, rfl, innX11, tyX11_ok, eg 85 (by decide +kernel) rfl, eg 86 (by decide +kernel) rfl, eg 58 (by decide +kernel) rfl, by decide⟩
theorem cs_L_29 : ECS RL 29 mL_cell 2 := ⟨eg 429 (by decide +kernel) rfl, eg 430 (by decide +kernel) rfl, caL_cell⟩
theorem ci_L_35 : ECI RL 35 mX11_init 1 := ⟨eg 87 (by decide +kernel) rfl, eg 88 (by decide +kernel) rfl, rfl, rfl, caX11_init⟩
theorem nw_L_38 : ENW RL 38 8 32 [.int 0, .int 0, .int 0, .null, .int 0, .int 0, .int 0, .null, .null, .null, .null, .int 0, .int 0, .int 0, .null, .null, .null, .null, .null, .null, .null, .int 0, .null, .null, .int 0, .int 0, .int 0, .null, .int 0, .null, .null, .null] := ⟨RX12, TX12, tyX12, rfl, innX12, tyX12_ok, eg 981 (by decide +kernel) rfl, eg 982 (by decide +kernel) rfl, eg 69 (by decide +kernel) rfl, by decide⟩
theorem ci_L_40 : ECI RL 40 mX12_init 1 := ⟨eg 983 (by decide +kernel) rfl, eg 984 (by decide +kernel) rfl, rfl, rfl, caX12_init⟩
theorem lc_L_41 : Cond.constantLong RL 41 (4294967295) ∈ egood := eg 1291 (by decide +kernel) rfl
theorem cv_L_43 : ECV RL 43 mX11_write 1 := ⟨eg 261 (by decide +kernel) rfl, eg 262 (by decide +kernel) rfl, eg 263 (by decide +kernel) rfl, caX11_write⟩
theorem cv_L_47 : ECV RL 47 mX12_write 1 := ⟨eg 1090 (by decide +kernel) rfl, eg 1091 (by decide +kernel) rfl, eg 1092 (by decide +kernel) rfl, caX12_write⟩
theorem cw_L_48 : ECSW RL 48 mL_add 2 := ⟨eg 432 (by decide +kernel) rfl, eg 433 (by decide +kernel) rfl, eg 57 (by decide +kernel) rfl, eg 434 (by decide +kernel) rfl, ⟨by decide +kernel, by decide +kernel, by decide +kernel⟩, by decide, by decide⟩
theorem cv_L_51 : ECV RL 51 mX12_add 0 := ⟨eg 1095 (by decide +kernel) rfl, eg 1096 (by decide +kernel) rfl, eg 1097 (by decide +kernel) rfl, caX12_add⟩
theorem cv_L_52 : ECV RL 52 mX12_thrown 0 := ⟨eg 1086 (by decide +kernel) rfl, eg 1087 (by decide +kernel) rfl, eg 1088 (by decide +kernel) rfl, caX12_thrown⟩
theorem cv_L_55 : ECV RL 55 mX11_position 0 := ⟨eg 276 (by decide +kernel) rfl, eg 277 (by decide +kernel) rfl, eg 278 (by decide +kernel) rfl, caX11_position⟩
theorem cv_L_58 : ECV RL 58 mX12_position 0 := ⟨eg 1133 (by decide +kernel) rfl, eg 1134 (by decide +kernel) rfl, eg 1135 (by decide +kernel) rfl, caX12_position⟩
theorem cv_L_59 : ECV RL 59 mX11_cut 1 := ⟨eg 280 (by decide +kernel) rfl, eg 281 (by decide +kernel) rfl, eg 282 (by decide +kernel) rfl, caX11_cut⟩
theorem cv_L_63 : ECV RL 63 mX12_cut 1 := ⟨eg 1137 (by decide +kernel) rfl, eg 1138 (by decide +kernel) rfl, eg 1139 (by decide +kernel) rfl, caX12_cut⟩
theorem cw_L_64 : ECSW RL 64 mL_accept 2 := ⟨eg 719 (by decide +kernel) rfl, eg 720 (by decide +kernel) rfl, eg 57 (by decide +kernel) rfl, eg 721 (by decide +kernel) rfl, ⟨by decide +kernel, by decide +kernel, by decide +kernel⟩, by decide, by decide⟩
theorem cv_L_66 : ECV RL 66 mX12_accept 0 := ⟨eg 1141 (by decide +kernel) rfl, eg 1142 (by decide +kernel) rfl, eg 1143 (by decide +kernel) rfl, caX12_accept⟩
theorem cv_L_67 : ECV RL 67 mX11_fault 0 := ⟨eg 288 (by decide +kernel) rfl, eg 289 (by decide +kernel) rfl, eg 290 (by decide +kernel) rfl, caX11_fault⟩
theorem cv_L_70 : ECV RL 70 mX12_fault 0 := ⟨eg 1232 (by decide +kernel) rfl, eg 1233 (by decide +kernel) rfl, eg 1234 (by decide +kernel) rfl, caX12_fault⟩
theorem cw_L_71 : ECSW RL 71 mL_may 5 := ⟨eg 900 (by decide +kernel) rfl, eg 901 (by decide +kernel) rfl, eg 57 (by decide +kernel) rfl, eg 902 (by decide +kernel) rfl, ⟨by decide +kernel, by decide +kernel, by decide +kernel⟩, by decide, by decide⟩
theorem cv_L_74 : ECV RL 74 mX12_may 3 := ⟨eg 1236 (by decide +kernel) rfl, eg 1237 (by decide +kernel) rfl, eg 1238 (by decide +kernel) rfl, caX12_may⟩
theorem cv_L_75 : ECV RL 75 mX11_made 3 := ⟨eg 292 (by decide +kernel) rfl, eg 293 (by decide +kernel) rfl, eg 294 (by decide +kernel) rfl, caX11_made⟩
theorem cv_L_78 : ECV RL 78 mX12_made 3 := ⟨eg 1248 (by decide +kernel) rfl, eg 1249 (by decide +kernel) rfl, eg 1250 (by decide +kernel) rfl, caX12_made⟩
theorem cv_L_79 : ECV RL 79 mX11_flow 2 := ⟨eg 307 (by decide +kernel) rfl, eg 308 (by decide +kernel) rfl, eg 309 (by decide +kernel) rfl, caX11_flow⟩
theorem cv_L_83 : ECV RL 83 mX12_flow 2 := ⟨eg 1252 (by decide +kernel) rfl, eg 1253 (by decide +kernel) rfl, eg 1254 (by decide +kernel) rfl, caX12_flow⟩
theorem cv_L_84 : ECV RL 84 mX11_count 1 := ⟨eg 351 (by decide +kernel) rfl, eg 352 (by decide +kernel) rfl, eg 353 (by decide +kernel) rfl, caX11_count⟩
theorem cv_L_88 : ECV RL 88 mX12_count 1 := ⟨eg 1260 (by decide +kernel) rfl, eg 1261 (by decide +kernel) rfl, eg 1262 (by decide +kernel) rfl, caX12_count⟩
theorem cv_L_89 : ECV RL 89 mX11_image 0 := ⟨eg 379 (by decide +kernel) rfl, eg 380 (by decide +kernel) rfl, eg 381 (by decide +kernel) rfl, caX11_image⟩
theorem cv_L_92 : ECV RL 92 mX12_image 0 := ⟨eg 1264 (by decide +kernel) rfl, eg 1265 (by decide +kernel) rfl, eg 1266 (by decide +kernel) rfl, caX12_image⟩
theorem cv_L_93 : ECV RL 93 mX11_imageAt 1 := ⟨eg 411 (by decide +kernel) rfl, eg 412 (by decide +kernel) rfl, eg 413 (by decide +kernel) rfl, caX11_imageAt⟩
theorem cv_L_96 : ECV RL 96 mX12_imageAt 1 := ⟨eg 1272 (by decide +kernel) rfl, eg 1273 (by decide +kernel) rfl, eg 1274 (by decide +kernel) rfl, caX12_imageAt⟩
theorem cv_L_97 : ECV RL 97 mX11_feed 2 := ⟨eg 419 (by decide +kernel) rfl, eg 420 (by decide +kernel) rfl, eg 421 (by decide +kernel) rfl, caX11_feed⟩
theorem cv_L_101 : ECV RL 101 mX12_feed 2 := ⟨eg 1276 (by decide +kernel) rfl, eg 1277 (by decide +kernel) rfl, eg 1278 (by decide +kernel) rfl, caX12_feed⟩
theorem cw_L_102 : ECSW RL 102 mL_read 2 := ⟨eg 943 (by decide +kernel) rfl, eg 944 (by decide +kernel) rfl, eg 57 (by decide +kernel) rfl, eg 945 (by decide +kernel) rfl, ⟨by decide +kernel, by decide +kernel, by decide +kernel⟩, by decide, by decide⟩
theorem cv_L_104 : ECV RL 104 mX12_read 0 := ⟨eg 1280 (by decide +kernel) rfl, eg 1281 (by decide +kernel) rfl, eg 1282 (by decide +kernel) rfl, caX12_read⟩
theorem ct_add_IAE : ECt mL_add 3 IAE 11 := ⟨[], _, [_], rfl, rfl, (fun z hz => by cases hz), by decide, by decide, eg 435 (by decide +kernel) rfl, List.mem_of_getElem? (i := 628) (by decide +kernel)⟩
theorem ct_add_ISE : ECt mL_add 3 ISE 14 := ⟨[_], _, [], rfl, rfl, (fun z hz => by rw [List.mem_singleton] at hz; subst hz; exact ⟨rfl, by decide, eg 435 (by decide +kernel) rfl⟩), by decide, by decide, eg 436 (by decide +kernel) rfl, List.mem_of_getElem? (i := 700) (by decide +kernel)⟩
theorem ct_accept_IAE : ECt mL_accept 3 IAE 11 := ⟨[], _, [_], rfl, rfl, (fun z hz => by cases hz), by decide, by decide, eg 435 (by decide +kernel) rfl, List.mem_of_getElem? (i := 628) (by decide +kernel)⟩
theorem ct_accept_ISE : ECt mL_accept 3 ISE 14 := ⟨[_], _, [], rfl, rfl, (fun z hz => by rw [List.mem_singleton] at hz; subst hz; exact ⟨rfl, by decide, eg 435 (by decide +kernel) rfl⟩), by decide, by decide, eg 436 (by decide +kernel) rfl, List.mem_of_getElem? (i := 700) (by decide +kernel)⟩
theorem ct_may_NSE : ECt mL_may 7 NSE 15 := ⟨[], _, [], rfl, rfl, (fun z hz => by cases hz), by decide, by decide, eg 903 (by decide +kernel) rfl, List.mem_of_getElem? (i := 911) (by decide +kernel)⟩
theorem ct_read_IAE : ECt mL_read 3 IAE 11 := ⟨[], _, [], rfl, rfl, (fun z hz => by cases hz), by decide, by decide, eg 435 (by decide +kernel) rfl, List.mem_of_getElem? (i := 628) (by decide +kernel)⟩
