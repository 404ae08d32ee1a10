/-! THE LOGIC, 4: the same rules where ints are numbers (nI), truth values (b2i), numbers or NONE (oI) -/
def b2i (b : Bool) : Int32 := nI b.toNat
def oI (o : Option Nat) : Int32 := match o with
  | none => -1
  | some j => nI j
theorem b2i_t : b2i true = nI 1 := rfl
theorem b2i_f : b2i false = nI 0 := rfl
theorem b2i_eq0 {b : Bool} : b2i b = 0 ↔ b = false := by cases b <;> decide
theorem b2i_nb (b : Bool) : narrow .boolean (.int (b2i b)) = .int (b2i b) := by cases b <;> rfl
theorem nI_ne_m1 {a : Nat} (h : a < 2 ^ 31) : nI a ≠ -1 := by
  intro q
  have h1 := nI_toInt h
  rw [q] at h1
  have : ((-1 : Int32)).toInt = -1 := by decide
  omega
theorem oI_m1 {o : Option Nat} (h : ∀ j, o = some j → j < 2 ^ 31) : oI o = -1 ↔ o = none := by
  cases o with
  | none => exact ⟨fun _ => rfl, fun _ => rfl⟩
  | some j => exact ⟨fun q => absurd q (nI_ne_m1 (h j rfl)), fun q => by cases q⟩
theorem hup_eq {h : EH} {a : Nat} {e : va_E} : (hup h a e).2 a = some e := if_pos rfl
theorem hup_ne {h : EH} {a b : Nat} {e : va_E} {x : Option va_E} (hn : b ≠ a) (hb : h.2 b = x) : (hup h a e).2 b = x := (if_neg hn).trans hb
theorem hnew_eq {h : EH} {e : va_E} : (hnew h e).2 h.1 = some e := if_pos rfl
theorem hnew_ne {h : EH} {b : Nat} {e : va_E} {x : Option va_E} (hn : b ≠ h.1) (hb : h.2 b = x) : (hnew h e).2 b = x := (if_neg hn).trans hb
theorem hup_hup (h : EH) (a : Nat) (e e' : va_E) : hup (hup h a e) a e' = hup h a e' := by
  refine Prod.ext rfl (funext fun b => ?_)
  show (if b = a then some e' else if b = a then some e else h.2 b) = if b = a then some e' else h.2 b
  by_cases hb : b = a <;> simp [hb]
theorem hup_comm (h : EH) {a b : Nat} (e e' : va_E) (hn : a ≠ b) : hup (hup h a e) b e' = hup (hup h b e') a e := by
  refine Prod.ext rfl (funext fun c => ?_)
  show (if c = b then some e' else if c = a then some e else h.2 c) = if c = a then some e else if c = b then some e' else h.2 c
  by_cases h1 : c = b
  · by_cases h2 : c = a
    · exact absurd (h2.symm.trans h1) hn
    · subst h1; rw [if_pos rfl, if_neg h2, if_pos rfl]
  · rw [if_neg h1, if_neg h1]
theorem hup_id {h : EH} {a : Nat} {e : va_E} (ha : h.2 a = some e) : hup h a e = h := by
  refine Prod.ext rfl (funext fun b => ?_)
  show (if b = a then some e else h.2 b) = h.2 b
  by_cases hb : b = a
  · rw [if_pos hb, hb, ha]
  · rw [if_neg hb]
theorem upd_same (f : Nat → Int32) (j : Nat) : upd f j (f j) = f := funext fun i => by unfold upd; by_cases h : i = j <;> simp [h]
section EXN
variable {G : EG} {l : Launch} {d : Nat} {M : EM} {Q : Option Value → EH → Prop} {X : String → EH → Prop} {k n pc : Nat} {lv : List (Nat × Value)} {rest st : List Value} {h : EH}
theorem ex_iaddN {a b : Nat} (hd : decode (eC M) pc = .ok (.iadd, 1)) (kk : Ex G l d M Q X k n (pc + 1) lv (.int (nI (a + b)) :: rest) h) : Ex G l d M Q X k n pc lv (.int (nI b) :: .int (nI a) :: rest) h := ex_iadd hd (by rw [nI_add]; exact kk)
theorem ex_imulN {a b : Nat} (hd : decode (eC M) pc = .ok (.imul, 1)) (kk : Ex G l d M Q X k n (pc + 1) lv (.int (nI (a * b)) :: rest) h) : Ex G l d M Q X k n pc lv (.int (nI b) :: .int (nI a) :: rest) h := ex_imul hd (by rw [pk_mul]; exact kk)
theorem ex_isubN {a b : Nat} (hle : b ≤ a) (hd : decode (eC M) pc = .ok (.isub, 1)) (kk : Ex G l d M Q X k n (pc + 1) lv (.int (nI (a - b)) :: rest) h) : Ex G l d M Q X k n pc lv (.int (nI b) :: .int (nI a) :: rest) h := ex_isub hd (by rw [pk_sub hle]; exact kk)
theorem ex_idivN {a b : Nat} (ha : a < 2 ^ 31) (h0 : 0 < b) (hb : b < 2 ^ 31) (hd : decode (eC M) pc = .ok (.idiv, 1)) (kk : Ex G l d M Q X k n (pc + 1) lv (.int (nI (a / b)) :: rest) h) : Ex G l d M Q X k n pc lv (.int (nI b) :: .int (nI a) :: rest) h := ex_idiv (nI_ne0 h0 hb) hd (by rw [pk_div ha h0 hb]; exact kk)
theorem ex_iremN {a b : Nat} (ha : a < 2 ^ 31) (h0 : 0 < b) (hb : b < 2 ^ 31) (hd : decode (eC M) pc = .ok (.irem, 1)) (kk : Ex G l d M Q X k n (pc + 1) lv (.int (nI (a % b)) :: rest) h) : Ex G l d M Q X k n pc lv (.int (nI b) :: .int (nI a) :: rest) h := ex_irem (nI_ne0 h0 hb) hd (by rw [pk_rem ha h0 hb]; exact kk)
theorem ofInt_nat (z : Nat) : Int32.ofInt (z : Int) = nI z := rfl
theorem ex_iincN {i z a : Nat} (hl : lget lv i = some (.int (nI a))) (hi : i < eL M) (hf : lfree lv i = true) (hd : decode (eC M) pc = .ok (.iinc i (z : Int), 3)) (kk : Ex G l d M Q X k n (pc + 3) (lset lv i (.int (nI (a + z)))) st h) : Ex G l d M Q X k n pc lv st h := ex_iinc hl (by rw [ofInt_nat, nI_add]) hi hf hd kk
theorem ex_icmpN_eq {a b : Nat} {off : Int} {tgt : Nat} (ht : (pc : Int) + off = (tgt : Int)) (hd : decode (eC M) pc = .ok (.if_icmp .eq off, 3)) (ha : a < 2 ^ 31) (hb : b < 2 ^ 31) (kt : a = b → Ex G l d M Q X k n tgt lv rest h) (kf : a ≠ b → Ex G l d M Q X k n (pc + 3) lv rest h) : Ex G l d M Q X k n pc lv (.int (nI b) :: .int (nI a) :: rest) h := ex_icmp_eq ht hd (fun q => kt ((nI_eq ha hb).mp q)) (fun q => kf (fun z => q ((nI_eq ha hb).mpr z)))
theorem ex_icmpN_ne {a b : Nat} {off : Int} {tgt : Nat} (ht : (pc : Int) + off = (tgt : Int)) (hd : decode (eC M) pc = .ok (.if_icmp .ne off, 3)) (ha : a < 2 ^ 31) (hb : b < 2 ^ 31) (kt : a ≠ b → Ex G l d M Q X k n tgt lv rest h) (kf : a = b → Ex G l d M Q X k n (pc + 3) lv rest h) : Ex G l d M Q X k n pc lv (.int (nI b) :: .int (nI a) :: rest) h := ex_icmp_ne ht hd (fun q => kt (fun z => q ((nI_eq ha hb).mpr z))) (fun q => kf ((nI_eq ha hb).mp q))
theorem ex_icmpN_lt {a b : Nat} {off : Int} {tgt : Nat} (ht : (pc : Int) + off = (tgt : Int)) (hd : decode (eC M) pc = .ok (.if_icmp .lt off, 3)) (ha : a < 2 ^ 31) (hb : b < 2 ^ 31) (kt : a < b → Ex G l d M Q X k n tgt lv rest h) (kf : b ≤ a → Ex G l d M Q X k n (pc + 3) lv rest h) : Ex G l d M Q X k n pc lv (.int (nI b) :: .int (nI a) :: rest) h := ex_icmp_lt ht hd (fun q => kt ((nI_ltI ha hb).mp q)) (fun q => kf (Nat.not_lt.mp (fun z => q ((nI_ltI ha hb).mpr z))))
theorem ex_icmpN_ge {a b : Nat} {off : Int} {tgt : Nat} (ht : (pc : Int) + off = (tgt : Int)) (hd : decode (eC M) pc = .ok (.if_icmp .ge off, 3)) (ha : a < 2 ^ 31) (hb : b < 2 ^ 31) (kt : b ≤ a → Ex G l d M Q X k n tgt lv rest h) (kf : a < b → Ex G l d M Q X k n (pc + 3) lv rest h) : Ex G l d M Q X k n pc lv (.int (nI b) :: .int (nI a) :: rest) h := ex_icmp_ge ht hd (fun q => kt ((nI_leI hb ha).mp q)) (fun q => kf (Nat.not_le.mp (fun z => q ((nI_leI hb ha).mpr z))))
theorem ex_icmpN_gt {a b : Nat} {off : Int} {tgt : Nat} (ht : (pc : Int) + off = (tgt : Int)) (hd : decode (eC M) pc = .ok (.if_icmp .gt off, 3)) (ha : a < 2 ^ 31) (hb : b < 2 ^ 31) (kt : b < a → Ex G l d M Q X k n tgt lv rest h) (kf : a ≤ b → Ex G l d M Q X k n (pc + 3) lv rest h) : Ex G l d M Q X k n pc lv (.int (nI b) :: .int (nI a) :: rest) h := ex_icmp_gt ht hd (fun q => kt ((nI_ltI hb ha).mp q)) (fun q => kf (Nat.not_lt.mp (fun z => q ((nI_ltI hb ha).mpr z))))
theorem ex_icmpN_le {a b : Nat} {off : Int} {tgt : Nat} (ht : (pc : Int) + off = (tgt : Int)) (hd : decode (eC M) pc = .ok (.if_icmp .le off, 3)) (ha : a < 2 ^ 31) (hb : b < 2 ^ 31) (kt : a ≤ b → Ex G l d M Q X k n tgt lv rest h) (kf : b < a → Ex G l d M Q X k n (pc + 3) lv rest h) : Ex G l d M Q X k n pc lv (.int (nI b) :: .int (nI a) :: rest) h := ex_icmp_le ht hd (fun q => kt ((nI_leI ha hb).mp q)) (fun q => kf (Nat.not_le.mp (fun z => q ((nI_leI ha hb).mpr z))))
theorem ex_ifN_eq {a : Nat} {off : Int} {tgt : Nat} (ht : (pc : Int) + off = (tgt : Int)) (hd : decode (eC M) pc = .ok (.ifCond .eq off, 3)) (ha : a < 2 ^ 31) (kt : a = 0 → Ex G l d M Q X k n tgt lv rest h) (kf : a ≠ 0 → Ex G l d M Q X k n (pc + 3) lv rest h) : Ex G l d M Q X k n pc lv (.int (nI a) :: rest) h := ex_if_eq ht hd (fun q => kt ((nI_eq ha (by decide : 0 < 2 ^ 31)).mp q)) (fun q => kf (fun z => q ((nI_eq ha (by decide : 0 < 2 ^ 31)).mpr z)))
theorem ex_ifN_ne {a : Nat} {off : Int} {tgt : Nat} (ht : (pc : Int) + off = (tgt : Int)) (hd : decode (eC M) pc = .ok (.ifCond .ne off, 3)) (ha : a < 2 ^ 31) (kt : a ≠ 0 → Ex G l d M Q X k n tgt lv rest h) (kf : a = 0 → Ex G l d M Q X k n (pc + 3) lv rest h) : Ex G l d M Q X k n pc lv (.int (nI a) :: rest) h := ex_if_ne ht hd (fun q => kt (fun z => q ((nI_eq ha (by decide : 0 < 2 ^ 31)).mpr z))) (fun q => kf ((nI_eq ha (by decide : 0 < 2 ^ 31)).mp q))
theorem ex_ifN_lt {a : Nat} {off : Int} {tgt : Nat} (ht : (pc : Int) + off = (tgt : Int)) (hd : decode (eC M) pc = .ok (.ifCond .lt off, 3)) (ha : a < 2 ^ 31) (kt : False → Ex G l d M Q X k n tgt lv rest h) (kf : True → Ex G l d M Q X k n (pc + 3) lv rest h) : Ex G l d M Q X k n pc lv (.int (nI a) :: rest) h := ex_if_lt ht hd (fun q => kt (nI_pos ha q)) (fun q => kf trivial)
theorem ex_ifN_ge {a : Nat} {off : Int} {tgt : Nat} (ht : (pc : Int) + off = (tgt : Int)) (hd : decode (eC M) pc = .ok (.ifCond .ge off, 3)) (ha : a < 2 ^ 31) (kt : True → Ex G l d M Q X k n tgt lv rest h) (kf : False → Ex G l d M Q X k n (pc + 3) lv rest h) : Ex G l d M Q X k n pc lv (.int (nI a) :: rest) h := ex_if_ge ht hd (fun q => kt trivial) (fun q => kf (q (nI_pos' ha)))
theorem ex_ifN_gt {a : Nat} {off : Int} {tgt : Nat} (ht : (pc : Int) + off = (tgt : Int)) (hd : decode (eC M) pc = .ok (.ifCond .gt off, 3)) (ha : a < 2 ^ 31) (kt : 0 < a → Ex G l d M Q X k n tgt lv rest h) (kf : a = 0 → Ex G l d M Q X k n (pc + 3) lv rest h) : Ex G l d M Q X k n pc lv (.int (nI a) :: rest) h := ex_if_gt ht hd (fun q => kt ((nI_ltI (by decide : 0 < 2 ^ 31) ha).mp q)) (fun q => kf (Nat.eq_zero_of_not_pos (fun z => q ((nI_ltI (by decide : 0 < 2 ^ 31) ha).mpr z))))
theorem ex_ifN_le {a : Nat} {off : Int} {tgt : Nat} (ht : (pc : Int) + off = (tgt : Int)) (hd : decode (eC M) pc = .ok (.ifCond .le off, 3)) (ha : a < 2 ^ 31) (kt : a = 0 → Ex G l d M Q X k n tgt lv rest h) (kf : 0 < a → Ex G l d M Q X k n (pc + 3) lv rest h) : Ex G l d M Q X k n pc lv (.int (nI a) :: rest) h := ex_if_le ht hd (fun q => kt (Nat.le_zero.mp ((nI_leI ha (by decide : 0 < 2 ^ 31)).mp q))) (fun q => kf (Nat.pos_of_ne_zero (fun z => q ((nI_leI ha (by decide : 0 < 2 ^ 31)).mpr (Nat.le_zero.mpr z)))))
theorem ex_ifB_eq {b : Bool} {off : Int} {tgt : Nat} (ht : (pc : Int) + off = (tgt : Int)) (hd : decode (eC M) pc = .ok (.ifCond .eq off, 3)) (kt : b = false → Ex G l d M Q X k n tgt lv rest h) (kf : b = true → Ex G l d M Q X k n (pc + 3) lv rest h) : Ex G l d M Q X k n pc lv (.int (b2i b) :: rest) h := ex_if_eq ht hd (fun q => kt (b2i_eq0.mp q)) (fun q => kf (by cases b with | true => rfl | false => exact absurd (b2i_eq0.mpr rfl) q))
theorem ex_ifB_ne {b : Bool} {off : Int} {tgt : Nat} (ht : (pc : Int) + off = (tgt : Int)) (hd : decode (eC M) pc = .ok (.ifCond .ne off, 3)) (kt : b = true → Ex G l d M Q X k n tgt lv rest h) (kf : b = false → Ex G l d M Q X k n (pc + 3) lv rest h) : Ex G l d M Q X k n pc lv (.int (b2i b) :: rest) h := ex_if_ne ht hd (fun q => kt (by cases b with | true => rfl | false => exact absurd (b2i_eq0.mpr rfl) q)) (fun q => kf (b2i_eq0.mp q))
theorem ex_icmpO_eq {o : Option Nat} {off : Int} {tgt : Nat} (ht : (pc : Int) + off = (tgt : Int)) (hd : decode (eC M) pc = .ok (.if_icmp .eq off, 3)) (ho : ∀ j, o = some j → j < 2 ^ 31) (kt : o = none → Ex G l d M Q X k n tgt lv rest h) (kf : ∀ j, o = some j → Ex G l d M Q X k n (pc + 3) lv rest h) : Ex G l d M Q X k n pc lv (.int (-1) :: .int (oI o) :: rest) h := ex_icmp_eq ht hd (fun q => kt ((oI_m1 ho).mp q)) (fun q => by
  cases o with
  | none => exact absurd rfl q
  | some j => exact kf j rfl)
theorem ex_icmpO_ne {o : Option Nat} {off : Int} {tgt : Nat} (ht : (pc : Int) + off = (tgt : Int)) (hd : decode (eC M) pc = .ok (.if_icmp .ne off, 3)) (ho : ∀ j, o = some j → j < 2 ^ 31) (kt : ∀ j, o = some j → Ex G l d M Q X k n tgt lv rest h) (kf : o = none → Ex G l d M Q X k n (pc + 3) lv rest h) : Ex G l d M Q X k n pc lv (.int (-1) :: .int (oI o) :: rest) h := ex_icmp_ne ht hd (fun q => by
  cases o with
  | none => exact absurd rfl q
  | some j => exact kt j rfl) (fun q => kf ((oI_m1 ho).mp q))
theorem ex_ialdN {a N j : Nat} {f : Nat → Int32} (hd : decode (eC M) pc = .ok (.iaload, 1)) (hh : h.2 a = some (.inl (eA G 0, N, .inl f))) (hj : j < N) (hN : N < 2 ^ 31) (kk : Ex G l d M Q X k n (pc + 1) lv (.int (f j) :: rest) h) : Ex G l d M Q X k n pc lv (.int (nI j) :: .ref a :: rest) h := ex_iald hd hh (vp_in_nI hj hN) (by rw [nI_clamp (Nat.lt_trans hj hN)]; exact kk)
theorem ex_caldN {a N j : Nat} {f : Nat → Int32} (hd : decode (eC M) pc = .ok (.caload, 1)) (hh : h.2 a = some (.inl (eA G 2, N, .inl f))) (hj : j < N) (hN : N < 2 ^ 31) (kk : Ex G l d M Q X k n (pc + 1) lv (.int (f j) :: rest) h) : Ex G l d M Q X k n pc lv (.int (nI j) :: .ref a :: rest) h := ex_cald hd hh (vp_in_nI hj hN) (by rw [nI_clamp (Nat.lt_trans hj hN)]; exact kk)
theorem ex_zaldN {a N j : Nat} {f : Nat → Int32} (hd : decode (eC M) pc = .ok (.baload, 1)) (hh : h.2 a = some (.inl (eA G 3, N, .inl f))) (hj : j < N) (hN : N < 2 ^ 31) (kk : Ex G l d M Q X k n (pc + 1) lv (.int (f j) :: rest) h) : Ex G l d M Q X k n pc lv (.int (nI j) :: .ref a :: rest) h := ex_zald hd hh (vp_in_nI hj hN) (by rw [nI_clamp (Nat.lt_trans hj hN)]; exact kk)
theorem ex_aldqN {a N j r : Nat} {f : Nat → Option Nat} (hd : decode (eC M) pc = .ok (.aaload, 1)) (hh : h.2 a = some (.inl (eA G 4, N, .inr (.inr (.inr (.inr f)))))) (hj : j < N) (hN : N < 2 ^ 31) (hr : f j = some r) (kk : Ex G l d M Q X k n (pc + 1) lv (.ref r :: rest) h) : Ex G l d M Q X k n pc lv (.int (nI j) :: .ref a :: rest) h := ex_aldq hd hh (vp_in_nI hj hN) (by rw [nI_clamp (Nat.lt_trans hj hN), hr]; exact kk)
theorem ex_astqN {a N j v : Nat} {f : Nat → Option Nat} {vs : List Value} (hd : decode (eC M) pc = .ok (.aastore, 1)) (hh : h.2 a = some (.inl (eA G 4, N, .inr (.inr (.inr (.inr f)))))) (hj : j < N) (hN : N < 2 ^ 31) (hv : h.2 v = some (.inr (5, vs))) (kk : Ex G l d M Q X k n (pc + 1) lv rest (hup h a (.inl (eA G 4, N, .inr (.inr (.inr (.inr (va_up f j (some v))))))))) : Ex G l d M Q X k n pc lv (.ref v :: .int (nI j) :: .ref a :: rest) h := ex_astq hd hh (vp_in_nI hj hN) hv (by rw [nI_clamp (Nat.lt_trans hj hN)]; exact kk)
theorem ex_iastN {a N j : Nat} {f : Nat → Int32} {x : Int32} (hd : decode (eC M) pc = .ok (.iastore, 1)) (hh : h.2 a = some (.inl (eA G 0, N, .inl f))) (hj : j < N) (hN : N < 2 ^ 31) (kk : Ex G l d M Q X k n (pc + 1) lv rest (hup h a (.inl (eA G 0, N, .inl (upd f j x))))) : Ex G l d M Q X k n pc lv (.int x :: .int (nI j) :: .ref a :: rest) h := ex_iast hd hh (vp_in_nI hj hN) (by rw [nI_clamp (Nat.lt_trans hj hN)]; exact kk)
theorem ex_castN {a N j c : Nat} {f : Nat → Int32} (hd : decode (eC M) pc = .ok (.castore, 1)) (hh : h.2 a = some (.inl (eA G 2, N, .inl f))) (hj : j < N) (hN : N < 2 ^ 31) (hc : c < 65536) (kk : Ex G l d M Q X k n (pc + 1) lv rest (hup h a (.inl (eA G 2, N, .inl (upd f j (nI c)))))) : Ex G l d M Q X k n pc lv (.int (nI c) :: .int (nI j) :: .ref a :: rest) h := ex_cast hd hh (vp_in_nI hj hN) (by rw [nI_clamp (Nat.lt_trans hj hN), show vp_nar .char (nI c) = nI c from Value.int.inj (pk_charN hc).1]; exact kk)
theorem ex_zastN {a N j : Nat} {f : Nat → Int32} {b : Bool} (hd : decode (eC M) pc = .ok (.bastore, 1)) (hh : h.2 a = some (.inl (eA G 3, N, .inl f))) (hj : j < N) (hN : N < 2 ^ 31) (kk : Ex G l d M Q X k n (pc + 1) lv rest (hup h a (.inl (eA G 3, N, .inl (upd f j (b2i b)))))) : Ex G l d M Q X k n pc lv (.int (b2i b) :: .int (nI j) :: .ref a :: rest) h := ex_zast hd hh (vp_in_nI hj hN) (by rw [nI_clamp (Nat.lt_trans hj hN), show vp_nar .boolean (b2i b) = b2i b from Value.int.inj (b2i_nb b)]; exact kk)
end EXN
