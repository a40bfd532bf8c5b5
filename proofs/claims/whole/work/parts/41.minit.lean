/-! ===== THE REFERENCE: its constructor ===== -/
theorem tb_obj_i : Cond.instanceMethod Lib.objectInit ∈ TBL := tbl_in 91 (by decide +kernel) rfl
theorem tb_obj_c : Cond.code Lib.objectInit ⟨#[0xb1]⟩ 1 none ∈ TBL := tbl_in 92 (by decide +kernel) rfl
theorem ob_X6_1 : Cond.methodLink RX6 1 Lib.objectInit ∈ TBL := tbl_in 90 (by decide +kernel) rfl
theorem ob_Jxa1e45_1 : Cond.methodLink RJxa1e45 1 Lib.objectInit ∈ TBL := tbl_in 104 (by decide +kernel) rfl
theorem ob_X2_3 : Cond.methodLink RX2 3 Lib.objectInit ∈ TBL := tbl_in 125 (by decide +kernel) rfl
theorem ob_X3_3 : Cond.methodLink RX3 3 Lib.objectInit ∈ TBL := tbl_in 131 (by decide +kernel) rfl
theorem ob_X4_3 : Cond.methodLink RX4 3 Lib.objectInit ∈ TBL := tbl_in 169 (by decide +kernel) rfl
theorem ob_X1_3 : Cond.methodLink RX1 3 Lib.objectInit ∈ TBL := tbl_in 271 (by decide +kernel) rfl
theorem ob_X0_3 : Cond.methodLink RX0 3 Lib.objectInit ∈ TBL := tbl_in 444 (by decide +kernel) rfl
theorem ob_X5_1 : Cond.methodLink RX5 1 Lib.objectInit ∈ TBL := tbl_in 660 (by decide +kernel) rfl
theorem ob_X7_1 : Cond.methodLink RX7 1 Lib.objectInit ∈ TBL := tbl_in 850 (by decide +kernel) rfl
section Rows
variable {p : Program} {l : Launch} {e : Env} {R : Room} {s : State} {m : MethodId} {args : Array Value} {below : List Frame} {meth : Method} {c : Code} {Q : State → Prop} {g : WGp} {nL : Nat} {own : String} {cc : ByteArray} {ret : Option FieldType}
variable {sh : WSh} {N : WNm} {cells slots pc : Nat} {lv : List (Option Value)} {st : List Value}
theorem j_objInit (C : Cx p s m args meth c g nL own cc ret) {idx b : Nat} (hl : Cond.methodLink own idx Lib.objectInit ∈ TBL) (hd : decode cc pc = .ok (.invokespecial idx, 3)) (hfr : 1 ≤ R.frames) (hlo : (st.map fun v => v.category).sum + 12 ≤ R.locals) (kk : J p l e R s m args below meth c Q g nL sh N cells slots (pc + 3) lv st) : J p l e R s m args below meth c Q g nL sh N cells slots pc lv (.ref b :: st) := fun H locs ls a b0 d => W.objInit C.1 C.2.1 C.2.2.2.1 (C.2.2.2.2.1 _ hl) (C.2.2.2.2.1 _ tb_obj_i) (C.2.2.2.2.1 _ tb_obj_c) rfl (d.1.trans C.2.2.1.symm) rfl hd hfr (by show 2 * 0 + _ + 12 ≤ _; omega) (kk H locs ls a b0 d)
end Rows
/-- what the arrays hold at first -/
def mInit (i : Nat) : Nat → Int32 := if i = 16 ∨ i = 17 then (fun j => if j < 8 then -1 else 0) else fun _ => 0
/-- the object under way: the fields up to K are made; what is of others is as it was -/
def PSr (sh0 : WSh) (N0 : WNm) (h0 K : Nat) (sh : WSh) (N : WNm) : Prop := sh.2.2 0 = h0 ∧ (sh.1 0).1 = 7 ∧ (∀ q ∈ mTab, q.1 < K → sh.1 (q.1 + 1) = (q.2.1, q.2.2) ∧ sh.2.1 0 q.1 = some (q.1 + 1) ∧ N (q.1 + 1) = mInit (q.1 + 1)) ∧ (∀ a k j, a ≤ 55 → sh.2.1 a k = some j → 1 ≤ j ∧ j ≤ K ∧ (sh.1 j).1 ≤ 12) ∧ (∀ a, 56 ≤ a → sh.1 a = sh0.1 a ∧ sh.2.1 a = sh0.2.1 a ∧ sh.2.2 a = sh0.2.2 a ∧ N a = N0 a) ∧ (∀ a k j, 56 ≤ a → sh0.2.1 a k = some j → 56 ≤ j) ∧ ∀ j, N 0 j = 0
def PSt (sh0 : WSh) (N0 : WNm) (h0 K : Nat) (sh : WSh) (N : WNm) : Prop := PSr sh0 N0 h0 K sh N ∧ ∀ i, K < i → i ≤ 55 → 12 < (sh.1 i).1
def PSu (sh0 : WSh) (N0 : WNm) (h0 k tag n : Nat) (sh : WSh) (N : WNm) : Prop := PSr sh0 N0 h0 k sh N ∧ sh.1 (k + 1) = (tag, n) ∧ ∀ i, k + 1 < i → i ≤ 55 → 12 < (sh.1 i).1
theorem PSt.up {sh0 sh : WSh} {N0 N : WNm} {h0 K k : Nat} (h : PSt sh0 N0 h0 K sh N) (hk : K ≤ k) (hno : ∀ q ∈ mTab, ¬ (K ≤ q.1 ∧ q.1 < k)) : PSt sh0 N0 h0 k sh N := by
  obtain ⟨⟨a1, a2, a3, a4, a5, a6, a7⟩, b⟩ := h
  exact ⟨⟨a1, a2, fun q hq hl => a3 q hq (by have := hno q hq; omega), fun a k j ha hj => by have := a4 a k j ha hj; omega, a5, a6, a7⟩, fun i h1 h2 => b i (by omega) h2⟩
theorem PSt.new {sh0 sh : WSh} {N0 N : WNm} {h0 k tag n q : Nat} (h : PSt sh0 N0 h0 k sh N) (hk : k < 55) : noRef sh (k + 1) ∧ 12 < (sh.1 (k + 1)).1 ∧ PSu sh0 N0 h0 k tag n (shNew sh (k + 1) (tag, n) q) (nNew N (k + 1)) ∧ nNew N (k + 1) (k + 1) = fun _ => 0 := by
  obtain ⟨⟨a1, a2, a3, a4, a5, a6, a7⟩, b⟩ := h
  refine ⟨fun a kk j ha hj => ?_, b _ (by omega) (by omega), ⟨⟨?_, ?_, fun r hq hl => ?_, fun a kk j ha hj => ?_, fun a ha => ?_, a6, fun j => ?_⟩, up_eq _ _ _, fun i h1 h2 => ?_⟩, up_eq _ _ _⟩
  · by_cases h55 : a ≤ 55
    · have := a4 a kk j h55 hj; omega
    · rw [(a5 a (by omega)).2.1] at hj; have := a6 a kk j (by omega) hj; omega
  · show va_up sh.2.2 (k + 1) q 0 = h0; rw [up_ne (by omega)]; exact a1
  · show (va_up sh.1 (k + 1) (tag, n) 0).1 = 7; rw [up_ne (by omega)]; exact a2
  · show va_up sh.1 (k + 1) (tag, n) (r.1 + 1) = _ ∧ va_up sh.2.1 (k + 1) (fun _ => none) 0 r.1 = _ ∧ va_up N (k + 1) (fun _ => 0) (r.1 + 1) = _
    rw [up_ne (by omega), up_ne (by omega), up_ne (by omega)]
    exact a3 r hq hl
  · by_cases e : a = k + 1
    · subst e; have hj : va_up sh.2.1 (k + 1) (fun _ => none) (k + 1) kk = some j := hj; rw [up_eq] at hj; cases hj
    · have hj : va_up sh.2.1 (k + 1) (fun _ => none) a kk = some j := hj; rw [up_ne e] at hj; have z := a4 a kk j ha hj; refine ⟨z.1, z.2.1, ?_⟩; show (va_up sh.1 (k + 1) (tag, n) j).1 ≤ 12; rw [up_ne (by omega)]; exact z.2.2
  · show va_up sh.1 (k + 1) (tag, n) a = _ ∧ va_up sh.2.1 (k + 1) (fun _ => none) a = _ ∧ va_up sh.2.2 (k + 1) q a = _ ∧ va_up N (k + 1) (fun _ => 0) a = _
    rw [up_ne (by omega), up_ne (by omega), up_ne (by omega), up_ne (by omega)]
    exact a5 a ha
  · show va_up N (k + 1) (fun _ => 0) 0 j = 0; rw [up_ne (by omega)]; exact a7 j
  · show 12 < (va_up sh.1 (k + 1) (tag, n) i).1; rw [up_ne (by omega)]; exact b i (by omega) h2
theorem mTab_tag : ∀ q ∈ mTab, q.2.1 ≤ 12 := by decide
theorem PSu.put {sh0 sh : WSh} {N0 N : WNm} {h0 k tag n : Nat} (h : PSu sh0 N0 h0 k tag n sh N) (hm : (k, tag, n) ∈ mTab) (hN : N (k + 1) = mInit (k + 1)) (hu : ∀ q ∈ mTab, q.1 = k → q = (k, tag, n)) : PSt sh0 N0 h0 (k + 1) (sh.1, u2 sh.2.1 0 k (some (k + 1)), sh.2.2) N := by
  obtain ⟨⟨a1, a2, a3, a4, a5, a6, a7⟩, b, d⟩ := h
  refine ⟨⟨a1, a2, fun q hq hl => ?_, fun a kk j ha hj => ?_, fun a ha => ?_, a6, a7⟩, d⟩
  · by_cases e : q.1 = k
    · rw [hu q hq e]; exact ⟨b, u2_eq _ _ _ _, hN⟩
    · have := a3 q hq (by omega)
      exact ⟨this.1, by show u2 sh.2.1 0 k (some (k + 1)) 0 q.1 = _; rw [u2_ne (fun z => e z.2)]; exact this.2.1, this.2.2⟩
  · have hj : u2 sh.2.1 0 k (some (k + 1)) a kk = some j := hj
    by_cases e : a = 0 ∧ kk = k
    · rw [e.1, e.2, u2_eq] at hj; cases hj; refine ⟨by omega, by omega, ?_⟩; show (sh.1 (k + 1)).1 ≤ 12; rw [b]; exact mTab_tag _ hm
    · rw [u2_ne e] at hj; have z := a4 a kk j ha hj; exact ⟨z.1, by omega, z.2.2⟩
  · refine ⟨(a5 a ha).1, ?_, (a5 a ha).2.2⟩
    show u2 sh.2.1 0 k (some (k + 1)) a = _
    rw [u2_row (by omega)]
    exact (a5 a ha).2.1
theorem PSu.st {sh0 sh : WSh} {N0 N : WNm} {h0 k tag n j : Nat} {v : Int32} (h : PSu sh0 N0 h0 k tag n sh N) (hk : k < 55) : PSu sh0 N0 h0 k tag n sh (u2 N (k + 1) j v) := by
  obtain ⟨⟨a1, a2, a3, a4, a5, a6, a7⟩, b, d⟩ := h
  exact ⟨⟨a1, a2, fun q hq hl => by rw [u2_row (by omega)]; exact a3 q hq hl, a4, fun a ha => by rw [u2_row (by omega)]; exact a5 a ha, a6, fun j => by rw [u2_row (by omega)]; exact a7 j⟩, b, d⟩
theorem mTab_one : ∀ q ∈ mTab, ∀ r ∈ mTab, q.1 = r.1 → q = r := by decide
section Rows
variable {p : Program} {l : Launch} {e : Env} {R : Room} {s : State} {m : MethodId} {args : Array Value} {below : List Frame} {meth : Method} {c : Code} {Q : State → Prop} {g : WGp} {nL : Nat} {cc : ByteArray} {ret : Option FieldType}
variable {sh : WSh} {N : WNm} {cells slots pc : Nat} {lv : List (Option Value)} {st : List Value}
theorem m_new_int (C : Cx p s m args meth c g nL RX7 cc ret) {sh0 : WSh} {N0 : WNm} {h0 K k n : Nat} {x : Int32} (h : PSt sh0 N0 h0 K sh N) (hk : K ≤ k ∧ k < 55) (hno : ∀ q ∈ mTab, ¬ (K ≤ q.1 ∧ q.1 < k)) (hx : x = nI n) (hn : n < 100000000) (hcells : cells + 1 ≤ R.cells) (hslots : slots + n ≤ R.slots) (hd : decode cc pc = .ok (.newarray .int, 2)) (kk : ∀ (sh1 : WSh) (N1 : WNm), PSu sh0 N0 h0 k 9 n sh1 N1 → N1 (k + 1) = (fun _ => 0) → J p l e R s m args below meth c Q g nL sh1 N1 (cells + 1) (slots + n) (pc + 2) lv [.ref (sh1.2.2 (k + 1)), .ref (sh1.2.2 0)]) : J p l e R s m args below meth c Q g nL sh N cells slots pc lv [.int x, .ref h0] := by
  have hu := h.up hk.1 hno
  refine j_newa_int (i := k + 1) C hx hn (hu.new (tag := 9) (n := n) (q := 0) hk.2).2.1 (hu.new (tag := 9) (n := n) (q := 0) hk.2).1 hcells hslots hd (fun q => ?_)
  obtain ⟨-, -, h1, h2⟩ := hu.new (tag := 9) (n := n) (q := q) hk.2
  have z := kk _ _ h1 h2
  rw [show (shNew sh (k + 1) (9, n) q).2.2 (k + 1) = q from up_eq _ _ _, h1.1.1] at z
  exact z
theorem m_new_byte (C : Cx p s m args meth c g nL RX7 cc ret) {sh0 : WSh} {N0 : WNm} {h0 K k n : Nat} {x : Int32} (h : PSt sh0 N0 h0 K sh N) (hk : K ≤ k ∧ k < 55) (hno : ∀ q ∈ mTab, ¬ (K ≤ q.1 ∧ q.1 < k)) (hx : x = nI n) (hn : n < 100000000) (hcells : cells + 1 ≤ R.cells) (hslots : slots + n ≤ R.slots) (hd : decode cc pc = .ok (.newarray .byte, 2)) (kk : ∀ (sh1 : WSh) (N1 : WNm), PSu sh0 N0 h0 k 10 n sh1 N1 → N1 (k + 1) = (fun _ => 0) → J p l e R s m args below meth c Q g nL sh1 N1 (cells + 1) (slots + n) (pc + 2) lv [.ref (sh1.2.2 (k + 1)), .ref (sh1.2.2 0)]) : J p l e R s m args below meth c Q g nL sh N cells slots pc lv [.int x, .ref h0] := by
  have hu := h.up hk.1 hno
  refine j_newa_byte (i := k + 1) C hx hn (hu.new (tag := 10) (n := n) (q := 0) hk.2).2.1 (hu.new (tag := 10) (n := n) (q := 0) hk.2).1 hcells hslots hd (fun q => ?_)
  obtain ⟨-, -, h1, h2⟩ := hu.new (tag := 10) (n := n) (q := q) hk.2
  have z := kk _ _ h1 h2
  rw [show (shNew sh (k + 1) (10, n) q).2.2 (k + 1) = q from up_eq _ _ _, h1.1.1] at z
  exact z
theorem m_new_bool (C : Cx p s m args meth c g nL RX7 cc ret) {sh0 : WSh} {N0 : WNm} {h0 K k n : Nat} {x : Int32} (h : PSt sh0 N0 h0 K sh N) (hk : K ≤ k ∧ k < 55) (hno : ∀ q ∈ mTab, ¬ (K ≤ q.1 ∧ q.1 < k)) (hx : x = nI n) (hn : n < 100000000) (hcells : cells + 1 ≤ R.cells) (hslots : slots + n ≤ R.slots) (hd : decode cc pc = .ok (.newarray .boolean, 2)) (kk : ∀ (sh1 : WSh) (N1 : WNm), PSu sh0 N0 h0 k 11 n sh1 N1 → N1 (k + 1) = (fun _ => 0) → J p l e R s m args below meth c Q g nL sh1 N1 (cells + 1) (slots + n) (pc + 2) lv [.ref (sh1.2.2 (k + 1)), .ref (sh1.2.2 0)]) : J p l e R s m args below meth c Q g nL sh N cells slots pc lv [.int x, .ref h0] := by
  have hu := h.up hk.1 hno
  refine j_newa_bool (i := k + 1) C hx hn (hu.new (tag := 11) (n := n) (q := 0) hk.2).2.1 (hu.new (tag := 11) (n := n) (q := 0) hk.2).1 hcells hslots hd (fun q => ?_)
  obtain ⟨-, -, h1, h2⟩ := hu.new (tag := 11) (n := n) (q := q) hk.2
  have z := kk _ _ h1 h2
  rw [show (shNew sh (k + 1) (11, n) q).2.2 (k + 1) = q from up_eq _ _ _, h1.1.1] at z
  exact z
theorem m_put (C : Cx p s m args meth c g nL RX7 cc ret) (hname : meth.name = "<init>") {sh0 : WSh} {N0 : WNm} {h0 k tag n idx : Nat} (h : PSu sh0 N0 h0 k tag n sh N) (hm : (k, tag, n) ∈ mTab) (hN : N (k + 1) = mInit (k + 1)) (hf : FL RX7 idx 7 k) (hi : isI 7 k = false) (hfin : (TT 7 k).1 = RX7 ∧ (TT 7 k).2.2.2 = true) (hn : ∀ a, narrow (tyT 7 k) (.ref a) = .ref a) (hfit : ∀ a, fits (tyT 7 k) (.ref a) = true) (hd : decode cc pc = .ok (.putfield idx, 3)) (kk : ∀ sh1 : WSh, PSt sh0 N0 h0 (k + 1) sh1 N → J p l e R s m args below meth c Q g nL sh1 N cells slots (pc + 3) lv []) : J p l e R s m args below meth c Q g nL sh N cells slots pc lv [.ref (sh.2.2 (k + 1)), .ref (sh.2.2 0)] :=
  j_putRf (j := k + 1) (i := 0) C hname hf hd h.1.2.1 hi hfin (hn _) (hfit _) (kk _ (h.put hm hN (fun q hq e => mTab_one q hq _ hm e)))
end Rows
theorem init8 {N : WNm} {i : Nat} (hz : N i = fun _ => 0) (hi : i = 16 ∨ i = 17) : u2 (u2 (u2 (u2 (u2 (u2 (u2 (u2 N i 0 (-1)) i 1 (-1)) i 2 (-1)) i 3 (-1)) i 4 (-1)) i 5 (-1)) i 6 (-1)) i 7 (-1) i = mInit i := by
  funext j
  rw [mInit, if_pos hi]
  by_cases h : j < 8
  · rw [if_pos h]
    rcases (show j = 0 ∨ j = 1 ∨ j = 2 ∨ j = 3 ∨ j = 4 ∨ j = 5 ∨ j = 6 ∨ j = 7 by omega) with h | h | h | h | h | h | h | h <;> subst h <;> simp [u2]
  · rw [if_neg h, u2_ne (by omega), u2_ne (by omega), u2_ne (by omega), u2_ne (by omega), u2_ne (by omega), u2_ne (by omega), u2_ne (by omega), u2_ne (by omega), hz]
/-- the constructor: all its arrays are made -/
theorem cM_init {l : Launch} {g : WGp} (hg : GOK g) {sh : WSh} {N : WNm} {sh0 : WSh} {N0 : WNm} {h0 : Nat} (h : PSt sh0 N0 h0 0 sh N) : CT l g yX7_init cX7_init 1 none (RM 2 39 17631) [.ref h0] sh N (QV g (fun sh1 N1 => PSt sh0 N0 h0 55 sh1 N1)) := by
  refine ent hg (by decide +kernel) (Nat.le_of_ble_eq_true rfl) ?_
  intro p e s m args below meth c C hname
  refine j_aload_n C dX7_init_0 rfl ?_
  refine j_objInit C ob_X7_1 dX7_init_1 (by decide) (by decide) ?_
  refine j_aload_n C dX7_init_4 rfl ?_
  refine j_bipush C dX7_init_5 (v := 10) (by decide) ?_
  refine m_new_int (k := 2) (n := 10) C h ⟨by decide, by decide⟩ (by decide) rfl (by decide) (by decide) (by decide) dX7_init_7 (fun sh N h hz => ?_)
  refine m_put (k := 2) (tag := 9) (n := 10) C hname h (by decide) (by rw [hz]; rfl) fl_X7_7 rfl ⟨rfl, rfl⟩ (fun _ => rfl) (fun _ => rfl) dX7_init_9 (fun sh h => ?_)
  clear hz
  refine j_aload_n C dX7_init_12 rfl ?_
  refine j_bipush C dX7_init_13 (v := 12) (by decide) ?_
  refine m_new_int (k := 6) (n := 12) C h ⟨by decide, by decide⟩ (by decide) rfl (by decide) (by decide) (by decide) dX7_init_15 (fun sh N h hz => ?_)
  refine m_put (k := 6) (tag := 9) (n := 12) C hname h (by decide) (by rw [hz]; rfl) fl_X7_13 rfl ⟨rfl, rfl⟩ (fun _ => rfl) (fun _ => rfl) dX7_init_17 (fun sh h => ?_)
  clear hz
  refine j_aload_n C dX7_init_20 rfl ?_
  refine j_bipush C dX7_init_21 (v := 12) (by decide) ?_
  refine m_new_int (k := 7) (n := 12) C h ⟨by decide, by decide⟩ (by decide) rfl (by decide) (by decide) (by decide) dX7_init_23 (fun sh N h hz => ?_)
  refine m_put (k := 7) (tag := 9) (n := 12) C hname h (by decide) (by rw [hz]; rfl) fl_X7_16 rfl ⟨rfl, rfl⟩ (fun _ => rfl) (fun _ => rfl) dX7_init_25 (fun sh h => ?_)
  clear hz
  refine j_aload_n C dX7_init_28 rfl ?_
  refine j_bipush C dX7_init_29 (v := 30) (by decide) ?_
  refine m_new_int (k := 8) (n := 30) C h ⟨by decide, by decide⟩ (by decide) rfl (by decide) (by decide) (by decide) dX7_init_31 (fun sh N h hz => ?_)
  refine m_put (k := 8) (tag := 9) (n := 30) C hname h (by decide) (by rw [hz]; rfl) fl_X7_19 rfl ⟨rfl, rfl⟩ (fun _ => rfl) (fun _ => rfl) dX7_init_33 (fun sh h => ?_)
  clear hz
  refine j_aload_n C dX7_init_36 rfl ?_
  refine j_bipush C dX7_init_37 (v := 8) (by decide) ?_
  refine m_new_int (k := 10) (n := 8) C h ⟨by decide, by decide⟩ (by decide) rfl (by decide) (by decide) (by decide) dX7_init_39 (fun sh N h hz => ?_)
  refine m_put (k := 10) (tag := 9) (n := 8) C hname h (by decide) (by rw [hz]; rfl) fl_X7_22 rfl ⟨rfl, rfl⟩ (fun _ => rfl) (fun _ => rfl) dX7_init_41 (fun sh h => ?_)
  clear hz
  refine j_aload_n C dX7_init_44 rfl ?_
  refine j_bipush C dX7_init_45 (v := 8) (by decide) ?_
  refine m_new_int (k := 11) (n := 8) C h ⟨by decide, by decide⟩ (by decide) rfl (by decide) (by decide) (by decide) dX7_init_47 (fun sh N h hz => ?_)
  refine m_put (k := 11) (tag := 9) (n := 8) C hname h (by decide) (by rw [hz]; rfl) fl_X7_25 rfl ⟨rfl, rfl⟩ (fun _ => rfl) (fun _ => rfl) dX7_init_49 (fun sh h => ?_)
  clear hz
  refine j_aload_n C dX7_init_52 rfl ?_
  refine j_bipush C dX7_init_53 (v := 8) (by decide) ?_
  refine m_new_int (k := 12) (n := 8) C h ⟨by decide, by decide⟩ (by decide) rfl (by decide) (by decide) (by decide) dX7_init_55 (fun sh N h hz => ?_)
  refine m_put (k := 12) (tag := 9) (n := 8) C hname h (by decide) (by rw [hz]; rfl) fl_X7_28 rfl ⟨rfl, rfl⟩ (fun _ => rfl) (fun _ => rfl) dX7_init_57 (fun sh h => ?_)
  clear hz
  refine j_aload_n C dX7_init_60 rfl ?_
  refine j_bipush C dX7_init_61 (v := 8) (by decide) ?_
  refine m_new_int (k := 13) (n := 8) C h ⟨by decide, by decide⟩ (by decide) rfl (by decide) (by decide) (by decide) dX7_init_63 (fun sh N h hz => ?_)
  refine m_put (k := 13) (tag := 9) (n := 8) C hname h (by decide) (by rw [hz]; rfl) fl_X7_31 rfl ⟨rfl, rfl⟩ (fun _ => rfl) (fun _ => rfl) dX7_init_65 (fun sh h => ?_)
  clear hz
  refine j_aload_n C dX7_init_68 rfl ?_
  refine j_bipush C dX7_init_69 (v := 8) (by decide) ?_
  refine m_new_int (k := 14) (n := 8) C h ⟨by decide, by decide⟩ (by decide) rfl (by decide) (by decide) (by decide) dX7_init_71 (fun sh N h hz => ?_)
  refine m_put (k := 14) (tag := 9) (n := 8) C hname h (by decide) (by rw [hz]; rfl) fl_X7_34 rfl ⟨rfl, rfl⟩ (fun _ => rfl) (fun _ => rfl) dX7_init_73 (fun sh h => ?_)
  clear hz
  refine j_aload_n C dX7_init_76 rfl ?_
  refine j_bipush C dX7_init_77 (v := 8) (by decide) ?_
  refine m_new_int (k := 15) (n := 8) C h ⟨by decide, by decide⟩ (by decide) rfl (by decide) (by decide) (by decide) dX7_init_79 (fun sh N h hz => ?_)
  refine j_dup C dX7_init_81 rfl ?_
  refine j_iconst C dX7_init_82 (v := 0) (by decide) ?_
  refine j_iconst C dX7_init_83 (v := -1) (by decide) ?_
  refine j_iast (i := 16) (n := 8) C h.2.1 (by unfold vp_in; decide) dX7_init_84 ?_
  replace h := h.st (j := 0) (v := -1) (by decide)
  rw [show ((0 : Int32)).toNatClampNeg = 0 from by decide]
  refine j_dup C dX7_init_85 rfl ?_
  refine j_iconst C dX7_init_86 (v := 1) (by decide) ?_
  refine j_iconst C dX7_init_87 (v := -1) (by decide) ?_
  refine j_iast (i := 16) (n := 8) C h.2.1 (by unfold vp_in; decide) dX7_init_88 ?_
  replace h := h.st (j := 1) (v := -1) (by decide)
  rw [show ((1 : Int32)).toNatClampNeg = 1 from by decide]
  refine j_dup C dX7_init_89 rfl ?_
  refine j_iconst C dX7_init_90 (v := 2) (by decide) ?_
  refine j_iconst C dX7_init_91 (v := -1) (by decide) ?_
  refine j_iast (i := 16) (n := 8) C h.2.1 (by unfold vp_in; decide) dX7_init_92 ?_
  replace h := h.st (j := 2) (v := -1) (by decide)
  rw [show ((2 : Int32)).toNatClampNeg = 2 from by decide]
  refine j_dup C dX7_init_93 rfl ?_
  refine j_iconst C dX7_init_94 (v := 3) (by decide) ?_
  refine j_iconst C dX7_init_95 (v := -1) (by decide) ?_
  refine j_iast (i := 16) (n := 8) C h.2.1 (by unfold vp_in; decide) dX7_init_96 ?_
  replace h := h.st (j := 3) (v := -1) (by decide)
  rw [show ((3 : Int32)).toNatClampNeg = 3 from by decide]
  refine j_dup C dX7_init_97 rfl ?_
  refine j_iconst C dX7_init_98 (v := 4) (by decide) ?_
  refine j_iconst C dX7_init_99 (v := -1) (by decide) ?_
  refine j_iast (i := 16) (n := 8) C h.2.1 (by unfold vp_in; decide) dX7_init_100 ?_
  replace h := h.st (j := 4) (v := -1) (by decide)
  rw [show ((4 : Int32)).toNatClampNeg = 4 from by decide]
  refine j_dup C dX7_init_101 rfl ?_
  refine j_iconst C dX7_init_102 (v := 5) (by decide) ?_
  refine j_iconst C dX7_init_103 (v := -1) (by decide) ?_
  refine j_iast (i := 16) (n := 8) C h.2.1 (by unfold vp_in; decide) dX7_init_104 ?_
  replace h := h.st (j := 5) (v := -1) (by decide)
  rw [show ((5 : Int32)).toNatClampNeg = 5 from by decide]
  refine j_dup C dX7_init_105 rfl ?_
  refine j_bipush C dX7_init_106 (v := 6) (by decide) ?_
  refine j_iconst C dX7_init_108 (v := -1) (by decide) ?_
  refine j_iast (i := 16) (n := 8) C h.2.1 (by unfold vp_in; decide) dX7_init_109 ?_
  replace h := h.st (j := 6) (v := -1) (by decide)
  rw [show ((6 : Int32)).toNatClampNeg = 6 from by decide]
  refine j_dup C dX7_init_110 rfl ?_
  refine j_bipush C dX7_init_111 (v := 7) (by decide) ?_
  refine j_iconst C dX7_init_113 (v := -1) (by decide) ?_
  refine j_iast (i := 16) (n := 8) C h.2.1 (by unfold vp_in; decide) dX7_init_114 ?_
  replace h := h.st (j := 7) (v := -1) (by decide)
  rw [show ((7 : Int32)).toNatClampNeg = 7 from by decide]
  refine m_put (k := 15) (tag := 9) (n := 8) C hname h (by decide) (init8 hz (Or.inl rfl)) fl_X7_37 rfl ⟨rfl, rfl⟩ (fun _ => rfl) (fun _ => rfl) dX7_init_115 (fun sh h => ?_)
  clear hz
  refine j_aload_n C dX7_init_118 rfl ?_
  refine j_bipush C dX7_init_119 (v := 8) (by decide) ?_
  refine m_new_int (k := 16) (n := 8) C h ⟨by decide, by decide⟩ (by decide) rfl (by decide) (by decide) (by decide) dX7_init_121 (fun sh N h hz => ?_)
  refine j_dup C dX7_init_123 rfl ?_
  refine j_iconst C dX7_init_124 (v := 0) (by decide) ?_
  refine j_iconst C dX7_init_125 (v := -1) (by decide) ?_
  refine j_iast (i := 17) (n := 8) C h.2.1 (by unfold vp_in; decide) dX7_init_126 ?_
  replace h := h.st (j := 0) (v := -1) (by decide)
  rw [show ((0 : Int32)).toNatClampNeg = 0 from by decide]
  refine j_dup C dX7_init_127 rfl ?_
  refine j_iconst C dX7_init_128 (v := 1) (by decide) ?_
  refine j_iconst C dX7_init_129 (v := -1) (by decide) ?_
  refine j_iast (i := 17) (n := 8) C h.2.1 (by unfold vp_in; decide) dX7_init_130 ?_
  replace h := h.st (j := 1) (v := -1) (by decide)
  rw [show ((1 : Int32)).toNatClampNeg = 1 from by decide]
  refine j_dup C dX7_init_131 rfl ?_
  refine j_iconst C dX7_init_132 (v := 2) (by decide) ?_
  refine j_iconst C dX7_init_133 (v := -1) (by decide) ?_
  refine j_iast (i := 17) (n := 8) C h.2.1 (by unfold vp_in; decide) dX7_init_134 ?_
  replace h := h.st (j := 2) (v := -1) (by decide)
  rw [show ((2 : Int32)).toNatClampNeg = 2 from by decide]
  refine j_dup C dX7_init_135 rfl ?_
  refine j_iconst C dX7_init_136 (v := 3) (by decide) ?_
  refine j_iconst C dX7_init_137 (v := -1) (by decide) ?_
  refine j_iast (i := 17) (n := 8) C h.2.1 (by unfold vp_in; decide) dX7_init_138 ?_
  replace h := h.st (j := 3) (v := -1) (by decide)
  rw [show ((3 : Int32)).toNatClampNeg = 3 from by decide]
  refine j_dup C dX7_init_139 rfl ?_
  refine j_iconst C dX7_init_140 (v := 4) (by decide) ?_
  refine j_iconst C dX7_init_141 (v := -1) (by decide) ?_
  refine j_iast (i := 17) (n := 8) C h.2.1 (by unfold vp_in; decide) dX7_init_142 ?_
  replace h := h.st (j := 4) (v := -1) (by decide)
  rw [show ((4 : Int32)).toNatClampNeg = 4 from by decide]
  refine j_dup C dX7_init_143 rfl ?_
  refine j_iconst C dX7_init_144 (v := 5) (by decide) ?_
  refine j_iconst C dX7_init_145 (v := -1) (by decide) ?_
  refine j_iast (i := 17) (n := 8) C h.2.1 (by unfold vp_in; decide) dX7_init_146 ?_
  replace h := h.st (j := 5) (v := -1) (by decide)
  rw [show ((5 : Int32)).toNatClampNeg = 5 from by decide]
  refine j_dup C dX7_init_147 rfl ?_
  refine j_bipush C dX7_init_148 (v := 6) (by decide) ?_
  refine j_iconst C dX7_init_150 (v := -1) (by decide) ?_
  refine j_iast (i := 17) (n := 8) C h.2.1 (by unfold vp_in; decide) dX7_init_151 ?_
  replace h := h.st (j := 6) (v := -1) (by decide)
  rw [show ((6 : Int32)).toNatClampNeg = 6 from by decide]
  refine j_dup C dX7_init_152 rfl ?_
  refine j_bipush C dX7_init_153 (v := 7) (by decide) ?_
  refine j_iconst C dX7_init_155 (v := -1) (by decide) ?_
  refine j_iast (i := 17) (n := 8) C h.2.1 (by unfold vp_in; decide) dX7_init_156 ?_
  replace h := h.st (j := 7) (v := -1) (by decide)
  rw [show ((7 : Int32)).toNatClampNeg = 7 from by decide]
  refine m_put (k := 16) (tag := 9) (n := 8) C hname h (by decide) (init8 hz (Or.inr rfl)) fl_X7_40 rfl ⟨rfl, rfl⟩ (fun _ => rfl) (fun _ => rfl) dX7_init_157 (fun sh h => ?_)
  clear hz
  refine j_aload_n C dX7_init_160 rfl ?_
  refine j_bipush C dX7_init_161 (v := 8) (by decide) ?_
  refine m_new_int (k := 17) (n := 8) C h ⟨by decide, by decide⟩ (by decide) rfl (by decide) (by decide) (by decide) dX7_init_163 (fun sh N h hz => ?_)
  refine m_put (k := 17) (tag := 9) (n := 8) C hname h (by decide) (by rw [hz]; rfl) fl_X7_43 rfl ⟨rfl, rfl⟩ (fun _ => rfl) (fun _ => rfl) dX7_init_165 (fun sh h => ?_)
  clear hz
  refine j_aload_n C dX7_init_168 rfl ?_
  refine j_bipush C dX7_init_169 (v := 8) (by decide) ?_
  refine m_new_int (k := 18) (n := 8) C h ⟨by decide, by decide⟩ (by decide) rfl (by decide) (by decide) (by decide) dX7_init_171 (fun sh N h hz => ?_)
  refine m_put (k := 18) (tag := 9) (n := 8) C hname h (by decide) (by rw [hz]; rfl) fl_X7_46 rfl ⟨rfl, rfl⟩ (fun _ => rfl) (fun _ => rfl) dX7_init_173 (fun sh h => ?_)
  clear hz
  refine j_aload_n C dX7_init_176 rfl ?_
  refine j_bipush C dX7_init_177 (v := 8) (by decide) ?_
  refine m_new_int (k := 19) (n := 8) C h ⟨by decide, by decide⟩ (by decide) rfl (by decide) (by decide) (by decide) dX7_init_179 (fun sh N h hz => ?_)
  refine m_put (k := 19) (tag := 9) (n := 8) C hname h (by decide) (by rw [hz]; rfl) fl_X7_49 rfl ⟨rfl, rfl⟩ (fun _ => rfl) (fun _ => rfl) dX7_init_181 (fun sh h => ?_)
  clear hz
  refine j_aload_n C dX7_init_184 rfl ?_
  refine j_bipush C dX7_init_185 (v := 8) (by decide) ?_
  refine m_new_int (k := 20) (n := 8) C h ⟨by decide, by decide⟩ (by decide) rfl (by decide) (by decide) (by decide) dX7_init_187 (fun sh N h hz => ?_)
  refine m_put (k := 20) (tag := 9) (n := 8) C hname h (by decide) (by rw [hz]; rfl) fl_X7_52 rfl ⟨rfl, rfl⟩ (fun _ => rfl) (fun _ => rfl) dX7_init_189 (fun sh h => ?_)
  clear hz
  refine j_aload_n C dX7_init_192 rfl ?_
  refine j_bipush C dX7_init_193 (v := 8) (by decide) ?_
  refine m_new_bool (k := 21) (n := 8) C h ⟨by decide, by decide⟩ (by decide) rfl (by decide) (by decide) (by decide) dX7_init_195 (fun sh N h hz => ?_)
  refine m_put (k := 21) (tag := 11) (n := 8) C hname h (by decide) (by rw [hz]; rfl) fl_X7_55 rfl ⟨rfl, rfl⟩ (fun _ => rfl) (fun _ => rfl) dX7_init_197 (fun sh h => ?_)
  clear hz
  refine j_aload_n C dX7_init_200 rfl ?_
  refine j_bipush C dX7_init_201 (v := 80) (by decide) ?_
  refine m_new_int (k := 22) (n := 80) C h ⟨by decide, by decide⟩ (by decide) rfl (by decide) (by decide) (by decide) dX7_init_203 (fun sh N h hz => ?_)
  refine m_put (k := 22) (tag := 9) (n := 80) C hname h (by decide) (by rw [hz]; rfl) fl_X7_59 rfl ⟨rfl, rfl⟩ (fun _ => rfl) (fun _ => rfl) dX7_init_205 (fun sh h => ?_)
  clear hz
  refine j_aload_n C dX7_init_208 rfl ?_
  refine j_sipush C dX7_init_209 (v := 300) (by decide) ?_
  refine m_new_int (k := 24) (n := 300) C h ⟨by decide, by decide⟩ (by decide) rfl (by decide) (by decide) (by decide) dX7_init_212 (fun sh N h hz => ?_)
  refine m_put (k := 24) (tag := 9) (n := 300) C hname h (by decide) (by rw [hz]; rfl) fl_X7_62 rfl ⟨rfl, rfl⟩ (fun _ => rfl) (fun _ => rfl) dX7_init_214 (fun sh h => ?_)
  clear hz
  refine j_aload_n C dX7_init_217 rfl ?_
  refine j_sipush C dX7_init_218 (v := 300) (by decide) ?_
  refine m_new_int (k := 25) (n := 300) C h ⟨by decide, by decide⟩ (by decide) rfl (by decide) (by decide) (by decide) dX7_init_221 (fun sh N h hz => ?_)
  refine m_put (k := 25) (tag := 9) (n := 300) C hname h (by decide) (by rw [hz]; rfl) fl_X7_65 rfl ⟨rfl, rfl⟩ (fun _ => rfl) (fun _ => rfl) dX7_init_223 (fun sh h => ?_)
  clear hz
  refine j_aload_n C dX7_init_226 rfl ?_
  refine j_sipush C dX7_init_227 (v := 300) (by decide) ?_
  refine m_new_int (k := 26) (n := 300) C h ⟨by decide, by decide⟩ (by decide) rfl (by decide) (by decide) (by decide) dX7_init_230 (fun sh N h hz => ?_)
  refine m_put (k := 26) (tag := 9) (n := 300) C hname h (by decide) (by rw [hz]; rfl) fl_X7_68 rfl ⟨rfl, rfl⟩ (fun _ => rfl) (fun _ => rfl) dX7_init_232 (fun sh h => ?_)
  clear hz
  refine j_aload_n C dX7_init_235 rfl ?_
  refine j_sipush C dX7_init_236 (v := 300) (by decide) ?_
  refine m_new_int (k := 27) (n := 300) C h ⟨by decide, by decide⟩ (by decide) rfl (by decide) (by decide) (by decide) dX7_init_239 (fun sh N h hz => ?_)
  refine m_put (k := 27) (tag := 9) (n := 300) C hname h (by decide) (by rw [hz]; rfl) fl_X7_71 rfl ⟨rfl, rfl⟩ (fun _ => rfl) (fun _ => rfl) dX7_init_241 (fun sh h => ?_)
  clear hz
  refine j_aload_n C dX7_init_244 rfl ?_
  refine j_sipush C dX7_init_245 (v := 300) (by decide) ?_
  refine m_new_int (k := 28) (n := 300) C h ⟨by decide, by decide⟩ (by decide) rfl (by decide) (by decide) (by decide) dX7_init_248 (fun sh N h hz => ?_)
  refine m_put (k := 28) (tag := 9) (n := 300) C hname h (by decide) (by rw [hz]; rfl) fl_X7_74 rfl ⟨rfl, rfl⟩ (fun _ => rfl) (fun _ => rfl) dX7_init_250 (fun sh h => ?_)
  clear hz
  refine j_aload_n C dX7_init_253 rfl ?_
  refine j_sipush C dX7_init_254 (v := 300) (by decide) ?_
  refine m_new_int (k := 29) (n := 300) C h ⟨by decide, by decide⟩ (by decide) rfl (by decide) (by decide) (by decide) dX7_init_257 (fun sh N h hz => ?_)
  refine m_put (k := 29) (tag := 9) (n := 300) C hname h (by decide) (by rw [hz]; rfl) fl_X7_77 rfl ⟨rfl, rfl⟩ (fun _ => rfl) (fun _ => rfl) dX7_init_259 (fun sh h => ?_)
  clear hz
  refine j_aload_n C dX7_init_262 rfl ?_
  refine j_sipush C dX7_init_263 (v := 300) (by decide) ?_
  refine m_new_int (k := 30) (n := 300) C h ⟨by decide, by decide⟩ (by decide) rfl (by decide) (by decide) (by decide) dX7_init_266 (fun sh N h hz => ?_)
  refine m_put (k := 30) (tag := 9) (n := 300) C hname h (by decide) (by rw [hz]; rfl) fl_X7_80 rfl ⟨rfl, rfl⟩ (fun _ => rfl) (fun _ => rfl) dX7_init_268 (fun sh h => ?_)
  clear hz
  refine j_aload_n C dX7_init_271 rfl ?_
  refine j_sipush C dX7_init_272 (v := 300) (by decide) ?_
  refine m_new_int (k := 31) (n := 300) C h ⟨by decide, by decide⟩ (by decide) rfl (by decide) (by decide) (by decide) dX7_init_275 (fun sh N h hz => ?_)
  refine m_put (k := 31) (tag := 9) (n := 300) C hname h (by decide) (by rw [hz]; rfl) fl_X7_83 rfl ⟨rfl, rfl⟩ (fun _ => rfl) (fun _ => rfl) dX7_init_277 (fun sh h => ?_)
  clear hz
  refine j_aload_n C dX7_init_280 rfl ?_
  refine j_sipush C dX7_init_281 (v := 300) (by decide) ?_
  refine m_new_int (k := 32) (n := 300) C h ⟨by decide, by decide⟩ (by decide) rfl (by decide) (by decide) (by decide) dX7_init_284 (fun sh N h hz => ?_)
  refine m_put (k := 32) (tag := 9) (n := 300) C hname h (by decide) (by rw [hz]; rfl) fl_X7_86 rfl ⟨rfl, rfl⟩ (fun _ => rfl) (fun _ => rfl) dX7_init_286 (fun sh h => ?_)
  clear hz
  refine j_aload_n C dX7_init_289 rfl ?_
  refine j_sipush C dX7_init_290 (v := 300) (by decide) ?_
  refine m_new_int (k := 33) (n := 300) C h ⟨by decide, by decide⟩ (by decide) rfl (by decide) (by decide) (by decide) dX7_init_293 (fun sh N h hz => ?_)
  refine m_put (k := 33) (tag := 9) (n := 300) C hname h (by decide) (by rw [hz]; rfl) fl_X7_89 rfl ⟨rfl, rfl⟩ (fun _ => rfl) (fun _ => rfl) dX7_init_295 (fun sh h => ?_)
  clear hz
  refine j_aload_n C dX7_init_298 rfl ?_
  refine j_sipush C dX7_init_299 (v := 300) (by decide) ?_
  refine m_new_int (k := 34) (n := 300) C h ⟨by decide, by decide⟩ (by decide) rfl (by decide) (by decide) (by decide) dX7_init_302 (fun sh N h hz => ?_)
  refine m_put (k := 34) (tag := 9) (n := 300) C hname h (by decide) (by rw [hz]; rfl) fl_X7_92 rfl ⟨rfl, rfl⟩ (fun _ => rfl) (fun _ => rfl) dX7_init_304 (fun sh h => ?_)
  clear hz
  refine j_aload_n C dX7_init_307 rfl ?_
  refine j_sipush C dX7_init_308 (v := 300) (by decide) ?_
  refine m_new_int (k := 35) (n := 300) C h ⟨by decide, by decide⟩ (by decide) rfl (by decide) (by decide) (by decide) dX7_init_311 (fun sh N h hz => ?_)
  refine m_put (k := 35) (tag := 9) (n := 300) C hname h (by decide) (by rw [hz]; rfl) fl_X7_95 rfl ⟨rfl, rfl⟩ (fun _ => rfl) (fun _ => rfl) dX7_init_313 (fun sh h => ?_)
  clear hz
  refine j_aload_n C dX7_init_316 rfl ?_
  refine j_sipush C dX7_init_317 (v := 200) (by decide) ?_
  refine m_new_byte (k := 36) (n := 200) C h ⟨by decide, by decide⟩ (by decide) rfl (by decide) (by decide) (by decide) dX7_init_320 (fun sh N h hz => ?_)
  refine m_put (k := 36) (tag := 10) (n := 200) C hname h (by decide) (by rw [hz]; rfl) fl_X7_98 rfl ⟨rfl, rfl⟩ (fun _ => rfl) (fun _ => rfl) dX7_init_322 (fun sh h => ?_)
  clear hz
  refine j_aload_n C dX7_init_325 rfl ?_
  refine j_bipush C dX7_init_326 (v := 30) (by decide) ?_
  refine m_new_int (k := 39) (n := 30) C h ⟨by decide, by decide⟩ (by decide) rfl (by decide) (by decide) (by decide) dX7_init_328 (fun sh N h hz => ?_)
  refine m_put (k := 39) (tag := 9) (n := 30) C hname h (by decide) (by rw [hz]; rfl) fl_X7_102 rfl ⟨rfl, rfl⟩ (fun _ => rfl) (fun _ => rfl) dX7_init_330 (fun sh h => ?_)
  clear hz
  refine j_aload_n C dX7_init_333 rfl ?_
  refine j_bipush C dX7_init_334 (v := 30) (by decide) ?_
  refine m_new_int (k := 40) (n := 30) C h ⟨by decide, by decide⟩ (by decide) rfl (by decide) (by decide) (by decide) dX7_init_336 (fun sh N h hz => ?_)
  refine m_put (k := 40) (tag := 9) (n := 30) C hname h (by decide) (by rw [hz]; rfl) fl_X7_105 rfl ⟨rfl, rfl⟩ (fun _ => rfl) (fun _ => rfl) dX7_init_338 (fun sh h => ?_)
  clear hz
  refine j_aload_n C dX7_init_341 rfl ?_
  refine j_bipush C dX7_init_342 (v := 31) (by decide) ?_
  refine m_new_int (k := 41) (n := 31) C h ⟨by decide, by decide⟩ (by decide) rfl (by decide) (by decide) (by decide) dX7_init_344 (fun sh N h hz => ?_)
  refine m_put (k := 41) (tag := 9) (n := 31) C hname h (by decide) (by rw [hz]; rfl) fl_X7_108 rfl ⟨rfl, rfl⟩ (fun _ => rfl) (fun _ => rfl) dX7_init_346 (fun sh h => ?_)
  clear hz
  refine j_aload_n C dX7_init_349 rfl ?_
  refine j_sipush C dX7_init_350 (v := 6200) (by decide) ?_
  refine m_new_int (k := 42) (n := 6200) C h ⟨by decide, by decide⟩ (by decide) rfl (by decide) (by decide) (by decide) dX7_init_353 (fun sh N h hz => ?_)
  refine m_put (k := 42) (tag := 9) (n := 6200) C hname h (by decide) (by rw [hz]; rfl) fl_X7_111 rfl ⟨rfl, rfl⟩ (fun _ => rfl) (fun _ => rfl) dX7_init_355 (fun sh h => ?_)
  clear hz
  refine j_aload_n C dX7_init_358 rfl ?_
  refine j_sipush C dX7_init_359 (v := 6200) (by decide) ?_
  refine m_new_int (k := 43) (n := 6200) C h ⟨by decide, by decide⟩ (by decide) rfl (by decide) (by decide) (by decide) dX7_init_362 (fun sh N h hz => ?_)
  refine m_put (k := 43) (tag := 9) (n := 6200) C hname h (by decide) (by rw [hz]; rfl) fl_X7_114 rfl ⟨rfl, rfl⟩ (fun _ => rfl) (fun _ => rfl) dX7_init_364 (fun sh h => ?_)
  clear hz
  refine j_aload_n C dX7_init_367 rfl ?_
  refine j_sipush C dX7_init_368 (v := 300) (by decide) ?_
  refine m_new_int (k := 50) (n := 300) C h ⟨by decide, by decide⟩ (by decide) rfl (by decide) (by decide) (by decide) dX7_init_371 (fun sh N h hz => ?_)
  refine m_put (k := 50) (tag := 9) (n := 300) C hname h (by decide) (by rw [hz]; rfl) fl_X7_117 rfl ⟨rfl, rfl⟩ (fun _ => rfl) (fun _ => rfl) dX7_init_373 (fun sh h => ?_)
  clear hz
  refine j_aload_n C dX7_init_376 rfl ?_
  refine j_sipush C dX7_init_377 (v := 200) (by decide) ?_
  refine m_new_int (k := 52) (n := 200) C h ⟨by decide, by decide⟩ (by decide) rfl (by decide) (by decide) (by decide) dX7_init_380 (fun sh N h hz => ?_)
  refine m_put (k := 52) (tag := 9) (n := 200) C hname h (by decide) (by rw [hz]; rfl) fl_X7_120 rfl ⟨rfl, rfl⟩ (fun _ => rfl) (fun _ => rfl) dX7_init_382 (fun sh h => ?_)
  clear hz
  refine j_aload_n C dX7_init_385 rfl ?_
  refine j_sipush C dX7_init_386 (v := 300) (by decide) ?_
  refine m_new_int (k := 53) (n := 300) C h ⟨by decide, by decide⟩ (by decide) rfl (by decide) (by decide) (by decide) dX7_init_389 (fun sh N h hz => ?_)
  refine m_put (k := 53) (tag := 9) (n := 300) C hname h (by decide) (by rw [hz]; rfl) fl_X7_123 rfl ⟨rfl, rfl⟩ (fun _ => rfl) (fun _ => rfl) dX7_init_391 (fun sh h => ?_)
  clear hz
  refine j_aload_n C dX7_init_394 rfl ?_
  refine j_sipush C dX7_init_395 (v := 300) (by decide) ?_
  refine m_new_bool (k := 54) (n := 300) C h ⟨by decide, by decide⟩ (by decide) rfl (by decide) (by decide) (by decide) dX7_init_398 (fun sh N h hz => ?_)
  refine m_put (k := 54) (tag := 11) (n := 300) C hname h (by decide) (by rw [hz]; rfl) fl_X7_126 rfl ⟨rfl, rfl⟩ (fun _ => rfl) (fun _ => rfl) dX7_init_400 (fun sh h => ?_)
  clear hz
  exact j_vret C dX7_init_403 h
