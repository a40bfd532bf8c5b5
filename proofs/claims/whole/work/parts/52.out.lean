/-! ===== OUTSIDE: statics, the text of the words, charAt ===== -/

theorem nw_stat : Cond.static yX6_within ∈ TBL := ml_X6_57.2.1
theorem nw_init : Cond.initialized yX6_within.cls ∈ TBL := ml_X6_57.2.2.1
theorem nw_code : Cond.code yX6_within cX6_within 3 (some .boolean) ∈ TBL := ml_X6_57.2.2.2.1
theorem nw_mh : NoMH yX6_within 3 := ml_X6_57.2.2.2.2

def WB : List Int32 := [112, 111, 114, 116, 32, 32, 32, 32, 100, 97, 121, 32, 32, 32, 32, 32, 115, 104, 105, 112, 32, 32, 32, 32, 104, 101, 114, 101, 32, 32, 32, 32, 108, 97, 116, 101, 32, 32, 32, 32, 115, 116, 97, 121, 101, 100, 32, 32, 102, 117, 108, 108, 32, 32, 32, 32, 107, 105, 110, 100, 32, 32, 32, 32, 114, 111, 111, 109, 32, 32, 32, 32, 119, 101, 105, 103, 104, 116, 32, 32, 119, 111, 114, 116, 104, 32, 32, 32, 102, 114, 101, 105, 103, 104, 116, 32, 119, 97, 105, 116, 115, 32, 32, 32, 97, 110, 100, 32, 32, 32, 32, 32, 111, 114, 32, 32, 32, 32, 32, 32, 110, 111, 116, 32, 32, 32, 32, 32]
def wch (k : Nat) : Int32 := WB.getD k 0
def WTX : String := "port    day     ship    here    late    stayed  full    kind    room    weight  worth   freight waits   and     or      not     "
/-- what is said of the outside: o 0 the text, o 1 its bytes, o 2 the empty row of lists, o 3 what holds without a vote, o 4 the class object of rows of objects -/
def XO (o : Nat → Nat) (A : Nat → Prop) (U : State) (H : Heap) : Prop :=
  (vk_R RX2 103 WTX (o 0) U ∧ vk_S 1 [128] [WB] (fun _ => o 0) (fun _ => o 1) A U H ∧ va_Z "java/lang/String" "COMPACT_STRINGS" "Z" (.int 1) A U H ∧ va_Zq "jdk/internal/util/Preconditions" "SIOOBE_FORMATTER" "Ljava/util/function/BiFunction;" A U H) ∧
  (va_Z "java/util/ArrayList" "DEFAULTCAPACITY_EMPTY_ELEMENTDATA" "[Ljava/lang/Object;" (.ref (o 2)) A U H ∧ va_T (.object "java/lang/Object") (o 2) 0 (fun _ => .null) A U H) ∧
  (va_Z "GalleyConvoy" "WITHOUT_VOTE" "[I" (.ref (o 3)) A U H ∧ va_T .int (o 3) 3 (fun j => .int (([1, 1, 0] : List Int32).getD j 0)) A U H) ∧
  va_Mi "[Ljava/lang/Object;" (o 4) U ∧ va_Nw (.methodLinkNest RX3 19 yX6_within RX6) U ∧ va_Nw (.methodLinkNest RX2 111 yX6_within RX6) U
theorem XO.go {o : Nat → Nat} {A : Nat → Prop} {s U : State} {H H1 : Heap} (hW : s.WarmedH U.vm) (hq : ∀ q : Nat, q < H.size → ¬ A q → H1[q]? = H[q]?) (h : XO o A s H) : XO o A U H1 := by
  obtain ⟨⟨a1, a2, a3, a4⟩, ⟨b1, b2⟩, ⟨c1, c2⟩, d1, e1, e2⟩ := h
  have hv := hW.alike
  exact ⟨⟨a1.warm hW, (a2.moved hv).kept hq, (va_Z.moved hv a3).kept hq, (va_Zq.moved hv a4).kept hq⟩, ⟨(va_Z.moved hv b1).kept hq, (va_T.moved hv b2).kept hq⟩, ⟨(va_Z.moved hv c1).kept hq, (va_T.moved hv c2).kept hq⟩, va_Mi.moved hv d1, va_Nw.warmM hW e1, va_Nw.warmM hW e2⟩
abbrev HX (g : WGp) (o : Nat → Nat) : Prop := ∀ U H, g.X U H → XO o g.A U H
theorem HX.n3 {g : WGp} {o : Nat → Nat} (hX : HX g o) : MSN RX6 RX3 19 yX6_within cX6_within 3 (some .boolean) 3 g := ⟨fun U H h => (hX U H h).2.2.2.2.1, nw_stat, nw_init, nw_code, nw_mh⟩
theorem HX.n2 {g : WGp} {o : Nat → Nat} (hX : HX g o) : MSN RX6 RX2 111 yX6_within cX6_within 3 (some .boolean) 3 g := ⟨fun U H h => (hX U H h).2.2.2.2.2, nw_stat, nw_init, nw_code, nw_mh⟩

section Rows
variable {p : Program} {l : Launch} {e : Env} {R : Room} {s : State} {m : MethodId} {args : Array Value} {below : List Frame} {meth : Method} {c : Code} {Q : State → Prop} {g : WGp} {nL : Nat} {own : String} {cc : ByteArray} {ret : Option FieldType}
variable {sh : WSh} {N : WNm} {cells slots pc : Nat} {lv : List (Option Value)} {st : List Value}
theorem j_gets (C : Cx p s m args meth c g nL own cc ret) {K n d : String} {v : Value} {idx : Nat} (hl : Cond.fieldLink own idx K n d ∈ TBL) (hZ : va_Z K n d v g.A s s.heap) (hd : decode cc pc = .ok (.getstatic idx, 3)) (kk : J p l e R s m args below meth c Q g nL sh N cells slots (pc + 3) lv (v :: st)) : J p l e R s m args below meth c Q g nL sh N cells slots pc lv st := fun H locs ls a b d => va_gets C.1 C.2.1 hZ b C.2.2.2.1 (C.2.2.2.2.1 _ hl) (fun _ h => h) hd (kk H locs ls a b d)
theorem j_getO (C : Cx p s m args meth c g nL own cc ret) {K n d : String} {v : Value} {idx q : Nat} (hl : Cond.fieldLink own idx K n d ∈ TBL) (hE : va_OF K n d v q g.A s s.heap) (hd : decode cc pc = .ok (.getfield idx, 3)) (kk : J p l e R s m args below meth c Q g nL sh N cells slots (pc + 3) lv (v :: st)) : J p l e R s m args below meth c Q g nL sh N cells slots pc lv (.ref q :: st) := fun H locs ls a b d => vk_getf C.1 C.2.1 hE b C.2.2.2.1 (C.2.2.2.2.1 _ hl) (fun _ h => h) hd (kk H locs ls a b d)
theorem j_ldcS (C : Cx p s m args meth c g nL own cc ret) {tx : String} {idx q : Nat} (hZ : vk_R own idx tx q s) (hd : decode cc pc = .ok (.ldc idx, 2)) (kk : J p l e R s m args below meth c Q g nL sh N cells slots (pc + 2) lv (.ref q :: st)) : J p l e R s m args below meth c Q g nL sh N cells slots pc lv st := fun H locs ls a b d => va_ldcS C.1 C.2.1 C.2.2.2.1 hZ hd (kk H locs ls a b d)
theorem j_tlen (C : Cx p s m args meth c g nL own cc ret) {ty : FieldType} {t n : Nat} {f : Nat → Value} (hT : va_T ty t n f g.A s s.heap) (hd : decode cc pc = .ok (.arraylength, 1)) (kk : J p l e R s m args below meth c Q g nL sh N cells slots (pc + 1) lv (.int (nI n) :: st)) : J p l e R s m args below meth c Q g nL sh N cells slots pc lv (.ref t :: st) := fun H locs ls a b d => va_tlen (v := nI n) C.1 C.2.1 hT b rfl hd (kk H locs ls a b d)
theorem j_tb (C : Cx p s m args meth c g nL own cc ret) {t n k : Nat} {f : Nat → Int32} (hT : va_T .byte t n (fun j => .int (f j)) g.A s s.heap) (hk : k < n) (hn : n < 2147483648) (hd : decode cc pc = .ok (.baload, 1)) (kk : J p l e R s m args below meth c Q g nL sh N cells slots (pc + 1) lv (.int (f k) :: st)) : J p l e R s m args below meth c Q g nL sh N cells slots pc lv (.int (nI k) :: .ref t :: st) := fun H locs ls a b d => va_tb C.1 C.2.1 hT b (vp_inN hk hn) (by rw [nI_clamp (by omega)]) hd (kk H locs ls a b d)
theorem j_ti (C : Cx p s m args meth c g nL own cc ret) {t n k : Nat} {f : Nat → Int32} (hT : va_T .int t n (fun j => .int (f j)) g.A s s.heap) (hk : k < n) (hn : n < 2147483648) (hd : decode cc pc = .ok (.iaload, 1)) (kk : J p l e R s m args below meth c Q g nL sh N cells slots (pc + 1) lv (.int (f k) :: st)) : J p l e R s m args below meth c Q g nL sh N cells slots pc lv (.int (nI k) :: .ref t :: st) := fun H locs ls a b d => va_ti C.1 C.2.1 hT b (vp_inN hk hn) (by rw [nI_clamp (by omega)]) hd (kk H locs ls a b d)

theorem j_callO0I (C : Cx p s m args meth c g nL own cc ret) {idx maxL1 b : Nat} {y : MethodName} {cc1 : ByteArray} {ret1 : Option FieldType} {rm1 : Room} {rest : List Value} {F : WNm} {f : Int32} (hl : MV own idx y cc1 maxL1 ret1 0) (hd : decode cc pc = .ok (.invokevirtual idx, 3)) (hM : CT l g y cc1 maxL1 ret1 rm1 (.ref b :: []) sh N (QF g sh F f)) (hO : va_O y.cls b g.A s s.heap) (hR : rm1.frames + 1 ≤ R.frames ∧ 8 + (maxL1 + 11) + rm1.locals ≤ R.locals) (hcat : (rest.map fun v => v.category).sum ≤ 8) (h0 : rm1.cells = 0 ∧ rm1.slots = 0) (hf : cells ≤ R.cells ∧ slots ≤ R.slots) (kk : J p l e R s m args below meth c Q g nL sh F cells slots (pc + 3) lv (.int f :: rest)) : J p l e R s m args below meth c Q g nL sh N cells slots pc lv (.ref b :: rest) := by
  intro H locs ls a b1 d
  have hr : ∃ cell : Cell, H[b]? = some cell ∧ cell.vm.isStatics = false ∧ s.vm.findClass y.cls = some cell.cls := by
    obtain ⟨cell, h1, h2, h3, -⟩ := hO.kept b1.2.1
    exact ⟨cell, h1, h2, h3⟩
  refine va_calli (run_V (As := []) (rest := rest) C hl hd hM rfl hR hcat (by rw [h0.1, h0.2]; exact hf) a b1 d.1 hr) b1 (fun _ _ h => h) (fun _ h => h) (fun r u t H1 locs1 e1 _ hp hb _ _ hS => ?_)
  obtain ⟨z1, z2, z3⟩ := hp
  rw [h0.1, h0.2, z3]
  rw [z1, z2, e1] at hb
  exact kk H1 locs1 ls hb hS d

theorem j_callO1I (C : Cx p s m args meth c g nL own cc ret) {idx maxL1 b : Nat} {y : MethodName} {cc1 : ByteArray} {ret1 : Option FieldType} {rm1 : Room} {a1 : Value} {rest : List Value} {F : WNm} {f : Int32} (hl : MV own idx y cc1 maxL1 ret1 1) (hd : decode cc pc = .ok (.invokevirtual idx, 3)) (hM : CT l g y cc1 maxL1 ret1 rm1 (.ref b :: [a1]) sh N (QF g sh F f)) (hO : va_O y.cls b g.A s s.heap) (hR : rm1.frames + 1 ≤ R.frames ∧ 8 + (maxL1 + 11) + rm1.locals ≤ R.locals) (hcat : (rest.map fun v => v.category).sum ≤ 8) (h0 : rm1.cells = 0 ∧ rm1.slots = 0) (hf : cells ≤ R.cells ∧ slots ≤ R.slots) (kk : J p l e R s m args below meth c Q g nL sh F cells slots (pc + 3) lv (.int f :: rest)) : J p l e R s m args below meth c Q g nL sh N cells slots pc lv (a1 :: .ref b :: rest) := by
  intro H locs ls a b1 d
  have hr : ∃ cell : Cell, H[b]? = some cell ∧ cell.vm.isStatics = false ∧ s.vm.findClass y.cls = some cell.cls := by
    obtain ⟨cell, h1, h2, h3, -⟩ := hO.kept b1.2.1
    exact ⟨cell, h1, h2, h3⟩
  refine va_calli (run_V (As := [a1]) (rest := rest) C hl hd hM rfl hR hcat (by rw [h0.1, h0.2]; exact hf) a b1 d.1 hr) b1 (fun _ _ h => h) (fun _ h => h) (fun r u t H1 locs1 e1 _ hp hb _ _ hS => ?_)
  obtain ⟨z1, z2, z3⟩ := hp
  rw [h0.1, h0.2, z3]
  rw [z1, z2, e1] at hb
  exact kk H1 locs1 ls hb hS d

end Rows

theorem cJ_chk3r {l : Launch} {g : WGp} (hg : GOK g) {sh : WSh} {N : WNm} {k n : Nat} (hk : k < n) (hn : n < 2147483648) (t : Nat) : CT l g yJ3_checkIndex_8e157 cJ3_checkIndex_8e157 3 (some .int) (RM 1 0 0) [.int (nI k), .int (nI n), .ref t] sh N (QF g sh N (nI k)) := by
  refine ent hg (by decide +kernel) (Nat.le_of_ble_eq_true rfl) ?_
  intro p e s m args below meth c C hname
  refine j_iload_n C dJ3_checkIndex_8e157_0 rfl ?_
  refine j_if_lt (tgt := 9) C dJ3_checkIndex_8e157_1 (by decide) (fun h1 => ?_) (fun h1 => ?_)
  · skip
    exact absurd h1 (nI_pos (by omega))
  · skip
    refine j_iload_n C dJ3_checkIndex_8e157_4 rfl ?_
    refine j_iload_n C dJ3_checkIndex_8e157_5 rfl ?_
    refine j_icmp_lt (tgt := 16) C dJ3_checkIndex_8e157_6 (by decide) (fun h6 => ?_) (fun h6 => ?_)
    · skip
      refine j_iload_n C dJ3_checkIndex_8e157_16 rfl ?_
      exact j_iret C dJ3_checkIndex_8e157_17 rfl ⟨rfl, rfl, rfl⟩
    · skip
      exact absurd (nI_lt hk (by omega)) h6


theorem cJ_chkS {l : Launch} {g : WGp} (hg : GOK g) {sh : WSh} {N : WNm} {o : Nat → Nat} (hX : HX g o) {k n : Nat} (hk : k < n) (hn : n < 2147483648) : CT l g yJ0_checkIndex_df160 cJ0_checkIndex_df160 2 none (RM 2 0 0) [.int (nI k), .int (nI n)] sh N (QFv g sh N) := by
  refine entF hg (by decide +kernel) (Nat.le_of_ble_eq_true rfl) ?_
  intro p e s m args below meth c C hname
  refine j_iload_n C dJ0_checkIndex_df160_0 rfl ?_
  refine j_iload_n C dJ0_checkIndex_df160_1 rfl ?_
  rcases (hX _ _ C.2.2.2.2.2.1.2.1).1.2.2.2 with hz | ⟨t, hz⟩
  · refine j_gets C (tbl_in 579 (by decide +kernel) rfl) hz dJ0_checkIndex_df160_2 ?_
    refine j_callS3I C ml_J0_1059 dJ0_checkIndex_df160_5 (cJ_chk3 hg hk hn) ⟨Nat.le_of_ble_eq_true rfl, Nat.le_of_ble_eq_true rfl⟩ (Nat.le_of_ble_eq_true rfl) ⟨rfl, rfl⟩ ⟨Nat.zero_le _, Nat.zero_le _⟩ ?_
    refine j_pop C dJ0_checkIndex_df160_8 rfl ?_
    exact j_vret C dJ0_checkIndex_df160_9 ⟨rfl, rfl⟩
  · refine j_gets C (tbl_in 579 (by decide +kernel) rfl) hz dJ0_checkIndex_df160_2 ?_
    refine j_callS3I C ml_J0_1059 dJ0_checkIndex_df160_5 (cJ_chk3r hg hk hn t) ⟨Nat.le_of_ble_eq_true rfl, Nat.le_of_ble_eq_true rfl⟩ (Nat.le_of_ble_eq_true rfl) ⟨rfl, rfl⟩ ⟨Nat.zero_le _, Nat.zero_le _⟩ ?_
    refine j_pop C dJ0_checkIndex_df160_8 rfl ?_
    exact j_vret C dJ0_checkIndex_df160_9 ⟨rfl, rfl⟩

theorem cJ_isLatin1 {l : Launch} {g : WGp} (hg : GOK g) {sh : WSh} {N : WNm} {o : Nat → Nat} (hX : HX g o) : CT l g yJ0_isLatin1_aae02 cJ0_isLatin1_aae02 1 (some .boolean) (RM 1 0 0) [.ref (o 0)] sh N (QF g sh N 1) := by
  refine entF hg (by decide +kernel) (Nat.le_of_ble_eq_true rfl) ?_
  intro p e s m args below meth c C hname
  refine j_gets C (tbl_in 571 (by decide +kernel) rfl) (hX _ _ C.2.2.2.2.2.1.2.1).1.2.2.1 dJ0_isLatin1_aae02_0 ?_
  refine j_if_eq (tgt := 17) C dJ0_isLatin1_aae02_3 (by decide) (fun h => absurd h (by decide)) (fun _ => ?_)
  refine j_aload_n C dJ0_isLatin1_aae02_6 rfl ?_
  refine j_getO C (tbl_in 1263 (by decide +kernel) rfl) ((hX _ _ C.2.2.2.2.2.1.2.1).1.2.1.1 0 (by decide)).2.1 dJ0_isLatin1_aae02_7 ?_
  refine j_if_ne (tgt := 17) C dJ0_isLatin1_aae02_10 (by decide) (fun h => absurd rfl h) (fun _ => ?_)
  refine j_iconst C dJ0_isLatin1_aae02_13 (v := 1) (by decide) ?_
  refine j_goto (tgt := 18) C dJ0_isLatin1_aae02_14 (by decide) ?_
  exact j_iret C dJ0_isLatin1_aae02_18 rfl ⟨rfl, rfl, rfl⟩

theorem wch_c : ∀ k, k < 128 → ((wch k &&& 255).toUInt32 % 65536).toInt32 = wch k ∧ narrow .char (.int (wch k)) = .int (wch k) := by decide +kernel

theorem cJ_chL {l : Launch} {g : WGp} (hg : GOK g) {sh : WSh} {N : WNm} {o : Nat → Nat} (hX : HX g o) {k : Nat} (hk : k < 128) : CT l g yJ1_charAt_3b067 cJ1_charAt_3b067 2 (some .char) (RM 3 0 0) [.ref (o 1), .int (nI k)] sh N (QF g sh N (wch k)) := by
  refine entF hg (by decide +kernel) (Nat.le_of_ble_eq_true rfl) ?_
  intro p e s m args below meth c C hname
  have hT : va_T .byte (o 1) 128 (fun j => .int (wch j)) g.A s s.heap := ((hX _ _ C.2.2.2.2.2.1.2.1).1.2.1.1 0 (by decide)).2.2.2
  refine j_iload_n C dJ1_charAt_3b067_0 rfl ?_
  refine j_aload_n C dJ1_charAt_3b067_1 rfl ?_
  refine j_tlen C hT dJ1_charAt_3b067_2 ?_
  refine j_callS2V C ml_J1_9 dJ1_charAt_3b067_3 (cJ_chkS hg hX hk (by decide)) ⟨Nat.le_of_ble_eq_true rfl, Nat.le_of_ble_eq_true rfl⟩ (Nat.le_of_ble_eq_true rfl) ⟨rfl, rfl⟩ ⟨Nat.zero_le _, Nat.zero_le _⟩ ?_
  refine j_aload_n C dJ1_charAt_3b067_6 rfl ?_
  refine j_iload_n C dJ1_charAt_3b067_7 rfl ?_
  refine j_tb (f := wch) C hT hk (by decide) dJ1_charAt_3b067_8 ?_
  refine j_sipush C dJ1_charAt_3b067_9 (v := 255) (by decide) ?_
  refine j_iand C dJ1_charAt_3b067_12 ?_
  refine j_i2c C dJ1_charAt_3b067_13 ?_
  rw [(wch_c k hk).1]
  exact j_iret C dJ1_charAt_3b067_14 (wch_c k hk).2 ⟨rfl, rfl, rfl⟩

theorem cJ_charAt {l : Launch} {g : WGp} (hg : GOK g) {sh : WSh} {N : WNm} {o : Nat → Nat} (hX : HX g o) {k : Nat} (hk : k < 128) : CT l g yJ0_charAt_5068e cJ0_charAt_5068e 2 (some .char) (RM 4 0 0) [.ref (o 0), .int (nI k)] sh N (QF g sh N (wch k)) := by
  refine entF hg (by decide +kernel) (Nat.le_of_ble_eq_true rfl) ?_
  intro p e s m args below meth c C hname
  have hO := ((hX _ _ C.2.2.2.2.2.1.2.1).1.2.1.1 0 (by decide)).1
  refine j_aload_n C dJ0_charAt_5068e_0 rfl ?_
  refine j_callO0I C ml_J0_492 dJ0_charAt_5068e_1 (cJ_isLatin1 hg hX) hO ⟨Nat.le_of_ble_eq_true rfl, Nat.le_of_ble_eq_true rfl⟩ (Nat.le_of_ble_eq_true rfl) ⟨rfl, rfl⟩ ⟨Nat.zero_le _, Nat.zero_le _⟩ ?_
  refine j_if_eq (tgt := 16) C dJ0_charAt_5068e_4 (by decide) (fun h => absurd h (by decide)) (fun _ => ?_)
  refine j_aload_n C dJ0_charAt_5068e_7 rfl ?_
  refine j_getO C (tbl_in 1264 (by decide +kernel) rfl) ((hX _ _ C.2.2.2.2.2.1.2.1).1.2.1.1 0 (by decide)).2.2.1 dJ0_charAt_5068e_8 ?_
  refine j_iload_n C dJ0_charAt_5068e_11 rfl ?_
  refine j_callS2I C ml_J0_495 dJ0_charAt_5068e_12 (cJ_chL hg hX hk) ⟨Nat.le_of_ble_eq_true rfl, Nat.le_of_ble_eq_true rfl⟩ (Nat.le_of_ble_eq_true rfl) ⟨rfl, rfl⟩ ⟨Nat.zero_le _, Nat.zero_le _⟩ ?_
  exact j_iret C dJ0_charAt_5068e_15 (wch_c k hk).2 ⟨rfl, rfl, rfl⟩
