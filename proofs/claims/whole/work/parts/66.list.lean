/-! ===== LISTS ===== -/

theorem tb_sysI : Cond.initialized "java/lang/System" ∈ TBL := tbl_in 79 (by decide +kernel) rfl

theorem tb_acL : Cond.methodLink RJ7 150 arraycopyName ∈ TBL := tbl_in 395 (by decide +kernel) rfl

theorem tb_acA : Cond.methodLink RJx4a65c 112 arraycopyName ∈ TBL := tbl_in 796 (by decide +kernel) rfl

theorem tb_acS : Cond.static arraycopyName ∈ TBL := tbl_in 396 (by decide +kernel) rfl

theorem tb_acN : Cond.native arraycopyName ∈ TBL := tbl_in 397 (by decide +kernel) rfl

theorem tb_clO : Cond.classLink RJ7 2 "java/lang/Object" ∈ TBL := tbl_in 391 (by decide +kernel) rfl

theorem tb_clA : Cond.classLink RJ7 110 "[Ljava/lang/Object;" ∈ TBL := tbl_in 389 (by decide +kernel) rfl

theorem tb_clI : Cond.classLink RJ7 317 "[I" ∈ TBL := tbl_in 656 (by decide +kernel) rfl

theorem tb_clL : Cond.classLink RJx4a65c 7 "java/lang/Object" ∈ TBL := tbl_in 399 (by decide +kernel) rfl

theorem tb_gcL : Cond.methodLink RJ7 86 ⟨"java/lang/Object", "getClass", "()Ljava/lang/Class;"⟩ ∈ TBL := tbl_in 373 (by decide +kernel) rfl

theorem tb_gcS : Cond.selects "[Ljava/lang/Object;" ⟨"java/lang/Object", "getClass", "()Ljava/lang/Class;"⟩ ⟨"java/lang/Object", "getClass", "()Ljava/lang/Class;"⟩ ∈ TBL := tbl_in 1257 (by decide +kernel) rfl

theorem tb_gcI : Cond.instanceMethod ⟨"java/lang/Object", "getClass", "()Ljava/lang/Class;"⟩ ∈ TBL := tbl_in 374 (by decide +kernel) rfl

theorem tb_gcN : Cond.native ⟨"java/lang/Object", "getClass", "()Ljava/lang/Class;"⟩ ∈ TBL := tbl_in 385 (by decide +kernel) rfl

theorem tb_emp : Cond.fieldLink RJx4a65c 39 "java/util/ArrayList" "DEFAULTCAPACITY_EMPTY_ELEMENTDATA" "[Ljava/lang/Object;" ∈ TBL := tbl_in 105 (by decide +kernel) rfl

theorem gD_lt {xs : List Nat} {j : Nat} (h : j < xs.length) : xs.getD j 0 = xs[j] := by rw [List.getD_eq_getElem?_getD, List.getElem?_eq_getElem h]; rfl
theorem gD_al {xs ys : List Nat} {j : Nat} (h : j < xs.length) : (xs ++ ys).getD j 0 = xs.getD j 0 := by rw [List.getD_eq_getElem?_getD, List.getElem?_append_left h, ← List.getD_eq_getElem?_getD]
theorem gD_ar {xs ys : List Nat} {j : Nat} (h : xs.length ≤ j) : (xs ++ ys).getD j 0 = ys.getD (j - xs.length) 0 := by rw [List.getD_eq_getElem?_getD, List.getElem?_append_right h, ← List.getD_eq_getElem?_getD]
def cap : Nat → Nat
  | 0 => 0
  | 1 => 10
  | k + 2 => cap (k + 1) + cap (k + 1) / 2
theorem cap_le : ∀ k, k < 11 → cap k ≤ 366 := by decide
theorem cap_s : ∀ k, k < 11 → 0 < k → 10 ≤ cap k := by decide
theorem cap_shr : ∀ k, k < 11 → nI (cap k) >>> ((1 : Int32) &&& 31) = nI (cap k / 2) := by decide
theorem cap_up : ∀ k, k < 10 → 0 < k → cap (k + 1) = cap k + cap k / 2 := by decide
/-- every reference names something -/
def RF (sh : WSh) : Prop := ∀ a k j, sh.2.1 a k = some j → (sh.1 j).1 ≤ 13
theorem RF.no {sh : WSh} (h : RF sh) {i : Nat} (hi : 13 < (sh.1 i).1) : noRef sh i := fun a k j _ hj e => by
  have := h a k j hj
  rw [e] at this
  omega
/-- L is a list: its row is number b + k (k-th size), its elements the numbers xs -/
def LST (sh : WSh) (N : WNm) (o2 L b k : Nat) (xs : List Nat) : Prop :=
  ((sh.1 L).1 = 8 ∧ k ≤ 10 ∧ sh.2.1 L 1 = some (b + k) ∧ N L 2 = nI xs.length ∧ xs.length ≤ cap k) ∧ (k = 0 → sh.2.2 b = o2) ∧ (0 < k → sh.1 (b + k) = (12, cap k)) ∧ (∀ j, j < xs.length → sh.2.1 (b + k) j = some (xs.getD j 0)) ∧ ∀ k', k < k' → k' ≤ 10 → 13 < (sh.1 (b + k')).1
/-- all but the list and its rows is as it was -/
def FRX (sh : WSh) (N : WNm) (L b : Nat) (sh1 : WSh) (N1 : WNm) : Prop :=
  (∀ i, ¬ (b < i ∧ i ≤ b + 10) → sh1.1 i = sh.1 i ∧ sh1.2.2 i = sh.2.2 i) ∧ ∀ i, ¬ (b ≤ i ∧ i ≤ b + 10) → ¬ i = L → sh1.2.1 i = sh.2.1 i ∧ N1 i = N i
theorem FRX.self (sh : WSh) (N : WNm) (L b : Nat) : FRX sh N L b sh N := ⟨fun _ _ => ⟨Eq.refl _, Eq.refl _⟩, fun _ _ _ => ⟨Eq.refl _, Eq.refl _⟩⟩
theorem FRX.trans {sh sh1 sh2 : WSh} {N N1 N2 : WNm} {L b : Nat} (h1 : FRX sh N L b sh1 N1) (h2 : FRX sh1 N1 L b sh2 N2) : FRX sh N L b sh2 N2 :=
  ⟨fun i hi => ⟨(h2.1 i hi).1.trans (h1.1 i hi).1, (h2.1 i hi).2.trans (h1.1 i hi).2⟩, fun i hi hl => ⟨(h2.2 i hi hl).1.trans (h1.2 i hi hl).1, (h2.2 i hi hl).2.trans (h1.2 i hi hl).2⟩⟩
/-- a longer copy of a row -/
def CPY (sh : WSh) (N : WNm) (E E' n0 n1 : Nat) (sh1 : WSh) (N1 : WNm) : Prop :=
  sh1.1 E' = (12, n1) ∧ (∀ j, j < n0 → sh1.2.1 E' j = sh.2.1 E j) ∧ (∀ j y, sh1.2.1 E' j = some y → ∃ j', sh.2.1 E j' = some y) ∧ ∀ a, ¬ a = E' → sh1.1 a = sh.1 a ∧ sh1.2.1 a = sh.2.1 a ∧ sh1.2.2 a = sh.2.2 a ∧ N1 a = N a
abbrev LSB (o2 L b : Nat) : Prop := L < b ∨ b + 10 < L

theorem cJ_copy3 {l : Launch} {g : WGp} (hg : GOK g) {sh : WSh} {N : WNm} {o : Nat → Nat} (hX : HX g o) (hX2 : HX2 g) {E E' n0 n1 ci : Nat} (hE : sh.1 E = (12, n0)) (hle : n0 ≤ n1) (hn : n1 < 100000000) (hf : 12 < (sh.1 E').1) (hr : noRef sh E') (hci : ∀ U H, g.X U H → CO ci U) (hel : ∀ j, j < n0 → ∀ y, sh.2.1 E j = some y → (sh.1 y).1 = ci) : CT l g yJ7_copyOf_6403c cJ7_copyOf_6403c 4 (some (.array (.object "java/lang/Object"))) (RM 2 1 n1) [.ref (sh.2.2 E), .int (nI n1), .ref (o 4)] sh N (QR g (fun r sh1 N1 => r = some E' ∧ CPY sh N E E' n0 n1 sh1 N1)) := by
  refine ent hg (by decide +kernel) (Nat.le_of_ble_eq_true rfl) ?_
  intro p e s m args below meth c C hname
  refine j_aload_n C dJ7_copyOf_6403c_0 rfl ?_
  refine j_ldcM (mi := o 4) C tb_clA (hX _ _ C.2.2.2.2.2.1.2.1).2.2.2.1 dJ7_copyOf_6403c_1 ?_
  refine j_acmp_ne (tgt := 13) C dJ7_copyOf_6403c_3 (by decide) (fun h3 => absurd rfl h3) (fun _ => ?_)
  refine j_iload_n C dJ7_copyOf_6403c_6 rfl ?_
  refine j_anew (i := E') (n := n1) C tb_clO (hX2 _ _ C.2.2.2.2.2.1.2.1) hn hf hr (Nat.le_of_ble_eq_true rfl) (by show 0 + n1 ≤ n1; omega) dJ7_copyOf_6403c_7 (fun q => ?_)
  have hne : ¬ E = E' := fun z => by rw [← z, hE] at hf; exact absurd hf (by simp)
  obtain ⟨sh1, e1⟩ : ∃ sh1, sh1 = shNew sh E' (12, n1) q := ⟨_, rfl⟩
  obtain ⟨N1, e2⟩ : ∃ N1, N1 = nNew N E' := ⟨_, rfl⟩
  have hq : q = sh1.2.2 E' := by rw [e1]; exact (up_eq _ _ _).symm
  have a1 : ∀ a, ¬ a = E' → sh1.1 a = sh.1 a ∧ sh1.2.1 a = sh.2.1 a ∧ sh1.2.2 a = sh.2.2 a ∧ N1 a = N a := fun a ha => by rw [e1, e2]; exact ⟨up_ne ha, up_ne ha, up_ne ha, up_ne ha⟩
  have a2 : sh1.1 E' = (12, n1) := by rw [e1]; exact up_eq _ _ _
  have a3 : sh1.2.1 E' = fun _ => none := by rw [e1]; exact up_eq _ _ _
  have hE1 : sh1.1 E = (12, n0) := (a1 E hne).1.trans hE
  rw [← e1, ← e2, hq, ← (a1 E hne).2.2.1, show (0 : Nat) + n1 = n1 from Nat.zero_add _]
  refine j_goto (tgt := 24) C dJ7_copyOf_6403c_10 (by decide) ?_
  refine j_astore_n C dJ7_copyOf_6403c_24 (by decide) rfl ?_
  refine j_aload_n C dJ7_copyOf_6403c_25 rfl ?_
  refine j_iconst C dJ7_copyOf_6403c_26 (v := 0) (by decide) ?_
  refine j_aload_n C dJ7_copyOf_6403c_27 rfl ?_
  refine j_iconst C dJ7_copyOf_6403c_28 (v := 0) (by decide) ?_
  refine j_aload_n C dJ7_copyOf_6403c_29 rfl ?_
  refine j_alen C (hE1) (by decide) dJ7_copyOf_6403c_30 ?_
  refine j_iload_n C dJ7_copyOf_6403c_31 rfl ?_
  refine j_callS2I C ml_J7_304 dJ7_copyOf_6403c_32 (cJ_min hg _ _) ⟨Nat.le_of_ble_eq_true rfl, Nat.le_of_ble_eq_true rfl⟩ (Nat.le_of_ble_eq_true rfl) ⟨rfl, rfl⟩ ⟨Nat.le_refl _, Nat.le_refl _⟩ ?_
  rw [if_neg (nI_nlt hle (by omega))]
  refine j_copyq (i0 := E) (i1 := E') (n0 := n0) (n1 := n1) (s0 := 0) (d0 := 0) (k := n0) (ci := ci) C tb_acL tb_acN tb_acS tb_sysI hE1 a2 (by omega) (by omega) (by omega) (by omega) (hci _ _ C.2.2.2.2.2.1.2.1) (fun j hj y hy => ?_) (Nat.le_of_ble_eq_true rfl) (Nat.le_of_ble_eq_true rfl) dJ7_copyOf_6403c_35 ?_
  · rw [Nat.zero_add, (a1 E hne).2.1] at hy
    rw [(a1 y (hr E j y hne hy)).1]
    exact hel j hj y hy
  refine j_aload_n C dJ7_copyOf_6403c_38 rfl ?_
  refine j_aret (i := E') C dJ7_copyOf_6403c_39 (Or.inr ⟨_, rfl⟩) ⟨rfl, a2, fun j hj => ?_, fun j y hy => ?_, fun a ha => ⟨(a1 a ha).1, (up_ne ha).trans (a1 a ha).2.1, (a1 a ha).2.2.1, (a1 a ha).2.2.2⟩⟩
  · show va_up sh1.2.1 E' _ E' j = _
    rw [up_eq, va_cpy, if_pos ⟨Nat.zero_le _, by omega⟩, (a1 E hne).2.1, show 0 + (j - 0) = j by omega]
  · replace hy : va_up sh1.2.1 E' _ E' j = some y := hy
    rw [up_eq, va_cpy] at hy
    split at hy
    · rw [(a1 E hne).2.1] at hy
      exact ⟨_, hy⟩
    · rw [a3] at hy
      cases hy

theorem cJ_copy2 {l : Launch} {g : WGp} (hg : GOK g) {sh : WSh} {N : WNm} {o : Nat → Nat} (hX : HX g o) (hX2 : HX2 g) {E E' n0 n1 ci : Nat} (hE : sh.1 E = (12, n0)) (hle : n0 ≤ n1) (hn : n1 < 100000000) (hf : 12 < (sh.1 E').1) (hr : noRef sh E') (hci : ∀ U H, g.X U H → CO ci U) (hel : ∀ j, j < n0 → ∀ y, sh.2.1 E j = some y → (sh.1 y).1 = ci) : CT l g yJ7_copyOf_1904c cJ7_copyOf_1904c 2 (some (.array (.object "java/lang/Object"))) (RM 3 1 n1) [.ref (sh.2.2 E), .int (nI n1)] sh N (QR g (fun r sh1 N1 => r = some E' ∧ CPY sh N E E' n0 n1 sh1 N1)) := by
  refine ent hg (by decide +kernel) (Nat.le_of_ble_eq_true rfl) ?_
  intro p e s m args below meth c C hname
  refine j_aload_n C dJ7_copyOf_1904c_0 rfl ?_
  refine j_iload_n C dJ7_copyOf_1904c_1 rfl ?_
  refine j_aload_n C dJ7_copyOf_1904c_2 rfl ?_
  refine j_getC (mi := o 4) C tb_gcL tb_gcS tb_gcI tb_gcN (hX2 _ _ C.2.2.2.2.2.1.2.1) (hX _ _ C.2.2.2.2.2.1.2.1).2.2.2.1 hE (Nat.le_of_ble_eq_true rfl) (Nat.le_of_ble_eq_true rfl) dJ7_copyOf_1904c_3 ?_
  refine j_callS3Rg C ml_J7_300 dJ7_copyOf_1904c_6 (cJ_copy3 hg hX hX2 (E' := E') hE hle hn hf hr hci hel) ⟨Nat.le_of_ble_eq_true rfl, Nat.le_of_ble_eq_true rfl⟩ (Nat.le_of_ble_eq_true rfl) ⟨rfl, Nat.zero_add _⟩ ⟨Nat.le_of_ble_eq_true rfl, Nat.le_refl _⟩ (fun r sh1 N1 hq => ?_)
  obtain ⟨e1, hq⟩ := hq
  subst e1
  exact j_aret (i := E') C dJ7_copyOf_1904c_9 (Or.inr ⟨_, rfl⟩) ⟨rfl, hq⟩

/-- behind a growth: the list with its next row -/
theorem LST.grown {sh sh1 : WSh} {N N1 : WNm} {o2 L b k : Nat} {xs : List Nat} (h : LST sh N o2 L b k xs) (hb : LSB o2 L b) (hk : k < 10) (hRF : RF sh) (h1 : sh1.1 (b + (k + 1)) = (12, cap (k + 1))) (h2 : ∀ j, j < xs.length → sh1.2.1 (b + (k + 1)) j = sh.2.1 (b + k) j) (h3 : ∀ j y, sh1.2.1 (b + (k + 1)) j = some y → ∃ j', sh.2.1 (b + k) j' = some y) (h4 : ∀ a, ¬ a = b + (k + 1) → sh1.1 a = sh.1 a ∧ sh1.2.1 a = sh.2.1 a ∧ sh1.2.2 a = sh.2.2 a ∧ N1 a = N a) :
    LST (sh1.1, u2 sh1.2.1 L 1 (some (b + (k + 1))), sh1.2.2) N1 o2 L b (k + 1) xs ∧ FRX sh N L b (sh1.1, u2 sh1.2.1 L 1 (some (b + (k + 1))), sh1.2.2) N1 ∧ RF (sh1.1, u2 sh1.2.1 L 1 (some (b + (k + 1))), sh1.2.2) := by
  obtain ⟨⟨a1, a2, a3, a4, a5⟩, a6, a7, a8, a9⟩ := h
  have hL : ¬ L = b + (k + 1) := by unfold LSB at hb; omega
  have hm : ∀ y : Nat, (sh.1 y).1 ≤ 13 → (sh1.1 y).1 ≤ 13 := fun y hy => by
    by_cases e : y = b + (k + 1)
    · rw [e, h1]; simp
    · rw [(h4 y e).1]; exact hy
  have hcap : cap k ≤ cap (k + 1) := by
    rcases Nat.eq_zero_or_pos k with e | e
    · subst e; decide
    · rw [cap_up k hk e]; omega
  refine ⟨⟨⟨by rw [(h4 L hL).1]; exact a1, by omega, u2_eq _ _ _ _, by rw [(h4 L hL).2.2.2]; exact a4, by omega⟩, fun e => by omega, fun _ => h1, fun j hj => ?_, fun k' h5 h6 => ?_⟩, ⟨fun i hi => ?_, fun i hi hl => ?_⟩, fun a i j hj => ?_⟩
  · show u2 sh1.2.1 L 1 (some (b + (k + 1))) (b + (k + 1)) j = _
    rw [u2_ne (fun z => hL z.1.symm), h2 j hj]; exact a8 j hj
  · show 13 < (sh1.1 (b + k')).1
    rw [(h4 (b + k') (by omega)).1]; exact a9 k' (by omega) h6
  · have z := h4 i (by omega)
    exact ⟨z.1, z.2.2.1⟩
  · have z := h4 i (by omega)
    exact ⟨(u2_row hl).trans z.2.1, z.2.2.2⟩
  · show (sh1.1 j).1 ≤ 13
    replace hj : u2 sh1.2.1 L 1 (some (b + (k + 1))) a i = some j := hj
    by_cases e : a = L ∧ i = 1
    · rw [e.1, e.2, u2_eq] at hj
      cases hj
      rw [h1]; simp
    · rw [u2_ne e] at hj
      by_cases e2 : a = b + (k + 1)
      · rw [e2] at hj
        obtain ⟨j', hj'⟩ := h3 i j hj
        exact hm j (hRF _ _ _ hj')
      · rw [(h4 a e2).2.1] at hj
        exact hm j (hRF _ _ _ hj)

theorem cJ_growI {l : Launch} {g : WGp} (hg : GOK g) {sh : WSh} {N : WNm} {o : Nat → Nat} (hX : HX g o) (hX2 : HX2 g) {L b k ci : Nat} {xs : List Nat} (hL : LST sh N (o 2) L b k xs) (hb : LSB (o 2) L b) (hRF : RF sh) (hci : ∀ U H, g.X U H → CO ci U) (hel : ∀ x ∈ xs, (sh.1 x).1 = ci) (hk : k < 10) (hfull : xs.length = cap k) : CT l g yJx4a65c_grow_92f84 cJx4a65c_grow_92f84 4 (some (.array (.object "java/lang/Object"))) (RM 4 1 (cap (k + 1))) [.ref (sh.2.2 L), .int (nI (cap k + 1))] sh N (QR g (fun r sh1 N1 => r = some (b + (k + 1)) ∧ LST sh1 N1 (o 2) L b (k + 1) xs ∧ FRX sh N L b sh1 N1 ∧ RF sh1)) := by
  refine ent hg (by decide +kernel) (Nat.le_of_ble_eq_true rfl) ?_
  intro p e s m args below meth c C hname
  have hcl := cap_le k (by omega)
  have hcl1 := cap_le (k + 1) (by omega)
  have hfr := hL.2.2.2.2 (k + 1) (by omega) (by omega)
  rcases Nat.eq_zero_or_pos k with hk0 | hk0
  · subst hk0
    have hs : sh.2.2 (b + 0) = o 2 := hL.2.1 rfl
    refine j_aload_n C dJx4a65c_grow_92f84_0 rfl ?_
    refine j_getR (j := (b + 0)) C fl_Jx4a65c_9 dJx4a65c_grow_92f84_1 (hL.1.1) rfl (hL.1.2.2.1) ?_
    rw [hs]
    refine j_tlen C (hX _ _ C.2.2.2.2.2.1.2.1).2.1.2 dJx4a65c_grow_92f84_4 ?_
    refine j_istore_n C dJx4a65c_grow_92f84_5 (by decide) rfl ?_
    refine j_iload_n C dJx4a65c_grow_92f84_6 rfl ?_
    refine j_if_gt (tgt := 20) C dJx4a65c_grow_92f84_7 (by decide) (fun h7 => absurd h7 (by decide)) (fun _ => ?_)
    refine j_aload_n C dJx4a65c_grow_92f84_10 rfl ?_
    refine j_getR (j := (b + 0)) C fl_Jx4a65c_9 dJx4a65c_grow_92f84_11 (hL.1.1) rfl (hL.1.2.2.1) ?_
    rw [hs]
    refine j_gets C tb_emp (hX _ _ C.2.2.2.2.2.1.2.1).2.1.1 dJx4a65c_grow_92f84_14 ?_
    refine j_acmp_eq (tgt := 45) C dJx4a65c_grow_92f84_17 (by decide) (fun _ => ?_) (fun h17 => absurd rfl h17)
    refine j_aload_n C dJx4a65c_grow_92f84_45 rfl ?_
    refine j_bipush C dJx4a65c_grow_92f84_46 (v := 10) (by decide) ?_
    refine j_iload_n C dJx4a65c_grow_92f84_48 rfl ?_
    refine j_callS2I C ml_Jx4a65c_79 dJx4a65c_grow_92f84_49 (cJ_max hg _ _) ⟨Nat.le_of_ble_eq_true rfl, Nat.le_of_ble_eq_true rfl⟩ (Nat.le_of_ble_eq_true rfl) ⟨rfl, rfl⟩ ⟨Nat.zero_le _, Nat.zero_le _⟩ ?_
    rw [show (if (10 : Int32) < nI (cap 0 + 1) then nI (cap 0 + 1) else 10) = nI 10 by decide]
    refine j_anew (i := b + (0 + 1)) (n := 10) C tb_clL (hX2 _ _ C.2.2.2.2.2.1.2.1) (by decide) (Nat.lt_trans (by decide) hfr) (hRF.no hfr) (Nat.le_of_ble_eq_true rfl) (Nat.le_of_ble_eq_true rfl) dJx4a65c_grow_92f84_52 (fun q => ?_)
    obtain ⟨sh1, e1⟩ : ∃ sh1, sh1 = shNew sh (b + (0 + 1)) (12, 10) q := ⟨_, rfl⟩
    obtain ⟨N1, e2⟩ : ∃ N1, N1 = nNew N (b + (0 + 1)) := ⟨_, rfl⟩
    have hq : q = sh1.2.2 (b + (0 + 1)) := by rw [e1]; exact (up_eq _ _ _).symm
    have a1 : ∀ a, ¬ a = b + (0 + 1) → sh1.1 a = sh.1 a ∧ sh1.2.1 a = sh.2.1 a ∧ sh1.2.2 a = sh.2.2 a ∧ N1 a = N a := fun a ha => by rw [e1, e2]; exact ⟨up_ne ha, up_ne ha, up_ne ha, up_ne ha⟩
    have a2 : sh1.1 (b + (0 + 1)) = (12, cap (0 + 1)) := by rw [e1]; exact up_eq _ _ _
    have a3 : sh1.2.1 (b + (0 + 1)) = fun _ => none := by rw [e1]; exact up_eq _ _ _
    have hne : ¬ L = b + (0 + 1) := by unfold LSB at hb; omega
    have hx0 : xs.length = 0 := hfull
    have gr := hL.grown (sh1 := sh1) (N1 := N1) hb hk hRF a2 (fun j hj => by omega) (fun j y hy => by rw [a3] at hy; cases hy) a1
    rw [← e1, ← e2, hq, ← (a1 L hne).2.2.1]
    refine j_dup_x1 C dJx4a65c_grow_92f84_55 rfl rfl ?_
    refine j_putR (j := b + (0 + 1)) (i := L) C fl_Jx4a65c_9 dJx4a65c_grow_92f84_56 (by rw [(a1 L hne).1]; exact hL.1.1) rfl rfl rfl rfl ?_
    exact j_aret (i := b + (0 + 1)) C dJx4a65c_grow_92f84_59 (Or.inr ⟨_, rfl⟩) ⟨rfl, gr⟩
  · have hA := hL.2.2.1 hk0
    have hc10 := cap_s k (by omega) hk0
    refine j_aload_n C dJx4a65c_grow_92f84_0 rfl ?_
    refine j_getR (j := (b + k)) C fl_Jx4a65c_9 dJx4a65c_grow_92f84_1 (hL.1.1) rfl (hL.1.2.2.1) ?_
    refine j_alen C (hA) (by decide) dJx4a65c_grow_92f84_4 ?_
    refine j_istore_n C dJx4a65c_grow_92f84_5 (by decide) rfl ?_
    refine j_iload_n C dJx4a65c_grow_92f84_6 rfl ?_
    refine j_if_gt (tgt := 20) C dJx4a65c_grow_92f84_7 (by decide) (fun _ => ?_) (fun h7 => absurd (show (0 : Int32) < nI (cap k) from nI_lt (a := 0) (by omega) (by omega)) h7)
    refine j_iload_n C dJx4a65c_grow_92f84_20 rfl ?_
    refine j_iload_n C dJx4a65c_grow_92f84_21 rfl ?_
    refine j_iload_n C dJx4a65c_grow_92f84_22 rfl ?_
    refine j_isub C dJx4a65c_grow_92f84_23 ?_
    refine j_iload_n C dJx4a65c_grow_92f84_24 rfl ?_
    refine j_iconst C dJx4a65c_grow_92f84_25 (v := 1) (by decide) ?_
    refine j_ishr C dJx4a65c_grow_92f84_26 ?_
    rw [show nI (cap k + 1) - nI (cap k) = nI 1 by rw [nI_sub (by omega)]; congr 1; omega, cap_shr k (by omega)]
    refine j_callS3I C ml_Jx4a65c_73 dJx4a65c_grow_92f84_27 (cJ_newLength hg (by omega) ⟨by omega, by omega⟩ (by omega)) ⟨Nat.le_of_ble_eq_true rfl, Nat.le_of_ble_eq_true rfl⟩ (Nat.le_of_ble_eq_true rfl) ⟨rfl, rfl⟩ ⟨Nat.zero_le _, Nat.zero_le _⟩ ?_
    rw [show cap k + (if 1 < cap k / 2 then cap k / 2 else 1) = cap (k + 1) by rw [if_pos (by omega), cap_up k hk hk0]]
    refine j_istore_n C dJx4a65c_grow_92f84_30 (by decide) rfl ?_
    refine j_aload_n C dJx4a65c_grow_92f84_31 rfl ?_
    refine j_aload_n C dJx4a65c_grow_92f84_32 rfl ?_
    refine j_getR (j := (b + k)) C fl_Jx4a65c_9 dJx4a65c_grow_92f84_33 (hL.1.1) rfl (hL.1.2.2.1) ?_
    refine j_iload_n C dJx4a65c_grow_92f84_36 rfl ?_
    refine j_callS2Rg C ml_Jx4a65c_66 dJx4a65c_grow_92f84_37 (cJ_copy2 hg hX hX2 (E' := b + (k + 1)) (ci := ci) hA (by rw [cap_up k hk hk0]; omega) (by omega) (Nat.lt_trans (by decide) hfr) (hRF.no hfr) hci (fun j hj y hy => ?_)) ⟨Nat.le_of_ble_eq_true rfl, Nat.le_of_ble_eq_true rfl⟩ (Nat.le_of_ble_eq_true rfl) ⟨rfl, Nat.zero_add _⟩ ⟨Nat.le_of_ble_eq_true rfl, Nat.le_refl _⟩ (fun r sh1 N1 hq => ?_)
    · rw [hL.2.2.2.1 j (by omega)] at hy
      cases hy
      rw [gD_lt (by omega)]
      exact hel _ (List.getElem_mem _)
    obtain ⟨e1, c1, c2, c3, c4⟩ := hq
    subst e1
    have hne : ¬ L = b + (k + 1) := by unfold LSB at hb; omega
    have gr := hL.grown (sh1 := sh1) (N1 := N1) hb hk hRF c1 (fun j hj => c2 j (by omega)) c3 c4
    rw [← (c4 L hne).2.2.1]
    show J _ _ _ _ _ _ _ _ _ _ _ _ _ _ _ _ _ _ _ (.ref (sh1.2.2 (b + (k + 1))) :: _)
    refine j_dup_x1 C dJx4a65c_grow_92f84_40 rfl rfl ?_
    refine j_putR (j := b + (k + 1)) (i := L) C fl_Jx4a65c_9 dJx4a65c_grow_92f84_41 (by rw [(c4 L hne).1]; exact hL.1.1) rfl rfl rfl rfl ?_
    exact j_aret (i := b + (k + 1)) C dJx4a65c_grow_92f84_44 (Or.inr ⟨_, rfl⟩) ⟨rfl, gr⟩

theorem cJ_grow0 {l : Launch} {g : WGp} (hg : GOK g) {sh : WSh} {N : WNm} {o : Nat → Nat} (hX : HX g o) (hX2 : HX2 g) {L b k ci : Nat} {xs : List Nat} (hL : LST sh N (o 2) L b k xs) (hb : LSB (o 2) L b) (hRF : RF sh) (hci : ∀ U H, g.X U H → CO ci U) (hel : ∀ x ∈ xs, (sh.1 x).1 = ci) (hk : k < 10) (hfull : xs.length = cap k) : CT l g yJx4a65c_grow_d5877 cJx4a65c_grow_d5877 1 (some (.array (.object "java/lang/Object"))) (RM 5 1 (cap (k + 1))) [.ref (sh.2.2 L)] sh N (QR g (fun r sh1 N1 => r = some (b + (k + 1)) ∧ LST sh1 N1 (o 2) L b (k + 1) xs ∧ FRX sh N L b sh1 N1 ∧ RF sh1)) := by
  refine ent hg (by decide +kernel) (Nat.le_of_ble_eq_true rfl) ?_
  intro p e s m args below meth c C hname
  refine j_aload_n C dJx4a65c_grow_d5877_0 rfl ?_
  refine j_aload_n C dJx4a65c_grow_d5877_1 rfl ?_
  refine j_getI C fl_Jx4a65c_48 dJx4a65c_grow_d5877_2 (hL.1.1) rfl ?_
  refine j_iconst C dJx4a65c_grow_d5877_5 (v := 1) (by decide) ?_
  refine j_iadd C dJx4a65c_grow_d5877_6 ?_
  rw [hL.1.2.2.2.1, hfull, show nI (cap k) + 1 = nI (cap k + 1) from (nI_succ _).symm]
  refine j_callV1Rg C ml_Jx4a65c_69 dJx4a65c_grow_d5877_7 (cJ_growI hg hX hX2 hL hb hRF hci hel hk hfull) ⟨by rw [hL.1.1]; decide, by rw [hL.1.1]; rfl⟩ ⟨Nat.le_of_ble_eq_true rfl, Nat.le_of_ble_eq_true rfl⟩ (Nat.le_of_ble_eq_true rfl) ⟨rfl, Nat.zero_add _⟩ ⟨Nat.le_of_ble_eq_true rfl, Nat.le_refl _⟩ (fun r sh1 N1 hq => ?_)
  obtain ⟨e1, hq⟩ := hq
  subst e1
  exact j_aret (i := b + (k + 1)) C dJx4a65c_grow_d5877_10 (Or.inr ⟨_, rfl⟩) ⟨rfl, hq⟩

def kUp (k n : Nat) : Nat := if n = cap k then k + 1 else k
def sUp (k n : Nat) : Nat := if n = cap k then cap (k + 1) else 0
/-- an element is put at a free place of the row, and the size is set -/
theorem LST.put {sh : WSh} {N : WNm} {o2 L b k x ci : Nat} {xs : List Nat} (h : LST sh N o2 L b k xs) (hb : LSB o2 L b) (hlt : xs.length < cap k) (hx : (sh.1 x).1 = ci) (h9 : ci < 9) (hRF : RF sh) :
    LST (sh.1, u2 sh.2.1 (b + k) xs.length (some x), sh.2.2) (u2 N L 2 (nI (xs.length + 1))) o2 L b k (xs ++ [x]) ∧ FRX sh N L b (sh.1, u2 sh.2.1 (b + k) xs.length (some x), sh.2.2) (u2 N L 2 (nI (xs.length + 1))) ∧ RF (sh.1, u2 sh.2.1 (b + k) xs.length (some x), sh.2.2) := by
  obtain ⟨⟨a1, a2, a3, a4, a5⟩, a6, a7, a8, a9⟩ := h
  have hl : ¬ L = b + k := by unfold LSB at hb; omega
  refine ⟨⟨⟨a1, a2, ?_, ?_, ?_⟩, a6, a7, fun j hj => ?_, a9⟩, ⟨fun i hi => ⟨rfl, rfl⟩, fun i hi hL => ⟨u2_row (by omega), u2_row hL⟩⟩, fun a i j hj => ?_⟩
  · show u2 sh.2.1 (b + k) xs.length (some x) L 1 = _
    rw [u2_ne (fun z => hl z.1)]; exact a3
  · rw [u2_eq, List.length_append]; rfl
  · rw [List.length_append]; show xs.length + 1 ≤ _; omega
  · show u2 sh.2.1 (b + k) xs.length (some x) (b + k) j = _
    rw [List.length_append] at hj
    replace hj : j < xs.length + 1 := hj
    by_cases e : j = xs.length
    · subst e; rw [u2_eq, gD_ar (Nat.le_refl _), Nat.sub_self]; rfl
    · rw [u2_ne (fun z => e z.2), a8 j (by omega), gD_al (by omega)]
  · replace hj : u2 sh.2.1 (b + k) xs.length (some x) a i = some j := hj
    by_cases e : a = b + k ∧ i = xs.length
    · rw [e.1, e.2, u2_eq] at hj
      cases hj
      show (sh.1 x).1 ≤ 13
      omega
    · rw [u2_ne e] at hj
      exact hRF _ _ _ hj
/-- the count of changes stands beside -/
theorem LST.mod {sh : WSh} {N : WNm} {o2 L b k : Nat} {xs : List Nat} (h : LST sh N o2 L b k xs) (v : Int32) : LST sh (u2 N L 0 v) o2 L b k xs := by
  obtain ⟨⟨a1, a2, a3, a4, a5⟩, a6⟩ := h
  exact ⟨⟨a1, a2, a3, by rw [u2_ne (by omega)]; exact a4, a5⟩, a6⟩
theorem FRX.mod (sh : WSh) (N : WNm) (L b : Nat) (v : Int32) : FRX sh N L b sh (u2 N L 0 v) := ⟨fun _ _ => ⟨rfl, rfl⟩, fun _ _ hl => ⟨rfl, u2_row hl⟩⟩

section Rows
variable {p : Program} {l : Launch} {e : Env} {R : Room} {s : State} {m : MethodId} {args : Array Value} {below : List Frame} {meth : Method} {c : Code} {Q : State → Prop} {g : WGp} {nL : Nat} {own : String} {cc : ByteArray} {ret : Option FieldType}
variable {sh : WSh} {N : WNm} {cells slots pc : Nat} {lv : List (Option Value)} {st : List Value}
theorem j_llen (C : Cx p s m args meth c g nL own cc ret) {o : Nat → Nat} (hX : HX g o) {L b k : Nat} {xs : List Nat} (hL : LST sh N (o 2) L b k xs) (hd : decode cc pc = .ok (.arraylength, 1)) (kk : J p l e R s m args below meth c Q g nL sh N cells slots (pc + 1) lv (.int (nI (cap k)) :: st)) : J p l e R s m args below meth c Q g nL sh N cells slots pc lv (.ref (sh.2.2 (b + k)) :: st) := by
  rcases Nat.eq_zero_or_pos k with hk0 | hk0
  · subst hk0
    rw [show sh.2.2 (b + 0) = o 2 from hL.2.1 rfl]
    exact j_tlen C (hX _ _ C.2.2.2.2.2.1.2.1).2.1.2 hd kk
  · exact j_alen C (hL.2.2.1 hk0) (by decide) hd kk
end Rows

theorem cJ_add3 {l : Launch} {g : WGp} (hg : GOK g) {sh : WSh} {N : WNm} {o : Nat → Nat} (hX : HX g o) (hX2 : HX2 g) {L b k ci : Nat} {xs : List Nat} (hL : LST sh N (o 2) L b k xs) (hb : LSB (o 2) L b) (hRF : RF sh) (hci : ∀ U H, g.X U H → CO ci U) (hel : ∀ x ∈ xs, (sh.1 x).1 = ci) (hk : xs.length < 366) {x : Nat} (hx : (sh.1 x).1 = ci) (hxn : ¬ (b < x ∧ x ≤ b + 10)) : CT l g yJx4a65c_add_72be8 cJx4a65c_add_72be8 4 none (RM 6 (kUp k xs.length - k) (sUp k xs.length)) [.ref (sh.2.2 L), .ref (sh.2.2 x), .ref (sh.2.2 (b + k)), .int (nI xs.length)] sh N (QV g (fun sh1 N1 => LST sh1 N1 (o 2) L b (kUp k xs.length) (xs ++ [x]) ∧ FRX sh N L b sh1 N1 ∧ RF sh1)) := by
  refine ent hg (by decide +kernel) (Nat.le_of_ble_eq_true rfl) ?_
  intro p e s m args below meth c C hname
  have hcl := cap_le k (by have := hL.1.2.1; omega)
  have hco := hci _ _ C.2.2.2.2.2.1.2.1
  have hle := hL.1.2.2.2.2
  have hLb : ¬ (b < L ∧ L ≤ b + 10) := by unfold LSB at hb; omega
  by_cases hfull : xs.length = cap k
  · have hk10 : k < 10 := by
      have h1 := hL.1.2.1
      rcases Nat.lt_or_ge k 10 with h | h
      · exact h
      · obtain rfl : k = 10 := by omega
        have : cap 10 = 366 := by decide
        omega
    have ek : kUp k xs.length = k + 1 := if_pos hfull
    have es : sUp k xs.length = cap (k + 1) := if_pos hfull
    rw [ek, es, show k + 1 - k = 1 by omega]
    have hcc : cap k < cap (k + 1) := by
      rcases Nat.eq_zero_or_pos k with e | e
      · subst e; decide
      · rw [cap_up k hk10 e]; have := cap_s k (by omega) e; omega
    have hcl1 := cap_le (k + 1) (by omega)
    refine j_iload_n C dJx4a65c_add_72be8_0 rfl ?_
    refine j_aload_n C dJx4a65c_add_72be8_1 rfl ?_
    refine j_llen C hX hL dJx4a65c_add_72be8_2 ?_
    refine j_icmp_ne (tgt := 11) C dJx4a65c_add_72be8_3 (by decide) (fun h3 => absurd (by rw [hfull]) h3) (fun _ => ?_)
    refine j_aload_n C dJx4a65c_add_72be8_6 rfl ?_
    refine j_callV0Rg C ml_Jx4a65c_129 dJx4a65c_add_72be8_7 (cJ_grow0 hg hX hX2 hL hb hRF hci hel hk10 hfull) ⟨by rw [hL.1.1]; decide, by rw [hL.1.1]; rfl⟩ ⟨Nat.le_of_ble_eq_true rfl, Nat.le_of_ble_eq_true rfl⟩ (Nat.le_of_ble_eq_true rfl) ⟨rfl, Nat.zero_add _⟩ ⟨Nat.le_of_ble_eq_true rfl, Nat.le_refl _⟩ (fun r sh1 N1 hq => ?_)
    obtain ⟨e1, hL1, hF1, hR1⟩ := hq
    subst e1
    have hA1 := hL1.2.2.1 (by omega)
    have hx1 : (sh1.1 x).1 = ci := by rw [(hF1.1 x hxn).1]; exact hx
    rw [← (hF1.1 L hLb).2, ← (hF1.1 x hxn).2]
    show J _ _ _ _ _ _ _ _ _ _ _ _ _ _ _ _ _ _ _ (.ref (sh1.2.2 (b + (k + 1))) :: _)
    refine j_astore_n C dJx4a65c_add_72be8_10 (by decide) rfl ?_
    refine j_aload_n C dJx4a65c_add_72be8_11 rfl ?_
    refine j_iload_n C dJx4a65c_add_72be8_12 rfl ?_
    refine j_aload_n C dJx4a65c_add_72be8_13 rfl ?_
    refine j_aast (i := b + (k + 1)) (j := x) C hA1 (by omega) (by omega) hx1 hco dJx4a65c_add_72be8_14 ?_
    refine j_aload_n C dJx4a65c_add_72be8_15 rfl ?_
    refine j_iload_n C dJx4a65c_add_72be8_16 rfl ?_
    refine j_iconst C dJx4a65c_add_72be8_17 (v := 1) (by decide) ?_
    refine j_iadd C dJx4a65c_add_72be8_18 ?_
    rw [show nI xs.length + 1 = nI (xs.length + 1) from (nI_succ _).symm]
    refine j_putI C fl_Jx4a65c_48 dJx4a65c_add_72be8_19 (hL1.1.1) rfl rfl rfl rfl ?_
    have z := hL1.put (x := x) hb (by omega) hx1 hco.1 hR1
    exact j_vret C dJx4a65c_add_72be8_22 ⟨z.1, hF1.trans z.2.1, z.2.2⟩
  · have ek : kUp k xs.length = k := if_neg hfull
    have es : sUp k xs.length = 0 := if_neg hfull
    rw [ek, es, show k - k = 0 by omega]
    have hk0 : 0 < k := by
      rcases Nat.eq_zero_or_pos k with e | e
      · exfalso; subst e; have : cap 0 = 0 := rfl; omega
      · exact e
    have hA := hL.2.2.1 hk0
    refine j_iload_n C dJx4a65c_add_72be8_0 rfl ?_
    refine j_aload_n C dJx4a65c_add_72be8_1 rfl ?_
    refine j_llen C hX hL dJx4a65c_add_72be8_2 ?_
    refine j_icmp_ne (tgt := 11) C dJx4a65c_add_72be8_3 (by decide) (fun _ => ?_) (fun h3 => absurd (fun z => hfull (by have z1 := congrArg (fun v : Int32 => v.toNatClampNeg) z; simp only [nI_clamp (show xs.length < 2147483648 by omega), nI_clamp (show cap k < 2147483648 by omega)] at z1; exact z1)) h3)
    refine j_aload_n C dJx4a65c_add_72be8_11 rfl ?_
    refine j_iload_n C dJx4a65c_add_72be8_12 rfl ?_
    refine j_aload_n C dJx4a65c_add_72be8_13 rfl ?_
    refine j_aast (i := b + k) (j := x) C hA (by omega) (by omega) hx hco dJx4a65c_add_72be8_14 ?_
    refine j_aload_n C dJx4a65c_add_72be8_15 rfl ?_
    refine j_iload_n C dJx4a65c_add_72be8_16 rfl ?_
    refine j_iconst C dJx4a65c_add_72be8_17 (v := 1) (by decide) ?_
    refine j_iadd C dJx4a65c_add_72be8_18 ?_
    rw [show nI xs.length + 1 = nI (xs.length + 1) from (nI_succ _).symm]
    refine j_putI C fl_Jx4a65c_48 dJx4a65c_add_72be8_19 (hL.1.1) rfl rfl rfl rfl ?_
    exact j_vret C dJx4a65c_add_72be8_22 (hL.put (x := x) hb (by omega) hx hco.1 hRF)

theorem cJ_add {l : Launch} {g : WGp} (hg : GOK g) {sh : WSh} {N : WNm} {o : Nat → Nat} (hX : HX g o) (hX2 : HX2 g) {L b k ci : Nat} {xs : List Nat} (hL : LST sh N (o 2) L b k xs) (hb : LSB (o 2) L b) (hRF : RF sh) (hci : ∀ U H, g.X U H → CO ci U) (hel : ∀ x ∈ xs, (sh.1 x).1 = ci) (hk : xs.length < 366) {x : Nat} (hx : (sh.1 x).1 = ci) (hxn : ¬ (b < x ∧ x ≤ b + 10)) : CT l g yJx4a65c_add_9ea2d cJx4a65c_add_9ea2d 2 (some .boolean) (RM 7 (kUp k xs.length - k) (sUp k xs.length)) [.ref (sh.2.2 L), .ref (sh.2.2 x)] sh N (QI g (fun _ sh1 N1 => LST sh1 N1 (o 2) L b (kUp k xs.length) (xs ++ [x]) ∧ FRX sh N L b sh1 N1 ∧ RF sh1)) := by
  refine ent hg (by decide +kernel) (Nat.le_of_ble_eq_true rfl) ?_
  intro p e s m args below meth c C hname
  refine j_aload_n C dJx4a65c_add_9ea2d_0 rfl ?_
  refine j_dup C dJx4a65c_add_9ea2d_1 rfl ?_
  refine j_getI C fl_Jx4a65c_63 dJx4a65c_add_9ea2d_2 (hL.1.1) rfl ?_
  refine j_iconst C dJx4a65c_add_9ea2d_5 (v := 1) (by decide) ?_
  refine j_iadd C dJx4a65c_add_9ea2d_6 ?_
  refine j_putI C fl_Jx4a65c_63 dJx4a65c_add_9ea2d_7 (hL.1.1) rfl rfl rfl rfl ?_
  have hL0 := hL.mod (N L 0 + 1)
  obtain ⟨N0, eN0⟩ : ∃ N0, N0 = u2 N L 0 (N L 0 + 1) := ⟨_, rfl⟩
  have hF0 := FRX.mod sh N L b (N L 0 + 1)
  rw [← eN0] at hL0 hF0
  rw [← eN0]
  clear eN0
  refine j_aload_n C dJx4a65c_add_9ea2d_10 rfl ?_
  refine j_aload_n C dJx4a65c_add_9ea2d_11 rfl ?_
  refine j_aload_n C dJx4a65c_add_9ea2d_12 rfl ?_
  refine j_getR (j := (b + k)) C fl_Jx4a65c_9 dJx4a65c_add_9ea2d_13 (hL.1.1) rfl (hL.1.2.2.1) ?_
  refine j_aload_n C dJx4a65c_add_9ea2d_16 rfl ?_
  refine j_getI C fl_Jx4a65c_48 dJx4a65c_add_9ea2d_17 hL.1.1 rfl ?_
  rw [hL0.1.2.2.2.1]
  refine j_callV3Vg C ml_Jx4a65c_131 dJx4a65c_add_9ea2d_20 (cJ_add3 hg hX hX2 hL0 hb hRF hci hel hk hx hxn) ⟨by rw [hL.1.1]; decide, by rw [hL.1.1]; rfl⟩ ⟨Nat.le_of_ble_eq_true rfl, Nat.le_of_ble_eq_true rfl⟩ (Nat.le_of_ble_eq_true rfl) ⟨Nat.zero_add _, Nat.zero_add _⟩ ⟨Nat.le_refl _, Nat.le_refl _⟩ (fun sh1 N1 hq => ?_)
  refine j_iconst C dJx4a65c_add_9ea2d_23 (v := 1) (by decide) ?_
  exact j_iret C dJx4a65c_add_9ea2d_24 rfl ⟨hq.1, hF0.trans hq.2.1, hq.2.2⟩

theorem cJ_rca {l : Launch} {g : WGp} (hg : GOK g) {sh : WSh} {N : WNm} {L i n : Nat} (hL : (sh.1 L).1 = 8) (hn : N L 2 = nI n) (hi : i ≤ n) (hn2 : n < 2147483648) : CT l g yJx4a65c_rangeCheckForAdd_d00df cJx4a65c_rangeCheckForAdd_d00df 2 none (RM 1 0 0) [.ref (sh.2.2 L), .int (nI i)] sh N (QFv g sh N) := by
  refine ent hg (by decide +kernel) (Nat.le_of_ble_eq_true rfl) ?_
  intro p e s m args below meth c C hname
  refine j_iload_n C dJx4a65c_rangeCheckForAdd_d00df_0 rfl ?_
  refine j_aload_n C dJx4a65c_rangeCheckForAdd_d00df_1 rfl ?_
  refine j_getI C fl_Jx4a65c_48 dJx4a65c_rangeCheckForAdd_d00df_2 (hL) rfl ?_
  rw [hn]
  refine j_icmp_gt (tgt := 12) C dJx4a65c_rangeCheckForAdd_d00df_5 (by decide) (fun h5 => absurd h5 (nI_nlt hi (by omega))) (fun _ => ?_)
  refine j_iload_n C dJx4a65c_rangeCheckForAdd_d00df_8 rfl ?_
  refine j_if_ge (tgt := 25) C dJx4a65c_rangeCheckForAdd_d00df_9 (by decide) (fun _ => ?_) (fun h9 => absurd (nI_pos' (by omega)) h9)
  exact j_vret C dJx4a65c_rangeCheckForAdd_d00df_25 ⟨rfl, rfl⟩

theorem ins_getD {xs : List Nat} {i j x : Nat} (hi : i ≤ xs.length) (hj : j < xs.length + 1) : (xs.take i ++ x :: xs.drop i).getD j 0 = if j < i then xs.getD j 0 else (if j = i then x else xs.getD (j - 1) 0) := by
  have hl : (xs.take i).length = i := by rw [List.length_take]; omega
  by_cases h : j < i
  · rw [if_pos h, gD_al (by omega), List.getD_eq_getElem?_getD, List.getElem?_take, if_pos h, ← List.getD_eq_getElem?_getD]
  · rw [if_neg h, gD_ar (by omega), hl]
    by_cases e : j = i
    · rw [if_pos e, e, Nat.sub_self]; rfl
    · rw [if_neg e, show j - i = (j - i - 1) + 1 by omega, List.getD_cons_succ, List.getD_eq_getElem?_getD, List.getElem?_drop, ← List.getD_eq_getElem?_getD]
      congr 1
      omega
/-- an element is put between: the rest has moved up -/
theorem LST.ins {sh : WSh} {N : WNm} {o2 L b k x ci i : Nat} {xs : List Nat} (h : LST sh N o2 L b k xs) (hb : LSB o2 L b) (hlt : xs.length < cap k) (hi : i ≤ xs.length) (hx : (sh.1 x).1 = ci) (h9 : ci < 9) (hRF : RF sh) :
    LST (sh.1, u2 (va_up sh.2.1 (b + k) (va_cpy (sh.2.1 (b + k)) (sh.2.1 (b + k)) i (i + 1) (xs.length - i))) (b + k) i (some x), sh.2.2) (u2 N L 2 (nI (xs.length + 1))) o2 L b k (xs.take i ++ x :: xs.drop i) ∧ FRX sh N L b (sh.1, u2 (va_up sh.2.1 (b + k) (va_cpy (sh.2.1 (b + k)) (sh.2.1 (b + k)) i (i + 1) (xs.length - i))) (b + k) i (some x), sh.2.2) (u2 N L 2 (nI (xs.length + 1))) ∧ RF (sh.1, u2 (va_up sh.2.1 (b + k) (va_cpy (sh.2.1 (b + k)) (sh.2.1 (b + k)) i (i + 1) (xs.length - i))) (b + k) i (some x), sh.2.2) := by
  obtain ⟨⟨a1, a2, a3, a4, a5⟩, a6, a7, a8, a9⟩ := h
  have hl : ¬ L = b + k := by unfold LSB at hb; omega
  have hlen : (xs.take i ++ x :: xs.drop i).length = xs.length + 1 := by rw [List.length_append, List.length_cons, List.length_take, List.length_drop]; omega
  refine ⟨⟨⟨a1, a2, ?_, ?_, ?_⟩, a6, a7, fun j hj => ?_, a9⟩, ⟨fun i hi => ⟨rfl, rfl⟩, fun i hi hL => ⟨(u2_row (by omega)).trans (up_ne (by omega)), u2_row hL⟩⟩, fun a q j hj => ?_⟩
  · show u2 (va_up sh.2.1 (b + k) _) (b + k) i (some x) L 1 = _
    rw [u2_ne (fun z => hl z.1), up_ne hl]; exact a3
  · rw [u2_eq, hlen]
  · rw [hlen]; omega
  · show u2 (va_up sh.2.1 (b + k) _) (b + k) i (some x) (b + k) j = _
    rw [hlen] at hj
    rw [ins_getD hi hj]
    by_cases e : j = i
    · subst e; rw [u2_eq, if_neg (by omega), if_pos rfl]
    · rw [u2_ne (fun z => e z.2), up_eq, va_cpy]
      by_cases h : j < i
      · rw [if_neg (by omega), if_pos h]; exact a8 j (by omega)
      · rw [if_pos (by omega), if_neg h, if_neg e, show i + (j - (i + 1)) = j - 1 by omega]; exact a8 (j - 1) (by omega)
  · replace hj : u2 (va_up sh.2.1 (b + k) (va_cpy (sh.2.1 (b + k)) (sh.2.1 (b + k)) i (i + 1) (xs.length - i))) (b + k) i (some x) a q = some j := hj
    show (sh.1 j).1 ≤ 13
    by_cases e : a = b + k ∧ q = i
    · rw [e.1, e.2, u2_eq] at hj
      cases hj
      omega
    · rw [u2_ne e] at hj
      by_cases e2 : a = b + k
      · rw [e2, up_eq, va_cpy] at hj
        split at hj <;> exact hRF _ _ _ hj
      · rw [up_ne e2] at hj
        exact hRF _ _ _ hj

theorem cJ_addAt {l : Launch} {g : WGp} (hg : GOK g) {sh : WSh} {N : WNm} {o : Nat → Nat} (hX : HX g o) (hX2 : HX2 g) {L b k ci : Nat} {xs : List Nat} (hL : LST sh N (o 2) L b k xs) (hb : LSB (o 2) L b) (hRF : RF sh) (hci : ∀ U H, g.X U H → CO ci U) (hel : ∀ x ∈ xs, (sh.1 x).1 = ci) (hk : xs.length < 366) {x : Nat} (hx : (sh.1 x).1 = ci) (hxn : ¬ (b < x ∧ x ≤ b + 10)) {i : Nat} (hi : i ≤ xs.length) (hels : ∀ y ∈ xs, ¬ (b < y ∧ y ≤ b + 10)) : CT l g yJx4a65c_add_7a177 cJx4a65c_add_7a177 5 none (RM 6 (kUp k xs.length - k) (sUp k xs.length)) [.ref (sh.2.2 L), .int (nI i), .ref (sh.2.2 x)] sh N (QV g (fun sh1 N1 => LST sh1 N1 (o 2) L b (kUp k xs.length) (xs.take i ++ x :: xs.drop i) ∧ FRX sh N L b sh1 N1 ∧ RF sh1)) := by
  refine ent hg (by decide +kernel) (Nat.le_of_ble_eq_true rfl) ?_
  intro p e s m args below meth c C hname
  have hcl := cap_le k (by have := hL.1.2.1; omega)
  have hco := hci _ _ C.2.2.2.2.2.1.2.1
  have hle := hL.1.2.2.2.2
  have hLb : ¬ (b < L ∧ L ≤ b + 10) := by unfold LSB at hb; omega
  by_cases hfull : xs.length = cap k
  · have hk10 : k < 10 := by
      have h1 := hL.1.2.1
      rcases Nat.lt_or_ge k 10 with h | h
      · exact h
      · obtain rfl : k = 10 := by omega
        have : cap 10 = 366 := by decide
        omega
    have ek : kUp k xs.length = k + 1 := if_pos hfull
    have es : sUp k xs.length = cap (k + 1) := if_pos hfull
    rw [ek, es, show k + 1 - k = 1 by omega]
    have hcc : cap k < cap (k + 1) := by
      rcases Nat.eq_zero_or_pos k with e | e
      · subst e; decide
      · rw [cap_up k hk10 e]; have := cap_s k (by omega) e; omega
    have hcl1 := cap_le (k + 1) (by omega)
    refine j_aload_n C dJx4a65c_add_7a177_0 rfl ?_
    refine j_iload_n C dJx4a65c_add_7a177_1 rfl ?_
    refine j_callV1V C ml_Jx4a65c_135 dJx4a65c_add_7a177_2 (cJ_rca hg hL.1.1 hL.1.2.2.2.1 hi (by omega)) ⟨by rw [hL.1.1]; decide, by rw [hL.1.1]; rfl⟩ ⟨Nat.le_of_ble_eq_true rfl, Nat.le_of_ble_eq_true rfl⟩ (Nat.le_of_ble_eq_true rfl) ⟨rfl, rfl⟩ ⟨Nat.zero_le _, Nat.zero_le _⟩ ?_
    refine j_aload_n C dJx4a65c_add_7a177_5 rfl ?_
    refine j_dup C dJx4a65c_add_7a177_6 rfl ?_
    refine j_getI C fl_Jx4a65c_63 dJx4a65c_add_7a177_7 (hL.1.1) rfl ?_
    refine j_iconst C dJx4a65c_add_7a177_10 (v := 1) (by decide) ?_
    refine j_iadd C dJx4a65c_add_7a177_11 ?_
    refine j_putI C fl_Jx4a65c_63 dJx4a65c_add_7a177_12 (hL.1.1) rfl rfl rfl rfl ?_
    have hL0 := hL.mod (N L 0 + 1)
    obtain ⟨N0, eN0⟩ : ∃ N0, N0 = u2 N L 0 (N L 0 + 1) := ⟨_, rfl⟩
    have hF0 := FRX.mod sh N L b (N L 0 + 1)
    rw [← eN0] at hL0 hF0
    rw [← eN0]
    clear eN0
    refine j_aload_n C dJx4a65c_add_7a177_15 rfl ?_
    refine j_getI C fl_Jx4a65c_48 dJx4a65c_add_7a177_16 hL.1.1 rfl ?_
    rw [hL0.1.2.2.2.1]
    refine j_dup C dJx4a65c_add_7a177_19 rfl ?_
    refine j_istore_n C dJx4a65c_add_7a177_20 (by decide) rfl ?_
    refine j_aload_n C dJx4a65c_add_7a177_21 rfl ?_
    refine j_getR (j := (b + k)) C fl_Jx4a65c_9 dJx4a65c_add_7a177_22 (hL.1.1) rfl (hL.1.2.2.1) ?_
    refine j_dup C dJx4a65c_add_7a177_25 rfl ?_
    refine j_astore C dJx4a65c_add_7a177_26 (by decide) rfl ?_
    refine j_llen C hX hL0 dJx4a65c_add_7a177_28 ?_
    refine j_icmp_ne (tgt := 38) C dJx4a65c_add_7a177_29 (by decide) (fun h3 => absurd (by rw [hfull]) h3) (fun _ => ?_)
    refine j_aload_n C dJx4a65c_add_7a177_32 rfl ?_
    refine j_callV0Rg C ml_Jx4a65c_129 dJx4a65c_add_7a177_33 (cJ_grow0 hg hX hX2 hL0 hb hRF hci hel hk10 hfull) ⟨by rw [hL.1.1]; decide, by rw [hL.1.1]; rfl⟩ ⟨Nat.le_of_ble_eq_true rfl, Nat.le_of_ble_eq_true rfl⟩ (Nat.le_of_ble_eq_true rfl) ⟨rfl, Nat.zero_add _⟩ ⟨Nat.le_of_ble_eq_true rfl, Nat.le_refl _⟩ (fun r sh1 N1 hq => ?_)
    obtain ⟨e1, hL1, hF1, hR1⟩ := hq
    subst e1
    have hA1 := hL1.2.2.1 (by omega)
    have hx1 : (sh1.1 x).1 = ci := by rw [(hF1.1 x hxn).1]; exact hx
    have hel1 : ∀ y ∈ xs, (sh1.1 y).1 = ci := fun y hy => by
      rw [(hF1.1 y (hels y hy)).1]
      exact hel y hy
    rw [← (hF1.1 L hLb).2, ← (hF1.1 x hxn).2]
    show J _ _ _ _ _ _ _ _ _ _ _ _ _ _ _ _ _ _ _ (.ref (sh1.2.2 (b + (k + 1))) :: _)
    refine j_astore C dJx4a65c_add_7a177_36 (by decide) rfl ?_
    refine j_aload C dJx4a65c_add_7a177_38 rfl ?_
    refine j_iload_n C dJx4a65c_add_7a177_40 rfl ?_
    refine j_aload C dJx4a65c_add_7a177_41 rfl ?_
    refine j_iload_n C dJx4a65c_add_7a177_43 rfl ?_
    refine j_iconst C dJx4a65c_add_7a177_44 (v := 1) (by decide) ?_
    refine j_iadd C dJx4a65c_add_7a177_45 ?_
    refine j_iload_n C dJx4a65c_add_7a177_46 rfl ?_
    refine j_iload_n C dJx4a65c_add_7a177_47 rfl ?_
    refine j_isub C dJx4a65c_add_7a177_48 ?_
    rw [show nI xs.length - nI i = nI (xs.length - i) from nI_sub hi, show nI i + 1 = nI (i + 1) from (nI_succ _).symm]
    refine j_copyq (i0 := (b + (k + 1))) (i1 := (b + (k + 1))) (n0 := cap (k + 1)) (n1 := cap (k + 1)) (s0 := i) (d0 := i + 1) (k := xs.length - i) (ci := ci) C tb_acA tb_acN tb_acS tb_sysI hA1 hA1 (by omega) (by omega) (by omega) (by omega) hco (fun j hj y hy => ?_) (Nat.le_of_ble_eq_true rfl) (Nat.le_of_ble_eq_true rfl) dJx4a65c_add_7a177_49 ?_
    · rw [hL1.2.2.2.1 (i + j) (by omega)] at hy
      cases hy
      rw [gD_lt (by omega)]
      exact hel1 _ (List.getElem_mem _)
    refine j_aload C dJx4a65c_add_7a177_52 rfl ?_
    refine j_iload_n C dJx4a65c_add_7a177_54 rfl ?_
    refine j_aload_n C dJx4a65c_add_7a177_55 rfl ?_
    refine j_aast (i := (b + (k + 1))) (j := x) (n := cap (k + 1)) C hA1 (by omega) (by omega) hx1 hco dJx4a65c_add_7a177_56 ?_
    refine j_aload_n C dJx4a65c_add_7a177_57 rfl ?_
    refine j_iload_n C dJx4a65c_add_7a177_58 rfl ?_
    refine j_iconst C dJx4a65c_add_7a177_59 (v := 1) (by decide) ?_
    refine j_iadd C dJx4a65c_add_7a177_60 ?_
    rw [show nI xs.length + 1 = nI (xs.length + 1) from (nI_succ _).symm]
    refine j_putI C fl_Jx4a65c_48 dJx4a65c_add_7a177_61 (hL1.1.1) rfl rfl rfl rfl ?_
    have z := hL1.ins (x := x) (i := i) hb (by omega) hi hx1 hco.1 hR1
    exact j_vret C dJx4a65c_add_7a177_64 ⟨z.1, (hF0.trans hF1).trans z.2.1, z.2.2⟩
  · have ek : kUp k xs.length = k := if_neg hfull
    have es : sUp k xs.length = 0 := if_neg hfull
    rw [ek, es, show k - k = 0 by omega]
    have hk0 : 0 < k := by
      rcases Nat.eq_zero_or_pos k with e | e
      · exfalso; subst e; have : cap 0 = 0 := rfl; omega
      · exact e
    have hA := hL.2.2.1 hk0
    refine j_aload_n C dJx4a65c_add_7a177_0 rfl ?_
    refine j_iload_n C dJx4a65c_add_7a177_1 rfl ?_
    refine j_callV1V C ml_Jx4a65c_135 dJx4a65c_add_7a177_2 (cJ_rca hg hL.1.1 hL.1.2.2.2.1 hi (by omega)) ⟨by rw [hL.1.1]; decide, by rw [hL.1.1]; rfl⟩ ⟨Nat.le_of_ble_eq_true rfl, Nat.le_of_ble_eq_true rfl⟩ (Nat.le_of_ble_eq_true rfl) ⟨rfl, rfl⟩ ⟨Nat.zero_le _, Nat.zero_le _⟩ ?_
    refine j_aload_n C dJx4a65c_add_7a177_5 rfl ?_
    refine j_dup C dJx4a65c_add_7a177_6 rfl ?_
    refine j_getI C fl_Jx4a65c_63 dJx4a65c_add_7a177_7 (hL.1.1) rfl ?_
    refine j_iconst C dJx4a65c_add_7a177_10 (v := 1) (by decide) ?_
    refine j_iadd C dJx4a65c_add_7a177_11 ?_
    refine j_putI C fl_Jx4a65c_63 dJx4a65c_add_7a177_12 (hL.1.1) rfl rfl rfl rfl ?_
    have hL0 := hL.mod (N L 0 + 1)
    obtain ⟨N0, eN0⟩ : ∃ N0, N0 = u2 N L 0 (N L 0 + 1) := ⟨_, rfl⟩
    have hF0 := FRX.mod sh N L b (N L 0 + 1)
    rw [← eN0] at hL0 hF0
    rw [← eN0]
    clear eN0
    refine j_aload_n C dJx4a65c_add_7a177_15 rfl ?_
    refine j_getI C fl_Jx4a65c_48 dJx4a65c_add_7a177_16 hL.1.1 rfl ?_
    rw [hL0.1.2.2.2.1]
    refine j_dup C dJx4a65c_add_7a177_19 rfl ?_
    refine j_istore_n C dJx4a65c_add_7a177_20 (by decide) rfl ?_
    refine j_aload_n C dJx4a65c_add_7a177_21 rfl ?_
    refine j_getR (j := (b + k)) C fl_Jx4a65c_9 dJx4a65c_add_7a177_22 (hL.1.1) rfl (hL.1.2.2.1) ?_
    refine j_dup C dJx4a65c_add_7a177_25 rfl ?_
    refine j_astore C dJx4a65c_add_7a177_26 (by decide) rfl ?_
    refine j_llen C hX hL0 dJx4a65c_add_7a177_28 ?_
    refine j_icmp_ne (tgt := 38) C dJx4a65c_add_7a177_29 (by decide) (fun _ => ?_) (fun h3 => absurd (fun z => hfull (by have z1 := congrArg (fun v : Int32 => v.toNatClampNeg) z; simp only [nI_clamp (show xs.length < 2147483648 by omega), nI_clamp (show cap k < 2147483648 by omega)] at z1; exact z1)) h3)
    refine j_aload C dJx4a65c_add_7a177_38 rfl ?_
    refine j_iload_n C dJx4a65c_add_7a177_40 rfl ?_
    refine j_aload C dJx4a65c_add_7a177_41 rfl ?_
    refine j_iload_n C dJx4a65c_add_7a177_43 rfl ?_
    refine j_iconst C dJx4a65c_add_7a177_44 (v := 1) (by decide) ?_
    refine j_iadd C dJx4a65c_add_7a177_45 ?_
    refine j_iload_n C dJx4a65c_add_7a177_46 rfl ?_
    refine j_iload_n C dJx4a65c_add_7a177_47 rfl ?_
    refine j_isub C dJx4a65c_add_7a177_48 ?_
    rw [show nI xs.length - nI i = nI (xs.length - i) from nI_sub hi, show nI i + 1 = nI (i + 1) from (nI_succ _).symm]
    refine j_copyq (i0 := (b + k)) (i1 := (b + k)) (n0 := cap k) (n1 := cap k) (s0 := i) (d0 := i + 1) (k := xs.length - i) (ci := ci) C tb_acA tb_acN tb_acS tb_sysI hA hA (by omega) (by omega) (by omega) (by omega) hco (fun j hj y hy => ?_) (Nat.le_of_ble_eq_true rfl) (Nat.le_of_ble_eq_true rfl) dJx4a65c_add_7a177_49 ?_
    · rw [hL0.2.2.2.1 (i + j) (by omega)] at hy
      cases hy
      rw [gD_lt (by omega)]
      exact hel _ (List.getElem_mem _)
    refine j_aload C dJx4a65c_add_7a177_52 rfl ?_
    refine j_iload_n C dJx4a65c_add_7a177_54 rfl ?_
    refine j_aload_n C dJx4a65c_add_7a177_55 rfl ?_
    refine j_aast (i := (b + k)) (j := x) (n := cap k) C hA (by omega) (by omega) hx hco dJx4a65c_add_7a177_56 ?_
    refine j_aload_n C dJx4a65c_add_7a177_57 rfl ?_
    refine j_iload_n C dJx4a65c_add_7a177_58 rfl ?_
    refine j_iconst C dJx4a65c_add_7a177_59 (v := 1) (by decide) ?_
    refine j_iadd C dJx4a65c_add_7a177_60 ?_
    rw [show nI xs.length + 1 = nI (xs.length + 1) from (nI_succ _).symm]
    refine j_putI C fl_Jx4a65c_48 dJx4a65c_add_7a177_61 (hL.1.1) rfl rfl rfl rfl ?_
    have z := hL0.ins (x := x) (i := i) hb (by omega) hi hx hco.1 hRF
    exact j_vret C dJx4a65c_add_7a177_64 ⟨z.1, hF0.trans z.2.1, z.2.2⟩

/-- the first j places of the row are emptied -/
def clr (f : Nat → Nat → Option Nat) (E j : Nat) : Nat → Nat → Option Nat := fun a q => if a = E ∧ q < j then none else f a q
theorem clr_0 (f : Nat → Nat → Option Nat) (E : Nat) : clr f E 0 = f := by funext a q; simp [clr]
theorem clr_s (f : Nat → Nat → Option Nat) (E j : Nat) : u2 (clr f E j) E j none = clr f E (j + 1) := by
  funext a q
  by_cases ha : a = E
  · subst ha
    by_cases hb : q = j
    · subst hb; simp [u2, clr]
    · have : (q < j + 1) = (q < j) := by simp only [eq_iff_iff]; omega
      simp [u2, clr, hb, this]
  · simp [u2, clr, ha]
theorem LST.clear {sh : WSh} {N : WNm} {o2 L b k n : Nat} {xs : List Nat} (h : LST sh N o2 L b k xs) (hb : LSB o2 L b) (hRF : RF sh) :
    LST (sh.1, clr sh.2.1 (b + k) n, sh.2.2) (u2 N L 2 0) o2 L b k [] ∧ FRX sh N L b (sh.1, clr sh.2.1 (b + k) n, sh.2.2) (u2 N L 2 0) ∧ RF (sh.1, clr sh.2.1 (b + k) n, sh.2.2) := by
  obtain ⟨⟨a1, a2, a3, a4, a5⟩, a6, a7, a8, a9⟩ := h
  have hl : ¬ L = b + k := by unfold LSB at hb; omega
  refine ⟨⟨⟨a1, a2, ?_, u2_eq _ _ _ _, Nat.zero_le _⟩, a6, a7, fun j hj => absurd hj (Nat.not_lt_zero _), a9⟩, ⟨fun i hi => ⟨rfl, rfl⟩, fun i hi hL => ⟨?_, u2_row hL⟩⟩, fun a i j hj => ?_⟩
  · show clr sh.2.1 (b + k) n L 1 = _
    simp [clr, hl]; exact a3
  · show clr sh.2.1 (b + k) n i = _
    have : ¬ i = b + k := by omega
    funext q; simp [clr, this]
  · replace hj : clr sh.2.1 (b + k) n a i = some j := hj
    unfold clr at hj
    split at hj
    · cases hj
    · exact hRF _ _ _ hj

theorem cJ_clear {l : Launch} {g : WGp} (hg : GOK g) {sh : WSh} {N : WNm} {o : Nat → Nat} {L b k : Nat} {xs : List Nat} (hL : LST sh N (o 2) L b k xs) (hb : LSB (o 2) L b) (hRF : RF sh) : CT l g yJx4a65c_clear_da8c8 cJx4a65c_clear_da8c8 4 none (RM 1 0 0) [.ref (sh.2.2 L)] sh N (QV g (fun sh1 N1 => LST sh1 N1 (o 2) L b k [] ∧ FRX sh N L b sh1 N1 ∧ RF sh1)) := by
  refine ent hg (by decide +kernel) (Nat.le_of_ble_eq_true rfl) ?_
  intro p e s m args below meth c C hname
  have hcl := cap_le k (by have := hL.1.2.1; omega)
  have hle := hL.1.2.2.2.2
  refine j_aload_n C dJx4a65c_clear_da8c8_0 rfl ?_
  refine j_dup C dJx4a65c_clear_da8c8_1 rfl ?_
  refine j_getI C fl_Jx4a65c_63 dJx4a65c_clear_da8c8_2 (hL.1.1) rfl ?_
  refine j_iconst C dJx4a65c_clear_da8c8_5 (v := 1) (by decide) ?_
  refine j_iadd C dJx4a65c_clear_da8c8_6 ?_
  refine j_putI C fl_Jx4a65c_63 dJx4a65c_clear_da8c8_7 (hL.1.1) rfl rfl rfl rfl ?_
  have hL0 := hL.mod (N L 0 + 1)
  obtain ⟨N0, eN0⟩ : ∃ N0, N0 = u2 N L 0 (N L 0 + 1) := ⟨_, rfl⟩
  have hF0 := FRX.mod sh N L b (N L 0 + 1)
  rw [← eN0] at hL0 hF0
  rw [← eN0]
  clear eN0
  refine j_aload_n C dJx4a65c_clear_da8c8_10 rfl ?_
  refine j_getR (j := (b + k)) C fl_Jx4a65c_9 dJx4a65c_clear_da8c8_11 (hL.1.1) rfl (hL.1.2.2.1) ?_
  refine j_astore_n C dJx4a65c_clear_da8c8_14 (by decide) rfl ?_
  refine j_aload_n C dJx4a65c_clear_da8c8_15 rfl ?_
  refine j_getI C fl_Jx4a65c_48 dJx4a65c_clear_da8c8_16 hL.1.1 rfl ?_
  rw [hL0.1.2.2.2.1]
  refine j_istore_n C dJx4a65c_clear_da8c8_19 (by decide) rfl ?_
  refine j_aload_n C dJx4a65c_clear_da8c8_20 rfl ?_
  refine j_iconst C dJx4a65c_clear_da8c8_21 (v := 0) (by decide) ?_
  refine j_dup_x1 C dJx4a65c_clear_da8c8_22 rfl rfl ?_
  refine j_putI C fl_Jx4a65c_48 dJx4a65c_clear_da8c8_23 (hL.1.1) rfl rfl rfl rfl ?_
  refine j_istore_n C dJx4a65c_clear_da8c8_26 (by decide) rfl ?_
  suffices key : ∀ j, j ≤ xs.length → J p l e (RM 1 0 0) s m args below meth c (MQ below (QV g (fun sh1 N1 => LST sh1 N1 (o 2) L b k [] ∧ FRX sh N L b sh1 N1 ∧ RF sh1)) args s 0 0 g.A) g 4 (sh.1, clr sh.2.1 (b + k) j, sh.2.2) (u2 N0 L 2 0) 0 0 27 [some (.ref (sh.2.2 L)), some (.ref (sh.2.2 (b + k))), some (.int (nI xs.length)), some (.int (nI j))] [] from by have z := key 0 (Nat.zero_le _); rw [clr_0] at z; exact z
  refine up_ind (n := xs.length) ?_
  intro j hj ih
  refine j_iload_n C dJx4a65c_clear_da8c8_27 rfl ?_
  refine j_iload_n C dJx4a65c_clear_da8c8_28 rfl ?_
  refine j_icmp_ge (tgt := 42) C dJx4a65c_clear_da8c8_29 (by decide) (fun h29 => ?_) (fun h29 => ?_)
  · skip
    have z := hL0.clear (n := j) hb hRF
    exact j_vret C dJx4a65c_clear_da8c8_42 ⟨z.1, hF0.trans z.2.1, z.2.2⟩
  · skip
    rw [n_nle (by omega) (by omega)] at h29
    refine j_aload_n C dJx4a65c_clear_da8c8_32 rfl ?_
    refine j_iload_n C dJx4a65c_clear_da8c8_33 rfl ?_
    refine j_anull C dJx4a65c_clear_da8c8_34 ?_
    have hk0 : 0 < k := by
      rcases Nat.eq_zero_or_pos k with e | e
      · exfalso
        subst e
        have : cap 0 = 0 := rfl
        omega
      · exact e
    refine j_aastN (i := b + k) (n := cap k) C (hL.2.2.1 hk0) (by omega) (by omega) dJx4a65c_clear_da8c8_35 ?_
    show J _ _ _ _ _ _ _ _ _ _ _ _ _ (sh.1, u2 (clr sh.2.1 (b + k) j) (b + k) j none, sh.2.2) _ _ _ _ _ _
    rw [clr_s]
    refine j_iincN C dJx4a65c_clear_da8c8_36 rfl (by decide) rfl ?_
    refine j_goto (tgt := 27) C dJx4a65c_clear_da8c8_39 (by decide) ?_
    exact ih (by omega)
