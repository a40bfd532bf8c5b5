/-! ===== THE CLASS: bale ===== -/
/-- what every call leaves as it was: the reference's rows, and where the object lies -/
def FRL (sh : WSh) (N : WNm) (sh1 : WSh) (N1 : WNm) : Prop := (∀ i, i ≤ 55 → sh1.1 i = sh.1 i ∧ sh1.2.1 i = sh.2.1 i ∧ sh1.2.2 i = sh.2.2 i ∧ N1 i = N i) ∧ sh1.2.2 100 = sh.2.2 100
theorem FRK.l {sh sh1 : WSh} {N N1 : WNm} (h : FRK sh N sh1 N1) : FRL sh N sh1 N1 := ⟨fun i hi => ⟨(h.1 i (by omega)).1, (h.2 i hi).1, (h.1 i (by omega)).2, (h.2 i hi).2⟩, (h.1 100 (by omega)).2⟩
theorem FRN.l {N N1 : WNm} (h : FRN N N1) (sh : WSh) : FRL sh N sh N1 := (h.k sh).l
/-- the class stands beside T -/
def XSt (o : Nat → Nat) (sh : WSh) (N T : WNm) : Prop := ∃ (nG nB nV kG kB kV nT : Nat) (ln : Nat → Nat) (k : Nat) (rl : List Nat), XH o sh N nG nB nV kG kB kV ln ∧ XN N T nG nB nV nT ln ∧ LST sh N (o 2) 108 480 k (bn rl) ∧ (∀ x ∈ rl, x < nB) ∧ T 0 9 = nI nG ∧ T 0 23 = nI nB ∧ T 0 38 = nI nV
theorem LST.keep {sh sh1 : WSh} {N N1 : WNm} {o2 L b k : Nat} {xs : List Nat} (h : LST sh N o2 L b k xs) (f : ∀ i, i = L ∨ (b ≤ i ∧ i ≤ b + 10) → sh1.1 i = sh.1 i ∧ sh1.2.1 i = sh.2.1 i ∧ sh1.2.2 i = sh.2.2 i ∧ N1 i = N i) : LST sh1 N1 o2 L b k xs := by
  obtain ⟨⟨a1, a2, a3, a4, a5⟩, a6, a7, a8, a9⟩ := h
  have fL := f L (Or.inl rfl)
  have fk := f (b + k) (Or.inr (by omega))
  have fb := f b (Or.inr (by omega))
  refine ⟨⟨by rw [fL.1]; exact a1, a2, by rw [fL.2.1]; exact a3, by rw [fL.2.2.2]; exact a4, a5⟩, fun e => by rw [fb.2.2.1]; exact a6 e, fun e => by rw [fk.1]; exact a7 e, fun j hj => by rw [fk.2.1]; exact a8 j hj, fun k' h1 h2 => by rw [(f (b + k') (Or.inr (by omega))).1]; exact a9 k' h1 h2⟩
/-- something is made, and comes into a list: all else is as it was -/
def SAME (sh : WSh) (N : WNm) (sh1 : WSh) (N1 : WNm) (P : Nat → Prop) : Prop := ∀ i, ¬ P i → sh1.1 i = sh.1 i ∧ sh1.2.1 i = sh.2.1 i ∧ sh1.2.2 i = sh.2.2 i ∧ N1 i = N i
theorem SAME.l {sh sh1 : WSh} {N N1 : WNm} {P : Nat → Prop} (h : SAME sh N sh1 N1 P) (hp : ∀ i, i ≤ 55 → ¬ P i) (h1 : ¬ P 100) : FRL sh N sh1 N1 := ⟨fun i hi => h i (hp i hi), (h 100 h1).2.2.1⟩
theorem RF.new {sh : WSh} (h : RF sh) {i q : Nat} {tl : Nat × Nat} (ht : tl.1 ≤ 13) : RF (shNew sh i tl q) := by
  intro a k j hj
  replace hj : va_up sh.2.1 i (fun _ => none) a k = some j := hj
  show (va_up sh.1 i tl j).1 ≤ 13
  by_cases e : a = i
  · rw [e, up_eq] at hj; cases hj
  · rw [up_ne e] at hj
    by_cases e2 : j = i
    · rw [e2, up_eq]; exact ht
    · rw [up_ne e2]; exact h a k j hj
theorem tabs_le2 : (∀ q ∈ xCls, q.1 < 200 ∧ 99 < q.1 ∧ ¬ (105 ≤ q.1 ∧ q.1 ≤ 108)) ∧ (∀ q ∈ xRef, q.1 < 200 ∧ 99 < q.1 ∧ ¬ (105 ≤ q.1 ∧ q.1 ≤ 108)) ∧ ∀ q ∈ xArr, q.1 < 200 ∧ 99 < q.1 ∧ ¬ (105 ≤ q.1 ∧ q.1 ≤ 108) := by decide
theorem XH.baleNew {o : Nat → Nat} {sh sh2 : WSh} {N N2 : WNm} {nG nB nV kG kB kV k2 : Nat} {ln : Nat → Nat} (h : XH o sh N nG nB nV kG kB kV ln) (hB : nB < 300) (f : SAME sh N sh2 N2 (fun i => i = 106 ∨ (440 ≤ i ∧ i ≤ 450) ∨ i = 2000 + nB)) (hL : LST sh2 N2 (o 2) 106 440 k2 (nl 2000 (nB + 1))) (hn : (sh2.1 (2000 + nB)).1 = 0) (hR : RF sh2) : XH o sh2 N2 nG (nB + 1) nV kG k2 kV ln := by
  obtain ⟨⟨a1, a2, a3⟩, ⟨l1, l2, l3, l4, l5, l6⟩, ⟨g1, g2, g3⟩, ⟨f1, f2, f3⟩, -⟩ := h
  obtain ⟨t1, t2, t3⟩ := tabs_le2
  refine ⟨⟨fun q hq => ?_, fun q hq => ?_, fun q hq => ?_⟩, ⟨l1.keep (fun i hi => f i (by omega)), hL, l3.keep (fun i hi => f i (by omega)), l4, by omega, l6⟩, ⟨fun a ha => ?_, fun b hb => ?_, fun v hv => ?_⟩, ⟨fun a h1 h2 => ?_, fun b h1 h2 => ?_, fun v h1 h2 => ?_⟩, hR⟩
  · have := t1 q hq; rw [(f q.1 (by omega)).1]; exact a1 q hq
  · have := t2 q hq; rw [(f q.1 (by omega)).2.1]; exact a2 q hq
  · have := t3 q hq; rw [(f q.1 (by omega)).1]; exact a3 q hq
  · rw [(f (1000 + a) (by omega)).1, (f (1100 + a) (by omega)).1, (f (1000 + a) (by omega)).2.1]; exact g1 a ha
  · by_cases e : b = nB
    · rw [e]; exact hn
    · rw [(f (2000 + b) (by omega)).1]; exact g2 b (by omega)
  · rw [(f (3000 + v) (by omega)).1, (f (3100 + v) (by omega)).1, (f (3000 + v) (by omega)).2.1]; exact g3 v hv
  · rw [(f (1000 + a) (by omega)).1, (f (1100 + a) (by omega)).1]; exact f1 a h1 h2
  · rw [(f (2000 + b) (by omega)).1]; exact f2 b (by omega) h2
  · rw [(f (3000 + v) (by omega)).1, (f (3100 + v) (by omega)).1]; exact f3 v h1 h2

theorem cX_isRoute {l : Launch} {g : WGp} (hg : GOK g) {sh : WSh} {N : WNm} {o : Nat → Nat} {nG nB nV kG kB kV : Nat} {ln : Nat → Nat} (X : XH o sh N nG nB nV kG kB kV ln) {nT nP dy : Nat} {T : WNm} (hN : XN N T nG nB nV nT ln) (hI : TI T nG nB nV nP dy) (x : Int32) : CT l g yX6_isRoute cX6_isRoute 2 (some .boolean) (RM 1 0 0) [.ref (sh.2.2 100), .int x] sh N (QF g sh N (b2 (0 ≤ x ∧ x / 100 < x - x / 100 * 100 ∧ x - x / 100 * 100 < T 0 5))) := by
  refine ent hg (by decide +kernel) (Nat.le_of_ble_eq_true rfl) ?_
  intro p e s m args below meth c C hname
  refine j_iload_n C dX6_isRoute_0 rfl ?_
  refine j_if_lt (tgt := 30) C dX6_isRoute_1 (by decide) (fun h1 => ?_) (fun h1 => ?_)
  · skip
    refine j_iconst C dX6_isRoute_30 (v := 0) (by decide) ?_
    refine j_iret C dX6_isRoute_31 rfl ⟨rfl, rfl, (b2_f (fun z => ?_)).symm⟩
    first | exact absurd z.1 (i_nle.mpr h1) | exact absurd z.2.1 (i_nlt.mpr h12) | exact absurd z.2.2 (i_nlt.mpr h23)
  · skip
    refine j_iload_n C dX6_isRoute_4 rfl ?_
    refine j_bipush C dX6_isRoute_5 (v := 100) (by decide) ?_
    refine j_idiv C dX6_isRoute_7 (by decide) ?_
    refine j_iload_n C dX6_isRoute_8 rfl ?_
    refine j_bipush C dX6_isRoute_9 (v := 100) (by decide) ?_
    refine j_irem C dX6_isRoute_11 (by decide) ?_
    refine j_icmp_ge (tgt := 30) C dX6_isRoute_12 (by decide) (fun h12 => ?_) (fun h12 => ?_)
    · skip
      refine j_iconst C dX6_isRoute_30 (v := 0) (by decide) ?_
      refine j_iret C dX6_isRoute_31 rfl ⟨rfl, rfl, (b2_f (fun z => ?_)).symm⟩
      first | exact absurd z.1 (i_nle.mpr h1) | exact absurd z.2.1 (i_nlt.mpr h12) | exact absurd z.2.2 (i_nlt.mpr h23)
    · skip
      refine j_iload_n C dX6_isRoute_15 rfl ?_
      refine j_bipush C dX6_isRoute_16 (v := 100) (by decide) ?_
      refine j_irem C dX6_isRoute_18 (by decide) ?_
      refine j_aload_n C dX6_isRoute_19 rfl ?_
      refine j_getI C fl_X6_66 dX6_isRoute_20 (X.c (by decide)) rfl ?_
      rw [hN.1.2.2.1]
      refine j_icmp_ge (tgt := 30) C dX6_isRoute_23 (by decide) (fun h23 => ?_) (fun h23 => ?_)
      · skip
        refine j_iconst C dX6_isRoute_30 (v := 0) (by decide) ?_
        refine j_iret C dX6_isRoute_31 rfl ⟨rfl, rfl, (b2_f (fun z => ?_)).symm⟩
        first | exact absurd z.1 (i_nle.mpr h1) | exact absurd z.2.1 (i_nlt.mpr h12) | exact absurd z.2.2 (i_nlt.mpr h23)
      · skip
        refine j_iconst C dX6_isRoute_26 (v := 1) (by decide) ?_
        refine j_goto (tgt := 31) C dX6_isRoute_27 (by decide) ?_
        exact j_iret C dX6_isRoute_31 rfl ⟨rfl, rfl, (b2_t ⟨i_nlt.mp h1, i_nle.mp h12, i_nle.mp h23⟩).symm⟩

theorem cX_isSize {l : Launch} {g : WGp} (hg : GOK g) {sh : WSh} {N : WNm} (x : Int32) : CT l g yX6_isSize cX6_isSize 1 (some .boolean) (RM 2 0 0) [.int x] sh N (QF g sh N (b2 (0 ≤ x ∧ x / 1000000 ≤ 2 ∧ (1 ≤ x / 1000 - x / 1000 / 1000 * 1000 ∧ x / 1000 - x / 1000 / 1000 * 1000 ≤ 99) ∧ (1 ≤ x - x / 1000 * 1000 ∧ x - x / 1000 * 1000 ≤ 999)))) := by
  refine ent hg (by decide +kernel) (Nat.le_of_ble_eq_true rfl) ?_
  intro p e s m args below meth c C hname
  refine j_iload_n C dX6_isSize_0 rfl ?_
  refine j_if_lt (tgt := 49) C dX6_isSize_1 (by decide) (fun h1 => ?_) (fun h1 => ?_)
  · skip
    refine j_iconst C dX6_isSize_49 (v := 0) (by decide) ?_
    refine j_iret C dX6_isSize_50 rfl ⟨rfl, rfl, (b2_f (fun z => ?_)).symm⟩
    first | exact absurd z.1 (i_nle.mpr h1) | exact absurd z.2.1 (i_nle.mpr h9) | exact h27 z.2.2.1 | exact h42 z.2.2.2
  · skip
    refine j_iload_n C dX6_isSize_4 rfl ?_
    refine j_ldc C kc_X6_90 dX6_isSize_5 ?_
    refine j_idiv C dX6_isSize_7 (by decide) ?_
    refine j_iconst C dX6_isSize_8 (v := 2) (by decide) ?_
    refine j_icmp_gt (tgt := 49) C dX6_isSize_9 (by decide) (fun h9 => ?_) (fun h9 => ?_)
    · skip
      refine j_iconst C dX6_isSize_49 (v := 0) (by decide) ?_
      refine j_iret C dX6_isSize_50 rfl ⟨rfl, rfl, (b2_f (fun z => ?_)).symm⟩
      first | exact absurd z.1 (i_nle.mpr h1) | exact absurd z.2.1 (i_nle.mpr h9) | exact h27 z.2.2.1 | exact h42 z.2.2.2
    · skip
      refine j_iload_n C dX6_isSize_12 rfl ?_
      refine j_sipush C dX6_isSize_13 (v := 1000) (by decide) ?_
      refine j_idiv C dX6_isSize_16 (by decide) ?_
      refine j_sipush C dX6_isSize_17 (v := 1000) (by decide) ?_
      refine j_irem C dX6_isSize_20 (by decide) ?_
      refine j_iconst C dX6_isSize_21 (v := 1) (by decide) ?_
      refine j_bipush C dX6_isSize_22 (v := 99) (by decide) ?_
      refine j_callS3I C ml_X6_57 dX6_isSize_24 (cX_within hg _ _ _) ⟨Nat.le_of_ble_eq_true rfl, Nat.le_of_ble_eq_true rfl⟩ (Nat.le_of_ble_eq_true rfl) ⟨rfl, rfl⟩ ⟨Nat.zero_le _, Nat.zero_le _⟩ ?_
      refine j_if_eq (tgt := 49) C dX6_isSize_27 (by decide) (fun h27 => ?_) (fun h27 => ?_)
      · replace h27 := b2_eq0.mp h27
        refine j_iconst C dX6_isSize_49 (v := 0) (by decide) ?_
        refine j_iret C dX6_isSize_50 rfl ⟨rfl, rfl, (b2_f (fun z => ?_)).symm⟩
        first | exact absurd z.1 (i_nle.mpr h1) | exact absurd z.2.1 (i_nle.mpr h9) | exact h27 z.2.2.1 | exact h42 z.2.2.2
      · replace h27 := b2_ne0.mp h27
        refine j_iload_n C dX6_isSize_30 rfl ?_
        refine j_sipush C dX6_isSize_31 (v := 1000) (by decide) ?_
        refine j_irem C dX6_isSize_34 (by decide) ?_
        refine j_iconst C dX6_isSize_35 (v := 1) (by decide) ?_
        refine j_sipush C dX6_isSize_36 (v := 999) (by decide) ?_
        refine j_callS3I C ml_X6_57 dX6_isSize_39 (cX_within hg _ _ _) ⟨Nat.le_of_ble_eq_true rfl, Nat.le_of_ble_eq_true rfl⟩ (Nat.le_of_ble_eq_true rfl) ⟨rfl, rfl⟩ ⟨Nat.zero_le _, Nat.zero_le _⟩ ?_
        refine j_if_eq (tgt := 49) C dX6_isSize_42 (by decide) (fun h42 => ?_) (fun h42 => ?_)
        · replace h42 := b2_eq0.mp h42
          refine j_iconst C dX6_isSize_49 (v := 0) (by decide) ?_
          refine j_iret C dX6_isSize_50 rfl ⟨rfl, rfl, (b2_f (fun z => ?_)).symm⟩
          first | exact absurd z.1 (i_nle.mpr h1) | exact absurd z.2.1 (i_nle.mpr h9) | exact h27 z.2.2.1 | exact h42 z.2.2.2
        · replace h42 := b2_ne0.mp h42
          refine j_iconst C dX6_isSize_45 (v := 1) (by decide) ?_
          refine j_goto (tgt := 50) C dX6_isSize_46 (by decide) ?_
          exact j_iret C dX6_isSize_50 rfl ⟨rfl, rfl, (b2_t ⟨i_nlt.mp h1, i_nlt.mp h9, h27, h42⟩).symm⟩

theorem cX_isPrice {l : Launch} {g : WGp} (hg : GOK g) {sh : WSh} {N : WNm} (x : Int32) : CT l g yX6_isPrice cX6_isPrice 1 (some .boolean) (RM 2 0 0) [.int x] sh N (QF g sh N (b2 (0 ≤ x ∧ (1 ≤ x / 1000 ∧ x / 1000 ≤ 9999)))) := by
  refine ent hg (by decide +kernel) (Nat.le_of_ble_eq_true rfl) ?_
  intro p e s m args below meth c C hname
  refine j_iload_n C dX6_isPrice_0 rfl ?_
  refine j_if_lt (tgt := 23) C dX6_isPrice_1 (by decide) (fun h1 => ?_) (fun h1 => ?_)
  · skip
    refine j_iconst C dX6_isPrice_23 (v := 0) (by decide) ?_
    refine j_iret C dX6_isPrice_24 rfl ⟨rfl, rfl, (b2_f (fun z => ?_)).symm⟩
    first | exact absurd z.1 (i_nle.mpr h1) | exact h16 z.2
  · skip
    refine j_iload_n C dX6_isPrice_4 rfl ?_
    refine j_sipush C dX6_isPrice_5 (v := 1000) (by decide) ?_
    refine j_idiv C dX6_isPrice_8 (by decide) ?_
    refine j_iconst C dX6_isPrice_9 (v := 1) (by decide) ?_
    refine j_sipush C dX6_isPrice_10 (v := 9999) (by decide) ?_
    refine j_callS3I C ml_X6_57 dX6_isPrice_13 (cX_within hg _ _ _) ⟨Nat.le_of_ble_eq_true rfl, Nat.le_of_ble_eq_true rfl⟩ (Nat.le_of_ble_eq_true rfl) ⟨rfl, rfl⟩ ⟨Nat.zero_le _, Nat.zero_le _⟩ ?_
    refine j_if_eq (tgt := 23) C dX6_isPrice_16 (by decide) (fun h16 => ?_) (fun h16 => ?_)
    · replace h16 := b2_eq0.mp h16
      refine j_iconst C dX6_isPrice_23 (v := 0) (by decide) ?_
      refine j_iret C dX6_isPrice_24 rfl ⟨rfl, rfl, (b2_f (fun z => ?_)).symm⟩
      first | exact absurd z.1 (i_nle.mpr h1) | exact h16 z.2
    · replace h16 := b2_ne0.mp h16
      refine j_iconst C dX6_isPrice_19 (v := 1) (by decide) ?_
      refine j_goto (tgt := 24) C dX6_isPrice_20 (by decide) ?_
      exact j_iret C dX6_isPrice_24 rfl ⟨rfl, rfl, (b2_t ⟨i_nlt.mp h1, h16⟩).symm⟩

def xBI (N : WNm) (B : Nat) (ow pp sz pr td : Int32) : WNm := (u2 (u2 (u2 (u2 (u2 (u2 (u2 (u2 (u2 (u2 (u2 (u2 N B 9 (0)) B 10 (-1)) B 0 (ow)) B 1 (pp / 100)) B 2 (pp - pp / 100 * 100)) B 3 (sz / 1000000)) B 4 (sz / 1000 - sz / 1000 / 1000 * 1000)) B 5 (sz - sz / 1000 * 1000)) B 6 (pr / 1000)) B 7 (pr - pr / 1000 * 1000)) B 8 (td)) B 11 (td))

theorem cX_baleInit {l : Launch} {g : WGp} (hg : GOK g) {sh : WSh} {N : WNm} {B : Nat} (hB : (sh.1 B).1 = 0) (ow pp sz pr td : Int32) : CT l g yX0_init cX0_init 6 none (RM 1 0 0) [.ref (sh.2.2 B), .int ow, .int pp, .int sz, .int pr, .int td] sh N (QFv g sh (xBI N B ow pp sz pr td)) := by
  refine ent hg (by decide +kernel) (Nat.le_of_ble_eq_true rfl) ?_
  intro p e s m args below meth c C hname
  refine j_aload_n C dX0_init_0 rfl ?_
  refine j_objInit C ob_X0_3 dX0_init_1 (Nat.le_of_ble_eq_true rfl) (Nat.le_of_ble_eq_true rfl) ?_
  refine j_aload_n C dX0_init_4 rfl ?_
  refine j_iconst C dX0_init_5 (v := 0) (by decide) ?_
  refine j_putI C fl_X0_9 dX0_init_6 (hB) rfl rfl rfl rfl ?_
  refine j_aload_n C dX0_init_9 rfl ?_
  refine j_iconst C dX0_init_10 (v := (-1)) (by decide) ?_
  refine j_putI C fl_X0_15 dX0_init_11 (hB) rfl rfl rfl rfl ?_
  refine j_aload_n C dX0_init_14 rfl ?_
  refine j_iload_n C dX0_init_15 rfl ?_
  refine j_putIf C hname fl_X0_18 dX0_init_16 (hB) rfl ⟨rfl, rfl⟩ rfl rfl ?_
  refine j_aload_n C dX0_init_19 rfl ?_
  refine j_iload_n C dX0_init_20 rfl ?_
  refine j_bipush C dX0_init_21 (v := 100) (by decide) ?_
  refine j_idiv C dX0_init_23 (by decide) ?_
  refine j_putIf C hname fl_X0_21 dX0_init_24 (hB) rfl ⟨rfl, rfl⟩ rfl rfl ?_
  refine j_aload_n C dX0_init_27 rfl ?_
  refine j_iload_n C dX0_init_28 rfl ?_
  refine j_bipush C dX0_init_29 (v := 100) (by decide) ?_
  refine j_irem C dX0_init_31 (by decide) ?_
  refine j_putIf C hname fl_X0_24 dX0_init_32 (hB) rfl ⟨rfl, rfl⟩ rfl rfl ?_
  refine j_aload_n C dX0_init_35 rfl ?_
  refine j_iload_n C dX0_init_36 rfl ?_
  refine j_ldc C kc_X0_27 dX0_init_37 ?_
  refine j_idiv C dX0_init_39 (by decide) ?_
  refine j_putIf C hname fl_X0_28 dX0_init_40 (hB) rfl ⟨rfl, rfl⟩ rfl rfl ?_
  refine j_aload_n C dX0_init_43 rfl ?_
  refine j_iload_n C dX0_init_44 rfl ?_
  refine j_sipush C dX0_init_45 (v := 1000) (by decide) ?_
  refine j_idiv C dX0_init_48 (by decide) ?_
  refine j_sipush C dX0_init_49 (v := 1000) (by decide) ?_
  refine j_irem C dX0_init_52 (by decide) ?_
  refine j_putIf C hname fl_X0_31 dX0_init_53 (hB) rfl ⟨rfl, rfl⟩ rfl rfl ?_
  refine j_aload_n C dX0_init_56 rfl ?_
  refine j_iload_n C dX0_init_57 rfl ?_
  refine j_sipush C dX0_init_58 (v := 1000) (by decide) ?_
  refine j_irem C dX0_init_61 (by decide) ?_
  refine j_putIf C hname fl_X0_34 dX0_init_62 (hB) rfl ⟨rfl, rfl⟩ rfl rfl ?_
  refine j_aload_n C dX0_init_65 rfl ?_
  refine j_iload C dX0_init_66 rfl ?_
  refine j_sipush C dX0_init_68 (v := 1000) (by decide) ?_
  refine j_idiv C dX0_init_71 (by decide) ?_
  refine j_putIf C hname fl_X0_37 dX0_init_72 (hB) rfl ⟨rfl, rfl⟩ rfl rfl ?_
  refine j_aload_n C dX0_init_75 rfl ?_
  refine j_iload C dX0_init_76 rfl ?_
  refine j_sipush C dX0_init_78 (v := 1000) (by decide) ?_
  refine j_irem C dX0_init_81 (by decide) ?_
  refine j_putIf C hname fl_X0_40 dX0_init_82 (hB) rfl ⟨rfl, rfl⟩ rfl rfl ?_
  refine j_aload_n C dX0_init_85 rfl ?_
  refine j_iload C dX0_init_86 rfl ?_
  refine j_putIf C hname fl_X0_43 dX0_init_88 (hB) rfl ⟨rfl, rfl⟩ rfl rfl ?_
  refine j_aload_n C dX0_init_91 rfl ?_
  refine j_iload C dX0_init_92 rfl ?_
  refine j_putI C fl_X0_46 dX0_init_94 (hB) rfl rfl rfl rfl ?_
  exact j_vret C dX0_init_97 ⟨rfl, rfl⟩

theorem xBI_row (N : WNm) (B : Nat) (ow pp sz pr td : Int32) {i : Nat} (h : ¬ i = B) : xBI N B ow pp sz pr td i = N i := by
  unfold xBI
  iterate 12 rw [u2_row h]
/-- a new bale on both sides -/
theorem XN.baleNew {N T N2 : WNm} {nG nB nV nT : Nat} {ln : Nat → Nat} (h : XN N T nG nB nV nT ln) (hG : nG ≤ 8) (hB : nB < 300) (hV : nV ≤ 30) (hn : T 0 23 = nI nB) (ow pp sz pr : Int32) (f : ∀ i, ¬ (i = 106 ∨ (440 ≤ i ∧ i ≤ 450) ∨ i = 2000 + nB) → N2 i = N i) (hb : ∀ k, k < 12 → N2 (2000 + nB) k = xBI N (2000 + nB) ow pp sz pr (T 0 1) (2000 + nB) k) : XN N2 (mBaleN T ow pp sz pr) nG (nB + 1) nV nT ln := by
  have en : tn (T 0 23) = nB := by rw [hn]; exact nI_clamp (by omega)
  have row : ∀ i, ¬ i = 0 → ¬ (25 ≤ i ∧ i ≤ 36) → mBaleN T ow pp sz pr i = T i := fun i h1 h2 => by
    unfold mBaleN
    rw [u2_row h1]
    iterate 12 rw [u2_row (by omega)]
  have row0 : ∀ j, ¬ j = 23 → mBaleN T ow pp sz pr 0 j = T 0 j := fun j hj => by
    unfold mBaleN
    rw [u2_ne (by omega)]
    iterate 12 rw [u2_row (by decide)]
  have old : ∀ i, 25 ≤ i → i ≤ 36 → ∀ b, ¬ b = nB → mBaleN T ow pp sz pr i b = T i b := fun i h1 h2 b hb => by
    unfold mBaleN
    rw [u2_row (by omega), en]
    iterate 12 rw [u2_ne (by omega)]
  have e34 : mBaleN T ow pp sz pr 34 nB = 0 := by
    unfold mBaleN
    rw [u2_row (by decide), en, u2_row (by decide), u2_row (by decide), u2_eq]
  obtain ⟨h0, h1, h2, h3, h4, h5, h6, h7⟩ := h
  have sums : ∀ x n, n ≤ nB → mBalesOn (mBaleN T ow pp sz pr) x n = mBalesOn T x n ∧ mRoomOn (mBaleN T ow pp sz pr) x n = mRoomOn T x n ∧ mWeightOn (mBaleN T ow pp sz pr) x False n = mWeightOn T x False n ∧ mWeightOn (mBaleN T ow pp sz pr) x True n = mWeightOn T x True n := fun x n hn => by
    refine ⟨iSum_same n (fun b hb => ?_), iSum_same n (fun b hb => ?_), iSum_same n (fun b hb => ?_), iSum_same n (fun b hb => ?_)⟩ <;> rw [old 34 (by decide) (by decide) b (by omega), old 35 (by decide) (by decide) b (by omega)]
    · rw [old 29 (by decide) (by decide) b (by omega)]
    · rw [old 28 (by decide) (by decide) b (by omega), old 30 (by decide) (by decide) b (by omega)]
    · rw [old 28 (by decide) (by decide) b (by omega), old 30 (by decide) (by decide) b (by omega)]
  refine ⟨h0.cg (f _ (by omega)) (fun j hj => row0 j (by omega)), h1.cg (fun i a b => f i (by omega)) (fun i a b => row i (by omega) (by omega)), h2.cg (fun a ha => f _ (by omega)) (fun i a b => row i (by omega) (by omega)), h3.cg (fun a ha => f _ (by omega)) (row 23 (by decide) (by decide)), fun a ha => ?_, fun b hb' k hk => ?_, h6.cg (fun v hv => ⟨f _ (by omega), f _ (by omega)⟩) (fun i a b => row i (by omega) (by omega)), h7.cg (f _ (by omega)) (f _ (by omega)) (row0 37 (by decide)) (row 37 (by decide) (by decide))⟩
  · obtain ⟨s1, s2, s3, s4⟩ := sums (nI a) nB (Nat.le_refl _)
    have n1 : ∀ x, ¬ (mBaleN T ow pp sz pr 34 nB = 1 ∧ mBaleN T ow pp sz pr 35 nB = x) := fun x z => by rw [e34] at z; exact absurd z.1 (by decide)
    have z1 : mBalesOn (mBaleN T ow pp sz pr) (nI a) (nB + 1) = mBalesOn T (nI a) nB := by rw [← s1, mBalesOn, iSum, if_neg (n1 _), Int32.add_zero]; rfl
    have z2 : mRoomOn (mBaleN T ow pp sz pr) (nI a) (nB + 1) = mRoomOn T (nI a) nB := by rw [← s2, mRoomOn, iSum, if_neg (n1 _), Int32.add_zero]; rfl
    have z3 : mWeightOn (mBaleN T ow pp sz pr) (nI a) False (nB + 1) = mWeightOn T (nI a) False nB := by rw [← s3, mWeightOn, iSum, if_neg (fun q => n1 _ q.1), Int32.add_zero]; rfl
    have z4 : mWeightOn (mBaleN T ow pp sz pr) (nI a) True (nB + 1) = mWeightOn T (nI a) True nB := by rw [← s4, mWeightOn, iSum, if_neg (fun q => n1 _ q.1), Int32.add_zero]; rfl
    rw [f (1000 + a) (by omega), z1, z2, z3, z4]
    exact h4 a ha
  · by_cases e : b = nB
    · rw [e, hb k hk]
      unfold xBI mBaleN
      rw [en]
      rcases (show k = 0 ∨ k = 1 ∨ k = 2 ∨ k = 3 ∨ k = 4 ∨ k = 5 ∨ k = 6 ∨ k = 7 ∨ k = 8 ∨ k = 9 ∨ k = 10 ∨ k = 11 by omega) with z | z | z | z | z | z | z | z | z | z | z | z <;> subst z <;> simp [u2]
    · rw [f (2000 + b) (by omega), old (25 + k) (by omega) (by omega) b e]
      exact h5 b (by omega) k hk
theorem nI_ofNN {x : Int32} (h : 0 ≤ x) : ∃ q, q < 2147483648 ∧ x = nI q := by
  have h1 := i_le.mp h
  rw [show (0 : Int32).toInt = 0 from rfl] at h1
  have h2 : x.toInt < 2147483648 := by have := Int32.toInt_lt x; omega
  refine ⟨x.toInt.toNat, by omega, Int32.toInt_inj.mp ?_⟩
  rw [nI_toInt (by omega)]
  omega
/-- the reference asks the same of a bale as the class does -/
theorem bale_cond {T : WNm} {nP : Nat} (hp : T 0 5 = nI nP) (hP : nP ≤ 12) (ow pp sz pr : Int32) : mBale T ow pp sz pr = if (0 ≤ ow ∧ ow ≤ 9) ∧ (0 ≤ pp ∧ pp / 100 < pp - pp / 100 * 100 ∧ pp - pp / 100 * 100 < T 0 5) ∧ (0 ≤ sz ∧ sz / 1000000 ≤ 2 ∧ (1 ≤ sz / 1000 - sz / 1000 / 1000 * 1000 ∧ sz / 1000 - sz / 1000 / 1000 * 1000 ≤ 99) ∧ (1 ≤ sz - sz / 1000 * 1000 ∧ sz - sz / 1000 * 1000 ≤ 999)) ∧ (0 ≤ pr ∧ (1 ≤ pr / 1000 ∧ pr / 1000 ≤ 9999)) then (if T 0 23 = 300 then (-3, T) else (T 0 23, mBaleN T ow pp sz pr)) else (-1, T) := by
  unfold mBale
  by_cases h1 : 0 ≤ ow ∧ ow ≤ 9
  · rw [if_pos h1]
    by_cases h2 : pp < 0
    · rw [if_pos h2, if_neg (fun z => absurd z.2.1.1 (i_nle.mpr h2))]
    · rw [if_neg h2]
      by_cases h3 : sz < 0
      · rw [if_pos h3, if_neg (fun z => absurd z.2.2.1.1 (i_nle.mpr h3))]
      · rw [if_neg h3]
        by_cases h4 : 0 ≤ pr
        · rw [if_pos h4]
          obtain ⟨q, hq, eq⟩ := nI_ofNN (i_nlt.mp h2)
          obtain ⟨r, hr, er⟩ := nI_ofNN (i_nlt.mp h3)
          have d1 : pp / 100 = nI (q / 100) := by rw [eq]; exact pk_div (by omega) (by decide) (by decide)
          have d2 : pp - pp / 100 * 100 = nI (q % 100) := by rw [eq]; exact pk_rem (by omega) (by decide) (by decide)
          have d3 : sz / 1000000 = nI (r / 1000000) := by rw [er]; exact pk_div (by omega) (by decide) (by decide)
          have hm : q % 100 < 100 := Nat.mod_lt _ (by decide)
          have c1 : (pp / 100 < pp - pp / 100 * 100 ∧ pp - pp / 100 * 100 < T 0 5) ↔ q / 100 < q % 100 ∧ q % 100 < nP := by
            rw [d2, d1, hp, n_nlt (by omega) (by omega), n_nlt (by omega) (by omega)]
          by_cases c : q / 100 < q % 100 ∧ q % 100 < nP
          · have a1 : 0 ≤ pp / 100 ∧ pp / 100 ≤ T 0 5 - 1 := by
              rw [d1, hp, show (1 : Int32) = nI 1 from rfl, nI_sub (by omega), n_nle (by omega) (by omega)]
              exact ⟨nI_pos' (by omega), by omega⟩
            have a2 : 0 ≤ pp - pp / 100 * 100 ∧ pp - pp / 100 * 100 ≤ T 0 5 - 1 := by
              rw [d2, hp, show (1 : Int32) = nI 1 from rfl, nI_sub (by omega), n_nle (by omega) (by omega)]
              exact ⟨nI_pos' (by omega), by omega⟩
            have a3 : ¬ pp - pp / 100 * 100 ≤ pp / 100 := by rw [d2, d1, n_nle (by omega) (by omega)]; omega
            rw [if_pos a1, if_pos a2, if_neg a3]
            have a4 : (0 ≤ sz / 1000000 ∧ sz / 1000000 ≤ 2) ↔ sz / 1000000 ≤ 2 := ⟨fun z => z.2, fun z => ⟨by rw [d3]; exact nI_pos' (by omega), z⟩⟩
            by_cases b1 : 0 ≤ sz / 1000000 ∧ sz / 1000000 ≤ 2
            · rw [if_pos b1]
              by_cases b2 : 1 ≤ sz / 1000 - sz / 1000 / 1000 * 1000 ∧ sz / 1000 - sz / 1000 / 1000 * 1000 ≤ 99
              · rw [if_pos b2]
                by_cases b3 : 1 ≤ sz - sz / 1000 * 1000 ∧ sz - sz / 1000 * 1000 ≤ 999
                · rw [if_pos b3]
                  by_cases b4 : 1 ≤ pr / 1000 ∧ pr / 1000 ≤ 9999
                  · rw [if_pos b4, if_pos (show (0 ≤ ow ∧ ow ≤ 9) ∧ (0 ≤ pp ∧ pp / 100 < pp - pp / 100 * 100 ∧ pp - pp / 100 * 100 < T 0 5) ∧ (0 ≤ sz ∧ sz / 1000000 ≤ 2 ∧ (1 ≤ sz / 1000 - sz / 1000 / 1000 * 1000 ∧ sz / 1000 - sz / 1000 / 1000 * 1000 ≤ 99) ∧ (1 ≤ sz - sz / 1000 * 1000 ∧ sz - sz / 1000 * 1000 ≤ 999)) ∧ (0 ≤ pr ∧ (1 ≤ pr / 1000 ∧ pr / 1000 ≤ 9999)) from ⟨h1, ⟨i_nlt.mp h2, c1.mpr c⟩, ⟨i_nlt.mp h3, b1.2, b2, b3⟩, h4, b4⟩)]
                  · rw [if_neg b4, if_neg (fun z => b4 z.2.2.2.2)]
                · rw [if_neg b3, if_neg (fun z => b3 z.2.2.1.2.2.2)]
              · rw [if_neg b2, if_neg (fun z => b2 z.2.2.1.2.2.1)]
            · rw [if_neg b1, if_neg (fun z => b1 (a4.mpr z.2.2.1.2.1))]
          · rw [if_neg (c := (0 ≤ ow ∧ ow ≤ 9) ∧ _) (fun z => c (c1.mp z.2.1.2))]
            by_cases a1 : 0 ≤ pp / 100 ∧ pp / 100 ≤ T 0 5 - 1
            · rw [if_pos a1]
              by_cases a2 : 0 ≤ pp - pp / 100 * 100 ∧ pp - pp / 100 * 100 ≤ T 0 5 - 1
              · rw [if_pos a2]
                by_cases a3 : pp - pp / 100 * 100 ≤ pp / 100
                · rw [if_pos a3]
                · exfalso
                  apply c
                  rw [d2, d1, n_nle (by omega) (by omega)] at a3
                  refine ⟨by omega, ?_⟩
                  have a4 := a2.2
                  rcases Nat.eq_zero_or_pos nP with e0 | e0
                  · rw [d2, hp, e0] at a4
                    have := Int32.le_trans (nI_pos' (n := q % 100) (by omega)) a4
                    exact absurd this (by decide)
                  · rw [d2, hp, show (1 : Int32) = nI 1 from rfl, nI_sub (by omega), n_nle (by omega) (by omega)] at a4
                    omega
              · rw [if_neg a2]
            · rw [if_neg a1]
        · rw [if_neg h4, if_neg (fun z => h4 z.2.2.2.1)]
  · rw [if_neg h1, if_neg (fun z => h1 z.1)]

theorem cX_bale {l : Launch} {g : WGp} (hg : GOK g) {sh : WSh} {N : WNm} {o : Nat → Nat} {nG nB nV kG kB kV : Nat} {ln : Nat → Nat} (X : XH o sh N nG nB nV kG kB kV ln) {nT nP dy : Nat} {T : WNm} (hN : XN N T nG nB nV nT ln) (hI : TI T nG nB nV nP dy) (hX : HX g o) (hX2 : HX2 g) {k : Nat} {rl0 : List Nat} (hK : LST sh N (o 2) 108 480 k (bn rl0)) (hrl : ∀ x ∈ rl0, x < nB) (ow pp sz pr : Int32) : CT l g yX6_bale cX6_bale 6 (some .int) (RM 9 2 400) [.ref (sh.2.2 100), .int ow, .int pp, .int sz, .int pr] sh N (QI g (fun r sh1 N1 => r = (mBale T ow pp sz pr).1 ∧ XSt o sh1 N1 (mBale T ow pp sz pr).2 ∧ FRL sh N sh1 N1)) := by
  refine ent hg (by decide +kernel) (Nat.le_of_ble_eq_true rfl) ?_
  intro p e s m args below meth c C hname
  have hB := X.nB3
  have hG := X.nG8
  have hV := X.nV3
  have hci : ∀ U H, g.X U H → CO 0 U := fun U H h => ⟨by decide, (hX2 U H h).1.1⟩
  generalize hRES : mBale T ow pp sz pr = RES
  rw [bale_cond hI.p5 hI.1.2.2.2.1.2] at hRES
  refine j_iload_n C dX6_bale_0 rfl ?_
  refine j_callS1I C ml_X6_52 dX6_bale_1 (cX_isPerson hg _) ⟨Nat.le_of_ble_eq_true rfl, Nat.le_of_ble_eq_true rfl⟩ (Nat.le_of_ble_eq_true rfl) ⟨rfl, rfl⟩ ⟨Nat.zero_le _, Nat.zero_le _⟩ ?_
  refine j_if_eq (tgt := 30) C dX6_bale_4 (by decide) (fun h4 => ?_) (fun h4 => ?_)
  · replace h4 := b2_eq0.mp h4
    refine j_iconst C dX6_bale_30 (v := (-1)) (by decide) ?_
    first | rw [if_neg (fun z => h4 z.1)] at hRES | rw [if_neg (fun z => h12 z.2.1)] at hRES | rw [if_neg (fun z => h19 z.2.2.1)] at hRES | rw [if_neg (fun z => h27 z.2.2.2)] at hRES
    refine J.widen (k := 2) (n := 400) (Nat.le_of_ble_eq_true rfl) (Nat.le_of_ble_eq_true rfl) ?_
    subst hRES
    exact j_iret C dX6_bale_31 rfl ⟨rfl, ⟨nG, nB, nV, kG, kB, kV, nT, ln, k, rl0, X, hN, hK, hrl, hI.g9, hI.b23, hI.v38⟩, (FRN.rfl N).l sh⟩
  · replace h4 := b2_ne0.mp h4
    refine j_aload_n C dX6_bale_7 rfl ?_
    refine j_iload_n C dX6_bale_8 rfl ?_
    refine j_callV1I C ml_X6_111 dX6_bale_9 (cX_isRoute hg X hN hI _) (⟨by rw [X.c (i := 100) (c := 6) (by decide)]; decide, by rw [X.c (i := 100) (c := 6) (by decide)]; rfl⟩) ⟨Nat.le_of_ble_eq_true rfl, Nat.le_of_ble_eq_true rfl⟩ (Nat.le_of_ble_eq_true rfl) ⟨rfl, rfl⟩ ⟨Nat.zero_le _, Nat.zero_le _⟩ ?_
    refine j_if_eq (tgt := 30) C dX6_bale_12 (by decide) (fun h12 => ?_) (fun h12 => ?_)
    · replace h12 := b2_eq0.mp h12
      refine j_iconst C dX6_bale_30 (v := (-1)) (by decide) ?_
      first | rw [if_neg (fun z => h4 z.1)] at hRES | rw [if_neg (fun z => h12 z.2.1)] at hRES | rw [if_neg (fun z => h19 z.2.2.1)] at hRES | rw [if_neg (fun z => h27 z.2.2.2)] at hRES
      refine J.widen (k := 2) (n := 400) (Nat.le_of_ble_eq_true rfl) (Nat.le_of_ble_eq_true rfl) ?_
      subst hRES
      exact j_iret C dX6_bale_31 rfl ⟨rfl, ⟨nG, nB, nV, kG, kB, kV, nT, ln, k, rl0, X, hN, hK, hrl, hI.g9, hI.b23, hI.v38⟩, (FRN.rfl N).l sh⟩
    · replace h12 := b2_ne0.mp h12
      refine j_iload_n C dX6_bale_15 rfl ?_
      refine j_callS1I C ml_X6_114 dX6_bale_16 (cX_isSize hg _) ⟨Nat.le_of_ble_eq_true rfl, Nat.le_of_ble_eq_true rfl⟩ (Nat.le_of_ble_eq_true rfl) ⟨rfl, rfl⟩ ⟨Nat.zero_le _, Nat.zero_le _⟩ ?_
      refine j_if_eq (tgt := 30) C dX6_bale_19 (by decide) (fun h19 => ?_) (fun h19 => ?_)
      · replace h19 := b2_eq0.mp h19
        refine j_iconst C dX6_bale_30 (v := (-1)) (by decide) ?_
        first | rw [if_neg (fun z => h4 z.1)] at hRES | rw [if_neg (fun z => h12 z.2.1)] at hRES | rw [if_neg (fun z => h19 z.2.2.1)] at hRES | rw [if_neg (fun z => h27 z.2.2.2)] at hRES
        refine J.widen (k := 2) (n := 400) (Nat.le_of_ble_eq_true rfl) (Nat.le_of_ble_eq_true rfl) ?_
        subst hRES
        exact j_iret C dX6_bale_31 rfl ⟨rfl, ⟨nG, nB, nV, kG, kB, kV, nT, ln, k, rl0, X, hN, hK, hrl, hI.g9, hI.b23, hI.v38⟩, (FRN.rfl N).l sh⟩
      · replace h19 := b2_ne0.mp h19
        refine j_iload C dX6_bale_22 rfl ?_
        refine j_callS1I C ml_X6_117 dX6_bale_24 (cX_isPrice hg _) ⟨Nat.le_of_ble_eq_true rfl, Nat.le_of_ble_eq_true rfl⟩ (Nat.le_of_ble_eq_true rfl) ⟨rfl, rfl⟩ ⟨Nat.zero_le _, Nat.zero_le _⟩ ?_
        refine j_if_ne (tgt := 32) C dX6_bale_27 (by decide) (fun h27 => ?_) (fun h27 => ?_)
        · replace h27 := b2_ne0.mp h27
          refine j_aload_n C dX6_bale_32 rfl ?_
          refine j_getR (j := 106) C fl_X6_29 dX6_bale_33 (X.c (by decide)) rfl (X.r (by decide)) ?_
          refine j_callV0I C ml_X6_73 dX6_bale_36 (cJ_size hg X.lb.1.1) (⟨by rw [X.lb.1.1]; decide, by rw [X.lb.1.1]; rfl⟩) ⟨Nat.le_of_ble_eq_true rfl, Nat.le_of_ble_eq_true rfl⟩ (Nat.le_of_ble_eq_true rfl) ⟨rfl, rfl⟩ ⟨Nat.zero_le _, Nat.zero_le _⟩ ?_
          rw [X.zB]
          refine j_istore C dX6_bale_39 (by decide) rfl ?_
          refine j_iload C dX6_bale_41 rfl ?_
          refine j_sipush C dX6_bale_43 (v := 300) (by decide) ?_
          refine j_icmp_lt (tgt := 52) C dX6_bale_46 (by decide) (fun h46 => ?_) (fun h46 => ?_)
          · skip
            rw [show (300 : Int32) = nI 300 from rfl, n_nlt (by omega) (by decide)] at h46
            rw [if_pos ⟨h4, h12, h19, h27⟩, if_neg (show ¬ T 0 23 = 300 from fun z => by
              have z2 := nI_inj (b := 300) (by omega) (by decide) (hI.b23.symm.trans z)
              omega)] at hRES
            refine j_aload_n C dX6_bale_52 rfl ?_
            refine j_getR (j := 106) C fl_X6_29 dX6_bale_53 (X.c (by decide)) rfl (X.r (by decide)) ?_
            have hfr := X.2.2.2.1.2.1 nB (Nat.le_refl _) h46
            refine j_new (i := 2000 + nB) C nl_X6_120 (Nat.lt_trans (by decide) hfr) (X.rf.no hfr) (Nat.le_of_ble_eq_true rfl) (Nat.le_of_ble_eq_true rfl) dX6_bale_56 (fun q => ?_)
            obtain ⟨sh1, e1⟩ : ∃ sh1, sh1 = shNew sh (2000 + nB) (0, 0) q := ⟨_, rfl⟩
            obtain ⟨N1, e2⟩ : ∃ N1, N1 = nNew N (2000 + nB) := ⟨_, rfl⟩
            have hq : q = sh1.2.2 (2000 + nB) := by rw [e1]; exact (up_eq _ _ _).symm
            have f1 : ∀ i, ¬ i = 2000 + nB → sh1.1 i = sh.1 i ∧ sh1.2.1 i = sh.2.1 i ∧ sh1.2.2 i = sh.2.2 i ∧ N1 i = N i := fun i hi => by rw [e1, e2]; exact ⟨up_ne hi, up_ne hi, up_ne hi, up_ne hi⟩
            have hc1 : (sh1.1 (2000 + nB)).1 = 0 := by rw [e1]; show (va_up sh.1 (2000 + nB) (0, 0) (2000 + nB)).1 = 0; rw [up_eq]
            have hR1 : RF sh1 := by rw [e1]; exact X.rf.new (by decide)
            have hN1b : N1 (2000 + nB) = fun _ => 0 := by rw [e2]; exact up_eq _ _ _
            rw [← e1, ← e2, hq, ← (f1 100 (by omega)).2.2.1, ← (f1 106 (by omega)).2.2.1]
            clear e1 e2 hq
            refine j_dup C dX6_bale_59 rfl ?_
            refine j_iload_n C dX6_bale_60 rfl ?_
            refine j_iload_n C dX6_bale_61 rfl ?_
            refine j_iload_n C dX6_bale_62 rfl ?_
            refine j_iload C dX6_bale_63 rfl ?_
            refine j_aload_n C dX6_bale_65 rfl ?_
            refine j_getI C fl_X6_122 dX6_bale_66 (by rw [(f1 100 (by omega)).1]; exact X.c (by decide)) rfl ?_
            rw [show N1 100 13 = T 0 1 by rw [(f1 100 (by omega)).2.2.2]; exact hN.1.2.2.2]
            refine j_callI5V C ml_X6_125 dX6_bale_69 (cX_baleInit hg hc1 _ _ _ _ _) ⟨Nat.le_of_ble_eq_true rfl, Nat.le_of_ble_eq_true rfl⟩ (Nat.le_of_ble_eq_true rfl) ⟨rfl, rfl⟩ ⟨Nat.le_of_ble_eq_true rfl, Nat.le_of_ble_eq_true rfl⟩ ?_
            obtain ⟨N2, e2⟩ : ∃ N2, N2 = xBI N1 (2000 + nB) ow pp sz pr (T 0 1) := ⟨_, rfl⟩
            have f2 : ∀ i, ¬ i = 2000 + nB → N2 i = N i := fun i hi => by rw [e2, xBI_row _ _ _ _ _ _ _ hi]; exact (f1 i hi).2.2.2
            have hb2 : ∀ q, q < 12 → N2 (2000 + nB) q = xBI N (2000 + nB) ow pp sz pr (T 0 1) (2000 + nB) q := fun q hq => by
              rw [e2]
              unfold xBI
              rcases (show q = 0 ∨ q = 1 ∨ q = 2 ∨ q = 3 ∨ q = 4 ∨ q = 5 ∨ q = 6 ∨ q = 7 ∨ q = 8 ∨ q = 9 ∨ q = 10 ∨ q = 11 by omega) with z | z | z | z | z | z | z | z | z | z | z | z <;> subst z <;> simp [u2]
            rw [← e2]
            clear e2
            have hL1 : LST sh1 N2 (o 2) 106 440 kB (nl 2000 nB) := X.lb.keep (fun i hi => ⟨(f1 i (by omega)).1, (f1 i (by omega)).2.1, (f1 i (by omega)).2.2.1, f2 i (by omega)⟩)
            have hkB : kB ≤ 10 := X.lb.1.2.1
            have hcu : kUp kB nB - kB ≤ 1 := by unfold kUp; split <;> omega
            have hsu : sUp kB nB ≤ 366 := by
              unfold sUp
              split
              · have : kB < 10 := by
                  rcases Nat.lt_or_ge kB 10 with z | z
                  · exact z
                  · exfalso
                    have e10 : kB = 10 := by omega
                    have h366 : cap kB = 366 := by rw [e10]; decide
                    omega
                exact cap_le _ (by omega)
              · omega
            refine j_callV1Ig (c1 := 1 + (kUp kB nB - kB)) (s1 := 13 + sUp kB nB) C ml_X6_82 dX6_bale_72 (cJ_add hg hX hX2 hL1 (Or.inl (by decide)) hR1 (ci := 0) hci (fun x hx => ?_) (by rw [nl_len]; omega) (x := 2000 + nB) hc1 (by omega)) ⟨by rw [hL1.1.1]; decide, by rw [hL1.1.1]; rfl⟩ ⟨Nat.le_of_ble_eq_true rfl, Nat.le_of_ble_eq_true rfl⟩ (Nat.le_of_ble_eq_true rfl) ⟨by rw [nl_len] <;> try rfl, by rw [nl_len] <;> try rfl⟩ ⟨by show _ ≤ 2; omega, by show _ ≤ 400; omega⟩ (fun r sh2 N3 hq => ?_)
            · obtain ⟨i, hi, rfl⟩ := nl_mem hx
              rw [(f1 _ (by omega)).1]
              exact X.b hi
            obtain ⟨hL2, hFx, hR2⟩ := hq
            rw [nl_len, ← nl_succ] at hL2
            have hsame : SAME sh N sh2 N3 (fun i => i = 106 ∨ (440 ≤ i ∧ i ≤ 450) ∨ i = 2000 + nB) := fun i hi => by
              have z1 := hFx.1 i (by omega)
              have z2 := hFx.2 i (by omega) (by omega)
              have z3 := f1 i (by omega)
              exact ⟨z1.1.trans z3.1, z2.1.trans z3.2.1, z1.2.trans z3.2.2.1, z2.2.trans (f2 i (by omega))⟩
            have X3 := X.baleNew h46 hsame hL2 (by rw [(hFx.1 (2000 + nB) (by omega)).1]; exact hc1) hR2
            have hN3 := hN.baleNew hG h46 hV hI.b23 ow pp sz pr (fun i hi => (hsame i hi).2.2.2) (fun q hq => by rw [(hFx.2 (2000 + nB) (by omega) (by omega)).2]; exact hb2 q hq)
            have hK3 := hK.keep (fun i hi => hsame i (by omega))
            refine j_pop C dX6_bale_75 rfl ?_
            refine j_iload C dX6_bale_76 rfl ?_
            refine J.widen (k := 2) (n := 400) (by omega) (by omega) ?_
            rw [← hI.b23]
            subst hRES
            exact j_iret C dX6_bale_78 rfl ⟨rfl, ⟨nG, nB + 1, nV, kG, _, kV, nT, ln, k, rl0, X3, hN3, hK3, fun x hx => Nat.lt_succ_of_lt (hrl x hx), hI.g9, (by rw [← nI_1, ← hI.b23]; rfl), hI.v38⟩, hsame.l (fun i hi => by omega) (by omega)⟩
          · skip
            refine j_bipush C dX6_bale_49 (v := (-3)) (by decide) ?_
            rw [show (300 : Int32) = nI 300 from rfl, n_nlt (by omega) (by decide)] at h46
            rw [if_pos ⟨h4, h12, h19, h27⟩, if_pos (show T 0 23 = 300 by rw [hI.b23, show nB = 300 by omega]; rfl)] at hRES
            refine J.widen (k := 2) (n := 400) (Nat.le_of_ble_eq_true rfl) (Nat.le_of_ble_eq_true rfl) ?_
            subst hRES
            exact j_iret C dX6_bale_51 rfl ⟨rfl, ⟨nG, nB, nV, kG, kB, kV, nT, ln, k, rl0, X, hN, hK, hrl, hI.g9, hI.b23, hI.v38⟩, (FRN.rfl N).l sh⟩
        · replace h27 := b2_eq0.mp (Decidable.not_not.mp h27)
          refine j_iconst C dX6_bale_30 (v := (-1)) (by decide) ?_
          first | rw [if_neg (fun z => h4 z.1)] at hRES | rw [if_neg (fun z => h12 z.2.1)] at hRES | rw [if_neg (fun z => h19 z.2.2.1)] at hRES | rw [if_neg (fun z => h27 z.2.2.2)] at hRES
          refine J.widen (k := 2) (n := 400) (Nat.le_of_ble_eq_true rfl) (Nat.le_of_ble_eq_true rfl) ?_
          subst hRES
          exact j_iret C dX6_bale_31 rfl ⟨rfl, ⟨nG, nB, nV, kG, kB, kV, nT, ln, k, rl0, X, hN, hK, hrl, hI.g9, hI.b23, hI.v38⟩, (FRN.rfl N).l sh⟩
