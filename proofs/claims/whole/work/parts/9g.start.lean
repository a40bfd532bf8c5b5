/-! ===== THE START: what is known of classes, and of what stands outside ===== -/
theorem start_K {s : State} {args : Array Value} (hts : ∀ w ∈ TBL, w.before args s = true) (hl : ∀ w ∈ lw_tbl, w.before args s = true) : ∃ (D : va_G) (tc : Nat → ClassId), va_K D CL (TYS tc) s := by
  have hc : ∀ k : Nat, ∃ q : ClassId × (Nat → Nat), k < 9 → u_Kn s (RR k) (TT k) (nF k) q.1 q.2 := by
    intro k
    rcases (show k = 0 ∨ k = 1 ∨ k = 2 ∨ k = 3 ∨ k = 4 ∨ k = 5 ∨ k = 6 ∨ k = 7 ∨ k = 8 ∨ ¬ k < 9 by omega) with z | z | z | z | z | z | z | z | z | z
    · subst z
      obtain ⟨c, i, h⟩ := u_known hts cls_in_0 (hts _ nl_X6_120.2.2.1)
      exact ⟨(c, i), fun _ => h⟩
    · subst z
      obtain ⟨c, i, h⟩ := u_known hts cls_in_1 (hts _ nl_X6_77.2.2.1)
      exact ⟨(c, i), fun _ => h⟩
    · subst z
      obtain ⟨c, i, h⟩ := u_known hts cls_in_2 (hts _ nl_X6_35.2.2.1)
      exact ⟨(c, i), fun _ => h⟩
    · subst z
      obtain ⟨c, i, h⟩ := u_known hts cls_in_3 (hts _ nl_X2_9.2.2.1)
      exact ⟨(c, i), fun _ => h⟩
    · subst z
      obtain ⟨c, i, h⟩ := u_known hts cls_in_4 (hts _ nl_X6_42.2.2.1)
      exact ⟨(c, i), fun _ => h⟩
    · subst z
      obtain ⟨c, i, h⟩ := u_known hts cls_in_5 (hts _ nl_X6_153.2.2.1)
      exact ⟨(c, i), fun _ => h⟩
    · subst z
      obtain ⟨c, i, h⟩ := u_known hts cls_in_6 (hts _ nl_L_7.2.2.1)
      exact ⟨(c, i), fun _ => h⟩
    · subst z
      obtain ⟨c, i, h⟩ := u_known hts cls_in_7 (hts _ nl_L_10.2.2.1)
      exact ⟨(c, i), fun _ => h⟩
    · subst z
      obtain ⟨c, i, h⟩ := u_known hts cls_in_8 (hts _ nl_X6_22.2.2.1)
      exact ⟨(c, i), fun _ => h⟩
    · exact ⟨(0, fun _ => 0), fun h => absurd h z⟩
  obtain ⟨f, hf⟩ := Classical.axiomOfChoice hc
  obtain ⟨c0, k0, m0, a1, a2, a3⟩ := Cond.arrayClass_spec (hl (.arrayClass .int) (List.mem_of_getElem? (i := 119) (by decide +kernel)))
  obtain ⟨c1, k1, m1, b1, b2, b3⟩ := Cond.arrayClass_spec (hl (.arrayClass .byte) (List.mem_of_getElem? (i := 674) (by decide +kernel)))
  obtain ⟨c2, k2, m2, d1, d2, d3⟩ := Cond.arrayClass_spec (hl (.arrayClass .boolean) (List.mem_of_getElem? (i := 1016) (by decide +kernel)))
  obtain ⟨m3, c3, k3, e1, -, e3, e4, e5⟩ := Cond.arrayOver_spec (hl (.arrayOver (.object "java/lang/Object")) (List.mem_of_getElem? (i := 390) (by decide +kernel)))
  refine ⟨(fun k => (f k).1, fun k => (f k).2), fun k => if k = 0 then c0 else (if k = 1 then c1 else (if k = 2 then c2 else c3)), fun k q hq => ?_, fun k q hq => ?_⟩
  · have hk : k < 9 := by
      have z := (List.getElem?_eq_some_iff.mp hq).1
      simpa [CL] using z
    rw [CL_at hk] at hq
    cases hq
    exact hf k hk
  · match k, hq with
    | 0, hq => cases hq; exact ⟨fun n z => ⟨fun k h => (by cases h), k0, a2, m0, a3⟩, a1⟩
    | 1, hq => cases hq; exact ⟨fun n z => ⟨fun k h => (by cases h), k1, b2, m1, b3⟩, b1⟩
    | 2, hq => cases hq; exact ⟨fun n z => ⟨fun k h => (by cases h), k2, d2, m2, d3⟩, d1⟩
    | 3, hq => cases hq; exact ⟨fun n z => ⟨fun k h => (by cases h), k3, e3, m3, e4⟩, k3, m3, e3, e4, e1, e5⟩
    | k + 4, hq => simp [TYS] at hq
theorem start_X {s : State} {args : Array Value} (hl : ∀ w ∈ lw_tbl, w.before args s = true) (hgv : (Jvm.Cond.and given_1 narrow_1).before args s = true) : ∃ o : Nat → Nat, XO o (fun q => s.heap.size ≤ q) s s.heap ∧ XO2 s ∧ XO3 s := by
  have fl := flat_of_before _ hgv
  have hA : ∀ a : Nat, a < s.heap.size → ¬ (fun q => s.heap.size ≤ q) a := fun a h z => Nat.lt_irrefl _ (Nat.lt_of_lt_of_le h z)
  have hm : ∀ j, j < 128 → Cond.eq (.elem (.field (.string "GalleyConvoy$Reader" 103) "java/lang/String" "value" "[B") (.int (Int32.ofNat j))) (.int (WB.getD j 0)) ∈ flatC (Jvm.Cond.and given_1 narrow_1) := by decide +kernel
  obtain ⟨aK, aV, hS, hS2⟩ := vk_Sof (args := args) (s := s) (N := 1) (tm := fun _ => (.string "GalleyConvoy$Reader" 103)) (len := [128]) (byt := [WB]) (A := fun q => s.heap.size ≤ q) (fun i hi => by rw [show i = 0 by omega]; decide) (fun i hi => (fl (.exactly (.string "GalleyConvoy$Reader" 103) "java/lang/String") (by decide +kernel))) (fun i hi => (fl (.eq (.field (.string "GalleyConvoy$Reader" 103) "java/lang/String" "coder" "B") (.int 0)) (by decide +kernel))) (fun i hi => (fl (.arrayOf (.field (.string "GalleyConvoy$Reader" 103) "java/lang/String" "value" "[B") .byte) (by decide +kernel))) (fun i hi => by
      obtain rfl : i = 0 := by omega
      exact (fl (.eq (.length (.field (.string "GalleyConvoy$Reader" 103) "java/lang/String" "value" "[B")) (.int 128)) (by decide +kernel))) (fun i hi j hj => by
      rw [show i = 0 by omega] at hj ⊢
      exact fl _ (hm j hj)) (fun i j hi hj hij => absurd (show i = j by omega) hij) hA
  obtain ⟨t2, ht2, hT2⟩ := va_Tof (args := args) (s := s) (tm := (.static "java/util/ArrayList" "DEFAULTCAPACITY_EMPTY_ELEMENTDATA" "[Ljava/lang/Object;")) (N := 0) (f := fun _ => .null) (A := fun q => s.heap.size ≤ q) (by decide) (fl (.arrayOf (.static "java/util/ArrayList" "DEFAULTCAPACITY_EMPTY_ELEMENTDATA" "[Ljava/lang/Object;") (.object "java/lang/Object")) (by decide +kernel)) (va_eqt (fl (.eq (.length (.static "java/util/ArrayList" "DEFAULTCAPACITY_EMPTY_ELEMENTDATA" "[Ljava/lang/Object;")) (.int 0)) (by decide +kernel))) (fun j hj => absurd hj (Nat.not_lt_zero _)) hA
  obtain ⟨t3, ht3, hT3⟩ := va_Tof (args := args) (s := s) (tm := (.static "GalleyConvoy" "WITHOUT_VOTE" "[I")) (N := 3) (f := fun j => .int (([1, 1, 0] : List Int32).getD j 0)) (A := fun q => s.heap.size ≤ q) (by decide) (fl (.arrayOf (.static "GalleyConvoy" "WITHOUT_VOTE" "[I") .int) (by decide +kernel)) (va_eqt (fl (.eq (.length (.static "GalleyConvoy" "WITHOUT_VOTE" "[I")) (.int 3)) (by decide +kernel))) (fun j hj => by
      rcases (show j = 0 ∨ j = 1 ∨ j = 2 by omega) with z | z | z <;> subst z
      · exact va_eqt (fl (.eq (.elem (.static "GalleyConvoy" "WITHOUT_VOTE" "[I") (.int 0)) (.int 1)) (by decide +kernel))
      · exact va_eqt (fl (.eq (.elem (.static "GalleyConvoy" "WITHOUT_VOTE" "[I") (.int 1)) (.int 1)) (by decide +kernel))
      · exact va_eqt (fl (.eq (.elem (.static "GalleyConvoy" "WITHOUT_VOTE" "[I") (.int 2)) (.int 0)) (by decide +kernel))) hA
  obtain ⟨mi, hmi⟩ := va_Mi.of (fl (.isRef (.mirror "[Ljava/lang/Object;")) (by decide +kernel))
  refine ⟨fun k => if k = 0 then aK 0 else (if k = 1 then aV 0 else (if k = 2 then t2 else (if k = 3 then t3 else mi))), ⟨⟨?_, ?_, ?_, ?_⟩, ⟨?_, hT2⟩, ⟨?_, hT3⟩, hmi, ?_, ?_⟩, ⟨⟨?_, ?_, ?_, ?_⟩, ?_, ?_⟩, ?_, ?_, ?_⟩
  · exact vk_R.of (hl (.stringRef "GalleyConvoy$Reader" 103 WTX) (List.mem_of_getElem? (i := 562) (by decide +kernel))) (hS2 0 (by decide))
  · refine ⟨fun i hi => ?_, fun i j hi hj _ => by omega⟩
    obtain rfl : i = 0 := by omega
    exact hS.1 0 (by decide)
  · exact va_Zof (hl (.laysStatic "java/lang/String" "COMPACT_STRINGS" "Z") (List.mem_of_getElem? (i := 572) (by decide +kernel))) (hl (.initialized "java/lang/String") (List.mem_of_getElem? (i := 81) (by decide +kernel))) (va_eqi (fl (.eq (.static "java/lang/String" "COMPACT_STRINGS" "Z") (.int 1)) (by decide +kernel))) hA
  · exact va_Zqof (hl (.laysStatic "jdk/internal/util/Preconditions" "SIOOBE_FORMATTER" "Ljava/util/function/BiFunction;") (List.mem_of_getElem? (i := 580) (by decide +kernel))) (hl (.initialized "jdk/internal/util/Preconditions") (List.mem_of_getElem? (i := 74) (by decide +kernel))) (fl (.isRef (.static "jdk/internal/util/Preconditions" "SIOOBE_FORMATTER" "Ljava/util/function/BiFunction;")) (by decide +kernel)) hA
  · exact va_Zof (hl (.laysStatic "java/util/ArrayList" "DEFAULTCAPACITY_EMPTY_ELEMENTDATA" "[Ljava/lang/Object;") (List.mem_of_getElem? (i := 106) (by decide +kernel))) (hl (.initialized "java/util/ArrayList") (List.mem_of_getElem? (i := 68) (by decide +kernel))) ht2 hA
  · exact va_Zof (hl (.laysStatic "GalleyConvoy" "WITHOUT_VOTE" "[I") (List.mem_of_getElem? (i := 711) (by decide +kernel))) (hl (.initialized "GalleyConvoy") (List.mem_of_getElem? (i := 65) (by decide +kernel))) ht3 hA
  · exact va_Nw.of rfl (hl (.methodLinkNest RX3 19 yX6_within RX6) (List.mem_of_getElem? (i := 542) (by decide +kernel)))
  · exact va_Nw.of rfl (hl (.methodLinkNest RX2 111 yX6_within RX6) (List.mem_of_getElem? (i := 546) (by decide +kernel)))
  · exact va_Nw.of rfl (hl (.castable (RR 0) "java/lang/Object") (List.mem_of_getElem? (i := 1253) (by decide +kernel)))
  · exact va_Nw.of rfl (hl (.castable (RR 1) "java/lang/Object") (List.mem_of_getElem? (i := 1252) (by decide +kernel)))
  · exact va_Nw.of rfl (hl (.castable (RR 5) "java/lang/Object") (List.mem_of_getElem? (i := 1254) (by decide +kernel)))
  · exact va_Nw.of rfl (hl (.castable "[I" "java/lang/Cloneable") (List.mem_of_getElem? (i := 655) (by decide +kernel)))
  · exact va_AO.of (hl (.arrayOver (.object "java/lang/Object")) (List.mem_of_getElem? (i := 390) (by decide +kernel)))
  · exact va_Dc.of (hl (.declares ⟨"java/lang/Object", "getClass", "()Ljava/lang/Class;"⟩) (List.mem_of_getElem? (i := 1258) (by decide +kernel)))
  · exact va_Nw.of rfl (hl (.methodLinkNest RX6 37 yX2_init RX6) (List.mem_of_getElem? (i := 122) (by decide +kernel)))
  · exact va_Nw.of rfl (hl (.methodLinkNest RX2 11 yX3_init RX6) (List.mem_of_getElem? (i := 128) (by decide +kernel)))
  · exact va_Nw.of rfl (hl (.methodLinkNest RX6 44 yX4_init RX6) (List.mem_of_getElem? (i := 166) (by decide +kernel)))
