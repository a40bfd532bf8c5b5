/-! ===== THE START: from the law's entry to its loop ===== -/
def sh00 (o2 : Nat) : WSh := (fun i => if i = 420 ∨ i = 440 ∨ i = 460 ∨ i = 480 then (13, 0) else (14, 0), fun _ _ => none, fun i => if i = 420 ∨ i = 440 ∨ i = 460 ∨ i = 480 then o2 else 0)
theorem sh00_b (o2 : Nat) {i : Nat} (h : i = 420 ∨ i = 440 ∨ i = 460 ∨ i = 480) : (sh00 o2).1 i = (13, 0) ∧ (sh00 o2).2.2 i = o2 := ⟨if_pos h, if_pos h⟩
theorem sh00_n (o2 : Nat) {i : Nat} (h : ¬ (i = 420 ∨ i = 440 ∨ i = 460 ∨ i = 480)) : (sh00 o2).1 i = (14, 0) := if_neg h
theorem sh00_k (o2 i : Nat) : 13 ≤ ((sh00 o2).1 i).1 := by
  by_cases h : i = 420 ∨ i = 440 ∨ i = 460 ∨ i = 480
  · rw [(sh00_b o2 h).1]; decide
  · rw [sh00_n o2 h]; decide
theorem sh00_RF (o2 : Nat) : RF (sh00 o2) := fun a k j h => by cases (show (none : Option Nat) = some j from h)
theorem sh00_PIC (g : WGp) (o2 : Nat) (H : Heap) : PIC g (sh00 o2) zz H := by
  refine ⟨fun i => ?_, fun i j h => ?_, fun i h => ?_⟩
  · have z := sh00_k o2 i
    exact ⟨fun h => by omega, fun h => by omega, fun h => by omega, fun h => by omega, fun h => by omega⟩
  · have z := sh00_k o2 i
    omega
  · have z := sh00_k o2 i
    omega
theorem start_PX (o2 q : Nat) : PX (sh00 o2) zz q 0 (shNew (sh00 o2) 100 (6, 0) q) (nNew zz 100) := by
  refine ⟨⟨?_, ?_, ?_⟩, fun k hk => absurd hk (Nat.not_lt_zero _), fun k _ hk i hi => ?_, fun i hi => ?_, (sh00_RF o2).new (by decide)⟩
  · show (va_up (sh00 o2).1 100 (6, 0) 100).1 = 6
    rw [up_eq]
  · exact (show va_up (sh00 o2).2.2 100 q 100 = q from up_eq _ _ _)
  · exact up_eq _ _ _
  · have z := iNum_in k hk i hi
    show 13 < (va_up (sh00 o2).1 100 (6, 0) i).1
    rw [up_ne (by omega), sh00_n o2 (by omega)]
    decide
  · have e : ¬ i = 100 := by omega
    exact ⟨up_ne e, up_ne e, up_ne e, up_ne e⟩
theorem start_PSt {o2 h0 q : Nat} {sh : WSh} {N : WNm} (h : PX (sh00 o2) zz h0 10 sh N) : PSt (shNew sh 0 (7, 0) q) (nNew N 0) q 0 (shNew sh 0 (7, 0) q) (nNew N 0) := by
  obtain ⟨-, -, -, d, hR⟩ := h
  refine ⟨⟨?_, ?_, fun q hq hl => absurd hl (Nat.not_lt_zero _), fun a k j ha hj => ?_, fun a _ => ⟨rfl, rfl, rfl, rfl⟩, fun a k j ha hj => ?_, fun j => ?_⟩, fun i h1 h2 => ?_⟩
  · exact (show va_up sh.2.2 0 q 0 = q from up_eq _ _ _)
  · show (va_up sh.1 0 (7, 0) 0).1 = 7
    rw [up_eq]
  · replace hj : va_up sh.2.1 0 (fun _ => none) a k = some j := hj
    by_cases e : a = 0
    · rw [e, up_eq] at hj
      cases hj
    · rw [up_ne e, (d a (by omega)).2.1] at hj
      cases (show (none : Option Nat) = some j from hj)
  · replace hj : va_up sh.2.1 0 (fun _ => none) a k = some j := hj
    rw [up_ne (by omega)] at hj
    have z := hR a k j hj
    rcases Nat.lt_or_ge j 56 with y | y
    · rw [(d j (by omega)).1, sh00_n o2 (by omega)] at z
      exact absurd z (by decide)
    · exact y
  · show va_up N 0 (fun _ => 0) 0 j = 0
    rw [up_eq]
  · show 12 < (va_up sh.1 0 (7, 0) i).1
    rw [up_ne (by omega), (d i (by omega)).1, sh00_n o2 (by omega)]
    decide
theorem mTab_lt : ∀ q ∈ mTab, q.1 < 55 := by decide
theorem start_LST {sh : WSh} {N : WNm} {o2 L b : Nat} (h : LSI L b sh N) (hb : sh.2.2 b = o2) (hf : ∀ k', 0 < k' → k' ≤ 10 → 13 < (sh.1 (b + k')).1) : LST sh N o2 L b 0 [] :=
  ⟨⟨h.1, Nat.zero_le _, h.2.1, h.2.2, Nat.zero_le _⟩, fun _ => hb, fun z => absurd z (Nat.lt_irrefl _), fun j hj => absurd hj (Nat.not_lt_zero _), hf⟩
theorem start_JI {o : Nat → Nat} {h0 q : Nat} {sh sh3 : WSh} {N N3 : WNm} (h : PX (sh00 (o 2)) zz h0 10 sh N) (h3 : PSt (shNew sh 0 (7, 0) q) (nNew N 0) q 55 sh3 N3) : JI o sh3 N3 := by
  obtain ⟨⟨b1, b2, b3⟩, bi, -, d, hR⟩ := h
  obtain ⟨⟨a1, a2, a3, a4, a5, a6, a7⟩, -⟩ := h3
  have F : ∀ a, 56 ≤ a → sh3.1 a = sh.1 a ∧ sh3.2.1 a = sh.2.1 a ∧ sh3.2.2 a = sh.2.2 a ∧ N3 a = N a := fun a ha => by
    have z := a5 a ha
    have e : ¬ a = 0 := by omega
    exact ⟨z.1.trans (up_ne e), z.2.1.trans (up_ne e), z.2.2.1.trans (up_ne e), z.2.2.2.trans (up_ne e)⟩
  have I : ∀ k, k < 10 → ITM k sh3 N3 := fun k hk => ITM.keep k (bi k hk).1 (fun i hi => by
    have z := F i (by have := iNum_in k hk i hi; omega)
    exact ⟨z.1, z.2.1, z.2.2.2⟩)
  have Fr : ∀ k, k < 10 → sh3.2.1 100 (iFld k) = some ((iNum k).headD 0) := fun k hk => by
    rw [(F 100 (by decide)).2.1]
    exact (bi k hk).2
  have fresh : ∀ i, 116 ≤ i → ¬ (i = 420 ∨ i = 440 ∨ i = 460 ∨ i = 480) → 13 < (sh3.1 i).1 := fun i hi hn => by
    rw [(F i (by omega)).1, (d i (by omega)).1, sh00_n _ hn]
    decide
  have adr : ∀ i, i = 420 ∨ i = 440 ∨ i = 460 ∨ i = 480 → sh3.2.2 i = o 2 := fun i hi => by
    rw [(F i (by omega)).2.2.1, (d i (by omega)).2.2.1]
    exact (sh00_b _ hi).2
  have c6 : (sh3.1 100).1 = 6 := by rw [(F 100 (by decide)).1]; exact b1
  have z100 : N3 100 = fun _ => 0 := by rw [(F 100 (by decide)).2.2.2]; exact b3
  have hR3 : RF sh3 := fun a k j hj => by
    by_cases ha : a ≤ 55
    · have z := (a4 a k j ha hj).2.2
      omega
    · have hj2 : (shNew sh 0 (7, 0) q).2.1 a k = some j := by rw [← (a5 a (by omega)).2.1]; exact hj
      have y := a6 a k j (by omega) hj2
      rw [(F a (by omega)).2.1] at hj
      rw [(F j y).1]
      exact hR a k j hj
  have i0 : ARR 101 10 sh3 N3 := I 0 (by decide)
  have i1 : ARR 102 12 sh3 N3 := I 1 (by decide)
  have i2 : ARR 103 12 sh3 N3 := I 2 (by decide)
  have i3 : ARR 104 30 sh3 N3 := I 3 (by decide)
  have i4 : LSI 105 420 sh3 N3 := I 4 (by decide)
  have i5 : LSI 106 440 sh3 N3 := I 5 (by decide)
  have i6 : LSI 107 460 sh3 N3 := I 6 (by decide)
  have i7 : RSh sh3 109 111 112 113 ∧ N3 111 = fun _ => 0 := I 7 (by decide)
  have i8 : (sh3.1 110).1 = 4 ∧ sh3.2.1 110 0 = some 114 ∧ sh3.2.1 110 1 = some 115 ∧ sh3.1 114 = (9, 13) ∧ sh3.1 115 = (9, 200) := I 8 (by decide)
  have i9 : LSI 108 480 sh3 N3 := I 9 (by decide)
  obtain ⟨⟨r1, r2, r3, r4, r5, r6, r7, -⟩, zT⟩ := i7
  have row : ∀ k t n, (k, t, n) ∈ mTab → MG N3 zz (k + 1) = mInit (k + 1) := fun k t n hm => by
    have hk := mTab_lt _ hm
    by_cases e : k + 1 ≤ 52
    · rw [MG_at _ _ e]
      exact (a3 _ hm hk).2.2
    · have : ∀ q ∈ mTab, ¬ q.1 + 1 ≤ 52 → (fun _ => 0 : Nat → Int32) = mInit (q.1 + 1) := by
        intro q hq hn
        unfold mInit
        rw [if_neg (by omega)]
      show (if k + 1 ≤ 52 then N3 (k + 1) else zz (k + 1)) = _
      rw [if_neg e]
      exact this _ hm e
  have m0 : MG N3 zz 0 = fun _ => 0 := by rw [MG_at _ _ (by decide)]; funext j; exact a7 j
  have w3 : MG N3 zz 3 = fun _ => 0 := row 2 9 10 (by decide)
  have w7 : MG N3 zz 7 = fun _ => 0 := row 6 9 12 (by decide)
  have w8 : MG N3 zz 8 = fun _ => 0 := row 7 9 12 (by decide)
  have w9 : MG N3 zz 9 = fun _ => 0 := row 8 9 30 (by decide)
  have w15 : MG N3 zz 15 = fun _ => 0 := row 14 9 8 (by decide)
  have w16 : MG N3 zz 16 = fun j => if j < 8 then -1 else 0 := row 15 9 8 (by decide)
  have w17 : MG N3 zz 17 = fun j => if j < 8 then -1 else 0 := row 16 9 8 (by decide)
  have w18 : MG N3 zz 18 = fun _ => 0 := row 17 9 8 (by decide)
  have w19 : MG N3 zz 19 = fun _ => 0 := row 18 9 8 (by decide)
  have w20 : MG N3 zz 20 = fun _ => 0 := row 19 9 8 (by decide)
  have w21 : MG N3 zz 21 = fun _ => 0 := row 20 9 8 (by decide)
  have w22 : MG N3 zz 22 = fun _ => 0 := row 21 11 8 (by decide)
  have w23 : MG N3 zz 23 = fun _ => 0 := row 22 9 80 (by decide)
  have w42 : MG N3 zz 42 = fun _ => 0 := row 41 9 31 (by decide)
  have no : ∀ {P : Prop} {a : Nat}, a < 0 → P := fun h => absurd h (Nat.not_lt_zero _)
  refine ⟨⟨a2, fun q hq => ⟨(a3 q hq (mTab_lt q hq)).1, (a3 q hq (mTab_lt q hq)).2.1⟩⟩, ⟨0, 0, 0, 0, 0, ⟨⟨?_, by decide⟩, ⟨?_, by decide⟩, ⟨?_, by decide, fun v hv => no hv⟩, ⟨?_, by decide⟩, ⟨?_, by decide⟩, fun k hk => no hk, fun a ha => no ha⟩, fun a ha => no ha, fun a _ ha => ⟨⟨?_, ?_, ?_, ?_, ?_, ?_, ?_, ?_⟩, fun p hp => ?_⟩, fun b hb => no hb, ⟨0, ?_, by decide⟩, fun p hp => no hp, fun v hv => no hv, fun a ha => no ha⟩, ⟨0, 0, 0, 0, 0, 0, 0, fun _ => 0, 0, [], ⟨⟨?_, ?_, ?_⟩, ⟨?_, ?_, ?_, by decide, by decide, by decide⟩, ⟨fun a ha => no ha, fun a ha => no ha, fun a ha => no ha⟩, ⟨fun a _ ha => ⟨fresh _ (by omega) (by omega), fresh _ (by omega) (by omega)⟩, fun a _ ha => fresh _ (by omega) (by omega), fun a _ ha => ⟨fresh _ (by omega) (by omega), fresh _ (by omega) (by omega)⟩⟩, hR3⟩, ⟨⟨?_, ?_, ?_, ?_⟩, ⟨?_, ?_, ?_, ?_⟩, fun a ha => no ha, fun a ha => no ha, fun a ha => no ha, fun a ha => no ha, fun a ha => no ha, ⟨?_, by decide, ?_, fun a ha => no ha⟩⟩, ?_, fun x hx => absurd hx List.not_mem_nil, ?_, ?_, ?_⟩⟩
  · rw [m0]; rfl
  · rw [m0]; rfl
  · rw [m0]; rfl
  · rw [m0]; rfl
  · rw [m0]; rfl
  · rw [w15]
  · rw [w16]; exact if_pos ha
  · rw [w17]; exact if_pos ha
  · rw [w18]
  · rw [w19]
  · rw [w20]
  · rw [w21]
  · rw [w22]
  · rw [w23]
  · rw [w42]; rfl
  · intro q hq
    simp only [xCls, List.mem_cons, List.not_mem_nil, or_false] at hq
    rcases hq with rfl | rfl | rfl | rfl
    · exact c6
    · exact r1
    · exact i8.1
    · exact r3
  · intro q hq
    simp only [xRef, List.mem_cons, List.not_mem_nil, or_false] at hq
    rcases hq with rfl | rfl | rfl | rfl | rfl | rfl | rfl | rfl | rfl | rfl | rfl | rfl | rfl | rfl | rfl
    · exact Fr 0 (by decide)
    · exact Fr 1 (by decide)
    · exact Fr 2 (by decide)
    · exact Fr 3 (by decide)
    · exact Fr 4 (by decide)
    · exact Fr 5 (by decide)
    · exact Fr 6 (by decide)
    · exact Fr 7 (by decide)
    · exact Fr 8 (by decide)
    · exact Fr 9 (by decide)
    · exact r2
    · exact r6
    · exact r4
    · exact i8.2.1
    · exact i8.2.2.1
  · intro q hq
    simp only [xArr, List.mem_cons, List.not_mem_nil, or_false] at hq
    rcases hq with rfl | rfl | rfl | rfl | rfl | rfl | rfl | rfl
    · exact i0.1
    · exact i1.1
    · exact i2.1
    · exact i3.1
    · exact r5
    · exact r7
    · exact i8.2.2.2.1
    · exact i8.2.2.2.2
  · exact start_LST i4 (adr 420 (by decide)) (fun k' h1 h2 => fresh _ (by omega) (by omega))
  · exact start_LST i5 (adr 440 (by decide)) (fun k' h1 h2 => fresh _ (by omega) (by omega))
  · exact start_LST i6 (adr 460 (by decide)) (fun k' h1 h2 => fresh _ (by omega) (by omega))
  · rw [m0, z100]
  · rw [m0, z100]
  · rw [m0, z100]
  · rw [m0, z100]
  · rw [w3]; exact i0.2
  · rw [w7]; exact i1.2
  · rw [w8]; exact i2.2
  · rw [w9]; exact i3.2
  · rw [zT]; rfl
  · rw [m0]; rfl
  · exact start_LST i9 (adr 480 (by decide)) (fun k' h1 h2 => fresh _ (by omega) (by omega))
  · rw [m0]; rfl
  · rw [m0]; rfl
  · rw [m0]; rfl
theorem start_J {p : Program} {l : Launch} {e : Env} {s : State} {m : MethodId} {below : List Frame} {meth : Method} {c : Code} {g : WGp} {b L : Nat} {xs : Nat → Int32} (C : Cx p s m #[Value.ref b] meth c g 4 RL cL_law ret) (hz : g.z = s.heap.size) {o : Nat → Nat} (hX : HX g o) (hX2 : HX2 g) (hX3 : HX3 g) (hT : va_T .int b L (fun j => .int (xs j)) g.A s s.heap) (hL : L ≤ 2560) : J p l e room_1 s m #[Value.ref b] below meth c (lw_Z below #[Value.ref b] s) g 4 (sh00 (o 2)) zz 0 0 0 [some (.ref b), none, none, none] [] := by
  have hg : GOK g := C.2.2.2.2.2.2.1
  refine j_new (i := 100) C nl_L_7 (by rw [sh00_n _ (by decide)]; decide) ((sh00_RF _).no (by rw [sh00_n _ (by decide)]; decide)) (Nat.le_of_ble_eq_true rfl) (Nat.le_of_ble_eq_true rfl) dL_law_0 (fun q => ?_)
  have hP := start_PX (o 2) q
  obtain ⟨sh1, e1⟩ : ∃ sh1, sh1 = shNew (sh00 (o 2)) 100 (6, 0) q := ⟨_, rfl⟩
  obtain ⟨N1, e2⟩ : ∃ N1, N1 = nNew zz 100 := ⟨_, rfl⟩
  have hq : q = sh1.2.2 100 := by rw [e1]; exact (show q = va_up (sh00 (o 2)).2.2 100 q 100 from (up_eq _ _ _).symm)
  rw [← e1, ← e2, hq] at hP ⊢
  clear e1 e2 hq
  refine j_dup C dL_law_3 rfl ?_
  refine j_callI0Vg (i := 100) C ml_L_9 dL_law_4 (cX_init hg hX hX3 (fun b hb => ⟨by rw [(sh00_b (o 2) hb).1]; exact Nat.le_refl _, (sh00_b (o 2) hb).2⟩) hP) ⟨Nat.le_of_ble_eq_true rfl, Nat.le_of_ble_eq_true rfl⟩ (Nat.le_of_ble_eq_true rfl) ⟨rfl, rfl⟩ ⟨Nat.le_of_ble_eq_true rfl, Nat.le_of_ble_eq_true rfl⟩ (fun sh2 N2 h2 => ?_)
  have e100 := h2.1.2.1
  rw [← e100] at h2 ⊢
  clear e100
  clear hP
  refine j_astore_n C dL_law_7 (by decide) rfl ?_
  have h14 : 13 < (sh2.1 0).1 := by rw [(h2.2.2.2.1 0 (by decide)).1, sh00_n _ (by decide)]; decide
  refine j_new (i := 0) C nl_L_10 (Nat.lt_trans (by decide) h14) (h2.2.2.2.2.no h14) (Nat.le_of_ble_eq_true rfl) (Nat.le_of_ble_eq_true rfl) dL_law_8 (fun q => ?_)
  have hS := start_PSt (q := q) h2
  have hJ : ∀ sh4 N4, PSt (shNew sh2 0 (7, 0) q) (nNew N2 0) q 55 sh4 N4 → JI o sh4 N4 := fun sh4 N4 h => start_JI h2 h
  obtain ⟨sh3, e1⟩ : ∃ sh3, sh3 = shNew sh2 0 (7, 0) q := ⟨_, rfl⟩
  obtain ⟨N3, e2⟩ : ∃ N3, N3 = nNew N2 0 := ⟨_, rfl⟩
  have hq : q = sh3.2.2 0 := by rw [e1]; exact (show q = va_up sh2.2.2 0 q 0 from (up_eq _ _ _).symm)
  have h100 : sh2.2.2 100 = sh3.2.2 100 := by rw [e1]; exact (show sh2.2.2 100 = va_up sh2.2.2 0 q 100 from (up_ne (by decide)).symm)
  rw [← e1, ← e2, hq] at hS hJ ⊢
  rw [h100]
  clear e1 e2 hq h100 h14 h2
  refine j_dup C dL_law_11 rfl ?_
  refine j_callI0Vg (i := 0) C ml_L_12 dL_law_12 (cM_init hg hS) ⟨Nat.le_of_ble_eq_true rfl, Nat.le_of_ble_eq_true rfl⟩ (Nat.le_of_ble_eq_true rfl) ⟨rfl, rfl⟩ ⟨Nat.le_of_ble_eq_true rfl, Nat.le_of_ble_eq_true rfl⟩ (fun sh4 N4 h4 => ?_)
  have j4 := hJ _ _ h4
  rw [← (h4.1.2.2.2.2.1 100 (by decide)).2.2.1, ← h4.1.1]
  clear h4 hS hJ
  refine j_astore_n C dL_law_15 (by decide) rfl ?_
  refine j_iconst C dL_law_16 (v := nI (5 * 0)) (by decide) ?_
  refine j_istore_n C dL_law_17 (by decide) rfl ?_
  refine J.widen (k := 100 + 10 * 0) (n := 20000 + 1084 * 0) (Nat.le_of_ble_eq_true rfl) (Nat.le_of_ble_eq_true rfl) ?_
  exact lw_loop (l := l) (e := e) (below := below) C hz hX hX2 hT hL (L + 1) 0 sh4 N4 (by omega) (by omega) j4
/-- YOUR PART: from the entry, for every script of at most 2560 ints, the law comes to its end with true -/
theorem whole_start {p : Program} {e : Env} {s : State} {m : MethodId} {below : List Frame} {meth : Method} {c : Code} (l : Launch) {b L : Nat} {xs : Nat → Int32} (hL : L ≤ 2560) (C0 : lw_At p s m meth c b L xs) : W p l e room_1 s m #[Value.ref b] below meth c s.heap [] 0 0 (lw_Z below #[Value.ref b] s) (entryFrame m ([Value.ref b] : List Value).toArray 4) := by
  obtain ⟨hx, hb, hr, hml, hown, hts, hX0, hbl, hlocks, hgv⟩ := C0
  have htT : ∀ w ∈ TBL, w.before #[Value.ref b] s = true := fun w hw => hts w (List.mem_filter.mp hw).1
  obtain ⟨D, tc, hK⟩ := start_K htT hts
  obtain ⟨o, hO⟩ := start_X hts hgv
  obtain ⟨g, eg⟩ : ∃ g : WGp, g = (D, tc, s.heap.size, fun U H => XO o (fun q => s.heap.size ≤ q) U H ∧ XO2 U ∧ XO3 U) := ⟨_, rfl⟩
  have hz : g.z = s.heap.size := by rw [eg]
  have hg : GOK g := by
    rw [eg]
    intro s1 U H H1 hW _ hq h
    exact ⟨XO.go hW (fun q h1 h2 => hq q h1 h2) h.1, XO2.go hW h.2.1, XO3.go hW h.2.2⟩
  have hX : HX g o := by rw [eg]; exact fun U H h => h.1
  have hX2 : HX2 g := by rw [eg]; exact fun U H h => h.2.1
  have hX3 : HX3 g := by rw [eg]; exact fun U H h => h.2.2
  have hKX : KX g s := by rw [eg]; exact ⟨hK, hO, Nat.le_refl _⟩
  have hA : ¬ g.A b := by rw [eg]; exact Nat.not_le_of_lt hbl
  clear eg
  have C : Cx p s m #[Value.ref b] meth c g 4 RL cL_law ret := ⟨hx, hb, hml, hown, htT, hKX, hg, hr, hlocks⟩
  have hT : va_T .int b L (fun j => .int (xs j)) g.A s s.heap := by
    obtain ⟨scr, a1, a2, a3, a4, a5⟩ := hX0
    exact ⟨scr, a1, a2, a3, Nat.le_of_eq a4.symm, by rw [a4], a5, hA⟩
  have hl := lv_entry [Value.ref b] (n := 4) (Nat.le_of_ble_eq_true rfl)
  rw [lg_entry_eq]
  refine start_J C hz hX hX2 hX3 hT hL s.heap [] _ (sh00_PIC g (o 2) s.heap) va_S.rf ⟨hl.1, hl.2.1, fun k v hk => hl.2.2 (k, v) ?_⟩
  match k, hk with
  | 0, hk =>
    cases hk
    exact List.mem_cons_self
  | 1, hk => cases hk
  | 2, hk => cases hk
  | 3, hk => cases hk
  | k + 4, hk => simp at hk
