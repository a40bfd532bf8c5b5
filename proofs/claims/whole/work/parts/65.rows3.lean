/-! ===== ROWS: arrays of references are written, made, copied; class objects; clone ===== -/
/-- more of the outside -/
def XO2 (U : State) : Prop :=
  (va_Nw (.castable (RR 0) "java/lang/Object") U ∧ va_Nw (.castable (RR 1) "java/lang/Object") U ∧ va_Nw (.castable (RR 5) "java/lang/Object") U ∧ va_Nw (.castable "[I" "java/lang/Cloneable") U) ∧ va_AO "java/lang/Object" U ∧ va_Dc U
theorem XO2.go {s U : State} (hW : s.WarmedH U.vm) (h : XO2 s) : XO2 U := by
  obtain ⟨⟨a1, a2, a3, a4⟩, b1, b2⟩ := h
  exact ⟨⟨va_Nw.warmC hW a1, va_Nw.warmC hW a2, va_Nw.warmC hW a3, va_Nw.warmC hW a4⟩, va_AO.moved hW.alike b1, va_Dc.moved hW.alike b2⟩
abbrev HX2 (g : WGp) : Prop := ∀ U H, g.X U H → XO2 U
/-- objects of this class may stand in rows of objects -/
def CO (ci : Nat) (U : State) : Prop := ci < 9 ∧ va_Nw (.castable (RR ci) "java/lang/Object") U
section Rows
variable {p : Program} {l : Launch} {e : Env} {R : Room} {s : State} {m : MethodId} {args : Array Value} {below : List Frame} {meth : Method} {c : Code} {Q : State → Prop} {g : WGp} {nL : Nat} {own : String} {cc : ByteArray} {ret : Option FieldType}
variable {sh : WSh} {N : WNm} {cells slots pc : Nat} {lv : List (Option Value)} {st : List Value}
theorem arr_row {i n : Nat} {H1 : Heap} {sh1 : WSh} {N1 : WNm} (h1 : sh1.1 i = (12, n)) (hc : H1[sh1.2.2 i]? = some (arrV (g.tc 3) n (fun j => va_rf ((sh1.2.1 i j).map sh1.2.2)))) : WC g sh1 N1 H1 i :=
  ⟨fun t => absurd t (by rw [h1]; simp), fun t => absurd t (by rw [h1]; simp), fun t => absurd t (by rw [h1]; simp), fun t => absurd t (by rw [h1]; simp), fun _ => by rw [h1]; exact hc⟩
theorem j_aast (C : Cx p s m args meth c g nL own cc ret) {i n k j ci : Nat} (ht : sh.1 i = (12, n)) (hk : k < n) (hn : n < 2147483648) (hj : (sh.1 j).1 = ci) (hca : CO ci s) (hd : decode cc pc = .ok (.aastore, 1)) (kk : J p l e R s m args below meth c Q g nL (sh.1, u2 sh.2.1 i k (some j), sh.2.2) N cells slots (pc + 1) lv st) : J p l e R s m args below meth c Q g nL sh N cells slots pc lv (.ref (sh.2.2 j) :: .int (nI k) :: .ref (sh.2.2 i) :: st) := by
  intro H locs ls a b d
  have hc := (a.1 i).2.2.2.2 (by rw [ht])
  rw [ht] at hc
  have hle : (sh.1 i).1 ≤ 12 := by simp [ht]
  obtain ⟨cellV, g1, g3, g2⟩ := pic_recv C a (i := j) (K := RR ci) ⟨by rw [hj]; exact hca.1, by rw [hj]⟩
  obtain ⟨kA, comp, k1, k2, k3, -⟩ := (C.2.2.2.2.2.1.1.2 3 _ rfl).2
  obtain ⟨kE, hkE, -⟩ := Vm.findClass_spec k3
  obtain ⟨c0, t1, f1, f2, f3⟩ := Cond.castable_spec (va_Nw.use (A := args) rfl hca.2)
  cases g2.symm.trans f1
  cases k3.symm.trans f2
  obtain ⟨kC, hkC, -⟩ := Vm.findClass_spec g2
  refine W.aast C.1 C.2.1 hc (fun q h => by cases h) (fun h => by cases h) k1 k2 rfl hkE ⟨nI_pos (by omega), by show _ < (arrV _ _ _).slots.size; rw [arrV_size, nI_clamp (by omega)]; exact hk⟩ g1 (fun q h => by rw [h] at g3; cases g3) hkC f3 rfl rfl hd fun H1 e1 z1 oq => ?_
  refine kk H1 _ ls (a.put hle rfl rfl (fun _ h => u2_row h) (fun _ _ => rfl) z1 oq (arr_row ht ?_)) (b.put z1 oq (a.2.2 i hle).1) d
  show H1[sh.2.2 i]? = _
  rw [e1, nI_clamp (by omega), arrV_store]
  congr 2
  funext q
  by_cases hq : q = k
  · subst hq
    simp [updV, u2, va_rf]
  · simp [updV, u2, hq]
theorem j_aastN (C : Cx p s m args meth c g nL own cc ret) {i n k : Nat} (ht : sh.1 i = (12, n)) (hk : k < n) (hn : n < 2147483648) (hd : decode cc pc = .ok (.aastore, 1)) (kk : J p l e R s m args below meth c Q g nL (sh.1, u2 sh.2.1 i k none, sh.2.2) N cells slots (pc + 1) lv st) : J p l e R s m args below meth c Q g nL sh N cells slots pc lv (.null :: .int (nI k) :: .ref (sh.2.2 i) :: st) := by
  intro H locs ls a b d
  have hc := (a.1 i).2.2.2.2 (by rw [ht])
  rw [ht] at hc
  have hle : (sh.1 i).1 ≤ 12 := by simp [ht]
  refine va_WaastN (C := "java/lang/Object") C.1 C.2.1 hc ((C.2.2.2.2.2.1.1.2 3 _ rfl).1 n (fun j => va_rf ((sh.2.1 i j).map sh.2.2))) (fun h => by cases h) (by show ¬ (_ < 0 ∨ (arrV _ _ _).slots.size ≤ _); rw [arrV_size]; exact vp_inN hk hn) rfl rfl hd fun H1 e1 z1 oq => ?_
  refine kk H1 _ ls (a.put hle rfl rfl (fun _ h => u2_row h) (fun _ _ => rfl) z1 oq (arr_row ht ?_)) (b.put z1 oq (a.2.2 i hle).1) d
  show H1[sh.2.2 i]? = _
  rw [e1, nI_clamp (by omega), arrV_store]
  congr 2
  funext q
  by_cases hq : q = k
  · subst hq
    simp [updV, u2, va_rf]
  · simp [updV, u2, hq]
theorem j_anew (C : Cx p s m args meth c g nL own cc ret) {idx i n : Nat} (hl : Cond.classLink own idx "java/lang/Object" ∈ TBL) (hX : XO2 s) (hn : n < 100000000) (hf : 12 < (sh.1 i).1) (hr : noRef sh i) (hcells : cells + 1 ≤ R.cells) (hslots : slots + n ≤ R.slots) (hd : decode cc pc = .ok (.anewarray idx, 3)) (kk : ∀ q : Nat, J p l e R s m args below meth c Q g nL (shNew sh i (12, n) q) (nNew N i) (cells + 1) (slots + n) (pc + 3) lv (.ref q :: st)) : J p l e R s m args below meth c Q g nL sh N cells slots pc lv (.int (nI n) :: st) := by
  intro H locs ls a b d
  refine W.anew C.1 C.2.1 C.2.2.2.1 (C.2.2.2.2.1 _ hl) (va_AO.use hX.2.1) rfl hd rfl (nI_pos (by omega)) (by rw [nI_clamp (by omega)]; omega) hcells (by rw [nI_clamp (by omega)]; exact hslots) fun cA kA comp f1 f2 f3 f4 => ?_
  have hcA : cA = g.tc 3 := by
    have hra := (C.2.2.2.2.2.1.1.2 3 _ rfl).2
    exact Option.some.inj (f1.symm.trans (va_nmO hra rfl))
  subst hcA
  rw [nI_clamp (by omega)]
  generalize hH1 : H.push ({ cls := g.tc 3, slots := Array.replicate n .null, vm := .none } : Cell) = H1
  have z1 : H1.size = H.size + 1 := by rw [← hH1, Array.size_push]
  have e1 : H1[H.size]? = some (arrV (g.tc 3) n (fun _ => .null)) := by rw [← hH1, Array.getElem?_push_size, ← arrV_new]
  have o1 : ∀ q : Nat, q < H.size → H1[q]? = H[q]? := fun q hq => by rw [← hH1, Array.getElem?_push, if_neg (Nat.ne_of_lt hq)]
  have hz : g.z ≤ H.size := Nat.le_trans C.2.2.2.2.2.1.2.2 b.1
  have e1i : (shNew sh i (12, n) H.size).1 i = (12, n) := up_eq _ _ _
  have e2i : (shNew sh i (12, n) H.size).2.1 i = (fun _ => none) := up_eq _ _ _
  have e3i : (shNew sh i (12, n) H.size).2.2 i = H.size := up_eq _ _ _
  have hP : PIC g (shNew sh i (12, n) H.size) (nNew N i) H1 := by
    refine a.new hf (fun x hx => up_ne hx) (fun x hx => up_ne hx) (fun x hx => up_ne hx) (fun x hx => up_ne hx) hr e3i hz z1 o1 (arr_row e1i ?_)
    rw [e3i, e1, e2i]
    rfl
  exact kk H.size H1 locs ls hP ⟨Nat.le_trans b.1 (by omega), fun x h1 h2 => (o1 x (Nat.lt_of_lt_of_le h1 b.1)).trans (b.2.1 x h1 h2), b.2.2⟩ d
theorem nn_toInt {k : Nat} (h : k < 2147483648) : (nI k).toInt = (k : Int) := nI_toInt (by omega)
/-- the machine copies a stretch of one row of references to another -/
theorem j_copyq (C : Cx p s m args meth c g nL own cc ret) {idx i0 i1 n0 n1 s0 d0 k ci : Nat} (hl : Cond.methodLink own idx arraycopyName ∈ TBL) (hnat : Cond.native arraycopyName ∈ TBL) (hstat : Cond.static arraycopyName ∈ TBL) (hini : Cond.initialized "java/lang/System" ∈ TBL) (ht0 : sh.1 i0 = (12, n0)) (ht1 : sh.1 i1 = (12, n1)) (h4 : s0 + k ≤ n0) (h5 : d0 + k ≤ n1) (hb0 : n0 < 2147483648) (hb1 : n1 < 2147483648) (hca : CO ci s) (hel : ∀ j, j < k → ∀ y, sh.2.1 i0 (s0 + j) = some y → (sh.1 y).1 = ci)
    (hfr : 1 ≤ R.frames) (hlo : (st.map fun v => v.category).sum + (nativeFrameWords "java/lang/System" "arraycopy" 5 + 11) ≤ R.locals) (hd : decode cc pc = .ok (.invokestatic idx, 3))
    (kk : J p l e R s m args below meth c Q g nL (sh.1, va_up sh.2.1 i1 (va_cpy (sh.2.1 i0) (sh.2.1 i1) s0 d0 k), sh.2.2) N cells slots (pc + 3) lv st) : J p l e R s m args below meth c Q g nL sh N cells slots pc lv (.int (nI k) :: .int (nI d0) :: .ref (sh.2.2 i1) :: .int (nI s0) :: .ref (sh.2.2 i0) :: st) := by
  intro H locs ls a b d T hT X
  have hc0 := (a.1 i0).2.2.2.2 (by rw [ht0])
  rw [ht0] at hc0
  have hc1 := (a.1 i1).2.2.2.2 (by rw [ht1])
  rw [ht1] at hc1
  have hle : (sh.1 i1).1 ≤ 12 := by simp [ht1]
  have hK := C.2.2.2.2.2.1.1
  obtain ⟨-, k0, hk0, cm0, hkk0⟩ := (hK.2 3 _ rfl).1 n0 (fun j => va_rf ((sh.2.1 i0 j).map sh.2.2))
  obtain ⟨-, k1, hk1, cm1, hkk1⟩ := (hK.2 3 _ rfl).1 n1 (fun j => va_rf ((sh.2.1 i1 j).map sh.2.2))
  have ec : (nI k).toNatClampNeg = k := nI_clamp (by omega)
  have es : (nI s0).toNatClampNeg = s0 := nI_clamp (by omega)
  have ed : (nI d0).toNatClampNeg = d0 := nI_clamp (by omega)
  obtain ⟨vm', X', step⟩ := X.arraycopy C.1 C.2.2.2.1 (C.2.2.2.2.1 _ hl) (C.2.2.2.2.1 _ hnat) (C.2.2.2.2.1 _ hstat) (C.2.2.2.2.1 _ hini) (src := sh.2.2 i0) (dst := sh.2.2 i1) (srcPos := nI s0) (destPos := nI d0) (n := nI k) (by rw [hT]; exact hc0) (by rw [hT]; exact hc1)
    (fun _ h => by cases h) (fun _ h => by cases h) (fun h => by cases h) (fun h => by cases h) hk0 hk1 hkk0 hkk1 rfl (nI_pos (by omega)) (nI_pos (by omega)) (nI_pos (by omega))
    (by rw [nn_toInt (by omega), nn_toInt (by omega)]; show ¬ _ > ((arrV _ _ _).slots.size : Int); rw [arrV_size]; omega)
    (by rw [nn_toInt (by omega), nn_toInt (by omega)]; show ¬ _ > ((arrV _ _ _).slots.size : Int); rw [arrV_size]; omega)
    (fun vm₁ hal j hj => by
      rw [ec] at hj
      have e0 : (arrV (g.tc 3) n0 (fun j => va_rf ((sh.2.1 i0 j).map sh.2.2))).slots.getD ((nI s0).toNatClampNeg + j) .null = va_rf ((sh.2.1 i0 (s0 + j)).map sh.2.2) := by
        rw [Array.getD_eq_getD_getElem?, es, arrV_read _ _ (by omega)]
        rfl
      rw [e0]
      cases hy : sh.2.1 i0 (s0 + j) with
      | none => exact ⟨rfl, trivial⟩
      | some y =>
        have hyc := hel j hj y hy
        obtain ⟨cellV, g1, g2, g3⟩ := pic_recv C a (i := y) (K := RR ci) ⟨by rw [hyc]; exact hca.1, by rw [hyc]⟩
        obtain ⟨kA, comp, r1, r2, r3, -⟩ := (hK.2 3 _ rfl).2
        cases hk1.symm.trans r1
        cases hkk1.symm.trans r2
        obtain ⟨c0, t1, f1, f2, f3⟩ := Cond.castable_spec (va_Nw.use (A := args) rfl hca.2)
        cases g3.symm.trans f1
        cases r3.symm.trans f2
        obtain ⟨kC, hkC, -⟩ := Vm.findClass_spec g3
        obtain ⟨kE, hkE, -⟩ := Vm.findClass_spec r3
        obtain ⟨kC', hkC', -⟩ := hal.2.2 _ _ hkC
        obtain ⟨kE', hkE', -⟩ := hal.2.2 _ _ hkE
        refine ⟨rfl, cellV, (show T.heap[sh.2.2 y]? = some cellV by rw [hT]; exact g1), (fun q h => by rw [h] at g2; cases g2), ⟨kC', hkC'⟩, ⟨kE', hkE'⟩, ?_⟩
        show vm₁.assignable _ _ = true
        rw [hal.assignable]
        exact f3)
    (g := F0 m pc ls (.int (nI k) :: .int (nI d0) :: .ref (sh.2.2 i1) :: .int (nI s0) :: .ref (sh.2.2 i0) :: st)) rfl (by rw [C.2.2.1]; exact d.1) (rest := st) rfl (by rw [C.2.1]; exact hd) hfr (by show 2 * 0 + _ + _ ≤ _; omega)
  have e1 : copied (arrV (g.tc 3) n0 (fun j => va_rf ((sh.2.1 i0 j).map sh.2.2))) (arrV (g.tc 3) n1 (fun j => va_rf ((sh.2.1 i1 j).map sh.2.2))) (nI s0) (nI d0) (nI k) = arrV (g.tc 3) n1 (fun j => va_rf ((va_cpy (sh.2.1 i0) (sh.2.1 i1) s0 d0 k j).map sh.2.2)) := by
    have h := va_copied (fun z : Option Nat => va_rf (z.map sh.2.2)) (g.tc 3) (g.tc 3) (n0 := n0) (n1 := n1) (sp := s0) (dp := d0) (n := k) (sh.2.1 i0) (sh.2.1 i1) h4
    rw [← h]
    show (arrV _ _ _).storeRun (nI d0).toNatClampNeg ((arrV _ _ _).stretch (nI s0).toNatClampNeg (nI k).toNatClampNeg) = _
    rw [ec, es, ed]
  rw [e1] at X' step
  have hlt : sh.2.2 i1 < H.size := (a.2.2 i1 hle).2
  generalize hcell : arrV (g.tc 3) n1 (fun j => va_rf ((va_cpy (sh.2.1 i0) (sh.2.1 i1) s0 d0 k j).map sh.2.2)) = cell at X' step
  have hheap : ((T.setVm vm').setCell (sh.2.2 i1) cell).heap = H.setIfInBounds (sh.2.2 i1) cell := by rw [← hT]; rfl
  have oq : ∀ q : Nat, q ≠ sh.2.2 i1 → (H.setIfInBounds (sh.2.2 i1) cell)[q]? = H[q]? := fun q hq => by simp [Array.getElem?_setIfInBounds, Ne.symm hq]
  have hP : PIC g (sh.1, va_up sh.2.1 i1 (va_cpy (sh.2.1 i0) (sh.2.1 i1) s0 d0 k), sh.2.2) N (H.setIfInBounds (sh.2.2 i1) cell) := by
    refine a.put hle rfl rfl (fun x hx => up_ne hx) (fun _ _ => rfl) (by simp) oq (arr_row ht1 ?_)
    show (H.setIfInBounds (sh.2.2 i1) cell)[sh.2.2 i1]? = some (arrV (g.tc 3) n1 (fun j => va_rf ((va_up sh.2.1 i1 (va_cpy (sh.2.1 i0) (sh.2.1 i1) s0 d0 k) i1 j).map sh.2.2)))
    rw [up_eq, hcell]
    simp [Array.getElem?_setIfInBounds, hlt]
  obtain ⟨t, a1, b1⟩ := kk _ _ ls hP ⟨by simp; exact b.1, fun q g1 g2 => by
      rw [oq q (fun z => g2 (by rw [z]; exact (a.2.2 i1 hle).1))]
      exact b.2.1 q g1 g2, fun q hq => by
      rcases List.mem_append.mp hq with h | h
      · exact b.2.2 q h
      · obtain ⟨z, -, hz⟩ := List.mem_map.mp h
        rw [← hz]
        exact (a.2.2 i1 hle).1⟩ d _ hheap X'
  exact ⟨t, step t a1, b1⟩
/-- the machine copies a stretch of one row of ints to another -/
theorem j_copyi (C : Cx p s m args meth c g nL own cc ret) {idx i0 i1 n0 n1 s0 d0 k : Nat} (hl : Cond.methodLink own idx arraycopyName ∈ TBL) (hnat : Cond.native arraycopyName ∈ TBL) (hstat : Cond.static arraycopyName ∈ TBL) (hini : Cond.initialized "java/lang/System" ∈ TBL) (ht0 : sh.1 i0 = (9, n0)) (ht1 : sh.1 i1 = (9, n1)) (h4 : s0 + k ≤ n0) (h5 : d0 + k ≤ n1) (hb0 : n0 < 2147483648) (hb1 : n1 < 2147483648)
    (hfr : 1 ≤ R.frames) (hlo : (st.map fun v => v.category).sum + (nativeFrameWords "java/lang/System" "arraycopy" 5 + 11) ≤ R.locals) (hd : decode cc pc = .ok (.invokestatic idx, 3))
    (kk : J p l e R s m args below meth c Q g nL sh (va_up N i1 (va_cpy (N i0) (N i1) s0 d0 k)) cells slots (pc + 3) lv st) : J p l e R s m args below meth c Q g nL sh N cells slots pc lv (.int (nI k) :: .int (nI d0) :: .ref (sh.2.2 i1) :: .int (nI s0) :: .ref (sh.2.2 i0) :: st) := by
  intro H locs ls a b d T hT X
  have hc0 := (a.1 i0).2.1 (by rw [ht0])
  rw [ht0] at hc0
  have hc1 := (a.1 i1).2.1 (by rw [ht1])
  rw [ht1] at hc1
  have hle : (sh.1 i1).1 ≤ 12 := by simp [ht1]
  have hK := C.2.2.2.2.2.1.1
  obtain ⟨-, k0, hk0, cm0, hkk0⟩ := (hK.2 0 _ rfl).1 n0 (fun j => .int (N i0 j))
  obtain ⟨-, k1, hk1, cm1, hkk1⟩ := (hK.2 0 _ rfl).1 n1 (fun j => .int (N i1 j))
  have ec : (nI k).toNatClampNeg = k := nI_clamp (by omega)
  have es : (nI s0).toNatClampNeg = s0 := nI_clamp (by omega)
  have ed : (nI d0).toNatClampNeg = d0 := nI_clamp (by omega)
  obtain ⟨vm', X', step⟩ := X.arraycopy C.1 C.2.2.2.1 (C.2.2.2.2.1 _ hl) (C.2.2.2.2.1 _ hnat) (C.2.2.2.2.1 _ hstat) (C.2.2.2.2.1 _ hini) (src := sh.2.2 i0) (dst := sh.2.2 i1) (srcPos := nI s0) (destPos := nI d0) (n := nI k) (by rw [hT]; exact hc0) (by rw [hT]; exact hc1)
    (fun _ h => by cases h) (fun _ h => by cases h) (fun h => by cases h) (fun h => by cases h) hk0 hk1 hkk0 hkk1 rfl (nI_pos (by omega)) (nI_pos (by omega)) (nI_pos (by omega))
    (by rw [nn_toInt (by omega), nn_toInt (by omega)]; show ¬ _ > ((arrV _ _ _).slots.size : Int); rw [arrV_size]; omega)
    (by rw [nn_toInt (by omega), nn_toInt (by omega)]; show ¬ _ > ((arrV _ _ _).slots.size : Int); rw [arrV_size]; omega)
    (fun vm₁ hal j hj => by
      rw [ec] at hj
      have e0 : (arrV (g.tc 0) n0 (fun j => .int (N i0 j))).slots.getD ((nI s0).toNatClampNeg + j) .null = .int (N i0 (s0 + j)) := by
        rw [Array.getD_eq_getD_getElem?, es, arrV_read _ _ (by omega)]
        rfl
      rw [e0]
      exact ⟨rfl, trivial⟩)
    (g := F0 m pc ls (.int (nI k) :: .int (nI d0) :: .ref (sh.2.2 i1) :: .int (nI s0) :: .ref (sh.2.2 i0) :: st)) rfl (by rw [C.2.2.1]; exact d.1) (rest := st) rfl (by rw [C.2.1]; exact hd) hfr (by show 2 * 0 + _ + _ ≤ _; omega)
  have e1 : copied (arrV (g.tc 0) n0 (fun j => .int (N i0 j))) (arrV (g.tc 0) n1 (fun j => .int (N i1 j))) (nI s0) (nI d0) (nI k) = arrV (g.tc 0) n1 (fun j => .int (va_cpy (N i0) (N i1) s0 d0 k j)) := by
    have h := va_copied (fun z : Int32 => .int z) (g.tc 0) (g.tc 0) (n0 := n0) (n1 := n1) (sp := s0) (dp := d0) (n := k) (N i0) (N i1) h4
    rw [← h]
    show (arrV _ _ _).storeRun (nI d0).toNatClampNeg ((arrV _ _ _).stretch (nI s0).toNatClampNeg (nI k).toNatClampNeg) = _
    rw [ec, es, ed]
  rw [e1] at X' step
  have hlt : sh.2.2 i1 < H.size := (a.2.2 i1 hle).2
  generalize hcell : arrV (g.tc 0) n1 (fun j => Value.int (va_cpy (N i0) (N i1) s0 d0 k j)) = cell at X' step
  have hheap : ((T.setVm vm').setCell (sh.2.2 i1) cell).heap = H.setIfInBounds (sh.2.2 i1) cell := by rw [← hT]; rfl
  have oq : ∀ q : Nat, q ≠ sh.2.2 i1 → (H.setIfInBounds (sh.2.2 i1) cell)[q]? = H[q]? := fun q hq => by simp [Array.getElem?_setIfInBounds, Ne.symm hq]
  have hP : PIC g sh (va_up N i1 (va_cpy (N i0) (N i1) s0 d0 k)) (H.setIfInBounds (sh.2.2 i1) cell) := by
    refine a.put hle rfl rfl (fun _ _ => rfl) (fun x hx => up_ne hx) (by simp) oq ⟨fun t => absurd t (by rw [ht1]; simp), fun _ => ?_, fun t => absurd t (by rw [ht1]; simp), fun t => absurd t (by rw [ht1]; simp), fun t => absurd t (by rw [ht1]; simp)⟩
    rw [ht1, up_eq, hcell]
    simp [Array.getElem?_setIfInBounds, hlt]
  obtain ⟨t, a1, b1⟩ := kk _ _ ls hP ⟨by simp; exact b.1, fun q g1 g2 => by
      rw [oq q (fun z => g2 (by rw [z]; exact (a.2.2 i1 hle).1))]
      exact b.2.1 q g1 g2, fun q hq => by
      rcases List.mem_append.mp hq with h | h
      · exact b.2.2 q h
      · obtain ⟨z, -, hz⟩ := List.mem_map.mp h
        rw [← hz]
        exact (a.2.2 i1 hle).1⟩ d _ hheap X'
  exact ⟨t, step t a1, b1⟩
/-- a row of ints is made anew -/
theorem j_clone (C : Cx p s m args meth c g nL own cc ret) {idx i0 i n : Nat} (hl : Cond.methodLink own idx ⟨"[I", "clone", "()Ljava/lang/Object;"⟩ ∈ TBL) (hsame : Cond.sameMethod "[I" "java/lang/Object" "clone" "()Ljava/lang/Object;" ∈ TBL) (hnat : Cond.native ⟨"java/lang/Object", "clone", "()Ljava/lang/Object;"⟩ ∈ TBL) (hinst : Cond.instanceMethod ⟨"java/lang/Object", "clone", "()Ljava/lang/Object;"⟩ ∈ TBL) (hsel : Cond.selects "[I" ⟨"[I", "clone", "()Ljava/lang/Object;"⟩ ⟨"java/lang/Object", "clone", "()Ljava/lang/Object;"⟩ ∈ TBL) (hX : XO2 s) (ht : sh.1 i0 = (9, n)) (hf : 12 < (sh.1 i).1) (hr : noRef sh i) (hfr : 1 ≤ R.frames) (hlo : (st.map fun v => v.category).sum + 14 ≤ R.locals) (hcells : cells + 1 ≤ R.cells) (hslots : slots + n ≤ R.slots) (hd : decode cc pc = .ok (.invokevirtual idx, 3))
    (kk : ∀ q : Nat, J p l e R s m args below meth c Q g nL (shNew sh i (9, n) q) (va_up N i (N i0)) (cells + 1) (slots + n) (pc + 3) lv (.ref q :: st)) : J p l e R s m args below meth c Q g nL sh N cells slots pc lv (.ref (sh.2.2 i0) :: st) := by
  intro H locs ls a b d T hT X
  have hc0 := (a.1 i0).2.1 (by rw [ht])
  rw [ht] at hc0
  have hK := C.2.2.2.2.2.1.1
  have hnm : s.vm.findClass "[I" = some (g.tc 0) := va_nm_int (hK.2 0 _ rfl).2
  obtain ⟨c0, t0', f1, f2, f3⟩ := Cond.castable_spec (va_Nw.use (A := args) rfl hX.1.2.2.2)
  cases hnm.symm.trans f1
  generalize hcell : arrV (g.tc 0) n (fun j => Value.int (N i0 j)) = cell at hc0
  have hvm0 : cell.vm = .none := by rw [← hcell]; rfl
  have hcl0 : cell.cls = g.tc 0 := by rw [← hcell]; rfl
  have hsz : cell.slots.size = n := by rw [← hcell]; exact arrV_size _ _ _
  have hcellE : ({ cls := cell.cls, slots := cell.slots } : Cell) = cell := by rw [← hcell]; rfl
  obtain ⟨-, kA, hkA, comp, hkind⟩ := State.isArrayOf_alike X.warmed.alike ((hK.2 0 _ rfl).1 0 (fun _ => .null))
  obtain ⟨-, kS, hkS, compS, hkindS⟩ := (hK.2 0 _ rfl).1 0 (fun _ => .null)
  obtain ⟨vm', X', stp⟩ := X.cloneArray C.1 C.2.2.2.1 (C.2.2.2.2.1 _ hl) (C.2.2.2.2.1 _ hsame) (C.2.2.2.2.1 _ hnat) (C.2.2.2.2.1 _ hinst) (C.2.2.2.2.1 _ hsel) (a := sh.2.2 i0) (cell := cell) (by rw [hT]; exact hc0) (fun k h => by rw [hvm0] at h; cases h) (by rw [hvm0]; exact fun h => by cases h) (by rw [hcl0]; exact hnm) f2 (by rw [hcl0]; exact f3)
    (fun j v hv => by
      rw [hcl0]
      have hk' : T.vm.classes[g.tc 0]? = some kA := hkA
      have hfit : fits .int v = true := by
        rw [← hcell] at hv
        exact va_fit (F := fun j => Value.int (N i0 j)) (fun _ _ => rfl) j v hv
      simpa [State.fitsSlot, State.slotType?, hk', hkind] using hfit)
    (g := F0 m pc ls (.ref (sh.2.2 i0) :: st)) rfl (by rw [C.2.2.1]; exact d.1) rfl (by rw [C.2.1]; exact hd) hfr (by show 2 * 0 + _ + 14 ≤ _; omega) hcells (by rw [hsz]; exact hslots) (hloader := by rw [hcl0]; exact Vm.clonesLoader_of_array hkS hkindS)
  rw [hcellE, hsz] at X'
  generalize hH1 : H.push cell = H1
  have z1 : H1.size = H.size + 1 := by rw [← hH1, Array.size_push]
  have e1 : H1[H.size]? = some cell := by rw [← hH1, Array.getElem?_push_size]
  have o1 : ∀ q : Nat, q < H.size → H1[q]? = H[q]? := fun q hq => by rw [← hH1, Array.getElem?_push, if_neg (Nat.ne_of_lt hq)]
  have hz : g.z ≤ H.size := Nat.le_trans C.2.2.2.2.2.1.2.2 b.1
  have e1i : (shNew sh i (9, n) H.size).1 i = (9, n) := up_eq _ _ _
  have e3i : (shNew sh i (9, n) H.size).2.2 i = H.size := up_eq _ _ _
  have hP : PIC g (shNew sh i (9, n) H.size) (va_up N i (N i0)) H1 := by
    refine a.new hf (fun x hx => up_ne hx) (fun x hx => up_ne hx) (fun x hx => up_ne hx) (fun x hx => up_ne hx) hr e3i hz z1 o1 ⟨fun t => absurd t (by rw [e1i]; simp), fun _ => ?_, fun t => absurd t (by rw [e1i]; simp), fun t => absurd t (by rw [e1i]; simp), fun t => absurd t (by rw [e1i]; simp)⟩
    rw [e1i, e3i, e1, up_eq, hcell]
  obtain ⟨t, b1, b2⟩ := kk H.size H1 locs ls hP ⟨Nat.le_trans b.1 (by omega), fun x h1 h2 => (o1 x (Nat.lt_of_lt_of_le h1 b.1)).trans (b.2.1 x h1 h2), b.2.2⟩ d ((T.setVm vm').pushCell cell) (by rw [← hH1, ← hT]; rfl) X'
  refine ⟨t, stp t ?_, b2⟩
  rw [hcellE, hT]
  exact b1
/-- the class object of a row of references -/
theorem j_getC (C : Cx p s m args meth c g nL own cc ret) {idx i n mi : Nat} (hl : Cond.methodLink own idx ⟨"java/lang/Object", "getClass", "()Ljava/lang/Class;"⟩ ∈ TBL) (hsel : Cond.selects "[Ljava/lang/Object;" ⟨"java/lang/Object", "getClass", "()Ljava/lang/Class;"⟩ ⟨"java/lang/Object", "getClass", "()Ljava/lang/Class;"⟩ ∈ TBL) (hinst : Cond.instanceMethod ⟨"java/lang/Object", "getClass", "()Ljava/lang/Class;"⟩ ∈ TBL) (hnat : Cond.native ⟨"java/lang/Object", "getClass", "()Ljava/lang/Class;"⟩ ∈ TBL) (hX : XO2 s) (hM : va_Mi "[Ljava/lang/Object;" mi s) (ht : sh.1 i = (12, n)) (hfr : 1 ≤ R.frames) (hlo : (st.map fun v => v.category).sum + 14 ≤ R.locals) (hd : decode cc pc = .ok (.invokevirtual idx, 3))
    (kk : J p l e R s m args below meth c Q g nL sh N cells slots (pc + 3) lv (.ref mi :: st)) : J p l e R s m args below meth c Q g nL sh N cells slots pc lv (.ref (sh.2.2 i) :: st) := by
  intro H locs ls a b d
  have hc := (a.1 i).2.2.2.2 (by rw [ht])
  rw [ht] at hc
  exact va_getC C.1 C.2.1 (by rw [C.2.2.1, d.1]) C.2.2.2.1 (C.2.2.2.2.1 _ hl) (va_Dc.use hX.2.2) (C.2.2.2.2.1 _ hsel) (C.2.2.2.2.1 _ hinst) (C.2.2.2.2.1 _ hnat) hM ⟨_, hc, rfl, va_nmO (C.2.2.2.2.2.1.1.2 3 _ rfl).2 rfl⟩ hfr hlo hd (kk H locs ls a b d)
theorem j_ldcM (C : Cx p s m args meth c g nL own cc ret) {idx mi : Nat} (hl : Cond.classLink own idx "[Ljava/lang/Object;" ∈ TBL) (hM : va_Mi "[Ljava/lang/Object;" mi s) (hd : decode cc pc = .ok (.ldc idx, 2)) (kk : J p l e R s m args below meth c Q g nL sh N cells slots (pc + 2) lv (.ref mi :: st)) : J p l e R s m args below meth c Q g nL sh N cells slots pc lv st := fun H locs ls a b d => va_ldcM C.1 C.2.1 C.2.2.2.1 (C.2.2.2.2.1 _ hl) hM hd (kk H locs ls a b d)
end Rows
