/-! ===== CELLS ARE MADE ===== -/
def shNew (sh : WSh) (i : Nat) (tl : Nat × Nat) (q : Nat) : WSh := (va_up sh.1 i tl, va_up sh.2.1 i (fun _ => none), va_up sh.2.2 i q)
def nNew (N : WNm) (i : Nat) : WNm := va_up N i (fun _ => 0)
theorem up_eq {α : Type} (f : Nat → α) (i : Nat) (v : α) : va_up f i v i = v := by simp [va_up]
theorem up_ne {α : Type} {f : Nat → α} {i a : Nat} {v : α} (h : a ≠ i) : va_up f i v a = f a := by simp [va_up, h]
/-- no other cell's reference names the number i -/
def noRef (sh : WSh) (i : Nat) : Prop := ∀ a k j, a ≠ i → sh.2.1 a k = some j → j ≠ i
theorem tb_arr_int : Cond.arrayClass .int ∈ TBL := tbl_in 119 (by decide +kernel) rfl
theorem tb_arr_byte : Cond.arrayClass .byte ∈ TBL := tbl_in 674 (by decide +kernel) rfl
theorem tb_arr_bool : Cond.arrayClass .boolean ∈ TBL := tbl_in 1016 (by decide +kernel) rfl
theorem cb_int {n : Nat} (h : n < 100000000) : n * componentBytes (newarray.typeOf .int) ≤ 536870912 := by
  have e : componentBytes (newarray.typeOf .int) = 4 := rfl
  rw [e]; omega
theorem cb_byte {n : Nat} (h : n < 100000000) : n * componentBytes (newarray.typeOf .byte) ≤ 536870912 := by
  have e : componentBytes (newarray.typeOf .byte) = 1 := rfl
  rw [e]; omega
theorem cb_bool {n : Nat} (h : n < 100000000) : n * componentBytes (newarray.typeOf .boolean) ≤ 536870912 := by
  have e : componentBytes (newarray.typeOf .boolean) = 1 := rfl
  rw [e]; omega
theorem ty_def : ∀ c, c < 9 → ∀ k, k < nF c → defaultValue (tyT c k) = (if isI c k = true then Value.int 0 else Value.null) := cls9 (by decide +kernel) (by decide +kernel) (by decide +kernel) (by decide +kernel) (by decide +kernel) (by decide +kernel) (by decide +kernel) (by decide +kernel) (by decide +kernel)
section Rows
variable {p : Program} {l : Launch} {e : Env} {R : Room} {s : State} {m : MethodId} {args : Array Value} {below : List Frame} {meth : Method} {c : Code} {Q : State → Prop} {g : WGp} {nL : Nat} {own : String} {cc : ByteArray} {ret : Option FieldType}
variable {sh : WSh} {N : WNm} {cells slots pc : Nat} {lv : List (Option Value)} {st : List Value}
theorem j_newa_int (C : Cx p s m args meth c g nL own cc ret) {i n : Nat} {x : Int32} (hx : x = nI n) (hn : n < 100000000) (hf : 12 < (sh.1 i).1) (hr : noRef sh i) (hcells : cells + 1 ≤ R.cells) (hslots : slots + n ≤ R.slots) (hd : decode cc pc = .ok (.newarray .int, 2)) (kk : ∀ q : Nat, J p l e R s m args below meth c Q g nL (shNew sh i (9, n) q) (nNew N i) (cells + 1) (slots + n) (pc + 2) lv (.ref q :: st)) : J p l e R s m args below meth c Q g nL sh N cells slots pc lv (.int x :: st) := by
  intro H locs ls a b d
  subst hx
  refine va_newaK (atype := .int) C.1 C.2.1 (C.2.2.2.2.1 _ tb_arr_int) rfl hd rfl (nI_pos (by omega)) (nI_clamp (by omega)) (cb_int hn) hcells hslots rfl fun H1 cA e1 z1 o1 hAr hNm => ?_
  have hcA : cA = g.tc 0 := Option.some.inj (hNm.symm.trans (C.2.2.2.2.2.1.1.2 0 _ rfl).2)
  subst hcA
  have hz : g.z ≤ H.size := Nat.le_trans C.2.2.2.2.2.1.2.2 b.1
  have e1i : (shNew sh i (9, n) H.size).1 i = (9, n) := up_eq _ _ _
  have e3i : (shNew sh i (9, n) H.size).2.2 i = H.size := up_eq _ _ _
  have hP : PIC g (shNew sh i (9, n) H.size) (nNew N i) H1 := by
    refine a.new hf (fun x hx => up_ne hx) (fun x hx => up_ne hx) (fun x hx => up_ne hx) (fun x hx => up_ne hx) hr e3i hz z1 o1 ⟨fun t => absurd t (by rw [e1i]; simp), fun _ => ?_, fun t => absurd t (by rw [e1i]; simp), fun t => absurd t (by rw [e1i]; simp), fun t => absurd t (by rw [e1i]; simp)⟩
    rw [e1i, e3i, e1]
    congr 2
    funext j
    show defaultValue .int = .int (va_up N i (fun _ => 0) i j)
    rw [up_eq]
    rfl
  exact kk H.size H1 locs ls hP ⟨Nat.le_trans b.1 (by omega), fun x h1 h2 => (o1 x (Nat.lt_of_lt_of_le h1 b.1)).trans (b.2.1 x h1 h2), b.2.2⟩ d
theorem j_newa_byte (C : Cx p s m args meth c g nL own cc ret) {i n : Nat} {x : Int32} (hx : x = nI n) (hn : n < 100000000) (hf : 12 < (sh.1 i).1) (hr : noRef sh i) (hcells : cells + 1 ≤ R.cells) (hslots : slots + n ≤ R.slots) (hd : decode cc pc = .ok (.newarray .byte, 2)) (kk : ∀ q : Nat, J p l e R s m args below meth c Q g nL (shNew sh i (10, n) q) (nNew N i) (cells + 1) (slots + n) (pc + 2) lv (.ref q :: st)) : J p l e R s m args below meth c Q g nL sh N cells slots pc lv (.int x :: st) := by
  intro H locs ls a b d
  subst hx
  refine va_newaK (atype := .byte) C.1 C.2.1 (C.2.2.2.2.1 _ tb_arr_byte) rfl hd rfl (nI_pos (by omega)) (nI_clamp (by omega)) (cb_byte hn) hcells hslots rfl fun H1 cA e1 z1 o1 hAr hNm => ?_
  have hcA : cA = g.tc 1 := Option.some.inj (hNm.symm.trans (C.2.2.2.2.2.1.1.2 1 _ rfl).2)
  subst hcA
  have hz : g.z ≤ H.size := Nat.le_trans C.2.2.2.2.2.1.2.2 b.1
  have e1i : (shNew sh i (10, n) H.size).1 i = (10, n) := up_eq _ _ _
  have e3i : (shNew sh i (10, n) H.size).2.2 i = H.size := up_eq _ _ _
  have hP : PIC g (shNew sh i (10, n) H.size) (nNew N i) H1 := by
    refine a.new hf (fun x hx => up_ne hx) (fun x hx => up_ne hx) (fun x hx => up_ne hx) (fun x hx => up_ne hx) hr e3i hz z1 o1 ⟨fun t => absurd t (by rw [e1i]; simp), fun t => absurd t (by rw [e1i]; simp), fun _ => ?_, fun t => absurd t (by rw [e1i]; simp), fun t => absurd t (by rw [e1i]; simp)⟩
    rw [e1i, e3i, e1]
    congr 2
    funext j
    show defaultValue .byte = .int (va_up N i (fun _ => 0) i j)
    rw [up_eq]
    rfl
  exact kk H.size H1 locs ls hP ⟨Nat.le_trans b.1 (by omega), fun x h1 h2 => (o1 x (Nat.lt_of_lt_of_le h1 b.1)).trans (b.2.1 x h1 h2), b.2.2⟩ d
theorem j_newa_bool (C : Cx p s m args meth c g nL own cc ret) {i n : Nat} {x : Int32} (hx : x = nI n) (hn : n < 100000000) (hf : 12 < (sh.1 i).1) (hr : noRef sh i) (hcells : cells + 1 ≤ R.cells) (hslots : slots + n ≤ R.slots) (hd : decode cc pc = .ok (.newarray .boolean, 2)) (kk : ∀ q : Nat, J p l e R s m args below meth c Q g nL (shNew sh i (11, n) q) (nNew N i) (cells + 1) (slots + n) (pc + 2) lv (.ref q :: st)) : J p l e R s m args below meth c Q g nL sh N cells slots pc lv (.int x :: st) := by
  intro H locs ls a b d
  subst hx
  refine va_newaK (atype := .boolean) C.1 C.2.1 (C.2.2.2.2.1 _ tb_arr_bool) rfl hd rfl (nI_pos (by omega)) (nI_clamp (by omega)) (cb_bool hn) hcells hslots rfl fun H1 cA e1 z1 o1 hAr hNm => ?_
  have hcA : cA = g.tc 2 := Option.some.inj (hNm.symm.trans (C.2.2.2.2.2.1.1.2 2 _ rfl).2)
  subst hcA
  have hz : g.z ≤ H.size := Nat.le_trans C.2.2.2.2.2.1.2.2 b.1
  have e1i : (shNew sh i (11, n) H.size).1 i = (11, n) := up_eq _ _ _
  have e3i : (shNew sh i (11, n) H.size).2.2 i = H.size := up_eq _ _ _
  have hP : PIC g (shNew sh i (11, n) H.size) (nNew N i) H1 := by
    refine a.new hf (fun x hx => up_ne hx) (fun x hx => up_ne hx) (fun x hx => up_ne hx) (fun x hx => up_ne hx) hr e3i hz z1 o1 ⟨fun t => absurd t (by rw [e1i]; simp), fun t => absurd t (by rw [e1i]; simp), fun t => absurd t (by rw [e1i]; simp), fun _ => ?_, fun t => absurd t (by rw [e1i]; simp)⟩
    rw [e1i, e3i, e1]
    congr 2
    funext j
    show defaultValue .boolean = .int (va_up N i (fun _ => 0) i j)
    rw [up_eq]
    rfl
  exact kk H.size H1 locs ls hP ⟨Nat.le_trans b.1 (by omega), fun x h1 h2 => (o1 x (Nat.lt_of_lt_of_le h1 b.1)).trans (b.2.1 x h1 h2), b.2.2⟩ d
/-- what links a 'new' of the class ci -/
def NL (own : String) (idx ci : Nat) : Prop := ci < 9 ∧ Cond.classLink own idx (RR ci) ∈ TBL ∧ Cond.instantiable (RR ci) (nF ci) ∈ TBL ∧ Cond.initialized (RR ci) ∈ TBL
theorem j_new (C : Cx p s m args meth c g nL own cc ret) {idx ci i : Nat} (hl : NL own idx ci) (hf : 12 < (sh.1 i).1) (hr : noRef sh i) (hcells : cells + 1 ≤ R.cells) (hslots : slots + nF ci ≤ R.slots) (hd : decode cc pc = .ok (.new idx, 3)) (kk : ∀ q : Nat, J p l e R s m args below meth c Q g nL (shNew sh i (ci, 0) q) (nNew N i) (cells + 1) (slots + nF ci) (pc + 3) lv (.ref q :: st)) : J p l e R s m args below meth c Q g nL sh N cells slots pc lv st := by
  intro H locs ls a b d
  obtain ⟨h9, h1, h2, h3⟩ := hl
  have hts := C.2.2.2.2.1
  have hKn := C.2.2.2.2.2.1.1.1 _ _ (CL_at h9)
  refine W.newcK C.1 C.2.1 C.2.2.2.1 (hts _ h1) (hts _ h2) (hts _ h3) rfl hd hcells hslots hKn.2.1 rfl fun H1 kC hkC e1 z1 o1 => ?_
  have hz : g.z ≤ H.size := Nat.le_trans C.2.2.2.2.2.1.2.2 b.1
  have e1i : (shNew sh i (ci, 0) H.size).1 i = (ci, 0) := up_eq _ _ _
  have e3i : (shNew sh i (ci, 0) H.size).2.2 i = H.size := up_eq _ _ _
  have hP : PIC g (shNew sh i (ci, 0) H.size) (nNew N i) H1 := by
    refine a.new hf (fun x hx => up_ne hx) (fun x hx => up_ne hx) (fun x hx => up_ne hx) (fun x hx => up_ne hx) hr e3i hz z1 o1 ⟨fun _ => ?_, fun t => absurd t (by rw [e1i]; simp; omega), fun t => absurd t (by rw [e1i]; simp; omega), fun t => absurd t (by rw [e1i]; simp; omega), fun t => absurd t (by rw [e1i]; simp; omega)⟩
    rw [e1i, e3i]
    refine (u_born (tyT ci) hts (cls_in _ h9) hKn hkC e1 (cls_ty _ h9)).to (fun k hk => ?_)
    have e2 : (shNew sh i (ci, 0) H.size).2.1 i k = none := by show va_up sh.2.1 i (fun _ => none) i k = none; rw [up_eq]
    have eN : nNew N i i k = 0 := by show va_up N i (fun _ => 0) i k = 0; rw [up_eq]
    show defaultValue (tyT ci k) = WV (shNew sh i (ci, 0) H.size) (nNew N i) i k
    unfold WV
    rw [ty_def ci h9 k hk, e1i, e2, eN]
    rfl
  exact kk H.size H1 locs ls hP ⟨Nat.le_trans b.1 (by omega), fun x h1 h2 => (o1 x (Nat.lt_of_lt_of_le h1 b.1)).trans (b.2.1 x h1 h2), b.2.2⟩ d
end Rows
