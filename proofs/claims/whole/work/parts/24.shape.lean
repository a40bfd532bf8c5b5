/-! ===== THE REFERENCE'S SHAPE: the object is number 0, the array of its field k is number k + 1 ===== -/
def mTab : List (Nat × Nat × Nat) := [(2, 9, 10), (6, 9, 12), (7, 9, 12), (8, 9, 30), (10, 9, 8), (11, 9, 8), (12, 9, 8), (13, 9, 8), (14, 9, 8), (15, 9, 8), (16, 9, 8), (17, 9, 8), (18, 9, 8), (19, 9, 8), (20, 9, 8), (21, 11, 8), (22, 9, 80), (24, 9, 300), (25, 9, 300), (26, 9, 300), (27, 9, 300), (28, 9, 300), (29, 9, 300), (30, 9, 300), (31, 9, 300), (32, 9, 300), (33, 9, 300), (34, 9, 300), (35, 9, 300), (36, 10, 200), (39, 9, 30), (40, 9, 30), (41, 9, 31), (42, 9, 6200), (43, 9, 6200), (50, 9, 300), (52, 9, 200), (53, 9, 300), (54, 11, 300)]
def MSh (sh : WSh) : Prop := (sh.1 0).1 = 7 ∧ ∀ q ∈ mTab, sh.1 (q.1 + 1) = (q.2.1, q.2.2) ∧ sh.2.1 0 q.1 = some (q.1 + 1)
theorem MSh.c {sh : WSh} (h : MSh sh) : (sh.1 0).1 = 7 := h.1
theorem MSh.t3 {sh : WSh} (h : MSh sh) : sh.1 3 = (9, 10) := (h.2 (2, 9, 10) (by decide)).1
theorem MSh.r2 {sh : WSh} (h : MSh sh) : sh.2.1 0 2 = some 3 := (h.2 (2, 9, 10) (by decide)).2
theorem MSh.t7 {sh : WSh} (h : MSh sh) : sh.1 7 = (9, 12) := (h.2 (6, 9, 12) (by decide)).1
theorem MSh.r6 {sh : WSh} (h : MSh sh) : sh.2.1 0 6 = some 7 := (h.2 (6, 9, 12) (by decide)).2
theorem MSh.t8 {sh : WSh} (h : MSh sh) : sh.1 8 = (9, 12) := (h.2 (7, 9, 12) (by decide)).1
theorem MSh.r7 {sh : WSh} (h : MSh sh) : sh.2.1 0 7 = some 8 := (h.2 (7, 9, 12) (by decide)).2
theorem MSh.t9 {sh : WSh} (h : MSh sh) : sh.1 9 = (9, 30) := (h.2 (8, 9, 30) (by decide)).1
theorem MSh.r8 {sh : WSh} (h : MSh sh) : sh.2.1 0 8 = some 9 := (h.2 (8, 9, 30) (by decide)).2
theorem MSh.t11 {sh : WSh} (h : MSh sh) : sh.1 11 = (9, 8) := (h.2 (10, 9, 8) (by decide)).1
theorem MSh.r10 {sh : WSh} (h : MSh sh) : sh.2.1 0 10 = some 11 := (h.2 (10, 9, 8) (by decide)).2
theorem MSh.t12 {sh : WSh} (h : MSh sh) : sh.1 12 = (9, 8) := (h.2 (11, 9, 8) (by decide)).1
theorem MSh.r11 {sh : WSh} (h : MSh sh) : sh.2.1 0 11 = some 12 := (h.2 (11, 9, 8) (by decide)).2
theorem MSh.t13 {sh : WSh} (h : MSh sh) : sh.1 13 = (9, 8) := (h.2 (12, 9, 8) (by decide)).1
theorem MSh.r12 {sh : WSh} (h : MSh sh) : sh.2.1 0 12 = some 13 := (h.2 (12, 9, 8) (by decide)).2
theorem MSh.t14 {sh : WSh} (h : MSh sh) : sh.1 14 = (9, 8) := (h.2 (13, 9, 8) (by decide)).1
theorem MSh.r13 {sh : WSh} (h : MSh sh) : sh.2.1 0 13 = some 14 := (h.2 (13, 9, 8) (by decide)).2
theorem MSh.t15 {sh : WSh} (h : MSh sh) : sh.1 15 = (9, 8) := (h.2 (14, 9, 8) (by decide)).1
theorem MSh.r14 {sh : WSh} (h : MSh sh) : sh.2.1 0 14 = some 15 := (h.2 (14, 9, 8) (by decide)).2
theorem MSh.t16 {sh : WSh} (h : MSh sh) : sh.1 16 = (9, 8) := (h.2 (15, 9, 8) (by decide)).1
theorem MSh.r15 {sh : WSh} (h : MSh sh) : sh.2.1 0 15 = some 16 := (h.2 (15, 9, 8) (by decide)).2
theorem MSh.t17 {sh : WSh} (h : MSh sh) : sh.1 17 = (9, 8) := (h.2 (16, 9, 8) (by decide)).1
theorem MSh.r16 {sh : WSh} (h : MSh sh) : sh.2.1 0 16 = some 17 := (h.2 (16, 9, 8) (by decide)).2
theorem MSh.t18 {sh : WSh} (h : MSh sh) : sh.1 18 = (9, 8) := (h.2 (17, 9, 8) (by decide)).1
theorem MSh.r17 {sh : WSh} (h : MSh sh) : sh.2.1 0 17 = some 18 := (h.2 (17, 9, 8) (by decide)).2
theorem MSh.t19 {sh : WSh} (h : MSh sh) : sh.1 19 = (9, 8) := (h.2 (18, 9, 8) (by decide)).1
theorem MSh.r18 {sh : WSh} (h : MSh sh) : sh.2.1 0 18 = some 19 := (h.2 (18, 9, 8) (by decide)).2
theorem MSh.t20 {sh : WSh} (h : MSh sh) : sh.1 20 = (9, 8) := (h.2 (19, 9, 8) (by decide)).1
theorem MSh.r19 {sh : WSh} (h : MSh sh) : sh.2.1 0 19 = some 20 := (h.2 (19, 9, 8) (by decide)).2
theorem MSh.t21 {sh : WSh} (h : MSh sh) : sh.1 21 = (9, 8) := (h.2 (20, 9, 8) (by decide)).1
theorem MSh.r20 {sh : WSh} (h : MSh sh) : sh.2.1 0 20 = some 21 := (h.2 (20, 9, 8) (by decide)).2
theorem MSh.t22 {sh : WSh} (h : MSh sh) : sh.1 22 = (11, 8) := (h.2 (21, 11, 8) (by decide)).1
theorem MSh.r21 {sh : WSh} (h : MSh sh) : sh.2.1 0 21 = some 22 := (h.2 (21, 11, 8) (by decide)).2
theorem MSh.t23 {sh : WSh} (h : MSh sh) : sh.1 23 = (9, 80) := (h.2 (22, 9, 80) (by decide)).1
theorem MSh.r22 {sh : WSh} (h : MSh sh) : sh.2.1 0 22 = some 23 := (h.2 (22, 9, 80) (by decide)).2
theorem MSh.t25 {sh : WSh} (h : MSh sh) : sh.1 25 = (9, 300) := (h.2 (24, 9, 300) (by decide)).1
theorem MSh.r24 {sh : WSh} (h : MSh sh) : sh.2.1 0 24 = some 25 := (h.2 (24, 9, 300) (by decide)).2
theorem MSh.t26 {sh : WSh} (h : MSh sh) : sh.1 26 = (9, 300) := (h.2 (25, 9, 300) (by decide)).1
theorem MSh.r25 {sh : WSh} (h : MSh sh) : sh.2.1 0 25 = some 26 := (h.2 (25, 9, 300) (by decide)).2
theorem MSh.t27 {sh : WSh} (h : MSh sh) : sh.1 27 = (9, 300) := (h.2 (26, 9, 300) (by decide)).1
theorem MSh.r26 {sh : WSh} (h : MSh sh) : sh.2.1 0 26 = some 27 := (h.2 (26, 9, 300) (by decide)).2
theorem MSh.t28 {sh : WSh} (h : MSh sh) : sh.1 28 = (9, 300) := (h.2 (27, 9, 300) (by decide)).1
theorem MSh.r27 {sh : WSh} (h : MSh sh) : sh.2.1 0 27 = some 28 := (h.2 (27, 9, 300) (by decide)).2
theorem MSh.t29 {sh : WSh} (h : MSh sh) : sh.1 29 = (9, 300) := (h.2 (28, 9, 300) (by decide)).1
theorem MSh.r28 {sh : WSh} (h : MSh sh) : sh.2.1 0 28 = some 29 := (h.2 (28, 9, 300) (by decide)).2
theorem MSh.t30 {sh : WSh} (h : MSh sh) : sh.1 30 = (9, 300) := (h.2 (29, 9, 300) (by decide)).1
theorem MSh.r29 {sh : WSh} (h : MSh sh) : sh.2.1 0 29 = some 30 := (h.2 (29, 9, 300) (by decide)).2
theorem MSh.t31 {sh : WSh} (h : MSh sh) : sh.1 31 = (9, 300) := (h.2 (30, 9, 300) (by decide)).1
theorem MSh.r30 {sh : WSh} (h : MSh sh) : sh.2.1 0 30 = some 31 := (h.2 (30, 9, 300) (by decide)).2
theorem MSh.t32 {sh : WSh} (h : MSh sh) : sh.1 32 = (9, 300) := (h.2 (31, 9, 300) (by decide)).1
theorem MSh.r31 {sh : WSh} (h : MSh sh) : sh.2.1 0 31 = some 32 := (h.2 (31, 9, 300) (by decide)).2
theorem MSh.t33 {sh : WSh} (h : MSh sh) : sh.1 33 = (9, 300) := (h.2 (32, 9, 300) (by decide)).1
theorem MSh.r32 {sh : WSh} (h : MSh sh) : sh.2.1 0 32 = some 33 := (h.2 (32, 9, 300) (by decide)).2
theorem MSh.t34 {sh : WSh} (h : MSh sh) : sh.1 34 = (9, 300) := (h.2 (33, 9, 300) (by decide)).1
theorem MSh.r33 {sh : WSh} (h : MSh sh) : sh.2.1 0 33 = some 34 := (h.2 (33, 9, 300) (by decide)).2
theorem MSh.t35 {sh : WSh} (h : MSh sh) : sh.1 35 = (9, 300) := (h.2 (34, 9, 300) (by decide)).1
theorem MSh.r34 {sh : WSh} (h : MSh sh) : sh.2.1 0 34 = some 35 := (h.2 (34, 9, 300) (by decide)).2
theorem MSh.t36 {sh : WSh} (h : MSh sh) : sh.1 36 = (9, 300) := (h.2 (35, 9, 300) (by decide)).1
theorem MSh.r35 {sh : WSh} (h : MSh sh) : sh.2.1 0 35 = some 36 := (h.2 (35, 9, 300) (by decide)).2
theorem MSh.t37 {sh : WSh} (h : MSh sh) : sh.1 37 = (10, 200) := (h.2 (36, 10, 200) (by decide)).1
theorem MSh.r36 {sh : WSh} (h : MSh sh) : sh.2.1 0 36 = some 37 := (h.2 (36, 10, 200) (by decide)).2
theorem MSh.t40 {sh : WSh} (h : MSh sh) : sh.1 40 = (9, 30) := (h.2 (39, 9, 30) (by decide)).1
theorem MSh.r39 {sh : WSh} (h : MSh sh) : sh.2.1 0 39 = some 40 := (h.2 (39, 9, 30) (by decide)).2
theorem MSh.t41 {sh : WSh} (h : MSh sh) : sh.1 41 = (9, 30) := (h.2 (40, 9, 30) (by decide)).1
theorem MSh.r40 {sh : WSh} (h : MSh sh) : sh.2.1 0 40 = some 41 := (h.2 (40, 9, 30) (by decide)).2
theorem MSh.t42 {sh : WSh} (h : MSh sh) : sh.1 42 = (9, 31) := (h.2 (41, 9, 31) (by decide)).1
theorem MSh.r41 {sh : WSh} (h : MSh sh) : sh.2.1 0 41 = some 42 := (h.2 (41, 9, 31) (by decide)).2
theorem MSh.t43 {sh : WSh} (h : MSh sh) : sh.1 43 = (9, 6200) := (h.2 (42, 9, 6200) (by decide)).1
theorem MSh.r42 {sh : WSh} (h : MSh sh) : sh.2.1 0 42 = some 43 := (h.2 (42, 9, 6200) (by decide)).2
theorem MSh.t44 {sh : WSh} (h : MSh sh) : sh.1 44 = (9, 6200) := (h.2 (43, 9, 6200) (by decide)).1
theorem MSh.r43 {sh : WSh} (h : MSh sh) : sh.2.1 0 43 = some 44 := (h.2 (43, 9, 6200) (by decide)).2
theorem MSh.t51 {sh : WSh} (h : MSh sh) : sh.1 51 = (9, 300) := (h.2 (50, 9, 300) (by decide)).1
theorem MSh.r50 {sh : WSh} (h : MSh sh) : sh.2.1 0 50 = some 51 := (h.2 (50, 9, 300) (by decide)).2
theorem MSh.t53 {sh : WSh} (h : MSh sh) : sh.1 53 = (9, 200) := (h.2 (52, 9, 200) (by decide)).1
theorem MSh.r52 {sh : WSh} (h : MSh sh) : sh.2.1 0 52 = some 53 := (h.2 (52, 9, 200) (by decide)).2
theorem MSh.t54 {sh : WSh} (h : MSh sh) : sh.1 54 = (9, 300) := (h.2 (53, 9, 300) (by decide)).1
theorem MSh.r53 {sh : WSh} (h : MSh sh) : sh.2.1 0 53 = some 54 := (h.2 (53, 9, 300) (by decide)).2
theorem MSh.t55 {sh : WSh} (h : MSh sh) : sh.1 55 = (11, 300) := (h.2 (54, 11, 300) (by decide)).1
theorem MSh.r54 {sh : WSh} (h : MSh sh) : sh.2.1 0 54 = some 55 := (h.2 (54, 11, 300) (by decide)).2
/-! small words -/
def b2 (P : Prop) [Decidable P] : Int32 := if P then 1 else 0
theorem b2_t {P : Prop} [Decidable P] (h : P) : b2 P = 1 := if_pos h
theorem b2_f {P : Prop} [Decidable P] (h : ¬ P) : b2 P = 0 := if_neg h
theorem b2_nar (P : Prop) [Decidable P] : narrow .boolean (.int (b2 P)) = .int (b2 P) := by by_cases h : P <;> simp only [b2, h, if_true, if_false] <;> rfl
theorem b2_ne0 {P : Prop} [Decidable P] : ¬ b2 P = 0 ↔ P := by by_cases h : P <;> simp [b2, h]
theorem b2_eq0 {P : Prop} [Decidable P] : b2 P = 0 ↔ ¬ P := by by_cases h : P <;> simp [b2, h]
abbrev tn (x : Int32) : Nat := x.toNatClampNeg
/-- counting up to n, the rest of the count as hypothesis -/
theorem up_ind {P : Nat → Prop} {n : Nat} (h : ∀ k, k ≤ n → (k < n → P (k + 1)) → P k) : ∀ k, k ≤ n → P k := by
  intro k hk
  obtain ⟨d, hd⟩ : ∃ d, n - k = d := ⟨_, rfl⟩
  induction d generalizing k with
  | zero => exact h k hk (fun hl => by omega)
  | succ d ih => exact h k hk (fun hl => ih (k + 1) (by omega) (by omega))
/-- a measure that falls -/
theorem down_ind {α : Type} {P : α → Prop} (μ : α → Nat) (h : ∀ a, (∀ b, μ b < μ a → P b) → P a) : ∀ a, P a := by
  intro a
  obtain ⟨d, hd⟩ : ∃ d, μ a = d := ⟨_, rfl⟩
  induction d using Nat.strongRecOn generalizing a with
  | ind d ih => exact h a (fun b hb => ih (μ b) (by omega) b rfl)
def iSum (f : Nat → Int32) : Nat → Int32
  | 0 => 0
  | k + 1 => iSum f k + f k
/-- locals: fewer are said -/
def lvle : List (Option Value) → List (Option Value) → Prop
  | [], _ => True
  | none :: a, [] => lvle a []
  | none :: a, _ :: b => lvle a b
  | some v :: a, some w :: b => v = w ∧ lvle a b
  | some _ :: _, _ => False
theorem lvle_at : ∀ {a b : List (Option Value)}, lvle a b → ∀ (k : Nat) (v : Value), a[k]? = some (some v) → b[k]? = some (some v)
  | [], _, _, k, v, h => by simp at h
  | none :: a, [], hl, k, v, h => by
    cases k with
    | zero => simp at h
    | succ k => simp only [List.getElem?_cons_succ] at h; have := lvle_at (a := a) (b := []) hl k v h; simp at this
  | none :: a, x :: b, hl, k, v, h => by
    cases k with
    | zero => simp at h
    | succ k => simp only [List.getElem?_cons_succ] at h ⊢; exact lvle_at (a := a) (b := b) hl k v h
  | some w :: a, some x :: b, hl, k, v, h => by
    cases k with
    | zero => simp at h ⊢; rw [← hl.1]; exact h
    | succ k => simp only [List.getElem?_cons_succ] at h ⊢; exact lvle_at (a := a) (b := b) hl.2 k v h
  | some w :: a, none :: b, hl, k, v, h => by simp [lvle] at hl
  | some w :: a, [], hl, k, v, h => by simp [lvle] at hl
theorem vp_inN {k n : Nat} (h : k < n) (hn : n < 2147483648) : vp_in (nI k) n := vp_in_nI h (by omega)
section Rows
variable {p : Program} {l : Launch} {e : Env} {R : Room} {s : State} {m : MethodId} {args : Array Value} {below : List Frame} {meth : Method} {c : Code} {Q : State → Prop} {g : WGp} {nL : Nat} {own : String} {cc : ByteArray} {ret : Option FieldType}
variable {sh : WSh} {N : WNm} {cells slots pc : Nat} {lv : List (Option Value)} {st : List Value}
theorem J.le {lv1 : List (Option Value)} (h : lvle lv1 lv) (kk : J p l e R s m args below meth c Q g nL sh N cells slots pc lv1 st) : J p l e R s m args below meth c Q g nL sh N cells slots pc lv st := J.sub (lvle_at h) kk
theorem j_ialdN (C : Cx p s m args meth c g nL own cc ret) {i n k : Nat} (ht : sh.1 i = (9, n)) (hk : k < n ∧ n < 2147483648) (hd : decode cc pc = .ok (.iaload, 1)) (kk : J p l e R s m args below meth c Q g nL sh N cells slots (pc + 1) lv (.int (N i k) :: st)) : J p l e R s m args below meth c Q g nL sh N cells slots pc lv (.int (nI k) :: .ref (sh.2.2 i) :: st) := j_iald C ht (vp_inN hk.1 hk.2) hd (by rw [nI_clamp (by omega)]; exact kk)
theorem j_baldN (C : Cx p s m args meth c g nL own cc ret) {i n k : Nat} (ht : sh.1 i = (10, n)) (hk : k < n ∧ n < 2147483648) (hd : decode cc pc = .ok (.baload, 1)) (kk : J p l e R s m args below meth c Q g nL sh N cells slots (pc + 1) lv (.int (N i k) :: st)) : J p l e R s m args below meth c Q g nL sh N cells slots pc lv (.int (nI k) :: .ref (sh.2.2 i) :: st) := j_bald C ht (vp_inN hk.1 hk.2) hd (by rw [nI_clamp (by omega)]; exact kk)
theorem j_zaldN (C : Cx p s m args meth c g nL own cc ret) {i n k : Nat} (ht : sh.1 i = (11, n)) (hk : k < n ∧ n < 2147483648) (hd : decode cc pc = .ok (.baload, 1)) (kk : J p l e R s m args below meth c Q g nL sh N cells slots (pc + 1) lv (.int (N i k) :: st)) : J p l e R s m args below meth c Q g nL sh N cells slots pc lv (.int (nI k) :: .ref (sh.2.2 i) :: st) := j_zald C ht (vp_inN hk.1 hk.2) hd (by rw [nI_clamp (by omega)]; exact kk)
theorem j_iastN (C : Cx p s m args meth c g nL own cc ret) {i n k : Nat} {v : Int32} (ht : sh.1 i = (9, n)) (hk : k < n ∧ n < 2147483648)  (hd : decode cc pc = .ok (.iastore, 1)) (kk : J p l e R s m args below meth c Q g nL sh (u2 N i k (v)) cells slots (pc + 1) lv st) : J p l e R s m args below meth c Q g nL sh N cells slots pc lv (.int v :: .int (nI k) :: .ref (sh.2.2 i) :: st) := j_iast C ht (vp_inN hk.1 hk.2)  hd (by rw [nI_clamp (by omega)]; exact kk)
theorem j_bastN (C : Cx p s m args meth c g nL own cc ret) {i n k : Nat} {v : Int32} (ht : sh.1 i = (10, n)) (hk : k < n ∧ n < 2147483648)  (hd : decode cc pc = .ok (.bastore, 1)) (kk : J p l e R s m args below meth c Q g nL sh (u2 N i k (v.toInt8.toInt32)) cells slots (pc + 1) lv st) : J p l e R s m args below meth c Q g nL sh N cells slots pc lv (.int v :: .int (nI k) :: .ref (sh.2.2 i) :: st) := j_bast C ht (vp_inN hk.1 hk.2)  hd (by rw [nI_clamp (by omega)]; exact kk)
theorem j_zastN (C : Cx p s m args meth c g nL own cc ret) {i n k : Nat} {v : Int32} (ht : sh.1 i = (11, n)) (hk : k < n ∧ n < 2147483648) (hz : narrow .boolean (.int v) = .int v) (hd : decode cc pc = .ok (.bastore, 1)) (kk : J p l e R s m args below meth c Q g nL sh (u2 N i k (v)) cells slots (pc + 1) lv st) : J p l e R s m args below meth c Q g nL sh N cells slots pc lv (.int v :: .int (nI k) :: .ref (sh.2.2 i) :: st) := j_zast C ht (vp_inN hk.1 hk.2) hz hd (by rw [nI_clamp (by omega)]; exact kk)
theorem j_iincN (C : Cx p s m args meth c g nL own cc ret) {k a : Nat} (hd : decode cc pc = .ok (.iinc k 1, 3)) (hk : lv[k]? = some (some (.int (nI a)))) (hn : k < nL) (hok : lvok lv k = true) (kk : J p l e R s m args below meth c Q g nL sh N cells slots (pc + 3) (lv.set k (some (.int (nI (a + 1))))) st) : J p l e R s m args below meth c Q g nL sh N cells slots pc lv st := j_iinc C hd hk (v := nI (a + 1)) (by rw [← nI_1]; rfl) hn hok kk
end Rows
