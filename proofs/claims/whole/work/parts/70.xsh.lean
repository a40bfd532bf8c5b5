/-! ===== THE CLASS: its shape, and its numbers beside the reference's =====
100 the object, 101 purses, 102 legs, 103 fars, 104 winds, 105-108 the lists galleys, bales, votes, ranked (rows 420+k, 440+k, 460+k, 480+k), 109 Reader, 110 Teller, 111 Tape, 112 its bytes, 113 steps, 114 names, 115 stack,
1000+a Galley a, 1100+a its parts, 2000+b Bale b, 3000+v Vote v, 3100+v its steps. -/
def xCls : List (Nat × Nat) := [(100, 6), (109, 2), (110, 4), (111, 3)]
def xRef : List (Nat × Nat × Nat) := [(100, 0, 101), (100, 3, 102), (100, 4, 103), (100, 6, 104), (100, 7, 105), (100, 8, 106), (100, 9, 107), (100, 10, 109), (100, 11, 110), (100, 12, 108), (109, 0, 111), (109, 5, 113), (111, 0, 112), (110, 0, 114), (110, 1, 115)]
def xArr : List (Nat × Nat) := [(101, 10), (102, 12), (103, 12), (104, 30), (112, 200), (113, 200), (114, 13), (115, 200)]
def nl (b n : Nat) : List Nat := (List.range n).map (fun i => b + i)
theorem nl_len (b n : Nat) : (nl b n).length = n := by simp [nl]
theorem nl_get {b n i : Nat} (h : i < n) : (nl b n).getD i 0 = b + i := by
  rw [gD_lt (by rw [nl_len]; exact h)]
  simp [nl]
theorem nl_mem {b n x : Nat} (h : x ∈ nl b n) : ∃ i, i < n ∧ x = b + i := by
  simp [nl] at h
  obtain ⟨i, hi, e⟩ := h
  exact ⟨i, hi, e.symm⟩
theorem nl_succ (b n : Nat) : nl b (n + 1) = nl b n ++ [b + n] := by simp [nl, List.range_succ]
def XH (o : Nat → Nat) (sh : WSh) (N : WNm) (nG nB nV kG kB kV : Nat) (ln : Nat → Nat) : Prop :=
  ((∀ q ∈ xCls, (sh.1 q.1).1 = q.2) ∧ (∀ q ∈ xRef, sh.2.1 q.1 q.2.1 = some q.2.2) ∧ (∀ q ∈ xArr, sh.1 q.1 = (9, q.2))) ∧
  (LST sh N (o 2) 105 420 kG (nl 1000 nG) ∧ LST sh N (o 2) 106 440 kB (nl 2000 nB) ∧ LST sh N (o 2) 107 460 kV (nl 3000 nV) ∧ nG ≤ 8 ∧ nB ≤ 300 ∧ nV ≤ 30) ∧
  ((∀ a, a < nG → (sh.1 (1000 + a)).1 = 1 ∧ sh.2.1 (1000 + a) 5 = some (1100 + a) ∧ sh.1 (1100 + a) = (9, 11)) ∧ (∀ b, b < nB → (sh.1 (2000 + b)).1 = 0) ∧ (∀ v, v < nV → (sh.1 (3000 + v)).1 = 5 ∧ sh.2.1 (3000 + v) 2 = some (3100 + v) ∧ sh.1 (3100 + v) = (9, ln v))) ∧
  ((∀ a, nG ≤ a → a < 8 → 13 < (sh.1 (1000 + a)).1 ∧ 13 < (sh.1 (1100 + a)).1) ∧ (∀ b, nB ≤ b → b < 300 → 13 < (sh.1 (2000 + b)).1) ∧ (∀ v, nV ≤ v → v < 30 → 13 < (sh.1 (3000 + v)).1 ∧ 13 < (sh.1 (3100 + v)).1)) ∧ RF sh
section
variable {o : Nat → Nat} {sh : WSh} {N : WNm} {nG nB nV kG kB kV : Nat} {ln : Nat → Nat}
theorem XH.c (h : XH o sh N nG nB nV kG kB kV ln) {i c : Nat} (hq : (i, c) ∈ xCls) : (sh.1 i).1 = c := h.1.1 _ hq
theorem XH.r (h : XH o sh N nG nB nV kG kB kV ln) {i k j : Nat} (hq : (i, k, j) ∈ xRef) : sh.2.1 i k = some j := h.1.2.1 _ hq
theorem XH.a (h : XH o sh N nG nB nV kG kB kV ln) {i n : Nat} (hq : (i, n) ∈ xArr) : sh.1 i = (9, n) := h.1.2.2 _ hq
theorem XH.lg (h : XH o sh N nG nB nV kG kB kV ln) : LST sh N (o 2) 105 420 kG (nl 1000 nG) := h.2.1.1
theorem XH.lb (h : XH o sh N nG nB nV kG kB kV ln) : LST sh N (o 2) 106 440 kB (nl 2000 nB) := h.2.1.2.1
theorem XH.lv (h : XH o sh N nG nB nV kG kB kV ln) : LST sh N (o 2) 107 460 kV (nl 3000 nV) := h.2.1.2.2.1
theorem XH.nG8 (h : XH o sh N nG nB nV kG kB kV ln) : nG ≤ 8 := h.2.1.2.2.2.1
theorem XH.nB3 (h : XH o sh N nG nB nV kG kB kV ln) : nB ≤ 300 := h.2.1.2.2.2.2.1
theorem XH.nV3 (h : XH o sh N nG nB nV kG kB kV ln) : nV ≤ 30 := h.2.1.2.2.2.2.2
theorem XH.zG (h : XH o sh N nG nB nV kG kB kV ln) : N 105 2 = nI nG := by have := h.lg.1.2.2.2.1; rwa [nl_len] at this
theorem XH.zB (h : XH o sh N nG nB nV kG kB kV ln) : N 106 2 = nI nB := by have := h.lb.1.2.2.2.1; rwa [nl_len] at this
theorem XH.zV (h : XH o sh N nG nB nV kG kB kV ln) : N 107 2 = nI nV := by have := h.lv.1.2.2.2.1; rwa [nl_len] at this
theorem XH.g (h : XH o sh N nG nB nV kG kB kV ln) {a : Nat} (ha : a < nG) : (sh.1 (1000 + a)).1 = 1 := (h.2.2.1.1 a ha).1
theorem XH.gp (h : XH o sh N nG nB nV kG kB kV ln) {a : Nat} (ha : a < nG) : sh.2.1 (1000 + a) 5 = some (1100 + a) := (h.2.2.1.1 a ha).2.1
theorem XH.ga (h : XH o sh N nG nB nV kG kB kV ln) {a : Nat} (ha : a < nG) : sh.1 (1100 + a) = (9, 11) := (h.2.2.1.1 a ha).2.2
theorem XH.b (h : XH o sh N nG nB nV kG kB kV ln) {b : Nat} (hb : b < nB) : (sh.1 (2000 + b)).1 = 0 := h.2.2.1.2.1 b hb
theorem XH.v (h : XH o sh N nG nB nV kG kB kV ln) {v : Nat} (hv : v < nV) : (sh.1 (3000 + v)).1 = 5 := (h.2.2.1.2.2 v hv).1
theorem XH.vr (h : XH o sh N nG nB nV kG kB kV ln) {v : Nat} (hv : v < nV) : sh.2.1 (3000 + v) 2 = some (3100 + v) := (h.2.2.1.2.2 v hv).2.1
theorem XH.va (h : XH o sh N nG nB nV kG kB kV ln) {v : Nat} (hv : v < nV) : sh.1 (3100 + v) = (9, ln v) := (h.2.2.1.2.2 v hv).2.2
theorem XH.rf (h : XH o sh N nG nB nV kG kB kV ln) : RF sh := h.2.2.2.2
theorem LST.cong {sh : WSh} {N N1 : WNm} {o2 L b k : Nat} {xs : List Nat} (h : LST sh N o2 L b k xs) (e : N1 L 2 = N L 2) : LST sh N1 o2 L b k xs := by
  obtain ⟨⟨a1, a2, a3, a4, a5⟩, a6⟩ := h
  exact ⟨⟨a1, a2, a3, e.trans a4, a5⟩, a6⟩
theorem XH.cong {N1 : WNm} (h : XH o sh N nG nB nV kG kB kV ln) (e1 : N1 105 2 = N 105 2) (e2 : N1 106 2 = N 106 2) (e3 : N1 107 2 = N 107 2) : XH o sh N1 nG nB nV kG kB kV ln := by
  obtain ⟨h1, ⟨l1, l2, l3, l4⟩, h2⟩ := h
  exact ⟨h1, ⟨l1.cong e1, l2.cong e2, l3.cong e3, l4⟩, h2⟩
theorem XH.rsh (h : XH o sh N nG nB nV kG kB kV ln) : RSh sh 109 111 112 113 := ⟨h.c (by decide), h.r (by decide), h.c (by decide), h.r (by decide), h.a (by decide), h.r (by decide), h.a (by decide), by decide, by decide, by decide, by decide, by decide, by decide⟩
theorem LST.pos {sh : WSh} {N : WNm} {o2 L b k n i c : Nat} (h : LST sh N o2 L b k (nl c n)) (hi : i < n) : 0 < k := by
  rcases Nat.eq_zero_or_pos k with e | e
  · exfalso
    subst e
    have := h.1.2.2.2.2
    rw [nl_len] at this
    have z : cap 0 = 0 := rfl
    omega
  · exact e
end
section
variable {l : Launch} {g : WGp} (hg : GOK g) {o : Nat → Nat} {sh : WSh} {N : WNm} {nG nB nV kG kB kV : Nat} {ln : Nat → Nat}
/-- an element of one of the three lists -/
theorem cX_lget {L b k c n i : Nat} (hg : GOK g) (h : LST sh N (o 2) L b k (nl c n)) (hi : i < n) : CT l g yJx4a65c_get_915e3 cJx4a65c_get_915e3 2 (some (.object "java/lang/Object")) (RM 3 0 0) [.ref (sh.2.2 L), .int (nI i)] sh N (QFr g sh N (some (c + i))) := by
  have hk := h.pos hi
  have hcl := cap_le k (by have := h.1.2.1; omega)
  have hz := h.1.2.2.2.1
  rw [nl_len] at hz
  have hle := h.1.2.2.2.2
  rw [nl_len] at hle
  have hx := h.2.2.2.1 i (by rw [nl_len]; exact hi)
  rw [nl_get hi] at hx
  exact cJ_get hg h.1.1 h.1.2.2.1 (h.2.2.1 hk) hz hi hle (by omega) hx
end
