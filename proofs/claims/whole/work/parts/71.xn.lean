/-! ===== THE CLASS'S NUMBERS BESIDE THE REFERENCE'S =====
N: the numbers with the class's cells, T: numbers with the reference's (0 .. 52). -/
def gTab : List (Nat × Nat) := [(1, 11), (2, 12), (3, 13), (4, 14), (6, 20), (7, 21), (8, 22), (9, 15), (10, 16), (11, 17), (12, 18), (17, 19)]
/-- a step of the reference as the class has it -/
def stM (w n : Int32) : Int32 := if w = 1 then n else (if 100 ≤ w then 99 - w else (if w = 10 then -261 else (if w = 20 then -260 else (if w = 30 then -262 else (if w = 70 then -263 else (if w = 40 then -60 else (if w = 41 then -61 else (if w = 42 then -62 else (if w = 50 then -43 else (if w = 51 then -45 else -42))))))))))
/-- a step as it may be laid -/
def stG (w n : Int32) : Prop := (w = 1 ∧ 0 ≤ n) ∨ (∃ k, k < 13 ∧ w = nI (100 + k)) ∨ w ∈ ([10, 20, 30, 70, 40, 41, 42, 50, 51, 60] : List Int32)
/-- a byte of the tape as class and reference have it -/
def TB (x t : Int32) : Prop := (0 ≤ x ∧ x ≤ 255) ∧ (x ≤ 127 → t = x) ∧ (127 < x → t < 0)
def X0 (N T : WNm) : Prop := N 100 1 = T 0 3 ∧ N 100 2 = T 0 4 ∧ N 100 5 = T 0 5 ∧ N 100 13 = T 0 1
def X1 (N T : WNm) : Prop := N 101 = T 3 ∧ N 102 = T 7 ∧ N 103 = T 8 ∧ N 104 = T 9
def XG (N T : WNm) (nG : Nat) : Prop := ∀ a, a < nG → N (1000 + a) 0 = nI a ∧ ∀ q ∈ gTab, N (1000 + a) q.1 = T q.2 a
def XP (N T : WNm) (nG : Nat) : Prop := ∀ a, a < nG → (∀ p, p < 10 → N (1100 + a) p = T 23 (10 * a + p)) ∧ N (1100 + a) 10 = mLeft T (nI a) 10
def XA (N T : WNm) (nG nB : Nat) : Prop := ∀ a, a < nG → N (1000 + a) 13 = mBalesOn T (nI a) nB ∧ N (1000 + a) 14 = mRoomOn T (nI a) nB ∧ N (1000 + a) 15 = mWeightOn T (nI a) False nB ∧ N (1000 + a) 16 = mWeightOn T (nI a) True nB
def XB (N T : WNm) (nB : Nat) : Prop := ∀ b, b < nB → ∀ f, f < 12 → N (2000 + b) f = T (25 + f) b
def XV (N T : WNm) (nV : Nat) (ln : Nat → Nat) : Prop := ∀ v, v < nV → N (3000 + v) 0 = T 40 v ∧ N (3000 + v) 1 = T 41 v ∧ ∃ s0, T 42 v = nI s0 ∧ T 42 (v + 1) = nI (s0 + ln v) ∧ s0 + ln v ≤ 6200 ∧ ∀ j, j < ln v → stG (T 43 (s0 + j)) (T 44 (s0 + j)) ∧ N (3100 + v) j = stM (T 43 (s0 + j)) (T 44 (s0 + j))
def XT (N T : WNm) (nT : Nat) : Prop := N 111 1 = nI nT ∧ nT ≤ 200 ∧ T 0 37 = nI nT ∧ ∀ j, j < nT → TB (N 112 j) (T 37 j)
def XN (N T : WNm) (nG nB nV nT : Nat) (ln : Nat → Nat) : Prop := X0 N T ∧ X1 N T ∧ XG N T nG ∧ XP N T nG ∧ XA N T nG nB ∧ XB N T nB ∧ XV N T nV ln ∧ XT N T nT
theorem X0.cg {N T N1 T1 : WNm} (h : X0 N T) (e : N1 100 = N 100) (f : ∀ j, j ≤ 5 → T1 0 j = T 0 j) : X0 N1 T1 := by
  unfold X0; rw [e, f 3 (by decide), f 4 (by decide), f 5 (by decide), f 1 (by decide)]; exact h
theorem X1.cg {N T N1 T1 : WNm} (h : X1 N T) (e : ∀ i, 101 ≤ i → i ≤ 104 → N1 i = N i) (f : ∀ i, 3 ≤ i → i ≤ 9 → T1 i = T i) : X1 N1 T1 := by
  unfold X1; rw [e 101 (by decide) (by decide), e 102 (by decide) (by decide), e 103 (by decide) (by decide), e 104 (by decide) (by decide), f 3 (by decide) (by decide), f 7 (by decide) (by decide), f 8 (by decide) (by decide), f 9 (by decide) (by decide)]; exact h
theorem gTab_r : ∀ q ∈ gTab, 11 ≤ q.2 ∧ q.2 ≤ 22 := by decide
theorem XG.cg {N T N1 T1 : WNm} {nG : Nat} (h : XG N T nG) (e : ∀ a, a < nG → N1 (1000 + a) = N (1000 + a)) (f : ∀ i, 11 ≤ i → i ≤ 22 → T1 i = T i) : XG N1 T1 nG := fun a ha => by
  rw [e a ha]
  exact ⟨(h a ha).1, fun q hq => by rw [f q.2 (gTab_r q hq).1 (gTab_r q hq).2]; exact (h a ha).2 q hq⟩
theorem mLeft_cg {T T1 : WNm} (f : T1 23 = T 23) (x : Int32) : ∀ n, mLeft T1 x n = mLeft T x n
  | 0 => rfl
  | n + 1 => by rw [mLeft, mLeft, mLeft_cg f x n, f]
theorem XP.cg {N T N1 T1 : WNm} {nG : Nat} (h : XP N T nG) (e : ∀ a, a < nG → N1 (1100 + a) = N (1100 + a)) (f : T1 23 = T 23) : XP N1 T1 nG := fun a ha => by
  rw [e a ha, f, mLeft_cg f]; exact h a ha
theorem mOn_cg {T T1 : WNm} (f : ∀ i, 28 ≤ i → i ≤ 35 → T1 i = T i) (x : Int32) (n : Nat) : mBalesOn T1 x n = mBalesOn T x n ∧ mRoomOn T1 x n = mRoomOn T x n ∧ mWeightOn T1 x False n = mWeightOn T x False n ∧ mWeightOn T1 x True n = mWeightOn T x True n := by
  unfold mBalesOn mRoomOn mWeightOn
  rw [f 34 (by decide) (by decide), f 35 (by decide) (by decide), f 29 (by decide) (by decide), f 30 (by decide) (by decide), f 28 (by decide) (by decide)]
  exact ⟨rfl, rfl, rfl, rfl⟩
theorem XA.cg {N T N1 T1 : WNm} {nG nB : Nat} (h : XA N T nG nB) (e : ∀ a, a < nG → ∀ k, 13 ≤ k → k ≤ 16 → N1 (1000 + a) k = N (1000 + a) k) (f : ∀ i, 28 ≤ i → i ≤ 35 → T1 i = T i) : XA N1 T1 nG nB := fun a ha => by
  obtain ⟨z1, z2, z3, z4⟩ := mOn_cg f (nI a) nB
  rw [e a ha 13 (by decide) (by decide), e a ha 14 (by decide) (by decide), e a ha 15 (by decide) (by decide), e a ha 16 (by decide) (by decide), z1, z2, z3, z4]; exact h a ha
theorem XB.cg {N T N1 T1 : WNm} {nB : Nat} (h : XB N T nB) (e : ∀ b, b < nB → ∀ k, k < 12 → N1 (2000 + b) k = N (2000 + b) k) (f : ∀ i, 25 ≤ i → i ≤ 36 → T1 i = T i) : XB N1 T1 nB := fun b hb k hk => by
  rw [e b hb k hk, f (25 + k) (by omega) (by omega)]; exact h b hb k hk
theorem XV.cg {N T N1 T1 : WNm} {nV : Nat} {ln : Nat → Nat} (h : XV N T nV ln) (e : ∀ v, v < nV → N1 (3000 + v) = N (3000 + v) ∧ N1 (3100 + v) = N (3100 + v)) (f : ∀ i, 40 ≤ i → i ≤ 44 → T1 i = T i) : XV N1 T1 nV ln := fun v hv => by
  rw [(e v hv).1, (e v hv).2, f 40 (by decide) (by decide), f 41 (by decide) (by decide), f 42 (by decide) (by decide), f 43 (by decide) (by decide), f 44 (by decide) (by decide)]; exact h v hv
theorem XT.cg {N T N1 T1 : WNm} {nT : Nat} (h : XT N T nT) (e1 : N1 111 = N 111) (e2 : N1 112 = N 112) (f0 : T1 0 37 = T 0 37) (f : T1 37 = T 37) : XT N1 T1 nT := by
  unfold XT; rw [e1, e2, f0, f]; exact h
/-- the same in all rows that matter -/
def EQT (T T1 : WNm) : Prop := ∀ i, i ≤ 52 → T1 i = T i
/-- the class's own rows are the same, but for its reader, its teller, its lists and ranks -/
def EQN (N N1 : WNm) : Prop := (∀ i, 100 ≤ i → i ≤ 104 → N1 i = N i) ∧ (N1 111 = N 111 ∧ N1 112 = N 112) ∧ (∀ i, 1000 ≤ i → i < 2000 → N1 i = N i) ∧ (∀ i, 2000 ≤ i → i < 3000 → ∀ k, k < 12 → N1 i k = N i k) ∧ ∀ i, 3000 ≤ i → i < 4000 → N1 i = N i
theorem XN.cg {N T N1 T1 : WNm} {nG nB nV nT : Nat} {ln : Nat → Nat} (h : XN N T nG nB nV nT ln) (hG : nG ≤ 8) (hB : nB ≤ 300) (hV : nV ≤ 30) (e : EQN N N1) (f : EQT T T1) : XN N1 T1 nG nB nV nT ln := by
  obtain ⟨h0, h1, h2, h3, h4, h5, h6, h7⟩ := h
  obtain ⟨e1, e2, e3, e4, e5⟩ := e
  exact ⟨h0.cg (e1 100 (by decide) (by decide)) (fun j _ => by rw [f 0 (by decide)]), h1.cg (fun i a b => e1 i (by omega) b) (fun i a b => f i (by omega)), h2.cg (fun a ha => e3 _ (by omega) (by omega)) (fun i a b => f i (by omega)), h3.cg (fun a ha => e3 _ (by omega) (by omega)) (f 23 (by decide)), h4.cg (fun a ha k _ _ => by rw [e3 _ (by omega) (by omega)]) (fun i a b => f i (by omega)), h5.cg (fun b hb k hk => e4 _ (by omega) (by omega) k hk) (fun i a b => f i (by omega)), h6.cg (fun v hv => ⟨e5 _ (by omega) (by omega), e5 _ (by omega) (by omega)⟩) (fun i a b => f i (by omega)), h7.cg e2.1 e2.2 (by rw [f 0 (by decide)]) (f 37 (by decide))⟩
theorem EQN.rfl (N : WNm) : EQN N N := ⟨fun _ _ _ => Eq.refl _, ⟨Eq.refl _, Eq.refl _⟩, fun _ _ _ => Eq.refl _, fun _ _ _ _ _ => Eq.refl _, fun _ _ _ => Eq.refl _⟩
theorem EQN.trans {N N1 N2 : WNm} (h : EQN N N1) (k : EQN N1 N2) : EQN N N2 := ⟨fun i a b => (k.1 i a b).trans (h.1 i a b), ⟨k.2.1.1.trans h.2.1.1, k.2.1.2.trans h.2.1.2⟩, fun i a b => (k.2.2.1 i a b).trans (h.2.2.1 i a b), fun i a b j hj => (k.2.2.2.1 i a b j hj).trans (h.2.2.2.1 i a b j hj), fun i a b => (k.2.2.2.2 i a b).trans (h.2.2.2.2 i a b)⟩
theorem EQN.u {N : WNm} {i k : Nat} {v : Int32} (h : ¬ (100 ≤ i ∧ i ≤ 104) ∧ ¬ i = 111 ∧ ¬ i = 112 ∧ ¬ (1000 ≤ i ∧ i < 2000) ∧ ¬ (2000 ≤ i ∧ i < 3000 ∧ k < 12) ∧ ¬ (3000 ≤ i ∧ i < 4000)) : EQN N (u2 N i k v) :=
  ⟨fun j a b => u2_row (by omega), ⟨u2_row (by omega), u2_row (by omega)⟩, fun j a b => u2_row (by omega), fun j a b q hq => u2_ne (by omega), fun j a b => u2_row (by omega)⟩
theorem u2_both {N T : WNm} {i r k : Nat} {v : Int32} (h : N i = T r) : u2 N i k v i = u2 T r k v r := by
  funext j
  by_cases e : j = k
  · subst e; rw [u2_eq, u2_eq]
  · rw [u2_ne (fun z => e z.2), u2_ne (fun z => e z.2), h]
section
variable {N T : WNm} {nG nB nV nT : Nat} {ln : Nat → Nat}

theorem XN.purse (h : XN N T nG nB nV nT ln) (hG : nG ≤ 8) (hB : nB ≤ 300) (hV : nV ≤ 30) (p : Nat) (v : Int32) : XN (u2 N 101 p v) (u2 T 3 p v) nG nB nV nT ln := by
  obtain ⟨h0, h1, h2, h3, h4, h5, h6, h7⟩ := h
  exact ⟨h0.cg (by (iterate 6 try rw [u2_row (by omega)]) <;> rfl) (fun j hj => by (iterate 6 try rw [u2_row (by omega)]) <;> rfl), ⟨u2_both h1.1, (by rw [u2_row (by omega), u2_row (by omega)]; exact h1.2.1), (by rw [u2_row (by omega), u2_row (by omega)]; exact h1.2.2.1), (by rw [u2_row (by omega), u2_row (by omega)]; exact h1.2.2.2)⟩, h2.cg (fun a ha => by (iterate 6 try rw [u2_row (by omega)]) <;> rfl) (fun i a b => by (iterate 6 try rw [u2_row (by omega)]) <;> rfl), h3.cg (fun a ha => by (iterate 6 try rw [u2_row (by omega)]) <;> rfl) (by (iterate 6 try rw [u2_row (by omega)]) <;> rfl), h4.cg (fun a ha k _ _ => by (iterate 6 try rw [u2_row (by omega)]) <;> rfl) (fun i a b => by (iterate 6 try rw [u2_row (by omega)]) <;> rfl), h5.cg (fun b hb k hk => by (iterate 6 try rw [u2_row (by omega)]) <;> rfl) (fun i a b => by (iterate 6 try rw [u2_row (by omega)]) <;> rfl), h6.cg (fun v hv => ⟨by (iterate 6 try rw [u2_row (by omega)]) <;> rfl, by (iterate 6 try rw [u2_row (by omega)]) <;> rfl⟩) (fun i a b => by (iterate 6 try rw [u2_row (by omega)]) <;> rfl), h7.cg (by (iterate 6 try rw [u2_row (by omega)]) <;> rfl) (by (iterate 6 try rw [u2_row (by omega)]) <;> rfl) (by (iterate 6 try rw [u2_row (by omega)]) <;> rfl) (by (iterate 6 try rw [u2_row (by omega)]) <;> rfl)⟩

theorem XN.leg (h : XN N T nG nB nV nT ln) (hG : nG ≤ 8) (hB : nB ≤ 300) (hV : nV ≤ 30) (p : Nat) (v : Int32) : XN (u2 N 102 p v) (u2 T 7 p v) nG nB nV nT ln := by
  obtain ⟨h0, h1, h2, h3, h4, h5, h6, h7⟩ := h
  exact ⟨h0.cg (by (iterate 6 try rw [u2_row (by omega)]) <;> rfl) (fun j hj => by (iterate 6 try rw [u2_row (by omega)]) <;> rfl), ⟨(by rw [u2_row (by omega), u2_row (by omega)]; exact h1.1), u2_both h1.2.1, (by rw [u2_row (by omega), u2_row (by omega)]; exact h1.2.2.1), (by rw [u2_row (by omega), u2_row (by omega)]; exact h1.2.2.2)⟩, h2.cg (fun a ha => by (iterate 6 try rw [u2_row (by omega)]) <;> rfl) (fun i a b => by (iterate 6 try rw [u2_row (by omega)]) <;> rfl), h3.cg (fun a ha => by (iterate 6 try rw [u2_row (by omega)]) <;> rfl) (by (iterate 6 try rw [u2_row (by omega)]) <;> rfl), h4.cg (fun a ha k _ _ => by (iterate 6 try rw [u2_row (by omega)]) <;> rfl) (fun i a b => by (iterate 6 try rw [u2_row (by omega)]) <;> rfl), h5.cg (fun b hb k hk => by (iterate 6 try rw [u2_row (by omega)]) <;> rfl) (fun i a b => by (iterate 6 try rw [u2_row (by omega)]) <;> rfl), h6.cg (fun v hv => ⟨by (iterate 6 try rw [u2_row (by omega)]) <;> rfl, by (iterate 6 try rw [u2_row (by omega)]) <;> rfl⟩) (fun i a b => by (iterate 6 try rw [u2_row (by omega)]) <;> rfl), h7.cg (by (iterate 6 try rw [u2_row (by omega)]) <;> rfl) (by (iterate 6 try rw [u2_row (by omega)]) <;> rfl) (by (iterate 6 try rw [u2_row (by omega)]) <;> rfl) (by (iterate 6 try rw [u2_row (by omega)]) <;> rfl)⟩

theorem XN.far (h : XN N T nG nB nV nT ln) (hG : nG ≤ 8) (hB : nB ≤ 300) (hV : nV ≤ 30) (p : Nat) (v : Int32) : XN (u2 N 103 p v) (u2 T 8 p v) nG nB nV nT ln := by
  obtain ⟨h0, h1, h2, h3, h4, h5, h6, h7⟩ := h
  exact ⟨h0.cg (by (iterate 6 try rw [u2_row (by omega)]) <;> rfl) (fun j hj => by (iterate 6 try rw [u2_row (by omega)]) <;> rfl), ⟨(by rw [u2_row (by omega), u2_row (by omega)]; exact h1.1), (by rw [u2_row (by omega), u2_row (by omega)]; exact h1.2.1), u2_both h1.2.2.1, (by rw [u2_row (by omega), u2_row (by omega)]; exact h1.2.2.2)⟩, h2.cg (fun a ha => by (iterate 6 try rw [u2_row (by omega)]) <;> rfl) (fun i a b => by (iterate 6 try rw [u2_row (by omega)]) <;> rfl), h3.cg (fun a ha => by (iterate 6 try rw [u2_row (by omega)]) <;> rfl) (by (iterate 6 try rw [u2_row (by omega)]) <;> rfl), h4.cg (fun a ha k _ _ => by (iterate 6 try rw [u2_row (by omega)]) <;> rfl) (fun i a b => by (iterate 6 try rw [u2_row (by omega)]) <;> rfl), h5.cg (fun b hb k hk => by (iterate 6 try rw [u2_row (by omega)]) <;> rfl) (fun i a b => by (iterate 6 try rw [u2_row (by omega)]) <;> rfl), h6.cg (fun v hv => ⟨by (iterate 6 try rw [u2_row (by omega)]) <;> rfl, by (iterate 6 try rw [u2_row (by omega)]) <;> rfl⟩) (fun i a b => by (iterate 6 try rw [u2_row (by omega)]) <;> rfl), h7.cg (by (iterate 6 try rw [u2_row (by omega)]) <;> rfl) (by (iterate 6 try rw [u2_row (by omega)]) <;> rfl) (by (iterate 6 try rw [u2_row (by omega)]) <;> rfl) (by (iterate 6 try rw [u2_row (by omega)]) <;> rfl)⟩

theorem XN.wind (h : XN N T nG nB nV nT ln) (hG : nG ≤ 8) (hB : nB ≤ 300) (hV : nV ≤ 30) (p : Nat) (v : Int32) : XN (u2 N 104 p v) (u2 T 9 p v) nG nB nV nT ln := by
  obtain ⟨h0, h1, h2, h3, h4, h5, h6, h7⟩ := h
  exact ⟨h0.cg (by (iterate 6 try rw [u2_row (by omega)]) <;> rfl) (fun j hj => by (iterate 6 try rw [u2_row (by omega)]) <;> rfl), ⟨(by rw [u2_row (by omega), u2_row (by omega)]; exact h1.1), (by rw [u2_row (by omega), u2_row (by omega)]; exact h1.2.1), (by rw [u2_row (by omega), u2_row (by omega)]; exact h1.2.2.1), u2_both h1.2.2.2⟩, h2.cg (fun a ha => by (iterate 6 try rw [u2_row (by omega)]) <;> rfl) (fun i a b => by (iterate 6 try rw [u2_row (by omega)]) <;> rfl), h3.cg (fun a ha => by (iterate 6 try rw [u2_row (by omega)]) <;> rfl) (by (iterate 6 try rw [u2_row (by omega)]) <;> rfl), h4.cg (fun a ha k _ _ => by (iterate 6 try rw [u2_row (by omega)]) <;> rfl) (fun i a b => by (iterate 6 try rw [u2_row (by omega)]) <;> rfl), h5.cg (fun b hb k hk => by (iterate 6 try rw [u2_row (by omega)]) <;> rfl) (fun i a b => by (iterate 6 try rw [u2_row (by omega)]) <;> rfl), h6.cg (fun v hv => ⟨by (iterate 6 try rw [u2_row (by omega)]) <;> rfl, by (iterate 6 try rw [u2_row (by omega)]) <;> rfl⟩) (fun i a b => by (iterate 6 try rw [u2_row (by omega)]) <;> rfl), h7.cg (by (iterate 6 try rw [u2_row (by omega)]) <;> rfl) (by (iterate 6 try rw [u2_row (by omega)]) <;> rfl) (by (iterate 6 try rw [u2_row (by omega)]) <;> rfl) (by (iterate 6 try rw [u2_row (by omega)]) <;> rfl)⟩

theorem XN.chest (h : XN N T nG nB nV nT ln) (hG : nG ≤ 8) (hB : nB ≤ 300) (hV : nV ≤ 30) (v : Int32) : XN (u2 N 100 1 v) (u2 T 0 3 v) nG nB nV nT ln := by
  obtain ⟨h0, h1, h2, h3, h4, h5, h6, h7⟩ := h
  exact ⟨⟨(by rw [u2_eq, u2_eq]), (by rw [u2_ne (by omega), u2_ne (by omega)]; exact h0.2.1), (by rw [u2_ne (by omega), u2_ne (by omega)]; exact h0.2.2.1), (by rw [u2_ne (by omega), u2_ne (by omega)]; exact h0.2.2.2)⟩, h1.cg (fun i a b => by (iterate 6 try rw [u2_row (by omega)]) <;> rfl) (fun i a b => by (iterate 6 try rw [u2_row (by omega)]) <;> rfl), h2.cg (fun a ha => by (iterate 6 try rw [u2_row (by omega)]) <;> rfl) (fun i a b => by (iterate 6 try rw [u2_row (by omega)]) <;> rfl), h3.cg (fun a ha => by (iterate 6 try rw [u2_row (by omega)]) <;> rfl) (by (iterate 6 try rw [u2_row (by omega)]) <;> rfl), h4.cg (fun a ha k _ _ => by (iterate 6 try rw [u2_row (by omega)]) <;> rfl) (fun i a b => by (iterate 6 try rw [u2_row (by omega)]) <;> rfl), h5.cg (fun b hb k hk => by (iterate 6 try rw [u2_row (by omega)]) <;> rfl) (fun i a b => by (iterate 6 try rw [u2_row (by omega)]) <;> rfl), h6.cg (fun v hv => ⟨by (iterate 6 try rw [u2_row (by omega)]) <;> rfl, by (iterate 6 try rw [u2_row (by omega)]) <;> rfl⟩) (fun i a b => by (iterate 6 try rw [u2_row (by omega)]) <;> rfl), h7.cg (by (iterate 6 try rw [u2_row (by omega)]) <;> rfl) (by (iterate 6 try rw [u2_row (by omega)]) <;> rfl) (u2_ne (by omega)) (by (iterate 6 try rw [u2_row (by omega)]) <;> rfl)⟩

theorem XN.out (h : XN N T nG nB nV nT ln) (hG : nG ≤ 8) (hB : nB ≤ 300) (hV : nV ≤ 30) (v : Int32) : XN (u2 N 100 2 v) (u2 T 0 4 v) nG nB nV nT ln := by
  obtain ⟨h0, h1, h2, h3, h4, h5, h6, h7⟩ := h
  exact ⟨⟨(by rw [u2_ne (by omega), u2_ne (by omega)]; exact h0.1), (by rw [u2_eq, u2_eq]), (by rw [u2_ne (by omega), u2_ne (by omega)]; exact h0.2.2.1), (by rw [u2_ne (by omega), u2_ne (by omega)]; exact h0.2.2.2)⟩, h1.cg (fun i a b => by (iterate 6 try rw [u2_row (by omega)]) <;> rfl) (fun i a b => by (iterate 6 try rw [u2_row (by omega)]) <;> rfl), h2.cg (fun a ha => by (iterate 6 try rw [u2_row (by omega)]) <;> rfl) (fun i a b => by (iterate 6 try rw [u2_row (by omega)]) <;> rfl), h3.cg (fun a ha => by (iterate 6 try rw [u2_row (by omega)]) <;> rfl) (by (iterate 6 try rw [u2_row (by omega)]) <;> rfl), h4.cg (fun a ha k _ _ => by (iterate 6 try rw [u2_row (by omega)]) <;> rfl) (fun i a b => by (iterate 6 try rw [u2_row (by omega)]) <;> rfl), h5.cg (fun b hb k hk => by (iterate 6 try rw [u2_row (by omega)]) <;> rfl) (fun i a b => by (iterate 6 try rw [u2_row (by omega)]) <;> rfl), h6.cg (fun v hv => ⟨by (iterate 6 try rw [u2_row (by omega)]) <;> rfl, by (iterate 6 try rw [u2_row (by omega)]) <;> rfl⟩) (fun i a b => by (iterate 6 try rw [u2_row (by omega)]) <;> rfl), h7.cg (by (iterate 6 try rw [u2_row (by omega)]) <;> rfl) (by (iterate 6 try rw [u2_row (by omega)]) <;> rfl) (u2_ne (by omega)) (by (iterate 6 try rw [u2_row (by omega)]) <;> rfl)⟩

theorem XN.ports (h : XN N T nG nB nV nT ln) (hG : nG ≤ 8) (hB : nB ≤ 300) (hV : nV ≤ 30) (v : Int32) : XN (u2 N 100 5 v) (u2 T 0 5 v) nG nB nV nT ln := by
  obtain ⟨h0, h1, h2, h3, h4, h5, h6, h7⟩ := h
  exact ⟨⟨(by rw [u2_ne (by omega), u2_ne (by omega)]; exact h0.1), (by rw [u2_ne (by omega), u2_ne (by omega)]; exact h0.2.1), (by rw [u2_eq, u2_eq]), (by rw [u2_ne (by omega), u2_ne (by omega)]; exact h0.2.2.2)⟩, h1.cg (fun i a b => by (iterate 6 try rw [u2_row (by omega)]) <;> rfl) (fun i a b => by (iterate 6 try rw [u2_row (by omega)]) <;> rfl), h2.cg (fun a ha => by (iterate 6 try rw [u2_row (by omega)]) <;> rfl) (fun i a b => by (iterate 6 try rw [u2_row (by omega)]) <;> rfl), h3.cg (fun a ha => by (iterate 6 try rw [u2_row (by omega)]) <;> rfl) (by (iterate 6 try rw [u2_row (by omega)]) <;> rfl), h4.cg (fun a ha k _ _ => by (iterate 6 try rw [u2_row (by omega)]) <;> rfl) (fun i a b => by (iterate 6 try rw [u2_row (by omega)]) <;> rfl), h5.cg (fun b hb k hk => by (iterate 6 try rw [u2_row (by omega)]) <;> rfl) (fun i a b => by (iterate 6 try rw [u2_row (by omega)]) <;> rfl), h6.cg (fun v hv => ⟨by (iterate 6 try rw [u2_row (by omega)]) <;> rfl, by (iterate 6 try rw [u2_row (by omega)]) <;> rfl⟩) (fun i a b => by (iterate 6 try rw [u2_row (by omega)]) <;> rfl), h7.cg (by (iterate 6 try rw [u2_row (by omega)]) <;> rfl) (by (iterate 6 try rw [u2_row (by omega)]) <;> rfl) (u2_ne (by omega)) (by (iterate 6 try rw [u2_row (by omega)]) <;> rfl)⟩

theorem XN.day (h : XN N T nG nB nV nT ln) (hG : nG ≤ 8) (hB : nB ≤ 300) (hV : nV ≤ 30) (v : Int32) : XN (u2 N 100 13 v) (u2 T 0 1 v) nG nB nV nT ln := by
  obtain ⟨h0, h1, h2, h3, h4, h5, h6, h7⟩ := h
  exact ⟨⟨(by rw [u2_ne (by omega), u2_ne (by omega)]; exact h0.1), (by rw [u2_ne (by omega), u2_ne (by omega)]; exact h0.2.1), (by rw [u2_ne (by omega), u2_ne (by omega)]; exact h0.2.2.1), (by rw [u2_eq, u2_eq])⟩, h1.cg (fun i a b => by (iterate 6 try rw [u2_row (by omega)]) <;> rfl) (fun i a b => by (iterate 6 try rw [u2_row (by omega)]) <;> rfl), h2.cg (fun a ha => by (iterate 6 try rw [u2_row (by omega)]) <;> rfl) (fun i a b => by (iterate 6 try rw [u2_row (by omega)]) <;> rfl), h3.cg (fun a ha => by (iterate 6 try rw [u2_row (by omega)]) <;> rfl) (by (iterate 6 try rw [u2_row (by omega)]) <;> rfl), h4.cg (fun a ha k _ _ => by (iterate 6 try rw [u2_row (by omega)]) <;> rfl) (fun i a b => by (iterate 6 try rw [u2_row (by omega)]) <;> rfl), h5.cg (fun b hb k hk => by (iterate 6 try rw [u2_row (by omega)]) <;> rfl) (fun i a b => by (iterate 6 try rw [u2_row (by omega)]) <;> rfl), h6.cg (fun v hv => ⟨by (iterate 6 try rw [u2_row (by omega)]) <;> rfl, by (iterate 6 try rw [u2_row (by omega)]) <;> rfl⟩) (fun i a b => by (iterate 6 try rw [u2_row (by omega)]) <;> rfl), h7.cg (by (iterate 6 try rw [u2_row (by omega)]) <;> rfl) (by (iterate 6 try rw [u2_row (by omega)]) <;> rfl) (u2_ne (by omega)) (by (iterate 6 try rw [u2_row (by omega)]) <;> rfl)⟩

theorem gTab_1 : ∀ q ∈ gTab, ∀ r ∈ gTab, q.1 = r.1 → q.2 = r.2 := by decide
theorem gTab_2 : ∀ q ∈ gTab, ∀ r ∈ gTab, q.2 = r.2 → q.1 = r.1 := by decide
theorem gTab_n : ∀ q ∈ gTab, ¬ q.1 = 0 ∧ ¬ (13 ≤ q.1 ∧ q.1 ≤ 16) ∧ ¬ q.2 = 23 := by decide

theorem XN.gal (h : XN N T nG nB nV nT ln) (hG : nG ≤ 8) (hB : nB ≤ 300) (hV : nV ≤ 30) {f r a : Nat} (hq : (f, r) ∈ gTab) (ha : a < nG) (v : Int32) : XN (u2 N (1000 + a) f v) (u2 T r a v) nG nB nV nT ln := by
  obtain ⟨h0, h1, h2, h3, h4, h5, h6, h7⟩ := h
  have hr := gTab_r _ hq
  have hf := gTab_n _ hq
  simp only at hr hf
  exact ⟨h0.cg (by (iterate 6 try rw [u2_row (by omega)]) <;> rfl) (fun j hj => by (iterate 6 try rw [u2_row (by omega)]) <;> rfl), h1.cg (fun i a b => by (iterate 6 try rw [u2_row (by omega)]) <;> rfl) (fun i a b => by (iterate 6 try rw [u2_row (by omega)]) <;> rfl), fun a' ha' => by
    refine ⟨by rw [u2_ne (fun z => hf.1 z.2.symm)]; exact (h2 a' ha').1, fun q hq' => ?_⟩
    have hr' := gTab_r q hq'
    by_cases e : a' = a ∧ q.1 = f
    · obtain ⟨e1, e2⟩ := e
      have e3 := gTab_1 q hq' _ hq e2
      simp only at e3
      rw [e1, e2, e3, u2_eq, u2_eq]
    · rw [u2_ne (by omega), u2_ne (fun z => e ⟨z.2, gTab_2 q hq' _ hq z.1⟩)]
      exact (h2 a' ha').2 q hq', h3.cg (fun a ha => by (iterate 6 try rw [u2_row (by omega)]) <;> rfl) (by (iterate 6 try rw [u2_row (by omega)]) <;> rfl), h4.cg (fun a ha k _ _ => u2_ne (by omega)) (fun i a b => by (iterate 6 try rw [u2_row (by omega)]) <;> rfl), h5.cg (fun b hb k hk => by rw [u2_row (by omega)]) (fun i a b => by (iterate 6 try rw [u2_row (by omega)]) <;> rfl), h6.cg (fun v hv => ⟨by (iterate 6 try rw [u2_row (by omega)]) <;> rfl, by (iterate 6 try rw [u2_row (by omega)]) <;> rfl⟩) (fun i a b => by (iterate 6 try rw [u2_row (by omega)]) <;> rfl), h7.cg (by (iterate 6 try rw [u2_row (by omega)]) <;> rfl) (by (iterate 6 try rw [u2_row (by omega)]) <;> rfl) (by (iterate 6 try rw [u2_row (by omega)]) <;> rfl) (by (iterate 6 try rw [u2_row (by omega)]) <;> rfl)⟩

/-- what holds of the reference's numbers -/
def TI (T : WNm) (nG nB nV nP dy : Nat) : Prop := MOK T nG nB nV nP dy ∧
  (∀ a, a < nG → vp_in (T 21 a) 10 ∧ (T 22 a = 0 ∨ T 22 a = 1) ∧ (1 ≤ T 14 a ∧ T 14 a ≤ 9999) ∧ (T 22 a = 0 → ∀ p, p < 10 → T 23 (10 * a + p) = 0) ∧ (T 15 a = 0 → T 18 a = 0)) ∧
  (∀ a, nG ≤ a → a < 8 → (T 15 a = 0 ∧ T 16 a = -1 ∧ T 17 a = -1 ∧ T 18 a = 0 ∧ T 19 a = 0 ∧ T 20 a = 0 ∧ T 21 a = 0 ∧ T 22 a = 0) ∧ ∀ p, p < 10 → T 23 (10 * a + p) = 0) ∧
  (∀ b, b < nB → (T 34 b = 1 → ∃ a, a < nG ∧ T 35 b = nI a) ∧ 1 ≤ T 31 b ∧ T 31 b ≤ 9999) ∧
  (∃ s0, T 42 nV = nI s0 ∧ s0 ≤ 200 * nV) ∧
  (∀ p, p < nP → ∃ f, f ≤ 9 * p ∧ T 8 p = nI f) ∧ (∀ v, v < nV → ∃ t, t ≤ 2000 ∧ T 41 v = nI t) ∧ (∀ a, a < nG → T 15 a = 1 → ∃ t, t ≤ dy ∧ T 17 a = nI t)
end
