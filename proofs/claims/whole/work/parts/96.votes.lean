/-! ===== A VOTE, ON BOTH SIDES ===== -/
/-- what the reference does with a vote -/
def VR (T : WNm) (n base nV : Nat) (k r : Int32) (T' : WNm) : Prop :=
  (¬ (0 ≤ k ∧ k ≤ 2) ∧ r = -1 ∧ T' = T) ∨ ((0 ≤ k ∧ k ≤ 2) ∧ nV = 30 ∧ r = -3 ∧ T' = T) ∨ ((0 ≤ k ∧ k ≤ 2) ∧ nV < 30 ∧ ∃ ws out Nr, RIN Nr T base ws out ∧ ((¬ (mReadR (T 37) n (T 0 48)).1 < 0 ∧ r = -100 - (mReadR (T 37) n (T 0 48)).1 ∧ T' = u2 Nr 0 37 0) ∨ ((mReadR (T 37) n (T 0 48)).1 < 0 ∧ ((mReadR (T 37) n (T 0 48)).1 = -1 → out = (mReadR (T 37) n (T 0 48)).2) ∧ r = nI (nV + 1) ∧ T' = mVoteN Nr nV k)))
theorem XV.le {N T : WNm} {nV : Nat} {ln : Nat → Nat} (h : XV N T nV ln) {base : Nat} (hb : T 42 nV = nI base) (hb6 : base ≤ 6200) : ∀ (d v : Nat), v + 1 + d = nV → ∀ s0, T 42 v = nI s0 → s0 ≤ 6200 → s0 + ln v ≤ base
  | 0, v, e, s0, h0, hs => by
    obtain ⟨-, -, s1, e1, e2, e3, -⟩ := h v (by omega)
    have z : s1 = s0 := nI_inj (by omega) (by omega) (e1.symm.trans h0)
    subst z
    rw [show v + 1 = nV by omega, hb] at e2
    have := nI_inj (by omega) (by omega) e2
    omega
  | d + 1, v, e, s0, h0, hs => by
    obtain ⟨-, -, s1, e1, e2, e3, -⟩ := h v (by omega)
    have z : s1 = s0 := nI_inj (by omega) (by omega) (e1.symm.trans h0)
    subst z
    have := XV.le h hb hb6 d (v + 1) (by omega) _ e2 e3
    omega
theorem XV.keep {N N1 T T' : WNm} {nV base : Nat} {ln : Nat → Nat} (h : XV N T nV ln) (hb : T 42 nV = nI base) (hb6 : base ≤ 6200) (e : ∀ v, v < nV → N1 (3000 + v) = N (3000 + v) ∧ N1 (3100 + v) = N (3100 + v)) (f1 : ∀ v, v < nV → T' 40 v = T 40 v ∧ T' 41 v = T 41 v) (f2 : ∀ v, v ≤ nV → T' 42 v = T 42 v) (f3 : ∀ j, j < base → T' 43 j = T 43 j ∧ T' 44 j = T 44 j) : XV N1 T' nV ln := fun v hv => by
  obtain ⟨a1, a2, s0, e1, e2, e3, a3⟩ := h v hv
  have hle := h.le hb hb6 (nV - v - 1) v (by omega) s0 e1 (by omega)
  rw [(e v hv).1, (e v hv).2, (f1 v hv).1, (f1 v hv).2]
  refine ⟨a1, a2, s0, by rw [f2 v (by omega)]; exact e1, by rw [f2 (v + 1) (by omega)]; exact e2, e3, fun j hj => ?_⟩
  rw [(f3 (s0 + j) (by omega)).1, (f3 (s0 + j) (by omega)).2]
  exact a3 j hj
theorem pile_at {ρ : Nat → Int32} {N : WNm} {base : Nat} : ∀ {L : Nat}, pileOf ρ L = stL (pile2 N base L) → (∀ s ∈ pile2 N base L, stG s.1 s.2) → ∀ j, j < L → stG (N 43 (base + j)) (N 44 (base + j)) ∧ ρ j = stM (N 43 (base + j)) (N 44 (base + j))
  | 0, _, _, j, hj => absurd hj (Nat.not_lt_zero _)
  | L + 1, h, hg, j, hj => by
    rw [pile2] at hg
    have e := List.cons.inj (show ρ L :: pileOf ρ L = stM (N 43 (base + L)) (N 44 (base + L)) :: stL (pile2 N base L) from h)
    by_cases z : j = L
    · rw [z]; exact ⟨hg _ List.mem_cons_self, e.1⟩
    · exact pile_at e.2 (fun s hs => hg s (List.mem_cons_of_mem _ hs)) j (by omega)
theorem XN.tape {N T N2 T' : WNm} {nG nB nV nT nV2 : Nat} {ln ln2 : Nat → Nat} (h : XN N T nG nB nV nT ln) (hG : nG ≤ 8) (hB : nB ≤ 300) (n1 : ∀ i, (100 ≤ i ∧ i ≤ 104) ∨ (1000 ≤ i ∧ i < 3000) → N2 i = N i) (t0 : ∀ j, j ≤ 5 → T' 0 j = T 0 j) (t1 : ∀ i, 1 ≤ i → i ≤ 36 → T' i = T i) (t2 : T' 0 37 = 0) (n2 : N2 111 1 = 0) (hv : XV N2 T' nV2 ln2) : XN N2 T' nG nB nV2 0 ln2 := by
  obtain ⟨h0, h1, h2, h3, h4, h5, -, -⟩ := h
  exact ⟨h0.cg (n1 _ (by omega)) t0, h1.cg (fun i a b => n1 i (by omega)) (fun i a b => t1 i (by omega) (by omega)), h2.cg (fun a ha => n1 _ (by omega)) (fun i a b => t1 i (by omega) (by omega)), h3.cg (fun a ha => n1 _ (by omega)) (t1 23 (by decide) (by decide)), h4.cg (fun a ha k _ _ => by rw [n1 _ (by omega)]) (fun i a b => t1 i (by omega) (by omega)), h5.cg (fun b hb k hk => by rw [n1 _ (by omega)]) (fun i a b => t1 i (by omega) (by omega)), hv, n2, Nat.zero_le _, t2, fun j hj => absurd hj (Nat.not_lt_zero _)⟩
/-- steps that the depth counts are steps that may be worked off -/
theorem dpt_inv {s : Int32 × Int32} {o : List (Int32 × Int32)} {m : Nat} (h : dpt (s :: o) = some m) : ∃ q, dpt o = some q ∧ ((s.1 = 1 ∨ 100 ≤ s.1) ∧ m = q + 1 ∨ ¬ (s.1 = 1 ∨ 100 ≤ s.1) ∧ (s.1 = 30 ∨ s.1 = 70) ∧ 1 ≤ q ∧ m = q ∨ ¬ (s.1 = 1 ∨ 100 ≤ s.1) ∧ ¬ (s.1 = 30 ∨ s.1 = 70) ∧ 2 ≤ q ∧ m = q - 1) := by
  rw [dpt] at h
  cases hd : dpt o with
  | none => rw [hd] at h; cases h
  | some q =>
    rw [hd] at h
    simp only at h
    refine ⟨q, rfl, ?_⟩
    by_cases h1 : s.1 = 1 ∨ 100 ≤ s.1
    · rw [if_pos h1] at h; cases h; exact Or.inl ⟨h1, rfl⟩
    · rw [if_neg h1] at h
      by_cases h2 : s.1 = 30 ∨ s.1 = 70
      · rw [if_pos h2] at h
        by_cases h3 : 1 ≤ q
        · rw [if_pos h3] at h; cases h; exact Or.inr (Or.inl ⟨h1, h2, h3, rfl⟩)
        · rw [if_neg h3] at h; cases h
      · rw [if_neg h2] at h
        by_cases h3 : 2 ≤ q
        · rw [if_pos h3] at h; cases h; exact Or.inr (Or.inr ⟨h1, h2, h3, rfl⟩)
        · rw [if_neg h3] at h; cases h
theorem ev_dpt (N : WNm) (s0 : Nat) (val : Int32 → Int32) : ∀ (j m : Nat), j ≤ 200 → dpt (pile2 N s0 j) = some m → (mEv N s0 val j).length = m ∧ m ≤ j ∧ ∀ i, i < j → stepOk (N 43 (s0 + i)) (mEv N s0 val i).length ∧ (mEv N s0 val i).length ≤ 200
  | 0, m, _, h => by
    cases h
    exact ⟨rfl, Nat.le_refl _, fun i hi => absurd hi (Nat.not_lt_zero _)⟩
  | j + 1, m, hj, h => by
    rw [pile2] at h
    obtain ⟨q, e, hc⟩ := dpt_inv h
    obtain ⟨l1, l2, l3⟩ := ev_dpt N s0 val j q (by omega) e
    have hst : stepOk (N 43 (s0 + j)) q ∧ (mStepOn (N 43 (s0 + j)) (N 44 (s0 + j)) val (mEv N s0 val j)).length = m ∧ m ≤ j + 1 := by
      unfold stepOk mStepOn
      rcases hc with ⟨h1, h2⟩ | ⟨h1, h2, h3, h4⟩ | ⟨h1, h2, h3, h4⟩
      · rcases h1 with z | z
        · replace z : N 43 (s0 + j) = 1 := z
          rw [if_pos z, if_pos z, List.length_cons]
          exact ⟨by omega, by omega, by omega⟩
        · replace z : ¬ N 43 (s0 + j) < 100 := i_nlt.mpr z
          by_cases y : N 43 (s0 + j) = 1
          · exact absurd (by rw [y]; decide) z
          · rw [if_neg y, if_neg y, if_neg z, if_neg z, List.length_cons]
            exact ⟨by omega, by omega, by omega⟩
      · replace h1 : ¬ (N 43 (s0 + j) = 1 ∨ 100 ≤ N 43 (s0 + j)) := h1
        have y : ¬ N 43 (s0 + j) = 1 := fun z => h1 (Or.inl z)
        have z : N 43 (s0 + j) < 100 := i_nle.mp (fun z => h1 (Or.inr z))
        rw [if_neg y, if_neg y, if_pos z, if_pos z]
        obtain ⟨a, r, er⟩ : ∃ a r, mEv N s0 val j = a :: r := by
          cases hm : mEv N s0 val j with
          | nil => rw [hm] at l1; simp at l1; omega
          | cons a r => exact ⟨a, r, rfl⟩
        rw [er] at l1 ⊢
        rw [List.length_cons] at l1
        by_cases w : N 43 (s0 + j) = 30
        · rw [if_pos w, if_pos w]
          exact ⟨h3, by show r.length + 1 = m; omega, by omega⟩
        · have w2 : N 43 (s0 + j) = 70 := h2.resolve_left w
          rw [if_neg w, if_pos w2, if_neg w, if_pos w2]
          exact ⟨h3, by show r.length + 1 = m; omega, by omega⟩
      · replace h1 : ¬ (N 43 (s0 + j) = 1 ∨ 100 ≤ N 43 (s0 + j)) := h1
        replace h2 : ¬ (N 43 (s0 + j) = 30 ∨ N 43 (s0 + j) = 70) := h2
        have y : ¬ N 43 (s0 + j) = 1 := fun z => h1 (Or.inl z)
        have z : N 43 (s0 + j) < 100 := i_nle.mp (fun z => h1 (Or.inr z))
        have w1 : ¬ N 43 (s0 + j) = 30 := fun z => h2 (Or.inl z)
        have w2 : ¬ N 43 (s0 + j) = 70 := fun z => h2 (Or.inr z)
        rw [if_neg y, if_neg y, if_pos z, if_pos z, if_neg w1, if_neg w1, if_neg w2, if_neg w2]
        obtain ⟨a, b, r, er⟩ : ∃ a b r, mEv N s0 val j = a :: b :: r := by
          cases hm : mEv N s0 val j with
          | nil => rw [hm] at l1; simp at l1; omega
          | cons a r => cases r with
            | nil => rw [hm] at l1; simp at l1; omega
            | cons b r => exact ⟨a, b, r, rfl⟩
        rw [er] at l1 ⊢
        rw [List.length_cons, List.length_cons] at l1
        exact ⟨h3, by show r.length + 1 = m; omega, by omega⟩
    refine ⟨by rw [mEv]; exact hst.2.1, hst.2.2, fun i hi => ?_⟩
    by_cases z : i = j
    · rw [z, l1]; exact ⟨hst.1, by omega⟩
    · exact l3 i (by omega)
theorem ev_keep {N N' : WNm} {s0 : Nat} (val : Int32 → Int32) : ∀ (j : Nat), (∀ i, i < j → N' 43 (s0 + i) = N 43 (s0 + i) ∧ N' 44 (s0 + i) = N 44 (s0 + i)) → mEv N' s0 val j = mEv N s0 val j
  | 0, _ => rfl
  | j + 1, h => by rw [mEv, mEv, ev_keep val j (fun i hi => h i (by omega)), (h j (by omega)).1, (h j (by omega)).2]
theorem voteOk.le {T : WNm} {nV : Nat} (h : ∀ v, v < nV → voteOk T v) {base : Nat} (hb : T 42 nV = nI base) (hb6 : base ≤ 6200) : ∀ (d v : Nat), v + d = nV → ∀ s0, T 42 v = nI s0 → s0 ≤ 6200 → s0 ≤ base
  | 0, v, e, s0, h0, hs => by
    rw [show v = nV by omega, hb] at h0
    have := nI_inj (by omega) (by omega) h0
    omega
  | d + 1, v, e, s0, h0, hs => by
    obtain ⟨a, b, e1, e2, e3, e4, -⟩ := h v (by omega)
    have z : a = s0 := nI_inj (by omega) (by omega) (e1.symm.trans h0)
    have := voteOk.le h hb hb6 d (v + 1) (by omega) b e2 e4
    omega
theorem voteOk.keep {T T' : WNm} {nV base : Nat} (h : ∀ v, v < nV → voteOk T v) (hb : T 42 nV = nI base) (hb6 : base ≤ 6200) (f2 : ∀ v, v ≤ nV → T' 42 v = T 42 v) (f3 : ∀ j, j < base → T' 43 j = T 43 j ∧ T' 44 j = T 44 j) : ∀ v, v < nV → voteOk T' v := fun v hv => by
  obtain ⟨a, b, e1, e2, e3, e4, e5⟩ := h v hv
  have hle := voteOk.le h hb hb6 (nV - (v + 1)) (v + 1) (by omega) b e2 e4
  refine ⟨a, b, by rw [f2 v (by omega)]; exact e1, by rw [f2 (v + 1) (by omega)]; exact e2, e3, e4, fun val => ?_⟩
  obtain ⟨g1, g2⟩ := e5 val
  refine ⟨fun j hj => ?_, ?_⟩
  · rw [ev_keep val j (fun i hi => f3 (a + i) (by omega)), (f3 (a + j) (by omega)).1]
    exact g1 j hj
  · rw [ev_keep val (b - a) (fun i hi => f3 (a + i) (by omega))]
    exact g2
/-- what holds of the reference stays when a vote is taken -/
theorem TI.vote {T T' : WNm} {nG nB nV nV2 nP dy base : Nat} (h : TI T nG nB nV nP dy) (hb : T 42 nV = nI base) (hb6 : base ≤ 6200) (t0 : ∀ j, j = 1 ∨ j = 5 ∨ j = 9 ∨ j = 23 → T' 0 j = T 0 j) (t1 : ∀ i, 1 ≤ i → i ≤ 36 → T' i = T i) (h38 : T' 0 38 = nI nV2) (hV2 : nV2 ≤ 30) (hvo : ∀ v, v < nV2 → voteOk T' v) (h42 : ∃ s0, T' 42 nV2 = nI s0 ∧ s0 ≤ 200 * nV2) (h41 : ∀ v, v < nV2 → ∃ t, t ≤ 2000 ∧ T' 41 v = nI t) : TI T' nG nB nV2 nP dy := by
  obtain ⟨⟨⟨a1, a2⟩, ⟨b1, b2⟩, ⟨c1, c2, c3⟩, ⟨d1, d2⟩, ⟨e1, e2⟩, f, p⟩, c2', c3', c4, c5, c6, c7, c8⟩ := h
  refine ⟨⟨⟨by rw [t0 9 (by decide)]; exact a1, a2⟩, ⟨by rw [t0 23 (by decide)]; exact b1, b2⟩, ⟨h38, hV2, hvo⟩, ⟨by rw [t0 5 (by decide)]; exact d1, d2⟩, ⟨by rw [t0 1 (by decide)]; exact e1, e2⟩, fun k hk => by rw [t1 25 (by decide) (by decide)]; exact f k hk, fun a ha => by rw [t1 15 (by decide) (by decide), t1 16 (by decide) (by decide)]; exact p a ha⟩, ?_, ?_, ?_, h42, ?_, h41, ?_⟩
  · rw [t1 21 (by decide) (by decide), t1 22 (by decide) (by decide), t1 14 (by decide) (by decide), t1 23 (by decide) (by decide), t1 15 (by decide) (by decide), t1 18 (by decide) (by decide)]; exact c2'
  · rw [t1 15 (by decide) (by decide), t1 16 (by decide) (by decide), t1 17 (by decide) (by decide), t1 18 (by decide) (by decide), t1 19 (by decide) (by decide), t1 20 (by decide) (by decide), t1 21 (by decide) (by decide), t1 22 (by decide) (by decide), t1 23 (by decide) (by decide)]; exact c3'
  · rw [t1 34 (by decide) (by decide), t1 35 (by decide) (by decide), t1 31 (by decide) (by decide)]; exact c4
  · rw [t1 8 (by decide) (by decide)]; exact c6
  · rw [t1 15 (by decide) (by decide), t1 17 (by decide) (by decide)]; exact c8
/-- a refused vote: the tape is empty, all else stays -/
theorem vote_bad {T Nr : WNm} {base nG nB nV nP dy : Nat} {ws : List Int32} {out : List (Int32 × Int32)} (hR : RIN Nr T base ws out) (hI : TI T nG nB nV nP dy) (hb : T 42 nV = nI base) (hb6 : base ≤ 6200) : TI (u2 Nr 0 37 0) nG nB nV nP dy ∧ (∀ j, j ≤ 43 → ¬ j = 37 → u2 Nr 0 37 0 0 j = T 0 j) ∧ (∀ i, 1 ≤ i → i ≤ 42 → u2 Nr 0 37 0 i = T i) ∧ (∀ j, j < base → u2 Nr 0 37 0 43 j = T 43 j ∧ u2 Nr 0 37 0 44 j = T 44 j) := by
  obtain ⟨-, -, -, -, h5, h6, h7⟩ := hR
  have r0 : ∀ j, j ≤ 43 → ¬ j = 37 → u2 Nr 0 37 0 0 j = T 0 j := fun j hj h => by rw [u2_ne (fun z => h z.2)]; exact h6 j (by omega) (by omega) (by omega) (by omega) (by omega) (by omega) (by omega)
  have r1 : ∀ i, 1 ≤ i → i ≤ 42 → u2 Nr 0 37 0 i = T i := fun i h1 h2 => by rw [u2_row (by omega)]; exact h5 i (by omega) (by omega) (by omega) (by omega)
  have r3 : ∀ j, j < base → u2 Nr 0 37 0 43 j = T 43 j ∧ u2 Nr 0 37 0 44 j = T 44 j := fun j hj => by rw [u2_row (by decide), u2_row (by decide)]; exact h7 j hj
  refine ⟨hI.vote hb hb6 (fun j hj => r0 j (by omega) (by omega)) (fun i a b => r1 i a (by omega)) (by rw [r0 38 (by decide) (by decide)]; exact hI.v38) hI.1.2.2.1.2.1 (voteOk.keep hI.1.2.2.1.2.2 hb hb6 (fun v hv => by rw [r1 42 (by decide) (by decide)]) r3) (by rw [r1 42 (by decide) (by decide)]; exact hI.2.2.2.2.1) (fun v hv => by rw [r1 41 (by decide) (by decide)]; exact hI.2.2.2.2.2.2.1 v hv), r0, r1, r3⟩
/-- a vote that is taken -/
theorem vote_ok {T Nr : WNm} {base nG nB nV nP dy : Nat} {ws : List Int32} {out : List (Int32 × Int32)} (hR : RIN Nr T base ws out) (hI : TI T nG nB nV nP dy) (hb : T 42 nV = nI base) (hb6 : base ≤ 200 * nV) (hV : nV < 30) (k : Int32) (hl : out.length ≤ 200) (hd : dpt out = some 1) : TI (mVoteN Nr nV k) nG nB (nV + 1) nP dy ∧ (∀ j, j ≤ 5 → mVoteN Nr nV k 0 j = T 0 j) ∧ (∀ i, 1 ≤ i → i ≤ 36 → mVoteN Nr nV k i = T i) ∧ mVoteN Nr nV k 0 37 = 0 ∧ (∀ v, v < nV → mVoteN Nr nV k 40 v = T 40 v ∧ mVoteN Nr nV k 41 v = T 41 v) ∧ (∀ v, v ≤ nV → mVoteN Nr nV k 42 v = T 42 v) ∧ (∀ j, j < base → mVoteN Nr nV k 43 j = T 43 j ∧ mVoteN Nr nV k 44 j = T 44 j) ∧ mVoteN Nr nV k 40 nV = k ∧ mVoteN Nr nV k 41 nV = T 0 1 ∧ mVoteN Nr nV k 42 (nV + 1) = nI (base + out.length) ∧ pile2 (mVoteN Nr nV k) base out.length = out ∧ (mVoteN Nr nV k 0 9 = T 0 9 ∧ mVoteN Nr nV k 0 23 = T 0 23 ∧ mVoteN Nr nV k 0 38 = nI (nV + 1)) := by
  obtain ⟨-, -, h3, h4, h5, h6, h7⟩ := hR
  have r0 : ∀ j, j ≤ 43 → ¬ j = 37 → ¬ j = 38 → mVoteN Nr nV k 0 j = T 0 j := fun j hj h h' => by
    unfold mVoteN
    rw [u2_row (by decide), u2_ne (fun z => h' z.2), u2_row (by decide), u2_row (by decide), u2_ne (fun z => h z.2)]
    exact h6 j (by omega) (by omega) (by omega) (by omega) (by omega) (by omega) (by omega)
  have r1 : ∀ i, 1 ≤ i → i ≤ 36 → mVoteN Nr nV k i = T i := fun i h1 h2 => by
    unfold mVoteN
    rw [u2_row (by omega), u2_row (by omega), u2_row (by omega), u2_row (by omega), u2_row (by omega)]
    exact h5 i (by omega) (by omega) (by omega) (by omega)
  have r43 : mVoteN Nr nV k 43 = Nr 43 ∧ mVoteN Nr nV k 44 = Nr 44 := ⟨rfl, rfl⟩
  have r3 : ∀ j, j < base → mVoteN Nr nV k 43 j = T 43 j ∧ mVoteN Nr nV k 44 j = T 44 j := fun j hj => by rw [r43.1, r43.2]; exact h7 j hj
  have e1 : Nr 0 1 = T 0 1 := h6 1 (by decide) (by decide) (by decide) (by decide) (by decide) (by decide) (by decide)
  have r4 : ∀ v, v < nV → mVoteN Nr nV k 40 v = T 40 v ∧ mVoteN Nr nV k 41 v = T 41 v := fun v hv => by
    unfold mVoteN
    rw [u2_row (by decide), u2_row (by decide), u2_row (by decide), u2_ne (by omega), u2_row (by decide), u2_row (by decide), u2_row (by decide), u2_ne (by omega), u2_row (by decide), u2_row (by decide), h5 40 (by decide) (by decide) (by decide) (by decide), h5 41 (by decide) (by decide) (by decide) (by decide)]
    exact ⟨rfl, rfl⟩
  have r2 : ∀ v, v ≤ nV → mVoteN Nr nV k 42 v = T 42 v := fun v hv => by
    unfold mVoteN
    rw [u2_ne (by omega), u2_row (by decide), u2_row (by decide), u2_row (by decide), u2_row (by decide), h5 42 (by decide) (by decide) (by decide) (by decide)]
  have k40 : mVoteN Nr nV k 40 nV = k := by
    unfold mVoteN
    rw [u2_row (by decide), u2_row (by decide), u2_row (by decide), u2_eq]
  have k41 : mVoteN Nr nV k 41 nV = T 0 1 := by
    unfold mVoteN
    rw [u2_row (by decide), u2_row (by decide), u2_eq, e1]
  have k42 : mVoteN Nr nV k 42 (nV + 1) = nI (base + out.length) := by
    unfold mVoteN
    rw [u2_eq, h3]
  have hp : pile2 (mVoteN Nr nV k) base out.length = out := (pile2_cong (N := Nr) (N' := mVoteN Nr nV k) (fun j _ => ⟨rfl, rfl⟩)).trans h4
  have k38 : mVoteN Nr nV k 0 38 = nI (nV + 1) := by
    unfold mVoteN
    rw [u2_row (by decide), u2_eq]
  refine ⟨hI.vote hb (by omega) (fun j hj => r0 j (by omega) (by omega) (by omega)) r1 k38 (by omega) (fun v hv => ?_) ⟨_, k42, by omega⟩ (fun v hv => ?_), fun j hj => r0 j (by omega) (by omega) (by omega), r1, rfl, r4, r2, r3, k40, k41, k42, hp, r0 9 (by decide) (by decide) (by decide), r0 23 (by decide) (by decide) (by decide), k38⟩
  · by_cases z : v = nV
    · subst z
      refine ⟨base, base + out.length, by rw [r2 _ (Nat.le_refl _)]; exact hb, k42, by omega, by omega, fun val => ?_⟩
      rw [← hp] at hd
      obtain ⟨l1, l2, l3⟩ := ev_dpt (mVoteN Nr v k) base val out.length 1 hl hd
      rw [Nat.add_sub_cancel_left]
      exact ⟨l3, l1⟩
    · exact voteOk.keep hI.1.2.2.1.2.2 hb (by omega) r2 r3 v (by omega)
  · by_cases z : v = nV
    · rw [z, k41]; exact ⟨dy, hI.1.2.2.2.2.1.2, hI.d1⟩
    · rw [(r4 v (by omega)).2]; exact hI.2.2.2.2.2.2.1 v (by omega)
