/-! ===== WHAT HOLDS OF THE REFERENCE STAYS: sailing and leaving ===== -/
theorem TI.of {T T1 : WNm} {nG nB nV nP dy a : Nat} (h : TI T nG nB nV nP dy) (hm : MOK T1 nG nB nV nP dy) (fr : ∀ i, i = 8 ∨ i = 14 ∨ i = 20 ∨ i = 21 ∨ i = 22 ∨ i = 23 ∨ i = 31 ∨ i = 41 ∨ i = 42 → T1 i = T i) (ha : a < nG) (pt : ∀ a', ¬ a' = a → T1 15 a' = T 15 a' ∧ T1 16 a' = T 16 a' ∧ T1 17 a' = T 17 a' ∧ T1 18 a' = T 18 a' ∧ T1 19 a' = T 19 a') (h0 : ¬ T1 15 a = 0) (h17 : T1 15 a = 1 → ∃ t, t ≤ dy ∧ T1 17 a = nI t) (h4 : ∀ b, b < nB → T1 34 b = 1 → ∃ a, a < nG ∧ T1 35 b = nI a) : TI T1 nG nB nV nP dy := by
  obtain ⟨-, c2, c3, c4, c5, c6, c7, c8⟩ := h
  have e8 := fr 8 (by decide)
  have e14 := fr 14 (by decide)
  have e20 := fr 20 (by decide)
  have e21 := fr 21 (by decide)
  have e22 := fr 22 (by decide)
  have e23 := fr 23 (by decide)
  have e31 := fr 31 (by decide)
  have e41 := fr 41 (by decide)
  have e42 := fr 42 (by decide)
  refine ⟨hm, fun a' ha' => ?_, fun a' h1 h2 => ?_, fun b hb => ?_, ?_, ?_, ?_, fun a' ha' hs => ?_⟩
  · rw [e14, e21, e22, e23]
    obtain ⟨z1, z2, z3, z4, z5⟩ := c2 a' ha'
    refine ⟨z1, z2, z3, z4, fun q => ?_⟩
    by_cases e : a' = a
    · rw [e] at q; exact absurd q h0
    · rw [(pt a' e).2.2.2.1]; rw [(pt a' e).1] at q; exact z5 q
  · rw [e20, e21, e22, e23, (pt a' (by omega)).1, (pt a' (by omega)).2.1, (pt a' (by omega)).2.2.1, (pt a' (by omega)).2.2.2.1, (pt a' (by omega)).2.2.2.2]
    exact c3 a' h1 h2
  · rw [e31]; exact ⟨h4 b hb, (c4 b hb).2⟩
  · rw [e42]; exact c5
  · rw [e8]; exact c6
  · rw [e41]; exact c7
  · by_cases e : a' = a
    · rw [e] at hs ⊢; exact h17 hs
    · rw [(pt a' e).2.2.1]; rw [(pt a' e).1] at hs; exact c8 a' ha' hs
theorem mGive_19 (N : WNm) (k a : Nat) {a' : Nat} (h : ¬ a' = a) : mGive N k a 19 a' = N 19 a' := by
  rw [mGive, u2_row (by decide), mGiveP_row _ _ _ (by decide), mGive3, u2_ne (fun z => h z.2), u2_row (by decide), mBecomes, u2_row (by decide), u2_row (by decide)]
theorem mGive_34 (N : WNm) (k a : Nat) {b : Nat} (h : mGive N k a 34 b = 1) : N 34 b = 1 := by
  rw [mGive, u2_row (by decide), mGiveP_row _ _ _ (by decide), mGive3, u2_row (by decide), u2_row (by decide), mBecomes, u2_row (by decide)] at h
  by_cases e : b = k
  · rw [e, u2_eq] at h; exact absurd h (by decide)
  · rw [u2_ne (fun z => e z.2)] at h; exact h
theorem mSailB_19 (N : WNm) (a : Nat) (p : Int32) {a' : Nat} (h : ¬ a' = a) : ∀ b, mSailB N a p b 19 a' = N 19 a'
  | 0 => rfl
  | b + 1 => by
    rw [mSailB]
    split
    · split
      · rw [mGive_19 _ _ _ h]; exact mSailB_19 N a p h b
      · exact mSailB_19 N a p h b
    · exact mSailB_19 N a p h b
theorem mSailB_34 (N : WNm) (a : Nat) (p : Int32) {q : Nat} : ∀ b, mSailB N a p b 34 q = 1 → N 34 q = 1
  | 0, h => h
  | b + 1, h => by
    rw [mSailB] at h
    split at h
    · split at h
      · exact mSailB_34 N a p b (mGive_34 _ _ _ h)
      · exact mSailB_34 N a p b h
    · exact mSailB_34 N a p b h
theorem mSail_pt (N : WNm) (nB a : Nat) {a' : Nat} (h : ¬ a' = a) : mSail N nB a 15 a' = N 15 a' ∧ mSail N nB a 16 a' = N 16 a' ∧ mSail N nB a 17 a' = N 17 a' ∧ mSail N nB a 18 a' = N 18 a' ∧ mSail N nB a 19 a' = N 19 a' := by
  have hz : ∀ i, i = 15 ∨ i = 16 ∨ i = 17 ∨ i = 18 ∨ i = 19 → mSail2 N a i a' = N i a' ∧ mSail1 N a i a' = N i a' := by
    rintro i (e | e | e | e | e) <;> subst e <;> unfold mSail2 mSail1 <;> exact ⟨by rw [u2_ne (by omega), u2_ne (by omega), u2_ne (by omega), u2_ne (by omega)], u2_ne (by omega)⟩
  unfold mSail
  split
  · rw [mSailB_row _ _ _ (by decide), mSailB_row _ _ _ (by decide), mSailB_row _ _ _ (by decide), mSailB_row _ _ _ (by decide), mSailB_19 _ _ _ h]
    exact ⟨(hz 15 (by decide)).1, (hz 16 (by decide)).1, (hz 17 (by decide)).1, (hz 18 (by decide)).1, (hz 19 (by decide)).1⟩
  · exact ⟨(hz 15 (by decide)).2, (hz 16 (by decide)).2, (hz 17 (by decide)).2, (hz 18 (by decide)).2, (hz 19 (by decide)).2⟩
theorem mSail_at (N : WNm) (nB a : Nat) : mSail N nB a 15 a = N 15 a ∨ (mSail N nB a 15 a = 1 ∧ mSail N nB a 17 a = N 0 1) := by
  unfold mSail
  split
  · right
    rw [mSailB_row _ _ _ (by decide), mSailB_row _ _ _ (by decide)]
    unfold mSail2
    exact ⟨by rw [u2_row (by decide), u2_row (by decide), u2_eq], u2_eq _ _ _ _⟩
  · left
    unfold mSail1
    rw [u2_row (by decide)]
theorem TI.sail {T : WNm} {nG nB nV nP dy a : Nat} (h : TI T nG nB nV nP dy) (ha : a < nG) (hs : T 15 a = 2) : TI (mSail T nB a) nG nB nV nP dy := by
  refine h.of (h.1.sail hs ha) (fun i hi => mSail_row _ _ _ (by omega)) ha (fun a' e => mSail_pt T nB a e) ?_ ?_ (fun b hb q => ?_)
  · rcases mSail_at T nB a with z | z
    · rw [z, hs]; decide
    · rw [z.1]; decide
  · intro q
    rcases mSail_at T nB a with z | z
    · rw [z, hs] at q; exact absurd q (by decide)
    · exact ⟨dy, Nat.le_refl _, by rw [z.2]; exact h.1.2.2.2.2.1.1⟩
  · rw [mSail_row _ _ _ (by decide)]
    refine (h.2.2.2.1 b hb).1 ?_
    unfold mSail at q
    split at q
    · have z := mSailB_34 _ _ _ _ q
      unfold mSail2 mSail1 at z
      rw [u2_row (by decide), u2_row (by decide), u2_row (by decide), u2_row (by decide)] at z
      exact z
    · unfold mSail1 at q
      rw [u2_row (by decide)] at q
      exact q
theorem mLoad1_or (L : WNm) (nB a j : Nat) : mLoad1 L nB a j = L ∨ mLoad1 L nB a j = u2 (mBecomes L j 1) 35 j (nI a) := by
  unfold mLoad1
  by_cases h1 : L 11 a < mRoomOn L (nI a) nB + L 29 j
  · rw [if_pos h1]; exact Or.inl rfl
  · rw [if_neg h1]
    by_cases h2 : L 12 a < mWeightOn L (nI a) False nB + L 30 j
    · rw [if_pos h2]; exact Or.inl rfl
    · rw [if_neg h2]
      by_cases h3 : L 28 j = 1
      · rw [if_pos h3]
        by_cases h4 : L 12 a / 2 < mWeightOn L (nI a) True nB + L 30 j
        · rw [if_pos h4]; exact Or.inl rfl
        · rw [if_neg h4]; exact Or.inr rfl
      · rw [if_neg h3]; exact Or.inr rfl
theorem mLoad1_on {L : WNm} {nG nB a j : Nat} (ha : a < nG) (h : ∀ b, b < nB → L 34 b = 1 → ∃ a, a < nG ∧ L 35 b = nI a) : ∀ b, b < nB → mLoad1 L nB a j 34 b = 1 → ∃ a', a' < nG ∧ mLoad1 L nB a j 35 b = nI a' := by
  have e : ∀ b, b < nB → u2 (mBecomes L j 1) 35 j (nI a) 34 b = 1 → ∃ a', a' < nG ∧ u2 (mBecomes L j 1) 35 j (nI a) 35 b = nI a' := by
    intro b hb q
    by_cases z : b = j
    · rw [z, u2_eq]; exact ⟨a, ha, rfl⟩
    · rw [u2_ne (fun y => z y.2), mBecomes, u2_row (by decide), u2_row (by decide)]
      rw [u2_row (by decide), mBecomes, u2_row (by decide), u2_ne (fun y => z y.2)] at q
      exact h b hb q
  rcases mLoad1_or L nB a j with z | z
  · rw [z]; exact h
  · rw [z]; exact e
theorem mLoad_on {ω : Nat → Int32} {nG nB a : Nat} (ha : a < nG) : ∀ (f : Nat) (τ : Nat → Int32) (L : WNm), (∀ b, b < nB → L 34 b = 1 → ∃ a, a < nG ∧ L 35 b = nI a) → ∀ b, b < nB → mLoad ω nB a f τ L 34 b = 1 → ∃ a', a' < nG ∧ mLoad ω nB a f τ L 35 b = nI a'
  | 0, _, _, h => h
  | f + 1, τ, L, h => by
    rw [mLoad]
    cases best ω (fun b => τ b = 0) nB with
    | none => exact h
    | some j => exact mLoad_on ha f _ _ (mLoad1_on ha h)
theorem mGo_pt (N : WNm) (nB a : Nat) {a' : Nat} (h : ¬ a' = a) : mGo N nB a 15 a' = N 15 a' ∧ mGo N nB a 16 a' = N 16 a' ∧ mGo N nB a 17 a' = N 17 a' ∧ mGo N nB a 18 a' = N 18 a' ∧ mGo N nB a 19 a' = N 19 a' := by
  unfold mGo
  split
  · exact ⟨u2_ne (by omega), by rw [u2_row (by decide)], by rw [u2_row (by decide)], by rw [u2_row (by decide)], by rw [u2_row (by decide)]⟩
  · unfold mGoEnd
    refine ⟨?_, ?_, ?_, ?_, ?_⟩ <;> rw [u2_ne (by omega), u2_ne (by omega), u2_ne (by omega), u2_ne (by omega), mLoad_row _ _ _ (by decide)]
theorem TI.go {T : WNm} {nG nB nV nP dy a : Nat} (h : TI T nG nB nV nP dy) (ha : a < nG) (hs : T 15 a = 1) : TI (mGo T nB a) nG nB nV nP dy := by
  refine h.of (h.1.go hs ha) (fun i hi => mGo_row _ _ _ (by omega)) ha (fun a' e => mGo_pt T nB a e) ?_ ?_ (fun b hb q => ?_)
  · unfold mGo
    split
    · rw [u2_eq]; decide
    · unfold mGoEnd
      rw [u2_row (by decide), u2_row (by decide), u2_row (by decide), u2_eq]; decide
  · intro q
    unfold mGo at q
    split at q
    · rw [u2_eq] at q; exact absurd q (by decide)
    · unfold mGoEnd at q
      rw [u2_row (by decide), u2_row (by decide), u2_row (by decide), u2_eq] at q
      exact absurd q (by decide)
  · unfold mGo at q ⊢
    split
    · next z =>
      rw [if_pos z] at q
      rw [u2_row (by decide)] at q ⊢
      exact (h.2.2.2.1 b hb).1 q
    · next z =>
      rw [if_neg z] at q
      unfold mGoEnd at q ⊢
      rw [u2_row (by decide), u2_row (by decide), u2_row (by decide), u2_row (by decide)] at q ⊢
      exact mLoad_on ha _ _ _ (fun b hb => (h.2.2.2.1 b hb).1) b hb q
theorem TI.next {T : WNm} {nG nB nV nP dy : Nat} (h : TI T nG nB nV nP dy) (hd : dy + 1 ≤ 2000) : TI (u2 T 0 1 (T 0 1 + 1)) nG nB nV nP (dy + 1) := by
  obtain ⟨c1, c2, c3, c4, c5, c6, c7, c8⟩ := h
  have e : ∀ i, ¬ i = 0 → u2 T 0 1 (T 0 1 + 1) i = T i := fun i hi => u2_row hi
  refine ⟨c1.next hd, ?_, ?_, ?_, ?_, ?_, ?_, ?_⟩
  · rw [e 14 (by decide), e 15 (by decide), e 18 (by decide), e 21 (by decide), e 22 (by decide), e 23 (by decide)]; exact c2
  · rw [e 15 (by decide), e 16 (by decide), e 17 (by decide), e 18 (by decide), e 19 (by decide), e 20 (by decide), e 21 (by decide), e 22 (by decide), e 23 (by decide)]; exact c3
  · rw [e 34 (by decide), e 35 (by decide), e 31 (by decide)]; exact c4
  · rw [e 42 (by decide)]; exact c5
  · rw [e 8 (by decide)]; exact c6
  · rw [e 41 (by decide)]; exact c7
  · rw [e 15 (by decide), e 17 (by decide)]
    intro a ha hs
    obtain ⟨t, ht, et⟩ := c8 a ha hs
    exact ⟨t, by omega, et⟩
/-- a galley whose turn has not come is as it was -/
theorem dayG_pt (T : WNm) (nB nG : Nat) : ∀ a, ∀ a', a ≤ a' → mDayG T nB nG a 15 a' = T 15 a' ∧ mDayG T nB nG a 17 a' = T 17 a'
  | 0, _, _ => ⟨rfl, rfl⟩
  | a + 1, a', h => by
    have ih := dayG_pt T nB nG a a' (by omega)
    rw [mDayG]
    have hne : ¬ a' = a := by omega
    split
    · exact ⟨(mSail_pt _ _ _ hne).1.trans ih.1, (mSail_pt _ _ _ hne).2.2.1.trans ih.2⟩
    · split
      · split
        · exact ih
        · unfold cif
          split
          · exact ⟨(mGo_pt _ _ _ hne).1.trans ih.1, (mGo_pt _ _ _ hne).2.2.1.trans ih.2⟩
          · exact ih
      · exact ih
theorem TI.dayG {T : WNm} {nG nB nV nP dy : Nat} (h : TI T nG nB nV nP dy) : ∀ a, a ≤ nG → TI (mDayG T nB nG a) nG nB nV nP dy
  | 0, _ => h
  | a + 1, ha => by
    have ih := h.dayG a (by omega)
    rw [mDayG]
    split
    · next z => exact ih.sail (by omega) z
    · split
      · next z =>
        split
        · exact ih
        · unfold cif
          split
          · exact ih.go (by omega) z
          · exact ih
      · exact ih
theorem TI.days {T : WNm} {nG nB nV nP dy : Nat} (h : TI T nG nB nV nP dy) : ∀ k, dy + k ≤ 2000 → TI (mDays T nB nG k) nG nB nV nP (dy + k)
  | 0, _ => h
  | k + 1, hk => by
    rw [mDays]
    exact ((h.days k (by omega)).next (by omega)).dayG nG (Nat.le_refl _)
