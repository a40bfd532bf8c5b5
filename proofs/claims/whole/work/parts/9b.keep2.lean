/-! ===== WHAT HOLDS OF THE REFERENCE STAYS: every public method ===== -/
theorem TI.up {T T' : WNm} {nG nB nV nP dy : Nat} (h : TI T nG nB nV nP dy) (e0 : ∀ j, j = 1 ∨ j = 5 ∨ j = 9 ∨ j = 23 ∨ j = 38 → T' 0 j = T 0 j) (eR : ∀ i, i = 8 ∨ i = 14 ∨ i = 15 ∨ i = 16 ∨ i = 17 ∨ i = 18 ∨ i = 19 ∨ i = 25 ∨ i = 31 ∨ i = 35 ∨ i = 41 ∨ i = 42 ∨ i = 43 ∨ i = 44 → T' i = T i) (h34 : ∀ b, b < nB → T' 34 b = 1 → T 34 b = 1) (hA : ∀ a, a < nG → vp_in (T' 21 a) 10 ∧ (T' 22 a = 0 ∨ T' 22 a = 1) ∧ (T' 22 a = 0 → ∀ p, p < 10 → T' 23 (10 * a + p) = 0)) (hF : ∀ a, nG ≤ a → a < 8 → T' 20 a = T 20 a ∧ T' 21 a = T 21 a ∧ T' 22 a = T 22 a ∧ ∀ p, p < 10 → T' 23 (10 * a + p) = T 23 (10 * a + p)) : TI T' nG nB nV nP dy := by
  obtain ⟨⟨⟨a1, a2⟩, ⟨b1, b2⟩, ⟨c1, c2, c3⟩, ⟨d1, d2⟩, ⟨e1, e2⟩, f, p⟩, c2', c3', c4, c5, c6, c7, c8⟩ := h
  have e8 := eR 8 (by decide)
  have e14 := eR 14 (by decide)
  have e15 := eR 15 (by decide)
  have e16 := eR 16 (by decide)
  have e17 := eR 17 (by decide)
  have e18 := eR 18 (by decide)
  have e19 := eR 19 (by decide)
  have e25 := eR 25 (by decide)
  have e31 := eR 31 (by decide)
  have e35 := eR 35 (by decide)
  have e41 := eR 41 (by decide)
  have e42 := eR 42 (by decide)
  have e43 := eR 43 (by decide)
  have e44 := eR 44 (by decide)
  refine ⟨⟨⟨by rw [e0 9 (by decide)]; exact a1, a2⟩, ⟨by rw [e0 23 (by decide)]; exact b1, b2⟩, ⟨by rw [e0 38 (by decide)]; exact c1, c2, fun v hv => voteOk_of e42 e43 e44 (c3 v hv)⟩, ⟨by rw [e0 5 (by decide)]; exact d1, d2⟩, ⟨by rw [e0 1 (by decide)]; exact e1, e2⟩, fun k hk => by rw [e25]; exact f k hk, fun a ha => by rw [e15, e16]; exact p a ha⟩, fun a ha => ?_, fun a h1 h2 => ?_, fun b hb => ?_, by rw [e42]; exact c5, by rw [e8]; exact c6, by rw [e41]; exact c7, fun a ha hs => ?_⟩
  · rw [e14, e15, e18]; exact ⟨(hA a ha).1, (hA a ha).2.1, (c2' a ha).2.2.1, (hA a ha).2.2, (c2' a ha).2.2.2.2⟩
  · obtain ⟨q1, q2, q3, q4⟩ := hF a h1 h2
    rw [e15, e16, e17, e18, e19, q1, q2, q3]
    exact ⟨(c3' a h1 h2).1, fun p hp => by rw [q4 p hp]; exact (c3' a h1 h2).2 p hp⟩
  · rw [e35, e31]; exact ⟨fun z => (c4 b hb).1 (h34 b hb z), (c4 b hb).2⟩
  · rw [e17]; rw [e15] at hs; exact c8 a ha hs
theorem TI.eq {T T' : WNm} {nG nB nV nP dy : Nat} (h : TI T nG nB nV nP dy) (e0 : ∀ j, j = 1 ∨ j = 5 ∨ j = 9 ∨ j = 23 ∨ j = 38 → T' 0 j = T 0 j) (eR : ∀ i, i = 8 ∨ (14 ≤ i ∧ i ≤ 23) ∨ i = 25 ∨ i = 31 ∨ i = 34 ∨ i = 35 ∨ (41 ≤ i ∧ i ≤ 44) → T' i = T i) : TI T' nG nB nV nP dy :=
  h.up e0 (fun i hi => eR i (by omega)) (fun b _ z => by rw [eR 34 (by decide)] at z; exact z) (fun a ha => by rw [eR 21 (by decide), eR 22 (by decide), eR 23 (by decide)]; exact ⟨(h.2.1 a ha).1, (h.2.1 a ha).2.1, (h.2.1 a ha).2.2.2.1⟩) (fun a _ _ => by rw [eR 20 (by decide), eR 21 (by decide), eR 22 (by decide), eR 23 (by decide)]; exact ⟨rfl, rfl, rfl, fun _ _ => rfl⟩)
section
variable {T : WNm} {nG nB nV nP dy : Nat}
theorem k_purse (h : TI T nG nB nV nP dy) (p v : Int32) : TI (mPurse T p v).2 nG nB nV nP dy := by
  unfold mPurse
  split
  · split
    · show TI (u2 (u2 T 3 _ _) 0 4 _) nG nB nV nP dy
      exact h.eq (fun j hj => by rw [u2_ne (by omega), u2_row (by decide)]) (fun i hi => by rw [u2_row (by omega), u2_row (by omega)])
    · exact h
  · exact h
theorem k_wind (h : TI T nG nB nV nP dy) (d w : Int32) : TI (mWind T d w).2 nG nB nV nP dy := by
  unfold mWind
  split
  · split
    · show TI (u2 T 9 _ _) nG nB nV nP dy
      exact h.eq (fun j hj => by rw [u2_row (by decide)]) (fun i hi => by rw [u2_row (by omega)])
    · exact h
  · exact h
theorem feedN_row (v : Int32) {i : Nat} (h0 : ¬ i = 0) (h1 : ¬ i = 37) : ∀ n, mFeedN T v n i = T i
  | 0 => rfl
  | n + 1 => by rw [mFeedN, u2_row h0, u2_row h1, feedN_row v h0 h1 n]
theorem feedN_0 (v : Int32) {j : Nat} (h1 : ¬ j = 37) : ∀ n, mFeedN T v n 0 j = T 0 j
  | 0 => rfl
  | n + 1 => by rw [mFeedN, u2_ne (fun z => h1 z.2), u2_row (by decide), feedN_0 v h1 n]
theorem k_feed (h : TI T nG nB nV nP dy) (n v : Int32) : TI (mFeed T n v).2 nG nB nV nP dy := by
  unfold mFeed
  split
  · split
    · show TI (mFeedN T v _) nG nB nV nP dy
      exact h.eq (fun j hj => feedN_0 v (by omega) _) (fun i hi => feedN_row v (by omega) (by omega) _)
    · exact h
  · exact h
theorem k_bid (h : TI T nG nB nV nP dy) (x p c : Int32) : TI (mBid T x p c).2 nG nB nV nP dy := by
  unfold mBid
  by_cases hx : 0 ≤ x ∧ x ≤ T 0 9 - 1
  · rw [if_pos hx]
    obtain ⟨ha, e1⟩ := rngT hx h.g9 (Nat.le_trans h.1.1.2 (by decide))
    by_cases hp : 0 ≤ p ∧ p ≤ 9
    · rw [if_pos hp]
      obtain ⟨hp1, hp2⟩ := tn10 hp
      have key : TI (u2 (u2 T 20 (tn x) c) 21 (tn x) p) nG nB nV nP dy := by
        refine h.up (fun j hj => by rw [u2_row (by decide), u2_row (by decide)]) (fun i hi => by rw [u2_row (by omega), u2_row (by omega)]) (fun b _ z => by rw [u2_row (by decide), u2_row (by decide)] at z; exact z) (fun a ha' => ?_) (fun a h1 h2 => ?_)
        · rw [show u2 (u2 T 20 (tn x) c) 21 (tn x) p 22 = T 22 by rw [u2_row (by decide), u2_row (by decide)], show u2 (u2 T 20 (tn x) c) 21 (tn x) p 23 = T 23 by rw [u2_row (by decide), u2_row (by decide)]]
          refine ⟨?_, (h.2.1 a ha').2.1, (h.2.1 a ha').2.2.2.1⟩
          by_cases e : a = tn x
          · rw [e, u2_eq, hp2]; exact vp_inN hp1 (by decide)
          · rw [u2_ne (by omega), u2_row (by decide)]; exact (h.2.1 a ha').1
        · refine ⟨?_, ?_, ?_, fun p _ => ?_⟩
          · rw [u2_row (by decide), u2_ne (by omega)]
          · rw [u2_ne (by omega), u2_row (by decide)]
          · rw [u2_row (by decide), u2_row (by decide)]
          · rw [u2_row (by decide), u2_row (by decide)]
      repeat' split
      all_goals first | exact h | exact key
    · rw [if_neg hp]; exact h
  · rw [if_neg hx]; exact h
theorem k_let (h : TI T nG nB nV nP dy) (x : Int32) : TI (mLet T x).2 nG nB nV nP dy := by
  unfold mLet
  by_cases hx : 0 ≤ x ∧ x ≤ T 0 9 - 1
  · rw [if_pos hx]
    obtain ⟨ha, e1⟩ := rngT hx h.g9 (Nat.le_trans h.1.1.2 (by decide))
    obtain ⟨pp, hpp, epp⟩ := vp_in_of (h.2.1 _ ha).1 (by decide)
    have hG := h.1.1.2
    have hxp : tn (10 * x + T 21 (tn x)) = 10 * tn x + pp := ixx e1 epp (by omega) hpp
    have key1 : TI (u2 T 20 (tn x) 0) nG nB nV nP dy := by
      refine h.up (fun j hj => by rw [u2_row (by decide)]) (fun i hi => by rw [u2_row (by omega)]) (fun b _ z => by rw [u2_row (by decide)] at z; exact z) (fun a ha' => ?_) (fun a h1 h2 => ?_)
      · rw [u2_row (by decide), u2_row (by decide), u2_row (by decide)]
        exact ⟨(h.2.1 a ha').1, (h.2.1 a ha').2.1, (h.2.1 a ha').2.2.2.1⟩
      · refine ⟨by rw [u2_ne (by omega)], by rw [u2_row (by decide)], by rw [u2_row (by decide)], fun p _ => by rw [u2_row (by decide)]⟩
    have key2 : ∀ v : Int32, TI (u2 (u2 (u2 (mLet3 T x) 0 3 v) 22 (tn x) 1) 23 (10 * tn x + pp) 24) nG nB nV nP dy := fun v => by
      have row : ∀ i, ¬ i = 0 → ¬ i = 3 → ¬ i = 22 → ¬ i = 23 → u2 (u2 (u2 (mLet3 T x) 0 3 v) 22 (tn x) 1) 23 (10 * tn x + pp) 24 i = T i := fun i i0 i3 i22 i23 => by
        unfold mLet3
        rw [u2_row i23, u2_row i22, u2_row i0, u2_row i3]
      have e22 : ∀ a, u2 (u2 (u2 (mLet3 T x) 0 3 v) 22 (tn x) 1) 23 (10 * tn x + pp) 24 22 a = if a = tn x then 1 else T 22 a := fun a => by
        unfold mLet3
        rw [u2_row (by decide)]
        by_cases e : a = tn x
        · rw [e, u2_eq, if_pos rfl]
        · rw [u2_ne (by omega), u2_row (by decide), u2_row (by decide), if_neg e]
      have e23 : ∀ j, ¬ j = 10 * tn x + pp → u2 (u2 (u2 (mLet3 T x) 0 3 v) 22 (tn x) 1) 23 (10 * tn x + pp) 24 23 j = T 23 j := fun j hj => by
        unfold mLet3
        rw [u2_ne (by omega), u2_row (by decide), u2_row (by decide), u2_row (by decide)]
      refine h.up (fun j hj => ?_) (fun i hi => row i (by omega) (by omega) (by omega) (by omega)) (fun b _ z => by rw [row 34 (by decide) (by decide) (by decide) (by decide)] at z; exact z) (fun a ha' => ?_) (fun a h1 h2 => ?_)
      · unfold mLet3
        rw [u2_row (by decide), u2_row (by decide), u2_ne (by omega), u2_row (by decide)]
      · rw [row 21 (by decide) (by decide) (by decide) (by decide), e22]
        refine ⟨(h.2.1 a ha').1, ?_, fun z p hp => ?_⟩
        · split
          · exact Or.inr rfl
          · exact (h.2.1 a ha').2.1
        · split at z
          · exact absurd z (by decide)
          · rw [e23 _ (by omega)]; exact (h.2.1 a ha').2.2.2.1 z p hp
      · exact ⟨by rw [row 20 (by decide) (by decide) (by decide) (by decide)], by rw [row 21 (by decide) (by decide) (by decide) (by decide)], by rw [e22, if_neg (by omega)], fun p hp => e23 _ (by omega)⟩
    rw [hxp]
    repeat' split
    all_goals first | exact h | exact key1 | exact key2 _
  · rw [if_neg hx]; exact h
theorem k_part (h : TI T nG nB nV nP dy) (x a b n : Int32) : TI (mPart T x a b n).2 nG nB nV nP dy := by
  unfold mPart
  by_cases hx : 0 ≤ x ∧ x ≤ T 0 9 - 1
  · rw [if_pos hx]
    obtain ⟨hxa, e1⟩ := rngT hx h.g9 (Nat.le_trans h.1.1.2 (by decide))
    have hG := h.1.1.2
    by_cases ha : 0 ≤ a ∧ a ≤ 9
    · rw [if_pos ha]
      obtain ⟨ha1, ha2⟩ := tn10 ha
      by_cases hb : 0 ≤ b ∧ b ≤ 9
      · rw [if_pos hb]
        obtain ⟨hb1, hb2⟩ := tn10 hb
        have i1 : tn (10 * x + a) = 10 * tn x + tn a := ixx e1 ha2 (by omega) ha1
        have i2 : tn (10 * x + b) = 10 * tn x + tn b := ixx e1 hb2 (by omega) hb1
        have key : 1 ≤ n ∧ n ≤ 24 → n ≤ T 23 (tn (10 * x + a)) → TI (mPart2 T x a b n) nG nB nV nP dy := fun hn hle => by
          have h22 : ¬ T 22 (tn x) = 0 := fun z => by
            rw [i1, (h.2.1 _ hxa).2.2.2.1 z _ ha1] at hle
            exact absurd (Int32.le_trans hn.1 hle) (by decide)
          have row : ∀ i, ¬ i = 23 → mPart2 T x a b n i = T i := fun i hi => by unfold mPart2 mPart1; rw [u2_row hi, u2_row hi]
          have r23 : ∀ j, ¬ j = 10 * tn x + tn a → ¬ j = 10 * tn x + tn b → mPart2 T x a b n 23 j = T 23 j := fun j h1 h2 => by
            unfold mPart2 mPart1
            rw [i1, i2, u2_ne (by omega), u2_ne (by omega)]
          refine h.up (fun j hj => by rw [row 0 (by decide)]) (fun i hi => row i (by omega)) (fun b _ z => by rw [row 34 (by decide)] at z; exact z) (fun a' ha' => ?_) (fun a' h1 h2 => ?_)
          · rw [row 21 (by decide), row 22 (by decide)]
            refine ⟨(h.2.1 a' ha').1, (h.2.1 a' ha').2.1, fun z p hp => ?_⟩
            have : ¬ a' = tn x := fun e => h22 (by rw [← e]; exact z)
            rw [r23 _ (by omega) (by omega)]
            exact (h.2.1 a' ha').2.2.2.1 z p hp
          · exact ⟨by rw [row 20 (by decide)], by rw [row 21 (by decide)], by rw [row 22 (by decide)], fun p hp => r23 _ (by omega) (by omega)⟩
        repeat' split
        all_goals first | exact h | exact key (by assumption) (by assumption)
      · rw [if_neg hb]; exact h
    · rw [if_neg ha]; exact h
  · rw [if_neg hx]; exact h
theorem k_start (h : TI T nG nB nV nP dy) (x : Int32) : TI (mStart T x).2 nG nB nV nP dy := by
  unfold mStart
  by_cases hx : 0 ≤ x ∧ x ≤ T 0 9 - 1
  · rw [if_pos hx]
    obtain ⟨hxa, e1⟩ := rngT hx h.g9 (Nat.le_trans h.1.1.2 (by decide))
    have key : 2 ≤ T 0 5 → TI (u2 (u2 (u2 T 15 (tn x) 1) 16 (tn x) 0) 17 (tn x) (T 0 1)) nG nB nV nP dy := fun h2 => by
      have hP : 2 ≤ nP := by
        have hp := h.1.2.2.2.1
        rw [hp.1, show (2 : Int32) = nI 2 from rfl, n_nle (by decide) (by omega)] at h2
        exact h2
      have row : ∀ i, ¬ i = 15 → ¬ i = 16 → ¬ i = 17 → u2 (u2 (u2 T 15 (tn x) 1) 16 (tn x) 0) 17 (tn x) (T 0 1) i = T i := fun i h1 h2 h3 => by rw [u2_row h3, u2_row h2, u2_row h1]
      have at15 : u2 (u2 (u2 T 15 (tn x) 1) 16 (tn x) 0) 17 (tn x) (T 0 1) 15 (tn x) = 1 := by rw [u2_row (by decide), u2_row (by decide), u2_eq]
      have at16 : u2 (u2 (u2 T 15 (tn x) 1) 16 (tn x) 0) 17 (tn x) (T 0 1) 16 (tn x) = 0 := by rw [u2_row (by decide), u2_eq]
      have pt : ∀ a', ¬ a' = tn x → u2 (u2 (u2 T 15 (tn x) 1) 16 (tn x) 0) 17 (tn x) (T 0 1) 15 a' = T 15 a' ∧ u2 (u2 (u2 T 15 (tn x) 1) 16 (tn x) 0) 17 (tn x) (T 0 1) 16 a' = T 16 a' ∧ u2 (u2 (u2 T 15 (tn x) 1) 16 (tn x) 0) 17 (tn x) (T 0 1) 17 a' = T 17 a' ∧ u2 (u2 (u2 T 15 (tn x) 1) 16 (tn x) 0) 17 (tn x) (T 0 1) 18 a' = T 18 a' ∧ u2 (u2 (u2 T 15 (tn x) 1) 16 (tn x) 0) 17 (tn x) (T 0 1) 19 a' = T 19 a' := fun a' ha' => by
        refine ⟨?_, ?_, ?_, ?_, ?_⟩
        · rw [u2_row (by decide), u2_row (by decide), u2_ne (by omega)]
        · rw [u2_row (by decide), u2_ne (by omega), u2_row (by decide)]
        · rw [u2_ne (by omega), u2_row (by decide), u2_row (by decide)]
        · rw [row 18 (by decide) (by decide) (by decide)]
        · rw [row 19 (by decide) (by decide) (by decide)]
      have hm : MOK (u2 (u2 (u2 T 15 (tn x) 1) 16 (tn x) 0) 17 (tn x) (T 0 1)) nG nB nV nP dy := by
        refine h.1.of (fun j _ => by rw [row 0 (by decide) (by decide) (by decide)]) (row 25 (by decide) (by decide) (by decide)) (row 42 (by decide) (by decide) (by decide)) (row 43 (by decide) (by decide) (by decide)) (row 44 (by decide) (by decide) (by decide)) (fun a ha hs => ?_)
        by_cases e : a = tn x
        · rw [e, at16]; exact ⟨0, by omega, rfl⟩
        · rw [(pt a e).1] at hs
          rw [(pt a e).2.1]
          exact h.1.2.2.2.2.2.2 a ha hs
      refine h.of (a := tn x) hm (fun i hi => row i (by omega) (by omega) (by omega)) hxa pt (by rw [at15]; decide) (fun _ => ⟨dy, Nat.le_refl _, by rw [u2_eq]; exact h.d1⟩) (fun b hb z => ?_)
      rw [row 34 (by decide) (by decide) (by decide)] at z
      rw [row 35 (by decide) (by decide) (by decide)]
      exact (h.2.2.2.1 b hb).1 z
    repeat' split
    all_goals first | exact h | exact key (by assumption)
  · rw [if_neg hx]; exact h
theorem throw_row {x w : Int32} {n : Nat} {i : Nat} (h : i ≠ 3 ∧ i ≠ 34 ∧ i ≠ 36) : ∀ (f : Nat) (ls gn : Int32) (L : WNm), (mThrow x w n f ls gn L).2 i = L i
  | 0, _, _, _ => rfl
  | f + 1, ls, gn, L => by
    rw [mThrow]
    split
    · rfl
    · cases mHeavy L x n with
      | none => rfl
      | some j =>
        simp only
        rw [throw_row h f]
        unfold mThrow1 mBecomes
        rw [u2_row h.1, u2_row h.2.2, u2_row h.2.1]
theorem throw_34 {x w : Int32} {n : Nat} {b : Nat} : ∀ (f : Nat) (ls gn : Int32) (L : WNm), (mThrow x w n f ls gn L).2 34 b = 1 → L 34 b = 1
  | 0, _, _, _, h => h
  | f + 1, ls, gn, L, h => by
    rw [mThrow] at h
    split at h
    · exact h
    · cases hm : mHeavy L x n with
      | none => rw [hm] at h; exact h
      | some j =>
        rw [hm] at h
        simp only at h
        have z := throw_34 f _ _ _ h
        unfold mThrow1 mBecomes at z
        rw [u2_row (by decide), u2_row (by decide)] at z
        by_cases e : b = j
        · rw [e, u2_eq] at z; exact absurd z (by decide)
        · rw [u2_ne (by omega)] at z; exact z
theorem shN_row {N F : WNm} {x ls : Int32} {al : Int64} {i : Nat} (h : ¬ i = 3) : ∀ n, mShN N x ls al F n i = F i
  | 0 => rfl
  | n + 1 => by
    rw [mShN]
    split
    · rw [u2_row h, shN_row h n]
    · exact shN_row h n
theorem k_toss (h : TI T nG nB nV nP dy) (x w : Int32) : TI (mToss T x w).2 nG nB nV nP dy := by
  unfold mToss
  have key : ∀ n, TI (mTossOk T x w n).2 nG nB nV nP dy := fun n => by
    show TI (mTossEnd T x _ _ n) nG nB nV nP dy
    have row : ∀ i, ¬ i = 0 → ¬ i = 3 → ¬ i = 34 → ¬ i = 36 → mTossEnd T x (mThrow x w n (n + 1) 0 0 T).1 (mThrow x w n (n + 1) 0 0 T).2 n i = T i := fun i i0 i3 i34 i36 => by
      unfold mTossEnd
      rw [u2_row i0, shN_row i3, throw_row ⟨i3, i34, i36⟩]
    have r34 : mTossEnd T x (mThrow x w n (n + 1) 0 0 T).1 (mThrow x w n (n + 1) 0 0 T).2 n 34 = (mThrow x w n (n + 1) 0 0 T).2 34 := by
      unfold mTossEnd
      rw [u2_row (by decide), shN_row (by decide)]
    refine h.up (fun j hj => ?_) (fun i hi => row i (by omega) (by omega) (by omega) (by omega)) (fun b _ z => by rw [r34] at z; exact throw_34 _ _ _ _ z) (fun a ha => ?_) (fun a _ _ => ?_)
    · unfold mTossEnd
      rw [u2_ne (by omega), shN_row (by decide), throw_row (by decide)]
    · rw [row 21 (by decide) (by decide) (by decide) (by decide), row 22 (by decide) (by decide) (by decide) (by decide), row 23 (by decide) (by decide) (by decide) (by decide)]
      exact ⟨(h.2.1 a ha).1, (h.2.1 a ha).2.1, (h.2.1 a ha).2.2.2.1⟩
    · rw [row 20 (by decide) (by decide) (by decide) (by decide), row 21 (by decide) (by decide) (by decide) (by decide), row 22 (by decide) (by decide) (by decide) (by decide), row 23 (by decide) (by decide) (by decide) (by decide)]
      exact ⟨rfl, rfl, rfl, fun _ _ => rfl⟩
  repeat' split
  all_goals first | exact h | exact key _
theorem k_day (h : TI T nG nB nV nP dy) (n : Int32) : ∃ d, TI (mDay T n).2 nG nB nV nP d := by
  unfold mDay
  split
  · rename_i hn
    split
    · rename_i hl
      have eB : tn (T 0 23) = nB := by rw [h.b23]; exact nI_clamp (by have := h.1.2.1.2; omega)
      have eG : tn (T 0 9) = nG := by rw [h.g9]; exact nI_clamp (by have := h.1.1.2; omega)
      have hd := h.1.2.2.2.2.1
      obtain ⟨k, hk, ek⟩ := nI_ofNN (Int32.le_trans (by decide) hn.1)
      have hk2 : k ≤ 100 := by
        have z := hn.2
        rw [ek, show (100 : Int32) = nI 100 from rfl, n_nle (by omega) (by decide)] at z
        exact z
      have et : tn n = k := by rw [ek]; exact nI_clamp (by omega)
      rw [hd.1, ek, nI_add, show (2000 : Int32) = nI 2000 from rfl, n_nle (by omega) (by decide)] at hl
      show ∃ d, TI (mDays T (tn (T 0 23)) (tn (T 0 9)) (tn n)) nG nB nV nP d
      rw [eB, eG, et]
      exact ⟨dy + k, h.days k hl⟩
    · exact ⟨dy, h⟩
  · exact ⟨dy, h⟩
end
