/-! ===== THE CLASS: bales come aboard and leave; giveOut, sailOn ===== -/
theorem iSum_same {f f1 : Nat → Int32} : ∀ n, (∀ b, b < n → f1 b = f b) → iSum f1 n = iSum f n
  | 0, _ => rfl
  | n + 1, h => by rw [iSum, iSum, iSum_same n (fun b hb => h b (by omega)), h n (by omega)]
theorem i_swap (x a b : Int32) : x + a = x + b + (a - b) := by
  rw [Int32.sub_eq_add_neg, Int32.add_comm a, ← Int32.add_assoc, Int32.add_assoc x b, Int32.add_right_neg, Int32.add_zero]
theorem i_mid (x a b : Int32) : x + a + b = x + b + a := by rw [Int32.add_assoc, Int32.add_comm a, ← Int32.add_assoc]
theorem iSum_upd {f f1 : Nat → Int32} {k : Nat} (h : ∀ b, ¬ b = k → f1 b = f b) : ∀ n, k < n → iSum f1 n = iSum f n + (f1 k - f k)
  | 0, hk => absurd hk (Nat.not_lt_zero _)
  | n + 1, hk => by
    rw [iSum, iSum]
    by_cases e : k = n
    · subst e
      rw [iSum_same k (fun b hb => h b (by omega))]
      exact i_swap _ _ _
    · rw [iSum_upd h n (by omega), h n (fun z => e z.symm), i_mid]
theorem i_m1 (r : Int32) : -1 * r = 0 - r := by rw [Int32.neg_mul, Int32.one_mul, Int32.zero_sub]
theorem i_p1 (r : Int32) : 1 * r = r - 0 := by rw [Int32.one_mul, Int32.sub_zero]
theorem nI_inj {a b : Nat} (ha : a < 2147483648) (hb : b < 2147483648) (h : nI a = nI b) : a = b := by
  have z := congrArg (fun q : Int32 => q.toNatClampNeg) h
  simp only [nI_clamp ha, nI_clamp hb] at z
  exact z
/-- one bale's state changes: the sums -/
theorem on_upd {T T1 : WNm} {k n : Nat} (x : Int32) (h28 : T1 28 = T 28) (h29 : T1 29 = T 29) (h30 : T1 30 = T 30) (h34 : ∀ b, ¬ b = k → T1 34 b = T 34 b) (h35 : ∀ b, ¬ b = k → T1 35 b = T 35 b) (hk : k < n) :
    mBalesOn T1 x n = mBalesOn T x n + ((if T1 34 k = 1 ∧ T1 35 k = x then 1 else 0) - (if T 34 k = 1 ∧ T 35 k = x then 1 else 0)) ∧ mRoomOn T1 x n = mRoomOn T x n + ((if T1 34 k = 1 ∧ T1 35 k = x then T 29 k else 0) - (if T 34 k = 1 ∧ T 35 k = x then T 29 k else 0)) ∧
    mWeightOn T1 x False n = mWeightOn T x False n + ((if (T1 34 k = 1 ∧ T1 35 k = x) ∧ (¬ False ∨ T 28 k = 1) then T 30 k else 0) - (if (T 34 k = 1 ∧ T 35 k = x) ∧ (¬ False ∨ T 28 k = 1) then T 30 k else 0)) ∧ mWeightOn T1 x True n = mWeightOn T x True n + ((if (T1 34 k = 1 ∧ T1 35 k = x) ∧ (¬ True ∨ T 28 k = 1) then T 30 k else 0) - (if (T 34 k = 1 ∧ T 35 k = x) ∧ (¬ True ∨ T 28 k = 1) then T 30 k else 0)) := by
  unfold mBalesOn mRoomOn mWeightOn
  rw [h28, h29, h30]
  refine ⟨iSum_upd (k := k) (fun b hb => ?_) n hk, iSum_upd (k := k) (fun b hb => ?_) n hk, iSum_upd (k := k) (fun b hb => ?_) n hk, iSum_upd (k := k) (fun b hb => ?_) n hk⟩ <;> rw [h34 b hb, h35 b hb]
/-- one bale moves, of one galley -/
theorem XN.move {N T N1 T1 : WNm} {nG nB nV nT : Nat} {ln : Nat → Nat} {a k : Nat} (h : XN N T nG nB nV nT ln) (hG : nG ≤ 8) (hB : nB ≤ 300) (hV : nV ≤ 30) (ha : a < nG) (hk : k < nB) (e : ∀ i, ¬ i = 1000 + a → ¬ i = 2000 + k → N1 i = N i) (eg : ∀ f, ¬ (13 ≤ f ∧ f ≤ 16) → N1 (1000 + a) f = N (1000 + a) f) (eb : ∀ f, f < 12 → N1 (2000 + k) f = T1 (25 + f) k)
    (ft : ∀ i, ¬ i = 34 → ¬ i = 35 → ¬ i = 36 → T1 i = T i) (f34 : ∀ b, ¬ b = k → T1 34 b = T 34 b ∧ T1 35 b = T 35 b ∧ T1 36 b = T 36 b) (hs : N1 (1000 + a) 13 = mBalesOn T1 (nI a) nB ∧ N1 (1000 + a) 14 = mRoomOn T1 (nI a) nB ∧ N1 (1000 + a) 15 = mWeightOn T1 (nI a) False nB ∧ N1 (1000 + a) 16 = mWeightOn T1 (nI a) True nB)
    (ho : ∀ a', a' < nG → ¬ a' = a → ¬ (T1 34 k = 1 ∧ T1 35 k = nI a') ∧ ¬ (T 34 k = 1 ∧ T 35 k = nI a')) : XN N1 T1 nG nB nV nT ln := by
  obtain ⟨h0, h1, h2, h3, h4, h5, h6, h7⟩ := h
  refine ⟨h0.cg (e _ (by omega) (by omega)) (fun j _ => by rw [ft 0 (by decide) (by decide) (by decide)]), h1.cg (fun i a b => e _ (by omega) (by omega)) (fun i a b => ft i (by omega) (by omega) (by omega)), fun a' ha' => ?_, h3.cg (fun a ha => e _ (by omega) (by omega)) (ft 23 (by decide) (by decide) (by decide)), fun a' ha' => ?_, fun b hb f hf => ?_, h6.cg (fun v hv => ⟨e _ (by omega) (by omega), e _ (by omega) (by omega)⟩) (fun i a b => ft i (by omega) (by omega) (by omega)), h7.cg (e _ (by omega) (by omega)) (e _ (by omega) (by omega)) (by rw [ft 0 (by decide) (by decide) (by decide)]) (ft 37 (by decide) (by decide) (by decide))⟩
  · by_cases z : a' = a
    · subst z
      refine ⟨by rw [eg 0 (by omega)]; exact (h2 a' ha').1, fun q hq => ?_⟩
      have hq1 := gTab_r q hq
      rw [eg q.1 (gTab_n q hq).2.1, ft q.2 (by omega) (by omega) (by omega)]
      exact (h2 a' ha').2 q hq
    · rw [e (1000 + a') (by omega) (by omega)]
      refine ⟨(h2 a' ha').1, fun q hq => ?_⟩
      have hq1 := gTab_r q hq
      rw [ft q.2 (by omega) (by omega) (by omega)]
      exact (h2 a' ha').2 q hq
  · by_cases z : a' = a
    · rw [z]; exact hs
    · obtain ⟨o1, o2⟩ := ho a' ha' z
      obtain ⟨u1, u2', u3, u4⟩ := on_upd (T := T) (T1 := T1) (k := k) (n := nB) (nI a') (ft 28 (by decide) (by decide) (by decide)) (ft 29 (by decide) (by decide) (by decide)) (ft 30 (by decide) (by decide) (by decide)) (fun b hb => (f34 b hb).1) (fun b hb => (f34 b hb).2.1) hk
      rw [e (1000 + a') (by omega) (by omega), u1, u2', u3, u4, if_neg o1, if_neg o2, if_neg o1, if_neg o2, if_neg (fun q => o1 q.1), if_neg (fun q => o2 q.1), if_neg (fun q => o1 q.1), if_neg (fun q => o2 q.1), show (0 : Int32) - 0 = 0 by decide, Int32.add_zero, Int32.add_zero, Int32.add_zero, Int32.add_zero]
      exact h4 a' ha'
  · by_cases z : b = k
    · rw [z]; exact eb f hf
    · rw [e (2000 + b) (by omega) (by omega), h5 b hb f hf]
      by_cases z1 : 25 + f = 34
      · rw [z1, (f34 b z).1]
      · by_cases z2 : 25 + f = 35
        · rw [z2, (f34 b z).2.1]
        · by_cases z3 : 25 + f = 36
          · rw [z3, (f34 b z).2.2]
          · rw [ft _ z1 z2 z3]
theorem xChg_row (N : WNm) (G B : Nat) (y : Int32) {i : Nat} (h : ¬ i = G) : xChg N G B y i = N i := by
  unfold xChg xChg3
  split
  · rw [u2_row h, u2_row h, u2_row h, u2_row h]
  · rw [u2_row h, u2_row h, u2_row h]
theorem xChg_g (N : WNm) (G B : Nat) (y : Int32) : (∀ f, ¬ (13 ≤ f ∧ f ≤ 16) → xChg N G B y G f = N G f) ∧ xChg N G B y G 13 = N G 13 + y ∧ xChg N G B y G 14 = N G 14 + y * N B 4 ∧ xChg N G B y G 15 = N G 15 + y * N B 5 ∧ xChg N G B y G 16 = (if N B 3 = 1 then N G 16 + y * N B 5 else N G 16) := by
  unfold xChg xChg3
  by_cases h : N B 3 = 1
  · rw [if_pos h, if_pos h]
    refine ⟨fun f hf => ?_, by simp [u2], by simp [u2], by simp [u2], by simp [u2]⟩
    rw [u2_ne (by omega), u2_ne (by omega), u2_ne (by omega), u2_ne (by omega)]
  · rw [if_neg h, if_neg h]
    refine ⟨fun f hf => ?_, by simp [u2], by simp [u2], by simp [u2], by simp [u2]⟩
    rw [u2_ne (by omega), u2_ne (by omega), u2_ne (by omega)]
theorem f12 {f : Nat} (h : f < 12) : f = 9 ∨ f = 10 ∨ f = 11 ∨ (¬ 25 + f = 34 ∧ ¬ 25 + f = 35 ∧ ¬ 25 + f = 36 ∧ ¬ f = 9 ∧ ¬ f = 10 ∧ ¬ f = 11) := by omega
/-- a bale leaves its galley: it is given out, or thrown -/
theorem XN.off {N T : WNm} {nG nB nV nT : Nat} {ln : Nat → Nat} {a k : Nat} (h : XN N T nG nB nV nT ln) (hG : nG ≤ 8) (hB : nB ≤ 300) (hV : nV ≤ 30) (ha : a < nG) (hk : k < nB) (hon : T 34 k = 1 ∧ T 35 k = nI a) (v : Int32) (hv : ¬ v = 1) : XN (xTurn (xChg N (1000 + a) (2000 + k) (-1)) (2000 + k) v (T 0 1)) (mBecomes T k v) nG nB nV nT ln := by
  have e34 : mBecomes T k v 34 k = v := by unfold mBecomes; rw [u2_row (by decide), u2_eq]
  have e36 : mBecomes T k v 36 k = T 0 1 := by unfold mBecomes; rw [u2_eq]
  have ft : ∀ i, ¬ i = 34 → ¬ i = 35 → ¬ i = 36 → mBecomes T k v i = T i := fun i a _ b => by unfold mBecomes; rw [u2_row b, u2_row a]
  have e35 : mBecomes T k v 35 = T 35 := by unfold mBecomes; rw [u2_row (by decide), u2_row (by decide)]
  have f34 : ∀ b, ¬ b = k → mBecomes T k v 34 b = T 34 b ∧ mBecomes T k v 35 b = T 35 b ∧ mBecomes T k v 36 b = T 36 b := fun b hb => by
    unfold mBecomes
    exact ⟨by rw [u2_row (by decide), u2_ne (fun z => hb z.2)], by rw [u2_row (by decide), u2_row (by decide)], by rw [u2_ne (fun z => hb z.2), u2_row (by decide)]⟩
  have n1 : ¬ (mBecomes T k v 34 k = 1 ∧ mBecomes T k v 35 k = nI a) := fun z => hv (by rw [← e34]; exact z.1)
  obtain ⟨c0, c1, c2, c3, c4⟩ := xChg_g N (1000 + a) (2000 + k) (-1)
  have tr : ∀ i, ¬ i = 2000 + k → xTurn (xChg N (1000 + a) (2000 + k) (-1)) (2000 + k) v (T 0 1) i = xChg N (1000 + a) (2000 + k) (-1) i := fun i hi => by unfold xTurn; rw [u2_row hi, u2_row hi]
  have cb : xChg N (1000 + a) (2000 + k) (-1) (2000 + k) = N (2000 + k) := xChg_row _ _ _ _ (by omega)
  have bb := h.2.2.2.2.2.1 k hk
  refine h.move hG hB hV ha hk (fun i hi hj => by rw [tr i hj, xChg_row _ _ _ _ hi]) (fun f hf => by rw [tr _ (by omega)]; exact c0 f hf) (fun f hf => ?_) ft f34 ?_ (fun a' ha' hne => ⟨fun z => hv (by rw [← e34]; exact z.1), fun z => hne (nI_inj (by omega) (by omega) (z.2.symm.trans hon.2))⟩)
  · unfold xTurn
    rcases f12 hf with z | z | z | ⟨z1, z2, z3, z4, z5, z6⟩
    · subst z; rw [u2_ne (by omega), u2_eq]; exact e34.symm
    · subst z; rw [u2_ne (by omega), u2_ne (by omega), cb, bb 10 (by decide)]; exact (congrFun e35 k).symm
    · subst z; rw [u2_eq]; exact e36.symm
    · rw [u2_ne (by omega), u2_ne (by omega), cb, bb f hf, ft _ z1 z2 z3]
  · obtain ⟨u1, u2', u3, u4⟩ := on_upd (T := T) (T1 := mBecomes T k v) (k := k) (n := nB) (nI a) (ft 28 (by decide) (by decide) (by decide)) (ft 29 (by decide) (by decide) (by decide)) (ft 30 (by decide) (by decide) (by decide)) (fun b hb => (f34 b hb).1) (fun b hb => (f34 b hb).2.1) hk
    obtain ⟨s1, s2, s3, s4⟩ := h.2.2.2.2.1 a ha
    have b3 : N (2000 + k) 3 = T 28 k := bb 3 (by decide)
    have b4 : N (2000 + k) 4 = T 29 k := bb 4 (by decide)
    have b5 : N (2000 + k) 5 = T 30 k := bb 5 (by decide)
    refine ⟨?_, ?_, ?_, ?_⟩
    · rw [tr _ (by omega), c1, u1, if_neg n1, if_pos hon, s1]; rfl
    · rw [tr _ (by omega), c2, u2', if_neg n1, if_pos hon, s2, b4, i_m1]
    · rw [tr _ (by omega), c3, u3, if_neg (fun q => n1 q.1), if_pos ⟨hon, Or.inl not_false⟩, s3, b5, i_m1]
    · by_cases hh : T 28 k = 1
      · rw [tr _ (by omega), c4, if_pos (b3.trans hh), u4, if_neg (fun q => n1 q.1), if_pos ⟨hon, Or.inr hh⟩, s4, b5, i_m1]
      · rw [tr _ (by omega), c4, if_neg (fun z => hh (b3.symm.trans z)), u4, if_neg (fun q => n1 q.1), if_neg (fun q => q.2.elim (fun z => z trivial) hh), s4, show (0 : Int32) - 0 = 0 by decide, Int32.add_zero]
/-- a bale comes aboard -/
theorem XN.on {N T : WNm} {nG nB nV nT : Nat} {ln : Nat → Nat} {a k : Nat} (h : XN N T nG nB nV nT ln) (hG : nG ≤ 8) (hB : nB ≤ 300) (hV : nV ≤ 30) (ha : a < nG) (hk : k < nB) (hq : T 34 k = 0) : XN (xTurn (u2 (xChg N (1000 + a) (2000 + k) 1) (2000 + k) 10 (nI a)) (2000 + k) 1 (T 0 1)) (u2 (mBecomes T k 1) 35 k (nI a)) nG nB nV nT ln := by
  have e34 : u2 (mBecomes T k 1) 35 k (nI a) 34 k = 1 := by unfold mBecomes; rw [u2_row (by decide), u2_row (by decide), u2_eq]
  have e35 : u2 (mBecomes T k 1) 35 k (nI a) 35 k = nI a := u2_eq _ _ _ _
  have e36 : u2 (mBecomes T k 1) 35 k (nI a) 36 k = T 0 1 := by unfold mBecomes; rw [u2_row (by decide), u2_eq]
  have ft : ∀ i, ¬ i = 34 → ¬ i = 35 → ¬ i = 36 → u2 (mBecomes T k 1) 35 k (nI a) i = T i := fun i a d b => by unfold mBecomes; rw [u2_row d, u2_row b, u2_row a]
  have f34 : ∀ b, ¬ b = k → u2 (mBecomes T k 1) 35 k (nI a) 34 b = T 34 b ∧ u2 (mBecomes T k 1) 35 k (nI a) 35 b = T 35 b ∧ u2 (mBecomes T k 1) 35 k (nI a) 36 b = T 36 b := fun b hb => by
    unfold mBecomes
    exact ⟨by rw [u2_row (by decide), u2_row (by decide), u2_ne (fun z => hb z.2)], by rw [u2_ne (fun z => hb z.2), u2_row (by decide), u2_row (by decide)], by rw [u2_row (by decide), u2_ne (fun z => hb z.2), u2_row (by decide)]⟩
  have hon : u2 (mBecomes T k 1) 35 k (nI a) 34 k = 1 ∧ u2 (mBecomes T k 1) 35 k (nI a) 35 k = nI a := ⟨e34, e35⟩
  have n1 : ∀ x, ¬ (T 34 k = 1 ∧ T 35 k = x) := fun x z => absurd (hq.symm.trans z.1) (by decide)
  obtain ⟨c0, c1, c2, c3, c4⟩ := xChg_g N (1000 + a) (2000 + k) 1
  have tr : ∀ i, ¬ i = 2000 + k → xTurn (u2 (xChg N (1000 + a) (2000 + k) 1) (2000 + k) 10 (nI a)) (2000 + k) 1 (T 0 1) i = xChg N (1000 + a) (2000 + k) 1 i := fun i hi => by unfold xTurn; rw [u2_row hi, u2_row hi, u2_row hi]
  have cb : xChg N (1000 + a) (2000 + k) 1 (2000 + k) = N (2000 + k) := xChg_row _ _ _ _ (by omega)
  have bb := h.2.2.2.2.2.1 k hk
  refine h.move hG hB hV ha hk (fun i hi hj => by rw [tr i hj, xChg_row _ _ _ _ hi]) (fun f hf => by rw [tr _ (by omega)]; exact c0 f hf) (fun f hf => ?_) ft f34 ?_ (fun a' ha' hne => ⟨fun z => hne (nI_inj (by omega) (by omega) (z.2.symm.trans e35)), n1 _⟩)
  · unfold xTurn
    rcases f12 hf with z | z | z | ⟨z1, z2, z3, z4, z5, z6⟩
    · subst z; rw [u2_ne (by omega), u2_eq]; exact e34.symm
    · subst z; rw [u2_ne (by omega), u2_ne (by omega), u2_eq]; exact e35.symm
    · subst z; rw [u2_eq]; exact e36.symm
    · rw [u2_ne (by omega), u2_ne (by omega), u2_ne (by omega), cb, bb f hf, ft _ z1 z2 z3]
  · obtain ⟨u1, u2', u3, u4⟩ := on_upd (T := T) (T1 := u2 (mBecomes T k 1) 35 k (nI a)) (k := k) (n := nB) (nI a) (ft 28 (by decide) (by decide) (by decide)) (ft 29 (by decide) (by decide) (by decide)) (ft 30 (by decide) (by decide) (by decide)) (fun b hb => (f34 b hb).1) (fun b hb => (f34 b hb).2.1) hk
    obtain ⟨s1, s2, s3, s4⟩ := h.2.2.2.2.1 a ha
    have b3 : N (2000 + k) 3 = T 28 k := bb 3 (by decide)
    have b4 : N (2000 + k) 4 = T 29 k := bb 4 (by decide)
    have b5 : N (2000 + k) 5 = T 30 k := bb 5 (by decide)
    refine ⟨?_, ?_, ?_, ?_⟩
    · rw [tr _ (by omega), c1, u1, if_pos hon, if_neg (n1 _), s1]; rfl
    · rw [tr _ (by omega), c2, u2', if_pos hon, if_neg (n1 _), s2, b4, i_p1]
    · rw [tr _ (by omega), c3, u3, if_pos ⟨hon, Or.inl not_false⟩, if_neg (fun q => n1 _ q.1), s3, b5, i_p1]
    · by_cases hh : T 28 k = 1
      · rw [tr _ (by omega), c4, if_pos (b3.trans hh), u4, if_pos ⟨hon, Or.inr hh⟩, if_neg (fun q => n1 _ q.1), s4, b5, i_p1]
      · rw [tr _ (by omega), c4, if_neg (fun z => hh (b3.symm.trans z)), u4, if_neg (fun q => q.2.elim (fun z => z trivial) hh), if_neg (fun q => n1 _ q.1), s4, show (0 : Int32) - 0 = 0 by decide, Int32.add_zero]

theorem cX_giveOut {l : Launch} {g : WGp} (hg : GOK g) {sh : WSh} {N : WNm} {o : Nat → Nat} {nG nB nV kG kB kV : Nat} {ln : Nat → Nat} (X : XH o sh N nG nB nV kG kB kV ln) {nT : Nat} {T : WNm} (hN : XN N T nG nB nV nT ln) {a k : Nat} (ha : a < nG) (hk : k < nB) (hon : T 34 k = 1 ∧ T 35 k = nI a) (ho : vp_in (T 25 k) 10) : CT l g yX6_giveOut cX6_giveOut 6 none (RM 3 0 0) [.ref (sh.2.2 100), .ref (sh.2.2 (2000 + k)), .ref (sh.2.2 (1000 + a))] sh N (QV g (fun sh1 N1 => sh1 = sh ∧ XN N1 (mGive T k a) nG nB nV nT ln ∧ FRN N N1)) := by
  refine ent hg (by decide +kernel) (Nat.le_of_ble_eq_true rfl) ?_
  intro p e s m args below meth c C hname
  have hG := X.nG8
  have hB := X.nB3
  have hF := FRN.rfl N
  refine j_aload_n C dX6_giveOut_0 rfl ?_
  refine j_aload_n C dX6_giveOut_1 rfl ?_
  refine j_callV1V C ml_X6_272 dX6_giveOut_2 (cX_unload hg (X.g ha) (X.b hk) (by omega)) (by rw [X.g ha]; exact ⟨by decide, rfl⟩) ⟨Nat.le_of_ble_eq_true rfl, Nat.le_of_ble_eq_true rfl⟩ (Nat.le_of_ble_eq_true rfl) ⟨rfl, rfl⟩ ⟨Nat.zero_le _, Nat.zero_le _⟩ ?_
  refine j_aload_n C dX6_giveOut_5 rfl ?_
  refine j_iconst C dX6_giveOut_6 (v := 2) (by decide) ?_
  refine j_aload_n C dX6_giveOut_7 rfl ?_
  refine j_getI C fl_X6_122 dX6_giveOut_8 (X.c (by decide)) rfl ?_
  rw [xChg_row _ _ _ _ (show ¬ 100 = 1000 + a by omega), hN.1.2.2.2]
  refine j_callV2V C ml_X6_276 dX6_giveOut_11 (cX_turn hg (X.b hk) _ _) (by rw [X.b hk]; exact ⟨by decide, rfl⟩) ⟨Nat.le_of_ble_eq_true rfl, Nat.le_of_ble_eq_true rfl⟩ (Nat.le_of_ble_eq_true rfl) ⟨rfl, rfl⟩ ⟨Nat.zero_le _, Nat.zero_le _⟩ ?_
  replace hN := hN.off X.nG8 X.nB3 X.nV3 ha hk hon 2 (by decide)
  replace X := X.fr ((⟨fun i hi => by unfold xTurn; rw [u2_row (by omega), u2_row (by omega), xChg_row _ _ _ _ (by omega)], fun i hi hj => by unfold xTurn; rw [u2_row (by omega), u2_row (by omega), xChg_row _ _ _ _ (by omega)]⟩ : FRN N (xTurn (xChg N (1000 + a) (2000 + k) (-1)) (2000 + k) 2 (T 0 1))))
  replace hF := hF.trans ((⟨fun i hi => by unfold xTurn; rw [u2_row (by omega), u2_row (by omega), xChg_row _ _ _ _ (by omega)], fun i hi hj => by unfold xTurn; rw [u2_row (by omega), u2_row (by omega), xChg_row _ _ _ _ (by omega)]⟩ : FRN N (xTurn (xChg N (1000 + a) (2000 + k) (-1)) (2000 + k) 2 (T 0 1))))
  obtain ⟨N1, eN⟩ : ∃ N1, N1 = xTurn (xChg N (1000 + a) (2000 + k) (-1)) (2000 + k) 2 (T 0 1) := ⟨_, rfl⟩
  rw [← eN] at hN X hF
  rw [← eN]
  clear eN
  have eT : ∀ i, ¬ i = 34 → ¬ i = 36 → mBecomes T k 2 i = T i := fun i hi hj => by unfold mBecomes; rw [u2_row hj, u2_row hi]
  refine j_aload_n C dX6_giveOut_14 rfl ?_
  refine j_dup C dX6_giveOut_15 rfl ?_
  refine j_getI C fl_X6_279 dX6_giveOut_16 (X.g ha) rfl ?_
  rw [hN.g ha (f := 17) (r := 19) (by decide), eT 19 (by decide) (by decide)]
  refine j_aload_n C dX6_giveOut_19 rfl ?_
  refine j_getI C fl_X6_282 dX6_giveOut_20 (X.b hk) rfl ?_
  rw [show N1 (2000 + k) 7 = T 32 k from (hN.b hk (f := 7) (by decide)).trans (by rw [eT 32 (by decide) (by decide)])]
  refine j_iadd C dX6_giveOut_23 ?_
  refine j_putI C fl_X6_279 dX6_giveOut_24 (X.g ha) rfl rfl rfl rfl ?_
  replace hN := hN.gal X.nG8 X.nB3 X.nV3 (f := 17) (r := 19) (by decide) ha (T 19 a + T 32 k)
  replace X := X.fr (FRN.u (N := N1) (i := 1000 + a) (k := 17) (v := T 19 a + T 32 k) ⟨by omega, by omega⟩)
  replace hF := hF.trans (FRN.u (N := N1) (i := 1000 + a) (k := 17) (v := T 19 a + T 32 k) ⟨by omega, by omega⟩)
  obtain ⟨N2, eN⟩ : ∃ N2, N2 = u2 N1 (1000 + a) 17 (T 19 a + T 32 k) := ⟨_, rfl⟩
  rw [← eN] at hN X hF
  rw [← eN]
  clear eN
  refine j_aload_n C dX6_giveOut_27 rfl ?_
  refine j_getR (j := 101) C fl_X6_9 dX6_giveOut_28 (X.c (by decide)) rfl (X.r (by decide)) ?_
  refine j_aload_n C dX6_giveOut_31 rfl ?_
  refine j_getI C fl_X6_285 dX6_giveOut_32 (X.b hk) rfl ?_
  rw [show N2 (2000 + k) 0 = T 25 k from (hN.b hk (f := 0) (by decide)).trans (by rw [u2_row (by decide), eT 25 (by decide) (by decide)])]
  refine j_dup2 C dX6_giveOut_35 rfl rfl ?_
  refine j_iald C (X.a (i := 101) (n := 10) (by decide)) (ho) dX6_giveOut_36 ?_
  rw [show N2 101 = T 3 from hN.2.1.1.trans (by rw [u2_row (by decide), eT 3 (by decide) (by decide)])]
  refine j_aload_n C dX6_giveOut_37 rfl ?_
  refine j_getI C fl_X6_282 dX6_giveOut_38 (X.b hk) rfl ?_
  rw [show N2 (2000 + k) 7 = T 32 k from (hN.b hk (f := 7) (by decide)).trans (by rw [u2_row (by decide), eT 32 (by decide) (by decide)])]
  refine j_isub C dX6_giveOut_41 ?_
  refine j_iast C (X.a (i := 101) (n := 10) (by decide)) (ho) dX6_giveOut_42 ?_
  replace hN := hN.purse X.nG8 X.nB3 X.nV3 (tn (T 25 k)) (T 3 (tn (T 25 k)) - T 32 k)
  replace X := X.fr (FRN.u (N := N2) (i := 101) (k := tn (T 25 k)) (v := T 3 (tn (T 25 k)) - T 32 k) ⟨by decide, by decide⟩)
  replace hF := hF.trans (FRN.u (N := N2) (i := 101) (k := tn (T 25 k)) (v := T 3 (tn (T 25 k)) - T 32 k) ⟨by decide, by decide⟩)
  obtain ⟨N3, eN⟩ : ∃ N3, N3 = u2 N2 101 (tn (T 25 k)) (T 3 (tn (T 25 k)) - T 32 k) := ⟨_, rfl⟩
  rw [← eN] at hN X hF
  rw [← eN]
  clear eN
  rw [u2_comm _ (by decide)] at hN
  change XN N3 (mGive3 T k a) nG nB nV nT ln at hN
  have e3 : ∀ i, ¬ i = 3 → ¬ i = 19 → ¬ i = 34 → ¬ i = 36 → mGive3 T k a i = T i := fun i h1 h2 h3 h4 => by unfold mGive3; rw [u2_row h2, u2_row h1, eT i h3 h4]
  refine j_aload_n C dX6_giveOut_43 rfl ?_
  refine j_getI C fl_X6_282 dX6_giveOut_44 (X.b hk) rfl ?_
  rw [show N3 (2000 + k) 7 = T 32 k from (hN.b hk (f := 7) (by decide)).trans (by rw [e3 32 (by decide) (by decide) (by decide) (by decide)])]
  refine j_istore_n C dX6_giveOut_47 (by decide) rfl ?_
  refine j_iconst C dX6_giveOut_48 (v := 0) (by decide) ?_
  refine j_istore C dX6_giveOut_49 (by decide) rfl ?_
  suffices key : ∀ q, q ≤ 10 → ∀ N4 : WNm, XN N4 (mGiveP (mGive3 T k a) (T 32 k) a q) nG nB nV nT ln → XH o sh N4 nG nB nV kG kB kV ln → FRN N N4 → J p l e (RM 3 0 0) s m args below meth c (MQ below (QV g (fun sh1 N1 => sh1 = sh ∧ XN N1 (mGive T k a) nG nB nV nT ln ∧ FRN N N1)) args s 0 0 g.A) g 6 sh N4 0 0 51 [some (.ref (sh.2.2 100)), some (.ref (sh.2.2 (2000 + k))), some (.ref (sh.2.2 (1000 + a))), some (.int (mGiveL (mGive3 T k a) (T 32 k) a q)), some (.int (nI q)), none] [] from key 0 (by omega) N3 hN X hF
  clear hN X hF
  refine up_ind (P := fun q => ∀ N4 : WNm, XN N4 (mGiveP (mGive3 T k a) (T 32 k) a q) nG nB nV nT ln → XH o sh N4 nG nB nV kG kB kV ln → FRN N N4 → J p l e (RM 3 0 0) s m args below meth c (MQ below (QV g (fun sh1 N1 => sh1 = sh ∧ XN N1 (mGive T k a) nG nB nV nT ln ∧ FRN N N1)) args s 0 0 g.A) g 6 sh N4 0 0 51 [some (.ref (sh.2.2 100)), some (.ref (sh.2.2 (2000 + k))), some (.ref (sh.2.2 (1000 + a))), some (.int (mGiveL (mGive3 T k a) (T 32 k) a q)), some (.int (nI q)), none] []) (n := 10) ?_
  intro q hq ih N4 hN X hF
  refine j_iload C dX6_giveOut_51 rfl ?_
  refine j_bipush C dX6_giveOut_53 (v := 10) (by decide) ?_
  refine j_icmp_ge (tgt := 98) C dX6_giveOut_55 (by decide) (fun h55 => ?_) (fun h55 => ?_)
  · skip
    rw [show (10 : Int32) = nI 10 from rfl, n_nle (by omega) (by omega)] at h55
    obtain rfl : q = 10 := by omega
    refine j_aload_n C dX6_giveOut_98 rfl ?_
    refine j_dup C dX6_giveOut_99 rfl ?_
    refine j_getI C fl_X6_101 dX6_giveOut_100 (X.c (by decide)) rfl ?_
    rw [hN.1.1]
    refine j_iload_n C dX6_giveOut_103 rfl ?_
    refine j_iadd C dX6_giveOut_104 ?_
    refine j_putI C fl_X6_101 dX6_giveOut_105 (X.c (by decide)) rfl rfl rfl rfl ?_
    exact j_vret C dX6_giveOut_108 ⟨rfl, hN.chest X.nG8 X.nB3 X.nV3 _, hF.u' ⟨by decide, by decide⟩⟩
  · skip
    rw [show (10 : Int32) = nI 10 from rfl, n_nle (by omega) (by omega)] at h55
    refine j_aload_n C dX6_giveOut_58 rfl ?_
    refine j_getI C fl_X6_282 dX6_giveOut_59 (X.b hk) rfl ?_
    rw [show N4 (2000 + k) 7 = T 32 k from (hN.b hk (f := 7) (by decide)).trans (by rw [mGiveP_row _ _ _ (by decide), e3 32 (by decide) (by decide) (by decide) (by decide)])]
    refine j_aload_n C dX6_giveOut_62 rfl ?_
    refine j_getR (j := (1100 + a)) C fl_X6_108 dX6_giveOut_63 (X.g ha) rfl (X.gp ha) ?_
    refine j_iload C dX6_giveOut_66 rfl ?_
    refine j_ialdN C (X.ga ha) (⟨by omega, by decide⟩) dX6_giveOut_68 ?_
    rw [hN.p ha (show q < 10 by omega)]
    refine j_imul C dX6_giveOut_69 ?_
    refine j_bipush C dX6_giveOut_70 (v := 24) (by decide) ?_
    refine j_idiv C dX6_giveOut_72 (by decide) ?_
    refine j_istore C dX6_giveOut_73 (by decide) rfl ?_
    refine j_aload_n C dX6_giveOut_75 rfl ?_
    refine j_getR (j := 101) C fl_X6_9 dX6_giveOut_76 (X.c (by decide)) rfl (X.r (by decide)) ?_
    refine j_iload C dX6_giveOut_79 rfl ?_
    refine j_dup2 C dX6_giveOut_81 rfl rfl ?_
    refine j_ialdN C (X.a (i := 101) (n := 10) (by decide)) (⟨by omega, by decide⟩) dX6_giveOut_82 ?_
    rw [hN.2.1.1]
    refine j_iload C dX6_giveOut_83 rfl ?_
    refine j_iadd C dX6_giveOut_85 ?_
    refine j_iastN C (X.a (i := 101) (n := 10) (by decide)) (⟨by omega, by decide⟩) dX6_giveOut_86 ?_
    replace hN := hN.purse X.nG8 X.nB3 X.nV3 q (mGiveP (mGive3 T k a) (T 32 k) a q 3 q + (T 32 k) * mGiveP (mGive3 T k a) (T 32 k) a q 23 (10 * a + q) / 24)
    replace X := X.fr (FRN.u (N := N4) (i := 101) (k := q) (v := mGiveP (mGive3 T k a) (T 32 k) a q 3 q + (T 32 k) * mGiveP (mGive3 T k a) (T 32 k) a q 23 (10 * a + q) / 24) ⟨by decide, by decide⟩)
    replace hF := hF.trans (FRN.u (N := N4) (i := 101) (k := q) (v := mGiveP (mGive3 T k a) (T 32 k) a q 3 q + (T 32 k) * mGiveP (mGive3 T k a) (T 32 k) a q 23 (10 * a + q) / 24) ⟨by decide, by decide⟩)
    obtain ⟨N5, eN⟩ : ∃ N5, N5 = u2 N4 101 q (mGiveP (mGive3 T k a) (T 32 k) a q 3 q + (T 32 k) * mGiveP (mGive3 T k a) (T 32 k) a q 23 (10 * a + q) / 24) := ⟨_, rfl⟩
    rw [← eN] at hN X hF
    rw [← eN]
    clear eN
    refine j_iload_n C dX6_giveOut_87 rfl ?_
    refine j_iload C dX6_giveOut_88 rfl ?_
    refine j_isub C dX6_giveOut_90 ?_
    refine j_istore_n C dX6_giveOut_91 (by decide) rfl ?_
    refine j_iincN C dX6_giveOut_92 rfl (by decide) rfl ?_
    refine j_goto (tgt := 51) C dX6_giveOut_95 (by decide) ?_
    refine J.le ?_ (ih (by omega) N5 hN X hF)
    exact ⟨rfl, rfl, rfl, rfl, rfl, trivial⟩
