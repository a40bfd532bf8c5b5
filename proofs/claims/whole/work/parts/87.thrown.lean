/-! ===== THROWING: the order, and shares in any order ===== -/
def thF (w : Int32) : List Nat → Int32 → Int32 → WNm → Int32 × WNm
  | [], ls, _, L => (ls, L)
  | j :: rl, ls, gn, L => if w ≤ gn then (ls, L) else thF w rl (ls + L 31 j) (gn + L 30 j) (mThrow1 L j)
theorem mThrow1_34 (L : WNm) (j b : Nat) : mThrow1 L j 34 b = if b = j then 3 else L 34 b := by
  rw [mThrow1, u2_row (by decide), mBecomes, u2_row (by decide)]
  by_cases e : b = j
  · rw [e, u2_eq, if_pos rfl]
  · rw [u2_ne (fun z => e z.2), if_neg e]
theorem throw_eq {x w : Int32} {nB : Nat} : ∀ (rl : List Nat) (f : Nat) (ls gn : Int32) (L : WNm), rl.Pairwise (RB (L 30)) → (∀ b, b < nB → ((L 34 b = 1 ∧ L 35 b = x) ↔ b ∈ rl)) → (∀ y ∈ rl, y < nB) → rl.length < f → mThrow x w nB f ls gn L = thF w rl ls gn L
  | [], 0, _, _, _, _, _, _, hf => absurd hf (Nat.not_lt_zero _)
  | [], f + 1, ls, gn, L, _, ht, _, _ => by
    rw [mThrow, mHeavy, best_nil (fun b hb z => by have := (ht b hb).mp z; cases this), thF]
    split <;> rfl
  | _ :: _, 0, _, _, _, _, _, _, hf => absurd hf (Nat.not_lt_zero _)
  | j :: rl, f + 1, ls, gn, L, hp, ht, hx, hf => by
    obtain ⟨h1, h2⟩ := List.pairwise_cons.mp hp
    have hj : j < nB := hx j List.mem_cons_self
    have hb : mHeavy L x nB = some j := best_is (W := fun b => L 30 b) (ok := fun b => L 34 b = 1 ∧ L 35 b = x) ((ht j hj).mpr List.mem_cons_self) hj (fun b hb hok hne => by
      rcases List.mem_cons.mp ((ht b hb).mp hok) with z | z
      · exact absurd z hne
      · exact h1 b z)
    rw [mThrow, hb, thF]
    split
    · rfl
    · simp only
      have e30 : mThrow1 L j 30 = L 30 := mThrow1_row _ _ (by decide)
      refine throw_eq rl f _ _ _ (by rw [e30]; exact h2) (fun b hb => ?_) (fun y hy => hx y (List.mem_cons_of_mem _ hy)) (by rw [List.length_cons] at hf; omega)
      rw [mThrow1_34, mThrow1_row _ _ (by decide : 35 ≠ 3 ∧ 35 ≠ 34 ∧ 35 ≠ 36)]
      by_cases e : b = j
      · rw [if_pos e, e]
        exact ⟨fun z => absurd z.1 (by decide), fun z => absurd (h1 j z) RB.irr⟩
      · rw [if_neg e, ht b hb]
        exact ⟨fun z => (List.mem_cons.mp z).elim (fun q => absurd q e) id, fun z => List.mem_cons_of_mem _ z⟩
theorem thF_row {w : Int32} {i : Nat} (h : i ≠ 3 ∧ i ≠ 34 ∧ i ≠ 36) : ∀ (rl : List Nat) (ls gn : Int32) (L : WNm), (thF w rl ls gn L).2 i = L i
  | [], _, _, _ => rfl
  | j :: rl, ls, gn, L => by
    rw [thF]
    split
    · rfl
    · exact (thF_row h rl _ _ _).trans (mThrow1_row _ _ h)
theorem thF_34 {w : Int32} {b : Nat} : ∀ (rl : List Nat) (ls gn : Int32) (L : WNm), (thF w rl ls gn L).2 34 b = 1 → L 34 b = 1
  | [], _, _, _, h => h
  | j :: rl, ls, gn, L, h => by
    rw [thF] at h
    split at h
    · exact h
    · have z := thF_34 rl _ _ _ h
      rw [mThrow1_34] at z
      split at z
      · exact absurd z (by decide)
      · exact z
def lsum (f : Nat → Int32) : List Nat → Int32
  | [] => 0
  | j :: rl => lsum f rl + f j
theorem iSum_zero : ∀ n, iSum (fun _ => 0) n = 0
  | 0 => rfl
  | n + 1 => by rw [iSum, iSum_zero n]; rfl
theorem lsum_iSum {f : Nat → Int32} {nB : Nat} {R : Nat → Nat → Prop} (hR : ∀ x, ¬ R x x) : ∀ (rl : List Nat), rl.Pairwise R → (∀ y ∈ rl, y < nB) → lsum f rl = iSum (fun b => if b ∈ rl then f b else 0) nB
  | [], _, _ => by
    have e : (fun b => if b ∈ ([] : List Nat) then f b else 0) = fun _ => (0 : Int32) := by funext b; simp
    rw [e, iSum_zero]
    rfl
  | j :: rl, hp, hx => by
    obtain ⟨h1, h2⟩ := List.pairwise_cons.mp hp
    have hj : j < nB := hx j List.mem_cons_self
    have hnj : ¬ j ∈ rl := fun z => hR j (h1 j z)
    have z := iSum_upd (f := fun b => if b ∈ rl then f b else 0) (f1 := fun b => if b ∈ j :: rl then f b else 0) (k := j) (fun b hb => by simp [hb]) nB hj
    rw [z, lsum, lsum_iSum hR rl h2 (fun y hy => hx y (List.mem_cons_of_mem _ hy))]
    simp only [List.mem_cons_self, if_true, if_neg hnj, Int32.sub_zero]
/-- a bale's share of the loss -/
def shr (F : WNm) (ls : Int32) (al : Int64) (j : Nat) : Int32 := (ls.toInt64 * (F 31 j).toInt64 / al).toInt32
def shS (F0 : WNm) (ls : Int32) (al : Int64) : List Nat → WNm → WNm
  | [], F => F
  | j :: rl, F => shS F0 ls al rl (u2 F 3 (tn (F0 25 j)) (F 3 (tn (F0 25 j)) - shr F0 ls al j))
theorem i_ms (x a b : Int32) : x - a - b = x - (b + a) := by
  rw [Int32.sub_eq_add_neg, Int32.sub_eq_add_neg, Int32.sub_eq_add_neg, Int32.neg_add, Int32.sub_eq_add_neg, Int32.add_assoc, Int32.add_comm (-a)]
theorem shS_row {F0 : WNm} {ls : Int32} {al : Int64} {i : Nat} (h : ¬ i = 3) : ∀ (rl : List Nat) (F : WNm), shS F0 ls al rl F i = F i
  | [], _ => rfl
  | j :: rl, F => by rw [shS, shS_row h rl, u2_row h]
theorem shS_3 (F0 : WNm) (ls : Int32) (al : Int64) (p : Nat) : ∀ (rl : List Nat) (F : WNm), shS F0 ls al rl F 3 p = F 3 p - lsum (fun j => if tn (F0 25 j) = p then shr F0 ls al j else 0) rl
  | [], F => (Int32.sub_zero _).symm
  | j :: rl, F => by
    rw [shS, shS_3 F0 ls al p rl, lsum]
    by_cases e : tn (F0 25 j) = p
    · rw [if_pos e, e, u2_eq, i_ms]
    · rw [if_neg e, u2_ne (fun z => e z.2.symm), Int32.add_zero]
def shL (F0 : WNm) (ls : Int32) (al : Int64) : List Nat → Int32 → Int32
  | [], s => s
  | j :: rl, s => shL F0 ls al rl (s - shr F0 ls al j)
theorem shL_eq (F0 : WNm) (ls : Int32) (al : Int64) : ∀ (rl : List Nat) (s : Int32), shL F0 ls al rl s = s - lsum (shr F0 ls al) rl
  | [], s => (Int32.sub_zero _).symm
  | j :: rl, s => by rw [shL, shL_eq F0 ls al rl, lsum, i_ms]
theorem mShN_3 (N : WNm) (x ls : Int32) (al : Int64) (F : WNm) (p : Nat) : ∀ n, mShN N x ls al F n 3 p = F 3 p - iSum (fun b => if N 34 b = 1 ∧ N 35 b = x then (if tn (F 25 b) = p then shr F ls al b else 0) else 0) n
  | 0 => (Int32.sub_zero _).symm
  | n + 1 => by
    rw [mShN, iSum]
    by_cases h : N 34 n = 1 ∧ N 35 n = x
    · rw [if_pos h, if_pos h, mShN_row N x ls al F (i := 25) (by decide), mShN_row N x ls al F (i := 31) (by decide)]
      by_cases e : tn (F 25 n) = p
      · rw [if_pos e, e, u2_eq, mShN_3 N x ls al F p n, i_ms, Int32.add_comm]
        rfl
      · rw [if_neg e, u2_ne (fun z => e z.2.symm), mShN_3 N x ls al F p n, Int32.add_zero]
    · rw [if_neg h, if_neg h, mShN_3 N x ls al F p n, Int32.add_zero]
theorem mShL_eq (N : WNm) (x ls : Int32) (al : Int64) (F : WNm) : ∀ n, mShL N x ls al F n = ls - iSum (fun b => if N 34 b = 1 ∧ N 35 b = x then shr F ls al b else 0) n
  | 0 => (Int32.sub_zero _).symm
  | n + 1 => by
    rw [mShL, iSum]
    by_cases h : N 34 n = 1 ∧ N 35 n = x
    · rw [if_pos h, if_pos h, mShN_row _ _ _ _ _ (by decide), mShL_eq N x ls al F n, i_ms, Int32.add_comm]
      rfl
    · rw [if_neg h, if_neg h, mShL_eq N x ls al F n, Int32.add_zero]
theorem share_eq {N F : WNm} {x ls : Int32} {al : Int64} {nB : Nat} {R : Nat → Nat → Prop} (hR : ∀ x, ¬ R x x) {rl : List Nat} (hp : rl.Pairwise R) (hm : ∀ b, b ∈ rl ↔ b < nB ∧ N 34 b = 1 ∧ N 35 b = x) : shS F ls al rl F = mShN N x ls al F nB ∧ shL F ls al rl ls = mShL N x ls al F nB := by
  have hx : ∀ y ∈ rl, y < nB := fun y hy => ((hm y).mp hy).1
  have key : ∀ f : Nat → Int32, lsum f rl = iSum (fun b => if N 34 b = 1 ∧ N 35 b = x then f b else 0) nB := fun f => by
    rw [lsum_iSum (nB := nB) hR rl hp hx]
    refine iSum_same nB (fun b hb => ?_)
    by_cases h : N 34 b = 1 ∧ N 35 b = x
    · rw [if_pos h, if_pos ((hm b).mpr ⟨hb, h⟩)]
    · rw [if_neg h, if_neg (fun z => h ((hm b).mp z).2)]
  refine ⟨?_, by rw [shL_eq, mShL_eq, key]⟩
  funext i p
  by_cases e : i = 3
  · rw [e, shS_3, mShN_3, key]
  · rw [shS_row e, mShN_row _ _ _ _ _ e]
/-- all that bears the loss, as an int -/
def onW (T : WNm) (x : Int32) (b : Nat) : Int32 := if T 34 b = 1 ∧ T 35 b = x then T 31 b else 0
theorem bear_eq {T : WNm} {nG nB nV nP dy a : Nat} (h : TI T nG nB nV nP dy) (ha : a < nG) (hG : nG ≤ 8) (hB : nB ≤ 300) : ∀ n, n ≤ nB → (T 14 a + iSum (onW T (nI a)) n).toInt64 = mAll T (nI a) n ∧ 1 ≤ (T 14 a + iSum (onW T (nI a)) n).toInt ∧ (T 14 a + iSum (onW T (nI a)) n).toInt ≤ 9999 + 9999 * n
  | 0, _ => by
    have hh := (h.2.1 a ha).2.2.1
    have e : T 14 a + iSum (onW T (nI a)) 0 = T 14 a := Int32.add_zero _
    rw [e, mAll, show tn (nI a) = a from nI_clamp (by omega)]
    have h1 := i_le.mp hh.1
    have h2 := i_le.mp hh.2
    rw [show (1 : Int32).toInt = 1 from rfl] at h1
    rw [show (9999 : Int32).toInt = 9999 from rfl] at h2
    exact ⟨rfl, h1, by omega⟩
  | n + 1, hn => by
    obtain ⟨i1, i2, i3⟩ := bear_eq h ha hG hB n (by omega)
    have hw := (h.2.2.2.1 n (by omega)).2
    have h1 := i_le.mp hw.1
    have h2 := i_le.mp hw.2
    rw [show (1 : Int32).toInt = 1 from rfl] at h1
    rw [show (9999 : Int32).toInt = 9999 from rfl] at h2
    rw [iSum, ← Int32.add_assoc, mAll, ← i1]
    generalize T 14 a + iSum (onW T (nI a)) n = v at i2 i3
    unfold onW
    by_cases hon : T 34 n = 1 ∧ T 35 n = nI a
    · rw [if_pos hon, if_pos hon]
      have e : (v + T 31 n).toInt = v.toInt + (T 31 n).toInt := by
        rw [Int32.toInt_add]
        exact Int.bmod_eq_of_le (by omega) (by omega)
      refine ⟨?_, by rw [e]; omega, by rw [e]; omega⟩
      apply Int64.toInt_inj.mp
      rw [Int32.toInt_toInt64, e, Int64.toInt_add, Int32.toInt_toInt64, Int32.toInt_toInt64]
      exact (Int.bmod_eq_of_le (by omega) (by omega)).symm
    · rw [if_neg hon, if_neg hon, Int32.add_zero]
      refine ⟨?_, i2, by omega⟩
      exact (Int64.add_zero _).symm
