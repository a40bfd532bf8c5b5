/-! ===== THE REFERENCE'S READER: read, as a machine over lists ===== -/
def bI (b : Bool) : Int32 := if b then 1 else 0
def opn : List Int32 → Int32
  | [] => 0
  | w :: ws => opn ws + (if w = 5 ∨ w = 30 ∨ w = 70 then 1 else 0)
theorem mOpened_pile (N : WNm) : ∀ n, mOpened N n = opn (pileOf (N 51) n)
  | 0 => rfl
  | n + 1 => by rw [pileOf, opn, ← mOpened_pile N n]; rfl
def doneL (fr : Int32) : List Int32 → List (Int32 × Int32) → List Int32 × List (Int32 × Int32)
  | [], out => ([], out)
  | w :: ws, out => if mTight w < fr then (w :: ws, out) else doneL fr ws ((w, 0) :: out)
/-- what a wanted token does: 0 a fault, 1 it opens, 2 it is laid -/
def actW (tk : Int32) (mn : Bool) : Nat := if tk = 30 then (if bI mn = 0 then 0 else 1) else (if tk = 51 then 1 else (if tk = 5 then 1 else (if tk = 1 then 2 else (if 100 ≤ tk then 2 else 0))))
def topIs4 (ws : List Int32) : Bool := match ws with
  | [] => false
  | w :: _ => decide (mTight w = 4)
def sy (tp : Nat → Int32) (n : Nat) : Nat → Nat → Int32 → Int32 → Int32 → Bool → Bool → List Int32 → List (Int32 × Int32) → Int32 × List (Int32 × Int32)
  | 0, _, _, p, _, _, _, _, _ => (p, [])
  | f + 1, i, tk, p, num, true, mn, ws, out =>
    if actW tk mn = 1 then (if opn ws = 12 then (p, []) else (if tk = 51 then sy tp n f (mTok tp n i num).2.2.1 (mTok tp n i num).1 (nI (mTok tp n i num).2.1) (mTok tp n i num).2.2.2 true false (70 :: ws) out else sy tp n f (mTok tp n i num).2.2.1 (mTok tp n i num).1 (nI (mTok tp n i num).2.1) (mTok tp n i num).2.2.2 true true (tk :: ws) out))
    else (if actW tk mn = 2 then sy tp n f (mTok tp n i num).2.2.1 (mTok tp n i num).1 (nI (mTok tp n i num).2.1) (mTok tp n i num).2.2.2 false mn ws ((tk, num) :: out) else (p, []))
  | f + 1, i, tk, p, num, false, mn, ws, out =>
    if tk = 6 then (match doneL 1 ws out with
      | ([], _) => (p, [])
      | (_ :: ws1, out1) => sy tp n f (mTok tp n i num).2.2.1 (mTok tp n i num).1 (nI (mTok tp n i num).2.1) (mTok tp n i num).2.2.2 false mn ws1 out1)
    else (if tk = 0 then (match doneL 1 ws out with
      | ([], out1) => (-1, out1)
      | (_ :: _, _) => (p, []))
    else (if tk < 10 then (p, []) else (if 70 ≤ tk then (p, []) else (if tk = 30 then (p, []) else
      (if mTight tk = 4 then (if topIs4 (doneL 5 ws out).1 = true then (p, []) else sy tp n f (mTok tp n i num).2.2.1 (mTok tp n i num).1 (nI (mTok tp n i num).2.1) (mTok tp n i num).2.2.2 true false (tk :: (doneL 5 ws out).1) (doneL 5 ws out).2)
      else sy tp n f (mTok tp n i num).2.2.1 (mTok tp n i num).1 (nI (mTok tp n i num).2.1) (mTok tp n i num).2.2.2 true (decide (tk = 10 ∨ tk = 20)) (tk :: (doneL (mTight tk) ws out).1) (doneL (mTight tk) ws out).2)))))
def pile2 (N : WNm) (base : Nat) : Nat → List (Int32 × Int32)
  | 0 => []
  | k + 1 => (N 43 (base + k), N 44 (base + k)) :: pile2 N base k
theorem pile2_cong {N N' : WNm} {base : Nat} : ∀ {k : Nat}, (∀ j, j < base + k → N' 43 j = N 43 j ∧ N' 44 j = N 44 j) → pile2 N' base k = pile2 N base k
  | 0, _ => rfl
  | k + 1, h => by rw [pile2, pile2, (h (base + k) (by omega)).1, (h (base + k) (by omega)).2, pile2_cong (fun j hj => h j (by omega))]
/-- the numbers while a text is read: what waits, what is laid; all else as it was -/
def RIN (N N0 : WNm) (base : Nat) (ws : List Int32) (out : List (Int32 × Int32)) : Prop :=
  N 0 51 = nI ws.length ∧ pileOf (N 51) ws.length = ws ∧ N 0 44 = nI (base + out.length) ∧ pile2 N base out.length = out ∧
  (∀ a, a ≠ 0 → a ≠ 43 → a ≠ 44 → a ≠ 51 → N a = N0 a) ∧ (∀ j, j ≠ 44 → j ≠ 45 → j ≠ 46 → j ≠ 47 → j ≠ 48 → j ≠ 49 → j ≠ 51 → N 0 j = N0 0 j) ∧ (∀ j, j < base → N 43 j = N0 43 j ∧ N 44 j = N0 44 j)
theorem RIN.tok {N N0 : WNm} {base : Nat} {ws : List Int32} {out : List (Int32 × Int32)} (h : RIN N N0 base ws out) (t : Int32 × Nat × Nat × Int32) : RIN (mTokN N t) N0 base ws out := by
  obtain ⟨h1, h2, h3, h4, h5, h6, h7⟩ := h
  have row : ∀ a, a ≠ 0 → mTokN N t a = N a := fun a ha => by unfold mTokN; rw [u2_row ha, u2_row ha, u2_row ha, u2_row ha]
  refine ⟨by show mTokN N t 0 51 = _; exact h1, by rw [row 51 (by decide)]; exact h2, h3, ?_, fun a a0 a1 a2 a3 => by rw [row a a0]; exact h5 a a0 a1 a2 a3, fun j j1 j2 j3 j4 j5 j6 j7 => ?_, fun j hj => by rw [row 43 (by decide), row 44 (by decide)]; exact h7 j hj⟩
  · rw [pile2_cong (N := N) (fun j _ => by rw [row 43 (by decide), row 44 (by decide)]; exact ⟨rfl, rfl⟩)]; exact h4
  · unfold mTokN
    rw [u2_ne (fun z => j5 z.2), u2_ne (fun z => j4 z.2), u2_ne (fun z => j3 z.2), u2_ne (fun z => j2 z.2)]
    exact h6 j j1 j2 j3 j4 j5 j6 j7
theorem RIN.lay {N N0 : WNm} {base : Nat} {ws : List Int32} {out : List (Int32 × Int32)} (h : RIN N N0 base ws out) (w n : Int32) : RIN (mLay N w n (base + out.length)) N0 base ws ((w, n) :: out) := by
  obtain ⟨h1, h2, h3, h4, h5, h6, h7⟩ := h
  have row : ∀ a, a ≠ 0 → a ≠ 43 → a ≠ 44 → mLay N w n (base + out.length) a = N a := fun a a0 a1 a2 => by unfold mLay; rw [u2_row a0, u2_row a2, u2_row a1]
  have e43 : ∀ j, mLay N w n (base + out.length) 43 j = if j = base + out.length then w else N 43 j := fun j => by unfold mLay; rw [u2_row (by decide), u2_row (by decide)]; by_cases e : j = base + out.length <;> simp [u2, e]
  have e44 : ∀ j, mLay N w n (base + out.length) 44 j = if j = base + out.length then n else N 44 j := fun j => by unfold mLay; rw [u2_row (by decide)]; by_cases e : j = base + out.length <;> simp [u2, e]
  refine ⟨h1, by rw [row 51 (by decide) (by decide) (by decide)]; exact h2, ?_, ?_, fun a a0 a1 a2 a3 => by rw [row a a0 a1 a2]; exact h5 a a0 a1 a2 a3, fun j j1 j2 j3 j4 j5 j6 j7 => ?_, fun j hj => ?_⟩
  · unfold mLay; rw [u2_eq]; rfl
  · rw [List.length_cons, pile2, e43, e44, if_pos rfl, if_pos rfl, pile2_cong (N := N) (fun j hj => by rw [e43, e44, if_neg (by omega), if_neg (by omega)]; exact ⟨rfl, rfl⟩), h4]
  · unfold mLay; rw [u2_ne (fun z => j1 z.2)]; exact h6 j j1 j2 j3 j4 j5 j6 j7
  · rw [e43, e44, if_neg (by omega), if_neg (by omega)]; exact h7 j hj
theorem RIN.push {N N0 : WNm} {base : Nat} {ws : List Int32} {out : List (Int32 × Int32)} (h : RIN N N0 base ws out) (w : Int32) : RIN (u2 (u2 N 51 ws.length w) 0 51 (nI (ws.length + 1))) N0 base (w :: ws) out := by
  obtain ⟨h1, h2, h3, h4, h5, h6, h7⟩ := h
  have row : ∀ a, a ≠ 0 → a ≠ 51 → u2 (u2 N 51 ws.length w) 0 51 (nI (ws.length + 1)) a = N a := fun a a0 a1 => by rw [u2_row a0, u2_row a1]
  refine ⟨u2_eq _ _ _ _, ?_, h3, ?_, fun a a0 a1 a2 a3 => by rw [row a a0 a3]; exact h5 a a0 a1 a2 a3, fun j j1 j2 j3 j4 j5 j6 j7 => by rw [u2_ne (fun z => j7 z.2), u2_row (by decide)]; exact h6 j j1 j2 j3 j4 j5 j6 j7, fun j hj => by rw [row 43 (by decide) (by decide), row 44 (by decide) (by decide)]; exact h7 j hj⟩
  · have e : (u2 (u2 N 51 ws.length w) 0 51 (nI (ws.length + 1))) 51 = fun j => if j = ws.length then w else N 51 j := by
      funext j
      rw [u2_row (by decide)]
      by_cases e : j = ws.length <;> simp [u2, e]
    rw [List.length_cons, e, pile_push, h2]
  · rw [pile2_cong (N := N) (fun j _ => by rw [row 43 (by decide) (by decide), row 44 (by decide) (by decide)]; exact ⟨rfl, rfl⟩)]; exact h4
theorem RIN.pop {N N0 : WNm} {base : Nat} {w : Int32} {ws : List Int32} {out : List (Int32 × Int32)} (h : RIN N N0 base (w :: ws) out) : RIN (u2 N 0 51 (nI ws.length)) N0 base ws out ∧ N 51 ws.length = w := by
  obtain ⟨h1, h2, h3, h4, h5, h6, h7⟩ := h
  rw [List.length_cons, pileOf] at h2
  have e := List.cons.inj h2
  have row : ∀ a, a ≠ 0 → u2 N 0 51 (nI ws.length) a = N a := fun a a0 => u2_row a0
  refine ⟨⟨u2_eq _ _ _ _, by rw [row 51 (by decide)]; exact e.2, h3, ?_, fun a a0 a1 a2 a3 => by rw [row a a0]; exact h5 a a0 a1 a2 a3, fun j j1 j2 j3 j4 j5 j6 j7 => by rw [u2_ne (fun z => j7 z.2)]; exact h6 j j1 j2 j3 j4 j5 j6 j7, fun j hj => by rw [row 43 (by decide), row 44 (by decide)]; exact h7 j hj⟩, e.1⟩
  rw [pile2_cong (N := N) (fun j _ => by rw [row 43 (by decide), row 44 (by decide)]; exact ⟨rfl, rfl⟩)]; exact h4
theorem RIN.done {N0 : WNm} {base : Nat} (fr : Int32) : ∀ (ws : List Int32) (out : List (Int32 × Int32)) (N : WNm), base + out.length + ws.length < 2147483648 → RIN N N0 base ws out → RIN (mDone N fr ws.length).2 N0 base (doneL fr ws out).1 (doneL fr ws out).2 ∧ (∀ j, j ≠ 44 → j ≠ 51 → (mDone N fr ws.length).2 0 j = N 0 j)
  | [], out, N, _, h => ⟨h, fun _ _ _ => rfl⟩
  | w :: ws, out, N, hb, h => by
    obtain ⟨hp, ew⟩ := h.pop
    rw [List.length_cons] at hb
    have etn : tn (N 0 44) = base + out.length := by rw [h.2.2.1]; exact nI_clamp (by omega)
    rw [List.length_cons, mDone, doneL, ew, etn]
    by_cases hc : mTight w < fr
    · rw [if_pos hc, if_pos hc]; exact ⟨h, fun _ _ _ => rfl⟩
    · rw [if_neg hc, if_neg hc]
      have ih := RIN.done fr ws ((w, 0) :: out) _ (by rw [List.length_cons]; omega) (hp.lay w 0)
      refine ⟨ih.1, fun j j1 j2 => ?_⟩
      rw [ih.2 j j1 j2]
      unfold mLay
      rw [u2_ne (fun z => j1 z.2), u2_row (by decide), u2_row (by decide), u2_ne (fun z => j2 z.2)]
theorem doneL_len (fr : Int32) : ∀ (ws : List Int32) (out : List (Int32 × Int32)), (doneL fr ws out).1.length + (doneL fr ws out).2.length = ws.length + out.length ∧ (doneL fr ws out).1.length ≤ ws.length
  | [], out => ⟨rfl, Nat.le_refl _⟩
  | w :: ws, out => by
    rw [doneL]
    split
    · exact ⟨rfl, Nat.le_refl _⟩
    · have := doneL_len fr ws ((w, 0) :: out)
      simp only [List.length_cons] at this ⊢
      omega
theorem mTok_at (tp : Nat → Int32) (n i : Nat) (num : Int32) (hi : i ≤ n) : i ≤ (mTok tp n i num).2.1 ∧ (mTok tp n i num).2.1 ≤ (mTok tp n i num).2.2.1 ∧ (mTok tp n i num).2.2.1 ≤ n ∧ (¬ (mTok tp n i num).1 = 0 → (mTok tp n i num).2.1 < (mTok tp n i num).2.2.1) := by
  have hp := scan_le (fun j => tp j = 32) (n - i) i
  have hp2 : pBl tp n i = scan (fun j => tp j = 32) (n - i) i := rfl
  have hl := scan_le (fun j => 97 ≤ tp j ∧ tp j ≤ 122) (n - pBl tp n i) (pBl tp n i)
  have hl2 : eLt tp n (pBl tp n i) = scan (fun j => 97 ≤ tp j ∧ tp j ≤ 122) (n - pBl tp n i) (pBl tp n i) := rfl
  have hd := scan_le (fun j => 48 ≤ tp j ∧ tp j ≤ 57) (n - pBl tp n i) (pBl tp n i)
  have hd2 : eDg tp n (pBl tp n i) = scan (fun j => 48 ≤ tp j ∧ tp j ≤ 57) (n - pBl tp n i) (pBl tp n i) := rfl
  unfold mTok
  by_cases h1 : pBl tp n i = n
  · rw [if_pos h1]; exact ⟨hi, Nat.le_refl _, Nat.le_refl _, fun z => absurd rfl z⟩
  · rw [if_neg h1]
    by_cases h2 : 97 ≤ tp (pBl tp n i) ∧ tp (pBl tp n i) ≤ 122
    · rw [if_pos h2]
      have : eLt tp n (pBl tp n i) = scan (fun j => 97 ≤ tp j ∧ tp j ≤ 122) (n - (pBl tp n i + 1)) (pBl tp n i + 1) := scan_go (by omega) h2
      have h3 := scan_le (fun j => 97 ≤ tp j ∧ tp j ≤ 122) (n - (pBl tp n i + 1)) (pBl tp n i + 1)
      simp only
      omega
    · rw [if_neg h2]
      by_cases h3 : 48 ≤ tp (pBl tp n i) ∧ tp (pBl tp n i) ≤ 57
      · rw [if_pos h3]
        have : eDg tp n (pBl tp n i) = scan (fun j => 48 ≤ tp j ∧ tp j ≤ 57) (n - (pBl tp n i + 1)) (pBl tp n i + 1) := scan_go (by omega) h3
        have h4 := scan_le (fun j => 48 ≤ tp j ∧ tp j ≤ 57) (n - (pBl tp n i + 1)) (pBl tp n i + 1)
        simp only
        omega
      · rw [if_neg h3]
        simp only
        omega
