/-! ===== THE REFERENCE'S READER: read, as a machine over lists ===== -/
def bI (b : Bool) : Int32 := if b then 1 else 0
def opn : List Int32 → Int32
  | [] => 0
  | w :: ws => opn ws + (if w = 5 ∨ w = 30 ∨ w = 70 then 1 else 0)
theorem mOpened_pile (N : WNm) : ∀ n, mOpened N n = opn (pileOf (N 51) n)
  | 0 => rfl
  | n + 1 => by rw [pileOf, opn, ← mOpened_pile N n]; rfl
def doneL (fr : Int32) : List Int32 → List (Int32 × Int32) → List Int32 × List (Int32 × Int32)
  | [], out => ([], out)
  | w :: ws, out => if mTight w < fr then (w :: ws, out) else doneL fr ws ((w, 0) :: out)
/-- what a wanted token does: 0 a fault, 1 it opens, 2 it is laid -/
def actW (tk : Int32) (mn : Bool) : Nat := if tk = 30 then (if bI mn = 0 then 0 else 1) else (if tk = 51 then 1 else (if tk = 5 then 1 else (if tk = 1 then 2 else (if 100 ≤ tk then 2 else 0))))
def topIs4 (ws : List Int32) : Bool := match ws with
  | [] => false
  | w :: _ => decide (mTight w = 4)
def sy (tp : Nat → Int32) (n : Nat) : Nat → Nat → Int32 → Int32 → Int32 → Bool → Bool → List Int32 → List (Int32 × Int32) → Int32 × List (Int32 × Int32)
  | 0, _, _, p, _, _, _, _, _ => (p, [])
  | f + 1, i, tk, p, num, true, mn, ws, out =>
    if actW tk mn = 1 then (if opn ws = 12 then (p, []) else (if tk = 51 then sy tp n f (mTok tp n i num).2.2.1 (mTok tp n i num).1 (nI (mTok tp n i num).2.1) (mTok tp n i num).2.2.2 true false (70 :: ws) out else sy tp n f (mTok tp n i num).2.2.1 (mTok tp n i num).1 (nI (mTok tp n i num).2.1) (mTok tp n i num).2.2.2 true true (tk :: ws) out))
    else (if actW tk mn = 2 then sy tp n f (mTok tp n i num).2.2.1 (mTok tp n i num).1 (nI (mTok tp n i num).2.1) (mTok tp n i num).2.2.2 false mn ws ((tk, num) :: out) else (p, []))
  | f + 1, i, tk, p, num, false, mn, ws, out =>
    if tk = 6 then (match doneL 1 ws out with
      | ([], _) => (p, [])
      | (_ :: ws1, out1) => sy tp n f (mTok tp n i num).2.2.1 (mTok tp n i num).1 (nI (mTok tp n i num).2.1) (mTok tp n i num).2.2.2 false mn ws1 out1)
    else (if tk = 0 then (match doneL 1 ws out with
      | ([], out1) => (-1, out1)
      | (_ :: _, _) => (p, []))
    else (if tk < 10 then (p, []) else (if 70 ≤ tk then (p, []) else (if tk = 30 then (p, []) else
      (if mTight tk = 4 then (if topIs4 (doneL 5 ws out).1 = true then (p, []) else sy tp n f (mTok tp n i num).2.2.1 (mTok tp n i num).1 (nI (mTok tp n i num).2.1) (mTok tp n i num).2.2.2 true false (tk :: (doneL 5 ws out).1) (doneL 5 ws out).2)
      else sy tp n f (mTok tp n i num).2.2.1 (mTok tp n i num).1 (nI (mTok tp n i num).2.1) (mTok tp n i num).2.2.2 true (decide (tk = 10 ∨ tk = 20)) (tk :: (doneL (mTight tk) ws out).1) (doneL (mTight tk) ws out).2)))))
def pile2 (N : WNm) (base : Nat) : Nat → List (Int32 × Int32)
  | 0 => []
  | k + 1 => (N 43 (base + k), N 44 (base + k)) :: pile2 N base k
theorem pile2_cong {N N' : WNm} {base : Nat} : ∀ {k : Nat}, (∀ j, j < base + k → N' 43 j = N 43 j ∧ N' 44 j = N 44 j) → pile2 N' base k = pile2 N base k
  | 0, _ => rfl
  | k + 1, h => by rw [pile2, pile2, (h (base + k) (by omega)).1, (h (base + k) (by omega)).2, pile2_cong (fun j hj => h j (by omega))]
/-- the numbers while a text is read: what waits, what is laid; all else as it was -/
def RIN (N N0 : WNm) (base : Nat) (ws : List Int32) (out : List (Int32 × Int32)) : Prop :=
  N 0 51 = nI ws.length ∧ pileOf (N 51) ws.length = ws ∧ N 0 44 = nI (base + out.length) ∧ pile2 N base out.length = out ∧
  (∀ a, a ≠ 0 → a ≠ 43 → a ≠ 44 → a ≠ 51 → N a = N0 a) ∧ (∀ j, j ≠ 44 → j ≠ 45 → j ≠ 46 → j ≠ 47 → j ≠ 48 → j ≠ 49 → j ≠ 51 → N 0 j = N0 0 j) ∧ (∀ j, j < base → N 43 j = N0 43 j ∧ N 44 j = N0 44 j)
theorem RIN.tok {N N0 : WNm} {base : Nat} {ws : List Int32} {out : List (Int32 × Int32)} (h : RIN N N0 base ws out) (t : Int32 × Nat × Nat × Int32) : RIN (mTokN N t) N0 base ws out := by
  obtain ⟨h1, h2, h3, h4, h5, h6, h7⟩ := h
  have row : ∀ a, a ≠ 0 → mTokN N t a = N a := fun a ha => by unfold mTokN; rw [u2_row ha, u2_row ha, u2_row ha, u2_row ha]
  refine ⟨by show mTokN N t 0 51 = _; exact h1, by rw [row 51 (by decide)]; exact h2, h3, ?_, fun a a0 a1 a2 a3 => by rw [row a a0]; exact h5 a a0 a1 a2 a3, fun j j1 j2 j3 j4 j5 j6 j7 => ?_, fun j hj => by rw [row 43 (by decide), row 44 (by decide)]; exact h7 j hj⟩
  · rw [pile2_cong (N := N) (fun j _ => by rw [row 43 (by decide), row 44 (by decide)]; exact ⟨rfl, rfl⟩)]; exact h4
  · unfold mTokN
    rw [u2_ne (fun z => j5 z.2), u2_ne (fun z => j4 z.2), u2_ne (fun z => j3 z.2), u2_ne (fun z => j2 z.2)]
    exact h6 j j1 j2 j3 j4 j5 j6 j7
theorem RIN.lay {N N0 : WNm} {base : Nat} {ws : List Int32} {out : List (Int32 × Int32)} (h : RIN N N0 base ws out) (w n : Int32) : RIN (mLay N w n (base + out.length)) N0 base ws ((w, n) :: out) := by
  obtain ⟨h1, h2, h3, h4, h5, h6, h7⟩ := h
  have row : ∀ a, a ≠ 0 → a ≠ 43 → a ≠ 44 → mLay N w n (base + out.length) a = N a := fun a a0 a1 a2 => by unfold mLay; rw [u2_row a0, u2_row a2, u2_row a1]
  have e43 : ∀ j, mLay N w n (base + out.length) 43 j = if j = base + out.length then w else N 43 j := fun j => by unfold mLay; rw [u2_row (by decide), u2_row (by decide)]; by_cases e : j = base + out.length <;> simp [u2, e]
  have e44 : ∀ j, mLay N w n (base + out.length) 44 j = if j = base + out.length then n else N 44 j := fun j => by unfold mLay; rw [u2_row (by decide)]; by_cases e : j = base + out.length <;> simp [u2, e]
  refine ⟨h1, by rw [row 51 (by decide) (by decide) (by decide)]; exact h2, ?_, ?_, fun a a0 a1 a2 a3 => by rw [row a a0 a1 a2]; exact h5 a a0 a1 a2 a3, fun j j1 j2 j3 j4 j5 j6 j7 => ?_, fun j hj => ?_⟩
  · unfold mLay; rw [u2_eq]; rfl
  · rw [List.length_cons, pile2, e43, e44, if_pos rfl, if_pos rfl, pile2_cong (N := N) (fun j hj => by rw [e43, e44, if_neg (by omega), if_neg (by omega)]; exact ⟨rfl, rfl⟩), h4]
  · unfold mLay; rw [u2_ne (fun z => j1 z.2)]; exact h6 j j1 j2 j3 j4 j5 j6 j7
  · rw [e43, e44, if_neg (by omega), if_neg (by omega)]; exact h7 j hj
theorem RIN.push {N N0 : WNm} {base : Nat} {ws : List Int32} {out : List (Int32 × Int32)} (h : RIN N N0 base ws out) (w : Int32) : RIN (u2 (u2 N 51 ws.length w) 0 51 (nI (ws.length + 1))) N0 base (w :: ws) out := by
  obtain ⟨h1, h2, h3, h4, h5, h6, h7⟩ := h
  have row : ∀ a, a ≠ 0 → a ≠ 51 → u2 (u2 N 51 ws.length w) 0 51 (nI (ws.length + 1)) a = N a := fun a a0 a1 => by rw [u2_row a0, u2_row a1]
  refine ⟨u2_eq _ _ _ _, ?_, h3, ?_, fun a a0 a1 a2 a3 => by rw [row a a0 a3]; exact h5 a a0 a1 a2 a3, fun j j1 j2 j3 j4 j5 j6 j7 => by rw [u2_ne (fun z => j7 z.2), u2_row (by decide)]; exact h6 j j1 j2 j3 j4 j5 j6 j7, fun j hj => by rw [row 43 (by decide) (by decide), row 44 (by decide) (by decide)]; exact h7 j hj⟩
  · have e : (u2 (u2 N 51 ws.length w) 0 51 (nI (ws.length + 1))) 51 = fun j => if j = ws.length then w else N 51 j := by
      funext j
      rw [u2_row (by decide)]
      by_cases e : j = ws.length <;> simp [u2, e]
    rw [List.length_cons, e, pile_push, h2]
  · rw [pile2_cong (N := N) (fun j _ => by rw [row 43 (by decide) (by decide), row 44 (by decide) (by decide)]; exact ⟨rfl, rfl⟩)]; exact h4
theorem RIN.pop {N N0 : WNm} {base : Nat} {w : Int32} {ws : List Int32} {out : List (Int32 × Int32)} (h : RIN N N0 base (w :: ws) out) : RIN (u2 N 0 51 (nI ws.length)) N0 base ws out ∧ N 51 ws.length = w := by
  obtain ⟨h1, h2, h3, h4, h5, h6, h7⟩ := h
  rw [List.length_cons, pileOf] at h2
  have e := List.cons.inj h2
  have row : ∀ a, a ≠ 0 → u2 N 0 51 (nI ws.length) a = N a := fun a a0 => u2_row a0
  refine ⟨⟨u2_eq _ _ _ _, by rw [row 51 (by decide)]; exact e.2, h3, ?_, fun a a0 a1 a2 a3 => by rw [row a a0]; exact h5 a a0 a1 a2 a3, fun j j1 j2 j3 j4 j5 j6 j7 => by rw [u2_ne (fun z => j7 z.2)]; exact h6 j j1 j2 j3 j4 j5 j6 j7, fun j hj => by rw [row 43 (by decide), row 44 (by decide)]; exact h7 j hj⟩, e.1⟩
  rw [pile2_cong (N := N) (fun j _ => by rw [row 43 (by decide), row 44 (by decide)]; exact ⟨rfl, rfl⟩)]; exact h4
theorem RIN.done {N0 : WNm} {base : Nat} (fr : Int32) : ∀ (ws : List Int32) (out : List (Int32 × Int32)) (N : WNm), base + out.length + ws.length < 2147483648 → RIN N N0 base ws out → RIN (mDone N fr ws.length).2 N0 base (doneL fr ws out).1 (doneL fr ws out).2 ∧ (∀ j, j ≠ 44 → j ≠ 51 → (mDone N fr ws.length).2 0 j = N 0 j)
  | [], out, N, _, h => ⟨h, fun _ _ _ => rfl⟩
  | w :: ws, out, N, hb, h => by
    obtain ⟨hp, ew⟩ := h.pop
    rw [List.length_cons] at hb
    have etn : tn (N 0 44) = base + out.length := by rw [h.2.2.1]; exact nI_clamp (by omega)
    rw [List.length_cons, mDone, doneL, ew, etn]
    by_cases hc : mTight w < fr
    · rw [if_pos hc, if_pos hc]; exact ⟨h, fun _ _ _ => rfl⟩
    · rw [if_neg hc, if_neg hc]
      have ih := RIN.done fr ws ((w, 0) :: out) _ (by rw [List.length_cons]; omega) (hp.lay w 0)
      refine ⟨ih.1, fun j j1 j2 => ?_⟩
      rw [ih.2 j j1 j2]
      unfold mLay
      rw [u2_ne (fun z => j1 z.2), u2_row (by decide), u2_row (by decide), u2_ne (fun z => j2 z.2)]
theorem doneL_len (fr : Int32) : ∀ (ws : List Int32) (out : List (Int32 × Int32)), (doneL fr ws out).1.length + (doneL fr ws out).2.length = ws.length + out.length ∧ (doneL fr ws out).1.length ≤ ws.length
  | [], out => ⟨rfl, Nat.le_refl _⟩
  | w :: ws, out => by
    rw [doneL]
    split
    · exact ⟨rfl, Nat.le_refl _⟩
    · have := doneL_len fr ws ((w, 0) :: out)
      simp only [List.length_cons] at this ⊢
      omega
theorem mTok_at (tp : Nat → Int32) (n i : Nat) (num : Int32) (hi : i ≤ n) : i ≤ (mTok tp n i num).2.1 ∧ (mTok tp n i num).2.1 ≤ (mTok tp n i num).2.2.1 ∧ (mTok tp n i num).2.2.1 ≤ n ∧ (¬ (mTok tp n i num).1 = 0 → (mTok tp n i num).2.1 < (mTok tp n i num).2.2.1) := by
  have hp := scan_le (fun j => tp j = 32) (n - i) i
  have hp2 : pBl tp n i = scan (fun j => tp j = 32) (n - i) i := rfl
  have hl := scan_le (fun j => 97 ≤ tp j ∧ tp j ≤ 122) (n - pBl tp n i) (pBl tp n i)
  have hl2 : eLt tp n (pBl tp n i) = scan (fun j => 97 ≤ tp j ∧ tp j ≤ 122) (n - pBl tp n i) (pBl tp n i) := rfl
  have hd := scan_le (fun j => 48 ≤ tp j ∧ tp j ≤ 57) (n - pBl tp n i) (pBl tp n i)
  have hd2 : eDg tp n (pBl tp n i) = scan (fun j => 48 ≤ tp j ∧ tp j ≤ 57) (n - pBl tp n i) (pBl tp n i) := rfl
  unfold mTok
  by_cases h1 : pBl tp n i = n
  · rw [if_pos h1]; exact ⟨hi, Nat.le_refl _, Nat.le_refl _, fun z => absurd rfl z⟩
  · rw [if_neg h1]
    by_cases h2 : 97 ≤ tp (pBl tp n i) ∧ tp (pBl tp n i) ≤ 122
    · rw [if_pos h2]
      have : eLt tp n (pBl tp n i) = scan (fun j => 97 ≤ tp j ∧ tp j ≤ 122) (n - (pBl tp n i + 1)) (pBl tp n i + 1) := scan_go (by omega) h2
      have h3 := scan_le (fun j => 97 ≤ tp j ∧ tp j ≤ 122) (n - (pBl tp n i + 1)) (pBl tp n i + 1)
      simp only
      omega
    · rw [if_neg h2]
      by_cases h3 : 48 ≤ tp (pBl tp n i) ∧ tp (pBl tp n i) ≤ 57
      · rw [if_pos h3]
        have : eDg tp n (pBl tp n i) = scan (fun j => 48 ≤ tp j ∧ tp j ≤ 57) (n - (pBl tp n i + 1)) (pBl tp n i + 1) := scan_go (by omega) h3
        have h4 := scan_le (fun j => 48 ≤ tp j ∧ tp j ≤ 57) (n - (pBl tp n i + 1)) (pBl tp n i + 1)
        simp only
        omega
      · rw [if_neg h3]
        simp only
        omega

theorem RIN.wait {N N0 : WNm} {base : Nat} {ws : List Int32} {out : List (Int32 × Int32)} (h : RIN N N0 base ws out) : mWaiting N ws.length 4 ↔ topIs4 ws = true := by
  cases ws with
  | nil => constructor
           · intro z; exact absurd z.1 (Nat.lt_irrefl 0)
           · intro z; cases z
  | cons w ws =>
    have e := h.pop.2
    unfold mWaiting topIs4
    rw [List.length_cons, Nat.add_sub_cancel, e, decide_eq_true_iff]
    exact ⟨fun z => z.2, fun z => ⟨Nat.succ_pos _, z⟩⟩
theorem nI_m1 {k : Nat} (h : k < 2147483648) : ¬ nI k = -1 := by
  intro z
  have := nI_pos' (n := k) (by omega)
  rw [z] at this
  exact absurd this (by decide)
/-- what the reference's reader answers for a tape: the fault or -1, and the steps laid (the last one first) -/
def mReadR (tp : Nat → Int32) (n : Nat) (num : Int32) : Int32 × List (Int32 × Int32) := sy tp n (n + 1) (mTok tp n 0 num).2.2.1 (mTok tp n 0 num).1 (nI (mTok tp n 0 num).2.1) (mTok tp n 0 num).2.2.2 true true [] []

theorem cM_read {l : Launch} {g : WGp} (hg : GOK g) {sh : WSh} {N : WNm} (M : MSh sh) {n base nV : Nat} (hT : N 0 37 = nI n) (hn : n ≤ 200) (hV : N 0 38 = nI nV) (hV30 : nV ≤ 30) (hB : N 42 nV = nI base) (hb6 : base ≤ 6000) : CT l g yX7_read cX7_read 5 (some .int) (RM 4 0 0) [.ref (sh.2.2 0)] sh N (QI g (fun r sh1 N1 => sh1 = sh ∧ r = (mReadR (N 37) n (N 0 48)).1 ∧ ∃ ws out, RIN N1 N base ws out ∧ ((mReadR (N 37) n (N 0 48)).1 = -1 → out = (mReadR (N 37) n (N 0 48)).2))) := by
  refine ent hg (by decide +kernel) (Nat.le_of_ble_eq_true rfl) ?_
  intro p e s m args below meth c C hname
  generalize hRES : mReadR (N 37) n (N 0 48) = RES
  obtain ⟨N0, hN0⟩ : ∃ N0 : WNm, N0 = N := ⟨_, rfl⟩
  have hT0 : N0 0 37 = nI n := by rw [hN0]; exact hT
  have key : ∀ (f : Nat) (N : WNm) (i pp : Nat) (wants mn : Bool) (ws : List Int32) (out : List (Int32 × Int32)), RIN N N0 base ws out → N 0 45 = nI i → N 0 47 = nI pp → N 0 49 = -1 → pp ≤ i → i ≤ n → (¬ N 0 46 = 0 → pp < i) → ws.length + out.length ≤ pp → n - pp < f → sy (N0 37) n f i (N 0 46) (N 0 47) (N 0 48) wants mn ws out = RES → J p l e (RM 4 0 0) s m args below meth c (MQ below (QI g (fun r sh1 N1 => sh1 = sh ∧ r = RES.1 ∧ ∃ ws out, RIN N1 N0 base ws out ∧ (RES.1 = -1 → out = RES.2))) args s 0 0 g.A) g 5 sh N 0 0 38 [some (.ref (sh.2.2 0)), some (.int (bI wants)), some (.int (bI mn)), some (.int 1), none] [] := by
    intro f
    induction f with
    | zero => intro N i pp wants mn ws out _ _ _ _ _ _ _ _ h; exact absurd h (Nat.not_lt_zero _)
    | succ f ih =>
      intro N i pp wants mn ws out hR h45 h47 h49 hpi hin htk hlen hf hres
      have h37 : N 37 = N0 37 := hR.2.2.2.2.1 37 (by decide) (by decide) (by decide) (by decide)
      have h037 : N 0 37 = nI n := by rw [hR.2.2.2.2.2.1 37 (by decide) (by decide) (by decide) (by decide) (by decide) (by decide) (by decide)]; exact hT0
      have nxt : ∀ (N1 : WNm) (w1 m1 : Bool) (ws1 : List Int32) (out1 : List (Int32 × Int32)), RIN N1 N0 base ws1 out1 → N1 0 49 = -1 → N1 37 = N0 37 → N1 0 48 = N 0 48 → pp < i → ws1.length + out1.length ≤ pp + 1 → sy (N0 37) n f (mTok (N0 37) n i (N 0 48)).2.2.1 (mTok (N0 37) n i (N 0 48)).1 (nI (mTok (N0 37) n i (N 0 48)).2.1) (mTok (N0 37) n i (N 0 48)).2.2.2 w1 m1 ws1 out1 = RES → J p l e (RM 4 0 0) s m args below meth c (MQ below (QI g (fun r sh1 N1 => sh1 = sh ∧ r = RES.1 ∧ ∃ ws out, RIN N1 N0 base ws out ∧ (RES.1 = -1 → out = RES.2))) args s 0 0 g.A) g 5 sh (mAdv N1 n i) 0 0 38 [some (.ref (sh.2.2 0)), some (.int (bI w1)), some (.int (bI m1)), some (.int 1), none] [] := by
        intro N1 w1 m1 ws1 out1 hR1 e49 e37 e48 hlt hl1 hs
        have ht := mTok_at (N0 37) n i (N 0 48) hin
        unfold mAdv
        rw [e37, e48]
        refine ih (mTokN N1 (mTok (N0 37) n i (N 0 48))) (mTok (N0 37) n i (N 0 48)).2.2.1 (mTok (N0 37) n i (N 0 48)).2.1 w1 m1 ws1 out1 (hR1.tok _) rfl rfl e49 ht.2.1 ht.2.2.1 ht.2.2.2 (by omega) (by omega) hs
      have fault : ∀ {N1 : WNm} {ws1 : List Int32} {out1 : List (Int32 × Int32)}, RES = (N 0 47, []) → RIN N1 N0 base ws1 out1 → (N 0 47 = RES.1 ∧ ∃ ws out, RIN N1 N0 base ws out ∧ (RES.1 = -1 → out = RES.2)) := by
        intro N1 ws1 out1 er h1
        rw [er]
        exact ⟨rfl, ws1, out1, h1, fun z => absurd z (by rw [h47]; exact nI_m1 (by omega))⟩
      cases wants with
      | true =>
        have finO : actW (N 0 46) mn = 1 → J p l e (RM 4 0 0) s m args below meth c (MQ below (QI g (fun r sh1 N1 => sh1 = sh ∧ r = RES.1 ∧ ∃ ws out, RIN N1 N0 base ws out ∧ (RES.1 = -1 → out = RES.2))) args s 0 0 g.A) g 5 sh N 0 0 83 [some (.ref (sh.2.2 0)), some (.int (bI true)), some (.int (bI mn)), some (.int 1), none] [] := by
          intro ha
          rw [sy, if_pos ha] at hres
          have hlt : pp < i := htk (fun z => by rw [z] at ha; exact absurd ha (by unfold actW; cases mn <;> decide))
          have eo : mOpened N ws.length = opn ws := by rw [mOpened_pile, hR.2.1]
          refine j_aload_n C dX7_read_83 rfl ?_
          refine j_callV0I C ml_X7_262 dX7_read_84 (cM_opened hg M (n := ws.length) hR.1 (by omega)) ⟨by rw [M.c]; decide, by rw [M.c]; rfl⟩ ⟨Nat.le_of_ble_eq_true rfl, Nat.le_of_ble_eq_true rfl⟩ (Nat.le_of_ble_eq_true rfl) ⟨rfl, rfl⟩ ⟨Nat.zero_le _, Nat.zero_le _⟩ ?_
          rw [eo]
          refine j_bipush C dX7_read_87 (v := 12) (by decide) ?_
          refine j_icmp_ne (tgt := 97) C dX7_read_89 (by decide) (fun h89 => ?_) (fun h89 => ?_)
          · skip
            rw [if_neg h89] at hres
            refine j_aload_n C dX7_read_97 rfl ?_
            refine j_getR (j := 51) C fl_X7_117 dX7_read_98 (M.c) rfl (M.r50) ?_
            refine j_aload_n C dX7_read_101 rfl ?_
            refine j_getI C fl_X7_243 dX7_read_102 (M.c) rfl ?_
            rw [hR.1]
            refine j_aload_n C dX7_read_105 rfl ?_
            refine j_getI C fl_X7_184 dX7_read_106 (M.c) rfl ?_
            refine j_bipush C dX7_read_109 (v := 51) (by decide) ?_
            refine j_icmp_ne (tgt := 119) C dX7_read_111 (by decide) (fun h111 => ?_) (fun h111 => ?_)
            · skip
              refine j_aload_n C dX7_read_119 rfl ?_
              refine j_getI C fl_X7_184 dX7_read_120 (M.c) rfl ?_
              refine j_iastN C (M.t51) (⟨by omega, by decide⟩) dX7_read_123 ?_
              refine j_aload_n C dX7_read_124 rfl ?_
              refine j_dup C dX7_read_125 rfl ?_
              refine j_getI C fl_X7_243 dX7_read_126 (M.c) rfl ?_
              rw [show u2 N 51 ws.length _ 0 51 = nI ws.length from hR.1]
              refine j_iconst C dX7_read_129 (v := 1) (by decide) ?_
              refine j_iadd C dX7_read_130 ?_
              rw [nI_1]
              refine j_putI C fl_X7_243 dX7_read_131 (M.c) rfl rfl rfl rfl ?_
              refine j_aload_n C dX7_read_134 rfl ?_
              refine j_getI C fl_X7_184 dX7_read_135 (M.c) rfl ?_
              refine j_bipush C dX7_read_138 (v := 51) (by decide) ?_
              refine j_icmp_eq (tgt := 147) C dX7_read_140 (by decide) (fun h140 => ?_) (fun h140 => ?_)
              · skip
                refine j_iconst C dX7_read_147 (v := 0) (by decide) ?_
                refine j_istore_n C dX7_read_148 (by decide) rfl ?_
                refine j_aload_n C dX7_read_149 rfl ?_
                refine j_callV0V C ml_X7_259 dX7_read_150 (cM_advance hg M (n := n) (i0 := i) h037 hn h45 hin) ⟨by rw [M.c]; decide, by rw [M.c]; rfl⟩ ⟨Nat.le_of_ble_eq_true rfl, Nat.le_of_ble_eq_true rfl⟩ (Nat.le_of_ble_eq_true rfl) ⟨rfl, rfl⟩ ⟨Nat.zero_le _, Nat.zero_le _⟩ ?_
                refine j_goto (tgt := 38) C dX7_read_153 (by decide) ?_
                exact absurd (show N 0 46 = 51 from h140) h111
              · skip
                refine j_iconst C dX7_read_143 (v := 1) (by decide) ?_
                refine j_goto (tgt := 148) C dX7_read_144 (by decide) ?_
                refine j_istore_n C dX7_read_148 (by decide) rfl ?_
                refine j_aload_n C dX7_read_149 rfl ?_
                refine j_callV0V C ml_X7_259 dX7_read_150 (cM_advance hg M (n := n) (i0 := i) h037 hn h45 hin) ⟨by rw [M.c]; decide, by rw [M.c]; rfl⟩ ⟨Nat.le_of_ble_eq_true rfl, Nat.le_of_ble_eq_true rfl⟩ (Nat.le_of_ble_eq_true rfl) ⟨rfl, rfl⟩ ⟨Nat.zero_le _, Nat.zero_le _⟩ ?_
                refine j_goto (tgt := 38) C dX7_read_153 (by decide) ?_
                rw [if_neg (show ¬ N 0 46 = 51 from h111)] at hres
                exact nxt _ true true (N 0 46 :: ws) out (hR.push _) h49 h37 rfl hlt (by rw [List.length_cons]; omega) hres
            · replace h111 := Decidable.not_not.mp h111
              refine j_bipush C dX7_read_114 (v := 70) (by decide) ?_
              refine j_goto (tgt := 123) C dX7_read_116 (by decide) ?_
              refine j_iastN C (M.t51) (⟨by omega, by decide⟩) dX7_read_123 ?_
              refine j_aload_n C dX7_read_124 rfl ?_
              refine j_dup C dX7_read_125 rfl ?_
              refine j_getI C fl_X7_243 dX7_read_126 (M.c) rfl ?_
              rw [show u2 N 51 ws.length _ 0 51 = nI ws.length from hR.1]
              refine j_iconst C dX7_read_129 (v := 1) (by decide) ?_
              refine j_iadd C dX7_read_130 ?_
              rw [nI_1]
              refine j_putI C fl_X7_243 dX7_read_131 (M.c) rfl rfl rfl rfl ?_
              refine j_aload_n C dX7_read_134 rfl ?_
              refine j_getI C fl_X7_184 dX7_read_135 (M.c) rfl ?_
              refine j_bipush C dX7_read_138 (v := 51) (by decide) ?_
              refine j_icmp_eq (tgt := 147) C dX7_read_140 (by decide) (fun h140 => ?_) (fun h140 => ?_)
              · skip
                refine j_iconst C dX7_read_147 (v := 0) (by decide) ?_
                refine j_istore_n C dX7_read_148 (by decide) rfl ?_
                refine j_aload_n C dX7_read_149 rfl ?_
                refine j_callV0V C ml_X7_259 dX7_read_150 (cM_advance hg M (n := n) (i0 := i) h037 hn h45 hin) ⟨by rw [M.c]; decide, by rw [M.c]; rfl⟩ ⟨Nat.le_of_ble_eq_true rfl, Nat.le_of_ble_eq_true rfl⟩ (Nat.le_of_ble_eq_true rfl) ⟨rfl, rfl⟩ ⟨Nat.zero_le _, Nat.zero_le _⟩ ?_
                refine j_goto (tgt := 38) C dX7_read_153 (by decide) ?_
                rw [if_pos (show N 0 46 = 51 from h111)] at hres
                exact nxt _ true false (70 :: ws) out (hR.push 70) h49 h37 rfl hlt (by rw [List.length_cons]; omega) hres
              · skip
                refine j_iconst C dX7_read_143 (v := 1) (by decide) ?_
                refine j_goto (tgt := 148) C dX7_read_144 (by decide) ?_
                refine j_istore_n C dX7_read_148 (by decide) rfl ?_
                refine j_aload_n C dX7_read_149 rfl ?_
                refine j_callV0V C ml_X7_259 dX7_read_150 (cM_advance hg M (n := n) (i0 := i) h037 hn h45 hin) ⟨by rw [M.c]; decide, by rw [M.c]; rfl⟩ ⟨Nat.le_of_ble_eq_true rfl, Nat.le_of_ble_eq_true rfl⟩ (Nat.le_of_ble_eq_true rfl) ⟨rfl, rfl⟩ ⟨Nat.zero_le _, Nat.zero_le _⟩ ?_
                refine j_goto (tgt := 38) C dX7_read_153 (by decide) ?_
                exact absurd (show N 0 46 = 51 from h111) h140
          · replace h89 := Decidable.not_not.mp h89
            refine j_aload_n C dX7_read_92 rfl ?_
            refine j_getI C fl_X7_181 dX7_read_93 (M.c) rfl ?_
            exact j_iret C dX7_read_96 rfl ⟨rfl, fault (by rw [← hres, if_pos h89]) hR⟩
        have finL : actW (N 0 46) mn = 2 → J p l e (RM 4 0 0) s m args below meth c (MQ below (QI g (fun r sh1 N1 => sh1 = sh ∧ r = RES.1 ∧ ∃ ws out, RIN N1 N0 base ws out ∧ (RES.1 = -1 → out = RES.2))) args s 0 0 g.A) g 5 sh N 0 0 178 [some (.ref (sh.2.2 0)), some (.int (bI true)), some (.int (bI mn)), some (.int 1), none] [] := by
          intro ha
          rw [sy, if_neg (by rw [ha]; decide), if_pos ha] at hres
          have hlt : pp < i := htk (fun z => by rw [z] at ha; exact absurd ha (by unfold actW; cases mn <;> decide))
          refine j_aload_n C dX7_read_178 rfl ?_
          refine j_aload_n C dX7_read_179 rfl ?_
          refine j_getI C fl_X7_184 dX7_read_180 (M.c) rfl ?_
          refine j_aload_n C dX7_read_183 rfl ?_
          refine j_getI C fl_X7_201 dX7_read_184 (M.c) rfl ?_
          refine j_callV2V C ml_X7_249 dX7_read_187 (cM_lay hg M (N := N) (t := base + out.length) hR.2.2.1 (by omega) _ _) ⟨by rw [M.c]; decide, by rw [M.c]; rfl⟩ ⟨Nat.le_of_ble_eq_true rfl, Nat.le_of_ble_eq_true rfl⟩ (Nat.le_of_ble_eq_true rfl) ⟨rfl, rfl⟩ ⟨Nat.zero_le _, Nat.zero_le _⟩ ?_
          refine j_iconst C dX7_read_190 (v := 0) (by decide) ?_
          refine j_istore_n C dX7_read_191 (by decide) rfl ?_
          refine j_aload_n C dX7_read_192 rfl ?_
          refine j_callV0V C ml_X7_259 dX7_read_193 (cM_advance hg M (N := mLay N (N 0 46) (N 0 48) (base + out.length)) (n := n) (i0 := i) h037 hn h45 hin) ⟨by rw [M.c]; decide, by rw [M.c]; rfl⟩ ⟨Nat.le_of_ble_eq_true rfl, Nat.le_of_ble_eq_true rfl⟩ (Nat.le_of_ble_eq_true rfl) ⟨rfl, rfl⟩ ⟨Nat.zero_le _, Nat.zero_le _⟩ ?_
          refine j_goto (tgt := 38) C dX7_read_196 (by decide) ?_
          exact nxt _ false mn ws ((N 0 46, N 0 48) :: out) (hR.lay _ _) h49 h37 rfl hlt (by rw [List.length_cons]; omega) hres
        have finX : actW (N 0 46) mn = (if N 0 46 = 1 then 2 else (if 100 ≤ N 0 46 then 2 else 0)) → J p l e (RM 4 0 0) s m args below meth c (MQ below (QI g (fun r sh1 N1 => sh1 = sh ∧ r = RES.1 ∧ ∃ ws out, RIN N1 N0 base ws out ∧ (RES.1 = -1 → out = RES.2))) args s 0 0 g.A) g 5 sh N 0 0 156 [some (.ref (sh.2.2 0)), some (.int (bI true)), some (.int (bI mn)), some (.int 1), none] [] := by
          intro ha
          refine j_aload_n C dX7_read_156 rfl ?_
          refine j_getI C fl_X7_184 dX7_read_157 (M.c) rfl ?_
          refine j_iconst C dX7_read_160 (v := 1) (by decide) ?_
          refine j_icmp_eq (tgt := 178) C dX7_read_161 (by decide) (fun h161 => ?_) (fun h161 => ?_)
          · skip
            exact finL (by rw [ha, if_pos h161])
          · skip
            refine j_aload_n C dX7_read_164 rfl ?_
            refine j_getI C fl_X7_184 dX7_read_165 (M.c) rfl ?_
            refine j_bipush C dX7_read_168 (v := 100) (by decide) ?_
            refine j_icmp_ge (tgt := 178) C dX7_read_170 (by decide) (fun h170 => ?_) (fun h170 => ?_)
            · skip
              exact finL (by rw [ha, if_neg h161, if_pos h170])
            · skip
              refine j_aload_n C dX7_read_173 rfl ?_
              refine j_getI C fl_X7_181 dX7_read_174 (M.c) rfl ?_
              have h0 : actW (N 0 46) mn = 0 := by rw [ha, if_neg h161, if_neg h170]
              exact j_iret C dX7_read_177 rfl ⟨rfl, fault (by rw [← hres, sy, if_neg (by rw [h0]; decide), if_neg (by rw [h0]; decide)]) hR⟩
        refine j_iload_n C dX7_read_38 rfl ?_
        refine j_if_eq (tgt := 414) C dX7_read_39 (by decide) (fun h39 => ?_) (fun h39 => ?_)
        · exact absurd h39 (by decide)
        · skip
          refine j_aload_n C dX7_read_42 rfl ?_
          refine j_getI C fl_X7_253 dX7_read_43 (M.c) rfl ?_
          refine j_if_ge (tgt := 414) C dX7_read_46 (by decide) (fun h46 => ?_) (fun h46 => ?_)
          · skip
            exact absurd h46 (by rw [h49]; decide)
          · skip
            refine j_iload_n C dX7_read_49 rfl ?_
            refine j_if_eq (tgt := 199) C dX7_read_50 (by decide) (fun h50 => ?_) (fun h50 => ?_)
            · exact absurd h50 (by decide)
            · skip
              refine j_aload_n C dX7_read_53 rfl ?_
              refine j_getI C fl_X7_184 dX7_read_54 (M.c) rfl ?_
              refine j_bipush C dX7_read_57 (v := 30) (by decide) ?_
              refine j_icmp_ne (tgt := 66) C dX7_read_59 (by decide) (fun h59 => ?_) (fun h59 => ?_)
              · skip
                refine j_aload_n C dX7_read_66 rfl ?_
                refine j_getI C fl_X7_184 dX7_read_67 (M.c) rfl ?_
                refine j_bipush C dX7_read_70 (v := 51) (by decide) ?_
                refine j_icmp_eq (tgt := 83) C dX7_read_72 (by decide) (fun h72 => ?_) (fun h72 => ?_)
                · skip
                  exact finO (by rw [actW, if_neg h59, if_pos h72])
                · skip
                  refine j_aload_n C dX7_read_75 rfl ?_
                  refine j_getI C fl_X7_184 dX7_read_76 (M.c) rfl ?_
                  refine j_iconst C dX7_read_79 (v := 5) (by decide) ?_
                  refine j_icmp_ne (tgt := 156) C dX7_read_80 (by decide) (fun h80 => ?_) (fun h80 => ?_)
                  · skip
                    exact finX (by rw [actW, if_neg h59, if_neg h72, if_neg h80])
                  · replace h80 := Decidable.not_not.mp h80
                    exact finO (by rw [actW, if_neg h59, if_neg h72, if_pos h80])
              · replace h59 := Decidable.not_not.mp h59
                refine j_iload_n C dX7_read_62 rfl ?_
                refine j_if_ne (tgt := 83) C dX7_read_63 (by decide) (fun h63 => ?_) (fun h63 => ?_)
                · skip
                  exact finO (by rw [actW, if_pos h59, if_neg h63])
                · replace h63 := Decidable.not_not.mp h63
                  refine j_aload_n C dX7_read_66 rfl ?_
                  refine j_getI C fl_X7_184 dX7_read_67 (M.c) rfl ?_
                  refine j_bipush C dX7_read_70 (v := 51) (by decide) ?_
                  refine j_icmp_eq (tgt := 83) C dX7_read_72 (by decide) (fun h72 => ?_) (fun h72 => ?_)
                  · skip
                    exact absurd (h59.symm.trans h72) (by decide)
                  · skip
                    refine j_aload_n C dX7_read_75 rfl ?_
                    refine j_getI C fl_X7_184 dX7_read_76 (M.c) rfl ?_
                    refine j_iconst C dX7_read_79 (v := 5) (by decide) ?_
                    refine j_icmp_ne (tgt := 156) C dX7_read_80 (by decide) (fun h80 => ?_) (fun h80 => ?_)
                    · skip
                      exact finX (by rw [actW, if_pos h59, if_pos h63, h59]; decide)
                    · replace h80 := Decidable.not_not.mp h80
                      exact absurd (h59.symm.trans h80) (by decide)
      | false =>
        have finB : ¬ N 0 46 = 6 → ¬ N 0 46 = 0 → ¬ N 0 46 < 10 → ¬ 70 ≤ N 0 46 → ¬ N 0 46 = 30 → J p l e (RM 4 0 0) s m args below meth c (MQ below (QI g (fun r sh1 N1 => sh1 = sh ∧ r = RES.1 ∧ ∃ ws out, RIN N1 N0 base ws out ∧ (RES.1 = -1 → out = RES.2))) args s 0 0 g.A) g 5 sh N 0 0 302 [some (.ref (sh.2.2 0)), some (.int (bI false)), some (.int (bI mn)), some (.int 1), none] [] := by
          intro h205 h246 h276 h285 h294
          rw [sy, if_neg h205, if_neg h246, if_neg h276, if_neg h285, if_neg h294] at hres
          have hlt : pp < i := htk h246
          by_cases hq4 : mTight (N 0 46) = 4
          · rw [if_pos hq4] at hres
            refine j_aload_n C dX7_read_302 rfl ?_
            refine j_getI C fl_X7_184 dX7_read_303 (M.c) rfl ?_
            refine j_callS1I C ml_X7_246 dX7_read_306 (cM_tight hg _) ⟨Nat.le_of_ble_eq_true rfl, Nat.le_of_ble_eq_true rfl⟩ (Nat.le_of_ble_eq_true rfl) ⟨rfl, rfl⟩ ⟨Nat.zero_le _, Nat.zero_le _⟩ ?_
            refine j_iconst C dX7_read_309 (v := 4) (by decide) ?_
            refine j_icmp_ne (tgt := 317) C dX7_read_310 (by decide) (fun h310 => ?_) (fun h310 => ?_)
            · skip
              exact absurd hq4 h310
            · replace h310 := Decidable.not_not.mp h310
              refine j_iconst C dX7_read_313 (v := 1) (by decide) ?_
              refine j_goto (tgt := 318) C dX7_read_314 (by decide) ?_
              refine j_istore C dX7_read_318 (by decide) rfl ?_
              refine j_aload_n C dX7_read_320 rfl ?_
              refine j_iload C dX7_read_321 rfl ?_
              refine j_if_eq (tgt := 330) C dX7_read_323 (by decide) (fun h323 => ?_) (fun h323 => ?_)
              · exact absurd h323 (by decide)
              · skip
                refine j_iconst C dX7_read_326 (v := 5) (by decide) ?_
                refine j_goto (tgt := 337) C dX7_read_327 (by decide) ?_
                refine j_callV1V C ml_X7_266 dX7_read_337 (cM_done hg M (N := N) (wn := ws.length) (t := base + out.length) hR.1 (by omega) hR.2.2.1 (by omega) _) ⟨by rw [M.c]; decide, by rw [M.c]; rfl⟩ ⟨Nat.le_of_ble_eq_true rfl, Nat.le_of_ble_eq_true rfl⟩ (Nat.le_of_ble_eq_true rfl) ⟨rfl, rfl⟩ ⟨Nat.zero_le _, Nat.zero_le _⟩ ?_
                have hD := RIN.done 5 ws out N (by omega) hR
                have hDl := doneL_len 5 ws out
                rcases hl : doneL 5 ws out with ⟨ws1, out1⟩
                rw [hl] at hD hDl
                simp only at hD hDl
                obtain ⟨hD, hD0⟩ := hD
                have e37 : (mDone N 5 ws.length).2 37 = N0 37 := hD.2.2.2.2.1 37 (by decide) (by decide) (by decide) (by decide)
                have e46 := hD0 46 (by decide) (by decide)
                have e47 := hD0 47 (by decide) (by decide)
                have e48 := hD0 48 (by decide) (by decide)
                have e49 := hD0 49 (by decide) (by decide)
                have e45 := hD0 45 (by decide) (by decide)
                have e037 := hD0 37 (by decide) (by decide)
                generalize (mDone N 5 ws.length).2 = N1 at hD hD0 e37 e45 e46 e47 e48 e49 e037 ⊢
                rw [hl] at hres
                simp only at hres
                refine j_iload C dX7_read_340 rfl ?_
                refine j_if_eq (tgt := 358) C dX7_read_342 (by decide) (fun h342 => ?_) (fun h342 => ?_)
                · exact absurd h342 (by decide)
                · skip
                  refine j_aload_n C dX7_read_345 rfl ?_
                  refine j_iconst C dX7_read_346 (v := 4) (by decide) ?_
                  refine j_callV1I C ml_X7_270 dX7_read_347 (cM_isWaiting hg M (N := N1) (wn := ws1.length) hD.1 (by omega) 4) ⟨by rw [M.c]; decide, by rw [M.c]; rfl⟩ ⟨Nat.le_of_ble_eq_true rfl, Nat.le_of_ble_eq_true rfl⟩ (Nat.le_of_ble_eq_true rfl) ⟨rfl, rfl⟩ ⟨Nat.zero_le _, Nat.zero_le _⟩ ?_
                  refine j_if_eq (tgt := 358) C dX7_read_350 (by decide) (fun h350 => ?_) (fun h350 => ?_)
                  · replace h350 := pb_eq0.mp h350
                    rw [if_neg (fun z => h350 (hD.wait.mpr z))] at hres
                    refine j_aload_n C dX7_read_358 rfl ?_
                    refine j_getR (j := 51) C fl_X7_117 dX7_read_359 (M.c) rfl (M.r50) ?_
                    refine j_aload_n C dX7_read_362 rfl ?_
                    refine j_getI C fl_X7_243 dX7_read_363 (M.c) rfl ?_
                    rw [hD.1]
                    refine j_aload_n C dX7_read_366 rfl ?_
                    refine j_getI C fl_X7_184 dX7_read_367 (M.c) rfl ?_
                    rw [e46]
                    refine j_iastN C (M.t51) (⟨by omega, by decide⟩) dX7_read_370 ?_
                    refine j_aload_n C dX7_read_371 rfl ?_
                    refine j_dup C dX7_read_372 rfl ?_
                    refine j_getI C fl_X7_243 dX7_read_373 (M.c) rfl ?_
                    rw [show u2 N1 51 ws1.length _ 0 51 = nI ws1.length from hD.1]
                    refine j_iconst C dX7_read_376 (v := 1) (by decide) ?_
                    refine j_iadd C dX7_read_377 ?_
                    rw [nI_1]
                    refine j_putI C fl_X7_243 dX7_read_378 (M.c) rfl rfl rfl rfl ?_
                    refine j_iconst C dX7_read_381 (v := 1) (by decide) ?_
                    refine j_istore_n C dX7_read_382 (by decide) rfl ?_
                    refine j_aload_n C dX7_read_383 rfl ?_
                    refine j_getI C fl_X7_184 dX7_read_384 (M.c) rfl ?_
                    refine j_bipush C dX7_read_387 (v := 10) (by decide) ?_
                    refine j_icmp_eq (tgt := 401) C dX7_read_389 (by decide) (fun h389 => ?_) (fun h389 => ?_)
                    · skip
                      exact absurd hq4 (by rw [← e46, show N1 0 46 = 10 from h389]; decide)
                    · skip
                      refine j_aload_n C dX7_read_392 rfl ?_
                      refine j_getI C fl_X7_184 dX7_read_393 (M.c) rfl ?_
                      refine j_bipush C dX7_read_396 (v := 20) (by decide) ?_
                      refine j_icmp_ne (tgt := 405) C dX7_read_398 (by decide) (fun h398 => ?_) (fun h398 => ?_)
                      · skip
                        refine j_iconst C dX7_read_405 (v := 0) (by decide) ?_
                        refine j_istore_n C dX7_read_406 (by decide) rfl ?_
                        refine j_aload_n C dX7_read_407 rfl ?_
                        refine j_callV0V C ml_X7_259 dX7_read_408 (cM_advance hg M (N := u2 (u2 N1 51 ws1.length (N 0 46)) 0 51 (nI (ws1.length + 1))) (n := n) (i0 := i) (e037.trans h037) hn (e45.trans h45) hin) ⟨by rw [M.c]; decide, by rw [M.c]; rfl⟩ ⟨Nat.le_of_ble_eq_true rfl, Nat.le_of_ble_eq_true rfl⟩ (Nat.le_of_ble_eq_true rfl) ⟨rfl, rfl⟩ ⟨Nat.zero_le _, Nat.zero_le _⟩ ?_
                        refine j_goto (tgt := 38) C dX7_read_411 (by decide) ?_
                        exact J.le (lv1 := [some (.ref (sh.2.2 0)), some (.int (bI true)), some (.int (bI false)), some (.int 1), none]) ⟨rfl, rfl, rfl, rfl, trivial⟩ (nxt _ true false (N 0 46 :: ws1) out1 (hD.push _) (e49.trans h49) e37 e48 hlt (by rw [List.length_cons]; omega) hres)
                      · replace h398 := Decidable.not_not.mp h398
                        exact absurd hq4 (by rw [← e46, show N1 0 46 = 20 from h398]; decide)
                  · replace h350 := pb_ne0.mp h350
                    refine j_aload_n C dX7_read_353 rfl ?_
                    refine j_getI C fl_X7_181 dX7_read_354 (M.c) rfl ?_
                    rw [e47]
                    exact j_iret C dX7_read_357 rfl ⟨rfl, fault (by rw [← hres, if_pos (hD.wait.mp h350)]) hD⟩
          · rw [if_neg hq4] at hres
            refine j_aload_n C dX7_read_302 rfl ?_
            refine j_getI C fl_X7_184 dX7_read_303 (M.c) rfl ?_
            refine j_callS1I C ml_X7_246 dX7_read_306 (cM_tight hg _) ⟨Nat.le_of_ble_eq_true rfl, Nat.le_of_ble_eq_true rfl⟩ (Nat.le_of_ble_eq_true rfl) ⟨rfl, rfl⟩ ⟨Nat.zero_le _, Nat.zero_le _⟩ ?_
            refine j_iconst C dX7_read_309 (v := 4) (by decide) ?_
            refine j_icmp_ne (tgt := 317) C dX7_read_310 (by decide) (fun h310 => ?_) (fun h310 => ?_)
            · skip
              refine j_iconst C dX7_read_317 (v := 0) (by decide) ?_
              refine j_istore C dX7_read_318 (by decide) rfl ?_
              refine j_aload_n C dX7_read_320 rfl ?_
              refine j_iload C dX7_read_321 rfl ?_
              refine j_if_eq (tgt := 330) C dX7_read_323 (by decide) (fun h323 => ?_) (fun h323 => ?_)
              · skip
                refine j_aload_n C dX7_read_330 rfl ?_
                refine j_getI C fl_X7_184 dX7_read_331 (M.c) rfl ?_
                refine j_callS1I C ml_X7_246 dX7_read_334 (cM_tight hg _) ⟨Nat.le_of_ble_eq_true rfl, Nat.le_of_ble_eq_true rfl⟩ (Nat.le_of_ble_eq_true rfl) ⟨rfl, rfl⟩ ⟨Nat.zero_le _, Nat.zero_le _⟩ ?_
                refine j_callV1V C ml_X7_266 dX7_read_337 (cM_done hg M (N := N) (wn := ws.length) (t := base + out.length) hR.1 (by omega) hR.2.2.1 (by omega) _) ⟨by rw [M.c]; decide, by rw [M.c]; rfl⟩ ⟨Nat.le_of_ble_eq_true rfl, Nat.le_of_ble_eq_true rfl⟩ (Nat.le_of_ble_eq_true rfl) ⟨rfl, rfl⟩ ⟨Nat.zero_le _, Nat.zero_le _⟩ ?_
                have hD := RIN.done (mTight (N 0 46)) ws out N (by omega) hR
                have hDl := doneL_len (mTight (N 0 46)) ws out
                rcases hl : doneL (mTight (N 0 46)) ws out with ⟨ws1, out1⟩
                rw [hl] at hD hDl
                simp only at hD hDl
                obtain ⟨hD, hD0⟩ := hD
                have e37 : (mDone N (mTight (N 0 46)) ws.length).2 37 = N0 37 := hD.2.2.2.2.1 37 (by decide) (by decide) (by decide) (by decide)
                have e46 := hD0 46 (by decide) (by decide)
                have e47 := hD0 47 (by decide) (by decide)
                have e48 := hD0 48 (by decide) (by decide)
                have e49 := hD0 49 (by decide) (by decide)
                have e45 := hD0 45 (by decide) (by decide)
                have e037 := hD0 37 (by decide) (by decide)
                generalize (mDone N (mTight (N 0 46)) ws.length).2 = N1 at hD hD0 e37 e45 e46 e47 e48 e49 e037 ⊢
                rw [hl] at hres
                simp only at hres
                refine j_iload C dX7_read_340 rfl ?_
                refine j_if_eq (tgt := 358) C dX7_read_342 (by decide) (fun h342 => ?_) (fun h342 => ?_)
                · skip
                  refine j_aload_n C dX7_read_358 rfl ?_
                  refine j_getR (j := 51) C fl_X7_117 dX7_read_359 (M.c) rfl (M.r50) ?_
                  refine j_aload_n C dX7_read_362 rfl ?_
                  refine j_getI C fl_X7_243 dX7_read_363 (M.c) rfl ?_
                  rw [hD.1]
                  refine j_aload_n C dX7_read_366 rfl ?_
                  refine j_getI C fl_X7_184 dX7_read_367 (M.c) rfl ?_
                  rw [e46]
                  refine j_iastN C (M.t51) (⟨by omega, by decide⟩) dX7_read_370 ?_
                  refine j_aload_n C dX7_read_371 rfl ?_
                  refine j_dup C dX7_read_372 rfl ?_
                  refine j_getI C fl_X7_243 dX7_read_373 (M.c) rfl ?_
                  rw [show u2 N1 51 ws1.length _ 0 51 = nI ws1.length from hD.1]
                  refine j_iconst C dX7_read_376 (v := 1) (by decide) ?_
                  refine j_iadd C dX7_read_377 ?_
                  rw [nI_1]
                  refine j_putI C fl_X7_243 dX7_read_378 (M.c) rfl rfl rfl rfl ?_
                  refine j_iconst C dX7_read_381 (v := 1) (by decide) ?_
                  refine j_istore_n C dX7_read_382 (by decide) rfl ?_
                  refine j_aload_n C dX7_read_383 rfl ?_
                  refine j_getI C fl_X7_184 dX7_read_384 (M.c) rfl ?_
                  refine j_bipush C dX7_read_387 (v := 10) (by decide) ?_
                  refine j_icmp_eq (tgt := 401) C dX7_read_389 (by decide) (fun h389 => ?_) (fun h389 => ?_)
                  · skip
                    refine j_iconst C dX7_read_401 (v := 1) (by decide) ?_
                    refine j_goto (tgt := 406) C dX7_read_402 (by decide) ?_
                    refine j_istore_n C dX7_read_406 (by decide) rfl ?_
                    refine j_aload_n C dX7_read_407 rfl ?_
                    refine j_callV0V C ml_X7_259 dX7_read_408 (cM_advance hg M (N := u2 (u2 N1 51 ws1.length (N 0 46)) 0 51 (nI (ws1.length + 1))) (n := n) (i0 := i) (e037.trans h037) hn (e45.trans h45) hin) ⟨by rw [M.c]; decide, by rw [M.c]; rfl⟩ ⟨Nat.le_of_ble_eq_true rfl, Nat.le_of_ble_eq_true rfl⟩ (Nat.le_of_ble_eq_true rfl) ⟨rfl, rfl⟩ ⟨Nat.zero_le _, Nat.zero_le _⟩ ?_
                    refine j_goto (tgt := 38) C dX7_read_411 (by decide) ?_
                    rw [show decide (N 0 46 = 10 ∨ N 0 46 = 20) = true from decide_eq_true (Or.inl (by rw [← e46]; exact h389))] at hres
                    exact J.le (lv1 := [some (.ref (sh.2.2 0)), some (.int (bI true)), some (.int (bI true)), some (.int 1), none]) ⟨rfl, rfl, rfl, rfl, trivial⟩ (nxt _ true true (N 0 46 :: ws1) out1 (hD.push _) (e49.trans h49) e37 e48 hlt (by rw [List.length_cons]; omega) hres)
                  · skip
                    refine j_aload_n C dX7_read_392 rfl ?_
                    refine j_getI C fl_X7_184 dX7_read_393 (M.c) rfl ?_
                    refine j_bipush C dX7_read_396 (v := 20) (by decide) ?_
                    refine j_icmp_ne (tgt := 405) C dX7_read_398 (by decide) (fun h398 => ?_) (fun h398 => ?_)
                    · skip
                      refine j_iconst C dX7_read_405 (v := 0) (by decide) ?_
                      refine j_istore_n C dX7_read_406 (by decide) rfl ?_
                      refine j_aload_n C dX7_read_407 rfl ?_
                      refine j_callV0V C ml_X7_259 dX7_read_408 (cM_advance hg M (N := u2 (u2 N1 51 ws1.length (N 0 46)) 0 51 (nI (ws1.length + 1))) (n := n) (i0 := i) (e037.trans h037) hn (e45.trans h45) hin) ⟨by rw [M.c]; decide, by rw [M.c]; rfl⟩ ⟨Nat.le_of_ble_eq_true rfl, Nat.le_of_ble_eq_true rfl⟩ (Nat.le_of_ble_eq_true rfl) ⟨rfl, rfl⟩ ⟨Nat.zero_le _, Nat.zero_le _⟩ ?_
                      refine j_goto (tgt := 38) C dX7_read_411 (by decide) ?_
                      rw [show decide (N 0 46 = 10 ∨ N 0 46 = 20) = false from decide_eq_false (by rw [← e46]; exact fun z => z.elim h389 h398)] at hres
                      exact J.le (lv1 := [some (.ref (sh.2.2 0)), some (.int (bI true)), some (.int (bI false)), some (.int 1), none]) ⟨rfl, rfl, rfl, rfl, trivial⟩ (nxt _ true false (N 0 46 :: ws1) out1 (hD.push _) (e49.trans h49) e37 e48 hlt (by rw [List.length_cons]; omega) hres)
                    · replace h398 := Decidable.not_not.mp h398
                      refine j_iconst C dX7_read_401 (v := 1) (by decide) ?_
                      refine j_goto (tgt := 406) C dX7_read_402 (by decide) ?_
                      refine j_istore_n C dX7_read_406 (by decide) rfl ?_
                      refine j_aload_n C dX7_read_407 rfl ?_
                      refine j_callV0V C ml_X7_259 dX7_read_408 (cM_advance hg M (N := u2 (u2 N1 51 ws1.length (N 0 46)) 0 51 (nI (ws1.length + 1))) (n := n) (i0 := i) (e037.trans h037) hn (e45.trans h45) hin) ⟨by rw [M.c]; decide, by rw [M.c]; rfl⟩ ⟨Nat.le_of_ble_eq_true rfl, Nat.le_of_ble_eq_true rfl⟩ (Nat.le_of_ble_eq_true rfl) ⟨rfl, rfl⟩ ⟨Nat.zero_le _, Nat.zero_le _⟩ ?_
                      refine j_goto (tgt := 38) C dX7_read_411 (by decide) ?_
                      rw [show decide (N 0 46 = 10 ∨ N 0 46 = 20) = true from decide_eq_true (Or.inr (by rw [← e46]; exact h398))] at hres
                      exact J.le (lv1 := [some (.ref (sh.2.2 0)), some (.int (bI true)), some (.int (bI true)), some (.int 1), none]) ⟨rfl, rfl, rfl, rfl, trivial⟩ (nxt _ true true (N 0 46 :: ws1) out1 (hD.push _) (e49.trans h49) e37 e48 hlt (by rw [List.length_cons]; omega) hres)
                · exact absurd (by decide) h342
              · exact absurd (by decide) h323
            · replace h310 := Decidable.not_not.mp h310
              exact absurd h310 hq4
        refine j_iload_n C dX7_read_38 rfl ?_
        refine j_if_eq (tgt := 414) C dX7_read_39 (by decide) (fun h39 => ?_) (fun h39 => ?_)
        · exact absurd h39 (by decide)
        · skip
          refine j_aload_n C dX7_read_42 rfl ?_
          refine j_getI C fl_X7_253 dX7_read_43 (M.c) rfl ?_
          refine j_if_ge (tgt := 414) C dX7_read_46 (by decide) (fun h46 => ?_) (fun h46 => ?_)
          · skip
            exact absurd h46 (by rw [h49]; decide)
          · skip
            refine j_iload_n C dX7_read_49 rfl ?_
            refine j_if_eq (tgt := 199) C dX7_read_50 (by decide) (fun h50 => ?_) (fun h50 => ?_)
            · skip
              refine j_aload_n C dX7_read_199 rfl ?_
              refine j_getI C fl_X7_184 dX7_read_200 (M.c) rfl ?_
              refine j_bipush C dX7_read_203 (v := 6) (by decide) ?_
              refine j_icmp_ne (tgt := 242) C dX7_read_205 (by decide) (fun h205 => ?_) (fun h205 => ?_)
              · skip
                refine j_aload_n C dX7_read_242 rfl ?_
                refine j_getI C fl_X7_184 dX7_read_243 (M.c) rfl ?_
                refine j_if_ne (tgt := 270) C dX7_read_246 (by decide) (fun h246 => ?_) (fun h246 => ?_)
                · skip
                  refine j_aload_n C dX7_read_270 rfl ?_
                  refine j_getI C fl_X7_184 dX7_read_271 (M.c) rfl ?_
                  refine j_bipush C dX7_read_274 (v := 10) (by decide) ?_
                  refine j_icmp_lt (tgt := 297) C dX7_read_276 (by decide) (fun h276 => ?_) (fun h276 => ?_)
                  · skip
                    refine j_aload_n C dX7_read_297 rfl ?_
                    refine j_getI C fl_X7_181 dX7_read_298 (M.c) rfl ?_
                    exact j_iret C dX7_read_301 rfl ⟨rfl, fault (by rw [← hres, sy, if_neg h205, if_neg h246, if_pos h276]) hR⟩
                  · skip
                    refine j_aload_n C dX7_read_279 rfl ?_
                    refine j_getI C fl_X7_184 dX7_read_280 (M.c) rfl ?_
                    refine j_bipush C dX7_read_283 (v := 70) (by decide) ?_
                    refine j_icmp_ge (tgt := 297) C dX7_read_285 (by decide) (fun h285 => ?_) (fun h285 => ?_)
                    · skip
                      refine j_aload_n C dX7_read_297 rfl ?_
                      refine j_getI C fl_X7_181 dX7_read_298 (M.c) rfl ?_
                      exact j_iret C dX7_read_301 rfl ⟨rfl, fault (by rw [← hres, sy, if_neg h205, if_neg h246, if_neg h276, if_pos h285]) hR⟩
                    · skip
                      refine j_aload_n C dX7_read_288 rfl ?_
                      refine j_getI C fl_X7_184 dX7_read_289 (M.c) rfl ?_
                      refine j_bipush C dX7_read_292 (v := 30) (by decide) ?_
                      refine j_icmp_ne (tgt := 302) C dX7_read_294 (by decide) (fun h294 => ?_) (fun h294 => ?_)
                      · skip
                        exact finB h205 h246 h276 h285 h294
                      · replace h294 := Decidable.not_not.mp h294
                        refine j_aload_n C dX7_read_297 rfl ?_
                        refine j_getI C fl_X7_181 dX7_read_298 (M.c) rfl ?_
                        exact j_iret C dX7_read_301 rfl ⟨rfl, fault (by rw [← hres, sy, if_neg h205, if_neg h246, if_neg h276, if_neg h285, if_pos h294]) hR⟩
                · replace h246 := Decidable.not_not.mp h246
                  rw [sy, if_neg h205, if_pos h246] at hres
                  refine j_aload_n C dX7_read_249 rfl ?_
                  refine j_iconst C dX7_read_250 (v := 1) (by decide) ?_
                  refine j_callV1V C ml_X7_266 dX7_read_251 (cM_done hg M (N := N) (wn := ws.length) (t := base + out.length) hR.1 (by omega) hR.2.2.1 (by omega) 1) ⟨by rw [M.c]; decide, by rw [M.c]; rfl⟩ ⟨Nat.le_of_ble_eq_true rfl, Nat.le_of_ble_eq_true rfl⟩ (Nat.le_of_ble_eq_true rfl) ⟨rfl, rfl⟩ ⟨Nat.zero_le _, Nat.zero_le _⟩ ?_
                  have hD := RIN.done 1 ws out N (by omega) hR
                  have hDl := doneL_len 1 ws out
                  rcases hl : doneL 1 ws out with ⟨ws1, out1⟩
                  rw [hl] at hD hDl
                  simp only at hD hDl
                  obtain ⟨hD, hD0⟩ := hD
                  have e37 : (mDone N 1 ws.length).2 37 = N0 37 := hD.2.2.2.2.1 37 (by decide) (by decide) (by decide) (by decide)
                  have e46 := hD0 46 (by decide) (by decide)
                  have e47 := hD0 47 (by decide) (by decide)
                  have e48 := hD0 48 (by decide) (by decide)
                  have e49 := hD0 49 (by decide) (by decide)
                  have e45 := hD0 45 (by decide) (by decide)
                  have e037 := hD0 37 (by decide) (by decide)
                  generalize (mDone N 1 ws.length).2 = N1 at hD hD0 e37 e45 e46 e47 e48 e49 e037 ⊢
                  refine j_aload_n C dX7_read_254 rfl ?_
                  refine j_getI C fl_X7_243 dX7_read_255 (M.c) rfl ?_
                  rcases ws1 with _ | ⟨w1, ws1⟩
                  · rw [hl] at hres
                    simp only at hres
                    rw [hD.1]
                    refine j_if_ne (tgt := 265) C dX7_read_258 (by decide) (fun h258 => ?_) (fun h258 => ?_)
                    · skip
                      exact absurd rfl h258
                    · replace h258 := Decidable.not_not.mp h258
                      refine j_iconst C dX7_read_261 (v := (-1)) (by decide) ?_
                      refine j_goto (tgt := 269) C dX7_read_262 (by decide) ?_
                      first | (rw [e47]; exact j_iret C dX7_read_269 rfl ⟨rfl, fault hres.symm hD⟩) | (refine j_iret C dX7_read_269 rfl ⟨rfl, ?_⟩; rw [← hres]; exact ⟨rfl, [], out1, hD, fun _ => rfl⟩)
                  · rw [hl] at hres
                    simp only at hres
                    rw [hD.1]
                    refine j_if_ne (tgt := 265) C dX7_read_258 (by decide) (fun h258 => ?_) (fun h258 => ?_)
                    · skip
                      refine j_aload_n C dX7_read_265 rfl ?_
                      refine j_getI C fl_X7_181 dX7_read_266 (M.c) rfl ?_
                      first | (rw [e47]; exact j_iret C dX7_read_269 rfl ⟨rfl, fault hres.symm hD⟩) | (refine j_iret C dX7_read_269 rfl ⟨rfl, ?_⟩; rw [← hres]; exact ⟨rfl, [], out1, hD, fun _ => rfl⟩)
                    · replace h258 := Decidable.not_not.mp h258
                      exact absurd h258 (nI_ne0 (by rw [List.length_cons]; omega) (by rw [List.length_cons] at *; omega))
              · replace h205 := Decidable.not_not.mp h205
                rw [sy, if_pos h205] at hres
                have hlt : pp < i := htk (fun z => by rw [z] at h205; exact absurd h205 (by decide))
                refine j_aload_n C dX7_read_208 rfl ?_
                refine j_iconst C dX7_read_209 (v := 1) (by decide) ?_
                refine j_callV1V C ml_X7_266 dX7_read_210 (cM_done hg M (N := N) (wn := ws.length) (t := base + out.length) hR.1 (by omega) hR.2.2.1 (by omega) 1) ⟨by rw [M.c]; decide, by rw [M.c]; rfl⟩ ⟨Nat.le_of_ble_eq_true rfl, Nat.le_of_ble_eq_true rfl⟩ (Nat.le_of_ble_eq_true rfl) ⟨rfl, rfl⟩ ⟨Nat.zero_le _, Nat.zero_le _⟩ ?_
                have hD := RIN.done 1 ws out N (by omega) hR
                have hDl := doneL_len 1 ws out
                rcases hl : doneL 1 ws out with ⟨ws1, out1⟩
                rw [hl] at hD hDl
                simp only at hD hDl
                obtain ⟨hD, hD0⟩ := hD
                have e37 : (mDone N 1 ws.length).2 37 = N0 37 := hD.2.2.2.2.1 37 (by decide) (by decide) (by decide) (by decide)
                have e46 := hD0 46 (by decide) (by decide)
                have e47 := hD0 47 (by decide) (by decide)
                have e48 := hD0 48 (by decide) (by decide)
                have e49 := hD0 49 (by decide) (by decide)
                have e45 := hD0 45 (by decide) (by decide)
                have e037 := hD0 37 (by decide) (by decide)
                generalize (mDone N 1 ws.length).2 = N1 at hD hD0 e37 e45 e46 e47 e48 e49 e037 ⊢
                refine j_aload_n C dX7_read_213 rfl ?_
                refine j_getI C fl_X7_243 dX7_read_214 (M.c) rfl ?_
                rcases ws1 with _ | ⟨w1, ws1⟩
                · rw [hl] at hres
                  simp only at hres
                  rw [hD.1]
                  refine j_if_ne (tgt := 225) C dX7_read_217 (by decide) (fun h217 => ?_) (fun h217 => ?_)
                  · skip
                    exact absurd rfl h217
                  · replace h217 := Decidable.not_not.mp h217
                    refine j_aload_n C dX7_read_220 rfl ?_
                    refine j_getI C fl_X7_181 dX7_read_221 (M.c) rfl ?_
                    rw [e47]
                    exact j_iret C dX7_read_224 rfl ⟨rfl, fault hres.symm hD⟩
                · rw [hl] at hres
                  simp only at hres
                  rw [hD.1]
                  refine j_if_ne (tgt := 225) C dX7_read_217 (by decide) (fun h217 => ?_) (fun h217 => ?_)
                  · skip
                    refine j_aload_n C dX7_read_225 rfl ?_
                    refine j_dup C dX7_read_226 rfl ?_
                    refine j_getI C fl_X7_243 dX7_read_227 (M.c) rfl ?_
                    rw [show N1 0 51 = nI (ws1.length + 1) from hD.1]
                    refine j_iconst C dX7_read_230 (v := 1) (by decide) ?_
                    refine j_isub C dX7_read_231 ?_
                    rw [nI_pred]
                    refine j_putI C fl_X7_243 dX7_read_232 (M.c) rfl rfl rfl rfl ?_
                    refine j_aload_n C dX7_read_235 rfl ?_
                    refine j_callV0V C ml_X7_259 dX7_read_236 (cM_advance hg M (N := u2 N1 0 51 (nI ws1.length)) (n := n) (i0 := i) (e037.trans h037) hn (e45.trans h45) hin) ⟨by rw [M.c]; decide, by rw [M.c]; rfl⟩ ⟨Nat.le_of_ble_eq_true rfl, Nat.le_of_ble_eq_true rfl⟩ (Nat.le_of_ble_eq_true rfl) ⟨rfl, rfl⟩ ⟨Nat.zero_le _, Nat.zero_le _⟩ ?_
                    refine j_goto (tgt := 38) C dX7_read_239 (by decide) ?_
                    have hp := hD.pop
                    exact nxt _ false mn ws1 out1 hp.1 (e49.trans h49) e37 e48 hlt (by rw [List.length_cons] at hDl; omega) hres
                  · replace h217 := Decidable.not_not.mp h217
                    exact absurd h217 (nI_ne0 (by rw [List.length_cons]; omega) (by rw [List.length_cons] at *; omega))
            · exact absurd (by decide) h50
  refine j_aload_n C dX7_read_0 rfl ?_
  refine j_iconst C dX7_read_1 (v := 0) (by decide) ?_
  refine j_putI C fl_X7_178 dX7_read_2 (M.c) rfl rfl rfl rfl ?_
  refine j_aload_n C dX7_read_5 rfl ?_
  refine j_iconst C dX7_read_6 (v := (-1)) (by decide) ?_
  refine j_putI C fl_X7_253 dX7_read_7 (M.c) rfl rfl rfl rfl ?_
  refine j_aload_n C dX7_read_10 rfl ?_
  refine j_iconst C dX7_read_11 (v := 0) (by decide) ?_
  refine j_putI C fl_X7_243 dX7_read_12 (M.c) rfl rfl rfl rfl ?_
  refine j_aload_n C dX7_read_15 rfl ?_
  refine j_aload_n C dX7_read_16 rfl ?_
  refine j_getR (j := 42) C fl_X7_108 dX7_read_17 (M.c) rfl (M.r41) ?_
  refine j_aload_n C dX7_read_20 rfl ?_
  refine j_getI C fl_X7_256 dX7_read_21 (M.c) rfl ?_
  rw [show u2 (u2 (u2 N 0 45 0) 0 49 (-1)) 0 51 0 0 38 = nI nV from hV]
  refine j_ialdN C (M.t42) (⟨by omega, by decide⟩) dX7_read_24 ?_
  rw [show u2 (u2 (u2 N 0 45 0) 0 49 (-1)) 0 51 0 42 nV = nI base from hB]
  refine j_putI C fl_X7_240 dX7_read_25 (M.c) rfl rfl rfl rfl ?_
  refine j_iconst C dX7_read_28 (v := 1) (by decide) ?_
  refine j_istore_n C dX7_read_29 (by decide) rfl ?_
  refine j_iconst C dX7_read_30 (v := 1) (by decide) ?_
  refine j_istore_n C dX7_read_31 (by decide) rfl ?_
  refine j_iconst C dX7_read_32 (v := 1) (by decide) ?_
  refine j_istore_n C dX7_read_33 (by decide) rfl ?_
  refine j_aload_n C dX7_read_34 rfl ?_
  refine j_callV0V C ml_X7_259 dX7_read_35 (cM_advance hg M (N := (u2 (u2 (u2 (u2 N 0 45 0) 0 49 (-1)) 0 51 0) 0 44 (nI base))) (n := n) (i0 := 0) hT hn rfl (Nat.zero_le _)) ⟨by rw [M.c]; decide, by rw [M.c]; rfl⟩ ⟨Nat.le_of_ble_eq_true rfl, Nat.le_of_ble_eq_true rfl⟩ (Nat.le_of_ble_eq_true rfl) ⟨rfl, rfl⟩ ⟨Nat.zero_le _, Nat.zero_le _⟩ ?_
  have ht := mTok_at (N 37) n 0 (N 0 48) (Nat.zero_le _)
  have hR0 : RIN (u2 (u2 (u2 (u2 N 0 45 0) 0 49 (-1)) 0 51 0) 0 44 (nI base)) N0 base [] [] := by
    subst hN0
    exact ⟨rfl, rfl, rfl, rfl, fun a a0 _ _ _ => by rw [u2_row a0, u2_row a0, u2_row a0, u2_row a0], fun j j1 j2 j3 j4 j5 j6 j7 => by rw [u2_ne (fun z => j1 z.2), u2_ne (fun z => j7 z.2), u2_ne (fun z => j6 z.2), u2_ne (fun z => j2 z.2)], fun j _ => ⟨rfl, rfl⟩⟩
  subst hN0
  exact key (n + 1) _ (mTok (N0 37) n 0 (N0 0 48)).2.2.1 (mTok (N0 37) n 0 (N0 0 48)).2.1 true true [] [] (hR0.tok _) rfl rfl rfl ht.2.1 ht.2.2.1 ht.2.2.2 (Nat.zero_le _) (by omega) hRES

/-- the reference's vote: what is there behind it, given what the reader left -/
def mVoteN (N1 : WNm) (nV : Nat) (k : Int32) : WNm := u2 (u2 (u2 (u2 (u2 N1 0 37 0) 40 nV k) 41 nV (N1 0 1)) 0 38 (nI (nV + 1))) 42 (nV + 1) (N1 0 44)

theorem cM_vote {l : Launch} {g : WGp} (hg : GOK g) {sh : WSh} {N : WNm} (M : MSh sh) {n base nV : Nat} (hT : N 0 37 = nI n) (hn : n ≤ 200) (hV : N 0 38 = nI nV) (hV30 : nV ≤ 30) (hB : N 42 nV = nI base) (hb6 : nV < 30 → base ≤ 6000) (k : Int32) : CT l g yX7_vote cX7_vote 3 (some .int) (RM 5 0 0) [.ref (sh.2.2 0), .int k] sh N (QI g (fun r sh1 N1 => sh1 = sh ∧ ((¬ (0 ≤ k ∧ k ≤ 2) ∧ r = -1 ∧ N1 = N) ∨ ((0 ≤ k ∧ k ≤ 2) ∧ nV = 30 ∧ r = -3 ∧ N1 = N) ∨ ((0 ≤ k ∧ k ≤ 2) ∧ nV < 30 ∧ ∃ ws out Nr, RIN Nr N base ws out ∧ ((¬ (mReadR (N 37) n (N 0 48)).1 < 0 ∧ r = -100 - (mReadR (N 37) n (N 0 48)).1 ∧ N1 = u2 Nr 0 37 0) ∨ ((mReadR (N 37) n (N 0 48)).1 < 0 ∧ ((mReadR (N 37) n (N 0 48)).1 = -1 → out = (mReadR (N 37) n (N 0 48)).2) ∧ r = nI (nV + 1) ∧ N1 = mVoteN Nr nV k)))))) := by
  refine ent hg (by decide +kernel) (Nat.le_of_ble_eq_true rfl) ?_
  intro p e s m args below meth c C hname
  refine j_iload_n C dX7_vote_0 rfl ?_
  refine j_iconst C dX7_vote_1 (v := 0) (by decide) ?_
  refine j_iconst C dX7_vote_2 (v := 2) (by decide) ?_
  refine j_callS3I C ml_X7_133 dX7_vote_3 (cM_in hg _ _ _) ⟨Nat.le_of_ble_eq_true rfl, Nat.le_of_ble_eq_true rfl⟩ (Nat.le_of_ble_eq_true rfl) ⟨rfl, rfl⟩ ⟨Nat.zero_le _, Nat.zero_le _⟩ ?_
  refine j_if_ne (tgt := 11) C dX7_vote_6 (by decide) (fun h6 => ?_) (fun h6 => ?_)
  · replace h6 := b2_ne0.mp h6
    refine j_aload_n C dX7_vote_11 rfl ?_
    refine j_getI C fl_X7_256 dX7_vote_12 (M.c) rfl ?_
    refine j_bipush C dX7_vote_15 (v := 30) (by decide) ?_
    refine j_icmp_ne (tgt := 23) C dX7_vote_17 (by decide) (fun h17 => ?_) (fun h17 => ?_)
    · skip
      have hlt : nV < 30 := by
        rw [hV, show (30 : Int32) = nI 30 from rfl, nI_eq (by omega) (by omega)] at h17
        omega
      refine j_aload_n C dX7_vote_23 rfl ?_
      refine j_callV0Ig C ml_X7_273 dX7_vote_24 (cM_read hg M (n := n) (base := base) (nV := nV) hT hn hV hV30 hB (hb6 hlt)) ⟨by rw [M.c]; decide, by rw [M.c]; rfl⟩ ⟨Nat.le_of_ble_eq_true rfl, Nat.le_of_ble_eq_true rfl⟩ (Nat.le_of_ble_eq_true rfl) ⟨rfl, rfl⟩ ⟨Nat.zero_le _, Nat.zero_le _⟩ (fun r sh1 N1 hq => ?_)
      obtain ⟨e1, e2, ws, out, hR, hout⟩ := hq
      replace e1 := e1.symm
      subst e1 e2
      have e38 : N1 0 38 = nI nV := (hR.2.2.2.2.2.1 38 (by decide) (by decide) (by decide) (by decide) (by decide) (by decide) (by decide)).trans hV
      refine j_istore_n C dX7_vote_27 (by decide) rfl ?_
      refine j_aload_n C dX7_vote_28 rfl ?_
      refine j_iconst C dX7_vote_29 (v := 0) (by decide) ?_
      refine j_putI C fl_X7_175 dX7_vote_30 (M.c) rfl rfl rfl rfl ?_
      refine j_iload_n C dX7_vote_33 rfl ?_
      refine j_if_lt (tgt := 42) C dX7_vote_34 (by decide) (fun h34 => ?_) (fun h34 => ?_)
      · skip
        refine j_aload_n C dX7_vote_42 rfl ?_
        refine j_getR (j := 40) C fl_X7_102 dX7_vote_43 (M.c) rfl (M.r39) ?_
        refine j_aload_n C dX7_vote_46 rfl ?_
        refine j_getI C fl_X7_256 dX7_vote_47 (M.c) rfl ?_
        rw [show u2 N1 0 37 0 0 38 = nI nV from e38]
        refine j_iload_n C dX7_vote_50 rfl ?_
        refine j_iastN C (M.t40) (⟨by omega, by decide⟩) dX7_vote_51 ?_
        refine j_aload_n C dX7_vote_52 rfl ?_
        refine j_getR (j := 41) C fl_X7_105 dX7_vote_53 (M.c) rfl (M.r40) ?_
        refine j_aload_n C dX7_vote_56 rfl ?_
        refine j_getI C fl_X7_256 dX7_vote_57 (M.c) rfl ?_
        rw [show u2 (u2 N1 0 37 0) 40 nV k 0 38 = nI nV from e38]
        refine j_aload_n C dX7_vote_60 rfl ?_
        refine j_getI C fl_X7_165 dX7_vote_61 (M.c) rfl ?_
        refine j_iastN C (M.t41) (⟨by omega, by decide⟩) dX7_vote_64 ?_
        refine j_aload_n C dX7_vote_65 rfl ?_
        refine j_dup C dX7_vote_66 rfl ?_
        refine j_getI C fl_X7_256 dX7_vote_67 (M.c) rfl ?_
        rw [show u2 (u2 (u2 N1 0 37 0) 40 nV k) 41 nV _ 0 38 = nI nV from e38]
        refine j_iconst C dX7_vote_70 (v := 1) (by decide) ?_
        refine j_iadd C dX7_vote_71 ?_
        rw [nI_1]
        refine j_putI C fl_X7_256 dX7_vote_72 (M.c) rfl rfl rfl rfl ?_
        refine j_aload_n C dX7_vote_75 rfl ?_
        refine j_getR (j := 42) C fl_X7_108 dX7_vote_76 (M.c) rfl (M.r41) ?_
        refine j_aload_n C dX7_vote_79 rfl ?_
        refine j_getI C fl_X7_256 dX7_vote_80 (M.c) rfl ?_
        rw [show u2 (u2 (u2 (u2 N1 0 37 0) 40 nV k) 41 nV _) 0 38 (nI (nV + 1)) 0 38 = nI (nV + 1) from u2_eq _ _ _ _]
        refine j_aload_n C dX7_vote_83 rfl ?_
        refine j_getI C fl_X7_240 dX7_vote_84 (M.c) rfl ?_
        refine j_iastN C (M.t42) (⟨by omega, by decide⟩) dX7_vote_87 ?_
        refine j_aload_n C dX7_vote_88 rfl ?_
        refine j_getI C fl_X7_256 dX7_vote_89 (M.c) rfl ?_
        rw [show u2 (u2 (u2 (u2 (u2 N1 0 37 0) 40 nV k) 41 nV _) 0 38 (nI (nV + 1))) 42 (nV + 1) _ 0 38 = nI (nV + 1) from by simp [u2]]
        exact j_iret C dX7_vote_92 rfl ⟨rfl, Or.inr (Or.inr ⟨h6, hlt, ws, out, N1, hR, Or.inr ⟨h34, hout, rfl, rfl⟩⟩)⟩
      · skip
        refine j_bipush C dX7_vote_37 (v := (-100)) (by decide) ?_
        refine j_iload_n C dX7_vote_39 rfl ?_
        refine j_isub C dX7_vote_40 ?_
        exact j_iret C dX7_vote_41 rfl ⟨rfl, Or.inr (Or.inr ⟨h6, hlt, ws, out, N1, hR, Or.inl ⟨h34, rfl, rfl⟩⟩)⟩
    · replace h17 := Decidable.not_not.mp h17
      have h30 : nV = 30 := by rw [hV, show (30 : Int32) = nI 30 from rfl, nI_eq (by omega) (by omega)] at h17; exact h17
      refine j_bipush C dX7_vote_20 (v := (-3)) (by decide) ?_
      exact j_iret C dX7_vote_22 rfl ⟨rfl, Or.inr (Or.inl ⟨h6, h30, rfl, rfl⟩)⟩
  · replace h6 := b2_eq0.mp (Decidable.not_not.mp h6)
    refine j_iconst C dX7_vote_9 (v := (-1)) (by decide) ?_
    exact j_iret C dX7_vote_10 rfl ⟨rfl, Or.inl ⟨h6, rfl, rfl⟩⟩
