/-! ===== THE GRAMMAR: the descent beside the machine with a stack ===== -/
/-- all that waits is laid -/
def FLU : List Int32 → List (Int32 × Int32) → List (Int32 × Int32)
  | [], o => o
  | w :: ws, o => FLU ws ((w, 0) :: o)
theorem FLU_snoc (w : Int32) : ∀ (ws : List Int32) (o : List (Int32 × Int32)), FLU (ws ++ [w]) o = (w, 0) :: FLU ws o
  | [], _ => rfl
  | x :: ws, o => FLU_snoc w ws ((x, 0) :: o)
theorem FLU_len : ∀ (ws : List Int32) (o : List (Int32 × Int32)), (FLU ws o).length = o.length + ws.length
  | [], _ => rfl
  | x :: ws, o => by rw [FLU, FLU_len ws, List.length_cons, List.length_cons]; omega
/-- the head of the stack is looser than b -/
def TO (b : Int32) (ws : List Int32) : Prop := ∀ w ws', ws = w :: ws' → mTight w < b
theorem done_flu {fr : Int32} {ws : List Int32} (ht : TO fr ws) : ∀ (pd : List Int32) (o : List (Int32 × Int32)), (∀ w ∈ pd, fr ≤ mTight w) → doneL fr (pd ++ ws) o = (ws, FLU pd o)
  | [], o, _ => by
    show doneL fr ws o = (ws, o)
    cases ws with
    | nil => rfl
    | cons w ws => rw [doneL, if_pos (ht w ws rfl)]
  | x :: pd, o, h => by
    show doneL fr (x :: (pd ++ ws)) o = _
    rw [doneL, if_neg (i_nlt.mpr (h x List.mem_cons_self)), FLU]
    exact done_flu ht pd _ (fun w hw => h w (List.mem_cons_of_mem _ hw))
/-- how high the pile is behind the steps -/
def dpt : List (Int32 × Int32) → Option Nat
  | [] => some 0
  | s :: o => match dpt o with
    | none => none
    | some m => if s.1 = 1 ∨ 100 ≤ s.1 then some (m + 1) else (if s.1 = 30 ∨ s.1 = 70 then (if 1 ≤ m then some m else none) else (if 2 ≤ m then some (m - 1) else none))
abbrev stL (o : List (Int32 × Int32)) : List Int32 := o.map (fun s => stM s.1 s.2)
def C4 (pd : List Int32) : Prop := ∃ pa c pb, pd = pa ++ c :: pb ∧ (∀ w ∈ pa, 5 ≤ mTight w) ∧ mTight c = 4
theorem C4.app {pd : List Int32} (h : C4 pd) (r : List Int32) : C4 (pd ++ r) := by
  obtain ⟨pa, c, pb, e, h1, h2⟩ := h
  exact ⟨pa, c, pb ++ r, by rw [e, List.append_assoc, List.cons_append], h1, h2⟩
def NXT (L t : Int32) (pd : List Int32) : Prop := (L ≤ 6 → ¬ t = 42) ∧ (L ≤ 5 → ¬ t = 43 ∧ ¬ t = 45) ∧ (L ≤ 4 → (t = 60 ∨ t = 61 ∨ t = 62) → C4 pd) ∧ (L ≤ 2 → ¬ t = 260) ∧ (L ≤ 1 → ¬ t = 261)
section
variable {xp tp : Nat → Int32} {n : Nat}
/-- a token stands there -/
def VT (n : Nat) (σ : XS) (tk num : Int32) : Prop := TK σ.1 σ.2.2.2.1 tk num ∧ σ.2.1 ≤ n ∧ σ.2.2.1 ≤ n ∧ (¬ σ.1 = 256 → σ.2.1 < σ.2.2.1)
def ENT (n : Nat) (σ : XS) (tk num : Int32) (ws : List Int32) (o : List (Int32 × Int32)) (f m : Nat) : Prop := VT n σ tk num ∧ σ.2.2.2.2 = stL o ∧ (∀ s ∈ o, stG s.1 s.2) ∧ o.length + ws.length ≤ σ.2.1 ∧ n + 1 ≤ f + σ.2.1 ∧ dpt o = some m
abbrev SY (tp : Nat → Int32) (n f : Nat) (σ : XS) (tk num : Int32) (wants mn : Bool) (ws : List Int32) (o : List (Int32 × Int32)) : Int32 × List (Int32 × Int32) := sy tp n f σ.2.2.1 tk (nI σ.2.1) num wants mn ws o
/-- something has been read: pd waits on the stack -/
def EX (n : Nat) (L L2 : Int32) (σ : XS) (tk num : Int32) (pd ws : List Int32) (o : List (Int32 × Int32)) (f m : Nat) : Prop := VT n σ tk num ∧ σ.2.2.2.2 = stL (FLU pd o) ∧ (∀ s ∈ FLU pd o, stG s.1 s.2) ∧ o.length + pd.length + ws.length ≤ σ.2.1 ∧ n + 1 ≤ f + σ.2.1 ∧ dpt (FLU pd o) = some (m + 1) ∧ (∀ w ∈ pd, L ≤ mTight w) ∧ NXT L2 σ.1 pd
def SIM (xp tp : Nat → Int32) (n : Nat) (b L op : Int32) (MN : Bool → Int32 → Prop) (F : XF) : Prop := ∀ (f : Nat) (σ : XS) (tk num : Int32) (mn : Bool) (ws : List Int32) (o : List (Int32 × Int32)) (m : Nat), ENT n σ tk num ws o f m → opn ws = op → TO b ws → MN mn σ.1 →
  ((F σ).1 = false → SY tp n f σ tk num true mn ws o = (nI (F σ).2.2.1, []) ∧ (F σ).2.2.1 ≤ n) ∧ ((F σ).1 = true → ∃ (f2 : Nat) (tk2 num2 : Int32) (mn2 : Bool) (pd : List Int32) (o2 : List (Int32 × Int32)), SY tp n f σ tk num true mn ws o = SY tp n f2 (F σ).2 tk2 num2 false mn2 (pd ++ ws) o2 ∧ EX n L L (F σ).2 tk2 num2 pd ws o2 f2 m ∧ σ.2.1 + 1 ≤ (F σ).2.2.1)
/-- the next token, on both sides -/
theorem nx_rel (hTB : ∀ j, j < n → TB (xp j) (tp j)) {σ : XS} (hi : σ.2.2.1 ≤ n) (num : Int32) : ∃ tk1 num1, mTok tp n σ.2.2.1 num = (tk1, (xNx xp n σ).2.1, (xNx xp n σ).2.2.1, num1) ∧ VT n (xNx xp n σ) tk1 num1 ∧ σ.2.2.1 ≤ (xNx xp n σ).2.1 ∧ (xNx xp n σ).2.2.2.2 = σ.2.2.2.2 := by
  obtain ⟨h1, h2, h3, h4, h5, h6, h7⟩ := tok_rel hTB hi σ.2.2.2.1 num
  refine ⟨(mTok tp n σ.2.2.1 num).1, (mTok tp n σ.2.2.1 num).2.2.2, ?_, ⟨h3, h5, h6, h7⟩, h4, rfl⟩
  show mTok tp n σ.2.2.1 num = (_, (xTok xp n σ.2.2.1 σ.2.2.2.1).2.1, (xTok xp n σ.2.2.1 σ.2.2.2.1).2.2.1, _)
  rw [← h1, ← h2]
/-- what a joining token is on the other side -/
def JN (L : Int32) (mv : Bool) (t tk : Int32) : Prop := (¬ tk = 6 ∧ ¬ tk = 0 ∧ ¬ tk < 10 ∧ ¬ 70 ≤ tk ∧ ¬ tk = 30 ∧ ¬ mTight tk = 4 ∧ mTight tk = L ∧ decide (tk = 10 ∨ tk = 20) = mv) ∧ stM tk 0 = -t ∧ stG tk 0 ∧ ¬ (tk = 1 ∨ 100 ≤ tk) ∧ ¬ (tk = 30 ∨ tk = 70) ∧ ¬ (tk = 5 ∨ tk = 30 ∨ tk = 70)
theorem opn_no {tk : Int32} (ws : List Int32) (h : ¬ (tk = 5 ∨ tk = 30 ∨ tk = 70)) : opn (tk :: ws) = opn ws := by rw [opn, if_neg h, Int32.add_zero]
theorem dpt_bin {s : Int32 × Int32} {o : List (Int32 × Int32)} {m : Nat} (h : dpt o = some (m + 2)) (h1 : ¬ (s.1 = 1 ∨ 100 ≤ s.1)) (h2 : ¬ (s.1 = 30 ∨ s.1 = 70)) : dpt (s :: o) = some (m + 1) := by
  rw [dpt, h]
  simp only
  rw [if_neg h1, if_neg h2, if_pos (by omega)]
  rfl
theorem dpt_un {s : Int32 × Int32} {o : List (Int32 × Int32)} {m : Nat} (h : dpt o = some (m + 1)) (h1 : ¬ (s.1 = 1 ∨ 100 ≤ s.1)) (h2 : s.1 = 30 ∨ s.1 = 70) : dpt (s :: o) = some (m + 1) := by
  rw [dpt, h]
  simp only
  rw [if_neg h1, if_pos h2, if_pos (by omega)]
theorem dpt_push {s : Int32 × Int32} {o : List (Int32 × Int32)} {m : Nat} (h : dpt o = some m) (h1 : s.1 = 1 ∨ 100 ≤ s.1) : dpt (s :: o) = some (m + 1) := by
  rw [dpt, h]
  simp only
  rw [if_pos h1]
/-- a step is put behind what has been read, as what waits on the stack will be laid -/
theorem EX.put {L L2 L3 L4 : Int32} {σ : XS} {tk num op w : Int32} {pd ws : List Int32} {o : List (Int32 × Int32)} {f m m2 : Nat} (h : EX n L L2 σ tk num pd (op :: ws) o f m2) (hn : n ≤ 200) (hs : stM op 0 = w) (hg : stG op 0) (hd : dpt ((op, 0) :: FLU pd o) = some (m + 1)) (hL : L3 ≤ L) (hop : L3 ≤ mTight op) (hx : NXT L4 σ.1 (pd ++ [op])) : EX n L3 L4 (xPu w σ) tk num (pd ++ [op]) ws o f m := by
  obtain ⟨h1, h2, h3, h4, h5, h6, h7, h8⟩ := h
  rw [List.length_cons] at h4
  have hl : σ.2.2.2.2.length < 200 := by
    rw [h2, List.length_map, FLU_len]
    have := h1.2.1
    omega
  refine ⟨h1, ?_, ?_, ?_, h5, ?_, ?_, hx⟩
  · show (if σ.2.2.2.2.length < 200 then w :: σ.2.2.2.2 else σ.2.2.2.2) = _
    rw [if_pos hl, FLU_snoc, h2, ← hs]
    rfl
  · rw [FLU_snoc]
    intro s hs2
    rcases List.mem_cons.mp hs2 with z | z
    · rw [z]; exact hg
    · exact h3 s z
  · rw [List.length_append]
    show o.length + (pd.length + 1) + ws.length ≤ σ.2.1
    omega
  · rw [FLU_snoc]; exact hd
  · intro x hx2
    rcases List.mem_append.mp hx2 with z | z
    · exact Int32.le_trans hL (h7 x z)
    · rw [List.mem_singleton.mp z]; exact hop
theorem sim_loop (hTB : ∀ j, j < n → TB (xp j) (tp j)) (hn : n ≤ 200) {b b2 L L2 op : Int32} {MB : Bool → Int32 → Prop} {B : XF} {P : Int32 → Prop} [DecidablePred P] {mv : Bool} (hB : SIM xp tp n b2 L2 op MB B) (hP : ∀ t v tk num, P t → TK t v tk num → JN L mv t tk) (hmv : ∀ t, MB mv t) (hbL : b ≤ L) (hLb : L < b2) (hL2 : L ≤ L2) (hnx : ∀ t pd r, ¬ P t → NXT L2 t pd → NXT L t (pd ++ r)) (hnx2 : ∀ t pd r, NXT L2 t pd → NXT L2 t (pd ++ r)) :
    ∀ (k f : Nat) (σ : XS) (tk num : Int32) (mn : Bool) (pd ws : List Int32) (o : List (Int32 × Int32)) (m : Nat), EX n L L2 σ tk num pd ws o f m → n + 1 ≤ k + σ.2.1 → opn ws = op → TO b ws →
      ((xLoop xp n P B k σ).1 = false → SY tp n f σ tk num false mn (pd ++ ws) o = (nI (xLoop xp n P B k σ).2.2.1, []) ∧ (xLoop xp n P B k σ).2.2.1 ≤ n) ∧ ((xLoop xp n P B k σ).1 = true → ∃ (f2 : Nat) (tk2 num2 : Int32) (mn2 : Bool) (pd2 : List Int32) (o2 : List (Int32 × Int32)), SY tp n f σ tk num false mn (pd ++ ws) o = SY tp n f2 (xLoop xp n P B k σ).2 tk2 num2 false mn2 (pd2 ++ ws) o2 ∧ EX n L L (xLoop xp n P B k σ).2 tk2 num2 pd2 ws o2 f2 m ∧ σ.2.1 ≤ (xLoop xp n P B k σ).2.2.1)
  | 0, f, σ, tk, num, mn, pd, ws, o, m, h, hk, _, _ => by
    exfalso
    have := h.1.2.1
    omega
  | k + 1, f, σ, tk, num, mn, pd, ws, o, m, h, hk, hop, hto => by
    obtain ⟨h1, h2, h3, h4, h5, h6, h7, h8⟩ := h
    by_cases hp : P σ.1
    · obtain ⟨⟨j1, j2, j3, j4, j5, j6, j7, j8⟩, j9, j10, j11, j12, j13⟩ := hP _ _ _ _ hp h1.1
      have hne : ¬ σ.1 = 256 := fun z => by
        have hz := h1.1
        rw [z] at hz
        rcases hz with q | q | ⟨_, _, q, _⟩ | q | q
        · exact j2 q.2
        · exact absurd q.1 (by decide)
        · exact absurd q (by decide)
        · simp at q
        · exact q.2 (by decide)
      have hlt := h1.2.2.2 hne
      obtain ⟨f0, rfl⟩ : ∃ f0, f = f0 + 1 := ⟨f - 1, by have := h1.2.1; omega⟩
      obtain ⟨tk1, num1, e1, v1, q1, s1⟩ := nx_rel hTB h1.2.2.1 num
      have hdone : doneL (mTight tk) (pd ++ ws) o = (ws, FLU pd o) := by
        rw [j7]
        exact done_flu (fun w ws' e => Int32.lt_of_lt_of_le (hto w ws' e) hbL) pd o h7
      have hst : SY tp n (f0 + 1) σ tk num false mn (pd ++ ws) o = SY tp n f0 (xNx xp n σ) tk1 num1 true mv (tk :: ws) (FLU pd o) := by
        show sy tp n (f0 + 1) σ.2.2.1 tk (nI σ.2.1) num false mn (pd ++ ws) o = _
        rw [sy, if_neg j1, if_neg j2, if_neg j3, if_neg j4, if_neg j5, if_neg j6, hdone, e1, j8]
      rw [hst]
      have hent : ENT n (xNx xp n σ) tk1 num1 (tk :: ws) (FLU pd o) f0 (m + 1) := ⟨v1, by rw [s1]; exact h2, h3, by rw [FLU_len, List.length_cons]; omega, by omega, h6⟩
      obtain ⟨b1, b2'⟩ := hB f0 _ tk1 num1 mv (tk :: ws) (FLU pd o) (m + 1) hent (by rw [opn_no _ j13]; exact hop) (fun w ws' e => by cases e; rw [j7]; exact hLb) (hmv _)
      rcases hb : B (xNx xp n σ) with ⟨bb, σ2⟩
      rw [hb] at b1 b2'
      cases bb with
      | false =>
        rw [xLoop_bad hp hb]
        exact ⟨fun _ => b1 rfl, fun z => absurd z (by simp)⟩
      | true =>
        rw [xLoop_ok hp hb]
        obtain ⟨f2, tk2, num2, mn2, pd2, o2, g1, g2, g4⟩ := b2' rfl
        rw [g1, show pd2 ++ tk :: ws = (pd2 ++ [tk]) ++ ws by rw [List.append_assoc]; rfl]
        have hq : (xNx xp n σ).2.1 ≤ n := v1.2.1
        have g3 : EX n L L2 (xPu (-σ.1) σ2) tk2 num2 (pd2 ++ [tk]) ws o2 f2 m := g2.put hn j9 j10 (dpt_bin g2.2.2.2.2.2.1 j11 j12) hL2 (by rw [j7]; exact Int32.le_refl _) (hnx2 _ _ _ g2.2.2.2.2.2.2.2)
        have hgrow : σ.2.1 + 1 ≤ σ2.2.1 := by
          have z : (xNx xp n σ).2.1 + 1 ≤ σ2.2.1 := g4
          omega
        obtain ⟨r1, r2⟩ := sim_loop hTB hn hB hP hmv hbL hLb hL2 hnx hnx2 k f2 _ tk2 num2 mn2 _ ws o2 m g3 (by show n + 1 ≤ k + σ2.2.1; omega) hop hto
        refine ⟨r1, fun z => ?_⟩
        obtain ⟨f3, tk3, num3, mn3, pd3, o3, y1, y2, y3⟩ := r2 z
        have y4 : σ2.2.1 ≤ _ := y3
        exact ⟨f3, tk3, num3, mn3, pd3, o3, y1, y2, by omega⟩
    · rw [xLoop_no hp]
      exact ⟨fun z => absurd z (by simp), fun _ => ⟨f, tk, num, mn, pd, o, rfl, ⟨h1, h2, h3, h4, h5, h6, h7, (by have z := hnx σ.1 pd [] hp h8; rw [List.append_nil] at z; exact z)⟩, Nat.le_refl _⟩⟩
end
