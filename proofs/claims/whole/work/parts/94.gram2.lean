/-! ===== THE GRAMMAR: every level ===== -/
abbrev sgs : List (Int32 × Int32) := [(260, 20), (261, 10), (262, 30), (40, 5), (41, 6), (42, 60), (43, 50), (45, 51), (60, 40), (61, 41), (62, 42)]
theorem TK.sg {t v tk num : Int32} (h : TK t v tk num) (hm : t ∈ ([260, 261, 262, 40, 41, 42, 43, 45, 60, 61, 62] : List Int32)) : (t, tk) ∈ sgs := by
  rcases h with q | q | ⟨_, _, q, _⟩ | q | q
  · rw [q.1] at hm; exact absurd hm (by decide)
  · rw [q.1] at hm; exact absurd hm (by decide)
  · rw [q] at hm; exact absurd hm (by decide)
  · exact q
  · refine absurd ?_ q.2
    simp only [List.mem_cons, List.not_mem_nil, or_false] at hm ⊢
    rcases hm with z | z | z | z | z | z | z | z | z | z | z <;> simp [z]
theorem TK.at {t v tk num : Int32} (h : TK t v tk num) : (t = 42 → tk = 60) ∧ (t = 43 → tk = 50) ∧ (t = 45 → tk = 51) ∧ (t = 60 → tk = 40) ∧ (t = 61 → tk = 41) ∧ (t = 62 → tk = 42) ∧ (t = 260 → tk = 20) ∧ (t = 261 → tk = 10) ∧ (t = 262 → tk = 30) ∧ (t = 40 → tk = 5) ∧ (t = 41 → tk = 6) := by
  refine ⟨?_, ?_, ?_, ?_, ?_, ?_, ?_, ?_, ?_, ?_, ?_⟩ <;> intro z <;> subst z <;> have q := h.sg (by decide) <;> simp [sgs] at q <;> exact q
section
variable {xp tp : Nat → Int32} {n : Nat}
abbrev M1 (mn : Bool) (_ : Int32) : Prop := mn = true
abbrev M4 (mn : Bool) (t : Int32) : Prop := mn = true → ¬ t = 262
theorem EX.weak {L L2 L3 : Int32} {σ : XS} {tk num : Int32} {pd ws : List Int32} {o : List (Int32 × Int32)} {f m : Nat} (h : EX n L L2 σ tk num pd ws o f m) (hl : L3 ≤ L) : EX n L3 L2 σ tk num pd ws o f m := ⟨h.1, h.2.1, h.2.2.1, h.2.2.2.1, h.2.2.2.2.1, h.2.2.2.2.2.1, fun w hw => Int32.le_trans hl (h.2.2.2.2.2.2.1 w hw), h.2.2.2.2.2.2.2⟩
theorem sim_rep (hTB : ∀ j, j < n → TB (xp j) (tp j)) (hn : n ≤ 200) {b b2 L L2 op : Int32} {MN MB : Bool → Int32 → Prop} {B : XF} {P : Int32 → Prop} [DecidablePred P] {mv : Bool} (hB : SIM xp tp n b2 L2 op MB B) (hP : ∀ t v tk num, P t → TK t v tk num → JN L mv t tk) (hMN : ∀ mn t, MN mn t → MB mn t) (hmv : ∀ t, MB mv t) (hbL : b ≤ L) (hLb : L < b2) (hL2 : L ≤ L2) (hnx : ∀ t pd r, ¬ P t → NXT L2 t pd → NXT L t (pd ++ r)) (hnx2 : ∀ t pd r, NXT L2 t pd → NXT L2 t (pd ++ r)) : SIM xp tp n b L op MN (xRep xp n P B) := by
  intro f σ tk num mn ws o m hent hop hto hmn
  obtain ⟨b1, b2'⟩ := hB f σ tk num mn ws o m hent hop (fun w ws' e => Int32.lt_trans (Int32.lt_of_lt_of_le (hto w ws' e) hbL) hLb) (hMN _ _ hmn)
  rcases hb : B σ with ⟨bb, σ1⟩
  rw [hb] at b1 b2'
  cases bb with
  | false =>
    rw [xRep_bad hb]
    exact ⟨fun _ => b1 rfl, fun z => absurd z (by simp)⟩
  | true =>
    rw [xRep_ok hb]
    obtain ⟨f2, tk2, num2, mn2, pd2, o2, g1, g2, g3⟩ := b2' rfl
    rw [g1]
    replace g3 : σ.2.1 + 1 ≤ σ1.2.1 := g3
    replace g2 : EX n L2 L2 σ1 tk2 num2 pd2 ws o2 f2 m := g2
    obtain ⟨r1, r2⟩ := sim_loop hTB hn hB hP hmv hbL hLb hL2 hnx hnx2 200 f2 σ1 tk2 num2 mn2 pd2 ws o2 m (g2.weak hL2) (by omega) hop hto
    refine ⟨r1, fun z => ?_⟩
    obtain ⟨f3, tk3, num3, mn3, pd3, o3, y1, y2, y3⟩ := r2 z
    exact ⟨f3, tk3, num3, mn3, pd3, o3, y1, y2, by omega⟩
theorem NXT.app {L t : Int32} {pd : List Int32} (h : NXT L t pd) (r : List Int32) : NXT L t (pd ++ r) := ⟨h.1, h.2.1, fun a b => (h.2.2.1 a b).app r, h.2.2.2.1, h.2.2.2.2⟩
theorem sim_prod (hTB : ∀ j, j < n → TB (xp j) (tp j)) (hn : n ≤ 200) {op : Int32} {B : XF} (hB : SIM xp tp n 100 7 op M4 B) : SIM xp tp n 6 6 op M4 (xRep xp n pMul B) :=
  sim_rep hTB hn (L2 := 7) (mv := false) hB (fun t v tk num hp h => by
    rw [h.at.1 hp, show t = 42 from hp]
    exact ⟨by decide, by decide, Or.inr (Or.inr (by decide)), by decide, by decide, by decide⟩) (fun _ _ h => h) (fun t h => absurd h (by decide)) (Int32.le_refl _) (by decide) (by decide) (fun t pd r hp h => ⟨fun _ => hp, fun z => absurd z (by decide), fun z => absurd z (by decide), fun z => absurd z (by decide), fun z => absurd z (by decide)⟩) (fun t pd r h => h.app r)
theorem sim_sum (hTB : ∀ j, j < n → TB (xp j) (tp j)) (hn : n ≤ 200) {op : Int32} {B : XF} (hB : SIM xp tp n 6 6 op M4 B) : SIM xp tp n 5 5 op M4 (xRep xp n pSum B) :=
  sim_rep hTB hn (L2 := 6) (mv := false) hB (fun t v tk num hp h => by
    rcases hp with z | z
    · rw [h.at.2.1 z, z]
      exact ⟨by decide, by decide, Or.inr (Or.inr (by decide)), by decide, by decide, by decide⟩
    · rw [h.at.2.2.1 z, z]
      exact ⟨by decide, by decide, Or.inr (Or.inr (by decide)), by decide, by decide, by decide⟩) (fun _ _ h => h) (fun t h => absurd h (by decide)) (Int32.le_refl _) (by decide) (by decide) (fun t pd r hp h => ⟨fun _ => h.1 (by decide), fun _ => ⟨fun z => hp (Or.inl z), fun z => hp (Or.inr z)⟩, fun z => absurd z (by decide), fun z => absurd z (by decide), fun z => absurd z (by decide)⟩) (fun t pd r h => h.app r)
theorem sim_both (hTB : ∀ j, j < n → TB (xp j) (tp j)) (hn : n ≤ 200) {op : Int32} {B : XF} (hB : SIM xp tp n 4 3 op M1 B) : SIM xp tp n 2 2 op M1 (xRep xp n pAnd B) :=
  sim_rep hTB hn (L2 := 3) (mv := true) hB (fun t v tk num hp h => by
    rw [h.at.2.2.2.2.2.2.1 hp, show t = 260 from hp]
    exact ⟨by decide, by decide, Or.inr (Or.inr (by decide)), by decide, by decide, by decide⟩) (fun _ _ h => h) (fun t => rfl) (Int32.le_refl _) (by decide) (by decide) (fun t pd r hp h => ⟨fun _ => h.1 (by decide), fun _ => h.2.1 (by decide), fun _ q => (h.2.2.1 (by decide) q).app r, fun _ => hp, fun z => absurd z (by decide)⟩) (fun t pd r h => h.app r)
theorem sim_either (hTB : ∀ j, j < n → TB (xp j) (tp j)) (hn : n ≤ 200) {op : Int32} {B : XF} (hB : SIM xp tp n 2 2 op M1 B) : SIM xp tp n 1 1 op M1 (xRep xp n pOr B) :=
  sim_rep hTB hn (L2 := 2) (mv := true) hB (fun t v tk num hp h => by
    rw [h.at.2.2.2.2.2.2.2.1 hp, show t = 261 from hp]
    exact ⟨by decide, by decide, Or.inr (Or.inr (by decide)), by decide, by decide, by decide⟩) (fun _ _ h => h) (fun t => rfl) (Int32.le_refl _) (by decide) (by decide) (fun t pd r hp h => ⟨fun _ => h.1 (by decide), fun _ => h.2.1 (by decide), fun _ q => (h.2.2.1 (by decide) q).app r, fun _ => h.2.2.2.1 (by decide), fun _ => hp⟩) (fun t pd r h => h.app r)
theorem VT.f {σ : XS} {tk num : Int32} (h : VT n σ tk num) (hne : ¬ tk = 0) : ¬ σ.1 = 256 := fun z => by
  have hz := h.1
  rw [z] at hz
  rcases hz with q | q | ⟨_, _, q, _⟩ | q | q
  · exact hne q.2
  · exact absurd q.1 (by decide)
  · exact absurd q (by decide)
  · simp at q
  · exact q.2 (by decide)
theorem sim_comp (hTB : ∀ j, j < n → TB (xp j) (tp j)) (hn : n ≤ 200) {op : Int32} {S : XF} (hS : SIM xp tp n 5 5 op M4 S) : SIM xp tp n 4 4 op M4 (xComp xp n S) := by
  intro f σ tk num mn ws o m hent hop hto hmn
  have hto5 : TO 5 ws := fun w ws' e => Int32.lt_trans (hto w ws' e) (by decide)
  obtain ⟨b1, b2⟩ := hS f σ tk num mn ws o m hent hop hto5 hmn
  unfold xComp
  rcases hb : S σ with ⟨bb, σ1⟩
  rw [hb] at b1 b2
  cases bb with
  | false => exact ⟨fun _ => b1 rfl, fun z => absurd z (by simp)⟩
  | true =>
    obtain ⟨f2, tk2, num2, mn2, pd2, o2, g1, g2, g3⟩ := b2 rfl
    replace g3 : σ.2.1 + 1 ≤ σ1.2.1 := g3
    replace g2 : EX n 5 5 σ1 tk2 num2 pd2 ws o2 f2 m := g2
    replace g1 : SY tp n f σ tk num true mn ws o = SY tp n f2 σ1 tk2 num2 false mn2 (pd2 ++ ws) o2 := g1
    simp only [if_true]
    by_cases hc : σ1.1 = 60 ∨ σ1.1 = 61 ∨ σ1.1 = 62
    · rw [if_pos hc]
      have hat := g2.1.1.at
      have hk : (tk2 = 40 ∨ tk2 = 41 ∨ tk2 = 42) ∧ stM tk2 0 = -σ1.1 := by
        rcases hc with z | z | z
        · rw [z, hat.2.2.2.1 z]; exact ⟨Or.inl rfl, by decide⟩
        · rw [z, hat.2.2.2.2.1 z]; exact ⟨Or.inr (Or.inl rfl), by decide⟩
        · rw [z, hat.2.2.2.2.2.1 z]; exact ⟨Or.inr (Or.inr rfl), by decide⟩
      have hj : ¬ tk2 = 6 ∧ ¬ tk2 = 0 ∧ ¬ tk2 < 10 ∧ ¬ 70 ≤ tk2 ∧ ¬ tk2 = 30 ∧ mTight tk2 = 4 ∧ ¬ (tk2 = 1 ∨ 100 ≤ tk2) ∧ ¬ (tk2 = 30 ∨ tk2 = 70) ∧ ¬ (tk2 = 5 ∨ tk2 = 30 ∨ tk2 = 70) := by
        rcases hk.1 with z | z | z <;> rw [z] <;> decide
      have hjg : stG tk2 0 := by
        rcases hk.1 with z | z | z <;> rw [z] <;> exact Or.inr (Or.inr (by decide))
      obtain ⟨j1, j2, j3, j4, j5, j6, j7, j8, j9⟩ := hj
      have hlt := g2.1.2.2.2 (g2.1.f j2)
      obtain ⟨f0, rfl⟩ : ∃ f0, f2 = f0 + 1 := ⟨f2 - 1, by have := g2.1.2.1; have := g2.2.2.2.2.1; omega⟩
      obtain ⟨tk1, num1, e1, v1, q1, s1⟩ := nx_rel hTB g2.1.2.2.1 num2
      have hdone : doneL 5 (pd2 ++ ws) o2 = (ws, FLU pd2 o2) := done_flu hto5 pd2 o2 g2.2.2.2.2.2.2.1
      have htop : ¬ topIs4 ws = true := by
        cases ws with
        | nil => simp [topIs4]
        | cons w ws =>
          have hw := hto w ws rfl
          simp only [topIs4, decide_eq_true_eq]
          intro z
          rw [z] at hw
          exact Int32.lt_irrefl hw
      have hst : SY tp n (f0 + 1) σ1 tk2 num2 false mn2 (pd2 ++ ws) o2 = SY tp n f0 (xNx xp n σ1) tk1 num1 true false (tk2 :: ws) (FLU pd2 o2) := by
        show sy tp n (f0 + 1) σ1.2.2.1 tk2 (nI σ1.2.1) num2 false mn2 (pd2 ++ ws) o2 = _
        rw [sy, if_neg j1, if_neg j2, if_neg j3, if_neg j4, if_neg j5, if_pos j6, hdone, if_neg htop, e1]
      have hent2 : ENT n (xNx xp n σ1) tk1 num1 (tk2 :: ws) (FLU pd2 o2) f0 (m + 1) := ⟨v1, by rw [s1]; exact g2.2.1, g2.2.2.1, by have := g2.2.2.2.1; rw [FLU_len, List.length_cons]; omega, by have := g2.2.2.2.2.1; omega, g2.2.2.2.2.2.1⟩
      obtain ⟨c1, c2⟩ := hS f0 _ tk1 num1 false (tk2 :: ws) (FLU pd2 o2) (m + 1) hent2 (by rw [opn_no _ j9]; exact hop) (fun w ws' e => by cases e; rw [j6]; decide) (fun z => absurd z (by decide))
      rw [g1, hst]
      rcases hb2 : S (xNx xp n σ1) with ⟨bb2, σ2⟩
      rw [hb2] at c1 c2
      cases bb2 with
      | false => exact ⟨fun _ => c1 rfl, fun z => absurd z (by simp)⟩
      | true =>
        obtain ⟨f3, tk3, num3, mn3, pd3, o3, y1, y2, y3⟩ := c2 rfl
        replace y3 : (xNx xp n σ1).2.1 + 1 ≤ σ2.2.1 := y3
        replace y2 : EX n 5 5 σ2 tk3 num3 pd3 (tk2 :: ws) o3 f3 (m + 1) := y2
        refine ⟨fun z => absurd z (by simp), fun _ => ⟨f3, tk3, num3, mn3, pd3 ++ [tk2], o3, ?_, ?_, ?_⟩⟩
        · rw [y1, show pd3 ++ tk2 :: ws = (pd3 ++ [tk2]) ++ ws by rw [List.append_assoc]; rfl]
          rfl
        · exact y2.put hn hk.2 hjg (dpt_bin y2.2.2.2.2.2.1 j7 j8) (by decide) (by rw [j6]; exact Int32.le_refl _) ⟨fun _ => y2.2.2.2.2.2.2.2.1 (by decide), fun _ => y2.2.2.2.2.2.2.2.2.1 (by decide), fun _ _ => ⟨pd3, tk2, [], rfl, y2.2.2.2.2.2.2.1, j6⟩, fun z => absurd z (by decide), fun z => absurd z (by decide)⟩
        · show σ.2.1 + 1 ≤ σ2.2.1
          omega
    · rw [if_neg hc]
      refine ⟨fun z => absurd z (by simp), fun _ => ⟨f2, tk2, num2, mn2, pd2, o2, g1, ?_, g3⟩⟩
      obtain ⟨h1, h2, h3, h4, h5, h6, h7, h8⟩ := g2
      exact ⟨h1, h2, h3, h4, h5, h6, fun w hw => Int32.le_trans (by decide) (h7 w hw), fun _ => h8.1 (by decide), fun _ => h8.2.1 (by decide), fun _ z => absurd z hc, fun z => absurd z (by decide), fun z => absurd z (by decide)⟩
theorem opn12 {d : Nat} (hd : d ≤ 12) : nI (12 - (d + 1)) + 1 = nI (12 - d) ∨ 12 ≤ d := by
  rcases Nat.lt_or_ge d 12 with h | h
  · left
    rw [show (1 : Int32) = nI 1 from rfl, nI_add]
    congr 1
    omega
  · exact Or.inr h
theorem sim_den {d : Nat} (hd : d ≤ 12) (hTB : ∀ j, j < n → TB (xp j) (tp j)) (hn : n ≤ 200) {K D : XF} (hK : SIM xp tp n 4 4 (nI (12 - d)) M4 K) (hD : 0 < d → SIM xp tp n 4 3 (nI (12 - d) + 1) M1 D) : SIM xp tp n 4 3 (nI (12 - d)) M1 (xDen xp n d K D) := by
  intro f σ tk num mn ws o m hent hop hto hmn
  subst hmn
  unfold xDen
  by_cases ht : σ.1 = 262
  · rw [if_pos ht]
    have hk : tk = 30 := hent.1.1.at.2.2.2.2.2.2.2.2.1 ht
    subst hk
    have hlt := hent.1.2.2.2 (by rw [ht]; decide)
    obtain ⟨f0, rfl⟩ : ∃ f0, f = f0 + 1 := ⟨f - 1, by have := hent.1.2.1; have := hent.2.2.2.2.1; omega⟩
    by_cases h0 : d = 0
    · rw [if_pos h0]
      refine ⟨fun _ => ⟨?_, hent.1.2.1⟩, fun z => absurd z (by simp)⟩
      show sy tp n (f0 + 1) σ.2.2.1 30 (nI σ.2.1) num true true ws o = _
      rw [sy, if_pos (by decide), if_pos (by rw [hop, h0]; rfl)]
    · rw [if_neg h0]
      have hne : ¬ opn ws = 12 := fun z => by
        rw [hop] at z
        have := nI_inj (a := 12 - d) (b := 12) (by omega) (by decide) z
        omega
      obtain ⟨tk1, num1, e1, v1, q1, s1⟩ := nx_rel hTB hent.1.2.2.1 num
      have hst : SY tp n (f0 + 1) σ 30 num true true ws o = SY tp n f0 (xNx xp n σ) tk1 num1 true true (30 :: ws) o := by
        show sy tp n (f0 + 1) σ.2.2.1 30 (nI σ.2.1) num true true ws o = _
        rw [sy, if_pos (by decide), if_neg hne, if_neg (by decide), e1]
      obtain ⟨h1, h2, h3, h4, h5, h6⟩ := hent
      obtain ⟨c1, c2⟩ := hD (by omega) f0 _ tk1 num1 true (30 :: ws) o m ⟨v1, by rw [s1]; exact h2, h3, by rw [List.length_cons]; omega, by omega, h6⟩ (by rw [opn, if_pos (by decide), hop]) (fun w ws' e => by cases e; decide) rfl
      rw [hst]
      rcases hb : D (xNx xp n σ) with ⟨bb, σ2⟩
      rw [hb] at c1 c2
      cases bb with
      | false => exact ⟨fun _ => c1 rfl, fun z => absurd z (by simp)⟩
      | true =>
        obtain ⟨f3, tk3, num3, mn3, pd3, o3, y1, y2, y3⟩ := c2 rfl
        replace y3 : (xNx xp n σ).2.1 + 1 ≤ σ2.2.1 := y3
        replace y2 : EX n 3 3 σ2 tk3 num3 pd3 (30 :: ws) o3 f3 m := y2
        refine ⟨fun z => absurd z (by simp), fun _ => ⟨f3, tk3, num3, mn3, pd3 ++ [30], o3, ?_, ?_, ?_⟩⟩
        · rw [y1, show pd3 ++ 30 :: ws = (pd3 ++ [30]) ++ ws by rw [List.append_assoc]; rfl]
          rfl
        · exact y2.put hn (by decide) (Or.inr (Or.inr (by decide))) (dpt_un y2.2.2.2.2.2.1 (by decide) (by decide)) (Int32.le_refl _) (by decide) (y2.2.2.2.2.2.2.2.app _)
        · show σ.2.1 + 1 ≤ σ2.2.1
          omega
  · rw [if_neg ht]
    obtain ⟨c1, c2⟩ := hK f σ tk num true ws o m hent hop hto (fun _ => ht)
    refine ⟨c1, fun z => ?_⟩
    obtain ⟨f3, tk3, num3, mn3, pd3, o3, y1, y2, y3⟩ := c2 z
    obtain ⟨h1, h2, h3, h4, h5, h6, h7, h8⟩ := y2
    exact ⟨f3, tk3, num3, mn3, pd3, o3, y1, ⟨h1, h2, h3, h4, h5, h6, fun w hw => Int32.le_trans (by decide) (h7 w hw), fun _ => h8.1 (by decide), fun _ => h8.2.1 (by decide), fun _ q => h8.2.2.1 (by decide) q, fun z => absurd z (by decide), fun z => absurd z (by decide)⟩, y3⟩
/-- behind an E: what is not its end is a fault -/
theorem stuck {f : Nat} {σ : XS} {tk num : Int32} {mn : Bool} {pd ws : List Int32} {o : List (Int32 × Int32)} {m : Nat} (h : EX n 1 1 σ tk num pd ws o f m) (hws : TO 1 ws) (hsh : ¬ σ.1 = 41 ∨ ws = []) (hend : ¬ σ.1 = 256 ∨ ¬ ws = []) : SY tp n f σ tk num false mn (pd ++ ws) o = (nI σ.2.1, []) := by
  obtain ⟨h1, h2, h3, h4, h5, h6, h7, h8⟩ := h
  obtain ⟨f0, rfl⟩ : ∃ f0, f = f0 + 1 := ⟨f - 1, by have := h1.2.1; omega⟩
  have hdone : doneL 1 (pd ++ ws) o = (ws, FLU pd o) := done_flu hws pd o h7
  show sy tp n (f0 + 1) σ.2.2.1 tk (nI σ.2.1) num false mn (pd ++ ws) o = _
  have hat := h1.1
  rcases hat with q | q | ⟨k, hk, q1, q2, q3⟩ | q | q
  · have hw : ¬ ws = [] := hend.resolve_left (fun z => z q.1)
    rw [sy, q.2, if_neg (by decide), if_pos rfl, hdone]
    cases ws with
    | nil => exact absurd rfl hw
    | cons w ws => rfl
  · rw [sy, q.2.1, if_neg (by decide), if_neg (by decide), if_pos (by decide)]
  · have hz : ¬ nI (100 + k) = 6 ∧ ¬ nI (100 + k) = 0 ∧ ¬ nI (100 + k) < 10 ∧ 70 ≤ nI (100 + k) := by
      have : ∀ k, k < 13 → ¬ nI (100 + k) = 6 ∧ ¬ nI (100 + k) = 0 ∧ ¬ nI (100 + k) < 10 ∧ 70 ≤ nI (100 + k) := by decide
      exact this k hk
    rw [sy, q3, if_neg hz.1, if_neg hz.2.1, if_neg hz.2.2.1, if_pos hz.2.2.2]
  · simp only [List.mem_cons, List.not_mem_nil, or_false, Prod.mk.injEq] at q
    have cmp : (σ.1 = 60 ∨ σ.1 = 61 ∨ σ.1 = 62) → (tk = 40 ∨ tk = 41 ∨ tk = 42) → sy tp n (f0 + 1) σ.2.2.1 tk (nI σ.2.1) num false mn (pd ++ ws) o = (nI σ.2.1, []) := fun z1 z2 => by
      obtain ⟨pa, c, pb, e, e1, e2⟩ := h8.2.2.1 (by decide) z1
      have hd5 : doneL 5 (pd ++ ws) o = (c :: (pb ++ ws), FLU pa o) := by
        rw [e, List.append_assoc, List.cons_append]
        exact done_flu (fun w ws' q => by cases q; rw [e2]; decide) pa o e1
      have hj : ¬ tk = 6 ∧ ¬ tk = 0 ∧ ¬ tk < 10 ∧ ¬ 70 ≤ tk ∧ ¬ tk = 30 ∧ mTight tk = 4 := by
        rcases z2 with z | z | z <;> rw [z] <;> decide
      rw [sy, if_neg hj.1, if_neg hj.2.1, if_neg hj.2.2.1, if_neg hj.2.2.2.1, if_neg hj.2.2.2.2.1, if_pos hj.2.2.2.2.2, hd5, if_pos (by simp [topIs4, e2])]
    rcases q with q | q | q | q | q | q | q | q | q | q | q
    · exact absurd q.1 (h8.2.2.2.1 (by decide))
    · exact absurd q.1 (h8.2.2.2.2 (by decide))
    · rw [sy, q.2, if_neg (by decide), if_neg (by decide), if_neg (by decide), if_neg (by decide), if_pos rfl]
    · rw [sy, q.2, if_neg (by decide), if_neg (by decide), if_pos (by decide)]
    · have hw : ws = [] := hsh.resolve_left (fun z => z q.1)
      rw [sy, q.2, if_pos rfl, hdone, hw]
    · exact absurd q.1 (h8.1 (by decide))
    · exact absurd q.1 (h8.2.1 (by decide)).1
    · exact absurd q.1 (h8.2.1 (by decide)).2
    · exact cmp (Or.inl q.1) (Or.inl q.2)
    · exact cmp (Or.inr (Or.inl q.1)) (Or.inr (Or.inl q.2))
    · exact cmp (Or.inr (Or.inr q.1)) (Or.inr (Or.inr q.2))
  · rw [sy, q.1, if_neg (by decide), if_neg (by decide), if_pos (by decide)]
theorem stN : ∀ k, k < 13 → stM (nI (100 + k)) 0 = -1 - nI k ∧ actW (nI (100 + k)) true = 2 ∧ actW (nI (100 + k)) false = 2 ∧ 100 ≤ nI (100 + k) ∧ ¬ nI (100 + k) = 1 := by decide
theorem sim_opnd {d : Nat} (hd : d ≤ 12) (hTB : ∀ j, j < n → TB (xp j) (tp j)) (hn : n ≤ 200) {E O : XF} (hE : 0 < d → SIM xp tp n 1 1 (nI (12 - d) + 1) M1 E) (hO : 0 < d → SIM xp tp n 100 7 (nI (12 - d) + 1) M4 O) : SIM xp tp n 100 7 (nI (12 - d)) M4 (xOpnd xp n d E O) := by
  intro f σ tk num mn ws o m hent hop hto hmn
  obtain ⟨h1, h2, h3, h4, h5, h6⟩ := hent
  obtain ⟨f0, rfl⟩ : ∃ f0, f = f0 + 1 := ⟨f - 1, by have := h1.2.1; omega⟩
  unfold xOpnd
  by_cases hv : σ.1 = 257 ∨ σ.1 = 258
  · rw [if_pos hv]
    have hlt := h1.2.2.2 (by rcases hv with z | z <;> rw [z] <;> decide)
    have hv2 : actW tk mn = 2 ∧ stM tk num = (if σ.1 = 257 then σ.2.2.2.1 else -1 - σ.2.2.2.1) ∧ stG tk num ∧ (tk = 1 ∨ 100 ≤ tk) := by
      rcases h1.1 with q | q | ⟨k, hk, q1, q2, q3⟩ | q | q
      · rcases hv with z | z <;> rw [q.1] at z <;> exact absurd z (by decide)
      · refine ⟨?_, ?_, Or.inl ⟨q.2.1, by rw [q.2.2.1]; exact q.2.2.2⟩, Or.inl q.2.1⟩
        · rw [q.2.1]; cases mn <;> decide
        · rw [q.2.1, if_pos q.1, ← q.2.2.1]; rfl
      · obtain ⟨a1, a2, a3, a4, a5⟩ := stN k hk
        refine ⟨?_, ?_, Or.inr (Or.inl ⟨k, hk, q3⟩), Or.inr (by rw [q3]; exact a4)⟩
        · rw [q3]; cases mn <;> assumption
        · rw [if_neg (by rw [q1]; decide), q2, q3, ← a1]
          unfold stM
          rw [if_neg a5, if_pos a4, if_neg a5]
      · exfalso
        simp only [List.mem_cons, List.not_mem_nil, or_false, Prod.mk.injEq] at q
        rcases hv with z | z <;> rw [z] at q <;> simp at q
      · exfalso
        rcases hv with z | z <;> rw [z] at q <;> exact q.2 (by decide)
    obtain ⟨w1, w2, w3, w4⟩ := hv2
    have hl : σ.2.2.2.2.length < 200 := by
      rw [h2, List.length_map]
      have := h1.2.2.1
      omega
    generalize (if σ.1 = 257 then σ.2.2.2.1 else -1 - σ.2.2.2.1) = w at w2
    obtain ⟨tk1, num1, e1, v1, q1, s1⟩ := nx_rel hTB (σ := xPu w σ) h1.2.2.1 num
    replace e1 : mTok tp n σ.2.2.1 num = (tk1, (xNx xp n (xPu w σ)).2.1, (xNx xp n (xPu w σ)).2.2.1, num1) := e1
    replace q1 : σ.2.2.1 ≤ (xNx xp n (xPu w σ)).2.1 := q1
    refine ⟨fun z => absurd z (by simp), fun _ => ⟨f0, tk1, num1, mn, [], (tk, num) :: o, ?_, ⟨v1, ?_, ?_, ?_, ?_, dpt_push h6 w4, (fun w hw => (by cases hw)), fun z => absurd z (by decide), fun z => absurd z (by decide), fun z => absurd z (by decide), fun z => absurd z (by decide), fun z => absurd z (by decide)⟩, ?_⟩⟩
    · show sy tp n (f0 + 1) σ.2.2.1 tk (nI σ.2.1) num true mn ws o = _
      rw [sy, if_neg (by rw [w1]; decide), if_pos w1, e1]
      rfl
    · rw [s1]
      show (if σ.2.2.2.2.length < 200 then w :: σ.2.2.2.2 else σ.2.2.2.2) = _
      rw [if_pos hl, h2, ← w2]
      rfl
    · intro s hs
      rcases List.mem_cons.mp hs with z | z
      · rw [z]; exact w3
      · exact h3 s z
    · show o.length + 1 + 0 + ws.length ≤ (xNx xp n (xPu w σ)).2.1
      omega
    · show n + 1 ≤ f0 + (xNx xp n (xPu w σ)).2.1
      omega
    · show σ.2.1 + 1 ≤ (xNx xp n (xPu w σ)).2.1
      omega
  · rw [if_neg hv]
    by_cases hc : (σ.1 = 45 ∨ σ.1 = 40) ∧ ¬ d = 0
    · rw [if_pos hc]
      have hlt := h1.2.2.2 (by rcases hc.1 with z | z <;> rw [z] <;> decide)
      have hd0 : 0 < d := by omega
      have hne : ¬ opn ws = 12 := fun z => by
        rw [hop] at z
        have := nI_inj (a := 12 - d) (b := 12) (by omega) (by decide) z
        omega
      obtain ⟨tk1, num1, e1, v1, q1, s1⟩ := nx_rel hTB h1.2.2.1 num
      by_cases h40 : σ.1 = 40
      · rw [if_pos h40]
        have hk : tk = 5 := h1.1.at.2.2.2.2.2.2.2.2.2.1 h40
        subst hk
        have hst : SY tp n (f0 + 1) σ 5 num true mn ws o = SY tp n f0 (xNx xp n σ) tk1 num1 true true (5 :: ws) o := by
          show sy tp n (f0 + 1) σ.2.2.1 5 (nI σ.2.1) num true mn ws o = _
          rw [sy, if_pos (by cases mn <;> decide), if_neg hne, if_neg (by decide), e1]
        have hto1 : TO 1 (5 :: ws) := fun w ws' e => by cases e; decide
        obtain ⟨c1, c2⟩ := hE hd0 f0 _ tk1 num1 true (5 :: ws) o m ⟨v1, by rw [s1]; exact h2, h3, by rw [List.length_cons]; omega, by omega, h6⟩ (by rw [opn, if_pos (by decide), hop]) hto1 rfl
        rw [hst]
        unfold xBr
        rcases hb : E (xNx xp n σ) with ⟨bb, σ2⟩
        rw [hb] at c1 c2
        cases bb with
        | false => exact ⟨fun _ => c1 rfl, fun z => absurd z (by simp)⟩
        | true =>
          obtain ⟨f3, tk3, num3, mn3, pd3, o3, y1, y2, y3⟩ := c2 rfl
          replace y3 : (xNx xp n σ).2.1 + 1 ≤ σ2.2.1 := y3
          replace y2 : EX n 1 1 σ2 tk3 num3 pd3 (5 :: ws) o3 f3 m := y2
          replace y1 : SY tp n f0 (xNx xp n σ) tk1 num1 true true (5 :: ws) o = SY tp n f3 σ2 tk3 num3 false mn3 (pd3 ++ 5 :: ws) o3 := y1
          rw [y1]
          simp only [if_true]
          by_cases h41 : σ2.1 = 41
          · rw [if_pos h41]
            obtain ⟨k1, k2, k3, k4, k5, k6, k7, k8⟩ := y2
            have hk : tk3 = 6 := k1.1.at.2.2.2.2.2.2.2.2.2.2 h41
            subst hk
            have hlt2 := k1.2.2.2 (by rw [h41]; decide)
            obtain ⟨f4, rfl⟩ : ∃ f4, f3 = f4 + 1 := ⟨f3 - 1, by have := k1.2.1; omega⟩
            obtain ⟨tk4, num4, e4, v4, q4, s4⟩ := nx_rel hTB k1.2.2.1 num3
            have hdone : doneL 1 (pd3 ++ 5 :: ws) o3 = (5 :: ws, FLU pd3 o3) := done_flu hto1 pd3 o3 k7
            rw [List.length_cons] at k4
            refine ⟨fun z => absurd z (by simp), fun _ => ⟨f4, tk4, num4, mn3, [], FLU pd3 o3, ?_, ⟨v4, by rw [s4]; exact k2, k3, by rw [FLU_len]; show _ + 0 + _ ≤ (xNx xp n σ2).2.1; omega, by show n + 1 ≤ f4 + (xNx xp n σ2).2.1; omega, k6, (fun w hw => (by cases hw)), fun z => absurd z (by decide), fun z => absurd z (by decide), fun z => absurd z (by decide), fun z => absurd z (by decide), fun z => absurd z (by decide)⟩, ?_⟩⟩
            · show sy tp n (f4 + 1) σ2.2.2.1 6 (nI σ2.2.1) num3 false mn3 (pd3 ++ 5 :: ws) o3 = _
              rw [sy, if_pos rfl, hdone, e4]
              rfl
            · show σ.2.1 + 1 ≤ (xNx xp n σ2).2.1
              omega
          · rw [if_neg h41]
            exact ⟨fun _ => ⟨stuck y2 hto1 (Or.inl h41) (Or.inr (by simp)), y2.1.2.1⟩, fun z => absurd z (by simp)⟩
      · rw [if_neg h40]
        have h45 : σ.1 = 45 := hc.1.resolve_right h40
        have hk : tk = 51 := h1.1.at.2.2.1 h45
        subst hk
        have hst : SY tp n (f0 + 1) σ 51 num true mn ws o = SY tp n f0 (xNx xp n σ) tk1 num1 true false (70 :: ws) o := by
          show sy tp n (f0 + 1) σ.2.2.1 51 (nI σ.2.1) num true mn ws o = _
          rw [sy, if_pos (by cases mn <;> decide), if_neg hne, if_pos rfl, e1]
        obtain ⟨c1, c2⟩ := hO hd0 f0 _ tk1 num1 false (70 :: ws) o m ⟨v1, by rw [s1]; exact h2, h3, by rw [List.length_cons]; omega, by omega, h6⟩ (by rw [opn, if_pos (by decide), hop]) (fun w ws' e => by cases e; decide) (fun z => absurd z (by decide))
        rw [hst]
        unfold xNg
        rcases hb : O (xNx xp n σ) with ⟨bb, σ2⟩
        rw [hb] at c1 c2
        cases bb with
        | false => exact ⟨fun _ => c1 rfl, fun z => absurd z (by simp)⟩
        | true =>
          obtain ⟨f3, tk3, num3, mn3, pd3, o3, y1, y2, y3⟩ := c2 rfl
          replace y3 : (xNx xp n σ).2.1 + 1 ≤ σ2.2.1 := y3
          replace y2 : EX n 7 7 σ2 tk3 num3 pd3 (70 :: ws) o3 f3 m := y2
          refine ⟨fun z => absurd z (by simp), fun _ => ⟨f3, tk3, num3, mn3, pd3 ++ [70], o3, ?_, ?_, ?_⟩⟩
          · rw [y1, show pd3 ++ 70 :: ws = (pd3 ++ [70]) ++ ws by rw [List.append_assoc]; rfl]
            rfl
          · exact y2.put hn (by decide) (Or.inr (Or.inr (by decide))) (dpt_un y2.2.2.2.2.2.1 (by decide) (by decide)) (Int32.le_refl _) (by decide) (y2.2.2.2.2.2.2.2.app _)
          · show σ.2.1 + 1 ≤ σ2.2.1
            omega
    · rw [if_neg hc]
      refine ⟨fun _ => ⟨?_, h1.2.1⟩, fun z => absurd z (by simp)⟩
      show sy tp n (f0 + 1) σ.2.2.1 tk (nI σ.2.1) num true mn ws o = (nI σ.2.1, [])
      have act0 : actW tk mn = 0 → sy tp n (f0 + 1) σ.2.2.1 tk (nI σ.2.1) num true mn ws o = (nI σ.2.1, []) := fun z => by
        rw [sy, if_neg (by rw [z]; decide), if_neg (by rw [z]; decide)]
      rcases h1.1 with q | q | ⟨k, hk, q1, q2, q3⟩ | q | q
      · rw [q.2] at act0 ⊢; exact act0 (by cases mn <;> decide)
      · exact absurd (Or.inl q.1) hv
      · exact absurd (Or.inr q1) hv
      · simp only [List.mem_cons, List.not_mem_nil, or_false, Prod.mk.injEq] at q
        have hop12 : (σ.1 = 45 ∨ σ.1 = 40) → opn ws = 12 := fun z => by
          have : d = 0 := by
            rcases Nat.eq_zero_or_pos d with y | y
            · exact y
            · exact absurd ⟨z, by omega⟩ hc
          rw [hop, this]
          rfl
        rcases q with q | q | q | q | q | q | q | q | q | q | q
        · rw [q.2] at act0 ⊢; exact act0 (by cases mn <;> decide)
        · rw [q.2] at act0 ⊢; exact act0 (by cases mn <;> decide)
        · cases mn with
          | true => exact absurd q.1 (hmn rfl)
          | false => rw [q.2] at act0 ⊢; exact act0 (by decide)
        · rw [sy, q.2, if_pos (by cases mn <;> decide), if_pos (hop12 (Or.inr q.1))]
        · rw [q.2] at act0 ⊢; exact act0 (by cases mn <;> decide)
        · rw [q.2] at act0 ⊢; exact act0 (by cases mn <;> decide)
        · rw [q.2] at act0 ⊢; exact act0 (by cases mn <;> decide)
        · rw [sy, q.2, if_pos (by cases mn <;> decide), if_pos (hop12 (Or.inl q.1))]
        · rw [q.2] at act0 ⊢; exact act0 (by cases mn <;> decide)
        · rw [q.2] at act0 ⊢; exact act0 (by cases mn <;> decide)
        · rw [q.2] at act0 ⊢; exact act0 (by cases mn <;> decide)
      · rw [q.1] at act0 ⊢; exact act0 (by cases mn <;> decide)
theorem sim_top {d : Nat} (hd : d ≤ 12) (hTB : ∀ j, j < n → TB (xp j) (tp j)) (hn : n ≤ 200) {p : XF × XF × XF} (h : 0 < d → SIM xp tp n 1 1 (nI (12 - d) + 1) M1 p.1 ∧ SIM xp tp n 4 3 (nI (12 - d) + 1) M1 p.2.1 ∧ SIM xp tp n 100 7 (nI (12 - d) + 1) M4 p.2.2) : SIM xp tp n 1 1 (nI (12 - d)) M1 (xTop xp n d p).1 ∧ SIM xp tp n 4 3 (nI (12 - d)) M1 (xTop xp n d p).2.1 ∧ SIM xp tp n 100 7 (nI (12 - d)) M4 (xTop xp n d p).2.2 := by
  have s7 := sim_opnd hd hTB hn (fun z => (h z).1) (fun z => (h z).2.2)
  have s4 := sim_comp hTB hn (sim_sum hTB hn (sim_prod hTB hn s7))
  have s3 := sim_den hd hTB hn s4 (fun z => (h z).2.1)
  exact ⟨sim_either hTB hn (sim_both hTB hn s3), s3, s7⟩
theorem sim_lv (hTB : ∀ j, j < n → TB (xp j) (tp j)) (hn : n ≤ 200) : ∀ d, d ≤ 12 → SIM xp tp n 1 1 (nI (12 - d)) M1 (xLv xp n d).1 ∧ SIM xp tp n 4 3 (nI (12 - d)) M1 (xLv xp n d).2.1 ∧ SIM xp tp n 100 7 (nI (12 - d)) M4 (xLv xp n d).2.2
  | 0, hd => sim_top hd hTB hn (fun z => absurd z (Nat.lt_irrefl _))
  | d + 1, hd => by
    have ih := sim_lv hTB hn d (by omega)
    rw [← (opn12 (d := d) (by omega)).resolve_right (by omega)] at ih
    exact sim_top hd hTB hn (fun _ => ih)
/-- a tape is read alike -/
theorem read_rel (hTB : ∀ j, j < n → TB (xp j) (tp j)) (hn : n ≤ 200) (v num : Int32) : xRdF xp n v = (mReadR tp n num).1 ∧ ((mReadR tp n num).1 = -1 ∨ ∃ q, q ≤ 200 ∧ (mReadR tp n num).1 = nI q) ∧ ((mReadR tp n num).1 = -1 → (xRd xp n v).2.2.2.2.2 = stL (mReadR tp n num).2 ∧ (∀ s ∈ (mReadR tp n num).2, stG s.1 s.2) ∧ (mReadR tp n num).2.length ≤ 200 ∧ dpt (mReadR tp n num).2 = some 1) := by
  obtain ⟨tk1, num1, e1, v1, q1, s1⟩ := nx_rel hTB (σ := (0, 0, 0, v, [])) (Nat.zero_le _) num
  replace e1 : mTok tp n 0 num = (tk1, (xNx xp n (0, 0, 0, v, [])).2.1, (xNx xp n (0, 0, 0, v, [])).2.2.1, num1) := e1
  have hst : mReadR tp n num = SY tp n (n + 1) (xNx xp n (0, 0, 0, v, [])) tk1 num1 true true [] [] := by
    unfold mReadR
    rw [e1]
  obtain ⟨c1, c2⟩ := (sim_lv hTB hn 12 (Nat.le_refl _)).1 (n + 1) (xNx xp n (0, 0, 0, v, [])) tk1 num1 true [] [] 0 ⟨v1, s1, fun s hs => (by cases hs), Nat.zero_le _, by omega, rfl⟩ rfl (fun w ws' e => (by cases e)) rfl
  unfold xRdF
  rw [hst]
  change ((xRd xp n v).1 = false → _ = (nI (xRd xp n v).2.2.1, []) ∧ (xRd xp n v).2.2.1 ≤ n) at c1
  change ((xRd xp n v).1 = true → ∃ (f2 : Nat) (tk2 num2 : Int32) (mn2 : Bool) (pd : List Int32) (o2 : List (Int32 × Int32)), _ = SY tp n f2 (xRd xp n v).2 tk2 num2 false mn2 (pd ++ []) o2 ∧ EX n 1 1 (xRd xp n v).2 tk2 num2 pd [] o2 f2 0 ∧ _ ≤ (xRd xp n v).2.2.1) at c2
  have nneg : ∀ q : Nat, q ≤ 200 → ¬ nI q = -1 := fun q hq z => by
    have := nI_pos' (n := q) (by omega)
    rw [z] at this
    exact absurd this (by decide)
  generalize xRd xp n v = rd at c1 c2
  obtain ⟨bb, σ⟩ := rd
  cases bb with
  | false =>
    have hq : σ.2.1 ≤ 200 := by
      exact Nat.le_trans (c1 rfl).2 hn
    rw [(c1 rfl).1]
    exact ⟨by rw [if_neg (by simp)], Or.inr ⟨_, hq, rfl⟩, fun z => absurd z (nneg _ hq)⟩
  | true =>
    obtain ⟨f2, tk2, num2, mn2, pd2, o2, g1, g2, g3⟩ := c2 rfl
    replace g2 : EX n 1 1 σ tk2 num2 pd2 [] o2 f2 0 := g2
    have hq : σ.2.1 ≤ 200 := Nat.le_trans g2.1.2.1 hn
    rw [g1]
    by_cases he : σ.1 = 256
    · obtain ⟨k1, k2, k3, k4, k5, k6, k7, k8⟩ := g2
      obtain ⟨f0, rfl⟩ : ∃ f0, f2 = f0 + 1 := ⟨f2 - 1, by have := k1.2.1; omega⟩
      have hk : tk2 = 0 := by
        have hz := k1.1
        rw [he] at hz
        rcases hz with q | q | ⟨_, _, q, _⟩ | q | q
        · exact q.2
        · exact absurd q.1 (by decide)
        · exact absurd q (by decide)
        · simp at q
        · exact absurd (by decide) q.2
      subst hk
      have hdone : doneL 1 (pd2 ++ []) o2 = ([], FLU pd2 o2) := done_flu (fun w ws' e => (by cases e)) pd2 o2 k7
      have hfin : SY tp n (f0 + 1) σ 0 num2 false mn2 (pd2 ++ []) o2 = (-1, FLU pd2 o2) := by
        show sy tp n (f0 + 1) σ.2.2.1 0 (nI σ.2.1) num2 false mn2 (pd2 ++ []) o2 = _
        rw [sy, if_neg (by decide), if_pos rfl, hdone]
      rw [hfin]
      refine ⟨by simp [he], Or.inl rfl, fun _ => ⟨k2, k3, ?_, k6⟩⟩
      show (FLU pd2 o2).length ≤ 200
      rw [FLU_len]
      have : ([] : List Int32).length = 0 := rfl
      omega
    · have hfin := stuck (tp := tp) (mn := mn2) g2 (fun w ws' e => (by cases e)) (Or.inr rfl) (Or.inl he)
      replace hfin : SY tp n f2 σ tk2 num2 false mn2 (pd2 ++ []) o2 = (nI σ.2.1, []) := hfin
      rw [hfin]
      exact ⟨by simp [he], Or.inr ⟨_, hq, rfl⟩, fun z => absurd z (nneg _ hq)⟩
end
