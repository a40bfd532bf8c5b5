/-! ===== TOKENS: one behind the other, on both sides ===== -/
theorem xNum_val {xp tp : Nat → Int32} {q : Nat} : ∀ k, k ≤ 5 → (∀ j, j < k → (48 ≤ xp (q + j) ∧ xp (q + j) ≤ 57) ∧ tp (q + j) = xp (q + j)) → ∃ m, m < 10 ^ k ∧ xNum xp q k = nI m ∧ nAcc tp q k = nI m
  | 0, _, _ => ⟨0, by decide, rfl, rfl⟩
  | k + 1, hk, h => by
    obtain ⟨m, hm, e1, e2⟩ := xNum_val k (by omega) (fun j hj => h j (by omega))
    obtain ⟨⟨h1, h2⟩, h3⟩ := h k (by omega)
    have a1 := i_le.mp h1
    have a2 := i_le.mp h2
    rw [show (48 : Int32).toInt = 48 from rfl] at a1
    rw [show (57 : Int32).toInt = 57 from rfl] at a2
    obtain ⟨d, hd, ed⟩ := vp_in_of (n := 58) ((vp_in_iff (x := xp (q + k))).mpr ⟨by omega, by omega⟩) (by omega)
    have e3 : (xp (q + k)).toInt = d := by rw [ed]; exact nI_toInt (by omega)
    have e4 : nI m * 10 + nI d - 48 = nI (m * 10 + (d - 48)) := by
      rw [show (10 : Int32) = nI 10 from rfl, show (48 : Int32) = nI 48 from rfl, nI_mul, nI_add, nI_sub (by omega)]
      congr 1
      omega
    refine ⟨m * 10 + (d - 48), by rw [Nat.pow_succ]; omega, ?_, ?_⟩
    · rw [xNum, e1, ed, e4]
    · rw [nAcc, if_pos (by omega), e2, h3, ed, Int32.mul_comm, e4]
theorem sign_no {t : Int32} (h : ∀ c ∈ ([40, 41, 42, 43, 45, 60, 61, 62] : List Int32), ¬ t = c) : mSignOf t = 2 := by
  unfold mSignOf
  rw [if_neg (h 40 (by decide)), if_neg (h 41 (by decide)), if_neg (h 42 (by decide)), if_neg (h 43 (by decide)), if_neg (h 45 (by decide)), if_neg (h 60 (by decide)), if_neg (h 61 (by decide)), if_neg (h 62 (by decide))]
theorem sign_yes : ∀ c ∈ ([40, 41, 42, 43, 45, 60, 61, 62] : List Int32), (c, mSignOf c) ∈ ([(260, 20), (261, 10), (262, 30), (40, 5), (41, 6), (42, 60), (43, 50), (45, 51), (60, 40), (61, 41), (62, 42)] : List (Int32 × Int32)) ∧ 0 ≤ c ∧ c ≤ 127 := by decide
theorem word_tk : ∀ w, w < 16 → (w < 13 → wTok w = nI (100 + w)) ∧ (¬ w < 13 → (nI (247 + w), wTok w) ∈ ([(260, 20), (261, 10), (262, 30), (40, 5), (41, 6), (42, 60), (43, 50), (45, 51), (60, 40), (61, 41), (62, 42)] : List (Int32 × Int32))) := by decide
theorem tok_rel {xp tp : Nat → Int32} {n i : Nat} (hTB : ∀ j, j < n → TB (xp j) (tp j)) (hi : i ≤ n) (v num : Int32) :
    (mTok tp n i num).2.1 = (xTok xp n i v).2.1 ∧ (mTok tp n i num).2.2.1 = (xTok xp n i v).2.2.1 ∧ TK (xTok xp n i v).1 (xTok xp n i v).2.2.2 (mTok tp n i num).1 (mTok tp n i num).2.2.2 ∧ i ≤ (xTok xp n i v).2.1 ∧ (xTok xp n i v).2.1 ≤ n ∧ (xTok xp n i v).2.2.1 ≤ n ∧ (¬ (xTok xp n i v).1 = 256 → (xTok xp n i v).2.1 < (xTok xp n i v).2.2.1) := by
  have eq : pBl tp n i = pBl xp n i := scan_cong _ _ (fun j h1 h2 => ((hTB j (by omega)).c (by decide) (by decide)).symm)
  have hq := scan_le (fun j => xp j = 32) (n - i) i
  change i ≤ pBl xp n i ∧ pBl xp n i ≤ i + (n - i) at hq
  unfold mTok xTok
  rw [eq]
  generalize pBl xp n i = q at hq
  by_cases c0 : q = n
  · rw [if_pos c0, if_pos c0]
    exact ⟨rfl, rfl, Or.inl ⟨rfl, rfl⟩, hi, Nat.le_refl _, Nat.le_refl _, fun z => absurd rfl z⟩
  · rw [if_neg c0, if_neg c0]
    have hqn : q < n := by omega
    have hb := hTB q hqn
    have eL : eLt tp n q = eLt xp n q := scan_cong _ _ (fun j h1 h2 => ((hTB j (by omega)).r (by decide) (by decide)).symm)
    have eD : eDg tp n q = eDg xp n q := scan_cong _ _ (fun j h1 h2 => ((hTB j (by omega)).r (by decide) (by decide)).symm)
    rw [eL, eD]
    by_cases cd : 48 ≤ xp q ∧ xp q ≤ 57
    · have hdt := (hb.r (a := 48) (b := 57) (by decide) (by decide)).mp cd
      have hnl : ¬ (97 ≤ tp q ∧ tp q ≤ 122) := fun z => absurd (Int32.le_trans z.1 hdt.2) (by decide)
      rw [if_pos cd, if_neg hnl, if_pos hdt]
      have hs := scan_le (fun j => 48 ≤ xp j ∧ xp j ≤ 57) (n - q) q
      change q ≤ eDg xp n q ∧ eDg xp n q ≤ q + (n - q) at hs
      have hgo : q < eDg xp n q := by
        have z := scan_go (P := fun j => 48 ≤ xp j ∧ xp j ≤ 57) hqn cd
        have z2 := scan_le (fun j => 48 ≤ xp j ∧ xp j ≤ 57) (n - (q + 1)) (q + 1)
        unfold eDg
        rw [z]
        omega
      have hall : ∀ j, q ≤ j → j < eDg xp n q → 48 ≤ xp j ∧ xp j ≤ 57 := fun j h1 h2 => scan_all (P := fun j => 48 ≤ xp j ∧ xp j ≤ 57) (n - q) q j h1 h2
      generalize eDg xp n q = e at hs hgo hall
      refine ⟨rfl, rfl, ?_, hq.1, Nat.le_of_lt hqn, by show e ≤ n; omega, fun _ => hgo⟩
      show TK (if e - q ≤ 5 then 257 else 259) (xNum xp q (e - q)) (if e - q ≤ 5 then 1 else 2) (nAcc tp q (e - q))
      by_cases c5 : e - q ≤ 5
      · rw [if_pos c5, if_pos c5]
        obtain ⟨m, hm, m1, m2⟩ := xNum_val (xp := xp) (tp := tp) (q := q) (e - q) c5 (fun j hj => ⟨hall (q + j) (by omega) (by omega), (hTB (q + j) (by omega)).s (b := 57) (by decide) (hall (q + j) (by omega) (by omega)).2⟩)
        rw [m1, m2]
        have h10 : 10 ^ (e - q) ≤ 10 ^ 5 := Nat.pow_le_pow_right (by decide) c5
        exact Or.inr (Or.inl ⟨rfl, rfl, rfl, nI_pos' (by omega)⟩)
      · rw [if_neg c5, if_neg c5]
        exact Or.inr (Or.inr (Or.inr (Or.inr ⟨rfl, by decide⟩)))
    · have hndt : ¬ (48 ≤ tp q ∧ tp q ≤ 57) := fun z => cd ((hb.r (by decide) (by decide)).mpr z)
      rw [if_neg cd]
      by_cases cl : 97 ≤ xp q ∧ xp q ≤ 122
      · have hlt := (hb.r (a := 97) (b := 122) (by decide) (by decide)).mp cl
        rw [if_pos cl, if_pos hlt]
        have hs := scan_le (fun j => 97 ≤ xp j ∧ xp j ≤ 122) (n - q) q
        change q ≤ eLt xp n q ∧ eLt xp n q ≤ q + (n - q) at hs
        have hgo : q < eLt xp n q := by
          have z := scan_go (P := fun j => 97 ≤ xp j ∧ xp j ≤ 122) hqn cl
          have z2 := scan_le (fun j => 97 ≤ xp j ∧ xp j ≤ 122) (n - (q + 1)) (q + 1)
          unfold eLt
          rw [z]
          omega
        have hall : ∀ j, q ≤ j → j < eLt xp n q → 97 ≤ xp j ∧ xp j ≤ 122 := fun j h1 h2 => scan_all (P := fun j => 97 ≤ xp j ∧ xp j ≤ 122) (n - q) q j h1 h2
        generalize eLt xp n q = e at hs hgo hall
        refine ⟨rfl, rfl, ?_, hq.1, Nat.le_of_lt hqn, by show e ≤ n; omega, fun _ => hgo⟩
        show TK (xWd xp q e v 16 0).1 (xWd xp q e v 16 0).2 (if e - q ≤ 7 then mWordOf (wAcc tp q (e - q)) else 2) num
        have hallt : ∀ j, q ≤ j → j < e → tp j = xp j := fun j h1 h2 => (hTB j (by omega)).s (b := 122) (by decide) (hall j h1 h2).2
        have hdl : ∀ j, j < e - q → 97 ≤ tp (q + j) ∧ tp (q + j) ≤ 122 := fun j hj => by rw [hallt (q + j) (by omega) (by omega)]; exact hall (q + j) (by omega) (by omega)
        have hxl : ∀ j, j < e - q → 97 ≤ xp (q + j) ∧ xp (q + j) ≤ 122 := fun j hj => hall (q + j) (by omega) (by omega)
        have erd : rdl tp q (e - q) = rdl xp q (e - q) := (rdl_eq _ hdl hxl).mpr (fun j hj => hallt (q + j) (by omega) (by omega))
        by_cases c7 : e - q ≤ 7
        · rw [if_pos c7, wAcc_val _ c7 hdl, erd]
          have hV := rval_lt _ (rdl_dig _ hxl)
          rw [rdl_len] at hV
          have h27 := pow27 (e - q) (by omega)
          by_cases hex : ∃ w, w < 16 ∧ rval (rdl xp q (e - q)) = wCode w
          · obtain ⟨w, hw, ew⟩ := hex
            have hisw := (isW_iff hw hall hgo).mpr ⟨c7, ew⟩
            rw [xWd_yes hisw 16 0 (Nat.zero_le _) (by omega) (fun w' h1 h2 z => by
              have z2 := ((isW_iff (show w' < 16 by omega) hall hgo).mp z).2
              have := wCode_inj w' (by omega) w hw (z2.symm.trans ew)
              omega), ew, (wtab w hw).2.2.2.2]
            by_cases c13 : w < 13
            · show TK (if w < 13 then 258 else nI (247 + w)) (nI w) (wTok w) num
              rw [if_pos c13, (word_tk w hw).1 c13]
              exact Or.inr (Or.inr (Or.inl ⟨w, c13, rfl, rfl, rfl⟩))
            · show TK (if w < 13 then 258 else nI (247 + w)) (nI w) (wTok w) num
              rw [if_neg c13]
              exact Or.inr (Or.inr (Or.inr (Or.inl ((word_tk w hw).2 c13))))
          · rw [xWd_no 16 0 (fun w h1 h2 z => hex ⟨w, by omega, ((isW_iff (by omega) hall hgo).mp z).2⟩), word_no (by omega) (fun w hw z => hex ⟨w, hw, z⟩)]
            exact Or.inr (Or.inr (Or.inr (Or.inr ⟨rfl, (by decide : ¬ (259 : Int32) ∈ ([256, 257, 258, 260, 261, 262, 40, 41, 42, 43, 45, 60, 61, 62] : List Int32))⟩)))
        · rw [if_neg c7, xWd_no 16 0 (fun w h1 h2 z => c7 ((isW_iff (show w < 16 by omega) hall hgo).mp z).1)]
          exact Or.inr (Or.inr (Or.inr (Or.inr ⟨rfl, (by decide : ¬ (259 : Int32) ∈ ([256, 257, 258, 260, 261, 262, 40, 41, 42, 43, 45, 60, 61, 62] : List Int32))⟩)))
      · have hnlt : ¬ (97 ≤ tp q ∧ tp q ≤ 122) := fun z => cl ((hb.r (by decide) (by decide)).mpr z)
        rw [if_neg cl, if_neg hnlt, if_neg hndt]
        refine ⟨rfl, rfl, ?_, hq.1, Nat.le_of_lt hqn, by show q + 1 ≤ n; omega, fun _ => Nat.lt_succ_self _⟩
        show TK (xp q) v (mSignOf (tp q)) num
        by_cases hs : xp q ∈ ([40, 41, 42, 43, 45, 60, 61, 62] : List Int32)
        · obtain ⟨s1, s2, s3⟩ := sign_yes _ hs
          rw [(hb.c s2 s3).mp rfl]
          exact Or.inr (Or.inr (Or.inr (Or.inl s1)))
        · refine Or.inr (Or.inr (Or.inr (Or.inr ⟨sign_no (fun c hc z => ?_), fun z => ?_⟩)))
          · obtain ⟨-, s2, s3⟩ := sign_yes c hc
            exact hs (by rw [(hb.c s2 s3).mpr z]; exact hc)
          · have h255 := hb.1.2
            simp only [List.mem_cons, List.not_mem_nil, or_false] at z hs
            have big : ∀ c : Int32, 255 < c → ¬ xp q = c := fun c hc e => by rw [e] at h255; exact absurd h255 (i_nle.mpr hc)
            rcases z with z | z | z | z | z | z | z
            · exact big 256 (by decide) z
            · exact big 257 (by decide) z
            · exact big 258 (by decide) z
            · exact big 260 (by decide) z
            · exact big 261 (by decide) z
            · exact big 262 (by decide) z
            · exact hs z
