/-! ===== THE REFERENCE'S READER: leaves, advance ===== -/
theorem lcq (x y : Int64) : lg_cmp x y = 0 ↔ x = y := by
  unfold lg_cmp
  by_cases h1 : x > y
  · rw [if_pos h1]
    constructor
    · intro h; exact absurd h (by decide)
    · intro h; subst h; exact absurd h1 (Int64.lt_irrefl)
  · rw [if_neg h1]
    by_cases h2 : x = y
    · simp [h2]
    · rw [if_neg h2]
      constructor
      · intro h; exact absurd h (by decide)
      · intro h; exact absurd h h2
theorem u2_same {N : WNm} {i k : Nat} {v : Int32} (h : N i k = v) : u2 N i k v = N := by
  funext a b
  by_cases e : a = i ∧ b = k
  · rw [e.1, e.2, u2_eq, h]
  · rw [u2_ne e]
theorem u2_u2 (N : WNm) (i k : Nat) (v w : Int32) : u2 (u2 N i k v) i k w = u2 N i k w := by
  funext a b
  by_cases e : a = i ∧ b = k <;> simp [u2, e]

theorem cM_isLetter {l : Launch} {g : WGp} (hg : GOK g) {sh : WSh} {N : WNm} (v : Int32) : CT l g yX7_isLetter cX7_isLetter 1 (some .boolean) (RM 1 0 0) [.int v] sh N (QF g sh N (b2 (97 ≤ v ∧ v ≤ 122))) := by
  refine ent hg (by decide +kernel) (Nat.le_of_ble_eq_true rfl) ?_
  intro p e s m args below meth c C hname
  refine j_iload_n C dX7_isLetter_0 rfl ?_
  refine j_bipush C dX7_isLetter_1 (v := 97) (by decide) ?_
  refine j_icmp_lt (tgt := 16) C dX7_isLetter_3 (by decide) (fun h3 => ?_) (fun h3 => ?_)
  · skip
    refine j_iconst C dX7_isLetter_16 (v := 0) (by decide) ?_
    refine j_iret C dX7_isLetter_17 rfl ⟨rfl, rfl, ?_⟩
    first | exact (b2_t ⟨h3, h9⟩).symm | exact (b2_f (fun z => absurd z.1 (i_nle.mpr h3))).symm | exact (b2_f (fun z => absurd z.2 (i_nle.mpr h9))).symm
  · replace h3 := i_nlt.mp h3
    refine j_iload_n C dX7_isLetter_6 rfl ?_
    refine j_bipush C dX7_isLetter_7 (v := 122) (by decide) ?_
    refine j_icmp_gt (tgt := 16) C dX7_isLetter_9 (by decide) (fun h9 => ?_) (fun h9 => ?_)
    · skip
      refine j_iconst C dX7_isLetter_16 (v := 0) (by decide) ?_
      refine j_iret C dX7_isLetter_17 rfl ⟨rfl, rfl, ?_⟩
      first | exact (b2_t ⟨h3, h9⟩).symm | exact (b2_f (fun z => absurd z.1 (i_nle.mpr h3))).symm | exact (b2_f (fun z => absurd z.2 (i_nle.mpr h9))).symm
    · replace h9 := i_nlt.mp h9
      refine j_iconst C dX7_isLetter_12 (v := 1) (by decide) ?_
      refine j_goto (tgt := 17) C dX7_isLetter_13 (by decide) ?_
      refine j_iret C dX7_isLetter_17 rfl ⟨rfl, rfl, ?_⟩
      first | exact (b2_t ⟨h3, h9⟩).symm | exact (b2_f (fun z => absurd z.1 (i_nle.mpr h3))).symm | exact (b2_f (fun z => absurd z.2 (i_nle.mpr h9))).symm

theorem cM_isDigit {l : Launch} {g : WGp} (hg : GOK g) {sh : WSh} {N : WNm} (v : Int32) : CT l g yX7_isDigit cX7_isDigit 1 (some .boolean) (RM 1 0 0) [.int v] sh N (QF g sh N (b2 (48 ≤ v ∧ v ≤ 57))) := by
  refine ent hg (by decide +kernel) (Nat.le_of_ble_eq_true rfl) ?_
  intro p e s m args below meth c C hname
  refine j_iload_n C dX7_isDigit_0 rfl ?_
  refine j_bipush C dX7_isDigit_1 (v := 48) (by decide) ?_
  refine j_icmp_lt (tgt := 16) C dX7_isDigit_3 (by decide) (fun h3 => ?_) (fun h3 => ?_)
  · skip
    refine j_iconst C dX7_isDigit_16 (v := 0) (by decide) ?_
    refine j_iret C dX7_isDigit_17 rfl ⟨rfl, rfl, ?_⟩
    first | exact (b2_t ⟨h3, h9⟩).symm | exact (b2_f (fun z => absurd z.1 (i_nle.mpr h3))).symm | exact (b2_f (fun z => absurd z.2 (i_nle.mpr h9))).symm
  · replace h3 := i_nlt.mp h3
    refine j_iload_n C dX7_isDigit_6 rfl ?_
    refine j_bipush C dX7_isDigit_7 (v := 57) (by decide) ?_
    refine j_icmp_gt (tgt := 16) C dX7_isDigit_9 (by decide) (fun h9 => ?_) (fun h9 => ?_)
    · skip
      refine j_iconst C dX7_isDigit_16 (v := 0) (by decide) ?_
      refine j_iret C dX7_isDigit_17 rfl ⟨rfl, rfl, ?_⟩
      first | exact (b2_t ⟨h3, h9⟩).symm | exact (b2_f (fun z => absurd z.1 (i_nle.mpr h3))).symm | exact (b2_f (fun z => absurd z.2 (i_nle.mpr h9))).symm
    · replace h9 := i_nlt.mp h9
      refine j_iconst C dX7_isDigit_12 (v := 1) (by decide) ?_
      refine j_goto (tgt := 17) C dX7_isDigit_13 (by decide) ?_
      refine j_iret C dX7_isDigit_17 rfl ⟨rfl, rfl, ?_⟩
      first | exact (b2_t ⟨h3, h9⟩).symm | exact (b2_f (fun z => absurd z.1 (i_nle.mpr h3))).symm | exact (b2_f (fun z => absurd z.2 (i_nle.mpr h9))).symm

def mSignOf (b : Int32) : Int32 := (if b = 40 then 5 else (if b = 41 then 6 else (if b = 42 then 60 else (if b = 43 then 50 else (if b = 45 then 51 else (if b = 60 then 40 else (if b = 61 then 41 else (if b = 62 then 42 else 2))))))))

theorem cM_signOf {l : Launch} {g : WGp} (hg : GOK g) {sh : WSh} {N : WNm} (b : Int32) : CT l g yX7_signOf cX7_signOf 1 (some .int) (RM 1 0 0) [.int b] sh N (QF g sh N (mSignOf b)) := by
  refine ent hg (by decide +kernel) (Nat.le_of_ble_eq_true rfl) ?_
  intro p e s m args below meth c C hname
  refine j_iload_n C dX7_signOf_0 rfl ?_
  by_cases h1_40 : b = 40
  · refine j_tabIn (tgt := 108) C dX7_signOf_1 (by rw [h1_40]; decide) (by rw [h1_40]; decide) (off := 107) (by rw [h1_40]; decide) (by decide) ?_
    refine j_iconst C dX7_signOf_108 (v := 5) (by decide) ?_
    refine j_iret C dX7_signOf_109 rfl ⟨rfl, rfl, ?_⟩ <;> rw [mSignOf, if_pos h1_40]
  by_cases h1_41 : b = 41
  · refine j_tabIn (tgt := 110) C dX7_signOf_1 (by rw [h1_41]; decide) (by rw [h1_41]; decide) (off := 109) (by rw [h1_41]; decide) (by decide) ?_
    refine j_bipush C dX7_signOf_110 (v := 6) (by decide) ?_
    refine j_iret C dX7_signOf_112 rfl ⟨rfl, rfl, ?_⟩ <;> rw [mSignOf, if_neg h1_40, if_pos h1_41]
  by_cases h1_42 : b = 42
  · refine j_tabIn (tgt := 113) C dX7_signOf_1 (by rw [h1_42]; decide) (by rw [h1_42]; decide) (off := 112) (by rw [h1_42]; decide) (by decide) ?_
    refine j_bipush C dX7_signOf_113 (v := 60) (by decide) ?_
    refine j_iret C dX7_signOf_115 rfl ⟨rfl, rfl, ?_⟩ <;> rw [mSignOf, if_neg h1_40, if_neg h1_41, if_pos h1_42]
  by_cases h1_43 : b = 43
  · refine j_tabIn (tgt := 116) C dX7_signOf_1 (by rw [h1_43]; decide) (by rw [h1_43]; decide) (off := 115) (by rw [h1_43]; decide) (by decide) ?_
    refine j_bipush C dX7_signOf_116 (v := 50) (by decide) ?_
    refine j_iret C dX7_signOf_118 rfl ⟨rfl, rfl, ?_⟩ <;> rw [mSignOf, if_neg h1_40, if_neg h1_41, if_neg h1_42, if_pos h1_43]
  by_cases h1_44 : b = 44
  · refine j_tabIn (tgt := 131) C dX7_signOf_1 (by rw [h1_44]; decide) (by rw [h1_44]; decide) (off := 130) (by rw [h1_44]; decide) (by decide) ?_
    refine j_iconst C dX7_signOf_131 (v := 2) (by decide) ?_
    refine j_iret C dX7_signOf_132 rfl ⟨rfl, rfl, ?_⟩
    first | (rw [mSignOf, if_neg h1_40, if_neg h1_41, if_neg h1_42, if_neg h1_43]; done) | (subst_vars; decide)
  by_cases h1_45 : b = 45
  · refine j_tabIn (tgt := 119) C dX7_signOf_1 (by rw [h1_45]; decide) (by rw [h1_45]; decide) (off := 118) (by rw [h1_45]; decide) (by decide) ?_
    refine j_bipush C dX7_signOf_119 (v := 51) (by decide) ?_
    refine j_iret C dX7_signOf_121 rfl ⟨rfl, rfl, ?_⟩ <;> rw [mSignOf, if_neg h1_40, if_neg h1_41, if_neg h1_42, if_neg h1_43, if_pos h1_45]
  by_cases h1_46 : b = 46
  · refine j_tabIn (tgt := 131) C dX7_signOf_1 (by rw [h1_46]; decide) (by rw [h1_46]; decide) (off := 130) (by rw [h1_46]; decide) (by decide) ?_
    refine j_iconst C dX7_signOf_131 (v := 2) (by decide) ?_
    refine j_iret C dX7_signOf_132 rfl ⟨rfl, rfl, ?_⟩
    first | (rw [mSignOf, if_neg h1_40, if_neg h1_41, if_neg h1_42, if_neg h1_43, if_neg h1_45]; done) | (subst_vars; decide)
  by_cases h1_47 : b = 47
  · refine j_tabIn (tgt := 131) C dX7_signOf_1 (by rw [h1_47]; decide) (by rw [h1_47]; decide) (off := 130) (by rw [h1_47]; decide) (by decide) ?_
    refine j_iconst C dX7_signOf_131 (v := 2) (by decide) ?_
    refine j_iret C dX7_signOf_132 rfl ⟨rfl, rfl, ?_⟩
    first | (rw [mSignOf, if_neg h1_40, if_neg h1_41, if_neg h1_42, if_neg h1_43, if_neg h1_45]; done) | (subst_vars; decide)
  by_cases h1_48 : b = 48
  · refine j_tabIn (tgt := 131) C dX7_signOf_1 (by rw [h1_48]; decide) (by rw [h1_48]; decide) (off := 130) (by rw [h1_48]; decide) (by decide) ?_
    refine j_iconst C dX7_signOf_131 (v := 2) (by decide) ?_
    refine j_iret C dX7_signOf_132 rfl ⟨rfl, rfl, ?_⟩
    first | (rw [mSignOf, if_neg h1_40, if_neg h1_41, if_neg h1_42, if_neg h1_43, if_neg h1_45]; done) | (subst_vars; decide)
  by_cases h1_49 : b = 49
  · refine j_tabIn (tgt := 131) C dX7_signOf_1 (by rw [h1_49]; decide) (by rw [h1_49]; decide) (off := 130) (by rw [h1_49]; decide) (by decide) ?_
    refine j_iconst C dX7_signOf_131 (v := 2) (by decide) ?_
    refine j_iret C dX7_signOf_132 rfl ⟨rfl, rfl, ?_⟩
    first | (rw [mSignOf, if_neg h1_40, if_neg h1_41, if_neg h1_42, if_neg h1_43, if_neg h1_45]; done) | (subst_vars; decide)
  by_cases h1_50 : b = 50
  · refine j_tabIn (tgt := 131) C dX7_signOf_1 (by rw [h1_50]; decide) (by rw [h1_50]; decide) (off := 130) (by rw [h1_50]; decide) (by decide) ?_
    refine j_iconst C dX7_signOf_131 (v := 2) (by decide) ?_
    refine j_iret C dX7_signOf_132 rfl ⟨rfl, rfl, ?_⟩
    first | (rw [mSignOf, if_neg h1_40, if_neg h1_41, if_neg h1_42, if_neg h1_43, if_neg h1_45]; done) | (subst_vars; decide)
  by_cases h1_51 : b = 51
  · refine j_tabIn (tgt := 131) C dX7_signOf_1 (by rw [h1_51]; decide) (by rw [h1_51]; decide) (off := 130) (by rw [h1_51]; decide) (by decide) ?_
    refine j_iconst C dX7_signOf_131 (v := 2) (by decide) ?_
    refine j_iret C dX7_signOf_132 rfl ⟨rfl, rfl, ?_⟩
    first | (rw [mSignOf, if_neg h1_40, if_neg h1_41, if_neg h1_42, if_neg h1_43, if_neg h1_45]; done) | (subst_vars; decide)
  by_cases h1_52 : b = 52
  · refine j_tabIn (tgt := 131) C dX7_signOf_1 (by rw [h1_52]; decide) (by rw [h1_52]; decide) (off := 130) (by rw [h1_52]; decide) (by decide) ?_
    refine j_iconst C dX7_signOf_131 (v := 2) (by decide) ?_
    refine j_iret C dX7_signOf_132 rfl ⟨rfl, rfl, ?_⟩
    first | (rw [mSignOf, if_neg h1_40, if_neg h1_41, if_neg h1_42, if_neg h1_43, if_neg h1_45]; done) | (subst_vars; decide)
  by_cases h1_53 : b = 53
  · refine j_tabIn (tgt := 131) C dX7_signOf_1 (by rw [h1_53]; decide) (by rw [h1_53]; decide) (off := 130) (by rw [h1_53]; decide) (by decide) ?_
    refine j_iconst C dX7_signOf_131 (v := 2) (by decide) ?_
    refine j_iret C dX7_signOf_132 rfl ⟨rfl, rfl, ?_⟩
    first | (rw [mSignOf, if_neg h1_40, if_neg h1_41, if_neg h1_42, if_neg h1_43, if_neg h1_45]; done) | (subst_vars; decide)
  by_cases h1_54 : b = 54
  · refine j_tabIn (tgt := 131) C dX7_signOf_1 (by rw [h1_54]; decide) (by rw [h1_54]; decide) (off := 130) (by rw [h1_54]; decide) (by decide) ?_
    refine j_iconst C dX7_signOf_131 (v := 2) (by decide) ?_
    refine j_iret C dX7_signOf_132 rfl ⟨rfl, rfl, ?_⟩
    first | (rw [mSignOf, if_neg h1_40, if_neg h1_41, if_neg h1_42, if_neg h1_43, if_neg h1_45]; done) | (subst_vars; decide)
  by_cases h1_55 : b = 55
  · refine j_tabIn (tgt := 131) C dX7_signOf_1 (by rw [h1_55]; decide) (by rw [h1_55]; decide) (off := 130) (by rw [h1_55]; decide) (by decide) ?_
    refine j_iconst C dX7_signOf_131 (v := 2) (by decide) ?_
    refine j_iret C dX7_signOf_132 rfl ⟨rfl, rfl, ?_⟩
    first | (rw [mSignOf, if_neg h1_40, if_neg h1_41, if_neg h1_42, if_neg h1_43, if_neg h1_45]; done) | (subst_vars; decide)
  by_cases h1_56 : b = 56
  · refine j_tabIn (tgt := 131) C dX7_signOf_1 (by rw [h1_56]; decide) (by rw [h1_56]; decide) (off := 130) (by rw [h1_56]; decide) (by decide) ?_
    refine j_iconst C dX7_signOf_131 (v := 2) (by decide) ?_
    refine j_iret C dX7_signOf_132 rfl ⟨rfl, rfl, ?_⟩
    first | (rw [mSignOf, if_neg h1_40, if_neg h1_41, if_neg h1_42, if_neg h1_43, if_neg h1_45]; done) | (subst_vars; decide)
  by_cases h1_57 : b = 57
  · refine j_tabIn (tgt := 131) C dX7_signOf_1 (by rw [h1_57]; decide) (by rw [h1_57]; decide) (off := 130) (by rw [h1_57]; decide) (by decide) ?_
    refine j_iconst C dX7_signOf_131 (v := 2) (by decide) ?_
    refine j_iret C dX7_signOf_132 rfl ⟨rfl, rfl, ?_⟩
    first | (rw [mSignOf, if_neg h1_40, if_neg h1_41, if_neg h1_42, if_neg h1_43, if_neg h1_45]; done) | (subst_vars; decide)
  by_cases h1_58 : b = 58
  · refine j_tabIn (tgt := 131) C dX7_signOf_1 (by rw [h1_58]; decide) (by rw [h1_58]; decide) (off := 130) (by rw [h1_58]; decide) (by decide) ?_
    refine j_iconst C dX7_signOf_131 (v := 2) (by decide) ?_
    refine j_iret C dX7_signOf_132 rfl ⟨rfl, rfl, ?_⟩
    first | (rw [mSignOf, if_neg h1_40, if_neg h1_41, if_neg h1_42, if_neg h1_43, if_neg h1_45]; done) | (subst_vars; decide)
  by_cases h1_59 : b = 59
  · refine j_tabIn (tgt := 131) C dX7_signOf_1 (by rw [h1_59]; decide) (by rw [h1_59]; decide) (off := 130) (by rw [h1_59]; decide) (by decide) ?_
    refine j_iconst C dX7_signOf_131 (v := 2) (by decide) ?_
    refine j_iret C dX7_signOf_132 rfl ⟨rfl, rfl, ?_⟩
    first | (rw [mSignOf, if_neg h1_40, if_neg h1_41, if_neg h1_42, if_neg h1_43, if_neg h1_45]; done) | (subst_vars; decide)
  by_cases h1_60 : b = 60
  · refine j_tabIn (tgt := 122) C dX7_signOf_1 (by rw [h1_60]; decide) (by rw [h1_60]; decide) (off := 121) (by rw [h1_60]; decide) (by decide) ?_
    refine j_bipush C dX7_signOf_122 (v := 40) (by decide) ?_
    refine j_iret C dX7_signOf_124 rfl ⟨rfl, rfl, ?_⟩ <;> rw [mSignOf, if_neg h1_40, if_neg h1_41, if_neg h1_42, if_neg h1_43, if_neg h1_45, if_pos h1_60]
  by_cases h1_61 : b = 61
  · refine j_tabIn (tgt := 125) C dX7_signOf_1 (by rw [h1_61]; decide) (by rw [h1_61]; decide) (off := 124) (by rw [h1_61]; decide) (by decide) ?_
    refine j_bipush C dX7_signOf_125 (v := 41) (by decide) ?_
    refine j_iret C dX7_signOf_127 rfl ⟨rfl, rfl, ?_⟩ <;> rw [mSignOf, if_neg h1_40, if_neg h1_41, if_neg h1_42, if_neg h1_43, if_neg h1_45, if_neg h1_60, if_pos h1_61]
  by_cases h1_62 : b = 62
  · refine j_tabIn (tgt := 128) C dX7_signOf_1 (by rw [h1_62]; decide) (by rw [h1_62]; decide) (off := 127) (by rw [h1_62]; decide) (by decide) ?_
    refine j_bipush C dX7_signOf_128 (v := 42) (by decide) ?_
    refine j_iret C dX7_signOf_130 rfl ⟨rfl, rfl, ?_⟩ <;> rw [mSignOf, if_neg h1_40, if_neg h1_41, if_neg h1_42, if_neg h1_43, if_neg h1_45, if_neg h1_60, if_neg h1_61, if_pos h1_62]
  have q40 := lv_neT h1_40 (a := 40) (by decide)
  have q41 := lv_neT h1_41 (a := 41) (by decide)
  have q42 := lv_neT h1_42 (a := 42) (by decide)
  have q43 := lv_neT h1_43 (a := 43) (by decide)
  have q44 := lv_neT h1_44 (a := 44) (by decide)
  have q45 := lv_neT h1_45 (a := 45) (by decide)
  have q46 := lv_neT h1_46 (a := 46) (by decide)
  have q47 := lv_neT h1_47 (a := 47) (by decide)
  have q48 := lv_neT h1_48 (a := 48) (by decide)
  have q49 := lv_neT h1_49 (a := 49) (by decide)
  have q50 := lv_neT h1_50 (a := 50) (by decide)
  have q51 := lv_neT h1_51 (a := 51) (by decide)
  have q52 := lv_neT h1_52 (a := 52) (by decide)
  have q53 := lv_neT h1_53 (a := 53) (by decide)
  have q54 := lv_neT h1_54 (a := 54) (by decide)
  have q55 := lv_neT h1_55 (a := 55) (by decide)
  have q56 := lv_neT h1_56 (a := 56) (by decide)
  have q57 := lv_neT h1_57 (a := 57) (by decide)
  have q58 := lv_neT h1_58 (a := 58) (by decide)
  have q59 := lv_neT h1_59 (a := 59) (by decide)
  have q60 := lv_neT h1_60 (a := 60) (by decide)
  have q61 := lv_neT h1_61 (a := 61) (by decide)
  have q62 := lv_neT h1_62 (a := 62) (by decide)
  refine j_tabOut (tgt := 131) C dX7_signOf_1 (by omega) (by decide) ?_
  refine j_iconst C dX7_signOf_131 (v := 2) (by decide) ?_
  refine j_iret C dX7_signOf_132 rfl ⟨rfl, rfl, ?_⟩
  first | (rw [mSignOf, if_neg h1_40, if_neg h1_41, if_neg h1_42, if_neg h1_43, if_neg h1_45, if_neg h1_60, if_neg h1_61, if_neg h1_62]; done) | (subst_vars; decide)

def mWordOf (w : Int64) : Int32 := (if w = 423 then 10 else (if w = 1111 then 20 else (if w = 10631 then 30 else (if w = 326369 then 100 else (if w = 2968 then 101 else (if w = 380068 then 102 else (if w = 161600 then 103 else (if w = 237470 then 104 else (if w = 283296100 then 105 else (if w = 133743 then 106 else (if w = 223456 then 107 else (if w = 365647 then 108 else (if w = 332864552 then 109 else (if w = 12532058 then 110 else (if w = 2585642951 then 111 else (if w = 12249946 then 112 else 2))))))))))))))))

theorem cM_wordOf {l : Launch} {g : WGp} (hg : GOK g) {sh : WSh} {N : WNm} (w : Int64) : CT l g yX7_wordOf cX7_wordOf 2 (some .int) (RM 1 0 0) [.long w] sh N (QF g sh N (mWordOf w)) := by
  refine ent hg (by decide +kernel) (Nat.le_of_ble_eq_true rfl) ?_
  intro p e s m args below meth c C hname
  refine j_lload_n C dX7_wordOf_0 rfl ?_
  refine j_ldc2 C kc_X7_208 dX7_wordOf_1 ?_
  refine j_lcmp C dX7_wordOf_4 ?_
  refine j_if_ne (tgt := 11) C dX7_wordOf_5 (by decide) (fun h5 => ?_) (fun h5 => ?_)
  · skip
    replace h5 : ¬ _ := fun z => h5 ((lcq _ _).mpr z)
    refine j_lload_n C dX7_wordOf_11 rfl ?_
    refine j_ldc2 C kc_X7_210 dX7_wordOf_12 ?_
    refine j_lcmp C dX7_wordOf_15 ?_
    refine j_if_ne (tgt := 22) C dX7_wordOf_16 (by decide) (fun h16 => ?_) (fun h16 => ?_)
    · skip
      replace h16 : ¬ _ := fun z => h16 ((lcq _ _).mpr z)
      refine j_lload_n C dX7_wordOf_22 rfl ?_
      refine j_ldc2 C kc_X7_212 dX7_wordOf_23 ?_
      refine j_lcmp C dX7_wordOf_26 ?_
      refine j_if_ne (tgt := 33) C dX7_wordOf_27 (by decide) (fun h27 => ?_) (fun h27 => ?_)
      · skip
        replace h27 : ¬ _ := fun z => h27 ((lcq _ _).mpr z)
        refine j_lload_n C dX7_wordOf_33 rfl ?_
        refine j_ldc2 C kc_X7_214 dX7_wordOf_34 ?_
        refine j_lcmp C dX7_wordOf_37 ?_
        refine j_if_ne (tgt := 44) C dX7_wordOf_38 (by decide) (fun h38 => ?_) (fun h38 => ?_)
        · skip
          replace h38 : ¬ _ := fun z => h38 ((lcq _ _).mpr z)
          refine j_lload_n C dX7_wordOf_44 rfl ?_
          refine j_ldc2 C kc_X7_216 dX7_wordOf_45 ?_
          refine j_lcmp C dX7_wordOf_48 ?_
          refine j_if_ne (tgt := 55) C dX7_wordOf_49 (by decide) (fun h49 => ?_) (fun h49 => ?_)
          · skip
            replace h49 : ¬ _ := fun z => h49 ((lcq _ _).mpr z)
            refine j_lload_n C dX7_wordOf_55 rfl ?_
            refine j_ldc2 C kc_X7_218 dX7_wordOf_56 ?_
            refine j_lcmp C dX7_wordOf_59 ?_
            refine j_if_ne (tgt := 66) C dX7_wordOf_60 (by decide) (fun h60 => ?_) (fun h60 => ?_)
            · skip
              replace h60 : ¬ _ := fun z => h60 ((lcq _ _).mpr z)
              refine j_lload_n C dX7_wordOf_66 rfl ?_
              refine j_ldc2 C kc_X7_220 dX7_wordOf_67 ?_
              refine j_lcmp C dX7_wordOf_70 ?_
              refine j_if_ne (tgt := 77) C dX7_wordOf_71 (by decide) (fun h71 => ?_) (fun h71 => ?_)
              · skip
                replace h71 : ¬ _ := fun z => h71 ((lcq _ _).mpr z)
                refine j_lload_n C dX7_wordOf_77 rfl ?_
                refine j_ldc2 C kc_X7_222 dX7_wordOf_78 ?_
                refine j_lcmp C dX7_wordOf_81 ?_
                refine j_if_ne (tgt := 88) C dX7_wordOf_82 (by decide) (fun h82 => ?_) (fun h82 => ?_)
                · skip
                  replace h82 : ¬ _ := fun z => h82 ((lcq _ _).mpr z)
                  refine j_lload_n C dX7_wordOf_88 rfl ?_
                  refine j_ldc2 C kc_X7_224 dX7_wordOf_89 ?_
                  refine j_lcmp C dX7_wordOf_92 ?_
                  refine j_if_ne (tgt := 99) C dX7_wordOf_93 (by decide) (fun h93 => ?_) (fun h93 => ?_)
                  · skip
                    replace h93 : ¬ _ := fun z => h93 ((lcq _ _).mpr z)
                    refine j_lload_n C dX7_wordOf_99 rfl ?_
                    refine j_ldc2 C kc_X7_226 dX7_wordOf_100 ?_
                    refine j_lcmp C dX7_wordOf_103 ?_
                    refine j_if_ne (tgt := 110) C dX7_wordOf_104 (by decide) (fun h104 => ?_) (fun h104 => ?_)
                    · skip
                      replace h104 : ¬ _ := fun z => h104 ((lcq _ _).mpr z)
                      refine j_lload_n C dX7_wordOf_110 rfl ?_
                      refine j_ldc2 C kc_X7_228 dX7_wordOf_111 ?_
                      refine j_lcmp C dX7_wordOf_114 ?_
                      refine j_if_ne (tgt := 121) C dX7_wordOf_115 (by decide) (fun h115 => ?_) (fun h115 => ?_)
                      · skip
                        replace h115 : ¬ _ := fun z => h115 ((lcq _ _).mpr z)
                        refine j_lload_n C dX7_wordOf_121 rfl ?_
                        refine j_ldc2 C kc_X7_230 dX7_wordOf_122 ?_
                        refine j_lcmp C dX7_wordOf_125 ?_
                        refine j_if_ne (tgt := 132) C dX7_wordOf_126 (by decide) (fun h126 => ?_) (fun h126 => ?_)
                        · skip
                          replace h126 : ¬ _ := fun z => h126 ((lcq _ _).mpr z)
                          refine j_lload_n C dX7_wordOf_132 rfl ?_
                          refine j_ldc2 C kc_X7_232 dX7_wordOf_133 ?_
                          refine j_lcmp C dX7_wordOf_136 ?_
                          refine j_if_ne (tgt := 143) C dX7_wordOf_137 (by decide) (fun h137 => ?_) (fun h137 => ?_)
                          · skip
                            replace h137 : ¬ _ := fun z => h137 ((lcq _ _).mpr z)
                            refine j_lload_n C dX7_wordOf_143 rfl ?_
                            refine j_ldc2 C kc_X7_234 dX7_wordOf_144 ?_
                            refine j_lcmp C dX7_wordOf_147 ?_
                            refine j_if_ne (tgt := 154) C dX7_wordOf_148 (by decide) (fun h148 => ?_) (fun h148 => ?_)
                            · skip
                              replace h148 : ¬ _ := fun z => h148 ((lcq _ _).mpr z)
                              refine j_lload_n C dX7_wordOf_154 rfl ?_
                              refine j_ldc2 C kc_X7_236 dX7_wordOf_155 ?_
                              refine j_lcmp C dX7_wordOf_158 ?_
                              refine j_if_ne (tgt := 165) C dX7_wordOf_159 (by decide) (fun h159 => ?_) (fun h159 => ?_)
                              · skip
                                replace h159 : ¬ _ := fun z => h159 ((lcq _ _).mpr z)
                                refine j_lload_n C dX7_wordOf_165 rfl ?_
                                refine j_ldc2 C kc_X7_238 dX7_wordOf_166 ?_
                                refine j_lcmp C dX7_wordOf_169 ?_
                                refine j_if_ne (tgt := 176) C dX7_wordOf_170 (by decide) (fun h170 => ?_) (fun h170 => ?_)
                                · skip
                                  replace h170 : ¬ _ := fun z => h170 ((lcq _ _).mpr z)
                                  refine j_iconst C dX7_wordOf_176 (v := 2) (by decide) ?_
                                  refine j_iret C dX7_wordOf_177 rfl ⟨rfl, rfl, ?_⟩ <;> rw [mWordOf, if_neg h5, if_neg h16, if_neg h27, if_neg h38, if_neg h49, if_neg h60, if_neg h71, if_neg h82, if_neg h93, if_neg h104, if_neg h115, if_neg h126, if_neg h137, if_neg h148, if_neg h159, if_neg h170]
                                · replace h170 := Decidable.not_not.mp h170
                                  replace h170 := (lcq _ _).mp h170
                                  refine j_bipush C dX7_wordOf_173 (v := 112) (by decide) ?_
                                  refine j_iret C dX7_wordOf_175 rfl ⟨rfl, rfl, ?_⟩ <;> rw [mWordOf, if_neg h5, if_neg h16, if_neg h27, if_neg h38, if_neg h49, if_neg h60, if_neg h71, if_neg h82, if_neg h93, if_neg h104, if_neg h115, if_neg h126, if_neg h137, if_neg h148, if_neg h159, if_pos h170]
                              · replace h159 := Decidable.not_not.mp h159
                                replace h159 := (lcq _ _).mp h159
                                refine j_bipush C dX7_wordOf_162 (v := 111) (by decide) ?_
                                refine j_iret C dX7_wordOf_164 rfl ⟨rfl, rfl, ?_⟩ <;> rw [mWordOf, if_neg h5, if_neg h16, if_neg h27, if_neg h38, if_neg h49, if_neg h60, if_neg h71, if_neg h82, if_neg h93, if_neg h104, if_neg h115, if_neg h126, if_neg h137, if_neg h148, if_pos h159]
                            · replace h148 := Decidable.not_not.mp h148
                              replace h148 := (lcq _ _).mp h148
                              refine j_bipush C dX7_wordOf_151 (v := 110) (by decide) ?_
                              refine j_iret C dX7_wordOf_153 rfl ⟨rfl, rfl, ?_⟩ <;> rw [mWordOf, if_neg h5, if_neg h16, if_neg h27, if_neg h38, if_neg h49, if_neg h60, if_neg h71, if_neg h82, if_neg h93, if_neg h104, if_neg h115, if_neg h126, if_neg h137, if_pos h148]
                          · replace h137 := Decidable.not_not.mp h137
                            replace h137 := (lcq _ _).mp h137
                            refine j_bipush C dX7_wordOf_140 (v := 109) (by decide) ?_
                            refine j_iret C dX7_wordOf_142 rfl ⟨rfl, rfl, ?_⟩ <;> rw [mWordOf, if_neg h5, if_neg h16, if_neg h27, if_neg h38, if_neg h49, if_neg h60, if_neg h71, if_neg h82, if_neg h93, if_neg h104, if_neg h115, if_neg h126, if_pos h137]
                        · replace h126 := Decidable.not_not.mp h126
                          replace h126 := (lcq _ _).mp h126
                          refine j_bipush C dX7_wordOf_129 (v := 108) (by decide) ?_
                          refine j_iret C dX7_wordOf_131 rfl ⟨rfl, rfl, ?_⟩ <;> rw [mWordOf, if_neg h5, if_neg h16, if_neg h27, if_neg h38, if_neg h49, if_neg h60, if_neg h71, if_neg h82, if_neg h93, if_neg h104, if_neg h115, if_pos h126]
                      · replace h115 := Decidable.not_not.mp h115
                        replace h115 := (lcq _ _).mp h115
                        refine j_bipush C dX7_wordOf_118 (v := 107) (by decide) ?_
                        refine j_iret C dX7_wordOf_120 rfl ⟨rfl, rfl, ?_⟩ <;> rw [mWordOf, if_neg h5, if_neg h16, if_neg h27, if_neg h38, if_neg h49, if_neg h60, if_neg h71, if_neg h82, if_neg h93, if_neg h104, if_pos h115]
                    · replace h104 := Decidable.not_not.mp h104
                      replace h104 := (lcq _ _).mp h104
                      refine j_bipush C dX7_wordOf_107 (v := 106) (by decide) ?_
                      refine j_iret C dX7_wordOf_109 rfl ⟨rfl, rfl, ?_⟩ <;> rw [mWordOf, if_neg h5, if_neg h16, if_neg h27, if_neg h38, if_neg h49, if_neg h60, if_neg h71, if_neg h82, if_neg h93, if_pos h104]
                  · replace h93 := Decidable.not_not.mp h93
                    replace h93 := (lcq _ _).mp h93
                    refine j_bipush C dX7_wordOf_96 (v := 105) (by decide) ?_
                    refine j_iret C dX7_wordOf_98 rfl ⟨rfl, rfl, ?_⟩ <;> rw [mWordOf, if_neg h5, if_neg h16, if_neg h27, if_neg h38, if_neg h49, if_neg h60, if_neg h71, if_neg h82, if_pos h93]
                · replace h82 := Decidable.not_not.mp h82
                  replace h82 := (lcq _ _).mp h82
                  refine j_bipush C dX7_wordOf_85 (v := 104) (by decide) ?_
                  refine j_iret C dX7_wordOf_87 rfl ⟨rfl, rfl, ?_⟩ <;> rw [mWordOf, if_neg h5, if_neg h16, if_neg h27, if_neg h38, if_neg h49, if_neg h60, if_neg h71, if_pos h82]
              · replace h71 := Decidable.not_not.mp h71
                replace h71 := (lcq _ _).mp h71
                refine j_bipush C dX7_wordOf_74 (v := 103) (by decide) ?_
                refine j_iret C dX7_wordOf_76 rfl ⟨rfl, rfl, ?_⟩ <;> rw [mWordOf, if_neg h5, if_neg h16, if_neg h27, if_neg h38, if_neg h49, if_neg h60, if_pos h71]
            · replace h60 := Decidable.not_not.mp h60
              replace h60 := (lcq _ _).mp h60
              refine j_bipush C dX7_wordOf_63 (v := 102) (by decide) ?_
              refine j_iret C dX7_wordOf_65 rfl ⟨rfl, rfl, ?_⟩ <;> rw [mWordOf, if_neg h5, if_neg h16, if_neg h27, if_neg h38, if_neg h49, if_pos h60]
          · replace h49 := Decidable.not_not.mp h49
            replace h49 := (lcq _ _).mp h49
            refine j_bipush C dX7_wordOf_52 (v := 101) (by decide) ?_
            refine j_iret C dX7_wordOf_54 rfl ⟨rfl, rfl, ?_⟩ <;> rw [mWordOf, if_neg h5, if_neg h16, if_neg h27, if_neg h38, if_pos h49]
        · replace h38 := Decidable.not_not.mp h38
          replace h38 := (lcq _ _).mp h38
          refine j_bipush C dX7_wordOf_41 (v := 100) (by decide) ?_
          refine j_iret C dX7_wordOf_43 rfl ⟨rfl, rfl, ?_⟩ <;> rw [mWordOf, if_neg h5, if_neg h16, if_neg h27, if_pos h38]
      · replace h27 := Decidable.not_not.mp h27
        replace h27 := (lcq _ _).mp h27
        refine j_bipush C dX7_wordOf_30 (v := 30) (by decide) ?_
        refine j_iret C dX7_wordOf_32 rfl ⟨rfl, rfl, ?_⟩ <;> rw [mWordOf, if_neg h5, if_neg h16, if_pos h27]
    · replace h16 := Decidable.not_not.mp h16
      replace h16 := (lcq _ _).mp h16
      refine j_bipush C dX7_wordOf_19 (v := 20) (by decide) ?_
      refine j_iret C dX7_wordOf_21 rfl ⟨rfl, rfl, ?_⟩ <;> rw [mWordOf, if_neg h5, if_pos h16]
  · replace h5 := Decidable.not_not.mp h5
    replace h5 := (lcq _ _).mp h5
    refine j_bipush C dX7_wordOf_8 (v := 10) (by decide) ?_
    refine j_iret C dX7_wordOf_10 rfl ⟨rfl, rfl, ?_⟩ <;> rw [mWordOf, if_pos h5]

def mTight (w : Int32) : Int32 := if w = 5 then 0 else w / 10

theorem cM_tight {l : Launch} {g : WGp} (hg : GOK g) {sh : WSh} {N : WNm} (w : Int32) : CT l g yX7_tight cX7_tight 1 (some .int) (RM 1 0 0) [.int w] sh N (QF g sh N (mTight w)) := by
  refine ent hg (by decide +kernel) (Nat.le_of_ble_eq_true rfl) ?_
  intro p e s m args below meth c C hname
  refine j_iload_n C dX7_tight_0 rfl ?_
  refine j_iconst C dX7_tight_1 (v := 5) (by decide) ?_
  refine j_icmp_ne (tgt := 9) C dX7_tight_2 (by decide) (fun h2 => ?_) (fun h2 => ?_)
  · skip
    refine j_iload_n C dX7_tight_9 rfl ?_
    refine j_bipush C dX7_tight_10 (v := 10) (by decide) ?_
    refine j_idiv C dX7_tight_12 (by decide) ?_
    refine j_iret C dX7_tight_13 rfl ⟨rfl, rfl, ?_⟩ <;> rw [mTight, if_neg h2]
  · replace h2 := Decidable.not_not.mp h2
    refine j_iconst C dX7_tight_5 (v := 0) (by decide) ?_
    refine j_goto (tgt := 13) C dX7_tight_6 (by decide) ?_
    refine j_iret C dX7_tight_13 rfl ⟨rfl, rfl, ?_⟩ <;> rw [mTight, if_pos h2]

def mLay (N : WNm) (w n : Int32) (t : Nat) : WNm := u2 (u2 (u2 N 43 t w) 44 t n) 0 44 (nI (t + 1))

theorem cM_lay {l : Launch} {g : WGp} (hg : GOK g) {sh : WSh} {N : WNm} (M : MSh sh) {t : Nat} (hT : N 0 44 = nI t) (ht : t < 6200) (w n : Int32) : CT l g yX7_lay cX7_lay 3 none (RM 1 0 0) [.ref (sh.2.2 0), .int w, .int n] sh N (QFv g sh (mLay N w n t)) := by
  refine ent hg (by decide +kernel) (Nat.le_of_ble_eq_true rfl) ?_
  intro p e s m args below meth c C hname
  refine j_aload_n C dX7_lay_0 rfl ?_
  refine j_getR (j := 43) C fl_X7_111 dX7_lay_1 (M.c) rfl (M.r42) ?_
  refine j_aload_n C dX7_lay_4 rfl ?_
  refine j_getI C fl_X7_240 dX7_lay_5 (M.c) rfl ?_
  rw [hT]
  refine j_iload_n C dX7_lay_8 rfl ?_
  refine j_iastN C (M.t43) (⟨ht, by decide⟩) dX7_lay_9 ?_
  refine j_aload_n C dX7_lay_10 rfl ?_
  refine j_getR (j := 44) C fl_X7_114 dX7_lay_11 (M.c) rfl (M.r43) ?_
  refine j_aload_n C dX7_lay_14 rfl ?_
  refine j_getI C fl_X7_240 dX7_lay_15 (M.c) rfl ?_
  rw [show u2 N 43 t w 0 44 = nI t from hT]
  refine j_iload_n C dX7_lay_18 rfl ?_
  refine j_iastN C (M.t44) (⟨ht, by decide⟩) dX7_lay_19 ?_
  refine j_aload_n C dX7_lay_20 rfl ?_
  refine j_dup C dX7_lay_21 rfl ?_
  refine j_getI C fl_X7_240 dX7_lay_22 (M.c) rfl ?_
  rw [show u2 (u2 N 43 t w) 44 t n 0 44 = nI t from hT]
  refine j_iconst C dX7_lay_25 (v := 1) (by decide) ?_
  refine j_iadd C dX7_lay_26 ?_
  rw [nI_1]
  refine j_putI C fl_X7_240 dX7_lay_27 (M.c) rfl rfl rfl rfl ?_
  exact j_vret C dX7_lay_30 ⟨rfl, rfl⟩

def mWaiting (N : WNm) (wn : Nat) (w : Int32) : Prop := 0 < wn ∧ mTight (N 51 (wn - 1)) = w

theorem cM_isWaiting {l : Launch} {g : WGp} (hg : GOK g) {sh : WSh} {N : WNm} (M : MSh sh) {wn : Nat} (hW : N 0 51 = nI wn) (hw3 : wn ≤ 300) (w : Int32) : CT l g yX7_isWaiting cX7_isWaiting 2 (some .boolean) (RM 2 0 0) [.ref (sh.2.2 0), .int w] sh N (QF g sh N (pb (mWaiting N wn w))) := by
  refine ent hg (by decide +kernel) (Nat.le_of_ble_eq_true rfl) ?_
  intro p e s m args below meth c C hname
  refine j_aload_n C dX7_isWaiting_0 rfl ?_
  refine j_getI C fl_X7_243 dX7_isWaiting_1 (M.c) rfl ?_
  refine j_if_le (tgt := 29) C dX7_isWaiting_4 (by decide) (fun h4 => ?_) (fun h4 => ?_)
  · skip
    refine j_iconst C dX7_isWaiting_29 (v := 0) (by decide) ?_
    refine j_iret C dX7_isWaiting_30 rfl ⟨rfl, rfl, ?_⟩
    first | exact (pb_t ⟨Nat.succ_pos _, h22⟩).symm | exact (pb_f (fun z => h22 z.2)).symm | (refine (pb_f (fun z => ?_)).symm; rw [hW, show (0 : Int32) = nI 0 from rfl, n_nle (by omega) (by omega)] at h4; have := z.1; omega)
  · skip
    rw [hW, show (0 : Int32) = nI 0 from rfl, n_nle (by omega) (by omega)] at h4
    obtain ⟨u, rfl⟩ : ∃ u, wn = u + 1 := ⟨wn - 1, by omega⟩
    refine j_aload_n C dX7_isWaiting_7 rfl ?_
    refine j_getR (j := 51) C fl_X7_117 dX7_isWaiting_8 (M.c) rfl (M.r50) ?_
    refine j_aload_n C dX7_isWaiting_11 rfl ?_
    refine j_getI C fl_X7_243 dX7_isWaiting_12 (M.c) rfl ?_
    rw [hW]
    refine j_iconst C dX7_isWaiting_15 (v := 1) (by decide) ?_
    refine j_isub C dX7_isWaiting_16 ?_
    rw [nI_pred]
    refine j_ialdN C (M.t51) (⟨by omega, by decide⟩) dX7_isWaiting_17 ?_
    refine j_callS1I C ml_X7_246 dX7_isWaiting_18 (cM_tight hg _) ⟨Nat.le_of_ble_eq_true rfl, Nat.le_of_ble_eq_true rfl⟩ (Nat.le_of_ble_eq_true rfl) ⟨rfl, rfl⟩ ⟨Nat.zero_le _, Nat.zero_le _⟩ ?_
    refine j_iload_n C dX7_isWaiting_21 rfl ?_
    refine j_icmp_ne (tgt := 29) C dX7_isWaiting_22 (by decide) (fun h22 => ?_) (fun h22 => ?_)
    · skip
      refine j_iconst C dX7_isWaiting_29 (v := 0) (by decide) ?_
      refine j_iret C dX7_isWaiting_30 rfl ⟨rfl, rfl, ?_⟩
      first | exact (pb_t ⟨Nat.succ_pos _, h22⟩).symm | exact (pb_f (fun z => h22 z.2)).symm | (refine (pb_f (fun z => ?_)).symm; rw [hW, show (0 : Int32) = nI 0 from rfl, n_nle (by omega) (by omega)] at h4; have := z.1; omega)
    · replace h22 := Decidable.not_not.mp h22
      refine j_iconst C dX7_isWaiting_25 (v := 1) (by decide) ?_
      refine j_goto (tgt := 30) C dX7_isWaiting_26 (by decide) ?_
      refine j_iret C dX7_isWaiting_30 rfl ⟨rfl, rfl, ?_⟩
      first | exact (pb_t ⟨Nat.succ_pos _, h22⟩).symm | exact (pb_f (fun z => h22 z.2)).symm | (refine (pb_f (fun z => ?_)).symm; rw [hW, show (0 : Int32) = nI 0 from rfl, n_nle (by omega) (by omega)] at h4; have := z.1; omega)

/-- those that wait and bind as tight, or tighter, are laid: how many stay, and the numbers then -/
def mDone (N : WNm) (fr : Int32) : Nat → Nat × WNm
  | 0 => (0, N)
  | k + 1 => if mTight (N 51 k) < fr then (k + 1, N) else mDone (mLay (u2 N 0 51 (nI k)) (N 51 k) 0 (tn (N 0 44))) fr k

theorem cM_done {l : Launch} {g : WGp} (hg : GOK g) {sh : WSh} {N : WNm} (M : MSh sh) {wn t : Nat} (hW : N 0 51 = nI wn) (hw3 : wn ≤ 300) (hT : N 0 44 = nI t) (ht : t + wn ≤ 6200) (fr : Int32) : CT l g yX7_done cX7_done 2 none (RM 2 0 0) [.ref (sh.2.2 0), .int fr] sh N (QFv g sh (mDone N fr wn).2) := by
  refine ent hg (by decide +kernel) (Nat.le_of_ble_eq_true rfl) ?_
  intro p e s m args below meth c C hname
  suffices key : ∀ (wn t : Nat) (N : WNm) (F : WNm), N 0 51 = nI wn → wn ≤ 300 → N 0 44 = nI t → t + wn ≤ 6200 → (mDone N fr wn).2 = F → J p l e (RM 2 0 0) s m args below meth c (MQ below (QFv g sh F) args s 0 0 g.A) g 2 sh N 0 0 0 [some (.ref (sh.2.2 0)), some (.int fr)] [] from key wn t N _ hW hw3 hT ht rfl
  clear hW hw3 hT ht
  intro wn
  induction wn with
  | zero =>
    intro t N F hW hw3 hT ht eF
    subst eF
    refine j_aload_n C dX7_done_0 rfl ?_
    refine j_getI C fl_X7_243 dX7_done_1 (M.c) rfl ?_
    refine j_if_le (tgt := 52) C dX7_done_4 (by decide) (fun h4 => ?_) (fun h4 => ?_)
    · skip
      exact j_vret C dX7_done_52 ⟨rfl, rfl⟩
    · skip
      exact absurd (by rw [hW]; decide) h4
  | succ k ih =>
    intro t N F hW hw3 hT ht eF
    have etn : tn (N 0 44) = t := by rw [hT]; exact nI_clamp (by omega)
    rw [mDone, etn] at eF
    refine j_aload_n C dX7_done_0 rfl ?_
    refine j_getI C fl_X7_243 dX7_done_1 (M.c) rfl ?_
    refine j_if_le (tgt := 52) C dX7_done_4 (by decide) (fun h4 => ?_) (fun h4 => ?_)
    · skip
      first | (rw [if_pos h22] at eF; subst eF; exact j_vret C dX7_done_52 ⟨rfl, rfl⟩) | (rw [hW, show (0 : Int32) = nI 0 from rfl, n_nle (by omega) (by omega)] at h4; omega)
    · skip
      refine j_aload_n C dX7_done_7 rfl ?_
      refine j_getR (j := 51) C fl_X7_117 dX7_done_8 (M.c) rfl (M.r50) ?_
      refine j_aload_n C dX7_done_11 rfl ?_
      refine j_getI C fl_X7_243 dX7_done_12 (M.c) rfl ?_
      rw [hW]
      refine j_iconst C dX7_done_15 (v := 1) (by decide) ?_
      refine j_isub C dX7_done_16 ?_
      rw [nI_pred]
      refine j_ialdN C (M.t51) (⟨by omega, by decide⟩) dX7_done_17 ?_
      refine j_callS1I C ml_X7_246 dX7_done_18 (cM_tight hg _) ⟨Nat.le_of_ble_eq_true rfl, Nat.le_of_ble_eq_true rfl⟩ (Nat.le_of_ble_eq_true rfl) ⟨rfl, rfl⟩ ⟨Nat.zero_le _, Nat.zero_le _⟩ ?_
      refine j_iload_n C dX7_done_21 rfl ?_
      refine j_icmp_lt (tgt := 52) C dX7_done_22 (by decide) (fun h22 => ?_) (fun h22 => ?_)
      · skip
        first | (rw [if_pos h22] at eF; subst eF; exact j_vret C dX7_done_52 ⟨rfl, rfl⟩) | (rw [hW, show (0 : Int32) = nI 0 from rfl, n_nle (by omega) (by omega)] at h4; omega)
      · skip
        rw [if_neg h22] at eF
        refine j_aload_n C dX7_done_25 rfl ?_
        refine j_dup C dX7_done_26 rfl ?_
        refine j_getI C fl_X7_243 dX7_done_27 (M.c) rfl ?_
        rw [hW]
        refine j_iconst C dX7_done_30 (v := 1) (by decide) ?_
        refine j_isub C dX7_done_31 ?_
        rw [nI_pred]
        refine j_putI C fl_X7_243 dX7_done_32 (M.c) rfl rfl rfl rfl ?_
        refine j_aload_n C dX7_done_35 rfl ?_
        refine j_aload_n C dX7_done_36 rfl ?_
        refine j_getR (j := 51) C fl_X7_117 dX7_done_37 (M.c) rfl (M.r50) ?_
        refine j_aload_n C dX7_done_40 rfl ?_
        refine j_getI C fl_X7_243 dX7_done_41 (M.c) rfl ?_
        rw [show u2 N 0 51 (nI k) 0 51 = nI k from u2_eq _ _ _ _]
        refine j_ialdN C (M.t51) (⟨by omega, by decide⟩) dX7_done_44 ?_
        refine j_iconst C dX7_done_45 (v := 0) (by decide) ?_
        refine j_callV2V C ml_X7_249 dX7_done_46 (cM_lay hg M (N := u2 N 0 51 (nI k)) (t := t) hT (by omega) _ _) ⟨by rw [M.c]; decide, by rw [M.c]; rfl⟩ ⟨Nat.le_of_ble_eq_true rfl, Nat.le_of_ble_eq_true rfl⟩ (Nat.le_of_ble_eq_true rfl) ⟨rfl, rfl⟩ ⟨Nat.zero_le _, Nat.zero_le _⟩ ?_
        refine j_goto (tgt := 0) C dX7_done_49 (by decide) ?_
        exact ih (t + 1) _ F rfl (by omega) (u2_eq _ _ _ _) (by omega) eF

/-- on as far as P goes, at most f places -/
def scan (P : Nat → Prop) [DecidablePred P] : Nat → Nat → Nat
  | 0, i => i
  | f + 1, i => if P i then scan P f (i + 1) else i
theorem scan_le (P : Nat → Prop) [DecidablePred P] : ∀ (f i : Nat), i ≤ scan P f i ∧ scan P f i ≤ i + f
  | 0, i => ⟨Nat.le_refl _, Nat.le_refl _⟩
  | f + 1, i => by
    rw [scan]
    split
    · have := scan_le P f (i + 1); omega
    · omega
theorem scan_go {P : Nat → Prop} [DecidablePred P] {n i : Nat} (hi : i < n) (h : P i) : scan P (n - i) i = scan P (n - (i + 1)) (i + 1) := by
  rw [show n - i = (n - (i + 1)) + 1 by omega, scan, if_pos h]
theorem scan_no {P : Nat → Prop} [DecidablePred P] {n i : Nat} (h : i < n → ¬ P i) (hi : i ≤ n) : scan P (n - i) i = i := by
  rcases Nat.lt_or_ge i n with q | q
  · rw [show n - i = (n - (i + 1)) + 1 by omega, scan, if_neg (h q)]
  · rw [show n - i = 0 by omega, scan]
def wAcc (tp : Nat → Int32) (p : Nat) : Nat → Int64
  | 0 => 0
  | k + 1 => if k < 8 then wAcc tp p k * 27 + (tp (p + k)).toInt64 - 96 else wAcc tp p k
def nAcc (tp : Nat → Int32) (p : Nat) : Nat → Int32
  | 0 => 0
  | k + 1 => if k < 5 then 10 * nAcc tp p k + tp (p + k) - 48 else nAcc tp p k
def isLet (v : Int32) : Prop := 97 ≤ v ∧ v ≤ 122
def isDig (v : Int32) : Prop := 48 ≤ v ∧ v ≤ 57
def pBl (tp : Nat → Int32) (n i : Nat) : Nat := scan (fun j => tp j = 32) (n - i) i
def eLt (tp : Nat → Int32) (n p : Nat) : Nat := scan (fun j => 97 ≤ tp j ∧ tp j ≤ 122) (n - p) p
def eDg (tp : Nat → Int32) (n p : Nat) : Nat := scan (fun j => 48 ≤ tp j ∧ tp j ≤ 57) (n - p) p
/-- the token from place i on: what it is, where it begins, where it ends, the number -/
def mTok (tp : Nat → Int32) (n i : Nat) (num : Int32) : Int32 × Nat × Nat × Int32 :=
  if pBl tp n i = n then (0, n, n, num) else (if 97 ≤ tp (pBl tp n i) ∧ tp (pBl tp n i) ≤ 122 then (if eLt tp n (pBl tp n i) - pBl tp n i ≤ 7 then mWordOf (wAcc tp (pBl tp n i) (eLt tp n (pBl tp n i) - pBl tp n i)) else 2, pBl tp n i, eLt tp n (pBl tp n i), num)
  else (if 48 ≤ tp (pBl tp n i) ∧ tp (pBl tp n i) ≤ 57 then (if eDg tp n (pBl tp n i) - pBl tp n i ≤ 5 then 1 else 2, pBl tp n i, eDg tp n (pBl tp n i), nAcc tp (pBl tp n i) (eDg tp n (pBl tp n i) - pBl tp n i)) else (mSignOf (tp (pBl tp n i)), pBl tp n i, pBl tp n i + 1, num)))
def mTokN (N : WNm) (t : Int32 × Nat × Nat × Int32) : WNm := u2 (u2 (u2 (u2 N 0 45 (nI t.2.2.1)) 0 46 t.1) 0 47 (nI t.2.1)) 0 48 t.2.2.2
def mAdv (N : WNm) (n i : Nat) : WNm := mTokN N (mTok (N 37) n i (N 0 48))
theorem tok_a (N : WNm) (p e : Nat) (tk : Int32) : u2 (u2 (u2 (u2 N 0 45 (nI p)) 0 47 (nI p)) 0 45 (nI e)) 0 46 tk = mTokN N (tk, p, e, N 0 48) := by
  funext a b
  by_cases ha : a = 0
  · subst ha
    by_cases h1 : b = 45
    · subst h1; simp [mTokN, u2]
    · by_cases h2 : b = 46
      · subst h2; simp [mTokN, u2]
      · by_cases h3 : b = 47
        · subst h3; simp [mTokN, u2]
        · by_cases h4 : b = 48
          · subst h4; simp [mTokN, u2]
          · simp [mTokN, u2, h1, h2, h3, h4]
  · simp [mTokN, u2, ha]
theorem tok_b (N : WNm) (p e : Nat) (tk num : Int32) : u2 (u2 (u2 (u2 (u2 N 0 45 (nI p)) 0 47 (nI p)) 0 48 num) 0 45 (nI e)) 0 46 tk = mTokN N (tk, p, e, num) := by
  funext a b
  by_cases ha : a = 0
  · subst ha
    by_cases h1 : b = 45
    · subst h1; simp [mTokN, u2]
    · by_cases h2 : b = 46
      · subst h2; simp [mTokN, u2]
      · by_cases h3 : b = 47
        · subst h3; simp [mTokN, u2]
        · by_cases h4 : b = 48
          · subst h4; simp [mTokN, u2]
          · simp [mTokN, u2, h1, h2, h3, h4]
  · simp [mTokN, u2, ha]
theorem u2_4 (N : WNm) (x v : Int32) (y w : Int32) : u2 (u2 (u2 (u2 N 0 48 x) 0 45 y) 0 48 v) 0 45 w = u2 (u2 N 0 48 v) 0 45 w := by
  funext a b
  by_cases ha : a = 0
  · subst ha
    by_cases h1 : b = 45
    · subst h1; simp [u2]
    · by_cases h4 : b = 48
      · subst h4; simp [u2]
      · simp [u2, h1, h4]
  · simp [u2, ha]
theorem cM_advance {l : Launch} {g : WGp} (hg : GOK g) {sh : WSh} {N : WNm} (M : MSh sh) {n i0 : Nat} (hT : N 0 37 = nI n) (hn : n ≤ 200) (hA : N 0 45 = nI i0) (hi0 : i0 ≤ n) : CT l g yX7_advance cX7_advance 5 none (RM 2 0 0) [.ref (sh.2.2 0)] sh N (QFv g sh (mAdv N n i0)) := by
  refine ent hg (by decide +kernel) (Nat.le_of_ble_eq_true rfl) ?_
  intro p e s m args below meth c C hname
  obtain ⟨q, eq⟩ : ∃ q, q = pBl (N 37) n i0 := ⟨_, rfl⟩
  have hqn : q ≤ n := by have := scan_le (fun j => N 37 j = 32) (n - i0) i0; rw [eq, pBl]; omega
  have finW : ¬ q = n → (97 ≤ N 37 q ∧ N 37 q ≤ 122) → ∀ k, eLt (N 37) n q = q + k → J p l e (RM 2 0 0) s m args below meth c (MQ below (QFv g sh (mAdv N n i0)) args s 0 0 g.A) g 5 sh (u2 (u2 (u2 N 0 45 (nI q)) 0 47 (nI q)) 0 45 (nI (q + k))) 0 0 159 [some (.ref (sh.2.2 0)), none, some (.long (wAcc (N 37) q k)), none, some (.int (nI k))] [] := by
    intro hne hlt k hE
    have hk2 : q + k ≤ n := by have := scan_le (fun j => 97 ≤ N 37 j ∧ N 37 j ≤ 122) (n - q) q; rw [eLt] at hE; omega
    have em : ∀ tk, (if k ≤ 7 then mWordOf (wAcc (N 37) q k) else 2) = tk → mAdv N n i0 = mTokN N (tk, q, q + k, N 0 48) := by
      intro tk et
      rw [mAdv, mTok, ← eq, if_neg hne, if_pos hlt, hE, show q + k - q = k by omega, et]
    refine j_aload_n C dX7_advance_159 rfl ?_
    refine j_iload C dX7_advance_160 rfl ?_
    refine j_bipush C dX7_advance_162 (v := 7) (by decide) ?_
    refine j_icmp_le (tgt := 171) C dX7_advance_164 (by decide) (fun h164 => ?_) (fun h164 => ?_)
    · skip
      rw [show (7 : Int32) = nI 7 from rfl, n_nle (by omega) (by omega)] at h164
      refine j_lload_n C dX7_advance_171 rfl ?_
      refine j_callS1I C ml_X7_194 dX7_advance_172 (cM_wordOf hg _) ⟨Nat.le_of_ble_eq_true rfl, Nat.le_of_ble_eq_true rfl⟩ (Nat.le_of_ble_eq_true rfl) ⟨rfl, rfl⟩ ⟨Nat.zero_le _, Nat.zero_le _⟩ ?_
      refine j_putI C fl_X7_184 dX7_advance_175 (M.c) rfl rfl rfl rfl ?_
      refine j_vret C dX7_advance_178 ⟨rfl, ?_⟩
      rw [tok_a]
      first | exact (em _ (if_pos h164)).symm | exact (em _ (if_neg h164)).symm
    · skip
      rw [show (7 : Int32) = nI 7 from rfl, n_nle (by omega) (by omega)] at h164
      refine j_iconst C dX7_advance_167 (v := 2) (by decide) ?_
      refine j_goto (tgt := 175) C dX7_advance_168 (by decide) ?_
      refine j_putI C fl_X7_184 dX7_advance_175 (M.c) rfl rfl rfl rfl ?_
      refine j_vret C dX7_advance_178 ⟨rfl, ?_⟩
      rw [tok_a]
      first | exact (em _ (if_pos h164)).symm | exact (em _ (if_neg h164)).symm
  have keyW : ¬ q = n → (97 ≤ N 37 q ∧ N 37 q ≤ 122) → ∀ k, q + k ≤ n → eLt (N 37) n q = scan (fun j => 97 ≤ N 37 j ∧ N 37 j ≤ 122) (n - (q + k)) (q + k) → J p l e (RM 2 0 0) s m args below meth c (MQ below (QFv g sh (mAdv N n i0)) args s 0 0 g.A) g 5 sh (u2 (u2 (u2 N 0 45 (nI q)) 0 47 (nI q)) 0 45 (nI (q + k))) 0 0 85 [some (.ref (sh.2.2 0)), none, some (.long (wAcc (N 37) q k)), none, some (.int (nI k))] [] := by
    intro hne hlt k hk
    obtain ⟨d, hd⟩ : ∃ d, n - (q + k) = d := ⟨_, rfl⟩
    induction d generalizing k with
    | zero =>
      intro he
      refine j_aload_n C dX7_advance_85 rfl ?_
      refine j_getI C fl_X7_178 dX7_advance_86 (M.c) rfl ?_
      refine j_aload_n C dX7_advance_89 rfl ?_
      refine j_getI C fl_X7_175 dX7_advance_90 (M.c) rfl ?_
      rw [show u2 (u2 (u2 N 0 45 (nI q)) 0 47 (nI q)) 0 45 (nI (q + k)) 0 45 = nI (q + k) from u2_eq _ _ _ _]
      refine j_icmp_ge (tgt := 159) C dX7_advance_93 (by decide) (fun h93 => ?_) (fun h93 => ?_)
      · skip
        have hE : eLt (N 37) n q = q + k := by
          have h93 : N 0 37 ≤ nI (q + k) := h93
          rw [hT, n_nle (by omega) (by omega)] at h93
          rw [he]; exact scan_no (fun z => absurd z (by omega)) hk
        exact finW hne hlt k hE
      · skip
        have h93 : ¬ N 0 37 ≤ nI (q + k) := by
          have h93 : ¬ N 0 37 ≤ _ := h93
          exact h93
        rw [hT, n_nle (by omega) (by omega)] at h93
        omega
    | succ d ih =>
      intro he
      refine j_aload_n C dX7_advance_85 rfl ?_
      refine j_getI C fl_X7_178 dX7_advance_86 (M.c) rfl ?_
      refine j_aload_n C dX7_advance_89 rfl ?_
      refine j_getI C fl_X7_175 dX7_advance_90 (M.c) rfl ?_
      rw [show u2 (u2 (u2 N 0 45 (nI q)) 0 47 (nI q)) 0 45 (nI (q + k)) 0 45 = nI (q + k) from u2_eq _ _ _ _]
      refine j_icmp_ge (tgt := 159) C dX7_advance_93 (by decide) (fun h93 => ?_) (fun h93 => ?_)
      · skip
        have hE : eLt (N 37) n q = q + k := by
          have h93 : N 0 37 ≤ nI (q + k) := h93
          rw [hT, n_nle (by omega) (by omega)] at h93
          rw [he]; exact scan_no (fun z => absurd z (by omega)) hk
        exact finW hne hlt k hE
      · skip
        have h93 : ¬ nI n ≤ nI (q + k) := by
          have h93 : ¬ N 0 37 ≤ nI (q + k) := h93
          rw [hT] at h93; exact h93
        rw [n_nle (by omega) (by omega)] at h93
        refine j_aload_n C dX7_advance_96 rfl ?_
        refine j_getR (j := 37) C fl_X7_98 dX7_advance_97 (M.c) rfl (M.r36) ?_
        refine j_aload_n C dX7_advance_100 rfl ?_
        refine j_getI C fl_X7_178 dX7_advance_101 (M.c) rfl ?_
        rw [show u2 (u2 (u2 N 0 45 (nI q)) 0 47 (nI q)) 0 45 (nI (q + k)) 0 45 = nI (q + k) from u2_eq _ _ _ _]
        refine j_baldN C (M.t37) (⟨by omega, by decide⟩) dX7_advance_104 ?_
        refine j_callS1I C ml_X7_187 dX7_advance_105 (cM_isLetter hg _) ⟨Nat.le_of_ble_eq_true rfl, Nat.le_of_ble_eq_true rfl⟩ (Nat.le_of_ble_eq_true rfl) ⟨rfl, rfl⟩ ⟨Nat.zero_le _, Nat.zero_le _⟩ ?_
        refine j_if_eq (tgt := 159) C dX7_advance_108 (by decide) (fun h108 => ?_) (fun h108 => ?_)
        · replace h108 := b2_eq0.mp h108
          have hE : eLt (N 37) n q = q + k := by
            rw [he]; exact scan_no (fun _ => h108) hk
          exact finW hne hlt k hE
        · replace h108 := b2_ne0.mp h108
          refine j_iload C dX7_advance_111 rfl ?_
          refine j_bipush C dX7_advance_113 (v := 8) (by decide) ?_
          refine j_icmp_ge (tgt := 141) C dX7_advance_115 (by decide) (fun h115 => ?_) (fun h115 => ?_)
          · skip
            refine j_lload_n C dX7_advance_141 rfl ?_
            refine j_lstore_n C dX7_advance_142 (by decide) rfl ?_
            refine j_aload_n C dX7_advance_143 rfl ?_
            refine j_dup C dX7_advance_144 rfl ?_
            refine j_getI C fl_X7_178 dX7_advance_145 (M.c) rfl ?_
            rw [show u2 (u2 (u2 N 0 45 (nI q)) 0 47 (nI q)) 0 45 (nI (q + k)) 0 45 = nI (q + k) from u2_eq _ _ _ _]
            refine j_iconst C dX7_advance_148 (v := 1) (by decide) ?_
            refine j_iadd C dX7_advance_149 ?_
            rw [nI_1]
            refine j_putI C fl_X7_178 dX7_advance_150 (M.c) rfl rfl rfl rfl ?_
            rw [u2_u2]
            refine j_iincN C dX7_advance_153 rfl (by decide) rfl ?_
            refine j_goto (tgt := 85) C dX7_advance_156 (by decide) ?_
            have h115 : 8 ≤ k := by
              rw [show (8 : Int32) = nI 8 from rfl, n_nle (by omega) (by omega)] at h115; exact h115
            have z := ih (k + 1) (by omega) (by omega) (by rw [he]; exact scan_go (by omega) h108)
            rw [wAcc, if_neg (show ¬ k < 8 by omega)] at z
            exact z
          · skip
            refine j_lload_n C dX7_advance_118 rfl ?_
            refine j_ldc2 C kc_X7_190 dX7_advance_119 ?_
            refine j_lmul C dX7_advance_122 ?_
            refine j_aload_n C dX7_advance_123 rfl ?_
            refine j_getR (j := 37) C fl_X7_98 dX7_advance_124 (M.c) rfl (M.r36) ?_
            refine j_aload_n C dX7_advance_127 rfl ?_
            refine j_getI C fl_X7_178 dX7_advance_128 (M.c) rfl ?_
            rw [show u2 (u2 (u2 N 0 45 (nI q)) 0 47 (nI q)) 0 45 (nI (q + k)) 0 45 = nI (q + k) from u2_eq _ _ _ _]
            refine j_baldN C (M.t37) (⟨by omega, by decide⟩) dX7_advance_131 ?_
            refine j_i2l C dX7_advance_132 ?_
            refine j_ladd C dX7_advance_133 ?_
            refine j_ldc2 C kc_X7_192 dX7_advance_134 ?_
            refine j_lsub C dX7_advance_137 ?_
            refine j_goto (tgt := 142) C dX7_advance_138 (by decide) ?_
            refine j_lstore_n C dX7_advance_142 (by decide) rfl ?_
            refine j_aload_n C dX7_advance_143 rfl ?_
            refine j_dup C dX7_advance_144 rfl ?_
            refine j_getI C fl_X7_178 dX7_advance_145 (M.c) rfl ?_
            rw [show u2 (u2 (u2 N 0 45 (nI q)) 0 47 (nI q)) 0 45 (nI (q + k)) 0 45 = nI (q + k) from u2_eq _ _ _ _]
            refine j_iconst C dX7_advance_148 (v := 1) (by decide) ?_
            refine j_iadd C dX7_advance_149 ?_
            rw [nI_1]
            refine j_putI C fl_X7_178 dX7_advance_150 (M.c) rfl rfl rfl rfl ?_
            rw [u2_u2]
            refine j_iincN C dX7_advance_153 rfl (by decide) rfl ?_
            refine j_goto (tgt := 85) C dX7_advance_156 (by decide) ?_
            have h115 : ¬ 8 ≤ k := by
              rw [show (8 : Int32) = nI 8 from rfl, n_nle (by omega) (by omega)] at h115; exact h115
            have z := ih (k + 1) (by omega) (by omega) (by rw [he]; exact scan_go (by omega) h108)
            rw [wAcc, if_pos (show k < 8 by omega)] at z
            exact z
  have finD : ¬ q = n → ¬ (97 ≤ N 37 q ∧ N 37 q ≤ 122) → (48 ≤ N 37 q ∧ N 37 q ≤ 57) → ∀ k, eDg (N 37) n q = q + k → J p l e (RM 2 0 0) s m args below meth c (MQ below (QFv g sh (mAdv N n i0)) args s 0 0 g.A) g 5 sh (u2 (u2 (u2 (u2 N 0 45 (nI q)) 0 47 (nI q)) 0 48 (nAcc (N 37) q k)) 0 45 (nI (q + k))) 0 0 271 [some (.ref (sh.2.2 0)), none, some (.int (nI k)), none, none] [] := by
    intro hne hnl hdg k hE
    have hk2 : q + k ≤ n := by have := scan_le (fun j => 48 ≤ N 37 j ∧ N 37 j ≤ 57) (n - q) q; rw [eDg] at hE; omega
    have em : ∀ tk, (if k ≤ 5 then (1 : Int32) else 2) = tk → mAdv N n i0 = mTokN N (tk, q, q + k, nAcc (N 37) q k) := by
      intro tk et
      rw [mAdv, mTok, ← eq, if_neg hne, if_neg hnl, if_pos hdg, hE, show q + k - q = k by omega, et]
    refine j_aload_n C dX7_advance_271 rfl ?_
    refine j_iload_n C dX7_advance_272 rfl ?_
    refine j_iconst C dX7_advance_273 (v := 5) (by decide) ?_
    refine j_icmp_le (tgt := 281) C dX7_advance_274 (by decide) (fun h274 => ?_) (fun h274 => ?_)
    · skip
      rw [show (5 : Int32) = nI 5 from rfl, n_nle (by omega) (by omega)] at h274
      refine j_iconst C dX7_advance_281 (v := 1) (by decide) ?_
      refine j_putI C fl_X7_184 dX7_advance_282 (M.c) rfl rfl rfl rfl ?_
      refine j_vret C dX7_advance_285 ⟨rfl, ?_⟩
      rw [tok_b]
      first | exact (em _ (if_pos h274)).symm | exact (em _ (if_neg h274)).symm
    · skip
      rw [show (5 : Int32) = nI 5 from rfl, n_nle (by omega) (by omega)] at h274
      refine j_iconst C dX7_advance_277 (v := 2) (by decide) ?_
      refine j_goto (tgt := 282) C dX7_advance_278 (by decide) ?_
      refine j_putI C fl_X7_184 dX7_advance_282 (M.c) rfl rfl rfl rfl ?_
      refine j_vret C dX7_advance_285 ⟨rfl, ?_⟩
      rw [tok_b]
      first | exact (em _ (if_pos h274)).symm | exact (em _ (if_neg h274)).symm
  have keyD : ¬ q = n → ¬ (97 ≤ N 37 q ∧ N 37 q ≤ 122) → (48 ≤ N 37 q ∧ N 37 q ≤ 57) → ∀ k, q + k ≤ n → eDg (N 37) n q = scan (fun j => 48 ≤ N 37 j ∧ N 37 j ≤ 57) (n - (q + k)) (q + k) → J p l e (RM 2 0 0) s m args below meth c (MQ below (QFv g sh (mAdv N n i0)) args s 0 0 g.A) g 5 sh (u2 (u2 (u2 (u2 N 0 45 (nI q)) 0 47 (nI q)) 0 48 (nAcc (N 37) q k)) 0 45 (nI (q + k))) 0 0 193 [some (.ref (sh.2.2 0)), none, some (.int (nI k)), none, none] [] := by
    intro hne hnl hdg k hk
    obtain ⟨d, hd⟩ : ∃ d, n - (q + k) = d := ⟨_, rfl⟩
    induction d generalizing k with
    | zero =>
      intro he
      refine j_aload_n C dX7_advance_193 rfl ?_
      refine j_getI C fl_X7_178 dX7_advance_194 (M.c) rfl ?_
      refine j_aload_n C dX7_advance_197 rfl ?_
      refine j_getI C fl_X7_175 dX7_advance_198 (M.c) rfl ?_
      rw [show (u2 (u2 (u2 (u2 N 0 45 (nI q)) 0 47 (nI q)) 0 48 (nAcc (N 37) q k)) 0 45 (nI (q + k))) 0 45 = nI (q + k) from u2_eq _ _ _ _]
      refine j_icmp_ge (tgt := 271) C dX7_advance_201 (by decide) (fun h201 => ?_) (fun h201 => ?_)
      · skip
        have hE : eDg (N 37) n q = q + k := by
          have h201 : N 0 37 ≤ nI (q + k) := h201
          rw [hT, n_nle (by omega) (by omega)] at h201
          rw [he]; exact scan_no (fun z => absurd z (by omega)) hk
        exact finD hne hnl hdg k hE
      · skip
        have h201 : ¬ N 0 37 ≤ nI (q + k) := h201
        rw [hT, n_nle (by omega) (by omega)] at h201
        omega
    | succ d ih =>
      intro he
      refine j_aload_n C dX7_advance_193 rfl ?_
      refine j_getI C fl_X7_178 dX7_advance_194 (M.c) rfl ?_
      refine j_aload_n C dX7_advance_197 rfl ?_
      refine j_getI C fl_X7_175 dX7_advance_198 (M.c) rfl ?_
      rw [show (u2 (u2 (u2 (u2 N 0 45 (nI q)) 0 47 (nI q)) 0 48 (nAcc (N 37) q k)) 0 45 (nI (q + k))) 0 45 = nI (q + k) from u2_eq _ _ _ _]
      refine j_icmp_ge (tgt := 271) C dX7_advance_201 (by decide) (fun h201 => ?_) (fun h201 => ?_)
      · skip
        have hE : eDg (N 37) n q = q + k := by
          have h201 : N 0 37 ≤ nI (q + k) := h201
          rw [hT, n_nle (by omega) (by omega)] at h201
          rw [he]; exact scan_no (fun z => absurd z (by omega)) hk
        exact finD hne hnl hdg k hE
      · skip
        have h201 : ¬ N 0 37 ≤ nI (q + k) := h201
        rw [hT, n_nle (by omega) (by omega)] at h201
        refine j_aload_n C dX7_advance_204 rfl ?_
        refine j_getR (j := 37) C fl_X7_98 dX7_advance_205 (M.c) rfl (M.r36) ?_
        refine j_aload_n C dX7_advance_208 rfl ?_
        refine j_getI C fl_X7_178 dX7_advance_209 (M.c) rfl ?_
        rw [show (u2 (u2 (u2 (u2 N 0 45 (nI q)) 0 47 (nI q)) 0 48 (nAcc (N 37) q k)) 0 45 (nI (q + k))) 0 45 = nI (q + k) from u2_eq _ _ _ _]
        refine j_baldN C (M.t37) (⟨by omega, by decide⟩) dX7_advance_212 ?_
        refine j_callS1I C ml_X7_198 dX7_advance_213 (cM_isDigit hg _) ⟨Nat.le_of_ble_eq_true rfl, Nat.le_of_ble_eq_true rfl⟩ (Nat.le_of_ble_eq_true rfl) ⟨rfl, rfl⟩ ⟨Nat.zero_le _, Nat.zero_le _⟩ ?_
        refine j_if_eq (tgt := 271) C dX7_advance_216 (by decide) (fun h216 => ?_) (fun h216 => ?_)
        · replace h216 := b2_eq0.mp h216
          have hE : eDg (N 37) n q = q + k := by
            rw [he]; exact scan_no (fun _ => h216) hk
          exact finD hne hnl hdg k hE
        · replace h216 := b2_ne0.mp h216
          refine j_aload_n C dX7_advance_219 rfl ?_
          refine j_iload_n C dX7_advance_220 rfl ?_
          refine j_iconst C dX7_advance_221 (v := 5) (by decide) ?_
          refine j_icmp_ge (tgt := 248) C dX7_advance_222 (by decide) (fun h222 => ?_) (fun h222 => ?_)
          · skip
            refine j_aload_n C dX7_advance_248 rfl ?_
            refine j_getI C fl_X7_201 dX7_advance_249 (M.c) rfl ?_
            try rw [show (u2 (u2 (u2 (u2 N 0 45 (nI q)) 0 47 (nI q)) 0 48 (nAcc (N 37) q k)) 0 45 (nI (q + k))) 0 48 = nAcc (N 37) q k from by simp [u2]]
            refine j_putI C fl_X7_201 dX7_advance_252 (M.c) rfl rfl rfl rfl ?_
            skip
            refine j_aload_n C dX7_advance_255 rfl ?_
            refine j_dup C dX7_advance_256 rfl ?_
            refine j_getI C fl_X7_178 dX7_advance_257 (M.c) rfl ?_
            rw [show u2 (u2 (u2 (u2 (u2 N 0 45 (nI q)) 0 47 (nI q)) 0 48 (nAcc (N 37) q k)) 0 45 (nI (q + k))) 0 48 _ 0 45 = nI (q + k) from by simp [u2]]
            refine j_iconst C dX7_advance_260 (v := 1) (by decide) ?_
            refine j_iadd C dX7_advance_261 ?_
            rw [nI_1]
            refine j_putI C fl_X7_178 dX7_advance_262 (M.c) rfl rfl rfl rfl ?_
            rw [u2_4]
            refine j_iincN C dX7_advance_265 rfl (by decide) rfl ?_
            refine j_goto (tgt := 193) C dX7_advance_268 (by decide) ?_
            have h222 : 5 ≤ k := by
              rw [show (5 : Int32) = nI 5 from rfl, n_nle (by omega) (by omega)] at h222; exact h222
            have z := ih (k + 1) (by omega) (by omega) (by rw [he]; exact scan_go (by omega) h216)
            rw [nAcc, if_neg (show ¬ k < 5 by omega)] at z
            exact z
          · skip
            refine j_bipush C dX7_advance_225 (v := 10) (by decide) ?_
            refine j_aload_n C dX7_advance_227 rfl ?_
            refine j_getI C fl_X7_201 dX7_advance_228 (M.c) rfl ?_
            rw [show (u2 (u2 (u2 (u2 N 0 45 (nI q)) 0 47 (nI q)) 0 48 (nAcc (N 37) q k)) 0 45 (nI (q + k))) 0 48 = nAcc (N 37) q k from by simp [u2]]
            refine j_imul C dX7_advance_231 ?_
            refine j_aload_n C dX7_advance_232 rfl ?_
            refine j_getR (j := 37) C fl_X7_98 dX7_advance_233 (M.c) rfl (M.r36) ?_
            refine j_aload_n C dX7_advance_236 rfl ?_
            refine j_getI C fl_X7_178 dX7_advance_237 (M.c) rfl ?_
            rw [show (u2 (u2 (u2 (u2 N 0 45 (nI q)) 0 47 (nI q)) 0 48 (nAcc (N 37) q k)) 0 45 (nI (q + k))) 0 45 = nI (q + k) from u2_eq _ _ _ _]
            refine j_baldN C (M.t37) (⟨by omega, by decide⟩) dX7_advance_240 ?_
            refine j_iadd C dX7_advance_241 ?_
            refine j_bipush C dX7_advance_242 (v := 48) (by decide) ?_
            refine j_isub C dX7_advance_244 ?_
            refine j_goto (tgt := 252) C dX7_advance_245 (by decide) ?_
            try rw [show (u2 (u2 (u2 (u2 N 0 45 (nI q)) 0 47 (nI q)) 0 48 (nAcc (N 37) q k)) 0 45 (nI (q + k))) 0 48 = nAcc (N 37) q k from by simp [u2]]
            refine j_putI C fl_X7_201 dX7_advance_252 (M.c) rfl rfl rfl rfl ?_
            skip
            refine j_aload_n C dX7_advance_255 rfl ?_
            refine j_dup C dX7_advance_256 rfl ?_
            refine j_getI C fl_X7_178 dX7_advance_257 (M.c) rfl ?_
            rw [show u2 (u2 (u2 (u2 (u2 N 0 45 (nI q)) 0 47 (nI q)) 0 48 (nAcc (N 37) q k)) 0 45 (nI (q + k))) 0 48 _ 0 45 = nI (q + k) from by simp [u2]]
            refine j_iconst C dX7_advance_260 (v := 1) (by decide) ?_
            refine j_iadd C dX7_advance_261 ?_
            rw [nI_1]
            refine j_putI C fl_X7_178 dX7_advance_262 (M.c) rfl rfl rfl rfl ?_
            rw [u2_4]
            refine j_iincN C dX7_advance_265 rfl (by decide) rfl ?_
            refine j_goto (tgt := 193) C dX7_advance_268 (by decide) ?_
            have h222 : ¬ 5 ≤ k := by
              rw [show (5 : Int32) = nI 5 from rfl, n_nle (by omega) (by omega)] at h222; exact h222
            have z := ih (k + 1) (by omega) (by omega) (by rw [he]; exact scan_go (by omega) h216)
            rw [nAcc, if_pos (show k < 5 by omega)] at z
            exact z
  have key38 : J p l e (RM 2 0 0) s m args below meth c (MQ below (QFv g sh (mAdv N n i0)) args s 0 0 g.A) g 5 sh (u2 N 0 45 (nI q)) 0 0 38 [some (.ref (sh.2.2 0)), none, none, none, none] [] := by
    refine j_aload_n C dX7_advance_38 rfl ?_
    refine j_aload_n C dX7_advance_39 rfl ?_
    refine j_getI C fl_X7_178 dX7_advance_40 (M.c) rfl ?_
    rw [show u2 N 0 45 (nI q) 0 45 = nI q from u2_eq _ _ _ _]
    refine j_putI C fl_X7_181 dX7_advance_43 (M.c) rfl rfl rfl rfl ?_
    refine j_aload_n C dX7_advance_46 rfl ?_
    refine j_getI C fl_X7_178 dX7_advance_47 (M.c) rfl ?_
    rw [show (u2 (u2 N 0 45 (nI q)) 0 47 (nI q)) 0 45 = nI q from by simp [u2]]
    refine j_aload_n C dX7_advance_50 rfl ?_
    refine j_getI C fl_X7_175 dX7_advance_51 (M.c) rfl ?_
    rw [show (u2 (u2 N 0 45 (nI q)) 0 47 (nI q)) 0 37 = nI n from hT]
    refine j_icmp_ne (tgt := 63) C dX7_advance_54 (by decide) (fun h54 => ?_) (fun h54 => ?_)
    · skip
      have hne : ¬ q = n := fun z => h54 (by rw [z])
      refine j_aload_n C dX7_advance_63 rfl ?_
      refine j_getR (j := 37) C fl_X7_98 dX7_advance_64 (M.c) rfl (M.r36) ?_
      refine j_aload_n C dX7_advance_67 rfl ?_
      refine j_getI C fl_X7_178 dX7_advance_68 (M.c) rfl ?_
      rw [show (u2 (u2 N 0 45 (nI q)) 0 47 (nI q)) 0 45 = nI q from by simp [u2]]
      refine j_baldN C (M.t37) (⟨by omega, by decide⟩) dX7_advance_71 ?_
      refine j_istore_n C dX7_advance_72 (by decide) rfl ?_
      refine j_iload_n C dX7_advance_73 rfl ?_
      refine j_callS1I C ml_X7_187 dX7_advance_74 (cM_isLetter hg _) ⟨Nat.le_of_ble_eq_true rfl, Nat.le_of_ble_eq_true rfl⟩ (Nat.le_of_ble_eq_true rfl) ⟨rfl, rfl⟩ ⟨Nat.zero_le _, Nat.zero_le _⟩ ?_
      refine j_if_eq (tgt := 179) C dX7_advance_77 (by decide) (fun h77 => ?_) (fun h77 => ?_)
      · replace h77 := b2_eq0.mp h77
        refine j_iload_n C dX7_advance_179 rfl ?_
        refine j_callS1I C ml_X7_198 dX7_advance_180 (cM_isDigit hg _) ⟨Nat.le_of_ble_eq_true rfl, Nat.le_of_ble_eq_true rfl⟩ (Nat.le_of_ble_eq_true rfl) ⟨rfl, rfl⟩ ⟨Nat.zero_le _, Nat.zero_le _⟩ ?_
        refine j_if_eq (tgt := 286) C dX7_advance_183 (by decide) (fun h183 => ?_) (fun h183 => ?_)
        · replace h183 := b2_eq0.mp h183
          refine j_aload_n C dX7_advance_286 rfl ?_
          refine j_dup C dX7_advance_287 rfl ?_
          refine j_getI C fl_X7_178 dX7_advance_288 (M.c) rfl ?_
          rw [show (u2 (u2 N 0 45 (nI q)) 0 47 (nI q)) 0 45 = nI q from by simp [u2]]
          refine j_iconst C dX7_advance_291 (v := 1) (by decide) ?_
          refine j_iadd C dX7_advance_292 ?_
          rw [nI_1]
          refine j_putI C fl_X7_178 dX7_advance_293 (M.c) rfl rfl rfl rfl ?_
          refine j_aload_n C dX7_advance_296 rfl ?_
          refine j_iload_n C dX7_advance_297 rfl ?_
          refine j_callS1I C ml_X7_204 dX7_advance_298 (cM_signOf hg _) ⟨Nat.le_of_ble_eq_true rfl, Nat.le_of_ble_eq_true rfl⟩ (Nat.le_of_ble_eq_true rfl) ⟨rfl, rfl⟩ ⟨Nat.zero_le _, Nat.zero_le _⟩ ?_
          refine j_putI C fl_X7_184 dX7_advance_301 (M.c) rfl rfl rfl rfl ?_
          refine j_vret C dX7_advance_304 ⟨rfl, ?_⟩
          rw [tok_a, mAdv, mTok, ← eq, if_neg hne, if_neg (show ¬ (97 ≤ N 37 q ∧ N 37 q ≤ 122) from h77), if_neg (show ¬ (48 ≤ N 37 q ∧ N 37 q ≤ 57) from h183)]
          rfl
        · replace h183 := b2_ne0.mp h183
          refine j_iconst C dX7_advance_186 (v := 0) (by decide) ?_
          refine j_istore_n C dX7_advance_187 (by decide) rfl ?_
          refine j_aload_n C dX7_advance_188 rfl ?_
          refine j_iconst C dX7_advance_189 (v := 0) (by decide) ?_
          refine j_putI C fl_X7_201 dX7_advance_190 (M.c) rfl rfl rfl rfl ?_
          have z := keyD hne h77 h183 0 hqn rfl
          rw [Nat.add_zero, show u2 (u2 (u2 (u2 N 0 45 (nI q)) 0 47 (nI q)) 0 48 (nAcc (N 37) q 0)) 0 45 (nI q) = u2 (u2 (u2 N 0 45 (nI q)) 0 47 (nI q)) 0 48 0 from u2_same (by simp [u2])] at z
          exact J.le (lv1 := [some (.ref (sh.2.2 0)), none, some (.int (nI 0)), none, none]) ⟨rfl, rfl, trivial⟩ z
      · replace h77 := b2_ne0.mp h77
        refine j_lconst C dX7_advance_80 (v := 0) (by decide) ?_
        refine j_lstore_n C dX7_advance_81 (by decide) rfl ?_
        refine j_iconst C dX7_advance_82 (v := 0) (by decide) ?_
        refine j_istore C dX7_advance_83 (by decide) rfl ?_
        have z := keyW hne h77 0 hqn rfl
        rw [Nat.add_zero, u2_same (i := 0) (k := 45) (v := nI q) (by simp [u2])] at z
        exact J.le (lv1 := [some (.ref (sh.2.2 0)), none, some (.long (wAcc (N 37) q 0)), none, some (.int (nI 0))]) ⟨rfl, rfl, rfl, trivial⟩ z
    · replace h54 := Decidable.not_not.mp h54
      have hqe : q = n := by first | exact (nI_eq (by omega) (by omega)).mp h54 | skip
      refine j_aload_n C dX7_advance_57 rfl ?_
      refine j_iconst C dX7_advance_58 (v := 0) (by decide) ?_
      refine j_putI C fl_X7_184 dX7_advance_59 (M.c) rfl rfl rfl rfl ?_
      refine j_vret C dX7_advance_62 ⟨rfl, ?_⟩
      rw [mAdv, mTok, ← eq, if_pos hqe]
      subst hqe
      have z : u2 (u2 (u2 N 0 45 (nI q)) 0 47 (nI q)) 0 45 (nI q) = (u2 (u2 N 0 45 (nI q)) 0 47 (nI q)) := u2_same (by simp [u2])
      rw [← tok_a, z]
  have key0 : ∀ i, i ≤ n → q = scan (fun j => N 37 j = 32) (n - i) i → J p l e (RM 2 0 0) s m args below meth c (MQ below (QFv g sh (mAdv N n i0)) args s 0 0 g.A) g 5 sh (u2 N 0 45 (nI i)) 0 0 0 [some (.ref (sh.2.2 0)), none, none, none, none] [] := by
    refine up_ind (n := n) ?_
    intro i hi ih hq
    refine j_aload_n C dX7_advance_0 rfl ?_
    refine j_getI C fl_X7_178 dX7_advance_1 (M.c) rfl ?_
    rw [show u2 N 0 45 (nI i) 0 45 = nI i from u2_eq _ _ _ _]
    refine j_aload_n C dX7_advance_4 rfl ?_
    refine j_getI C fl_X7_175 dX7_advance_5 (M.c) rfl ?_
    refine j_icmp_ge (tgt := 38) C dX7_advance_8 (by decide) (fun h8 => ?_) (fun h8 => ?_)
    · skip
      have h8 : N 0 37 ≤ nI i := h8
      rw [hT, n_nle (by omega) (by omega)] at h8
      obtain rfl : q = i := by rw [hq]; exact scan_no (fun z => absurd z (by omega)) hi
      exact key38
    · skip
      have h8 : ¬ N 0 37 ≤ nI i := h8
      rw [hT, n_nle (by omega) (by omega)] at h8
      refine j_aload_n C dX7_advance_11 rfl ?_
      refine j_getR (j := 37) C fl_X7_98 dX7_advance_12 (M.c) rfl (M.r36) ?_
      refine j_aload_n C dX7_advance_15 rfl ?_
      refine j_getI C fl_X7_178 dX7_advance_16 (M.c) rfl ?_
      rw [show u2 N 0 45 (nI i) 0 45 = nI i from u2_eq _ _ _ _]
      refine j_baldN C (M.t37) (⟨by omega, by decide⟩) dX7_advance_19 ?_
      refine j_bipush C dX7_advance_20 (v := 32) (by decide) ?_
      refine j_icmp_ne (tgt := 38) C dX7_advance_22 (by decide) (fun h22 => ?_) (fun h22 => ?_)
      · skip
        obtain rfl : q = i := by rw [hq]; exact scan_no (fun _ => h22) hi
        exact key38
      · replace h22 := Decidable.not_not.mp h22
        refine j_aload_n C dX7_advance_25 rfl ?_
        refine j_dup C dX7_advance_26 rfl ?_
        refine j_getI C fl_X7_178 dX7_advance_27 (M.c) rfl ?_
        rw [show u2 N 0 45 (nI i) 0 45 = nI i from u2_eq _ _ _ _]
        refine j_iconst C dX7_advance_30 (v := 1) (by decide) ?_
        refine j_iadd C dX7_advance_31 ?_
        rw [nI_1]
        refine j_putI C fl_X7_178 dX7_advance_32 (M.c) rfl rfl rfl rfl ?_
        rw [u2_u2]
        refine j_goto (tgt := 0) C dX7_advance_35 (by decide) ?_
        exact ih (by omega) (by rw [hq]; exact scan_go (by omega) h22)
  have z := key0 i0 hi0 eq
  rw [u2_same hA] at z
  exact z
