/-! ===== THE CLASS: leaves ===== -/

theorem cX_within {l : Launch} {g : WGp} (hg : GOK g) {sh : WSh} {N : WNm} (v lo hi : Int32) : CT l g yX6_within cX6_within 3 (some .boolean) (RM 1 0 0) [.int v, .int lo, .int hi] sh N (QF g sh N (b2 (lo ≤ v ∧ v ≤ hi))) := by
  refine ent hg (by decide +kernel) (Nat.le_of_ble_eq_true rfl) ?_
  intro p e s m args below meth c C hname
  refine j_iload_n C dX6_within_0 rfl ?_
  refine j_iload_n C dX6_within_1 rfl ?_
  refine j_icmp_lt (tgt := 14) C dX6_within_2 (by decide) (fun h2 => ?_) (fun h2 => ?_)
  · skip
    refine j_iconst C dX6_within_14 (v := 0) (by decide) ?_
    refine j_iret C dX6_within_15 rfl ⟨rfl, rfl, ?_⟩
    first | exact (b2_t ⟨h2, h7⟩).symm | exact (b2_f (fun z => absurd z.1 (i_nle.mpr h2))).symm | exact (b2_f (fun z => absurd z.2 (i_nle.mpr h7))).symm
  · replace h2 := i_nlt.mp h2
    refine j_iload_n C dX6_within_5 rfl ?_
    refine j_iload_n C dX6_within_6 rfl ?_
    refine j_icmp_gt (tgt := 14) C dX6_within_7 (by decide) (fun h7 => ?_) (fun h7 => ?_)
    · skip
      refine j_iconst C dX6_within_14 (v := 0) (by decide) ?_
      refine j_iret C dX6_within_15 rfl ⟨rfl, rfl, ?_⟩
      first | exact (b2_t ⟨h2, h7⟩).symm | exact (b2_f (fun z => absurd z.1 (i_nle.mpr h2))).symm | exact (b2_f (fun z => absurd z.2 (i_nle.mpr h7))).symm
    · replace h7 := i_nlt.mp h7
      refine j_iconst C dX6_within_10 (v := 1) (by decide) ?_
      refine j_goto (tgt := 15) C dX6_within_11 (by decide) ?_
      refine j_iret C dX6_within_15 rfl ⟨rfl, rfl, ?_⟩
      first | exact (b2_t ⟨h2, h7⟩).symm | exact (b2_f (fun z => absurd z.1 (i_nle.mpr h2))).symm | exact (b2_f (fun z => absurd z.2 (i_nle.mpr h7))).symm

theorem cX_isPerson {l : Launch} {g : WGp} (hg : GOK g) {sh : WSh} {N : WNm} (v : Int32) : CT l g yX6_isPerson cX6_isPerson 1 (some .boolean) (RM 2 0 0) [.int v] sh N (QF g sh N (b2 (0 ≤ v ∧ v ≤ 9))) := by
  refine ent hg (by decide +kernel) (Nat.le_of_ble_eq_true rfl) ?_
  intro p e s m args below meth c C hname
  refine j_iload_n C dX6_isPerson_0 rfl ?_
  refine j_iconst C dX6_isPerson_1 (v := 0) (by decide) ?_
  refine j_bipush C dX6_isPerson_2 (v := 9) (by decide) ?_
  refine j_callS3I C ml_X6_57 dX6_isPerson_4 (cX_within hg _ _ _) ⟨Nat.le_of_ble_eq_true rfl, Nat.le_of_ble_eq_true rfl⟩ (Nat.le_of_ble_eq_true rfl) ⟨rfl, rfl⟩ ⟨Nat.zero_le _, Nat.zero_le _⟩ ?_
  exact j_iret C dX6_isPerson_7 (b2_nar _) ⟨rfl, rfl, rfl⟩

theorem cX_isVoteKind {l : Launch} {g : WGp} (hg : GOK g) {sh : WSh} {N : WNm} (v : Int32) : CT l g yX6_isVoteKind cX6_isVoteKind 1 (some .boolean) (RM 2 0 0) [.int v] sh N (QF g sh N (b2 (0 ≤ v ∧ v ≤ 2))) := by
  refine ent hg (by decide +kernel) (Nat.le_of_ble_eq_true rfl) ?_
  intro p e s m args below meth c C hname
  refine j_iload_n C dX6_isVoteKind_0 rfl ?_
  refine j_iconst C dX6_isVoteKind_1 (v := 0) (by decide) ?_
  refine j_iconst C dX6_isVoteKind_2 (v := 2) (by decide) ?_
  refine j_callS3I C ml_X6_57 dX6_isVoteKind_3 (cX_within hg _ _ _) ⟨Nat.le_of_ble_eq_true rfl, Nat.le_of_ble_eq_true rfl⟩ (Nat.le_of_ble_eq_true rfl) ⟨rfl, rfl⟩ ⟨Nat.zero_le _, Nat.zero_le _⟩ ?_
  exact j_iret C dX6_isVoteKind_6 (b2_nar _) ⟨rfl, rfl, rfl⟩

theorem cX_isAboard {l : Launch} {g : WGp} (hg : GOK g) {sh : WSh} {N : WNm} {B : Nat} (hB : (sh.1 B).1 = 0) {G : Nat} (hG : (sh.1 G).1 = 1) : CT l g yX0_isAboard cX0_isAboard 2 (some .boolean) (RM 1 0 0) [.ref (sh.2.2 B), .ref (sh.2.2 G)] sh N (QF g sh N (b2 (N B 9 = 1 ∧ N B 10 = N G 0))) := by
  refine ent hg (by decide +kernel) (Nat.le_of_ble_eq_true rfl) ?_
  intro p e s m args below meth c C hname
  refine j_aload_n C dX0_isAboard_0 rfl ?_
  refine j_getI C fl_X0_9 dX0_isAboard_1 (hB) rfl ?_
  refine j_iconst C dX0_isAboard_4 (v := 1) (by decide) ?_
  refine j_icmp_ne (tgt := 23) C dX0_isAboard_5 (by decide) (fun h5 => ?_) (fun h5 => ?_)
  · skip
    refine j_iconst C dX0_isAboard_23 (v := 0) (by decide) ?_
    refine j_iret C dX0_isAboard_24 rfl ⟨rfl, rfl, ?_⟩
    simp_all [b2]
  · replace h5 := Decidable.not_not.mp h5
    refine j_aload_n C dX0_isAboard_8 rfl ?_
    refine j_getI C fl_X0_15 dX0_isAboard_9 (hB) rfl ?_
    refine j_aload_n C dX0_isAboard_12 rfl ?_
    refine j_getI C fl_X0_49 dX0_isAboard_13 (hG) rfl ?_
    refine j_icmp_ne (tgt := 23) C dX0_isAboard_16 (by decide) (fun h16 => ?_) (fun h16 => ?_)
    · skip
      refine j_iconst C dX0_isAboard_23 (v := 0) (by decide) ?_
      refine j_iret C dX0_isAboard_24 rfl ⟨rfl, rfl, ?_⟩
      simp_all [b2]
    · replace h16 := Decidable.not_not.mp h16
      refine j_iconst C dX0_isAboard_19 (v := 1) (by decide) ?_
      refine j_goto (tgt := 24) C dX0_isAboard_20 (by decide) ?_
      refine j_iret C dX0_isAboard_24 rfl ⟨rfl, rfl, ?_⟩
      simp_all [b2]

def xTurn (N : WNm) (B : Nat) (v d : Int32) : WNm := u2 (u2 N B 9 v) B 11 d

theorem cX_turn {l : Launch} {g : WGp} (hg : GOK g) {sh : WSh} {N : WNm} {B : Nat} (hB : (sh.1 B).1 = 0) (v t : Int32) : CT l g yX0_turn cX0_turn 3 none (RM 1 0 0) [.ref (sh.2.2 B), .int v, .int t] sh N (QFv g sh (xTurn N B v t)) := by
  refine ent hg (by decide +kernel) (Nat.le_of_ble_eq_true rfl) ?_
  intro p e s m args below meth c C hname
  refine j_aload_n C dX0_turn_0 rfl ?_
  refine j_iload_n C dX0_turn_1 rfl ?_
  refine j_putI C fl_X0_9 dX0_turn_2 (hB) rfl rfl rfl rfl ?_
  refine j_aload_n C dX0_turn_5 rfl ?_
  refine j_iload_n C dX0_turn_6 rfl ?_
  refine j_putI C fl_X0_46 dX0_turn_7 (hB) rfl rfl rfl rfl ?_
  exact j_vret C dX0_turn_10 ⟨rfl, rfl⟩

def xBTell (N : WNm) (B : Nat) (w : Int32) : Int32 := (if w = 0 then N B 0 else (if w = 1 then N B 1 else (if w = 2 then N B 2 else (if w = 3 then N B 3 else (if w = 4 then N B 4 else (if w = 5 then N B 5 else (if w = 6 then N B 6 else (if w = 7 then N B 7 else (if w = 8 then N B 8 else (if w = 9 then N B 9 else (if w = 10 then N B 10 else (if w = 11 then N B 11 else -1))))))))))))

theorem cX_btell {l : Launch} {g : WGp} (hg : GOK g) {sh : WSh} {N : WNm} {B : Nat} (hB : (sh.1 B).1 = 0) (w : Int32) : CT l g yX0_tell cX0_tell 2 (some .int) (RM 1 0 0) [.ref (sh.2.2 B), .int w] sh N (QF g sh N (xBTell N B w)) := by
  refine ent hg (by decide +kernel) (Nat.le_of_ble_eq_true rfl) ?_
  intro p e s m args below meth c C hname
  refine j_iload_n C dX0_tell_0 rfl ?_
  by_cases h1_0 : w = 0
  · refine j_tabIn (tgt := 64) C dX0_tell_1 (by rw [h1_0]; decide) (by rw [h1_0]; decide) (off := 63) (by rw [h1_0]; decide) (by decide) ?_
    refine j_aload_n C dX0_tell_64 rfl ?_
    refine j_getI C fl_X0_18 dX0_tell_65 (hB) rfl ?_
    refine j_iret C dX0_tell_68 rfl ⟨rfl, rfl, ?_⟩ <;> rw [xBTell, if_pos h1_0]
  by_cases h1_1 : w = 1
  · refine j_tabIn (tgt := 69) C dX0_tell_1 (by rw [h1_1]; decide) (by rw [h1_1]; decide) (off := 68) (by rw [h1_1]; decide) (by decide) ?_
    refine j_aload_n C dX0_tell_69 rfl ?_
    refine j_getI C fl_X0_21 dX0_tell_70 (hB) rfl ?_
    refine j_iret C dX0_tell_73 rfl ⟨rfl, rfl, ?_⟩ <;> rw [xBTell, if_neg h1_0, if_pos h1_1]
  by_cases h1_2 : w = 2
  · refine j_tabIn (tgt := 74) C dX0_tell_1 (by rw [h1_2]; decide) (by rw [h1_2]; decide) (off := 73) (by rw [h1_2]; decide) (by decide) ?_
    refine j_aload_n C dX0_tell_74 rfl ?_
    refine j_getI C fl_X0_24 dX0_tell_75 (hB) rfl ?_
    refine j_iret C dX0_tell_78 rfl ⟨rfl, rfl, ?_⟩ <;> rw [xBTell, if_neg h1_0, if_neg h1_1, if_pos h1_2]
  by_cases h1_3 : w = 3
  · refine j_tabIn (tgt := 79) C dX0_tell_1 (by rw [h1_3]; decide) (by rw [h1_3]; decide) (off := 78) (by rw [h1_3]; decide) (by decide) ?_
    refine j_aload_n C dX0_tell_79 rfl ?_
    refine j_getI C fl_X0_28 dX0_tell_80 (hB) rfl ?_
    refine j_iret C dX0_tell_83 rfl ⟨rfl, rfl, ?_⟩ <;> rw [xBTell, if_neg h1_0, if_neg h1_1, if_neg h1_2, if_pos h1_3]
  by_cases h1_4 : w = 4
  · refine j_tabIn (tgt := 84) C dX0_tell_1 (by rw [h1_4]; decide) (by rw [h1_4]; decide) (off := 83) (by rw [h1_4]; decide) (by decide) ?_
    refine j_aload_n C dX0_tell_84 rfl ?_
    refine j_getI C fl_X0_31 dX0_tell_85 (hB) rfl ?_
    refine j_iret C dX0_tell_88 rfl ⟨rfl, rfl, ?_⟩ <;> rw [xBTell, if_neg h1_0, if_neg h1_1, if_neg h1_2, if_neg h1_3, if_pos h1_4]
  by_cases h1_5 : w = 5
  · refine j_tabIn (tgt := 89) C dX0_tell_1 (by rw [h1_5]; decide) (by rw [h1_5]; decide) (off := 88) (by rw [h1_5]; decide) (by decide) ?_
    refine j_aload_n C dX0_tell_89 rfl ?_
    refine j_getI C fl_X0_34 dX0_tell_90 (hB) rfl ?_
    refine j_iret C dX0_tell_93 rfl ⟨rfl, rfl, ?_⟩ <;> rw [xBTell, if_neg h1_0, if_neg h1_1, if_neg h1_2, if_neg h1_3, if_neg h1_4, if_pos h1_5]
  by_cases h1_6 : w = 6
  · refine j_tabIn (tgt := 94) C dX0_tell_1 (by rw [h1_6]; decide) (by rw [h1_6]; decide) (off := 93) (by rw [h1_6]; decide) (by decide) ?_
    refine j_aload_n C dX0_tell_94 rfl ?_
    refine j_getI C fl_X0_37 dX0_tell_95 (hB) rfl ?_
    refine j_iret C dX0_tell_98 rfl ⟨rfl, rfl, ?_⟩ <;> rw [xBTell, if_neg h1_0, if_neg h1_1, if_neg h1_2, if_neg h1_3, if_neg h1_4, if_neg h1_5, if_pos h1_6]
  by_cases h1_7 : w = 7
  · refine j_tabIn (tgt := 99) C dX0_tell_1 (by rw [h1_7]; decide) (by rw [h1_7]; decide) (off := 98) (by rw [h1_7]; decide) (by decide) ?_
    refine j_aload_n C dX0_tell_99 rfl ?_
    refine j_getI C fl_X0_40 dX0_tell_100 (hB) rfl ?_
    refine j_iret C dX0_tell_103 rfl ⟨rfl, rfl, ?_⟩ <;> rw [xBTell, if_neg h1_0, if_neg h1_1, if_neg h1_2, if_neg h1_3, if_neg h1_4, if_neg h1_5, if_neg h1_6, if_pos h1_7]
  by_cases h1_8 : w = 8
  · refine j_tabIn (tgt := 104) C dX0_tell_1 (by rw [h1_8]; decide) (by rw [h1_8]; decide) (off := 103) (by rw [h1_8]; decide) (by decide) ?_
    refine j_aload_n C dX0_tell_104 rfl ?_
    refine j_getI C fl_X0_43 dX0_tell_105 (hB) rfl ?_
    refine j_iret C dX0_tell_108 rfl ⟨rfl, rfl, ?_⟩ <;> rw [xBTell, if_neg h1_0, if_neg h1_1, if_neg h1_2, if_neg h1_3, if_neg h1_4, if_neg h1_5, if_neg h1_6, if_neg h1_7, if_pos h1_8]
  by_cases h1_9 : w = 9
  · refine j_tabIn (tgt := 109) C dX0_tell_1 (by rw [h1_9]; decide) (by rw [h1_9]; decide) (off := 108) (by rw [h1_9]; decide) (by decide) ?_
    refine j_aload_n C dX0_tell_109 rfl ?_
    refine j_getI C fl_X0_9 dX0_tell_110 (hB) rfl ?_
    refine j_iret C dX0_tell_113 rfl ⟨rfl, rfl, ?_⟩ <;> rw [xBTell, if_neg h1_0, if_neg h1_1, if_neg h1_2, if_neg h1_3, if_neg h1_4, if_neg h1_5, if_neg h1_6, if_neg h1_7, if_neg h1_8, if_pos h1_9]
  by_cases h1_10 : w = 10
  · refine j_tabIn (tgt := 114) C dX0_tell_1 (by rw [h1_10]; decide) (by rw [h1_10]; decide) (off := 113) (by rw [h1_10]; decide) (by decide) ?_
    refine j_aload_n C dX0_tell_114 rfl ?_
    refine j_getI C fl_X0_15 dX0_tell_115 (hB) rfl ?_
    refine j_iret C dX0_tell_118 rfl ⟨rfl, rfl, ?_⟩ <;> rw [xBTell, if_neg h1_0, if_neg h1_1, if_neg h1_2, if_neg h1_3, if_neg h1_4, if_neg h1_5, if_neg h1_6, if_neg h1_7, if_neg h1_8, if_neg h1_9, if_pos h1_10]
  by_cases h1_11 : w = 11
  · refine j_tabIn (tgt := 119) C dX0_tell_1 (by rw [h1_11]; decide) (by rw [h1_11]; decide) (off := 118) (by rw [h1_11]; decide) (by decide) ?_
    refine j_aload_n C dX0_tell_119 rfl ?_
    refine j_getI C fl_X0_46 dX0_tell_120 (hB) rfl ?_
    refine j_iret C dX0_tell_123 rfl ⟨rfl, rfl, ?_⟩ <;> rw [xBTell, if_neg h1_0, if_neg h1_1, if_neg h1_2, if_neg h1_3, if_neg h1_4, if_neg h1_5, if_neg h1_6, if_neg h1_7, if_neg h1_8, if_neg h1_9, if_neg h1_10, if_pos h1_11]
  have q0 := lv_neT h1_0 (a := 0) (by decide)
  have q1 := lv_neT h1_1 (a := 1) (by decide)
  have q2 := lv_neT h1_2 (a := 2) (by decide)
  have q3 := lv_neT h1_3 (a := 3) (by decide)
  have q4 := lv_neT h1_4 (a := 4) (by decide)
  have q5 := lv_neT h1_5 (a := 5) (by decide)
  have q6 := lv_neT h1_6 (a := 6) (by decide)
  have q7 := lv_neT h1_7 (a := 7) (by decide)
  have q8 := lv_neT h1_8 (a := 8) (by decide)
  have q9 := lv_neT h1_9 (a := 9) (by decide)
  have q10 := lv_neT h1_10 (a := 10) (by decide)
  have q11 := lv_neT h1_11 (a := 11) (by decide)
  refine j_tabOut (tgt := 124) C dX0_tell_1 (by omega) (by decide) ?_
  refine j_iconst C dX0_tell_124 (v := (-1)) (by decide) ?_
  refine j_iret C dX0_tell_125 rfl ⟨rfl, rfl, ?_⟩ <;> rw [xBTell, if_neg h1_0, if_neg h1_1, if_neg h1_2, if_neg h1_3, if_neg h1_4, if_neg h1_5, if_neg h1_6, if_neg h1_7, if_neg h1_8, if_neg h1_9, if_neg h1_10, if_neg h1_11]

def xCome (N : WNm) (G : Nat) (q t : Int32) : WNm := u2 (u2 (u2 (u2 N G 9 1) G 10 q) G 11 t) G 12 0

theorem cX_comeTo {l : Launch} {g : WGp} (hg : GOK g) {sh : WSh} {N : WNm} {G : Nat} (hG : (sh.1 G).1 = 1) (q t : Int32) : CT l g yX1_comeTo cX1_comeTo 3 none (RM 1 0 0) [.ref (sh.2.2 G), .int q, .int t] sh N (QFv g sh (xCome N G q t)) := by
  refine ent hg (by decide +kernel) (Nat.le_of_ble_eq_true rfl) ?_
  intro p e s m args below meth c C hname
  refine j_aload_n C dX1_comeTo_0 rfl ?_
  refine j_iconst C dX1_comeTo_1 (v := 1) (by decide) ?_
  refine j_putI C fl_X1_15 dX1_comeTo_2 (hG) rfl rfl rfl rfl ?_
  refine j_aload_n C dX1_comeTo_5 rfl ?_
  refine j_iload_n C dX1_comeTo_6 rfl ?_
  refine j_putI C fl_X1_19 dX1_comeTo_7 (hG) rfl rfl rfl rfl ?_
  refine j_aload_n C dX1_comeTo_10 rfl ?_
  refine j_iload_n C dX1_comeTo_11 rfl ?_
  refine j_putI C fl_X1_22 dX1_comeTo_12 (hG) rfl rfl rfl rfl ?_
  refine j_aload_n C dX1_comeTo_15 rfl ?_
  refine j_iconst C dX1_comeTo_16 (v := 0) (by decide) ?_
  refine j_putI C fl_X1_44 dX1_comeTo_17 (hG) rfl rfl rfl rfl ?_
  exact j_vret C dX1_comeTo_20 ⟨rfl, rfl⟩

def xPut (N : WNm) (G : Nat) (t : Int32) : WNm := u2 (u2 (u2 (u2 N G 9 2) G 10 (N G 10 + 1)) G 11 t) G 12 0

theorem cX_putToSea {l : Launch} {g : WGp} (hg : GOK g) {sh : WSh} {N : WNm} {G : Nat} (hG : (sh.1 G).1 = 1) (t : Int32) : CT l g yX1_putToSea cX1_putToSea 2 none (RM 1 0 0) [.ref (sh.2.2 G), .int t] sh N (QFv g sh (xPut N G t)) := by
  refine ent hg (by decide +kernel) (Nat.le_of_ble_eq_true rfl) ?_
  intro p e s m args below meth c C hname
  refine j_aload_n C dX1_putToSea_0 rfl ?_
  refine j_iconst C dX1_putToSea_1 (v := 2) (by decide) ?_
  refine j_putI C fl_X1_15 dX1_putToSea_2 (hG) rfl rfl rfl rfl ?_
  refine j_aload_n C dX1_putToSea_5 rfl ?_
  refine j_dup C dX1_putToSea_6 rfl ?_
  refine j_getI C fl_X1_19 dX1_putToSea_7 (hG) rfl ?_
  refine j_iconst C dX1_putToSea_10 (v := 1) (by decide) ?_
  refine j_iadd C dX1_putToSea_11 ?_
  refine j_putI C fl_X1_19 dX1_putToSea_12 (hG) rfl rfl rfl rfl ?_
  refine j_aload_n C dX1_putToSea_15 rfl ?_
  refine j_iload_n C dX1_putToSea_16 rfl ?_
  refine j_putI C fl_X1_22 dX1_putToSea_17 (hG) rfl rfl rfl rfl ?_
  refine j_aload_n C dX1_putToSea_20 rfl ?_
  refine j_iconst C dX1_putToSea_21 (v := 0) (by decide) ?_
  refine j_putI C fl_X1_44 dX1_putToSea_22 (hG) rfl rfl rfl rfl ?_
  exact j_vret C dX1_putToSea_25 ⟨rfl, by simp only [xPut, u2_ne (show ¬ (G = G ∧ 10 = 9) by omega)]⟩

def xCan (N : WNm) (G B : Nat) : Int32 := if N G 1 < N G 14 + N B 4 then 0 else (if N G 2 < N G 15 + N B 5 then 0 else (if N B 3 = 1 then (if N G 2 / 2 < N G 16 + N B 5 then 0 else 1) else 1))

theorem cX_canTake {l : Launch} {g : WGp} (hg : GOK g) {sh : WSh} {N : WNm} {G : Nat} (hG : (sh.1 G).1 = 1) {B : Nat} (hB : (sh.1 B).1 = 0) : CT l g yX1_canTake cX1_canTake 2 (some .boolean) (RM 1 0 0) [.ref (sh.2.2 G), .ref (sh.2.2 B)] sh N (QF g sh N (xCan N G B)) := by
  refine ent hg (by decide +kernel) (Nat.le_of_ble_eq_true rfl) ?_
  intro p e s m args below meth c C hname
  refine j_aload_n C dX1_canTake_0 rfl ?_
  refine j_getI C fl_X1_47 dX1_canTake_1 (hG) rfl ?_
  refine j_aload_n C dX1_canTake_4 rfl ?_
  refine j_getI C fl_X1_50 dX1_canTake_5 (hB) rfl ?_
  refine j_iadd C dX1_canTake_8 ?_
  refine j_aload_n C dX1_canTake_9 rfl ?_
  refine j_getI C fl_X1_28 dX1_canTake_10 (hG) rfl ?_
  refine j_icmp_gt (tgt := 62) C dX1_canTake_13 (by decide) (fun h13 => ?_) (fun h13 => ?_)
  · skip
    refine j_iconst C dX1_canTake_62 (v := 0) (by decide) ?_
    refine j_iret C dX1_canTake_63 rfl ⟨rfl, rfl, ?_⟩
    first | (rw [xCan, if_pos h13])
  · skip
    refine j_aload_n C dX1_canTake_16 rfl ?_
    refine j_getI C fl_X1_53 dX1_canTake_17 (hG) rfl ?_
    refine j_aload_n C dX1_canTake_20 rfl ?_
    refine j_getI C fl_X1_56 dX1_canTake_21 (hB) rfl ?_
    refine j_iadd C dX1_canTake_24 ?_
    refine j_aload_n C dX1_canTake_25 rfl ?_
    refine j_getI C fl_X1_31 dX1_canTake_26 (hG) rfl ?_
    refine j_icmp_gt (tgt := 62) C dX1_canTake_29 (by decide) (fun h29 => ?_) (fun h29 => ?_)
    · skip
      refine j_iconst C dX1_canTake_62 (v := 0) (by decide) ?_
      refine j_iret C dX1_canTake_63 rfl ⟨rfl, rfl, ?_⟩
      first | (rw [xCan, if_neg h13, if_pos h29])
    · skip
      refine j_aload_n C dX1_canTake_32 rfl ?_
      refine j_getI C fl_X1_59 dX1_canTake_33 (hB) rfl ?_
      refine j_iconst C dX1_canTake_36 (v := 1) (by decide) ?_
      refine j_icmp_ne (tgt := 58) C dX1_canTake_37 (by decide) (fun h37 => ?_) (fun h37 => ?_)
      · skip
        refine j_iconst C dX1_canTake_58 (v := 1) (by decide) ?_
        refine j_goto (tgt := 63) C dX1_canTake_59 (by decide) ?_
        refine j_iret C dX1_canTake_63 rfl ⟨rfl, rfl, ?_⟩
        first | (rw [xCan, if_neg h13, if_neg h29, if_neg h37])
      · replace h37 := Decidable.not_not.mp h37
        refine j_aload_n C dX1_canTake_40 rfl ?_
        refine j_getI C fl_X1_62 dX1_canTake_41 (hG) rfl ?_
        refine j_aload_n C dX1_canTake_44 rfl ?_
        refine j_getI C fl_X1_56 dX1_canTake_45 (hB) rfl ?_
        refine j_iadd C dX1_canTake_48 ?_
        refine j_aload_n C dX1_canTake_49 rfl ?_
        refine j_getI C fl_X1_31 dX1_canTake_50 (hG) rfl ?_
        refine j_iconst C dX1_canTake_53 (v := 2) (by decide) ?_
        refine j_idiv C dX1_canTake_54 (by decide) ?_
        refine j_icmp_gt (tgt := 62) C dX1_canTake_55 (by decide) (fun h55 => ?_) (fun h55 => ?_)
        · skip
          refine j_iconst C dX1_canTake_62 (v := 0) (by decide) ?_
          refine j_iret C dX1_canTake_63 rfl ⟨rfl, rfl, ?_⟩
          first | (rw [xCan, if_neg h13, if_neg h29, if_pos h37, if_pos h55])
        · skip
          refine j_iconst C dX1_canTake_58 (v := 1) (by decide) ?_
          refine j_goto (tgt := 63) C dX1_canTake_59 (by decide) ?_
          refine j_iret C dX1_canTake_63 rfl ⟨rfl, rfl, ?_⟩
          first | (rw [xCan, if_neg h13, if_neg h29, if_pos h37, if_neg h55])

def xChg3 (N : WNm) (G B : Nat) (y : Int32) : WNm := u2 (u2 (u2 N G 13 (N G 13 + y)) G 14 (N G 14 + y * N B 4)) G 15 (N G 15 + y * N B 5)
def xChg (N : WNm) (G B : Nat) (y : Int32) : WNm := if N B 3 = 1 then u2 (xChg3 N G B y) G 16 (N G 16 + y * N B 5) else xChg3 N G B y

theorem cX_change {l : Launch} {g : WGp} (hg : GOK g) {sh : WSh} {N : WNm} {G : Nat} (hG : (sh.1 G).1 = 1) {B : Nat} (hB : (sh.1 B).1 = 0) (hne : ¬ B = G) (y : Int32) : CT l g yX1_change cX1_change 3 none (RM 1 0 0) [.ref (sh.2.2 G), .ref (sh.2.2 B), .int y] sh N (QFv g sh (xChg N G B y)) := by
  refine ent hg (by decide +kernel) (Nat.le_of_ble_eq_true rfl) ?_
  intro p e s m args below meth c C hname
  refine j_aload_n C dX1_change_0 rfl ?_
  refine j_dup C dX1_change_1 rfl ?_
  refine j_getI C fl_X1_69 dX1_change_2 (hG) rfl ?_
  refine j_iload_n C dX1_change_5 rfl ?_
  refine j_iadd C dX1_change_6 ?_
  refine j_putI C fl_X1_69 dX1_change_7 (hG) rfl rfl rfl rfl ?_
  refine j_aload_n C dX1_change_10 rfl ?_
  refine j_dup C dX1_change_11 rfl ?_
  refine j_getI C fl_X1_47 dX1_change_12 (hG) rfl ?_
  refine j_iload_n C dX1_change_15 rfl ?_
  refine j_aload_n C dX1_change_16 rfl ?_
  refine j_getI C fl_X1_50 dX1_change_17 (hB) rfl ?_
  refine j_imul C dX1_change_20 ?_
  refine j_iadd C dX1_change_21 ?_
  refine j_putI C fl_X1_47 dX1_change_22 (hG) rfl rfl rfl rfl ?_
  refine j_aload_n C dX1_change_25 rfl ?_
  refine j_dup C dX1_change_26 rfl ?_
  refine j_getI C fl_X1_53 dX1_change_27 (hG) rfl ?_
  refine j_iload_n C dX1_change_30 rfl ?_
  refine j_aload_n C dX1_change_31 rfl ?_
  refine j_getI C fl_X1_56 dX1_change_32 (hB) rfl ?_
  refine j_imul C dX1_change_35 ?_
  refine j_iadd C dX1_change_36 ?_
  refine j_putI C fl_X1_53 dX1_change_37 (hG) rfl rfl rfl rfl ?_
  refine j_aload_n C dX1_change_40 rfl ?_
  refine j_getI C fl_X1_59 dX1_change_41 (hB) rfl ?_
  refine j_iconst C dX1_change_44 (v := 1) (by decide) ?_
  refine j_icmp_ne (tgt := 63) C dX1_change_45 (by decide) (fun h45 => ?_) (fun h45 => ?_)
  · skip
    refine j_vret C dX1_change_63 ⟨rfl, ?_⟩
    first | (rw [xChg, if_pos (show N B 3 = 1 by simpa [u2, hne] using h45)]; simp only [xChg3]; simp [u2, hne]) | (rw [xChg, if_neg (show ¬ N B 3 = 1 by simpa [u2, hne] using h45)]; simp only [xChg3]; simp [u2, hne])
  · replace h45 := Decidable.not_not.mp h45
    refine j_aload_n C dX1_change_48 rfl ?_
    refine j_dup C dX1_change_49 rfl ?_
    refine j_getI C fl_X1_62 dX1_change_50 (hG) rfl ?_
    refine j_iload_n C dX1_change_53 rfl ?_
    refine j_aload_n C dX1_change_54 rfl ?_
    refine j_getI C fl_X1_56 dX1_change_55 (hB) rfl ?_
    refine j_imul C dX1_change_58 ?_
    refine j_iadd C dX1_change_59 ?_
    refine j_putI C fl_X1_62 dX1_change_60 (hG) rfl rfl rfl rfl ?_
    refine j_vret C dX1_change_63 ⟨rfl, ?_⟩
    first | (rw [xChg, if_pos (show N B 3 = 1 by simpa [u2, hne] using h45)]; simp only [xChg3]; simp [u2, hne]) | (rw [xChg, if_neg (show ¬ N B 3 = 1 by simpa [u2, hne] using h45)]; simp only [xChg3]; simp [u2, hne])

theorem cX_load {l : Launch} {g : WGp} (hg : GOK g) {sh : WSh} {N : WNm} {G : Nat} (hG : (sh.1 G).1 = 1) {B : Nat} (hB : (sh.1 B).1 = 0) (hne : ¬ B = G) : CT l g yX1_load cX1_load 2 none (RM 2 0 0) [.ref (sh.2.2 G), .ref (sh.2.2 B)] sh N (QFv g sh (xChg N G B 1)) := by
  refine ent hg (by decide +kernel) (Nat.le_of_ble_eq_true rfl) ?_
  intro p e s m args below meth c C hname
  refine j_aload_n C dX1_load_0 rfl ?_
  refine j_aload_n C dX1_load_1 rfl ?_
  refine j_iconst C dX1_load_2 (v := 1) (by decide) ?_
  refine j_callV2V C ml_X1_65 dX1_load_3 (cX_change hg hG hB hne _) ⟨by rw [hG]; decide, by rw [hG]; rfl⟩ ⟨Nat.le_of_ble_eq_true rfl, Nat.le_of_ble_eq_true rfl⟩ (Nat.le_of_ble_eq_true rfl) ⟨rfl, rfl⟩ ⟨Nat.zero_le _, Nat.zero_le _⟩ ?_
  exact j_vret C dX1_load_6 ⟨rfl, rfl⟩

theorem cX_unload {l : Launch} {g : WGp} (hg : GOK g) {sh : WSh} {N : WNm} {G : Nat} (hG : (sh.1 G).1 = 1) {B : Nat} (hB : (sh.1 B).1 = 0) (hne : ¬ B = G) : CT l g yX1_unload cX1_unload 2 none (RM 2 0 0) [.ref (sh.2.2 G), .ref (sh.2.2 B)] sh N (QFv g sh (xChg N G B (-1))) := by
  refine ent hg (by decide +kernel) (Nat.le_of_ble_eq_true rfl) ?_
  intro p e s m args below meth c C hname
  refine j_aload_n C dX1_unload_0 rfl ?_
  refine j_aload_n C dX1_unload_1 rfl ?_
  refine j_iconst C dX1_unload_2 (v := (-1)) (by decide) ?_
  refine j_callV2V C ml_X1_65 dX1_unload_3 (cX_change hg hG hB hne _) ⟨by rw [hG]; decide, by rw [hG]; rfl⟩ ⟨Nat.le_of_ble_eq_true rfl, Nat.le_of_ble_eq_true rfl⟩ (Nat.le_of_ble_eq_true rfl) ⟨rfl, rfl⟩ ⟨Nat.zero_le _, Nat.zero_le _⟩ ?_
  exact j_vret C dX1_unload_6 ⟨rfl, rfl⟩

def xGTell (N : WNm) (G : Nat) (w : Int32) : Int32 := (if w = 0 then N G 9 else (if w = 1 then N G 10 else (if w = 2 then N G 11 else (if w = 3 then N G 12 else (if w = 4 then N G 13 else (if w = 5 then N G 14 else (if w = 6 then N G 15 else (if w = 7 then N G 17 else (if w = 8 then N G 6 else (if w = 9 then (if N G 8 = 0 then 0 else 1) else -2))))))))))

theorem cX_gtell {l : Launch} {g : WGp} (hg : GOK g) {sh : WSh} {N : WNm} {G : Nat} (hG : (sh.1 G).1 = 1) (w : Int32) : CT l g yX1_tell cX1_tell 2 (some .int) (RM 1 0 0) [.ref (sh.2.2 G), .int w] sh N (QF g sh N (xGTell N G w)) := by
  refine ent hg (by decide +kernel) (Nat.le_of_ble_eq_true rfl) ?_
  intro p e s m args below meth c C hname
  refine j_iload_n C dX1_tell_0 rfl ?_
  by_cases h1_0 : w = 0
  · refine j_tabIn (tgt := 56) C dX1_tell_1 (by rw [h1_0]; decide) (by rw [h1_0]; decide) (off := 55) (by rw [h1_0]; decide) (by decide) ?_
    refine j_aload_n C dX1_tell_56 rfl ?_
    refine j_getI C fl_X1_15 dX1_tell_57 (hG) rfl ?_
    refine j_iret C dX1_tell_60 rfl ⟨rfl, rfl, ?_⟩ <;> rw [xGTell, if_pos h1_0]
  by_cases h1_1 : w = 1
  · refine j_tabIn (tgt := 61) C dX1_tell_1 (by rw [h1_1]; decide) (by rw [h1_1]; decide) (off := 60) (by rw [h1_1]; decide) (by decide) ?_
    refine j_aload_n C dX1_tell_61 rfl ?_
    refine j_getI C fl_X1_19 dX1_tell_62 (hG) rfl ?_
    refine j_iret C dX1_tell_65 rfl ⟨rfl, rfl, ?_⟩ <;> rw [xGTell, if_neg h1_0, if_pos h1_1]
  by_cases h1_2 : w = 2
  · refine j_tabIn (tgt := 66) C dX1_tell_1 (by rw [h1_2]; decide) (by rw [h1_2]; decide) (off := 65) (by rw [h1_2]; decide) (by decide) ?_
    refine j_aload_n C dX1_tell_66 rfl ?_
    refine j_getI C fl_X1_22 dX1_tell_67 (hG) rfl ?_
    refine j_iret C dX1_tell_70 rfl ⟨rfl, rfl, ?_⟩ <;> rw [xGTell, if_neg h1_0, if_neg h1_1, if_pos h1_2]
  by_cases h1_3 : w = 3
  · refine j_tabIn (tgt := 71) C dX1_tell_1 (by rw [h1_3]; decide) (by rw [h1_3]; decide) (off := 70) (by rw [h1_3]; decide) (by decide) ?_
    refine j_aload_n C dX1_tell_71 rfl ?_
    refine j_getI C fl_X1_44 dX1_tell_72 (hG) rfl ?_
    refine j_iret C dX1_tell_75 rfl ⟨rfl, rfl, ?_⟩ <;> rw [xGTell, if_neg h1_0, if_neg h1_1, if_neg h1_2, if_pos h1_3]
  by_cases h1_4 : w = 4
  · refine j_tabIn (tgt := 76) C dX1_tell_1 (by rw [h1_4]; decide) (by rw [h1_4]; decide) (off := 75) (by rw [h1_4]; decide) (by decide) ?_
    refine j_aload_n C dX1_tell_76 rfl ?_
    refine j_getI C fl_X1_69 dX1_tell_77 (hG) rfl ?_
    refine j_iret C dX1_tell_80 rfl ⟨rfl, rfl, ?_⟩ <;> rw [xGTell, if_neg h1_0, if_neg h1_1, if_neg h1_2, if_neg h1_3, if_pos h1_4]
  by_cases h1_5 : w = 5
  · refine j_tabIn (tgt := 81) C dX1_tell_1 (by rw [h1_5]; decide) (by rw [h1_5]; decide) (off := 80) (by rw [h1_5]; decide) (by decide) ?_
    refine j_aload_n C dX1_tell_81 rfl ?_
    refine j_getI C fl_X1_47 dX1_tell_82 (hG) rfl ?_
    refine j_iret C dX1_tell_85 rfl ⟨rfl, rfl, ?_⟩ <;> rw [xGTell, if_neg h1_0, if_neg h1_1, if_neg h1_2, if_neg h1_3, if_neg h1_4, if_pos h1_5]
  by_cases h1_6 : w = 6
  · refine j_tabIn (tgt := 86) C dX1_tell_1 (by rw [h1_6]; decide) (by rw [h1_6]; decide) (off := 85) (by rw [h1_6]; decide) (by decide) ?_
    refine j_aload_n C dX1_tell_86 rfl ?_
    refine j_getI C fl_X1_53 dX1_tell_87 (hG) rfl ?_
    refine j_iret C dX1_tell_90 rfl ⟨rfl, rfl, ?_⟩ <;> rw [xGTell, if_neg h1_0, if_neg h1_1, if_neg h1_2, if_neg h1_3, if_neg h1_4, if_neg h1_5, if_pos h1_6]
  by_cases h1_7 : w = 7
  · refine j_tabIn (tgt := 91) C dX1_tell_1 (by rw [h1_7]; decide) (by rw [h1_7]; decide) (off := 90) (by rw [h1_7]; decide) (by decide) ?_
    refine j_aload_n C dX1_tell_91 rfl ?_
    refine j_getI C fl_X1_72 dX1_tell_92 (hG) rfl ?_
    refine j_iret C dX1_tell_95 rfl ⟨rfl, rfl, ?_⟩ <;> rw [xGTell, if_neg h1_0, if_neg h1_1, if_neg h1_2, if_neg h1_3, if_neg h1_4, if_neg h1_5, if_neg h1_6, if_pos h1_7]
  by_cases h1_8 : w = 8
  · refine j_tabIn (tgt := 96) C dX1_tell_1 (by rw [h1_8]; decide) (by rw [h1_8]; decide) (off := 95) (by rw [h1_8]; decide) (by decide) ?_
    refine j_aload_n C dX1_tell_96 rfl ?_
    refine j_getI C fl_X1_75 dX1_tell_97 (hG) rfl ?_
    refine j_iret C dX1_tell_100 rfl ⟨rfl, rfl, ?_⟩ <;> rw [xGTell, if_neg h1_0, if_neg h1_1, if_neg h1_2, if_neg h1_3, if_neg h1_4, if_neg h1_5, if_neg h1_6, if_neg h1_7, if_pos h1_8]
  by_cases h1_9 : w = 9
  · refine j_tabIn (tgt := 101) C dX1_tell_1 (by rw [h1_9]; decide) (by rw [h1_9]; decide) (off := 100) (by rw [h1_9]; decide) (by decide) ?_
    refine j_aload_n C dX1_tell_101 rfl ?_
    refine j_getI C fl_X1_40 dX1_tell_102 (hG) rfl ?_
    refine j_if_eq (tgt := 112) C dX1_tell_105 (by decide) (fun h105 => ?_) (fun h105 => ?_)
    · skip
      refine j_iconst C dX1_tell_112 (v := 0) (by decide) ?_
      refine j_iret C dX1_tell_113 rfl ⟨rfl, rfl, ?_⟩ <;> rw [xGTell, if_neg h1_0, if_neg h1_1, if_neg h1_2, if_neg h1_3, if_neg h1_4, if_neg h1_5, if_neg h1_6, if_neg h1_7, if_neg h1_8, if_pos h1_9, if_pos h105]
    · skip
      refine j_iconst C dX1_tell_108 (v := 1) (by decide) ?_
      refine j_goto (tgt := 113) C dX1_tell_109 (by decide) ?_
      refine j_iret C dX1_tell_113 rfl ⟨rfl, rfl, ?_⟩ <;> rw [xGTell, if_neg h1_0, if_neg h1_1, if_neg h1_2, if_neg h1_3, if_neg h1_4, if_neg h1_5, if_neg h1_6, if_neg h1_7, if_neg h1_8, if_pos h1_9, if_neg h105]
  have q0 := lv_neT h1_0 (a := 0) (by decide)
  have q1 := lv_neT h1_1 (a := 1) (by decide)
  have q2 := lv_neT h1_2 (a := 2) (by decide)
  have q3 := lv_neT h1_3 (a := 3) (by decide)
  have q4 := lv_neT h1_4 (a := 4) (by decide)
  have q5 := lv_neT h1_5 (a := 5) (by decide)
  have q6 := lv_neT h1_6 (a := 6) (by decide)
  have q7 := lv_neT h1_7 (a := 7) (by decide)
  have q8 := lv_neT h1_8 (a := 8) (by decide)
  have q9 := lv_neT h1_9 (a := 9) (by decide)
  refine j_tabOut (tgt := 114) C dX1_tell_1 (by omega) (by decide) ?_
  refine j_bipush C dX1_tell_114 (v := (-2)) (by decide) ?_
  refine j_iret C dX1_tell_116 rfl ⟨rfl, rfl, ?_⟩ <;> rw [xGTell, if_neg h1_0, if_neg h1_1, if_neg h1_2, if_neg h1_3, if_neg h1_4, if_neg h1_5, if_neg h1_6, if_neg h1_7, if_neg h1_8, if_neg h1_9]

def xLetTo (N : WNm) (G P : Nat) (q : Int32) : WNm := u2 (u2 (u2 N P 10 0) P (tn q) 24) G 8 1

theorem cX_letTo {l : Launch} {g : WGp} (hg : GOK g) {sh : WSh} {N : WNm} {G : Nat} (hG : (sh.1 G).1 = 1) {P : Nat} (hP : sh.2.1 G 5 = some P) (hPA : sh.1 P = (9, 11)) {q : Int32} (hq : vp_in q 11) : CT l g yX1_letTo cX1_letTo 2 none (RM 1 0 0) [.ref (sh.2.2 G), .int q] sh N (QFv g sh (xLetTo N G P q)) := by
  refine ent hg (by decide +kernel) (Nat.le_of_ble_eq_true rfl) ?_
  intro p e s m args below meth c C hname
  refine j_aload_n C dX1_letTo_0 rfl ?_
  refine j_getR (j := P) C fl_X1_9 dX1_letTo_1 (hG) rfl (hP) ?_
  refine j_bipush C dX1_letTo_4 (v := 10) (by decide) ?_
  refine j_iconst C dX1_letTo_6 (v := 0) (by decide) ?_
  refine j_iast C (hPA) (by unfold vp_in; decide) dX1_letTo_7 ?_
  refine j_aload_n C dX1_letTo_8 rfl ?_
  refine j_getR (j := P) C fl_X1_9 dX1_letTo_9 (hG) rfl (hP) ?_
  refine j_iload_n C dX1_letTo_12 rfl ?_
  refine j_bipush C dX1_letTo_13 (v := 24) (by decide) ?_
  refine j_iast C (hPA) (hq) dX1_letTo_15 ?_
  refine j_aload_n C dX1_letTo_16 rfl ?_
  refine j_iconst C dX1_letTo_17 (v := 1) (by decide) ?_
  refine j_putI C fl_X1_40 dX1_letTo_18 (hG) rfl rfl rfl rfl ?_
  exact j_vret C dX1_letTo_21 ⟨rfl, rfl⟩
