/-! ===== THE CLASS: Teller, Tape ===== -/

theorem rFill_row {N : WNm} {i a : Nat} {v : Int32} {k : Nat} (h : ¬ a = i) : rFill N i v k a = N a := by funext b; simp [rFill, h]
def xLookG (N : WNm) (A G : Nat) (t h : Int32) : WNm := u2 (u2 (u2 (u2 (u2 (u2 (rFill N A 0 13) A 0 (N G 10)) A 1 t) A 2 (N G 0)) A 3 h) A 5 (t - N G 11)) A 6 (N G 15)
def xLookB (N : WNm) (A B : Nat) (t : Int32) : WNm := u2 (u2 (u2 (u2 (u2 (u2 N A 7 (N B 3)) A 8 (N B 4)) A 9 (N B 5)) A 10 (N B 6)) A 11 (N B 7)) A 12 (t - N B 8)
def xLookO (N : WNm) (A G : Nat) : WNm := u2 (u2 N A 2 (N G 0)) A 4 (N A 5)

theorem cX_lookAtGalley {l : Launch} {g : WGp} (hg : GOK g) {sh : WSh} {N : WNm} {T A : Nat} (hT : (sh.1 T).1 = 4) (hA : sh.2.1 T 0 = some A) (hAA : sh.1 A = (9, 13)) {G : Nat} (hG : (sh.1 G).1 = 1) (hne : ¬ G = A) (t h : Int32) : CT l g yX4_lookAtGalley cX4_lookAtGalley 4 none (RM 2 0 0) [.ref (sh.2.2 T), .ref (sh.2.2 G), .int t, .int h] sh N (QFv g sh (xLookG N A G t h)) := by
  refine ent hg (by decide +kernel) (Nat.le_of_ble_eq_true rfl) ?_
  intro p e s m args below meth c C hname
  refine j_aload_n C dX4_lookAtGalley_0 rfl ?_
  refine j_getR (j := A) C fl_X4_11 dX4_lookAtGalley_1 (hT) rfl (hA) ?_
  refine j_iconst C dX4_lookAtGalley_4 (v := 0) (by decide) ?_
  refine j_callS2V C ml_X4_18 dX4_lookAtGalley_5 (cJ_fill hg hAA (by decide) 0) ⟨Nat.le_of_ble_eq_true rfl, Nat.le_of_ble_eq_true rfl⟩ (Nat.le_of_ble_eq_true rfl) ⟨rfl, rfl⟩ ⟨Nat.zero_le _, Nat.zero_le _⟩ ?_
  refine j_aload_n C dX4_lookAtGalley_8 rfl ?_
  refine j_getR (j := A) C fl_X4_11 dX4_lookAtGalley_9 (hT) rfl (hA) ?_
  refine j_iconst C dX4_lookAtGalley_12 (v := 0) (by decide) ?_
  refine j_aload_n C dX4_lookAtGalley_13 rfl ?_
  refine j_getI C fl_X4_24 dX4_lookAtGalley_14 (hG) rfl ?_
  try simp only [u2_row hne, rFill_row hne]
  refine j_iastN (k := 0) C (hAA) (⟨by decide, by decide⟩) dX4_lookAtGalley_17 ?_
  refine j_aload_n C dX4_lookAtGalley_18 rfl ?_
  refine j_getR (j := A) C fl_X4_11 dX4_lookAtGalley_19 (hT) rfl (hA) ?_
  refine j_iconst C dX4_lookAtGalley_22 (v := 1) (by decide) ?_
  refine j_iload_n C dX4_lookAtGalley_23 rfl ?_
  refine j_iastN (k := 1) C (hAA) (⟨by decide, by decide⟩) dX4_lookAtGalley_24 ?_
  refine j_aload_n C dX4_lookAtGalley_25 rfl ?_
  refine j_getR (j := A) C fl_X4_11 dX4_lookAtGalley_26 (hT) rfl (hA) ?_
  refine j_iconst C dX4_lookAtGalley_29 (v := 2) (by decide) ?_
  refine j_aload_n C dX4_lookAtGalley_30 rfl ?_
  refine j_getI C fl_X4_30 dX4_lookAtGalley_31 (hG) rfl ?_
  try simp only [u2_row hne, rFill_row hne]
  refine j_iastN (k := 2) C (hAA) (⟨by decide, by decide⟩) dX4_lookAtGalley_34 ?_
  refine j_aload_n C dX4_lookAtGalley_35 rfl ?_
  refine j_getR (j := A) C fl_X4_11 dX4_lookAtGalley_36 (hT) rfl (hA) ?_
  refine j_iconst C dX4_lookAtGalley_39 (v := 3) (by decide) ?_
  refine j_iload_n C dX4_lookAtGalley_40 rfl ?_
  refine j_iastN (k := 3) C (hAA) (⟨by decide, by decide⟩) dX4_lookAtGalley_41 ?_
  refine j_aload_n C dX4_lookAtGalley_42 rfl ?_
  refine j_getR (j := A) C fl_X4_11 dX4_lookAtGalley_43 (hT) rfl (hA) ?_
  refine j_iconst C dX4_lookAtGalley_46 (v := 5) (by decide) ?_
  refine j_iload_n C dX4_lookAtGalley_47 rfl ?_
  refine j_aload_n C dX4_lookAtGalley_48 rfl ?_
  refine j_getI C fl_X4_33 dX4_lookAtGalley_49 (hG) rfl ?_
  try simp only [u2_row hne, rFill_row hne]
  refine j_isub C dX4_lookAtGalley_52 ?_
  refine j_iastN (k := 5) C (hAA) (⟨by decide, by decide⟩) dX4_lookAtGalley_53 ?_
  refine j_aload_n C dX4_lookAtGalley_54 rfl ?_
  refine j_getR (j := A) C fl_X4_11 dX4_lookAtGalley_55 (hT) rfl (hA) ?_
  refine j_bipush C dX4_lookAtGalley_58 (v := 6) (by decide) ?_
  refine j_aload_n C dX4_lookAtGalley_60 rfl ?_
  refine j_getI C fl_X4_36 dX4_lookAtGalley_61 (hG) rfl ?_
  try simp only [u2_row hne, rFill_row hne]
  refine j_iastN (k := 6) C (hAA) (⟨by decide, by decide⟩) dX4_lookAtGalley_64 ?_
  exact j_vret C dX4_lookAtGalley_65 ⟨rfl, rfl⟩

theorem cX_lookAtBale {l : Launch} {g : WGp} (hg : GOK g) {sh : WSh} {N : WNm} {T A : Nat} (hT : (sh.1 T).1 = 4) (hA : sh.2.1 T 0 = some A) (hAA : sh.1 A = (9, 13)) {B : Nat} (hB : (sh.1 B).1 = 0) (hne : ¬ B = A) (t : Int32) : CT l g yX4_lookAtBale cX4_lookAtBale 3 none (RM 1 0 0) [.ref (sh.2.2 T), .ref (sh.2.2 B), .int t] sh N (QFv g sh (xLookB N A B t)) := by
  refine ent hg (by decide +kernel) (Nat.le_of_ble_eq_true rfl) ?_
  intro p e s m args below meth c C hname
  refine j_aload_n C dX4_lookAtBale_0 rfl ?_
  refine j_getR (j := A) C fl_X4_11 dX4_lookAtBale_1 (hT) rfl (hA) ?_
  refine j_bipush C dX4_lookAtBale_4 (v := 7) (by decide) ?_
  refine j_aload_n C dX4_lookAtBale_6 rfl ?_
  refine j_getI C fl_X4_39 dX4_lookAtBale_7 (hB) rfl ?_
  try simp only [u2_row hne, rFill_row hne]
  refine j_iastN (k := 7) C (hAA) (⟨by decide, by decide⟩) dX4_lookAtBale_10 ?_
  refine j_aload_n C dX4_lookAtBale_11 rfl ?_
  refine j_getR (j := A) C fl_X4_11 dX4_lookAtBale_12 (hT) rfl (hA) ?_
  refine j_bipush C dX4_lookAtBale_15 (v := 8) (by decide) ?_
  refine j_aload_n C dX4_lookAtBale_17 rfl ?_
  refine j_getI C fl_X4_44 dX4_lookAtBale_18 (hB) rfl ?_
  try simp only [u2_row hne, rFill_row hne]
  refine j_iastN (k := 8) C (hAA) (⟨by decide, by decide⟩) dX4_lookAtBale_21 ?_
  refine j_aload_n C dX4_lookAtBale_22 rfl ?_
  refine j_getR (j := A) C fl_X4_11 dX4_lookAtBale_23 (hT) rfl (hA) ?_
  refine j_bipush C dX4_lookAtBale_26 (v := 9) (by decide) ?_
  refine j_aload_n C dX4_lookAtBale_28 rfl ?_
  refine j_getI C fl_X4_47 dX4_lookAtBale_29 (hB) rfl ?_
  try simp only [u2_row hne, rFill_row hne]
  refine j_iastN (k := 9) C (hAA) (⟨by decide, by decide⟩) dX4_lookAtBale_32 ?_
  refine j_aload_n C dX4_lookAtBale_33 rfl ?_
  refine j_getR (j := A) C fl_X4_11 dX4_lookAtBale_34 (hT) rfl (hA) ?_
  refine j_bipush C dX4_lookAtBale_37 (v := 10) (by decide) ?_
  refine j_aload_n C dX4_lookAtBale_39 rfl ?_
  refine j_getI C fl_X4_50 dX4_lookAtBale_40 (hB) rfl ?_
  try simp only [u2_row hne, rFill_row hne]
  refine j_iastN (k := 10) C (hAA) (⟨by decide, by decide⟩) dX4_lookAtBale_43 ?_
  refine j_aload_n C dX4_lookAtBale_44 rfl ?_
  refine j_getR (j := A) C fl_X4_11 dX4_lookAtBale_45 (hT) rfl (hA) ?_
  refine j_bipush C dX4_lookAtBale_48 (v := 11) (by decide) ?_
  refine j_aload_n C dX4_lookAtBale_50 rfl ?_
  refine j_getI C fl_X4_53 dX4_lookAtBale_51 (hB) rfl ?_
  try simp only [u2_row hne, rFill_row hne]
  refine j_iastN (k := 11) C (hAA) (⟨by decide, by decide⟩) dX4_lookAtBale_54 ?_
  refine j_aload_n C dX4_lookAtBale_55 rfl ?_
  refine j_getR (j := A) C fl_X4_11 dX4_lookAtBale_56 (hT) rfl (hA) ?_
  refine j_bipush C dX4_lookAtBale_59 (v := 12) (by decide) ?_
  refine j_iload_n C dX4_lookAtBale_61 rfl ?_
  refine j_aload_n C dX4_lookAtBale_62 rfl ?_
  refine j_getI C fl_X4_56 dX4_lookAtBale_63 (hB) rfl ?_
  try simp only [u2_row hne, rFill_row hne]
  refine j_isub C dX4_lookAtBale_66 ?_
  refine j_iastN (k := 12) C (hAA) (⟨by decide, by decide⟩) dX4_lookAtBale_67 ?_
  exact j_vret C dX4_lookAtBale_68 ⟨rfl, rfl⟩

theorem cX_lookAtOther {l : Launch} {g : WGp} (hg : GOK g) {sh : WSh} {N : WNm} {T A : Nat} (hT : (sh.1 T).1 = 4) (hA : sh.2.1 T 0 = some A) (hAA : sh.1 A = (9, 13)) {G : Nat} (hG : (sh.1 G).1 = 1) : CT l g yX4_lookAtOther cX4_lookAtOther 2 none (RM 1 0 0) [.ref (sh.2.2 T), .ref (sh.2.2 G)] sh N (QFv g sh (xLookO N A G)) := by
  refine ent hg (by decide +kernel) (Nat.le_of_ble_eq_true rfl) ?_
  intro p e s m args below meth c C hname
  refine j_aload_n C dX4_lookAtOther_0 rfl ?_
  refine j_getR (j := A) C fl_X4_11 dX4_lookAtOther_1 (hT) rfl (hA) ?_
  refine j_iconst C dX4_lookAtOther_4 (v := 2) (by decide) ?_
  refine j_aload_n C dX4_lookAtOther_5 rfl ?_
  refine j_getI C fl_X4_30 dX4_lookAtOther_6 (hG) rfl ?_
  refine j_iastN (k := 2) C (hAA) (⟨by decide, by decide⟩) dX4_lookAtOther_9 ?_
  refine j_aload_n C dX4_lookAtOther_10 rfl ?_
  refine j_getR (j := A) C fl_X4_11 dX4_lookAtOther_11 (hT) rfl (hA) ?_
  refine j_iconst C dX4_lookAtOther_14 (v := 4) (by decide) ?_
  refine j_aload_n C dX4_lookAtOther_15 rfl ?_
  refine j_getR (j := A) C fl_X4_11 dX4_lookAtOther_16 (hT) rfl (hA) ?_
  refine j_iconst C dX4_lookAtOther_19 (v := 5) (by decide) ?_
  refine j_ialdN (k := 5) C (hAA) (⟨by decide, by decide⟩) dX4_lookAtOther_20 ?_
  rw [show u2 N A 2 (N G 0) A 5 = N A 5 from u2_ne (by omega)]
  refine j_iastN (k := 4) C (hAA) (⟨by decide, by decide⟩) dX4_lookAtOther_21 ?_
  exact j_vret C dX4_lookAtOther_22 ⟨rfl, rfl⟩

def xTurned (w v : Int32) : Int32 := if w = -263 then -v else (if v = 0 then 1 else 0)
def xJoined (w a b : Int32) : Int32 := if w = 42 then a * b else (if w = 43 then a + b else (if w = 45 then a - b else (if w = 60 then (if b ≤ a then 0 else 1) else (if w = 61 then (if a = b then 1 else 0) else (if w = 62 then (if a ≤ b then 0 else 1) else (if w = 260 then (if a = 0 then 0 else (if b = 0 then 0 else 1)) else (if w = 261 then (if a = 0 then (if b = 0 then 0 else 1) else 1) else 0)))))))

theorem cX_turned {l : Launch} {g : WGp} (hg : GOK g) {sh : WSh} {N : WNm} (w v : Int32) : CT l g yX4_turned cX4_turned 2 (some .int) (RM 1 0 0) [.int w, .int v] sh N (QF g sh N (xTurned w v)) := by
  refine ent hg (by decide +kernel) (Nat.le_of_ble_eq_true rfl) ?_
  intro p e s m args below meth c C hname
  refine j_iload_n C dX4_turned_0 rfl ?_
  refine j_sipush C dX4_turned_1 (v := (-263)) (by decide) ?_
  refine j_icmp_ne (tgt := 10) C dX4_turned_4 (by decide) (fun h4 => ?_) (fun h4 => ?_)
  · skip
    refine j_iload_n C dX4_turned_10 rfl ?_
    refine j_if_ne (tgt := 18) C dX4_turned_11 (by decide) (fun h11 => ?_) (fun h11 => ?_)
    · skip
      refine j_iconst C dX4_turned_18 (v := 0) (by decide) ?_
      refine j_iret C dX4_turned_19 rfl ⟨rfl, rfl, ?_⟩ <;> rw [xTurned, if_neg h4, if_neg h11]
    · replace h11 := Decidable.not_not.mp h11
      refine j_iconst C dX4_turned_14 (v := 1) (by decide) ?_
      refine j_goto (tgt := 19) C dX4_turned_15 (by decide) ?_
      refine j_iret C dX4_turned_19 rfl ⟨rfl, rfl, ?_⟩ <;> rw [xTurned, if_neg h4, if_pos h11]
  · replace h4 := Decidable.not_not.mp h4
    refine j_iload_n C dX4_turned_7 rfl ?_
    refine j_ineg C dX4_turned_8 ?_
    refine j_iret C dX4_turned_9 rfl ⟨rfl, rfl, ?_⟩ <;> rw [xTurned, if_pos h4]

theorem cX_joined {l : Launch} {g : WGp} (hg : GOK g) {sh : WSh} {N : WNm} (w a b : Int32) : CT l g yX4_joined cX4_joined 3 (some .int) (RM 1 0 0) [.int w, .int a, .int b] sh N (QF g sh N (xJoined w a b)) := by
  refine ent hg (by decide +kernel) (Nat.le_of_ble_eq_true rfl) ?_
  intro p e s m args below meth c C hname
  refine j_iload_n C dX4_joined_0 rfl ?_
  by_cases h1_42 : w = 42
  · refine j_lookup (tgt := 84) C dX4_joined_1 (by decide) (off := 83) (by rw [h1_42]; decide) (by decide) ?_
    refine j_iload_n C dX4_joined_84 rfl ?_
    refine j_iload_n C dX4_joined_85 rfl ?_
    refine j_imul C dX4_joined_86 ?_
    refine j_iret C dX4_joined_87 rfl ⟨rfl, rfl, ?_⟩ <;> rw [xJoined, if_pos h1_42]
  by_cases h1_43 : w = 43
  · refine j_lookup (tgt := 76) C dX4_joined_1 (by decide) (off := 75) (by rw [h1_43]; decide) (by decide) ?_
    refine j_iload_n C dX4_joined_76 rfl ?_
    refine j_iload_n C dX4_joined_77 rfl ?_
    refine j_iadd C dX4_joined_78 ?_
    refine j_iret C dX4_joined_79 rfl ⟨rfl, rfl, ?_⟩ <;> rw [xJoined, if_neg h1_42, if_pos h1_43]
  by_cases h1_45 : w = 45
  · refine j_lookup (tgt := 80) C dX4_joined_1 (by decide) (off := 79) (by rw [h1_45]; decide) (by decide) ?_
    refine j_iload_n C dX4_joined_80 rfl ?_
    refine j_iload_n C dX4_joined_81 rfl ?_
    refine j_isub C dX4_joined_82 ?_
    refine j_iret C dX4_joined_83 rfl ⟨rfl, rfl, ?_⟩ <;> rw [xJoined, if_neg h1_42, if_neg h1_43, if_pos h1_45]
  by_cases h1_60 : w = 60
  · refine j_lookup (tgt := 88) C dX4_joined_1 (by decide) (off := 87) (by rw [h1_60]; decide) (by decide) ?_
    refine j_iload_n C dX4_joined_88 rfl ?_
    refine j_iload_n C dX4_joined_89 rfl ?_
    refine j_icmp_ge (tgt := 97) C dX4_joined_90 (by decide) (fun h90 => ?_) (fun h90 => ?_)
    · skip
      refine j_iconst C dX4_joined_97 (v := 0) (by decide) ?_
      refine j_iret C dX4_joined_98 rfl ⟨rfl, rfl, ?_⟩ <;> rw [xJoined, if_neg h1_42, if_neg h1_43, if_neg h1_45, if_pos h1_60, if_pos h90]
    · skip
      refine j_iconst C dX4_joined_93 (v := 1) (by decide) ?_
      refine j_goto (tgt := 98) C dX4_joined_94 (by decide) ?_
      refine j_iret C dX4_joined_98 rfl ⟨rfl, rfl, ?_⟩ <;> rw [xJoined, if_neg h1_42, if_neg h1_43, if_neg h1_45, if_pos h1_60, if_neg h90]
  by_cases h1_61 : w = 61
  · refine j_lookup (tgt := 99) C dX4_joined_1 (by decide) (off := 98) (by rw [h1_61]; decide) (by decide) ?_
    refine j_iload_n C dX4_joined_99 rfl ?_
    refine j_iload_n C dX4_joined_100 rfl ?_
    refine j_icmp_ne (tgt := 108) C dX4_joined_101 (by decide) (fun h101 => ?_) (fun h101 => ?_)
    · skip
      refine j_iconst C dX4_joined_108 (v := 0) (by decide) ?_
      refine j_iret C dX4_joined_109 rfl ⟨rfl, rfl, ?_⟩ <;> rw [xJoined, if_neg h1_42, if_neg h1_43, if_neg h1_45, if_neg h1_60, if_pos h1_61, if_neg h101]
    · replace h101 := Decidable.not_not.mp h101
      refine j_iconst C dX4_joined_104 (v := 1) (by decide) ?_
      refine j_goto (tgt := 109) C dX4_joined_105 (by decide) ?_
      refine j_iret C dX4_joined_109 rfl ⟨rfl, rfl, ?_⟩ <;> rw [xJoined, if_neg h1_42, if_neg h1_43, if_neg h1_45, if_neg h1_60, if_pos h1_61, if_pos h101]
  by_cases h1_62 : w = 62
  · refine j_lookup (tgt := 110) C dX4_joined_1 (by decide) (off := 109) (by rw [h1_62]; decide) (by decide) ?_
    refine j_iload_n C dX4_joined_110 rfl ?_
    refine j_iload_n C dX4_joined_111 rfl ?_
    refine j_icmp_le (tgt := 119) C dX4_joined_112 (by decide) (fun h112 => ?_) (fun h112 => ?_)
    · skip
      refine j_iconst C dX4_joined_119 (v := 0) (by decide) ?_
      refine j_iret C dX4_joined_120 rfl ⟨rfl, rfl, ?_⟩ <;> rw [xJoined, if_neg h1_42, if_neg h1_43, if_neg h1_45, if_neg h1_60, if_neg h1_61, if_pos h1_62, if_pos h112]
    · skip
      refine j_iconst C dX4_joined_115 (v := 1) (by decide) ?_
      refine j_goto (tgt := 120) C dX4_joined_116 (by decide) ?_
      refine j_iret C dX4_joined_120 rfl ⟨rfl, rfl, ?_⟩ <;> rw [xJoined, if_neg h1_42, if_neg h1_43, if_neg h1_45, if_neg h1_60, if_neg h1_61, if_pos h1_62, if_neg h112]
  by_cases h1_260 : w = 260
  · refine j_lookup (tgt := 121) C dX4_joined_1 (by decide) (off := 120) (by rw [h1_260]; decide) (by decide) ?_
    refine j_iload_n C dX4_joined_121 rfl ?_
    refine j_if_eq (tgt := 133) C dX4_joined_122 (by decide) (fun h122 => ?_) (fun h122 => ?_)
    · skip
      refine j_iconst C dX4_joined_133 (v := 0) (by decide) ?_
      refine j_iret C dX4_joined_134 rfl ⟨rfl, rfl, ?_⟩ <;> rw [xJoined, if_neg h1_42, if_neg h1_43, if_neg h1_45, if_neg h1_60, if_neg h1_61, if_neg h1_62, if_pos h1_260, if_pos h122]
    · skip
      refine j_iload_n C dX4_joined_125 rfl ?_
      refine j_if_eq (tgt := 133) C dX4_joined_126 (by decide) (fun h126 => ?_) (fun h126 => ?_)
      · skip
        refine j_iconst C dX4_joined_133 (v := 0) (by decide) ?_
        refine j_iret C dX4_joined_134 rfl ⟨rfl, rfl, ?_⟩ <;> rw [xJoined, if_neg h1_42, if_neg h1_43, if_neg h1_45, if_neg h1_60, if_neg h1_61, if_neg h1_62, if_pos h1_260, if_neg h122, if_pos h126]
      · skip
        refine j_iconst C dX4_joined_129 (v := 1) (by decide) ?_
        refine j_goto (tgt := 134) C dX4_joined_130 (by decide) ?_
        refine j_iret C dX4_joined_134 rfl ⟨rfl, rfl, ?_⟩ <;> rw [xJoined, if_neg h1_42, if_neg h1_43, if_neg h1_45, if_neg h1_60, if_neg h1_61, if_neg h1_62, if_pos h1_260, if_neg h122, if_neg h126]
  by_cases h1_261 : w = 261
  · refine j_lookup (tgt := 135) C dX4_joined_1 (by decide) (off := 134) (by rw [h1_261]; decide) (by decide) ?_
    refine j_iload_n C dX4_joined_135 rfl ?_
    refine j_if_ne (tgt := 143) C dX4_joined_136 (by decide) (fun h136 => ?_) (fun h136 => ?_)
    · skip
      refine j_iconst C dX4_joined_143 (v := 1) (by decide) ?_
      refine j_goto (tgt := 148) C dX4_joined_144 (by decide) ?_
      refine j_iret C dX4_joined_148 rfl ⟨rfl, rfl, ?_⟩ <;> rw [xJoined, if_neg h1_42, if_neg h1_43, if_neg h1_45, if_neg h1_60, if_neg h1_61, if_neg h1_62, if_neg h1_260, if_pos h1_261, if_neg h136]
    · replace h136 := Decidable.not_not.mp h136
      refine j_iload_n C dX4_joined_139 rfl ?_
      refine j_if_eq (tgt := 147) C dX4_joined_140 (by decide) (fun h140 => ?_) (fun h140 => ?_)
      · skip
        refine j_iconst C dX4_joined_147 (v := 0) (by decide) ?_
        refine j_iret C dX4_joined_148 rfl ⟨rfl, rfl, ?_⟩ <;> rw [xJoined, if_neg h1_42, if_neg h1_43, if_neg h1_45, if_neg h1_60, if_neg h1_61, if_neg h1_62, if_neg h1_260, if_pos h1_261, if_pos h136, if_pos h140]
      · skip
        refine j_iconst C dX4_joined_143 (v := 1) (by decide) ?_
        refine j_goto (tgt := 148) C dX4_joined_144 (by decide) ?_
        refine j_iret C dX4_joined_148 rfl ⟨rfl, rfl, ?_⟩ <;> rw [xJoined, if_neg h1_42, if_neg h1_43, if_neg h1_45, if_neg h1_60, if_neg h1_61, if_neg h1_62, if_neg h1_260, if_pos h1_261, if_pos h136, if_neg h140]
  refine j_lookup (tgt := 149) C dX4_joined_1 (by decide) (off := 148) (by show Op.lookupswitch.offset [((42 : Int), (83 : Int)), ((43 : Int), (75 : Int)), ((45 : Int), (79 : Int)), ((60 : Int), (87 : Int)), ((61 : Int), (98 : Int)), ((62 : Int), (109 : Int)), ((260 : Int), (120 : Int)), ((261 : Int), (134 : Int))] 148 w.toInt = _; rw [lv_osw h1_42 (by decide), lv_osw h1_43 (by decide), lv_osw h1_45 (by decide), lv_osw h1_60 (by decide), lv_osw h1_61 (by decide), lv_osw h1_62 (by decide), lv_osw h1_260 (by decide), lv_osw h1_261 (by decide)]; rfl) (by decide) ?_
  refine j_iconst C dX4_joined_149 (v := 0) (by decide) ?_
  refine j_iret C dX4_joined_150 rfl ⟨rfl, rfl, ?_⟩ <;> rw [xJoined, if_neg h1_42, if_neg h1_43, if_neg h1_45, if_neg h1_60, if_neg h1_61, if_neg h1_62, if_neg h1_260, if_neg h1_261]

def xApp (N : WNm) (Z Y : Nat) (v : Int32) (t : Nat) : Nat → WNm
  | 0 => N
  | k + 1 => u2 (u2 (xApp N Z Y v t k) Y (t + k) ((v.toUInt32 >>> ((8 * nI k).toUInt32 &&& Int32.toUInt32 31)).toInt32 &&& 255)) Z 1 (nI (t + k + 1))
theorem xApp_len (N : WNm) (Z Y : Nat) (v : Int32) {t : Nat} (h : N Z 1 = nI t) : ∀ k, xApp N Z Y v t k Z 1 = nI (t + k)
  | 0 => h
  | k + 1 => u2_eq _ _ _ _

theorem cX_append {l : Launch} {g : WGp} (hg : GOK g) {sh : WSh} {N : WNm} {Z Y : Nat} (hZ : (sh.1 Z).1 = 3) (hY : sh.2.1 Z 0 = some Y) (hYA : sh.1 Y = (9, 200)) (hne : ¬ Y = Z) {n t : Nat} (hL : N Z 1 = nI t) (htn : t + n ≤ 200) (v : Int32) : CT l g yX3_append cX3_append 4 none (RM 1 0 0) [.ref (sh.2.2 Z), .int (nI n), .int v] sh N (QFv g sh (xApp N Z Y v t n)) := by
  refine ent hg (by decide +kernel) (Nat.le_of_ble_eq_true rfl) ?_
  intro p e s m args below meth c C hname
  refine j_iconst C dX3_append_0 (v := 0) (by decide) ?_
  refine j_istore_n C dX3_append_1 (by decide) rfl ?_
  refine up_ind (P := fun k => J p l e (RM 1 0 0) s m args below meth c (MQ below (QFv g sh (xApp N Z Y v t n)) args s 0 0 g.A) g 4 sh (xApp N Z Y v t k) 0 0 2 [some (.ref (sh.2.2 Z)), some (.int (nI n)), some (.int v), some (.int (nI k))] []) (n := n) ?_ 0 (Nat.zero_le _)
  intro k hk ih
  refine j_iload_n C dX3_append_2 rfl ?_
  refine j_iload_n C dX3_append_3 rfl ?_
  refine j_icmp_ge (tgt := 52) C dX3_append_4 (by decide) (fun h4 => ?_) (fun h4 => ?_)
  · skip
    skip
    rw [n_nle (by omega) (by omega)] at h4
    obtain rfl : k = n := by omega
    exact j_vret C dX3_append_52 ⟨rfl, rfl⟩
  · skip
    rw [n_nle (by omega) (by omega)] at h4
    refine j_aload_n C dX3_append_7 rfl ?_
    refine j_getI C fl_X3_15 dX3_append_8 (hZ) rfl ?_
    refine j_sipush C dX3_append_11 (v := 200) (by decide) ?_
    rw [xApp_len N Z Y v hL k]
    refine j_icmp_ge (tgt := 52) C dX3_append_14 (by decide) (fun h14 => ?_) (fun h14 => ?_)
    · skip
      rw [show (200 : Int32) = nI 200 from rfl, n_nle (by omega) (by omega)] at h14
      omega
    · skip
      refine j_aload_n C dX3_append_17 rfl ?_
      refine j_getR (j := Y) C fl_X3_9 dX3_append_18 (hZ) rfl (hY) ?_
      refine j_aload_n C dX3_append_21 rfl ?_
      refine j_getI C fl_X3_15 dX3_append_22 (hZ) rfl ?_
      rw [xApp_len N Z Y v hL k]
      refine j_iload_n C dX3_append_25 rfl ?_
      refine j_bipush C dX3_append_26 (v := 8) (by decide) ?_
      refine j_iload_n C dX3_append_28 rfl ?_
      refine j_imul C dX3_append_29 ?_
      refine j_iushr C dX3_append_30 ?_
      refine j_sipush C dX3_append_31 (v := 255) (by decide) ?_
      refine j_iand C dX3_append_34 ?_
      refine j_iastN C (hYA) (⟨by omega, by decide⟩) dX3_append_35 ?_
      refine j_aload_n C dX3_append_36 rfl ?_
      refine j_dup C dX3_append_37 rfl ?_
      refine j_getI C fl_X3_15 dX3_append_38 (hZ) rfl ?_
      rw [show u2 (xApp N Z Y v t k) Y (t + k) _ Z 1 = nI (t + k) from (u2_ne (fun z => hne z.1.symm)).trans (xApp_len N Z Y v hL k)]
      refine j_iconst C dX3_append_41 (v := 1) (by decide) ?_
      refine j_iadd C dX3_append_42 ?_
      rw [nI_1]
      refine j_putI C fl_X3_15 dX3_append_43 (hZ) rfl rfl rfl rfl ?_
      refine j_iincN C dX3_append_46 rfl (by decide) rfl ?_
      refine j_goto (tgt := 2) C dX3_append_49 (by decide) ?_
      exact ih (by omega)

def xAt (N : WNm) (Z Y : Nat) (i : Int32) : Int32 := if 0 ≤ i ∧ i ≤ N Z 1 - 1 then N Y (tn i) else 32

theorem cX_at {l : Launch} {g : WGp} (hg : GOK g) {sh : WSh} {N : WNm} {Z Y : Nat} (hZ : (sh.1 Z).1 = 3) (hY : sh.2.1 Z 0 = some Y) (hYA : sh.1 Y = (9, 200)) (nw : MSN RX6 RX3 19 yX6_within cX6_within 3 (some .boolean) 3 g) {t : Nat} (hL : N Z 1 = nI t) (htn : t ≤ 200) (i : Int32) : CT l g yX3_at cX3_at 2 (some .int) (RM 2 0 0) [.ref (sh.2.2 Z), .int i] sh N (QF g sh N (xAt N Z Y i)) := by
  refine ent hg (by decide +kernel) (Nat.le_of_ble_eq_true rfl) ?_
  intro p e s m args below meth c C hname
  refine j_iload_n C dX3_at_0 rfl ?_
  refine j_iconst C dX3_at_1 (v := 0) (by decide) ?_
  refine j_aload_n C dX3_at_2 rfl ?_
  refine j_getI C fl_X3_15 dX3_at_3 (hZ) rfl ?_
  refine j_iconst C dX3_at_6 (v := 1) (by decide) ?_
  refine j_isub C dX3_at_7 ?_
  refine j_callSN3I C nw dX3_at_8 (cX_within hg _ _ _) ⟨Nat.le_of_ble_eq_true rfl, Nat.le_of_ble_eq_true rfl⟩ (Nat.le_of_ble_eq_true rfl) ⟨rfl, rfl⟩ ⟨Nat.zero_le _, Nat.zero_le _⟩ ?_
  refine j_if_eq (tgt := 23) C dX3_at_11 (by decide) (fun h11 => ?_) (fun h11 => ?_)
  · replace h11 := b2_eq0.mp h11
    refine j_bipush C dX3_at_23 (v := 32) (by decide) ?_
    refine j_iret C dX3_at_25 rfl ⟨rfl, rfl, ?_⟩ <;> rw [xAt, if_neg h11]
  · replace h11 := b2_ne0.mp h11
    refine j_aload_n C dX3_at_14 rfl ?_
    refine j_getR (j := Y) C fl_X3_9 dX3_at_15 (hZ) rfl (hY) ?_
    refine j_iload_n C dX3_at_18 rfl ?_
    refine j_iald C (hYA) (inG h11 hL htn (by decide)) dX3_at_19 ?_
    refine j_goto (tgt := 25) C dX3_at_20 (by decide) ?_
    refine j_iret C dX3_at_25 rfl ⟨rfl, rfl, ?_⟩ <;> rw [xAt, if_pos h11]

theorem cX_isDigit {l : Launch} {g : WGp} (hg : GOK g) {sh : WSh} {N : WNm} (nw : MSN RX6 RX2 111 yX6_within cX6_within 3 (some .boolean) 3 g) (v : Int32) : CT l g yX2_isDigit cX2_isDigit 1 (some .boolean) (RM 2 0 0) [.int v] sh N (QF g sh N (b2 (48 ≤ v ∧ v ≤ 57))) := by
  refine ent hg (by decide +kernel) (Nat.le_of_ble_eq_true rfl) ?_
  intro p e s m args below meth c C hname
  refine j_iload_n C dX2_isDigit_0 rfl ?_
  refine j_bipush C dX2_isDigit_1 (v := 48) (by decide) ?_
  refine j_bipush C dX2_isDigit_3 (v := 57) (by decide) ?_
  refine j_callSN3I C nw dX2_isDigit_5 (cX_within hg _ _ _) ⟨Nat.le_of_ble_eq_true rfl, Nat.le_of_ble_eq_true rfl⟩ (Nat.le_of_ble_eq_true rfl) ⟨rfl, rfl⟩ ⟨Nat.zero_le _, Nat.zero_le _⟩ ?_
  exact j_iret C dX2_isDigit_8 (b2_nar _) ⟨rfl, rfl, rfl⟩

theorem cX_isLetter {l : Launch} {g : WGp} (hg : GOK g) {sh : WSh} {N : WNm} (nw : MSN RX6 RX2 111 yX6_within cX6_within 3 (some .boolean) 3 g) (v : Int32) : CT l g yX2_isLetter cX2_isLetter 1 (some .boolean) (RM 2 0 0) [.int v] sh N (QF g sh N (b2 (97 ≤ v ∧ v ≤ 122))) := by
  refine ent hg (by decide +kernel) (Nat.le_of_ble_eq_true rfl) ?_
  intro p e s m args below meth c C hname
  refine j_iload_n C dX2_isLetter_0 rfl ?_
  refine j_bipush C dX2_isLetter_1 (v := 97) (by decide) ?_
  refine j_bipush C dX2_isLetter_3 (v := 122) (by decide) ?_
  refine j_callSN3I C nw dX2_isLetter_5 (cX_within hg _ _ _) ⟨Nat.le_of_ble_eq_true rfl, Nat.le_of_ble_eq_true rfl⟩ (Nat.le_of_ble_eq_true rfl) ⟨rfl, rfl⟩ ⟨Nat.zero_le _, Nat.zero_le _⟩ ?_
  exact j_iret C dX2_isLetter_8 (b2_nar _) ⟨rfl, rfl, rfl⟩

def xPutS (N : WNm) (R S : Nat) (t : Nat) (v : Int32) : WNm := u2 (u2 N S t v) R 6 (nI (t + 1))

theorem cX_putStep {l : Launch} {g : WGp} (hg : GOK g) {sh : WSh} {N : WNm} {R S : Nat} (hR : (sh.1 R).1 = 2) (hS : sh.2.1 R 5 = some S) (hSA : sh.1 S = (9, 200)) (hne : ¬ R = S) {t : Nat} (hL : N R 6 = nI t) (ht : t < 200) (v : Int32) : CT l g yX2_putStep cX2_putStep 2 none (RM 1 0 0) [.ref (sh.2.2 R), .int v] sh N (QFv g sh (xPutS N R S t v)) := by
  refine ent hg (by decide +kernel) (Nat.le_of_ble_eq_true rfl) ?_
  intro p e s m args below meth c C hname
  refine j_aload_n C dX2_putStep_0 rfl ?_
  refine j_getI C fl_X2_26 dX2_putStep_1 (hR) rfl ?_
  rw [hL]
  refine j_aload_n C dX2_putStep_4 rfl ?_
  refine j_getR (j := S) C fl_X2_18 dX2_putStep_5 (hR) rfl (hS) ?_
  refine j_alen C (hSA) (by decide) dX2_putStep_8 ?_
  refine j_icmp_ge (tgt := 32) C dX2_putStep_9 (by decide) (fun h9 => ?_) (fun h9 => ?_)
  · skip
    rw [n_nle (by omega) (by omega)] at h9
    omega
  · skip
    refine j_aload_n C dX2_putStep_12 rfl ?_
    refine j_getR (j := S) C fl_X2_18 dX2_putStep_13 (hR) rfl (hS) ?_
    refine j_aload_n C dX2_putStep_16 rfl ?_
    refine j_getI C fl_X2_26 dX2_putStep_17 (hR) rfl ?_
    rw [hL]
    refine j_iload_n C dX2_putStep_20 rfl ?_
    refine j_iastN C (hSA) (⟨ht, by decide⟩) dX2_putStep_21 ?_
    refine j_aload_n C dX2_putStep_22 rfl ?_
    refine j_dup C dX2_putStep_23 rfl ?_
    refine j_getI C fl_X2_26 dX2_putStep_24 (hR) rfl ?_
    rw [show u2 N S t v R 6 = nI t from (u2_ne (fun z => hne z.1)).trans hL]
    refine j_iconst C dX2_putStep_27 (v := 1) (by decide) ?_
    refine j_iadd C dX2_putStep_28 ?_
    rw [nI_1]
    refine j_putI C fl_X2_26 dX2_putStep_29 (hR) rfl rfl rfl rfl ?_
    exact j_vret C dX2_putStep_32 ⟨rfl, rfl⟩
