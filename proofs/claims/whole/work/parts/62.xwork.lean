/-! ===== THE CLASS: Teller.workOut ===== -/
theorem sr_ne {N : WNm} {i a : Nat} {ρ : Nat → Int32} (h : ¬ a = i) : sr N i ρ a = N a := by simp [sr, h]
theorem sr_at (N : WNm) (i : Nat) (ρ : Nat → Int32) : sr N i ρ i = ρ := by simp [sr]
/-- one step of the class's upon a pile -/
def xStep (nm : Nat → Int32) (w : Int32) (st : List Int32) : List Int32 :=
  if w < -13 then (if w = -263 then (match st with | a :: r => xTurned w a :: r | [] => []) else (if w = -262 then (match st with | a :: r => xTurned w a :: r | [] => []) else (match st with | b :: a :: r => xJoined (-w) a b :: r | z => z)))
  else (if 200 ≤ st.length then st else (if w < 0 then nm (tn (-1 - w)) else w) :: st)
def xEv (nm sp : Nat → Int32) : Nat → List Int32
  | 0 => []
  | j + 1 => xStep nm (sp j) (xEv nm sp j)
theorem xStep_len (nm : Nat → Int32) (w : Int32) (st : List Int32) (h : st.length ≤ 200) : (xStep nm w st).length ≤ 200 := by
  unfold xStep
  split
  · split
    · cases st <;> simp_all
    · split
      · cases st <;> simp_all
      · rcases st with _ | ⟨a, _ | ⟨b, r⟩⟩ <;> simp_all
        omega
  · split
    · exact h
    · rw [List.length_cons]; omega
theorem xEv_len (nm sp : Nat → Int32) : ∀ j, (xEv nm sp j).length ≤ 200
  | 0 => Nat.zero_le _
  | j + 1 => xStep_len _ _ _ (xEv_len nm sp j)
theorem in13 {w : Int32} (h1 : ¬ w < -13) (h2 : w < 0) : vp_in (-1 - w) 13 := by
  have a1 : (-13 : Int32).toInt ≤ w.toInt := i_le.mp (i_nlt.mp h1)
  have a2 : w.toInt < (0 : Int32).toInt := i_lt.mp h2
  rw [show (-13 : Int32).toInt = -13 from rfl] at a1
  rw [show (0 : Int32).toInt = 0 from rfl] at a2
  have e : (-1 - w).toInt = -1 - w.toInt := by
    rw [Int32.toInt_sub]
    rw [show (-1 : Int32).toInt = -1 from rfl]
    apply Int.bmod_eq_of_le <;> omega
  exact vp_in_iff.mpr ⟨by omega, by omega⟩

theorem cX_workOut {l : Launch} {g : WGp} (hg : GOK g) {sh : WSh} {N : WNm} {T A K S len : Nat} (hT : (sh.1 T).1 = 4) (hA : sh.2.1 T 0 = some A) (hAA : sh.1 A = (9, 13)) (hK : sh.2.1 T 1 = some K) (hKA : sh.1 K = (9, 200)) (hSA : sh.1 S = (9, len)) (hl : len < 2147483648) (hAK : ¬ A = K) (hSK : ¬ S = K) : CT l g yX4_workOut cX4_workOut 5 (some .int) (RM 2 0 0) [.ref (sh.2.2 T), .ref (sh.2.2 S)] sh N (QI g (fun r sh1 N1 => sh1 = sh ∧ ∃ ρ, N1 = sr N K ρ ∧ r = ρ 0 ∧ pileOf ρ (xEv (N A) (N S) len).length = xEv (N A) (N S) len)) := by
  refine ent hg (by decide +kernel) (Nat.le_of_ble_eq_true rfl) ?_
  intro p e s m args below meth c C hname
  refine j_iconst C dX4_workOut_0 (v := 0) (by decide) ?_
  refine j_istore_n C dX4_workOut_1 (by decide) rfl ?_
  refine j_iconst C dX4_workOut_2 (v := 0) (by decide) ?_
  refine j_istore_n C dX4_workOut_3 (by decide) rfl ?_
  suffices key : ∀ j, j ≤ len → ∀ ρ : Nat → Int32, pileOf ρ (xEv (N A) (N S) j).length = xEv (N A) (N S) j → J p l e (RM 2 0 0) s m args below meth c (MQ below (QI g (fun r sh1 N1 => sh1 = sh ∧ ∃ ρ, N1 = sr N K ρ ∧ r = ρ 0 ∧ pileOf ρ (xEv (N A) (N S) len).length = xEv (N A) (N S) len)) args s 0 0 g.A) g 5 sh (sr N K ρ) 0 0 4 [some (.ref (sh.2.2 T)), some (.ref (sh.2.2 S)), some (.int (nI (xEv (N A) (N S) j).length)), some (.int (nI j)), none] [] from by have z := key 0 (Nat.zero_le _) (N K) rfl; rw [sr_self] at z; exact z
  refine up_ind (n := len) ?_
  intro j hj ih ρ hρ
  have hn200 := xEv_len (N A) (N S) j
  have fin : j < len → ∀ (ρ1 : Nat → Int32) (n1 : Nat), pileOf ρ1 n1 = xEv (N A) (N S) (j + 1) → J p l e (RM 2 0 0) s m args below meth c (MQ below (QI g (fun r sh1 N1 => sh1 = sh ∧ ∃ ρ, N1 = sr N K ρ ∧ r = ρ 0 ∧ pileOf ρ (xEv (N A) (N S) len).length = xEv (N A) (N S) len)) args s 0 0 g.A) g 5 sh (sr N K ρ1) 0 0 143 [some (.ref (sh.2.2 T)), some (.ref (sh.2.2 S)), some (.int (nI n1)), some (.int (nI j)), some (.int (N S j))] [] := by
    intro hjl ρ1 n1 h1
    refine j_iincN C dX4_workOut_143 rfl (by decide) rfl ?_
    refine j_goto (tgt := 4) C dX4_workOut_146 (by decide) ?_
    have hl1 : (xEv (N A) (N S) (j + 1)).length = n1 := by rw [← h1, pileOf_len]
    have z := ih hjl ρ1 (by rw [hl1]; exact h1)
    rw [hl1] at z
    exact J.le (lv1 := [some (.ref (sh.2.2 T)), some (.ref (sh.2.2 S)), some (.int (nI n1)), some (.int (nI (j + 1))), none]) ⟨rfl, rfl, rfl, rfl, trivial⟩ z
  generalize hn : (xEv (N A) (N S) j).length = n at hρ hn200 ⊢
  refine j_iload_n C dX4_workOut_4 rfl ?_
  refine j_aload_n C dX4_workOut_5 rfl ?_
  refine j_alen C (hSA) (by decide) dX4_workOut_6 ?_
  refine j_icmp_ge (tgt := 149) C dX4_workOut_7 (by decide) (fun h7 => ?_) (fun h7 => ?_)
  · skip
    rw [n_nle (by omega) (by omega)] at h7
    obtain rfl : j = len := by omega
    refine j_aload_n C dX4_workOut_149 rfl ?_
    refine j_getR (j := K) C fl_X4_15 dX4_workOut_150 (hT) rfl (hK) ?_
    refine j_iconst C dX4_workOut_153 (v := 0) (by decide) ?_
    refine j_iald C (hKA) (by unfold vp_in; decide) dX4_workOut_154 ?_
    rw [sr_at]
    exact j_iret C dX4_workOut_155 rfl ⟨rfl, ρ, rfl, rfl, by rw [hn]; exact hρ⟩
  · skip
    rw [n_nle (by omega) (by omega)] at h7
    refine j_aload_n C dX4_workOut_10 rfl ?_
    refine j_iload_n C dX4_workOut_11 rfl ?_
    refine j_ialdN C (hSA) (⟨by omega, hl⟩) dX4_workOut_12 ?_
    rw [sr_ne hSK]
    refine j_istore C dX4_workOut_13 (by decide) rfl ?_
    refine j_iload C dX4_workOut_15 rfl ?_
    refine j_bipush C dX4_workOut_17 (v := (-13)) (by decide) ?_
    refine j_icmp_lt (tgt := 62) C dX4_workOut_19 (by decide) (fun h19 => ?_) (fun h19 => ?_)
    · skip
      refine j_iload C dX4_workOut_62 rfl ?_
      refine j_sipush C dX4_workOut_64 (v := (-263)) (by decide) ?_
      refine j_icmp_eq (tgt := 78) C dX4_workOut_67 (by decide) (fun h67 => ?_) (fun h67 => ?_)
      · skip
        refine j_iload_n C dX4_workOut_78 rfl ?_
        refine j_iconst C dX4_workOut_79 (v := 1) (by decide) ?_
        refine j_icmp_lt (tgt := 143) C dX4_workOut_80 (by decide) (fun h80 => ?_) (fun h80 => ?_)
        · skip
          obtain rfl : n = 0 := by
            rw [show (1 : Int32) = nI 1 from rfl, n_nlt (by omega) (by omega)] at h80
            omega
          refine fin (by omega) ρ 0 ?_
          rw [xEv]
          unfold xStep
          rw [if_pos h19, if_pos h67, ← hρ]
          rfl
        · skip
          obtain ⟨m1, rfl⟩ : ∃ m1, n = m1 + 1 := by
            rw [show (1 : Int32) = nI 1 from rfl, n_nlt (by omega) (by omega)] at h80
            exact ⟨n - 1, by omega⟩
          refine j_aload_n C dX4_workOut_83 rfl ?_
          refine j_getR (j := K) C fl_X4_15 dX4_workOut_84 (hT) rfl (hK) ?_
          refine j_iload_n C dX4_workOut_87 rfl ?_
          refine j_iconst C dX4_workOut_88 (v := 1) (by decide) ?_
          refine j_isub C dX4_workOut_89 ?_
          rw [nI_pred]
          refine j_iload C dX4_workOut_90 rfl ?_
          refine j_aload_n C dX4_workOut_92 rfl ?_
          refine j_getR (j := K) C fl_X4_15 dX4_workOut_93 (hT) rfl (hK) ?_
          refine j_iload_n C dX4_workOut_96 rfl ?_
          refine j_iconst C dX4_workOut_97 (v := 1) (by decide) ?_
          refine j_isub C dX4_workOut_98 ?_
          rw [nI_pred]
          refine j_ialdN C (hKA) (⟨by omega, by decide⟩) dX4_workOut_99 ?_
          rw [sr_at]
          refine j_callS2I C ml_X4_61 dX4_workOut_100 (cX_turned hg _ _) ⟨Nat.le_of_ble_eq_true rfl, Nat.le_of_ble_eq_true rfl⟩ (Nat.le_of_ble_eq_true rfl) ⟨rfl, rfl⟩ ⟨Nat.zero_le _, Nat.zero_le _⟩ ?_
          refine j_iastN C (hKA) (⟨by omega, by decide⟩) dX4_workOut_103 ?_
          rw [sr_u2]
          refine j_goto (tgt := 143) C dX4_workOut_104 (by decide) ?_
          refine fin (by omega) _ (m1 + 1) ?_
          rw [pile_push, xEv]
          unfold xStep
          rw [if_pos h19, if_pos h67, ← hρ]
          rfl
      · skip
        refine j_iload C dX4_workOut_70 rfl ?_
        refine j_sipush C dX4_workOut_72 (v := (-262)) (by decide) ?_
        refine j_icmp_ne (tgt := 107) C dX4_workOut_75 (by decide) (fun h75 => ?_) (fun h75 => ?_)
        · skip
          refine j_iload_n C dX4_workOut_107 rfl ?_
          refine j_iconst C dX4_workOut_108 (v := 2) (by decide) ?_
          refine j_icmp_lt (tgt := 143) C dX4_workOut_109 (by decide) (fun h109 => ?_) (fun h109 => ?_)
          · skip
            have hn2 : n < 2 := by
              rw [show (2 : Int32) = nI 2 from rfl, n_nlt (by omega) (by omega)] at h109
              exact h109
            refine fin (by omega) ρ n ?_
            rw [xEv]
            unfold xStep
            rw [if_pos h19, if_neg h67, if_neg h75, ← hρ]
            rcases (show n = 0 ∨ n = 1 by omega) with h | h <;> subst h <;> rfl
          · skip
            obtain ⟨m1, rfl⟩ : ∃ m1, n = m1 + 1 + 1 := by
              rw [show (2 : Int32) = nI 2 from rfl, n_nlt (by omega) (by omega)] at h109
              exact ⟨n - 2, by omega⟩
            refine j_iinc C dX4_workOut_112 rfl (show _ = nI (m1 + 1) by rw [dec1, nI_pred]) (by decide) rfl ?_
            refine j_aload_n C dX4_workOut_115 rfl ?_
            refine j_getR (j := K) C fl_X4_15 dX4_workOut_116 (hT) rfl (hK) ?_
            refine j_iload_n C dX4_workOut_119 rfl ?_
            refine j_iconst C dX4_workOut_120 (v := 1) (by decide) ?_
            refine j_isub C dX4_workOut_121 ?_
            rw [nI_pred]
            refine j_iload C dX4_workOut_122 rfl ?_
            refine j_ineg C dX4_workOut_124 ?_
            refine j_aload_n C dX4_workOut_125 rfl ?_
            refine j_getR (j := K) C fl_X4_15 dX4_workOut_126 (hT) rfl (hK) ?_
            refine j_iload_n C dX4_workOut_129 rfl ?_
            refine j_iconst C dX4_workOut_130 (v := 1) (by decide) ?_
            refine j_isub C dX4_workOut_131 ?_
            rw [nI_pred]
            refine j_ialdN C (hKA) (⟨by omega, by decide⟩) dX4_workOut_132 ?_
            refine j_aload_n C dX4_workOut_133 rfl ?_
            refine j_getR (j := K) C fl_X4_15 dX4_workOut_134 (hT) rfl (hK) ?_
            refine j_iload_n C dX4_workOut_137 rfl ?_
            refine j_ialdN C (hKA) (⟨by omega, by decide⟩) dX4_workOut_138 ?_
            rw [sr_at]
            refine j_callS3I C ml_X4_65 dX4_workOut_139 (cX_joined hg _ _ _) ⟨Nat.le_of_ble_eq_true rfl, Nat.le_of_ble_eq_true rfl⟩ (Nat.le_of_ble_eq_true rfl) ⟨rfl, rfl⟩ ⟨Nat.zero_le _, Nat.zero_le _⟩ ?_
            refine j_iastN C (hKA) (⟨by omega, by decide⟩) dX4_workOut_142 ?_
            rw [sr_u2]
            refine fin (by omega) _ (m1 + 1) ?_
            rw [pile_push, xEv]
            unfold xStep
            rw [if_pos h19, if_neg h67, if_neg h75, ← hρ]
            rfl
        · replace h75 := Decidable.not_not.mp h75
          refine j_iload_n C dX4_workOut_78 rfl ?_
          refine j_iconst C dX4_workOut_79 (v := 1) (by decide) ?_
          refine j_icmp_lt (tgt := 143) C dX4_workOut_80 (by decide) (fun h80 => ?_) (fun h80 => ?_)
          · skip
            obtain rfl : n = 0 := by
              rw [show (1 : Int32) = nI 1 from rfl, n_nlt (by omega) (by omega)] at h80
              omega
            refine fin (by omega) ρ 0 ?_
            rw [xEv]
            unfold xStep
            rw [if_pos h19, if_neg h67, if_pos h75, ← hρ]
            rfl
          · skip
            obtain ⟨m1, rfl⟩ : ∃ m1, n = m1 + 1 := by
              rw [show (1 : Int32) = nI 1 from rfl, n_nlt (by omega) (by omega)] at h80
              exact ⟨n - 1, by omega⟩
            refine j_aload_n C dX4_workOut_83 rfl ?_
            refine j_getR (j := K) C fl_X4_15 dX4_workOut_84 (hT) rfl (hK) ?_
            refine j_iload_n C dX4_workOut_87 rfl ?_
            refine j_iconst C dX4_workOut_88 (v := 1) (by decide) ?_
            refine j_isub C dX4_workOut_89 ?_
            rw [nI_pred]
            refine j_iload C dX4_workOut_90 rfl ?_
            refine j_aload_n C dX4_workOut_92 rfl ?_
            refine j_getR (j := K) C fl_X4_15 dX4_workOut_93 (hT) rfl (hK) ?_
            refine j_iload_n C dX4_workOut_96 rfl ?_
            refine j_iconst C dX4_workOut_97 (v := 1) (by decide) ?_
            refine j_isub C dX4_workOut_98 ?_
            rw [nI_pred]
            refine j_ialdN C (hKA) (⟨by omega, by decide⟩) dX4_workOut_99 ?_
            rw [sr_at]
            refine j_callS2I C ml_X4_61 dX4_workOut_100 (cX_turned hg _ _) ⟨Nat.le_of_ble_eq_true rfl, Nat.le_of_ble_eq_true rfl⟩ (Nat.le_of_ble_eq_true rfl) ⟨rfl, rfl⟩ ⟨Nat.zero_le _, Nat.zero_le _⟩ ?_
            refine j_iastN C (hKA) (⟨by omega, by decide⟩) dX4_workOut_103 ?_
            rw [sr_u2]
            refine j_goto (tgt := 143) C dX4_workOut_104 (by decide) ?_
            refine fin (by omega) _ (m1 + 1) ?_
            rw [pile_push, xEv]
            unfold xStep
            rw [if_pos h19, if_neg h67, if_pos h75, ← hρ]
            rfl
    · skip
      refine j_iload_n C dX4_workOut_22 rfl ?_
      refine j_aload_n C dX4_workOut_23 rfl ?_
      refine j_getR (j := K) C fl_X4_15 dX4_workOut_24 (hT) rfl (hK) ?_
      refine j_alen C (hKA) (by decide) dX4_workOut_27 ?_
      refine j_icmp_ge (tgt := 143) C dX4_workOut_28 (by decide) (fun h28 => ?_) (fun h28 => ?_)
      · skip
        rw [n_nle (by omega) (by omega)] at h28
        refine fin (by omega) ρ n ?_
        rw [xEv]
        unfold xStep
        rw [if_neg h19, hn, if_pos h28]
        exact hρ
      · skip
        rw [n_nle (by omega) (by omega)] at h28
        refine j_aload_n C dX4_workOut_31 rfl ?_
        refine j_getR (j := K) C fl_X4_15 dX4_workOut_32 (hT) rfl (hK) ?_
        refine j_iload_n C dX4_workOut_35 rfl ?_
        refine j_iload C dX4_workOut_36 rfl ?_
        refine j_if_lt (tgt := 46) C dX4_workOut_38 (by decide) (fun h38 => ?_) (fun h38 => ?_)
        · skip
          refine j_aload_n C dX4_workOut_46 rfl ?_
          refine j_getR (j := A) C fl_X4_11 dX4_workOut_47 (hT) rfl (hA) ?_
          refine j_iconst C dX4_workOut_50 (v := (-1)) (by decide) ?_
          refine j_iload C dX4_workOut_51 rfl ?_
          refine j_isub C dX4_workOut_53 ?_
          refine j_iald C (hAA) (in13 h19 h38) dX4_workOut_54 ?_
          try rw [sr_ne hAK]
          refine j_iastN C (hKA) (⟨by omega, by decide⟩) dX4_workOut_55 ?_
          rw [sr_u2]
          refine j_iincN C dX4_workOut_56 rfl (by decide) rfl ?_
          refine j_goto (tgt := 143) C dX4_workOut_59 (by decide) ?_
          refine fin (by omega) _ (n + 1) ?_
          rw [pile_push, xEv]
          unfold xStep
          rw [if_neg h19, hn, if_neg h28, if_pos h38, hρ]
        · skip
          refine j_iload C dX4_workOut_41 rfl ?_
          refine j_goto (tgt := 55) C dX4_workOut_43 (by decide) ?_
          try rw [sr_ne hAK]
          refine j_iastN C (hKA) (⟨by omega, by decide⟩) dX4_workOut_55 ?_
          rw [sr_u2]
          refine j_iincN C dX4_workOut_56 rfl (by decide) rfl ?_
          refine j_goto (tgt := 143) C dX4_workOut_59 (by decide) ?_
          refine fin (by omega) _ (n + 1) ?_
          rw [pile_push, xEv]
          unfold xStep
          rw [if_neg h19, hn, if_neg h28, if_neg h38, hρ]
