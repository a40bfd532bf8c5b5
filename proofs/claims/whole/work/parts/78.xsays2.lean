/-! ===== THE CLASS: says, hasStayed, waitsForAnother ===== -/
theorem k012 {k : Int32} (h : 0 ≤ k ∧ k ≤ 2) (h1 : ¬ k = 1) (h2 : ¬ k = 2) : k = 0 := by
  obtain ⟨q, hq, e1, -⟩ := rngC (n := 3) h rfl (by decide)
  subst e1
  rcases (show q = 0 ∨ q = 1 ∨ q = 2 by omega) with z | z | z
  · rw [z]; rfl
  · exact absurd (by rw [z]; rfl) h1
  · exact absurd (by rw [z]; rfl) h2
theorem kn_cases (T : WNm) (k : Int32) (r nV : Nat) : mKnown T k r nV = -2 ∨ ∃ v, v < nV ∧ mKnown T k r nV = nI v := mKnown_cases T k r nV

theorem cX_says {l : Launch} {g : WGp} (hg : GOK g) {sh : WSh} {N : WNm} {o : Nat → Nat} {nG nB nV kG kB kV : Nat} {ln : Nat → Nat} (X : XH o sh N nG nB nV kG kB kV ln) {nT nP dy : Nat} {T : WNm} (hN : XN N T nG nB nV nT ln) (hI : TI T nG nB nV nP dy) {o1 : Nat → Nat} (hX : HX g o1) (k x b : Int32) : CT l g yX6_says cX6_says 6 (some .int) (RM 6 0 0) [.ref (sh.2.2 100), .int k, .int x, .int b] sh N (QX g sh N nG nB nV nT ln (mSaysP T k x b, T)) := by
  refine ent hg (by decide +kernel) (Nat.le_of_ble_eq_true rfl) ?_
  intro p e s m args below meth c C hname
  generalize hRES : mSaysP T k x b = RES
  refine j_aload_n C dX6_says_0 rfl ?_
  refine j_iload_n C dX6_says_1 rfl ?_
  by_cases hx : 0 ≤ x ∧ x ≤ T 0 9 - 1
  · obtain ⟨ha, e1⟩ := rngT hx hI.g9 (Nat.le_trans X.nG8 (by decide))
    refine j_callV1RS (x := 1000 + tn x) C ml_X6_86 dX6_says_2 (cX_galleyOfS hg X (by rw [← hI.g9]; exact hx)) ⟨by rw [X.c (i := 100) (c := 6) (by decide)]; decide, by rw [X.c (i := 100) (c := 6) (by decide)]; rfl⟩ ⟨Nat.le_of_ble_eq_true rfl, Nat.le_of_ble_eq_true rfl⟩ (Nat.le_of_ble_eq_true rfl) ⟨rfl, rfl⟩ ⟨Nat.zero_le _, Nat.zero_le _⟩ ?_
    refine j_astore C dX6_says_5 (by decide) rfl ?_
    refine j_iload_n C dX6_says_7 rfl ?_
    refine j_callS1I C ml_X6_147 dX6_says_8 (cX_isVoteKind hg _) ⟨Nat.le_of_ble_eq_true rfl, Nat.le_of_ble_eq_true rfl⟩ (Nat.le_of_ble_eq_true rfl) ⟨rfl, rfl⟩ ⟨Nat.zero_le _, Nat.zero_le _⟩ ?_
    refine j_if_eq (tgt := 28) C dX6_says_11 (by decide) (fun h11 => ?_) (fun h11 => ?_)
    · replace h11 := b2_eq0.mp h11
      refine j_ldc C kc_X6_61 dX6_says_28 ?_
      first | rw [mSaysP, if_neg h11] at hRES | rw [mSaysP, if_pos h11, if_neg hx] at hRES | rw [mSaysP, if_pos h11, if_pos hx, if_neg h25] at hRES
      subst hRES
      exact j_iret C dX6_says_30 rfl ⟨rfl, rfl, hN, FRN.rfl N⟩
    · replace h11 := b2_ne0.mp h11
      refine j_aload C dX6_says_14 rfl ?_
      refine j_ifnull C dX6_says_16 ?_
      refine j_aload C dX6_says_19 rfl ?_
      refine j_getI C fl_X6_166 dX6_says_21 (X.g ha) rfl ?_
      rw [hN.g ha (f := 9) (r := 15) (by decide)]
      refine j_iconst C dX6_says_24 (v := 1) (by decide) ?_
      refine j_icmp_eq (tgt := 31) C dX6_says_25 (by decide) (fun h25 => ?_) (fun h25 => ?_)
      · skip
        refine j_aload_n C dX6_says_31 rfl ?_
        refine j_aload C dX6_says_32 rfl ?_
        obtain ⟨rr, hr, hrr⟩ := hI.1.2.2.2.2.2.2 (tn x) ha (Or.inl h25)
        have z0 : Int32 := b
        refine j_callV1V C ml_X6_169 dX6_says_34 (cX_lookAt hg X hN hI (a := tn x) ha) ⟨by rw [X.c (i := 100) (c := 6) (by decide)]; decide, by rw [X.c (i := 100) (c := 6) (by decide)]; rfl⟩ ⟨Nat.le_of_ble_eq_true rfl, Nat.le_of_ble_eq_true rfl⟩ (Nat.le_of_ble_eq_true rfl) ⟨rfl, rfl⟩ ⟨Nat.zero_le _, Nat.zero_le _⟩ ?_
        obtain ⟨hFn, hEn⟩ := tell_rows (lookG_rows N (1000 + tn x) (T 0 1) (mInPort T (T 16 (tn x)) nG))
        have hn := (NMQ.look hN ha X.nG8 hI.g9 hI.b23 X.nB3 b : NMQ (xLookG N 114 (1000 + tn x) (T 0 1) (mInPort T (T 16 (tn x)) nG)) T 0 (nI (tn x)) b)
        replace hN := hN.cg X.nG8 X.nB3 X.nV3 hEn (fun _ _ => rfl)
        replace X := X.fr hFn
        have hF := hFn
        clear hEn hFn
        obtain ⟨N1, eN⟩ : ∃ N1, N1 = xLookG N 114 (1000 + tn x) (T 0 1) (mInPort T (T 16 (tn x)) nG) := ⟨_, rfl⟩
        rw [← eN] at hn hN X hF
        rw [← eN]
        clear eN
        rw [← e1] at hn
        refine j_iload_n C dX6_says_37 rfl ?_
        refine j_iconst C dX6_says_38 (v := 1) (by decide) ?_
        refine j_icmp_ne (tgt := 70) C dX6_says_39 (by decide) (fun h39 => ?_) (fun h39 => ?_)
        · skip
          refine j_iload_n C dX6_says_70 rfl ?_
          refine j_iconst C dX6_says_71 (v := 2) (by decide) ?_
          refine j_icmp_ne (tgt := 104) C dX6_says_72 (by decide) (fun h72 => ?_) (fun h72 => ?_)
          · skip
            refine j_aload_n C dX6_says_104 rfl ?_
            refine j_iload_n C dX6_says_105 rfl ?_
            refine j_aload_n C dX6_says_106 rfl ?_
            refine j_iload_n C dX6_says_107 rfl ?_
            refine j_aload C dX6_says_108 rfl ?_
            refine j_getI C fl_X6_180 dX6_says_110 (X.g ha) rfl ?_
            rw [hN.g ha (f := 10) (r := 16) (by decide)]
            rw [hrr]
            refine j_callV2I C ml_X6_162 dX6_says_113 (cX_inForce hg X hN hI k hr) (⟨by rw [X.c (i := 100) (c := 6) (by decide)]; decide, by rw [X.c (i := 100) (c := 6) (by decide)]; rfl⟩) ⟨Nat.le_of_ble_eq_true rfl, Nat.le_of_ble_eq_true rfl⟩ (Nat.le_of_ble_eq_true rfl) ⟨rfl, rfl⟩ ⟨Nat.zero_le _, Nat.zero_le _⟩ ?_
            have er : sv T k (mKnown T k rr nV) (fun w => mValue T w k x b) = mSays T k x b := by
              rw [mSays_sv, hrr, show tn (nI rr) = rr from nI_clamp (by have := hI.1.2.2.2.1.2; omega), hI.v38, show tn (nI nV) = nV from nI_clamp (by have := X.nV3; omega)]
            first | rw [← h39] at hn | rw [← h72] at hn | rw [← k012 h11 h39 h72] at hn
            refine j_callV2Ig C ml_X6_183 dX6_says_116 (cX_workedOut hg X hN hI hX h11 (kn_cases T k rr nV) hn) ⟨by rw [X.c (i := 100) (c := 6) (by decide)]; decide, by rw [X.c (i := 100) (c := 6) (by decide)]; rfl⟩ ⟨Nat.le_of_ble_eq_true rfl, Nat.le_of_ble_eq_true rfl⟩ (Nat.le_of_ble_eq_true rfl) ⟨rfl, rfl⟩ ⟨Nat.zero_le _, Nat.zero_le _⟩ (fun q sh1 N9 hq => ?_)
            obtain ⟨q1, q2, ρ, q3⟩ := hq
            rw [er] at q2
            first
              | rw [mSaysP, if_pos h11, if_pos hx, if_pos h25, if_pos h39, if_pos hb0] at hRES
              | rw [mSaysP, if_pos h11, if_pos hx, if_pos h25, if_neg h39, if_pos h72, if_pos hb0, if_neg h89] at hRES
              | rw [mSaysP, if_pos h11, if_pos hx, if_pos h25, if_neg h39, if_neg h72] at hRES
            subst hRES
            obtain ⟨hFn, hEn⟩ := tell_rows (sr_rows _ ρ)
            subst q3
            exact j_iret C dX6_says_119 rfl ⟨q1, q2, hN.cg X.nG8 X.nB3 X.nV3 hEn (fun _ _ => rfl), hF.trans hFn⟩
          · replace h72 := Decidable.not_not.mp h72
            refine j_aload_n C dX6_says_75 rfl ?_
            refine j_iload_n C dX6_says_76 rfl ?_
            by_cases hb0 : 0 ≤ b ∧ b ≤ T 0 9 - 1
            · obtain ⟨hb, e2⟩ := rngT hb0 hI.g9 (Nat.le_trans X.nG8 (by decide))
              refine j_callV1RS (x := 1000 + tn b) C ml_X6_86 dX6_says_77 (cX_galleyOfS hg X (by rw [← hI.g9]; exact hb0)) ⟨by rw [X.c (i := 100) (c := 6) (by decide)]; decide, by rw [X.c (i := 100) (c := 6) (by decide)]; rfl⟩ ⟨Nat.le_of_ble_eq_true rfl, Nat.le_of_ble_eq_true rfl⟩ (Nat.le_of_ble_eq_true rfl) ⟨rfl, rfl⟩ ⟨Nat.zero_le _, Nat.zero_le _⟩ ?_
              refine j_astore C dX6_says_80 (by decide) rfl ?_
              refine j_aload C dX6_says_82 rfl ?_
              refine j_ifnull C dX6_says_84 ?_
              refine j_iload_n C dX6_says_87 rfl ?_
              refine j_iload_n C dX6_says_88 rfl ?_
              refine j_icmp_ne (tgt := 95) C dX6_says_89 (by decide) (fun h89 => ?_) (fun h89 => ?_)
              · skip
                refine j_aload_n C dX6_says_95 rfl ?_
                refine j_getR (j := 110) C fl_X6_45 dX6_says_96 (X.c (by decide)) rfl (X.r (by decide)) ?_
                refine j_aload C dX6_says_99 rfl ?_
                refine j_callV1V C ml_X6_177 dX6_says_101 (cX_lookAtOther hg (T := 110) (A := 114) (X.c (by decide)) (X.r (by decide)) (X.a (by decide)) (X.g hb)) (by rw [X.c (i := 110) (c := 4) (by decide)]; exact ⟨by decide, rfl⟩) ⟨Nat.le_of_ble_eq_true rfl, Nat.le_of_ble_eq_true rfl⟩ (Nat.le_of_ble_eq_true rfl) ⟨rfl, rfl⟩ ⟨Nat.zero_le _, Nat.zero_le _⟩ ?_
                obtain ⟨hFn, hEn⟩ := tell_rows (lookO_rows N1 (1000 + tn b))
                replace hn := NMQ.other hN hb hn (by decide)
                replace hN := hN.cg X.nG8 X.nB3 X.nV3 hEn (fun _ _ => rfl)
                replace X := X.fr hFn
                replace hF := hF.trans hFn
                clear hEn hFn
                obtain ⟨N2, eN⟩ : ∃ N2, N2 = xLookO N1 114 (1000 + tn b) := ⟨_, rfl⟩
                rw [← eN] at hn hN X hF
                rw [← eN]
                clear eN
                rw [← e2] at hn
                refine j_aload_n C dX6_says_104 rfl ?_
                refine j_iload_n C dX6_says_105 rfl ?_
                refine j_aload_n C dX6_says_106 rfl ?_
                refine j_iload_n C dX6_says_107 rfl ?_
                refine j_aload C dX6_says_108 rfl ?_
                refine j_getI C fl_X6_180 dX6_says_110 (X.g ha) rfl ?_
                rw [hN.g ha (f := 10) (r := 16) (by decide)]
                rw [hrr]
                refine j_callV2I C ml_X6_162 dX6_says_113 (cX_inForce hg X hN hI k hr) (⟨by rw [X.c (i := 100) (c := 6) (by decide)]; decide, by rw [X.c (i := 100) (c := 6) (by decide)]; rfl⟩) ⟨Nat.le_of_ble_eq_true rfl, Nat.le_of_ble_eq_true rfl⟩ (Nat.le_of_ble_eq_true rfl) ⟨rfl, rfl⟩ ⟨Nat.zero_le _, Nat.zero_le _⟩ ?_
                have er : sv T k (mKnown T k rr nV) (fun w => mValue T w k x b) = mSays T k x b := by
                  rw [mSays_sv, hrr, show tn (nI rr) = rr from nI_clamp (by have := hI.1.2.2.2.1.2; omega), hI.v38, show tn (nI nV) = nV from nI_clamp (by have := X.nV3; omega)]
                first | rw [← h39] at hn | rw [← h72] at hn | rw [← k012 h11 h39 h72] at hn
                refine j_callV2Ig C ml_X6_183 dX6_says_116 (cX_workedOut hg X hN hI hX h11 (kn_cases T k rr nV) hn) ⟨by rw [X.c (i := 100) (c := 6) (by decide)]; decide, by rw [X.c (i := 100) (c := 6) (by decide)]; rfl⟩ ⟨Nat.le_of_ble_eq_true rfl, Nat.le_of_ble_eq_true rfl⟩ (Nat.le_of_ble_eq_true rfl) ⟨rfl, rfl⟩ ⟨Nat.zero_le _, Nat.zero_le _⟩ (fun q sh1 N9 hq => ?_)
                obtain ⟨q1, q2, ρ, q3⟩ := hq
                rw [er] at q2
                first
                  | rw [mSaysP, if_pos h11, if_pos hx, if_pos h25, if_pos h39, if_pos hb0] at hRES
                  | rw [mSaysP, if_pos h11, if_pos hx, if_pos h25, if_neg h39, if_pos h72, if_pos hb0, if_neg h89] at hRES
                  | rw [mSaysP, if_pos h11, if_pos hx, if_pos h25, if_neg h39, if_neg h72] at hRES
                subst hRES
                obtain ⟨hFn, hEn⟩ := tell_rows (sr_rows _ ρ)
                subst q3
                exact j_iret C dX6_says_119 rfl ⟨q1, q2, hN.cg X.nG8 X.nB3 X.nV3 hEn (fun _ _ => rfl), hF.trans hFn⟩
              · replace h89 := Decidable.not_not.mp h89
                refine j_ldc C kc_X6_61 dX6_says_92 ?_
                first | rw [mSaysP, if_pos h11, if_pos hx, if_pos h25, if_neg h39, if_pos h72, if_neg hb0] at hRES | rw [mSaysP, if_pos h11, if_pos hx, if_pos h25, if_neg h39, if_pos h72, if_pos hb0, if_pos h89] at hRES
                subst hRES
                exact j_iret C dX6_says_94 rfl ⟨rfl, rfl, hN, hF⟩
            · skip
              refine j_callV1RN C ml_X6_86 dX6_says_77 (cX_galleyOfN hg X (by rw [← hI.g9]; exact hb0)) ⟨by rw [X.c (i := 100) (c := 6) (by decide)]; decide, by rw [X.c (i := 100) (c := 6) (by decide)]; rfl⟩ ⟨Nat.le_of_ble_eq_true rfl, Nat.le_of_ble_eq_true rfl⟩ (Nat.le_of_ble_eq_true rfl) ⟨rfl, rfl⟩ ⟨Nat.zero_le _, Nat.zero_le _⟩ ?_
              refine j_astoreN C dX6_says_80 (by decide) rfl ?_
              refine j_aloadN C dX6_says_82 rfl ?_
              refine j_ifnullN (tgt := 92) C dX6_says_84 (by decide) ?_
              refine j_ldc C kc_X6_61 dX6_says_92 ?_
              first | rw [mSaysP, if_pos h11, if_pos hx, if_pos h25, if_neg h39, if_pos h72, if_neg hb0] at hRES | rw [mSaysP, if_pos h11, if_pos hx, if_pos h25, if_neg h39, if_pos h72, if_pos hb0, if_pos h89] at hRES
              subst hRES
              exact j_iret C dX6_says_94 rfl ⟨rfl, rfl, hN, hF⟩
        · replace h39 := Decidable.not_not.mp h39
          refine j_aload_n C dX6_says_42 rfl ?_
          refine j_iload_n C dX6_says_43 rfl ?_
          by_cases hb0 : 0 ≤ b ∧ b ≤ T 0 23 - 1
          · obtain ⟨hb, e2⟩ := rngT hb0 hI.b23 X.nB3
            refine j_callV1RS (x := 2000 + tn b) C ml_X6_126 dX6_says_44 (cX_baleOfS hg X (by rw [← hI.b23]; exact hb0)) ⟨by rw [X.c (i := 100) (c := 6) (by decide)]; decide, by rw [X.c (i := 100) (c := 6) (by decide)]; rfl⟩ ⟨Nat.le_of_ble_eq_true rfl, Nat.le_of_ble_eq_true rfl⟩ (Nat.le_of_ble_eq_true rfl) ⟨rfl, rfl⟩ ⟨Nat.zero_le _, Nat.zero_le _⟩ ?_
            refine j_astore C dX6_says_47 (by decide) rfl ?_
            refine j_aload C dX6_says_49 rfl ?_
            refine j_ifnonnull (tgt := 57) C dX6_says_51 (by decide) ?_
            refine j_aload_n C dX6_says_57 rfl ?_
            refine j_getR (j := 110) C fl_X6_45 dX6_says_58 (X.c (by decide)) rfl (X.r (by decide)) ?_
            refine j_aload C dX6_says_61 rfl ?_
            refine j_aload_n C dX6_says_63 rfl ?_
            refine j_getI C fl_X6_122 dX6_says_64 (X.c (by decide)) rfl ?_
            rw [hN.1.2.2.2]
            refine j_callV2V C ml_X6_173 dX6_says_67 (cX_lookAtBale hg (T := 110) (A := 114) (X.c (by decide)) (X.r (by decide)) (X.a (by decide)) (X.b hb) (by omega) _) (by rw [X.c (i := 110) (c := 4) (by decide)]; exact ⟨by decide, rfl⟩) ⟨Nat.le_of_ble_eq_true rfl, Nat.le_of_ble_eq_true rfl⟩ (Nat.le_of_ble_eq_true rfl) ⟨rfl, rfl⟩ ⟨Nat.zero_le _, Nat.zero_le _⟩ ?_
            obtain ⟨hFn, hEn⟩ := tell_rows (lookB_rows N1 (2000 + tn b) (T 0 1))
            replace hn := NMQ.bale hN hb X.nB3 hn (by decide)
            replace hN := hN.cg X.nG8 X.nB3 X.nV3 hEn (fun _ _ => rfl)
            replace X := X.fr hFn
            replace hF := hF.trans hFn
            clear hEn hFn
            obtain ⟨N2, eN⟩ : ∃ N2, N2 = xLookB N1 114 (2000 + tn b) (T 0 1) := ⟨_, rfl⟩
            rw [← eN] at hn hN X hF
            rw [← eN]
            clear eN
            rw [← e2] at hn
            refine j_iload_n C dX6_says_70 rfl ?_
            refine j_iconst C dX6_says_71 (v := 2) (by decide) ?_
            refine j_icmp_ne (tgt := 104) C dX6_says_72 (by decide) (fun h72 => ?_) (fun h72 => ?_)
            · skip
              refine j_aload_n C dX6_says_104 rfl ?_
              refine j_iload_n C dX6_says_105 rfl ?_
              refine j_aload_n C dX6_says_106 rfl ?_
              refine j_iload_n C dX6_says_107 rfl ?_
              refine j_aload C dX6_says_108 rfl ?_
              refine j_getI C fl_X6_180 dX6_says_110 (X.g ha) rfl ?_
              rw [hN.g ha (f := 10) (r := 16) (by decide)]
              rw [hrr]
              refine j_callV2I C ml_X6_162 dX6_says_113 (cX_inForce hg X hN hI k hr) (⟨by rw [X.c (i := 100) (c := 6) (by decide)]; decide, by rw [X.c (i := 100) (c := 6) (by decide)]; rfl⟩) ⟨Nat.le_of_ble_eq_true rfl, Nat.le_of_ble_eq_true rfl⟩ (Nat.le_of_ble_eq_true rfl) ⟨rfl, rfl⟩ ⟨Nat.zero_le _, Nat.zero_le _⟩ ?_
              have er : sv T k (mKnown T k rr nV) (fun w => mValue T w k x b) = mSays T k x b := by
                rw [mSays_sv, hrr, show tn (nI rr) = rr from nI_clamp (by have := hI.1.2.2.2.1.2; omega), hI.v38, show tn (nI nV) = nV from nI_clamp (by have := X.nV3; omega)]
              first | rw [← h39] at hn | rw [← h72] at hn | rw [← k012 h11 h39 h72] at hn
              refine j_callV2Ig C ml_X6_183 dX6_says_116 (cX_workedOut hg X hN hI hX h11 (kn_cases T k rr nV) hn) ⟨by rw [X.c (i := 100) (c := 6) (by decide)]; decide, by rw [X.c (i := 100) (c := 6) (by decide)]; rfl⟩ ⟨Nat.le_of_ble_eq_true rfl, Nat.le_of_ble_eq_true rfl⟩ (Nat.le_of_ble_eq_true rfl) ⟨rfl, rfl⟩ ⟨Nat.zero_le _, Nat.zero_le _⟩ (fun q sh1 N9 hq => ?_)
              obtain ⟨q1, q2, ρ, q3⟩ := hq
              rw [er] at q2
              first
                | rw [mSaysP, if_pos h11, if_pos hx, if_pos h25, if_pos h39, if_pos hb0] at hRES
                | rw [mSaysP, if_pos h11, if_pos hx, if_pos h25, if_neg h39, if_pos h72, if_pos hb0, if_neg h89] at hRES
                | rw [mSaysP, if_pos h11, if_pos hx, if_pos h25, if_neg h39, if_neg h72] at hRES
              subst hRES
              obtain ⟨hFn, hEn⟩ := tell_rows (sr_rows _ ρ)
              subst q3
              exact j_iret C dX6_says_119 rfl ⟨q1, q2, hN.cg X.nG8 X.nB3 X.nV3 hEn (fun _ _ => rfl), hF.trans hFn⟩
            · replace h72 := Decidable.not_not.mp h72
              exact absurd (h39.symm.trans h72) (by decide)
          · skip
            refine j_callV1RN C ml_X6_126 dX6_says_44 (cX_baleOfN hg X (by rw [← hI.b23]; exact hb0)) ⟨by rw [X.c (i := 100) (c := 6) (by decide)]; decide, by rw [X.c (i := 100) (c := 6) (by decide)]; rfl⟩ ⟨Nat.le_of_ble_eq_true rfl, Nat.le_of_ble_eq_true rfl⟩ (Nat.le_of_ble_eq_true rfl) ⟨rfl, rfl⟩ ⟨Nat.zero_le _, Nat.zero_le _⟩ ?_
            refine j_astoreN C dX6_says_47 (by decide) rfl ?_
            refine j_aloadN C dX6_says_49 rfl ?_
            refine j_ifnonnullN C dX6_says_51 ?_
            refine j_ldc C kc_X6_61 dX6_says_54 ?_
            rw [mSaysP, if_pos h11, if_pos hx, if_pos h25, if_pos h39, if_neg hb0] at hRES
            subst hRES
            exact j_iret C dX6_says_56 rfl ⟨rfl, rfl, hN, hF⟩
      · skip
        refine j_ldc C kc_X6_61 dX6_says_28 ?_
        first | rw [mSaysP, if_neg h11] at hRES | rw [mSaysP, if_pos h11, if_neg hx] at hRES | rw [mSaysP, if_pos h11, if_pos hx, if_neg h25] at hRES
        subst hRES
        exact j_iret C dX6_says_30 rfl ⟨rfl, rfl, hN, FRN.rfl N⟩
  · skip
    refine j_callV1RN C ml_X6_86 dX6_says_2 (cX_galleyOfN hg X (by rw [← hI.g9]; exact hx)) ⟨by rw [X.c (i := 100) (c := 6) (by decide)]; decide, by rw [X.c (i := 100) (c := 6) (by decide)]; rfl⟩ ⟨Nat.le_of_ble_eq_true rfl, Nat.le_of_ble_eq_true rfl⟩ (Nat.le_of_ble_eq_true rfl) ⟨rfl, rfl⟩ ⟨Nat.zero_le _, Nat.zero_le _⟩ ?_
    refine j_astoreN C dX6_says_5 (by decide) rfl ?_
    refine j_iload_n C dX6_says_7 rfl ?_
    refine j_callS1I C ml_X6_147 dX6_says_8 (cX_isVoteKind hg _) ⟨Nat.le_of_ble_eq_true rfl, Nat.le_of_ble_eq_true rfl⟩ (Nat.le_of_ble_eq_true rfl) ⟨rfl, rfl⟩ ⟨Nat.zero_le _, Nat.zero_le _⟩ ?_
    refine j_if_eq (tgt := 28) C dX6_says_11 (by decide) (fun h11 => ?_) (fun h11 => ?_)
    · replace h11 := b2_eq0.mp h11
      refine j_ldc C kc_X6_61 dX6_says_28 ?_
      first | rw [mSaysP, if_neg h11] at hRES | rw [mSaysP, if_pos h11, if_neg hx] at hRES | rw [mSaysP, if_pos h11, if_pos hx, if_neg h25] at hRES
      subst hRES
      exact j_iret C dX6_says_30 rfl ⟨rfl, rfl, hN, FRN.rfl N⟩
    · replace h11 := b2_ne0.mp h11
      refine j_aloadN C dX6_says_14 rfl ?_
      refine j_ifnullN (tgt := 28) C dX6_says_16 (by decide) ?_
      refine j_ldc C kc_X6_61 dX6_says_28 ?_
      first | rw [mSaysP, if_neg h11] at hRES | rw [mSaysP, if_pos h11, if_neg hx] at hRES | rw [mSaysP, if_pos h11, if_pos hx, if_neg h25] at hRES
      subst hRES
      exact j_iret C dX6_says_30 rfl ⟨rfl, rfl, hN, FRN.rfl N⟩

theorem stay_eq (s : Int32) : (if 0 < (if s < 30 then s else 30) then (if s < 30 then s else 30) else 0) = if 0 ≤ s then (if s ≤ 30 then s else 30) else 0 := by
  by_cases h1 : s < 30
  · rw [if_pos h1]
    by_cases h2 : 0 < s
    · rw [if_pos h2, if_pos (Int32.le_of_lt h2), if_pos (Int32.le_of_lt h1)]
    · rw [if_neg h2]
      by_cases h3 : 0 ≤ s
      · rw [if_pos h3, if_pos (Int32.le_of_lt h1)]
        exact Int32.le_antisymm h3 (Int32.not_lt.mp h2)
      · rw [if_neg h3]
  · rw [if_neg h1, if_pos (by decide)]
    have h2 : (30 : Int32) ≤ s := Int32.not_lt.mp h1
    rw [if_pos (Int32.le_trans (by decide) h2)]
    by_cases h3 : s ≤ 30
    · rw [if_pos h3]; exact Int32.le_antisymm h2 h3
    · rw [if_neg h3]

theorem cX_hasStayed {l : Launch} {g : WGp} (hg : GOK g) {sh : WSh} {N : WNm} {o : Nat → Nat} {nG nB nV kG kB kV : Nat} {ln : Nat → Nat} (X : XH o sh N nG nB nV kG kB kV ln) {nT nP dy : Nat} {T : WNm} (hN : XN N T nG nB nV nT ln) (hI : TI T nG nB nV nP dy) {o1 : Nat → Nat} (hX : HX g o1) {a : Nat} (ha : a < nG) (hs : T 15 a = 1) : CT l g yX6_hasStayed cX6_hasStayed 3 (some .boolean) (RM 6 0 0) [.ref (sh.2.2 100), .ref (sh.2.2 (1000 + a))] sh N (QI g (fun r sh1 N1 => sh1 = sh ∧ r = pb (mStay T a ≤ T 0 1 - T 17 a) ∧ XN N1 T nG nB nV nT ln ∧ FRN N N1)) := by
  refine ent hg (by decide +kernel) (Nat.le_of_ble_eq_true rfl) ?_
  intro p e s m args below meth c C hname
  obtain ⟨rr, hr, hrr⟩ := hI.1.2.2.2.2.2.2 a ha (Or.inl hs)
  have ea : tn (nI a) = a := nI_clamp (by have := X.nG8; omega)
  refine j_aload_n C dX6_hasStayed_0 rfl ?_
  refine j_aload_n C dX6_hasStayed_1 rfl ?_
  refine j_callV1V C ml_X6_169 dX6_hasStayed_2 (cX_lookAt hg X hN hI (a := a) ha) ⟨by rw [X.c (i := 100) (c := 6) (by decide)]; decide, by rw [X.c (i := 100) (c := 6) (by decide)]; rfl⟩ ⟨Nat.le_of_ble_eq_true rfl, Nat.le_of_ble_eq_true rfl⟩ (Nat.le_of_ble_eq_true rfl) ⟨rfl, rfl⟩ ⟨Nat.zero_le _, Nat.zero_le _⟩ ?_
  obtain ⟨hFn, hEn⟩ := tell_rows (lookG_rows N (1000 + a) (T 0 1) (mInPort T (T 16 (a)) nG))
  have hn := (NMQ.look hN ha X.nG8 hI.g9 hI.b23 X.nB3 0 : NMQ (xLookG N 114 (1000 + a) (T 0 1) (mInPort T (T 16 (a)) nG)) T 0 (nI a) 0)
  replace hN := hN.cg X.nG8 X.nB3 X.nV3 hEn (fun _ _ => rfl)
  replace X := X.fr hFn
  have hF := hFn
  clear hEn hFn
  obtain ⟨N1, eN⟩ : ∃ N1, N1 = xLookG N 114 (1000 + a) (T 0 1) (mInPort T (T 16 (a)) nG) := ⟨_, rfl⟩
  rw [← eN] at hn hN X hF
  rw [← eN]
  clear eN
  refine j_aload_n C dX6_hasStayed_5 rfl ?_
  refine j_iconst C dX6_hasStayed_6 (v := 0) (by decide) ?_
  refine j_aload_n C dX6_hasStayed_7 rfl ?_
  refine j_iconst C dX6_hasStayed_8 (v := 0) (by decide) ?_
  refine j_aload_n C dX6_hasStayed_9 rfl ?_
  refine j_getI C fl_X6_180 dX6_hasStayed_10 (X.g ha) rfl ?_
  rw [hN.g ha (f := 10) (r := 16) (by decide)]
  rw [hrr]
  refine j_callV2I C ml_X6_162 dX6_hasStayed_13 (cX_inForce hg X hN hI 0 hr) (⟨by rw [X.c (i := 100) (c := 6) (by decide)]; decide, by rw [X.c (i := 100) (c := 6) (by decide)]; rfl⟩) ⟨Nat.le_of_ble_eq_true rfl, Nat.le_of_ble_eq_true rfl⟩ (Nat.le_of_ble_eq_true rfl) ⟨rfl, rfl⟩ ⟨Nat.zero_le _, Nat.zero_le _⟩ ?_
  have er : sv T 0 (mKnown T 0 rr nV) (fun w => mValue T w 0 (nI a) 0) = mSays T 0 (nI a) 0 := by
    rw [mSays_sv, ea, hrr, show tn (nI rr) = rr from nI_clamp (by have := hI.1.2.2.2.1.2; omega), hI.v38, show tn (nI nV) = nV from nI_clamp (by have := X.nV3; omega)]
  refine j_callV2Ig C ml_X6_183 dX6_hasStayed_16 (cX_workedOut hg X hN hI hX (by decide) (kn_cases T 0 rr nV) hn) ⟨by rw [X.c (i := 100) (c := 6) (by decide)]; decide, by rw [X.c (i := 100) (c := 6) (by decide)]; rfl⟩ ⟨Nat.le_of_ble_eq_true rfl, Nat.le_of_ble_eq_true rfl⟩ (Nat.le_of_ble_eq_true rfl) ⟨rfl, rfl⟩ ⟨Nat.zero_le _, Nat.zero_le _⟩ (fun q sh1 N9 hq => ?_)
  obtain ⟨q1, q2, ρ, q3⟩ := hq
  rw [er] at q2
  subst q1
  subst q2
  obtain ⟨hFn, hEn⟩ := tell_rows (sr_rows N1 ρ)
  replace hn := hn.sr ρ
  replace hN := hN.cg X.nG8 X.nB3 X.nV3 hEn (fun _ _ => rfl)
  replace X := X.fr hFn
  replace hF := hF.trans hFn
  clear hEn hFn
  subst q3
  obtain ⟨N2, eN⟩ : ∃ N2, N2 = sr N1 115 ρ := ⟨_, rfl⟩
  rw [← eN] at hn hN X hF
  rw [← eN]
  clear eN
  refine j_istore_n C dX6_hasStayed_19 (by decide) rfl ?_
  refine j_aload_n C dX6_hasStayed_20 rfl ?_
  refine j_getI C fl_X6_122 dX6_hasStayed_21 (X.c (by decide)) rfl ?_
  rw [hN.1.2.2.2]
  refine j_aload_n C dX6_hasStayed_24 rfl ?_
  refine j_getI C fl_X6_288 dX6_hasStayed_25 (X.g ha) rfl ?_
  rw [hN.g ha (f := 11) (r := 17) (by decide)]
  refine j_isub C dX6_hasStayed_28 ?_
  refine j_iconst C dX6_hasStayed_29 (v := 0) (by decide) ?_
  refine j_bipush C dX6_hasStayed_30 (v := 30) (by decide) ?_
  refine j_iload_n C dX6_hasStayed_32 rfl ?_
  refine j_callS2I C ml_X6_291 dX6_hasStayed_33 (cJ_min hg _ _) ⟨Nat.le_of_ble_eq_true rfl, Nat.le_of_ble_eq_true rfl⟩ (Nat.le_of_ble_eq_true rfl) ⟨rfl, rfl⟩ ⟨Nat.zero_le _, Nat.zero_le _⟩ ?_
  refine j_callS2I C ml_X6_257 dX6_hasStayed_36 (cJ_max hg _ _) ⟨Nat.le_of_ble_eq_true rfl, Nat.le_of_ble_eq_true rfl⟩ (Nat.le_of_ble_eq_true rfl) ⟨rfl, rfl⟩ ⟨Nat.zero_le _, Nat.zero_le _⟩ ?_
  rw [stay_eq]
  refine j_icmp_lt (tgt := 46) C dX6_hasStayed_39 (by decide) (fun h39 => ?_) (fun h39 => ?_)
  · skip
    refine j_iconst C dX6_hasStayed_46 (v := 0) (by decide) ?_
    exact j_iret C dX6_hasStayed_47 rfl ⟨rfl, (pb_f (fun z => absurd z (i_nle.mpr h39))).symm, hN, hF⟩
  · skip
    refine j_iconst C dX6_hasStayed_42 (v := 1) (by decide) ?_
    refine j_goto (tgt := 47) C dX6_hasStayed_43 (by decide) ?_
    exact j_iret C dX6_hasStayed_47 rfl ⟨rfl, (pb_t (i_nlt.mp h39)).symm, hN, hF⟩

theorem cX_waits {l : Launch} {g : WGp} (hg : GOK g) {sh : WSh} {N : WNm} {o : Nat → Nat} {nG nB nV kG kB kV : Nat} {ln : Nat → Nat} (X : XH o sh N nG nB nV kG kB kV ln) {nT nP dy : Nat} {T : WNm} (hN : XN N T nG nB nV nT ln) (hI : TI T nG nB nV nP dy) {o1 : Nat → Nat} (hX : HX g o1) {a : Nat} (ha : a < nG) (hs : T 15 a = 1) : CT l g yX6_waitsForAnother cX6_waitsForAnother 5 (some .boolean) (RM 6 0 0) [.ref (sh.2.2 100), .ref (sh.2.2 (1000 + a))] sh N (QI g (fun r sh1 N1 => sh1 = sh ∧ r = pb (¬ ∀ o, o < nG → ¬ mHolds T a o) ∧ XN N1 T nG nB nV nT ln ∧ FRN N N1)) := by
  refine ent hg (by decide +kernel) (Nat.le_of_ble_eq_true rfl) ?_
  intro p e s m args below meth c C hname
  obtain ⟨rr, hr, hrr⟩ := hI.1.2.2.2.2.2.2 a ha (Or.inl hs)
  have ea : tn (nI a) = a := nI_clamp (by have := X.nG8; omega)
  have hG := X.nG8
  refine j_aload_n C dX6_waitsForAnother_0 rfl ?_
  refine j_aload_n C dX6_waitsForAnother_1 rfl ?_
  refine j_callV1V C ml_X6_169 dX6_waitsForAnother_2 (cX_lookAt hg X hN hI (a := a) ha) ⟨by rw [X.c (i := 100) (c := 6) (by decide)]; decide, by rw [X.c (i := 100) (c := 6) (by decide)]; rfl⟩ ⟨Nat.le_of_ble_eq_true rfl, Nat.le_of_ble_eq_true rfl⟩ (Nat.le_of_ble_eq_true rfl) ⟨rfl, rfl⟩ ⟨Nat.zero_le _, Nat.zero_le _⟩ ?_
  obtain ⟨hFn, hEn⟩ := tell_rows (lookG_rows N (1000 + a) (T 0 1) (mInPort T (T 16 (a)) nG))
  have hn := (NMQ.look hN ha X.nG8 hI.g9 hI.b23 X.nB3 0 : NMQ (xLookG N 114 (1000 + a) (T 0 1) (mInPort T (T 16 (a)) nG)) T 0 (nI a) 0)
  replace hN := hN.cg X.nG8 X.nB3 X.nV3 hEn (fun _ _ => rfl)
  replace X := X.fr hFn
  have hF := hFn
  clear hEn hFn
  obtain ⟨N1, eN⟩ : ∃ N1, N1 = xLookG N 114 (1000 + a) (T 0 1) (mInPort T (T 16 (a)) nG) := ⟨_, rfl⟩
  rw [← eN] at hn hN X hF
  rw [← eN]
  clear eN
  refine j_aload_n C dX6_waitsForAnother_5 rfl ?_
  refine j_iconst C dX6_waitsForAnother_6 (v := 2) (by decide) ?_
  refine j_aload_n C dX6_waitsForAnother_7 rfl ?_
  refine j_getI C fl_X6_180 dX6_waitsForAnother_8 (X.g ha) rfl ?_
  rw [hN.g ha (f := 10) (r := 16) (by decide)]
  rw [hrr]
  refine j_callV2I C ml_X6_162 dX6_waitsForAnother_11 (cX_inForce hg X hN hI 2 hr) (⟨by rw [X.c (i := 100) (c := 6) (by decide)]; decide, by rw [X.c (i := 100) (c := 6) (by decide)]; rfl⟩) ⟨Nat.le_of_ble_eq_true rfl, Nat.le_of_ble_eq_true rfl⟩ (Nat.le_of_ble_eq_true rfl) ⟨rfl, rfl⟩ ⟨Nat.zero_le _, Nat.zero_le _⟩ ?_
  refine j_istore_n C dX6_waitsForAnother_14 (by decide) rfl ?_
  refine j_iconst C dX6_waitsForAnother_15 (v := 0) (by decide) ?_
  refine j_istore_n C dX6_waitsForAnother_16 (by decide) rfl ?_
  suffices key : ∀ k, k ≤ nG → ∀ (N1 : WNm) (k0 z : Int32), XN N1 T nG nB nV nT ln → XH o sh N1 nG nB nV kG kB kV ln → FRN N N1 → NMQ N1 T k0 (nI a) z → ¬ k0 = 1 → (∀ o, o < k → ¬ mHolds T a o) → J p l e (RM 6 0 0) s m args below meth c (MQ below (QI g (fun r sh1 N1 => sh1 = sh ∧ r = pb (¬ ∀ o, o < nG → ¬ mHolds T a o) ∧ XN N1 T nG nB nV nT ln ∧ FRN N N1)) args s 0 0 g.A) g 5 sh N1 0 0 17 [some (.ref (sh.2.2 100)), some (.ref (sh.2.2 (1000 + a))), some (.int (mKnown T 2 rr nV)), some (.int (nI k)), none] [] from key 0 (Nat.zero_le _) N1 0 0 hN X hF hn (by decide) (fun o ho => absurd ho (Nat.not_lt_zero o))
  clear hn hF X hN
  refine up_ind (P := fun k => ∀ (N1 : WNm) (k0 z : Int32), XN N1 T nG nB nV nT ln → XH o sh N1 nG nB nV kG kB kV ln → FRN N N1 → NMQ N1 T k0 (nI a) z → ¬ k0 = 1 → (∀ o, o < k → ¬ mHolds T a o) → J p l e (RM 6 0 0) s m args below meth c (MQ below (QI g (fun r sh1 N1 => sh1 = sh ∧ r = pb (¬ ∀ o, o < nG → ¬ mHolds T a o) ∧ XN N1 T nG nB nV nT ln ∧ FRN N N1)) args s 0 0 g.A) g 5 sh N1 0 0 17 [some (.ref (sh.2.2 100)), some (.ref (sh.2.2 (1000 + a))), some (.int (mKnown T 2 rr nV)), some (.int (nI k)), none] []) (n := nG) ?_
  intro k hk ih N1 k0 z hN X hF hn hk0 hall
  refine j_iload_n C dX6_waitsForAnother_17 rfl ?_
  refine j_aload_n C dX6_waitsForAnother_18 rfl ?_
  refine j_getR (j := 105) C fl_X6_25 dX6_waitsForAnother_19 (X.c (by decide)) rfl (X.r (by decide)) ?_
  refine j_callV0I C ml_X6_73 dX6_waitsForAnother_22 (cJ_size hg X.lg.1.1) (⟨by rw [X.lg.1.1]; decide, by rw [X.lg.1.1]; rfl⟩) ⟨Nat.le_of_ble_eq_true rfl, Nat.le_of_ble_eq_true rfl⟩ (Nat.le_of_ble_eq_true rfl) ⟨rfl, rfl⟩ ⟨Nat.zero_le _, Nat.zero_le _⟩ ?_
  rw [X.zG]
  refine j_icmp_ge (tgt := 88) C dX6_waitsForAnother_25 (by decide) (fun h25 => ?_) (fun h25 => ?_)
  · skip
    refine j_iconst C dX6_waitsForAnother_88 (v := 0) (by decide) ?_
    rw [n_nle (by omega) (by omega)] at h25
    obtain rfl : k = nG := by omega
    exact j_iret C dX6_waitsForAnother_89 rfl ⟨rfl, (pb_f (fun q => q hall)).symm, hN, hF⟩
  · skip
    rw [n_nle (by omega) (by omega)] at h25
    have hk2 : k < nG := by omega
    refine j_aload_n C dX6_waitsForAnother_28 rfl ?_
    refine j_getR (j := 105) C fl_X6_25 dX6_waitsForAnother_29 (X.c (by decide)) rfl (X.r (by decide)) ?_
    refine j_iload_n C dX6_waitsForAnother_32 rfl ?_
    refine j_callV1RS (x := 1000 + k) C ml_X6_213 dX6_waitsForAnother_33 (cX_lget hg X.lg hk2) ⟨by rw [X.lg.1.1]; decide, by rw [X.lg.1.1]; rfl⟩ ⟨Nat.le_of_ble_eq_true rfl, Nat.le_of_ble_eq_true rfl⟩ (Nat.le_of_ble_eq_true rfl) ⟨rfl, rfl⟩ ⟨Nat.zero_le _, Nat.zero_le _⟩ ?_
    refine j_cast C cl_X6_77 (X.g hk2) dX6_waitsForAnother_36 ?_
    refine j_astore C dX6_waitsForAnother_39 (by decide) rfl ?_
    refine j_aload C dX6_waitsForAnother_41 rfl ?_
    refine j_getI C fl_X6_166 dX6_waitsForAnother_43 (X.g hk2) rfl ?_
    rw [hN.g hk2 (f := 9) (r := 15) (by decide)]
    refine j_iconst C dX6_waitsForAnother_46 (v := 2) (by decide) ?_
    refine j_icmp_ne (tgt := 82) C dX6_waitsForAnother_47 (by decide) (fun h47 => ?_) (fun h47 => ?_)
    · skip
      refine j_iincN C dX6_waitsForAnother_82 rfl (by decide) rfl ?_
      refine j_goto (tgt := 17) C dX6_waitsForAnother_85 (by decide) ?_
      refine J.le ?_ (ih (by omega) N1 k0 z hN X hF hn hk0 (fun o ho => ?_))
      · exact ⟨rfl, rfl, rfl, rfl, trivial⟩
      · rcases Nat.lt_succ_iff_lt_or_eq.mp ho with q | q
        · exact hall o q
        · rw [q]; exact fun q => h47 q.2.1
    · replace h47 := Decidable.not_not.mp h47
      refine j_aload C dX6_waitsForAnother_50 rfl ?_
      refine j_getI C fl_X6_180 dX6_waitsForAnother_52 (X.g hk2) rfl ?_
      rw [hN.g hk2 (f := 10) (r := 16) (by decide)]
      refine j_aload_n C dX6_waitsForAnother_55 rfl ?_
      refine j_getI C fl_X6_180 dX6_waitsForAnother_56 (X.g ha) rfl ?_
      rw [hN.g ha (f := 10) (r := 16) (by decide)]
      refine j_icmp_ne (tgt := 82) C dX6_waitsForAnother_59 (by decide) (fun h59 => ?_) (fun h59 => ?_)
      · skip
        refine j_iincN C dX6_waitsForAnother_82 rfl (by decide) rfl ?_
        refine j_goto (tgt := 17) C dX6_waitsForAnother_85 (by decide) ?_
        refine J.le ?_ (ih (by omega) N1 k0 z hN X hF hn hk0 (fun o ho => ?_))
        · exact ⟨rfl, rfl, rfl, rfl, trivial⟩
        · rcases Nat.lt_succ_iff_lt_or_eq.mp ho with q | q
          · exact hall o q
          · rw [q]; exact fun q => h59 q.2.2.1
      · replace h59 := Decidable.not_not.mp h59
        refine j_aload_n C dX6_waitsForAnother_62 rfl ?_
        refine j_getR (j := 110) C fl_X6_45 dX6_waitsForAnother_63 (X.c (by decide)) rfl (X.r (by decide)) ?_
        refine j_aload C dX6_waitsForAnother_66 rfl ?_
        refine j_callV1V C ml_X6_177 dX6_waitsForAnother_68 (cX_lookAtOther hg (T := 110) (A := 114) (X.c (by decide)) (X.r (by decide)) (X.a (by decide)) (X.g hk2)) (by rw [X.c (i := 110) (c := 4) (by decide)]; exact ⟨by decide, rfl⟩) ⟨Nat.le_of_ble_eq_true rfl, Nat.le_of_ble_eq_true rfl⟩ (Nat.le_of_ble_eq_true rfl) ⟨rfl, rfl⟩ ⟨Nat.zero_le _, Nat.zero_le _⟩ ?_
        obtain ⟨hFn, hEn⟩ := tell_rows (lookO_rows N1 (1000 + k))
        replace hn := NMQ.other hN hk2 hn hk0
        replace hN := hN.cg X.nG8 X.nB3 X.nV3 hEn (fun _ _ => rfl)
        replace X := X.fr hFn
        replace hF := hF.trans hFn
        clear hEn hFn
        obtain ⟨N2, eN⟩ : ∃ N2, N2 = xLookO N1 114 (1000 + k) := ⟨_, rfl⟩
        rw [← eN] at hn hN X hF
        rw [← eN]
        clear eN
        refine j_aload_n C dX6_waitsForAnother_71 rfl ?_
        refine j_iconst C dX6_waitsForAnother_72 (v := 2) (by decide) ?_
        refine j_iload_n C dX6_waitsForAnother_73 rfl ?_
        have er : sv T 2 (mKnown T 2 rr nV) (fun w => mValue T w 2 (nI a) (nI k)) = mSays T 2 (nI a) (nI k) := by
          rw [mSays_sv, ea, hrr, show tn (nI rr) = rr from nI_clamp (by have := hI.1.2.2.2.1.2; omega), hI.v38, show tn (nI nV) = nV from nI_clamp (by have := X.nV3; omega)]
        refine j_callV2Ig C ml_X6_183 dX6_waitsForAnother_74 (cX_workedOut hg X hN hI hX (by decide) (kn_cases T 2 rr nV) hn) ⟨by rw [X.c (i := 100) (c := 6) (by decide)]; decide, by rw [X.c (i := 100) (c := 6) (by decide)]; rfl⟩ ⟨Nat.le_of_ble_eq_true rfl, Nat.le_of_ble_eq_true rfl⟩ (Nat.le_of_ble_eq_true rfl) ⟨rfl, rfl⟩ ⟨Nat.zero_le _, Nat.zero_le _⟩ (fun q sh1 N9 hq => ?_)
        obtain ⟨q1, q2, ρ, q3⟩ := hq
        rw [er] at q2
        subst q1
        subst q2
        obtain ⟨hFn, hEn⟩ := tell_rows (sr_rows N2 ρ)
        replace hn := hn.sr ρ
        replace hN := hN.cg X.nG8 X.nB3 X.nV3 hEn (fun _ _ => rfl)
        replace X := X.fr hFn
        replace hF := hF.trans hFn
        clear hEn hFn
        subst q3
        obtain ⟨N3, eN⟩ : ∃ N3, N3 = sr N2 115 ρ := ⟨_, rfl⟩
        rw [← eN] at hn hN X hF
        rw [← eN]
        clear eN
        refine j_if_le (tgt := 82) C dX6_waitsForAnother_77 (by decide) (fun h77 => ?_) (fun h77 => ?_)
        · skip
          refine j_iincN C dX6_waitsForAnother_82 rfl (by decide) rfl ?_
          refine j_goto (tgt := 17) C dX6_waitsForAnother_85 (by decide) ?_
          refine J.le ?_ (ih (by omega) N3 2 (nI k) hN X hF hn (by decide) (fun o ho => ?_))
          · exact ⟨rfl, rfl, rfl, rfl, trivial⟩
          · rcases Nat.lt_succ_iff_lt_or_eq.mp ho with q | q
            · exact hall o q
            · rw [q]; exact fun q => absurd q.2.2.2 (Int32.not_lt.mpr h77)
        · skip
          refine j_iconst C dX6_waitsForAnother_80 (v := 1) (by decide) ?_
          refine j_iret C dX6_waitsForAnother_81 rfl ⟨rfl, (pb_t (fun q => q k hk2 ⟨fun z1 => ?_, h47, h59, Int32.not_le.mp h77⟩)).symm, hN, hF⟩
          rw [z1, hs] at h47
          exact absurd h47 (by decide)
