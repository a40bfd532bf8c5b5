/-! ===== THE CLASS: port, feed ===== -/
theorem XN.port3 {N T : WNm} {nG nB nV nT : Nat} {ln : Nat → Nat} (h : XN N T nG nB nV nT ln) (hG : nG ≤ 8) (hB : nB ≤ 300) (hV : nV ≤ 30) (x y : Int32) (hy : y = if T 0 5 = 0 then 0 else mPort1 T x 8 (tn (T 0 5 - 1)) + x) : XN (u2 (u2 (u2 N 102 (tn (T 0 5)) x) 103 (tn (T 0 5)) y) 100 5 (u2 (u2 N 102 (tn (T 0 5)) x) 103 (tn (T 0 5)) y 100 5 + 1)) (mPort3 T x) nG nB nV nT ln := by
  rw [u2_row (i := 103) (by decide), u2_row (i := 102) (by decide), h.1.2.2.1]
  unfold mPort3 mPort2
  rw [← hy]
  exact ((h.leg hG hB hV _ _).far hG hB hV _ _).ports hG hB hV _

theorem cX_port {l : Launch} {g : WGp} (hg : GOK g) {sh : WSh} {N : WNm} {o : Nat → Nat} {nG nB nV kG kB kV : Nat} {ln : Nat → Nat} (X : XH o sh N nG nB nV kG kB kV ln) {nT nP dy : Nat} {T : WNm} (hN : XN N T nG nB nV nT ln) (hI : TI T nG nB nV nP dy)  (x : Int32) : CT l g yX6_port cX6_port 4 (some .int) (RM 5 0 0) [.ref (sh.2.2 100), .int x] sh N (QX g sh N nG nB nV nT ln (mPort T x)) := by
  refine ent hg (by decide +kernel) (Nat.le_of_ble_eq_true rfl) ?_
  intro p e s m args below meth c C hname
  generalize hRES : mPort T x = RES
  refine j_aload_n C dX6_port_0 rfl ?_
  refine j_getI C fl_X6_66 dX6_port_1 (X.c (by decide)) rfl ?_
  rw [hN.1.2.2.1]
  refine j_if_ne (tgt := 11) C dX6_port_4 (by decide) (fun h4 => ?_) (fun h4 => ?_)
  · skip
    refine j_iconst C dX6_port_11 (v := 0) (by decide) ?_
    refine j_istore_n C dX6_port_12 (by decide) rfl ?_
    refine j_iload_n C dX6_port_13 rfl ?_
    refine j_if_eq (tgt := 24) C dX6_port_14 (by decide) (fun h14 => ?_) (fun h14 => ?_)
    · skip
      refine j_iload_n C dX6_port_24 rfl ?_
      refine j_iconst C dX6_port_25 (v := 1) (by decide) ?_
      refine j_bipush C dX6_port_26 (v := 9) (by decide) ?_
      refine j_callS3I C ml_X6_57 dX6_port_28 (cX_within hg _ _ _) ⟨Nat.le_of_ble_eq_true rfl, Nat.le_of_ble_eq_true rfl⟩ (Nat.le_of_ble_eq_true rfl) ⟨rfl, rfl⟩ ⟨Nat.zero_le _, Nat.zero_le _⟩ ?_
      refine j_if_ne (tgt := 36) C dX6_port_31 (by decide) (fun h31 => ?_) (fun h31 => ?_)
      · replace h31 := b2_ne0.mp h31
        refine j_aload_n C dX6_port_36 rfl ?_
        refine j_callV0I C ml_X6_69 dX6_port_37 (cX_allAreHome hg X hN hI) (⟨by rw [X.c (i := 100) (c := 6) (by decide)]; decide, by rw [X.c (i := 100) (c := 6) (by decide)]; rfl⟩) ⟨Nat.le_of_ble_eq_true rfl, Nat.le_of_ble_eq_true rfl⟩ (Nat.le_of_ble_eq_true rfl) ⟨rfl, rfl⟩ ⟨Nat.zero_le _, Nat.zero_le _⟩ ?_
        refine j_if_ne (tgt := 46) C dX6_port_40 (by decide) (fun h40 => ?_) (fun h40 => ?_)
        · replace h40 := pb_ne0.mp h40
          refine j_aload_n C dX6_port_46 rfl ?_
          refine j_getI C fl_X6_66 dX6_port_47 (X.c (by decide)) rfl ?_
          rw [hN.1.2.2.1]
          refine j_bipush C dX6_port_50 (v := 12) (by decide) ?_
          refine j_icmp_lt (tgt := 58) C dX6_port_52 (by decide) (fun h52 => ?_) (fun h52 => ?_)
          · skip
            have hnp : nP < 12 := by
              rw [hI.p5, show (12 : Int32) = nI 12 from rfl, n_nlt (by have := hI.1.2.2.2.1.2; omega) (by decide)] at h52
              exact h52
            have hin : vp_in (T 0 5) 12 := by rw [hI.p5]; exact vp_inN hnp (by decide)
            refine j_aload_n C dX6_port_58 rfl ?_
            refine j_getI C fl_X6_66 dX6_port_59 (X.c (by decide)) rfl ?_
            rw [hN.1.2.2.1]
            refine j_istore_n C dX6_port_62 (by decide) rfl ?_
            refine j_aload_n C dX6_port_63 rfl ?_
            refine j_getR (j := 102) C fl_X6_13 dX6_port_64 (X.c (by decide)) rfl (X.r (by decide)) ?_
            refine j_iload_n C dX6_port_67 rfl ?_
            refine j_iload_n C dX6_port_68 rfl ?_
            refine j_iast C (X.a (i := 102) (n := 12) (by decide)) (hin) dX6_port_69 ?_
            refine j_aload_n C dX6_port_70 rfl ?_
            refine j_getR (j := 103) C fl_X6_16 dX6_port_71 (X.c (by decide)) rfl (X.r (by decide)) ?_
            refine j_iload_n C dX6_port_74 rfl ?_
            refine j_iload_n C dX6_port_75 rfl ?_
            refine j_if_eq (tgt := 83) C dX6_port_76 (by decide) (fun h76 => ?_) (fun h76 => ?_)
            · skip
              skip
              refine j_aload_n C dX6_port_83 rfl ?_
              refine j_getR (j := 103) C fl_X6_16 dX6_port_84 (X.c (by decide)) rfl (X.r (by decide)) ?_
              refine j_iload_n C dX6_port_87 rfl ?_
              skip
              refine j_iconst C dX6_port_88 (v := 1) (by decide) ?_
              refine j_isub C dX6_port_89 ?_
              refine j_iald C (X.a (i := 103) (n := 12) (by decide)) (in_pred hI.p5 h4 (Nat.le_of_lt hnp) (by decide)) dX6_port_90 ?_
              refine j_iload_n C dX6_port_91 rfl ?_
              refine j_iadd C dX6_port_92 ?_
              refine j_iast C (X.a (i := 103) (n := 12) (by decide)) (hin) dX6_port_93 ?_
              refine j_aload_n C dX6_port_94 rfl ?_
              refine j_dup C dX6_port_95 rfl ?_
              refine j_getI C fl_X6_66 dX6_port_96 (X.c (by decide)) rfl ?_
              refine j_iconst C dX6_port_99 (v := 1) (by decide) ?_
              refine j_iadd C dX6_port_100 ?_
              refine j_putI C fl_X6_66 dX6_port_101 (X.c (by decide)) rfl rfl rfl rfl ?_
              refine j_iload_n C dX6_port_104 rfl ?_
              rw [mPort] at hRES
              first | rw [if_pos h4, if_pos h18] at hRES | rw [if_neg h4, if_pos h31] at hRES
              rw [mPortOk, hI.g9, show tn (nI nG) = nG from nI_clamp (by have := X.nG8; omega)] at hRES
              rw [if_pos h40, if_neg (show ¬ T 0 5 = 12 from fun z => by
                rw [z] at h52
                exact absurd h52 (by decide))] at hRES
              subst hRES
              have e8 : u2 N 102 (tn (T 0 5)) x 103 (tn (T 0 5 - 1)) = mPort1 T x 8 (tn (T 0 5 - 1)) := by
                unfold mPort1
                rw [u2_row (by decide), u2_row (by decide), hN.2.1.2.2.1]
              exact j_iret C dX6_port_105 rfl ⟨rfl, (Int32.add_sub_cancel _ _).symm, hN.port3 X.nG8 X.nB3 X.nV3 x _ (by first | rw [if_pos h4] | (rw [if_neg h4]; exact congrArg (fun z => z + x) e8)), ((FRN.u ⟨by decide, by decide⟩).u' ⟨by decide, by decide⟩).u' ⟨by decide, by decide⟩⟩
            · exact absurd (by decide) h76
          · skip
            refine j_bipush C dX6_port_55 (v := (-3)) (by decide) ?_
            rw [mPort] at hRES
            first | rw [if_pos h4, if_pos h18] at hRES | rw [if_neg h4, if_pos h31] at hRES
            rw [mPortOk, hI.g9, show tn (nI nG) = nG from nI_clamp (by have := X.nG8; omega)] at hRES
            rw [if_pos h40, if_pos (show T 0 5 = 12 by
              have h5 := hI.1.2.2.2.1
              rw [hI.p5, show (12 : Int32) = nI 12 from rfl, n_nlt (by omega) (by decide)] at h52
              rw [hI.p5, show nP = 12 by omega]; rfl)] at hRES
            subst hRES
            exact j_iret C dX6_port_57 rfl ⟨rfl, rfl, hN, FRN.rfl N⟩
        · replace h40 := pb_eq0.mp (Decidable.not_not.mp h40)
          refine j_bipush C dX6_port_43 (v := (-2)) (by decide) ?_
          rw [mPort] at hRES
          first | rw [if_pos h4, if_pos h18] at hRES | rw [if_neg h4, if_pos h31] at hRES
          rw [mPortOk, hI.g9, show tn (nI nG) = nG from nI_clamp (by have := X.nG8; omega)] at hRES
          rw [if_neg h40] at hRES
          subst hRES
          exact j_iret C dX6_port_45 rfl ⟨rfl, rfl, hN, FRN.rfl N⟩
      · replace h31 := b2_eq0.mp (Decidable.not_not.mp h31)
        refine j_iconst C dX6_port_34 (v := (-1)) (by decide) ?_
        rw [mPort, if_neg h4, if_neg h31] at hRES
        subst hRES
        exact j_iret C dX6_port_35 rfl ⟨rfl, rfl, hN, FRN.rfl N⟩
    · exact absurd (by decide) h14
  · replace h4 := Decidable.not_not.mp h4
    refine j_iconst C dX6_port_7 (v := 1) (by decide) ?_
    refine j_goto (tgt := 12) C dX6_port_8 (by decide) ?_
    refine j_istore_n C dX6_port_12 (by decide) rfl ?_
    refine j_iload_n C dX6_port_13 rfl ?_
    refine j_if_eq (tgt := 24) C dX6_port_14 (by decide) (fun h14 => ?_) (fun h14 => ?_)
    · exact absurd h14 (by decide)
    · skip
      refine j_iload_n C dX6_port_17 rfl ?_
      refine j_if_eq (tgt := 36) C dX6_port_18 (by decide) (fun h18 => ?_) (fun h18 => ?_)
      · skip
        refine j_aload_n C dX6_port_36 rfl ?_
        refine j_callV0I C ml_X6_69 dX6_port_37 (cX_allAreHome hg X hN hI) (⟨by rw [X.c (i := 100) (c := 6) (by decide)]; decide, by rw [X.c (i := 100) (c := 6) (by decide)]; rfl⟩) ⟨Nat.le_of_ble_eq_true rfl, Nat.le_of_ble_eq_true rfl⟩ (Nat.le_of_ble_eq_true rfl) ⟨rfl, rfl⟩ ⟨Nat.zero_le _, Nat.zero_le _⟩ ?_
        refine j_if_ne (tgt := 46) C dX6_port_40 (by decide) (fun h40 => ?_) (fun h40 => ?_)
        · replace h40 := pb_ne0.mp h40
          refine j_aload_n C dX6_port_46 rfl ?_
          refine j_getI C fl_X6_66 dX6_port_47 (X.c (by decide)) rfl ?_
          rw [hN.1.2.2.1]
          refine j_bipush C dX6_port_50 (v := 12) (by decide) ?_
          refine j_icmp_lt (tgt := 58) C dX6_port_52 (by decide) (fun h52 => ?_) (fun h52 => ?_)
          · skip
            have hnp : nP < 12 := by
              rw [hI.p5, show (12 : Int32) = nI 12 from rfl, n_nlt (by have := hI.1.2.2.2.1.2; omega) (by decide)] at h52
              exact h52
            have hin : vp_in (T 0 5) 12 := by rw [hI.p5]; exact vp_inN hnp (by decide)
            refine j_aload_n C dX6_port_58 rfl ?_
            refine j_getI C fl_X6_66 dX6_port_59 (X.c (by decide)) rfl ?_
            rw [hN.1.2.2.1]
            refine j_istore_n C dX6_port_62 (by decide) rfl ?_
            refine j_aload_n C dX6_port_63 rfl ?_
            refine j_getR (j := 102) C fl_X6_13 dX6_port_64 (X.c (by decide)) rfl (X.r (by decide)) ?_
            refine j_iload_n C dX6_port_67 rfl ?_
            refine j_iload_n C dX6_port_68 rfl ?_
            refine j_iast C (X.a (i := 102) (n := 12) (by decide)) (hin) dX6_port_69 ?_
            refine j_aload_n C dX6_port_70 rfl ?_
            refine j_getR (j := 103) C fl_X6_16 dX6_port_71 (X.c (by decide)) rfl (X.r (by decide)) ?_
            refine j_iload_n C dX6_port_74 rfl ?_
            refine j_iload_n C dX6_port_75 rfl ?_
            refine j_if_eq (tgt := 83) C dX6_port_76 (by decide) (fun h76 => ?_) (fun h76 => ?_)
            · exact absurd h76 (by decide)
            · skip
              refine j_iconst C dX6_port_79 (v := 0) (by decide) ?_
              refine j_goto (tgt := 93) C dX6_port_80 (by decide) ?_
              refine j_iast C (X.a (i := 103) (n := 12) (by decide)) (hin) dX6_port_93 ?_
              refine j_aload_n C dX6_port_94 rfl ?_
              refine j_dup C dX6_port_95 rfl ?_
              refine j_getI C fl_X6_66 dX6_port_96 (X.c (by decide)) rfl ?_
              refine j_iconst C dX6_port_99 (v := 1) (by decide) ?_
              refine j_iadd C dX6_port_100 ?_
              refine j_putI C fl_X6_66 dX6_port_101 (X.c (by decide)) rfl rfl rfl rfl ?_
              refine j_iload_n C dX6_port_104 rfl ?_
              rw [mPort] at hRES
              first | rw [if_pos h4, if_pos h18] at hRES | rw [if_neg h4, if_pos h31] at hRES
              rw [mPortOk, hI.g9, show tn (nI nG) = nG from nI_clamp (by have := X.nG8; omega)] at hRES
              rw [if_pos h40, if_neg (show ¬ T 0 5 = 12 from fun z => by
                rw [z] at h52
                exact absurd h52 (by decide))] at hRES
              subst hRES
              have e8 : u2 N 102 (tn (T 0 5)) x 103 (tn (T 0 5 - 1)) = mPort1 T x 8 (tn (T 0 5 - 1)) := by
                unfold mPort1
                rw [u2_row (by decide), u2_row (by decide), hN.2.1.2.2.1]
              exact j_iret C dX6_port_105 rfl ⟨rfl, (Int32.add_sub_cancel _ _).symm, hN.port3 X.nG8 X.nB3 X.nV3 x _ (by first | rw [if_pos h4] | (rw [if_neg h4]; exact congrArg (fun z => z + x) e8)), ((FRN.u ⟨by decide, by decide⟩).u' ⟨by decide, by decide⟩).u' ⟨by decide, by decide⟩⟩
          · skip
            refine j_bipush C dX6_port_55 (v := (-3)) (by decide) ?_
            rw [mPort] at hRES
            first | rw [if_pos h4, if_pos h18] at hRES | rw [if_neg h4, if_pos h31] at hRES
            rw [mPortOk, hI.g9, show tn (nI nG) = nG from nI_clamp (by have := X.nG8; omega)] at hRES
            rw [if_pos h40, if_pos (show T 0 5 = 12 by
              have h5 := hI.1.2.2.2.1
              rw [hI.p5, show (12 : Int32) = nI 12 from rfl, n_nlt (by omega) (by decide)] at h52
              rw [hI.p5, show nP = 12 by omega]; rfl)] at hRES
            subst hRES
            exact j_iret C dX6_port_57 rfl ⟨rfl, rfl, hN, FRN.rfl N⟩
        · replace h40 := pb_eq0.mp (Decidable.not_not.mp h40)
          refine j_bipush C dX6_port_43 (v := (-2)) (by decide) ?_
          rw [mPort] at hRES
          first | rw [if_pos h4, if_pos h18] at hRES | rw [if_neg h4, if_pos h31] at hRES
          rw [mPortOk, hI.g9, show tn (nI nG) = nG from nI_clamp (by have := X.nG8; omega)] at hRES
          rw [if_neg h40] at hRES
          subst hRES
          exact j_iret C dX6_port_45 rfl ⟨rfl, rfl, hN, FRN.rfl N⟩
      · skip
        refine j_goto (tgt := 34) C dX6_port_21 (by decide) ?_
        refine j_iconst C dX6_port_34 (v := (-1)) (by decide) ?_
        rw [mPort, if_pos h4, if_neg h18] at hRES
        subst hRES
        exact j_iret C dX6_port_35 rfl ⟨rfl, rfl, hN, FRN.rfl N⟩

/-- a byte's eight bits, with and without its sign -/
theorem TB8 : ∀ b : BitVec 8, TB (Int32.ofBitVec (b.setWidth 32)) (Int32.ofBitVec (b.signExtend 32)) := by
  unfold TB
  decide +kernel
theorem tbX (w : BitVec 32) (c : Nat) : (w >>> c) &&& 255#32 = ((w >>> c).setWidth 8).setWidth 32 := by
  apply BitVec.eq_of_toNat_eq
  simp only [BitVec.toNat_and, BitVec.toNat_setWidth]
  have h : (255#32).toNat = 2 ^ 8 - 1 := by decide
  rw [h, Nat.and_two_pow_sub_one_eq_mod]
  omega
theorem tbS {w : BitVec 32} {c : Nat} (hc : c ≤ 24) : (w.sshiftRight c).setWidth 8 = (w >>> c).setWidth 8 := by
  apply BitVec.eq_of_getLsbD_eq
  intro i hi
  rw [BitVec.getLsbD_setWidth, BitVec.getLsbD_setWidth, BitVec.getLsbD_sshiftRight, BitVec.getLsbD_ushiftRight]
  have h1 : c + i < 32 := by omega
  have h2 : ¬ 32 ≤ i := by omega
  simp [h1, h2]
theorem TBk (v : Int32) : ∀ k, k < 4 → TB ((v.toUInt32 >>> ((8 * nI k).toUInt32 &&& Int32.toUInt32 31)).toInt32 &&& 255) ((v >>> (8 * nI k &&& 31)).toInt8.toInt32.toInt8.toInt32) := by
  intro k hk
  have hx : ((v.toUInt32 >>> ((8 * nI k).toUInt32 &&& Int32.toUInt32 31)).toInt32 &&& 255) = Int32.ofBitVec (((v.toBitVec >>> (8 * k)).setWidth 8).setWidth 32) := by
    rw [← tbX]
    apply Int32.toBitVec_inj.mp
    rcases (show k = 0 ∨ k = 1 ∨ k = 2 ∨ k = 3 by omega) with h | h | h | h <;> subst h <;> rfl
  have ht : ((v >>> (8 * nI k &&& 31)).toInt8.toInt32.toInt8.toInt32) = Int32.ofBitVec (((v.toBitVec >>> (8 * k)).setWidth 8).signExtend 32) := by
    rw [← tbS (by omega), show ((v >>> (8 * nI k &&& 31)).toInt8.toInt32.toInt8.toInt32) = (v >>> (8 * nI k &&& 31)).toInt8.toInt32 by simp]
    apply Int32.toBitVec_inj.mp
    show BitVec.signExtend 32 (BitVec.signExtend 8 (v.toBitVec.sshiftRight' ((8 * nI k &&& 31).toBitVec.smod 32))) = BitVec.signExtend 32 (BitVec.setWidth 8 (v.toBitVec.sshiftRight (8 * k)))
    rw [BitVec.signExtend_eq_setWidth_of_le (v.toBitVec.sshiftRight' _) (v := 8) (by decide)]
    rcases (show k = 0 ∨ k = 1 ∨ k = 2 ∨ k = 3 by omega) with h | h | h | h <;> subst h <;> rfl
  rw [hx, ht]
  exact TB8 _
theorem XN.feed {N T : WNm} {nG nB nV nT : Nat} {ln : Nat → Nat} (h : XN N T nG nB nV nT ln) (hG : nG ≤ 8) (hB : nB ≤ 300) (hV : nV ≤ 30) (v : Int32) : ∀ k, k ≤ 4 → nT + k ≤ 200 → XN (xApp N 111 112 v nT k) (mFeedN T v k) nG nB nV (nT + k) ln ∧ FRN N (xApp N 111 112 v nT k)
  | 0, _, _ => ⟨h, FRN.rfl N⟩
  | k + 1, hk, hn => by
    obtain ⟨⟨h0, h1, h2, h3, h4, h5, h6, h7⟩, hF⟩ := XN.feed h hG hB hV v k (by omega) (by omega)
    rw [xApp, mFeedN]
    have et : tn (mFeedN T v k 0 37) = nT + k := by rw [h7.2.2.1]; exact nI_clamp (by omega)
    rw [et]
    refine ⟨⟨h0.cg (by rw [u2_row (by decide), u2_row (by decide)]) (fun j hj => by rw [u2_ne (by omega), u2_row (by decide)]), h1.cg (fun i a b => by rw [u2_row (by omega), u2_row (by omega)]) (fun i a b => by rw [u2_row (by omega), u2_row (by omega)]), h2.cg (fun a ha => by rw [u2_row (by omega), u2_row (by omega)]) (fun i a b => by rw [u2_row (by omega), u2_row (by omega)]), h3.cg (fun a ha => by rw [u2_row (by omega), u2_row (by omega)]) (by rw [u2_row (by decide), u2_row (by decide)]), h4.cg (fun a ha k _ _ => by rw [u2_row (by omega), u2_row (by omega)]) (fun i a b => by rw [u2_row (by omega), u2_row (by omega)]), h5.cg (fun b hb k hk => by rw [u2_row (by omega), u2_row (by omega)]) (fun i a b => by rw [u2_row (by omega), u2_row (by omega)]), h6.cg (fun v hv => ⟨by rw [u2_row (by omega), u2_row (by omega)], by rw [u2_row (by omega), u2_row (by omega)]⟩) (fun i a b => by rw [u2_row (by omega), u2_row (by omega)]), u2_eq _ _ _ _, by omega, ?_, fun j hj => ?_⟩, (hF.u' ⟨by decide, by decide⟩).u' ⟨by decide, by decide⟩⟩
    · rw [u2_eq, h7.2.2.1, nI_1, Nat.add_assoc]
    · rw [u2_row (i := 111) (by decide), u2_row (i := 0) (by decide)]
      by_cases e : j = nT + k
      · subst e; rw [u2_eq, u2_eq]; exact TBk v k (by omega)
      · rw [u2_ne (fun z => e z.2), u2_ne (fun z => e z.2)]; exact h7.2.2.2 j (by omega)

theorem cX_feed {l : Launch} {g : WGp} (hg : GOK g) {sh : WSh} {N : WNm} {o : Nat → Nat} {nG nB nV kG kB kV : Nat} {ln : Nat → Nat} (X : XH o sh N nG nB nV kG kB kV ln) {nT nP dy : Nat} {T : WNm} (hN : XN N T nG nB nV nT ln) (hI : TI T nG nB nV nP dy) (n v : Int32) : CT l g yX6_feed cX6_feed 3 (some .int) (RM 3 0 0) [.ref (sh.2.2 100), .int n, .int v] sh N (QI g (fun r sh1 N1 => sh1 = sh ∧ r = (mFeed T n v).1 ∧ (∃ nT1, XN N1 (mFeed T n v).2 nG nB nV nT1 ln) ∧ FRN N N1)) := by
  refine ent hg (by decide +kernel) (Nat.le_of_ble_eq_true rfl) ?_
  intro p e s m args below meth c C hname
  generalize hRES : mFeed T n v = RES
  refine j_iload_n C dX6_feed_0 rfl ?_
  refine j_iconst C dX6_feed_1 (v := 1) (by decide) ?_
  refine j_iconst C dX6_feed_2 (v := 4) (by decide) ?_
  refine j_callS3I C ml_X6_57 dX6_feed_3 (cX_within hg _ _ _) ⟨Nat.le_of_ble_eq_true rfl, Nat.le_of_ble_eq_true rfl⟩ (Nat.le_of_ble_eq_true rfl) ⟨rfl, rfl⟩ ⟨Nat.zero_le _, Nat.zero_le _⟩ ?_
  refine j_if_ne (tgt := 11) C dX6_feed_6 (by decide) (fun h6 => ?_) (fun h6 => ?_)
  · replace h6 := b2_ne0.mp h6
    refine j_aload_n C dX6_feed_11 rfl ?_
    refine j_getR (j := 109) C fl_X6_38 dX6_feed_12 (X.c (by decide)) rfl (X.r (by decide)) ?_
    refine j_getR (j := 111) C fl_X6_134 dX6_feed_15 (X.c (by decide)) rfl (X.r (by decide)) ?_
    refine j_getI C fl_X6_138 dX6_feed_18 (X.c (by decide)) rfl ?_
    rw [hN.2.2.2.2.2.2.2.1]
    refine j_iload_n C dX6_feed_21 rfl ?_
    refine j_iadd C dX6_feed_22 ?_
    refine j_sipush C dX6_feed_23 (v := 200) (by decide) ?_
    refine j_icmp_le (tgt := 32) C dX6_feed_26 (by decide) (fun h26 => ?_) (fun h26 => ?_)
    · skip
      obtain ⟨q, hq, e1, e2⟩ := rng14 h6
      rw [e1, nI_add, show (200 : Int32) = nI 200 from rfl, n_nle (by have := hN.2.2.2.2.2.2.2.2.1; omega) (by decide)] at h26
      refine j_aload_n C dX6_feed_32 rfl ?_
      refine j_getR (j := 109) C fl_X6_38 dX6_feed_33 (X.c (by decide)) rfl (X.r (by decide)) ?_
      refine j_getR (j := 111) C fl_X6_134 dX6_feed_36 (X.c (by decide)) rfl (X.r (by decide)) ?_
      refine j_iload_n C dX6_feed_39 rfl ?_
      refine j_iload_n C dX6_feed_40 rfl ?_
      rw [e1]
      refine j_callV2V C ml_X6_143 dX6_feed_41 (cX_append hg (Z := 111) (Y := 112) (X.c (by decide)) (X.r (by decide)) (X.a (by decide)) (by decide) hN.2.2.2.2.2.2.2.1 h26 _) ⟨by rw [X.c (i := 111) (c := 3) (by decide)]; decide, by rw [X.c (i := 111) (c := 3) (by decide)]; rfl⟩ ⟨Nat.le_of_ble_eq_true rfl, Nat.le_of_ble_eq_true rfl⟩ (Nat.le_of_ble_eq_true rfl) ⟨rfl, rfl⟩ ⟨Nat.zero_le _, Nat.zero_le _⟩ ?_
      obtain ⟨hN1, hF1⟩ := hN.feed X.nG8 X.nB3 X.nV3 v q hq h26
      obtain ⟨N1, eN1⟩ : ∃ N1, N1 = xApp N 111 112 v nT q := ⟨_, rfl⟩
      rw [← eN1] at hN1 hF1
      rw [← eN1]
      clear eN1
      refine j_aload_n C dX6_feed_44 rfl ?_
      refine j_getR (j := 109) C fl_X6_38 dX6_feed_45 (X.c (by decide)) rfl (X.r (by decide)) ?_
      refine j_getR (j := 111) C fl_X6_134 dX6_feed_48 (X.c (by decide)) rfl (X.r (by decide)) ?_
      refine j_getI C fl_X6_138 dX6_feed_51 (X.c (by decide)) rfl ?_
      rw [hN1.2.2.2.2.2.2.2.1]
      have h26' : T 0 37 + n ≤ 200 := by
        rw [hN.2.2.2.2.2.2.2.2.2.1, e1, nI_add, show (200 : Int32) = nI 200 from rfl, n_nle (by omega) (by decide)]
        exact h26
      rw [mFeed, if_pos h6, if_pos h26', e2] at hRES
      subst hRES
      exact j_iret C dX6_feed_54 rfl ⟨rfl, hN1.2.2.2.2.2.2.2.2.2.1.symm, ⟨_, hN1⟩, hF1⟩
    · skip
      refine j_bipush C dX6_feed_29 (v := (-3)) (by decide) ?_
      rw [← hN.2.2.2.2.2.2.2.2.2.1] at h26
      rw [mFeed, if_pos h6, if_neg h26] at hRES
      subst hRES
      exact j_iret C dX6_feed_31 rfl ⟨rfl, rfl, ⟨_, hN⟩, FRN.rfl N⟩
  · replace h6 := b2_eq0.mp (Decidable.not_not.mp h6)
    refine j_iconst C dX6_feed_9 (v := (-1)) (by decide) ?_
    rw [mFeed, if_neg h6] at hRES
    subst hRES
    exact j_iret C dX6_feed_10 rfl ⟨rfl, rfl, ⟨_, hN⟩, FRN.rfl N⟩
