/-! ===== THE CLASS: more public methods ===== -/

theorem cX_bid {l : Launch} {g : WGp} (hg : GOK g) {sh : WSh} {N : WNm} {o : Nat → Nat} {nG nB nV kG kB kV : Nat} {ln : Nat → Nat} (X : XH o sh N nG nB nV kG kB kV ln) {nT nP dy : Nat} {T : WNm} (hN : XN N T nG nB nV nT ln) (hI : TI T nG nB nV nP dy)  (x p0 c0 : Int32) : CT l g yX6_bid cX6_bid 5 (some .int) (RM 5 0 0) [.ref (sh.2.2 100), .int x, .int p0, .int c0] sh N (QX g sh N nG nB nV nT ln (mBid T x p0 c0)) := by
  refine ent hg (by decide +kernel) (Nat.le_of_ble_eq_true rfl) ?_
  intro p e s m args below meth c C hname
  generalize hRES : mBid T x p0 c0 = RES
  refine j_aload_n C dX6_bid_0 rfl ?_
  refine j_iload_n C dX6_bid_1 rfl ?_
  by_cases hx : 0 ≤ x ∧ x ≤ T 0 9 - 1
  · obtain ⟨ha, e1⟩ := rngT hx hI.g9 (Nat.le_trans X.nG8 (by decide))
    refine j_callV1RS (x := 1000 + tn x) C ml_X6_86 dX6_bid_2 (cX_galleyOfS hg X (by rw [← hI.g9]; exact hx)) ⟨by rw [X.c (i := 100) (c := 6) (by decide)]; decide, by rw [X.c (i := 100) (c := 6) (by decide)]; rfl⟩ ⟨Nat.le_of_ble_eq_true rfl, Nat.le_of_ble_eq_true rfl⟩ (Nat.le_of_ble_eq_true rfl) ⟨rfl, rfl⟩ ⟨Nat.zero_le _, Nat.zero_le _⟩ ?_
    refine j_astore C dX6_bid_5 (by decide) rfl ?_
    refine j_aload C dX6_bid_7 rfl ?_
    refine j_ifnull C dX6_bid_9 ?_
    refine j_iload_n C dX6_bid_12 rfl ?_
    refine j_callS1I C ml_X6_52 dX6_bid_13 (cX_isPerson hg _) ⟨Nat.le_of_ble_eq_true rfl, Nat.le_of_ble_eq_true rfl⟩ (Nat.le_of_ble_eq_true rfl) ⟨rfl, rfl⟩ ⟨Nat.zero_le _, Nat.zero_le _⟩ ?_
    refine j_if_eq (tgt := 29) C dX6_bid_16 (by decide) (fun h16 => ?_) (fun h16 => ?_)
    · replace h16 := b2_eq0.mp h16
      refine j_iconst C dX6_bid_29 (v := (-1)) (by decide) ?_
      rw [mBid, if_pos hx, if_neg h16] at hRES
      subst hRES
      exact j_iret C dX6_bid_30 rfl ⟨rfl, rfl, hN, FRN.rfl N⟩
    · replace h16 := b2_ne0.mp h16
      refine j_iload_n C dX6_bid_19 rfl ?_
      refine j_iconst C dX6_bid_20 (v := 1) (by decide) ?_
      refine j_ldc C kc_X6_90 dX6_bid_21 ?_
      refine j_callS3I C ml_X6_57 dX6_bid_23 (cX_within hg _ _ _) ⟨Nat.le_of_ble_eq_true rfl, Nat.le_of_ble_eq_true rfl⟩ (Nat.le_of_ble_eq_true rfl) ⟨rfl, rfl⟩ ⟨Nat.zero_le _, Nat.zero_le _⟩ ?_
      refine j_if_ne (tgt := 31) C dX6_bid_26 (by decide) (fun h26 => ?_) (fun h26 => ?_)
      · replace h26 := b2_ne0.mp h26
        refine j_aload C dX6_bid_31 rfl ?_
        refine j_getI C fl_X6_91 dX6_bid_33 (X.g ha) rfl ?_
        rw [hN.g ha (f := 8) (r := 22) (by decide)]
        refine j_if_ne (tgt := 58) C dX6_bid_36 (by decide) (fun h36 => ?_) (fun h36 => ?_)
        · skip
          refine j_bipush C dX6_bid_58 (v := (-2)) (by decide) ?_
          rw [mBid, if_pos hx, if_pos h16, if_pos h26, if_neg h36] at hRES
          subst hRES
          exact j_iret C dX6_bid_60 rfl ⟨rfl, rfl, hN, FRN.rfl N⟩
        · replace h36 := Decidable.not_not.mp h36
          refine j_iload_n C dX6_bid_39 rfl ?_
          refine j_aload C dX6_bid_40 rfl ?_
          refine j_getI C fl_X6_95 dX6_bid_42 (X.g ha) rfl ?_
          rw [hN.g ha (f := 6) (r := 20) (by decide)]
          refine j_icmp_le (tgt := 58) C dX6_bid_45 (by decide) (fun h45 => ?_) (fun h45 => ?_)
          · skip
            refine j_bipush C dX6_bid_58 (v := (-2)) (by decide) ?_
            rw [mBid, if_pos hx, if_pos h16, if_pos h26, if_pos h36, if_pos h45] at hRES
            subst hRES
            exact j_iret C dX6_bid_60 rfl ⟨rfl, rfl, hN, FRN.rfl N⟩
          · skip
            refine j_aload_n C dX6_bid_48 rfl ?_
            refine j_getR (j := 101) C fl_X6_9 dX6_bid_49 (X.c (by decide)) rfl (X.r (by decide)) ?_
            refine j_iload_n C dX6_bid_52 rfl ?_
            refine j_iald C (X.a (i := 101) (n := 10) (by decide)) (inC h16 rfl (by decide)) dX6_bid_53 ?_
            rw [hN.2.1.1]
            refine j_iload_n C dX6_bid_54 rfl ?_
            refine j_icmp_ge (tgt := 61) C dX6_bid_55 (by decide) (fun h55 => ?_) (fun h55 => ?_)
            · skip
              refine j_aload C dX6_bid_61 rfl ?_
              refine j_iload_n C dX6_bid_63 rfl ?_
              refine j_putI C fl_X6_95 dX6_bid_64 (X.g ha) rfl rfl rfl rfl ?_
              refine j_aload C dX6_bid_67 rfl ?_
              refine j_iload_n C dX6_bid_69 rfl ?_
              refine j_putI C fl_X6_98 dX6_bid_70 (X.g ha) rfl rfl rfl rfl ?_
              refine j_iconst C dX6_bid_73 (v := 1) (by decide) ?_
              rw [mBid, if_pos hx, if_pos h16, if_pos h26, if_pos h36, if_neg h45, if_pos h55] at hRES
              subst hRES
              exact j_iret C dX6_bid_74 rfl ⟨rfl, rfl, (hN.gal X.nG8 X.nB3 X.nV3 (f := 6) (r := 20) (by decide) ha _).gal X.nG8 X.nB3 X.nV3 (f := 7) (r := 21) (by decide) ha _, (FRN.u ⟨by omega, by omega⟩).u' ⟨by omega, by omega⟩⟩
            · skip
              refine j_bipush C dX6_bid_58 (v := (-2)) (by decide) ?_
              rw [mBid, if_pos hx, if_pos h16, if_pos h26, if_pos h36, if_neg h45, if_neg h55] at hRES
              subst hRES
              exact j_iret C dX6_bid_60 rfl ⟨rfl, rfl, hN, FRN.rfl N⟩
      · replace h26 := b2_eq0.mp (Decidable.not_not.mp h26)
        refine j_iconst C dX6_bid_29 (v := (-1)) (by decide) ?_
        rw [mBid, if_pos hx, if_pos h16, if_neg h26] at hRES
        subst hRES
        exact j_iret C dX6_bid_30 rfl ⟨rfl, rfl, hN, FRN.rfl N⟩
  · skip
    refine j_callV1RN C ml_X6_86 dX6_bid_2 (cX_galleyOfN hg X (by rw [← hI.g9]; exact hx)) ⟨by rw [X.c (i := 100) (c := 6) (by decide)]; decide, by rw [X.c (i := 100) (c := 6) (by decide)]; rfl⟩ ⟨Nat.le_of_ble_eq_true rfl, Nat.le_of_ble_eq_true rfl⟩ (Nat.le_of_ble_eq_true rfl) ⟨rfl, rfl⟩ ⟨Nat.zero_le _, Nat.zero_le _⟩ ?_
    refine j_astoreN C dX6_bid_5 (by decide) rfl ?_
    refine j_aloadN C dX6_bid_7 rfl ?_
    refine j_ifnullN (tgt := 29) C dX6_bid_9 (by decide) ?_
    refine j_iconst C dX6_bid_29 (v := (-1)) (by decide) ?_
    rw [mBid, if_neg hx] at hRES
    subst hRES
    exact j_iret C dX6_bid_30 rfl ⟨rfl, rfl, hN, FRN.rfl N⟩

theorem cX_start {l : Launch} {g : WGp} (hg : GOK g) {sh : WSh} {N : WNm} {o : Nat → Nat} {nG nB nV kG kB kV : Nat} {ln : Nat → Nat} (X : XH o sh N nG nB nV kG kB kV ln) {nT nP dy : Nat} {T : WNm} (hN : XN N T nG nB nV nT ln) (hI : TI T nG nB nV nP dy)  (x : Int32) : CT l g yX6_start cX6_start 3 (some .int) (RM 5 0 0) [.ref (sh.2.2 100), .int x] sh N (QX g sh N nG nB nV nT ln (mStart T x)) := by
  refine ent hg (by decide +kernel) (Nat.le_of_ble_eq_true rfl) ?_
  intro p e s m args below meth c C hname
  generalize hRES : mStart T x = RES
  refine j_aload_n C dX6_start_0 rfl ?_
  refine j_iload_n C dX6_start_1 rfl ?_
  by_cases hx : 0 ≤ x ∧ x ≤ T 0 9 - 1
  · obtain ⟨ha, e1⟩ := rngT hx hI.g9 (Nat.le_trans X.nG8 (by decide))
    refine j_callV1RS (x := 1000 + tn x) C ml_X6_86 dX6_start_2 (cX_galleyOfS hg X (by rw [← hI.g9]; exact hx)) ⟨by rw [X.c (i := 100) (c := 6) (by decide)]; decide, by rw [X.c (i := 100) (c := 6) (by decide)]; rfl⟩ ⟨Nat.le_of_ble_eq_true rfl, Nat.le_of_ble_eq_true rfl⟩ (Nat.le_of_ble_eq_true rfl) ⟨rfl, rfl⟩ ⟨Nat.zero_le _, Nat.zero_le _⟩ ?_
    refine j_astore_n C dX6_start_5 (by decide) rfl ?_
    refine j_aload_n C dX6_start_6 rfl ?_
    refine j_ifnonnull (tgt := 12) C dX6_start_7 (by decide) ?_
    refine j_aload_n C dX6_start_12 rfl ?_
    refine j_getI C fl_X6_166 dX6_start_13 (X.g ha) rfl ?_
    rw [hN.g ha (f := 9) (r := 15) (by decide)]
    refine j_if_ne (tgt := 27) C dX6_start_16 (by decide) (fun h16 => ?_) (fun h16 => ?_)
    · skip
      refine j_bipush C dX6_start_27 (v := (-2)) (by decide) ?_
      rw [mStart, if_pos hx, if_neg h16] at hRES
      subst hRES
      exact j_iret C dX6_start_29 rfl ⟨rfl, rfl, hN, FRN.rfl N⟩
    · replace h16 := Decidable.not_not.mp h16
      refine j_aload_n C dX6_start_19 rfl ?_
      refine j_getI C fl_X6_66 dX6_start_20 (X.c (by decide)) rfl ?_
      rw [hN.1.2.2.1]
      refine j_iconst C dX6_start_23 (v := 2) (by decide) ?_
      refine j_icmp_ge (tgt := 30) C dX6_start_24 (by decide) (fun h24 => ?_) (fun h24 => ?_)
      · skip
        refine j_aload_n C dX6_start_30 rfl ?_
        refine j_iconst C dX6_start_31 (v := 0) (by decide) ?_
        refine j_aload_n C dX6_start_32 rfl ?_
        refine j_getI C fl_X6_122 dX6_start_33 (X.c (by decide)) rfl ?_
        rw [hN.1.2.2.2]
        refine j_callV2V C ml_X6_186 dX6_start_36 (cX_comeTo hg (X.g ha) _ _) (by rw [X.g ha]; exact ⟨by decide, rfl⟩) ⟨Nat.le_of_ble_eq_true rfl, Nat.le_of_ble_eq_true rfl⟩ (Nat.le_of_ble_eq_true rfl) ⟨rfl, rfl⟩ ⟨Nat.zero_le _, Nat.zero_le _⟩ ?_
        refine j_iconst C dX6_start_39 (v := 1) (by decide) ?_
        rw [mStart, if_pos hx, if_pos h16, if_pos h24] at hRES
        subst hRES
        refine j_iret C dX6_start_40 rfl ⟨rfl, rfl, ?_, (((FRN.u ⟨by omega, by omega⟩).u' ⟨by omega, by omega⟩).u' ⟨by omega, by omega⟩).u' ⟨by omega, by omega⟩⟩
        have z := (((hN.gal X.nG8 X.nB3 X.nV3 (f := 9) (r := 15) (by decide) ha 1).gal X.nG8 X.nB3 X.nV3 (f := 10) (r := 16) (by decide) ha 0).gal X.nG8 X.nB3 X.nV3 (f := 11) (r := 17) (by decide) ha (T 0 1)).gal X.nG8 X.nB3 X.nV3 (f := 12) (r := 18) (by decide) ha 0
        rw [show u2 (u2 (u2 (u2 T 15 (tn x) 1) 16 (tn x) 0) 17 (tn x) (T 0 1)) 18 (tn x) 0 = u2 (u2 (u2 T 15 (tn x) 1) 16 (tn x) 0) 17 (tn x) (T 0 1) from by
          funext i j
          by_cases e : i = 18 ∧ j = tn x
          · obtain ⟨e2, e3⟩ := e
            subst e2
            subst e3
            rw [u2_eq, u2_row (by decide), u2_row (by decide), u2_row (by decide)]
            exact ((hI.2.1 _ ha).2.2.2.2 h16).symm
          · exact u2_ne e] at z
        exact z
      · skip
        refine j_bipush C dX6_start_27 (v := (-2)) (by decide) ?_
        rw [mStart, if_pos hx, if_pos h16, if_neg h24] at hRES
        subst hRES
        exact j_iret C dX6_start_29 rfl ⟨rfl, rfl, hN, FRN.rfl N⟩
  · skip
    refine j_callV1RN C ml_X6_86 dX6_start_2 (cX_galleyOfN hg X (by rw [← hI.g9]; exact hx)) ⟨by rw [X.c (i := 100) (c := 6) (by decide)]; decide, by rw [X.c (i := 100) (c := 6) (by decide)]; rfl⟩ ⟨Nat.le_of_ble_eq_true rfl, Nat.le_of_ble_eq_true rfl⟩ (Nat.le_of_ble_eq_true rfl) ⟨rfl, rfl⟩ ⟨Nat.zero_le _, Nat.zero_le _⟩ ?_
    refine j_astore_nN C dX6_start_5 (by decide) rfl ?_
    refine j_aload_nN C dX6_start_6 rfl ?_
    refine j_ifnonnullN C dX6_start_7 ?_
    refine j_iconst C dX6_start_10 (v := (-1)) (by decide) ?_
    rw [mStart, if_neg hx] at hRES
    subst hRES
    exact j_iret C dX6_start_11 rfl ⟨rfl, rfl, hN, FRN.rfl N⟩

theorem cX_ship {l : Launch} {g : WGp} (hg : GOK g) {sh : WSh} {N : WNm} {o : Nat → Nat} {nG nB nV kG kB kV : Nat} {ln : Nat → Nat} (X : XH o sh N nG nB nV kG kB kV ln) {nT nP dy : Nat} {T : WNm} (hN : XN N T nG nB nV nT ln) (hI : TI T nG nB nV nP dy)  (x w0 : Int32) : CT l g yX6_ship cX6_ship 4 (some .int) (RM 5 0 0) [.ref (sh.2.2 100), .int x, .int w0] sh N (QX g sh N nG nB nV nT ln (mShip T x w0)) := by
  refine ent hg (by decide +kernel) (Nat.le_of_ble_eq_true rfl) ?_
  intro p e s m args below meth c C hname
  generalize hRES : mShip T x w0 = RES
  refine j_aload_n C dX6_ship_0 rfl ?_
  refine j_iload_n C dX6_ship_1 rfl ?_
  by_cases hx : 0 ≤ x ∧ x ≤ T 0 9 - 1
  · obtain ⟨ha, e1⟩ := rngT hx hI.g9 (Nat.le_trans X.nG8 (by decide))
    refine j_callV1RS (x := 1000 + tn x) C ml_X6_86 dX6_ship_2 (cX_galleyOfS hg X (by rw [← hI.g9]; exact hx)) ⟨by rw [X.c (i := 100) (c := 6) (by decide)]; decide, by rw [X.c (i := 100) (c := 6) (by decide)]; rfl⟩ ⟨Nat.le_of_ble_eq_true rfl, Nat.le_of_ble_eq_true rfl⟩ (Nat.le_of_ble_eq_true rfl) ⟨rfl, rfl⟩ ⟨Nat.zero_le _, Nat.zero_le _⟩ ?_
    refine j_astore_n C dX6_ship_5 (by decide) rfl ?_
    refine j_aload_n C dX6_ship_6 rfl ?_
    refine j_ifnonnull (tgt := 15) C dX6_ship_7 (by decide) ?_
    refine j_aload_n C dX6_ship_15 rfl ?_
    refine j_iload_n C dX6_ship_16 rfl ?_
    refine j_callV1I C ml_X6_209 dX6_ship_17 (cX_gtell hg (X.g ha) _) (by rw [X.g ha]; exact ⟨by decide, rfl⟩) ⟨Nat.le_of_ble_eq_true rfl, Nat.le_of_ble_eq_true rfl⟩ (Nat.le_of_ble_eq_true rfl) ⟨rfl, rfl⟩ ⟨Nat.zero_le _, Nat.zero_le _⟩ ?_
    skip
    have em : mShip T x w0 = (xGTell N (1000 + tn x) w0, T) := by
      unfold mShip xGTell
      rw [if_pos hx]
      rw [hN.g ha (f := 9) (r := 15) (by decide)]
      rw [hN.g ha (f := 10) (r := 16) (by decide)]
      rw [hN.g ha (f := 11) (r := 17) (by decide)]
      rw [hN.g ha (f := 12) (r := 18) (by decide)]
      rw [hN.g ha (f := 17) (r := 19) (by decide)]
      rw [hN.g ha (f := 6) (r := 20) (by decide)]
      rw [hN.g ha (f := 8) (r := 22) (by decide)]
      obtain ⟨z1, z2, z3, -⟩ := hN.2.2.2.2.1 (tn x) ha
      rw [← e1] at z1 z2 z3
      rw [z1, z2, z3, hI.b23, show tn (nI nB) = nB from nI_clamp (by have := X.nB3; omega)]
      by_cases q0 : w0 = 0
      · rw [if_pos q0, if_pos q0]
      rw [if_neg q0, if_neg q0]
      by_cases q1 : w0 = 1
      · rw [if_pos q1, if_pos q1]
      rw [if_neg q1, if_neg q1]
      by_cases q2 : w0 = 2
      · rw [if_pos q2, if_pos q2]
      rw [if_neg q2, if_neg q2]
      by_cases q3 : w0 = 3
      · rw [if_pos q3, if_pos q3]
      rw [if_neg q3, if_neg q3]
      by_cases q4 : w0 = 4
      · rw [if_pos q4, if_pos q4]
      rw [if_neg q4, if_neg q4]
      by_cases q5 : w0 = 5
      · rw [if_pos q5, if_pos q5]
      rw [if_neg q5, if_neg q5]
      by_cases q6 : w0 = 6
      · rw [if_pos q6, if_pos q6]
      rw [if_neg q6, if_neg q6]
      by_cases q7 : w0 = 7
      · rw [if_pos q7, if_pos q7]
      rw [if_neg q7, if_neg q7]
      by_cases q8 : w0 = 8
      · rw [if_pos q8, if_pos q8]
      rw [if_neg q8, if_neg q8]
      by_cases q9 : w0 = 9
      · rw [if_pos q9, if_pos q9]
      rw [if_neg q9, if_neg q9]
    rw [em] at hRES
    subst hRES
    exact j_iret C dX6_ship_20 rfl ⟨rfl, rfl, hN, FRN.rfl N⟩
  · skip
    refine j_callV1RN C ml_X6_86 dX6_ship_2 (cX_galleyOfN hg X (by rw [← hI.g9]; exact hx)) ⟨by rw [X.c (i := 100) (c := 6) (by decide)]; decide, by rw [X.c (i := 100) (c := 6) (by decide)]; rfl⟩ ⟨Nat.le_of_ble_eq_true rfl, Nat.le_of_ble_eq_true rfl⟩ (Nat.le_of_ble_eq_true rfl) ⟨rfl, rfl⟩ ⟨Nat.zero_le _, Nat.zero_le _⟩ ?_
    refine j_astore_nN C dX6_ship_5 (by decide) rfl ?_
    refine j_aload_nN C dX6_ship_6 rfl ?_
    refine j_ifnonnullN C dX6_ship_7 ?_
    refine j_bipush C dX6_ship_10 (v := (-2)) (by decide) ?_
    refine j_goto (tgt := 20) C dX6_ship_12 (by decide) ?_
    skip
    rw [mShip, if_neg hx] at hRES
    subst hRES
    exact j_iret C dX6_ship_20 rfl ⟨rfl, rfl, hN, FRN.rfl N⟩

theorem cX_about {l : Launch} {g : WGp} (hg : GOK g) {sh : WSh} {N : WNm} {o : Nat → Nat} {nG nB nV kG kB kV : Nat} {ln : Nat → Nat} (X : XH o sh N nG nB nV kG kB kV ln) {nT nP dy : Nat} {T : WNm} (hN : XN N T nG nB nV nT ln) (hI : TI T nG nB nV nP dy)  (x w0 : Int32) : CT l g yX6_about cX6_about 4 (some .int) (RM 5 0 0) [.ref (sh.2.2 100), .int x, .int w0] sh N (QX g sh N nG nB nV nT ln (mAbout T x w0)) := by
  refine ent hg (by decide +kernel) (Nat.le_of_ble_eq_true rfl) ?_
  intro p e s m args below meth c C hname
  generalize hRES : mAbout T x w0 = RES
  refine j_aload_n C dX6_about_0 rfl ?_
  refine j_iload_n C dX6_about_1 rfl ?_
  by_cases hx : 0 ≤ x ∧ x ≤ T 0 23 - 1
  · obtain ⟨hb, e1⟩ := rngT hx hI.b23 X.nB3
    refine j_callV1RS (x := 2000 + tn x) C ml_X6_126 dX6_about_2 (cX_baleOfS hg X (by rw [← hI.b23]; exact hx)) ⟨by rw [X.c (i := 100) (c := 6) (by decide)]; decide, by rw [X.c (i := 100) (c := 6) (by decide)]; rfl⟩ ⟨Nat.le_of_ble_eq_true rfl, Nat.le_of_ble_eq_true rfl⟩ (Nat.le_of_ble_eq_true rfl) ⟨rfl, rfl⟩ ⟨Nat.zero_le _, Nat.zero_le _⟩ ?_
    refine j_astore_n C dX6_about_5 (by decide) rfl ?_
    refine j_aload_n C dX6_about_6 rfl ?_
    refine j_ifnonnull (tgt := 14) C dX6_about_7 (by decide) ?_
    refine j_aload_n C dX6_about_14 rfl ?_
    refine j_iload_n C dX6_about_15 rfl ?_
    refine j_callV1I C ml_X6_130 dX6_about_16 (cX_btell hg (X.b hb) _) (by rw [X.b hb]; exact ⟨by decide, rfl⟩) ⟨Nat.le_of_ble_eq_true rfl, Nat.le_of_ble_eq_true rfl⟩ (Nat.le_of_ble_eq_true rfl) ⟨rfl, rfl⟩ ⟨Nat.zero_le _, Nat.zero_le _⟩ ?_
    have em : mAbout T x w0 = (xBTell N (2000 + tn x) w0, T) := by
      unfold mAbout xBTell
      rw [if_pos hx]
      rw [show N (2000 + tn x) 0 = T 25 (tn x) from hN.b hb (f := 0) (by decide)]
      rw [show N (2000 + tn x) 1 = T 26 (tn x) from hN.b hb (f := 1) (by decide)]
      rw [show N (2000 + tn x) 2 = T 27 (tn x) from hN.b hb (f := 2) (by decide)]
      rw [show N (2000 + tn x) 3 = T 28 (tn x) from hN.b hb (f := 3) (by decide)]
      rw [show N (2000 + tn x) 4 = T 29 (tn x) from hN.b hb (f := 4) (by decide)]
      rw [show N (2000 + tn x) 5 = T 30 (tn x) from hN.b hb (f := 5) (by decide)]
      rw [show N (2000 + tn x) 6 = T 31 (tn x) from hN.b hb (f := 6) (by decide)]
      rw [show N (2000 + tn x) 7 = T 32 (tn x) from hN.b hb (f := 7) (by decide)]
      rw [show N (2000 + tn x) 8 = T 33 (tn x) from hN.b hb (f := 8) (by decide)]
      rw [show N (2000 + tn x) 9 = T 34 (tn x) from hN.b hb (f := 9) (by decide)]
      rw [show N (2000 + tn x) 10 = T 35 (tn x) from hN.b hb (f := 10) (by decide)]
      rw [show N (2000 + tn x) 11 = T 36 (tn x) from hN.b hb (f := 11) (by decide)]
      by_cases q0 : w0 = 0
      · rw [if_pos q0, if_pos q0]
      rw [if_neg q0, if_neg q0]
      by_cases q1 : w0 = 1
      · rw [if_pos q1, if_pos q1]
      rw [if_neg q1, if_neg q1]
      by_cases q2 : w0 = 2
      · rw [if_pos q2, if_pos q2]
      rw [if_neg q2, if_neg q2]
      by_cases q3 : w0 = 3
      · rw [if_pos q3, if_pos q3]
      rw [if_neg q3, if_neg q3]
      by_cases q4 : w0 = 4
      · rw [if_pos q4, if_pos q4]
      rw [if_neg q4, if_neg q4]
      by_cases q5 : w0 = 5
      · rw [if_pos q5, if_pos q5]
      rw [if_neg q5, if_neg q5]
      by_cases q6 : w0 = 6
      · rw [if_pos q6, if_pos q6]
      rw [if_neg q6, if_neg q6]
      by_cases q7 : w0 = 7
      · rw [if_pos q7, if_pos q7]
      rw [if_neg q7, if_neg q7]
      by_cases q8 : w0 = 8
      · rw [if_pos q8, if_pos q8]
      rw [if_neg q8, if_neg q8]
      by_cases q9 : w0 = 9
      · rw [if_pos q9, if_pos q9]
      rw [if_neg q9, if_neg q9]
      by_cases q10 : w0 = 10
      · rw [if_pos q10, if_pos q10]
      rw [if_neg q10, if_neg q10]
      by_cases q11 : w0 = 11
      · rw [if_pos q11, if_pos q11]
      rw [if_neg q11, if_neg q11]
    rw [em] at hRES
    subst hRES
    exact j_iret C dX6_about_19 rfl ⟨rfl, rfl, hN, FRN.rfl N⟩
  · skip
    refine j_callV1RN C ml_X6_126 dX6_about_2 (cX_baleOfN hg X (by rw [← hI.b23]; exact hx)) ⟨by rw [X.c (i := 100) (c := 6) (by decide)]; decide, by rw [X.c (i := 100) (c := 6) (by decide)]; rfl⟩ ⟨Nat.le_of_ble_eq_true rfl, Nat.le_of_ble_eq_true rfl⟩ (Nat.le_of_ble_eq_true rfl) ⟨rfl, rfl⟩ ⟨Nat.zero_le _, Nat.zero_le _⟩ ?_
    refine j_astore_nN C dX6_about_5 (by decide) rfl ?_
    refine j_aload_nN C dX6_about_6 rfl ?_
    refine j_ifnonnullN C dX6_about_7 ?_
    refine j_iconst C dX6_about_10 (v := (-1)) (by decide) ?_
    refine j_goto (tgt := 19) C dX6_about_11 (by decide) ?_
    rw [mAbout, if_neg hx] at hRES
    subst hRES
    exact j_iret C dX6_about_19 rfl ⟨rfl, rfl, hN, FRN.rfl N⟩

theorem in11 {x : Int32} (h : 0 ≤ x ∧ x ≤ 9) : vp_in x 11 := by
  obtain ⟨k, hk, e1, e2⟩ := rngC (n := 10) h rfl (by decide)
  rw [e1]; exact vp_inN (by omega) (by decide)
theorem tn10 {x : Int32} (h : 0 ≤ x ∧ x ≤ 9) : tn x < 10 ∧ x = nI (tn x) := by
  obtain ⟨k, hk, e1, e2⟩ := rngC (n := 10) h rfl (by decide)
  rw [e2]; exact ⟨hk, e1⟩
theorem ixx {x y : Int32} {a b : Nat} (hx : x = nI a) (hy : y = nI b) (ha : a < 8) (hb : b < 10) : tn (10 * x + y) = 10 * a + b := by
  rw [hx, hy, ix10]; exact nI_clamp (by omega)
theorem XN.p {N T : WNm} {nG nB nV nT a p : Nat} {ln : Nat → Nat} (h : XN N T nG nB nV nT ln) (ha : a < nG) (hp : p < 10) : N (1100 + a) p = T 23 (10 * a + p) := (h.2.2.2.1 a ha).1 p hp
theorem not_neg {x : Int32} (h : 0 ≤ x ∧ x ≤ 9) : ¬ x < 0 := fun z => Int32.lt_irrefl (Int32.lt_of_lt_of_le z h.1)

theorem cX_parts {l : Launch} {g : WGp} (hg : GOK g) {sh : WSh} {N : WNm} {o : Nat → Nat} {nG nB nV kG kB kV : Nat} {ln : Nat → Nat} (X : XH o sh N nG nB nV kG kB kV ln) {nT nP dy : Nat} {T : WNm} (hN : XN N T nG nB nV nT ln) (hI : TI T nG nB nV nP dy)  (x p0 : Int32) : CT l g yX6_parts cX6_parts 4 (some .int) (RM 5 0 0) [.ref (sh.2.2 100), .int x, .int p0] sh N (QX g sh N nG nB nV nT ln (mParts T x p0)) := by
  refine ent hg (by decide +kernel) (Nat.le_of_ble_eq_true rfl) ?_
  intro p e s m args below meth c C hname
  generalize hRES : mParts T x p0 = RES
  refine j_aload_n C dX6_parts_0 rfl ?_
  refine j_iload_n C dX6_parts_1 rfl ?_
  by_cases hx : 0 ≤ x ∧ x ≤ T 0 9 - 1
  · obtain ⟨ha, e1⟩ := rngT hx hI.g9 (Nat.le_trans X.nG8 (by decide))
    refine j_callV1RS (x := 1000 + tn x) C ml_X6_86 dX6_parts_2 (cX_galleyOfS hg X (by rw [← hI.g9]; exact hx)) ⟨by rw [X.c (i := 100) (c := 6) (by decide)]; decide, by rw [X.c (i := 100) (c := 6) (by decide)]; rfl⟩ ⟨Nat.le_of_ble_eq_true rfl, Nat.le_of_ble_eq_true rfl⟩ (Nat.le_of_ble_eq_true rfl) ⟨rfl, rfl⟩ ⟨Nat.zero_le _, Nat.zero_le _⟩ ?_
    refine j_astore_n C dX6_parts_5 (by decide) rfl ?_
    refine j_aload_n C dX6_parts_6 rfl ?_
    refine j_ifnull C dX6_parts_7 ?_
    refine j_iload_n C dX6_parts_10 rfl ?_
    refine j_iconst C dX6_parts_11 (v := (-1)) (by decide) ?_
    refine j_icmp_eq (tgt := 24) C dX6_parts_12 (by decide) (fun h12 => ?_) (fun h12 => ?_)
    · skip
      refine j_aload_n C dX6_parts_24 rfl ?_
      refine j_getR (j := (1100 + tn x)) C fl_X6_108 dX6_parts_25 (X.g ha) rfl (X.gp ha) ?_
      refine j_iload_n C dX6_parts_28 rfl ?_
      refine j_iconst C dX6_parts_29 (v := (-1)) (by decide) ?_
      skip
      refine j_icmp_ne (tgt := 38) C dX6_parts_30 (by decide) (fun h30 => ?_) (fun h30 => ?_)
      · skip
        exact absurd h12 h30
      · replace h30 := Decidable.not_not.mp h30
        refine j_bipush C dX6_parts_33 (v := 10) (by decide) ?_
        refine j_goto (tgt := 39) C dX6_parts_35 (by decide) ?_
        refine j_iald C (X.ga ha) (by first | exact in11 h19 | (unfold vp_in; decide)) dX6_parts_39 ?_
        first
          | (rw [mParts, if_pos hx, if_pos h12, if_pos (show p0 < 0 by rw [h12]; decide)] at hRES
             subst hRES
             refine j_iret C dX6_parts_40 rfl ⟨rfl, ?_, hN, FRN.rfl N⟩
             have z := (hN.2.2.2.1 (tn x) ha).2
             rw [← e1] at z
             exact z)
          | (have hp := tn10 h19
             rw [mParts, if_pos hx, if_neg h12, if_pos h19, if_neg (not_neg h19), ixx e1 hp.2 (by have := X.nG8; omega) hp.1] at hRES
             subst hRES
             exact j_iret C dX6_parts_40 rfl ⟨rfl, hN.p ha hp.1, hN, FRN.rfl N⟩)
    · skip
      refine j_iload_n C dX6_parts_15 rfl ?_
      refine j_callS1I C ml_X6_52 dX6_parts_16 (cX_isPerson hg _) ⟨Nat.le_of_ble_eq_true rfl, Nat.le_of_ble_eq_true rfl⟩ (Nat.le_of_ble_eq_true rfl) ⟨rfl, rfl⟩ ⟨Nat.zero_le _, Nat.zero_le _⟩ ?_
      refine j_if_ne (tgt := 24) C dX6_parts_19 (by decide) (fun h19 => ?_) (fun h19 => ?_)
      · replace h19 := b2_ne0.mp h19
        refine j_aload_n C dX6_parts_24 rfl ?_
        refine j_getR (j := (1100 + tn x)) C fl_X6_108 dX6_parts_25 (X.g ha) rfl (X.gp ha) ?_
        refine j_iload_n C dX6_parts_28 rfl ?_
        refine j_iconst C dX6_parts_29 (v := (-1)) (by decide) ?_
        skip
        refine j_icmp_ne (tgt := 38) C dX6_parts_30 (by decide) (fun h30 => ?_) (fun h30 => ?_)
        · skip
          refine j_iload_n C dX6_parts_38 rfl ?_
          refine j_iald C (X.ga ha) (by first | exact in11 h19 | (unfold vp_in; decide)) dX6_parts_39 ?_
          first
            | (rw [mParts, if_pos hx, if_pos h12, if_pos (show p0 < 0 by rw [h12]; decide)] at hRES
               subst hRES
               refine j_iret C dX6_parts_40 rfl ⟨rfl, ?_, hN, FRN.rfl N⟩
               have z := (hN.2.2.2.1 (tn x) ha).2
               rw [← e1] at z
               exact z)
            | (have hp := tn10 h19
               rw [mParts, if_pos hx, if_neg h12, if_pos h19, if_neg (not_neg h19), ixx e1 hp.2 (by have := X.nG8; omega) hp.1] at hRES
               subst hRES
               exact j_iret C dX6_parts_40 rfl ⟨rfl, hN.p ha hp.1, hN, FRN.rfl N⟩)
        · replace h30 := Decidable.not_not.mp h30
          exact absurd h30 h12
      · replace h19 := b2_eq0.mp (Decidable.not_not.mp h19)
        refine j_iconst C dX6_parts_22 (v := (-1)) (by decide) ?_
        rw [mParts, if_pos hx, if_neg h12, if_neg h19] at hRES
        subst hRES
        exact j_iret C dX6_parts_23 rfl ⟨rfl, rfl, hN, FRN.rfl N⟩
  · skip
    refine j_callV1RN C ml_X6_86 dX6_parts_2 (cX_galleyOfN hg X (by rw [← hI.g9]; exact hx)) ⟨by rw [X.c (i := 100) (c := 6) (by decide)]; decide, by rw [X.c (i := 100) (c := 6) (by decide)]; rfl⟩ ⟨Nat.le_of_ble_eq_true rfl, Nat.le_of_ble_eq_true rfl⟩ (Nat.le_of_ble_eq_true rfl) ⟨rfl, rfl⟩ ⟨Nat.zero_le _, Nat.zero_le _⟩ ?_
    refine j_astore_nN C dX6_parts_5 (by decide) rfl ?_
    refine j_aload_nN C dX6_parts_6 rfl ?_
    refine j_ifnullN (tgt := 22) C dX6_parts_7 (by decide) ?_
    refine j_iconst C dX6_parts_22 (v := (-1)) (by decide) ?_
    rw [mParts, if_neg hx] at hRES
    subst hRES
    exact j_iret C dX6_parts_23 rfl ⟨rfl, rfl, hN, FRN.rfl N⟩
