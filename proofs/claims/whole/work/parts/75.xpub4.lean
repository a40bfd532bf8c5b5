/-! ===== THE CLASS: votes in force, counts, ports ===== -/
theorem kn_eq {d t f : Nat} (hd : d ≤ 2000) (ht : t ≤ 2000) (hf : f ≤ 200) : (nI f ≤ nI d - nI t) ↔ (nI t ≤ nI d - nI f) := by
  rw [i_le, i_le, nI_toInt (by omega), nI_toInt (by omega)]
  have e1 : (nI d - nI t).toInt = (d : Int) - t := by
    rw [Int32.toInt_sub, nI_toInt (by omega), nI_toInt (by omega)]
    exact Int.bmod_eq_of_le (by omega) (by omega)
  have e2 : (nI d - nI f).toInt = (d : Int) - f := by
    rw [Int32.toInt_sub, nI_toInt (by omega), nI_toInt (by omega)]
    exact Int.bmod_eq_of_le (by omega) (by omega)
  rw [e1, e2]
  omega

theorem cX_inForce {l : Launch} {g : WGp} (hg : GOK g) {sh : WSh} {N : WNm} {o : Nat → Nat} {nG nB nV kG kB kV : Nat} {ln : Nat → Nat} (X : XH o sh N nG nB nV kG kB kV ln) {nT nP dy : Nat} {T : WNm} (hN : XN N T nG nB nV nT ln) (hI : TI T nG nB nV nP dy) (k : Int32) {r : Nat} (hr : r < nP) : CT l g yX6_inForce cX6_inForce 5 (some .int) (RM 4 0 0) [.ref (sh.2.2 100), .int k, .int (nI r)] sh N (QF g sh N (mKnown T k r nV)) := by
  refine ent hg (by decide +kernel) (Nat.le_of_ble_eq_true rfl) ?_
  intro p e s m args below meth c C hname
  have hP12 := hI.1.2.2.2.1.2
  have hV3 := X.nV3
  refine j_aload_n C dX6_inForce_0 rfl ?_
  refine j_getR (j := 107) C fl_X6_32 dX6_inForce_1 (X.c (by decide)) rfl (X.r (by decide)) ?_
  refine j_callV0I C ml_X6_73 dX6_inForce_4 (cJ_size hg X.lv.1.1) (⟨by rw [X.lv.1.1]; decide, by rw [X.lv.1.1]; rfl⟩) ⟨Nat.le_of_ble_eq_true rfl, Nat.le_of_ble_eq_true rfl⟩ (Nat.le_of_ble_eq_true rfl) ⟨rfl, rfl⟩ ⟨Nat.zero_le _, Nat.zero_le _⟩ ?_
  rw [X.zV]
  refine j_iconst C dX6_inForce_7 (v := 1) (by decide) ?_
  refine j_isub C dX6_inForce_8 ?_
  refine j_istore_n C dX6_inForce_9 (by decide) rfl ?_
  suffices key : ∀ j, j ≤ nV → mKnown T k r nV = mKnown T k r j → J p l e (RM 4 0 0) s m args below meth c (MQ below (QF g sh N (mKnown T k r nV)) args s 0 0 g.A) g 5 sh N 0 0 10 [some (.ref (sh.2.2 100)), some (.int k), some (.int (nI r)), some (.int (nI j - 1)), none] [] from key nV (Nat.le_refl _) rfl
  intro j
  induction j with
  | zero =>
    intro _ ej
    refine j_iload_n C dX6_inForce_10 rfl ?_
    refine j_if_lt (tgt := 63) C dX6_inForce_11 (by decide) (fun h11 => ?_) (fun h11 => ?_)
    · skip
      refine j_bipush C dX6_inForce_63 (v := (-2)) (by decide) ?_
      exact j_iret C dX6_inForce_65 rfl ⟨rfl, rfl, by rw [ej]; rfl⟩
    · skip
      exact absurd (by decide) h11
  | succ j ih =>
    intro hj ej
    rw [nI_pred]
    refine j_iload_n C dX6_inForce_10 rfl ?_
    refine j_if_lt (tgt := 63) C dX6_inForce_11 (by decide) (fun h11 => ?_) (fun h11 => ?_)
    · skip
      exact absurd h11 (nI_pos (by omega))
    · skip
      have hv := (show j < nV by omega)
      obtain ⟨v1, v2, -⟩ := hN.2.2.2.2.2.2.1 j hv
      obtain ⟨t0, ht0, et0⟩ := hI.2.2.2.2.2.2.1 j hv
      obtain ⟨f0, hf0, ef0⟩ := hI.2.2.2.2.2.1 r hr
      have hd := hI.1.2.2.2.2.1
      refine j_aload_n C dX6_inForce_14 rfl ?_
      refine j_getR (j := 107) C fl_X6_32 dX6_inForce_15 (X.c (by decide)) rfl (X.r (by decide)) ?_
      refine j_iload_n C dX6_inForce_18 rfl ?_
      refine j_callV1RS (x := 3000 + j) C ml_X6_213 dX6_inForce_19 (cX_lget hg X.lv (show j < nV by omega)) ⟨by rw [X.lv.1.1]; decide, by rw [X.lv.1.1]; rfl⟩ ⟨Nat.le_of_ble_eq_true rfl, Nat.le_of_ble_eq_true rfl⟩ (Nat.le_of_ble_eq_true rfl) ⟨rfl, rfl⟩ ⟨Nat.zero_le _, Nat.zero_le _⟩ ?_
      refine j_cast C cl_X6_153 (X.v (show j < nV by omega)) dX6_inForce_22 ?_
      refine j_astore C dX6_inForce_25 (by decide) rfl ?_
      refine j_aload C dX6_inForce_27 rfl ?_
      refine j_getI C fl_X6_218 dX6_inForce_29 (X.v (show j < nV by omega)) rfl ?_
      rw [v1]
      refine j_iload_n C dX6_inForce_32 rfl ?_
      refine j_icmp_ne (tgt := 57) C dX6_inForce_33 (by decide) (fun h33 => ?_) (fun h33 => ?_)
      · skip
        refine j_iinc C dX6_inForce_57 rfl (dec1 _) (by decide) rfl ?_
        refine j_goto (tgt := 10) C dX6_inForce_60 (by decide) ?_
        exact J.le (lv1 := [some (.ref (sh.2.2 100)), some (.int k), some (.int (nI r)), some (.int (nI j - 1)), none]) ⟨rfl, rfl, rfl, rfl, trivial⟩ (ih (by omega) (by rw [ej, mKnown, if_neg]; intro z; first | exact h33 z.1 | (rw [hd.1, et0, ef0] at h52; rw [hd.1, et0, ef0] at z; exact absurd ((kn_eq hd.2 ht0 (by omega)).mpr z.2) (i_nle.mpr h52))))
      · replace h33 := Decidable.not_not.mp h33
        refine j_aload_n C dX6_inForce_36 rfl ?_
        refine j_getI C fl_X6_122 dX6_inForce_37 (X.c (by decide)) rfl ?_
        rw [hN.1.2.2.2]
        refine j_aload C dX6_inForce_40 rfl ?_
        refine j_getI C fl_X6_221 dX6_inForce_42 (X.v (show j < nV by omega)) rfl ?_
        rw [v2]
        refine j_isub C dX6_inForce_45 ?_
        refine j_aload_n C dX6_inForce_46 rfl ?_
        refine j_getR (j := 103) C fl_X6_16 dX6_inForce_47 (X.c (by decide)) rfl (X.r (by decide)) ?_
        refine j_iload_n C dX6_inForce_50 rfl ?_
        refine j_ialdN C (X.a (i := 103) (n := 12) (by decide)) (⟨by omega, by decide⟩) dX6_inForce_51 ?_
        rw [hN.2.1.2.2.1]
        refine j_icmp_lt (tgt := 57) C dX6_inForce_52 (by decide) (fun h52 => ?_) (fun h52 => ?_)
        · skip
          refine j_iinc C dX6_inForce_57 rfl (dec1 _) (by decide) rfl ?_
          refine j_goto (tgt := 10) C dX6_inForce_60 (by decide) ?_
          exact J.le (lv1 := [some (.ref (sh.2.2 100)), some (.int k), some (.int (nI r)), some (.int (nI j - 1)), none]) ⟨rfl, rfl, rfl, rfl, trivial⟩ (ih (by omega) (by rw [ej, mKnown, if_neg]; intro z; first | exact h33 z.1 | (rw [hd.1, et0, ef0] at h52; rw [hd.1, et0, ef0] at z; exact absurd ((kn_eq hd.2 ht0 (by omega)).mpr z.2) (i_nle.mpr h52))))
        · skip
          refine j_iload_n C dX6_inForce_55 rfl ?_
          have hc : T 41 j ≤ T 0 1 - T 8 r := by
            rw [hd.1, et0, ef0] at h52 ⊢
            exact (kn_eq hd.2 ht0 (by omega)).mp (i_nlt.mp h52)
          exact j_iret C dX6_inForce_56 rfl ⟨rfl, rfl, by rw [ej, mKnown, if_pos ⟨h33, hc⟩]⟩

theorem cX_known {l : Launch} {g : WGp} (hg : GOK g) {sh : WSh} {N : WNm} {o : Nat → Nat} {nG nB nV kG kB kV : Nat} {ln : Nat → Nat} (X : XH o sh N nG nB nV kG kB kV ln) {nT nP dy : Nat} {T : WNm} (hN : XN N T nG nB nV nT ln) (hI : TI T nG nB nV nP dy)  (k p0 : Int32) : CT l g yX6_known cX6_known 3 (some .int) (RM 5 0 0) [.ref (sh.2.2 100), .int k, .int p0] sh N (QX g sh N nG nB nV nT ln (mKnownP T k p0)) := by
  refine ent hg (by decide +kernel) (Nat.le_of_ble_eq_true rfl) ?_
  intro p e s m args below meth c C hname
  generalize hRES : mKnownP T k p0 = RES
  refine j_iload_n C dX6_known_0 rfl ?_
  refine j_callS1I C ml_X6_147 dX6_known_1 (cX_isVoteKind hg _) ⟨Nat.le_of_ble_eq_true rfl, Nat.le_of_ble_eq_true rfl⟩ (Nat.le_of_ble_eq_true rfl) ⟨rfl, rfl⟩ ⟨Nat.zero_le _, Nat.zero_le _⟩ ?_
  refine j_if_eq (tgt := 21) C dX6_known_4 (by decide) (fun h4 => ?_) (fun h4 => ?_)
  · replace h4 := b2_eq0.mp h4
    refine j_iconst C dX6_known_21 (v := (-1)) (by decide) ?_
    rw [mKnownP, if_neg h4] at hRES
    subst hRES
    exact j_iret C dX6_known_22 rfl ⟨rfl, rfl, hN, FRN.rfl N⟩
  · replace h4 := b2_ne0.mp h4
    refine j_iload_n C dX6_known_7 rfl ?_
    refine j_iconst C dX6_known_8 (v := 0) (by decide) ?_
    refine j_aload_n C dX6_known_9 rfl ?_
    refine j_getI C fl_X6_66 dX6_known_10 (X.c (by decide)) rfl ?_
    rw [hN.1.2.2.1]
    refine j_iconst C dX6_known_13 (v := 1) (by decide) ?_
    refine j_isub C dX6_known_14 ?_
    refine j_callS3I C ml_X6_57 dX6_known_15 (cX_within hg _ _ _) ⟨Nat.le_of_ble_eq_true rfl, Nat.le_of_ble_eq_true rfl⟩ (Nat.le_of_ble_eq_true rfl) ⟨rfl, rfl⟩ ⟨Nat.zero_le _, Nat.zero_le _⟩ ?_
    refine j_if_ne (tgt := 23) C dX6_known_18 (by decide) (fun h18 => ?_) (fun h18 => ?_)
    · replace h18 := b2_ne0.mp h18
      have hr := rngT h18 hI.p5 (Nat.le_trans hI.1.2.2.2.1.2 (by decide))
      refine j_aload_n C dX6_known_23 rfl ?_
      refine j_iload_n C dX6_known_24 rfl ?_
      refine j_iload_n C dX6_known_25 rfl ?_
      refine j_callV2I C ml_X6_162 dX6_known_26 ((by have z := cX_inForce (l := l) hg X hN hI k (r := tn p0) hr.1; rw [← hr.2] at z; exact z)) (⟨by rw [X.c (i := 100) (c := 6) (by decide)]; decide, by rw [X.c (i := 100) (c := 6) (by decide)]; rfl⟩) ⟨Nat.le_of_ble_eq_true rfl, Nat.le_of_ble_eq_true rfl⟩ (Nat.le_of_ble_eq_true rfl) ⟨rfl, rfl⟩ ⟨Nat.zero_le _, Nat.zero_le _⟩ ?_
      rw [mKnownP, if_pos h4, if_pos h18] at hRES
      rw [hI.v38, show tn (nI nV) = nV from nI_clamp (by have := X.nV3; omega)] at hRES
      subst hRES
      exact j_iret C dX6_known_29 rfl ⟨rfl, rfl, hN, FRN.rfl N⟩
    · replace h18 := b2_eq0.mp (Decidable.not_not.mp h18)
      refine j_iconst C dX6_known_21 (v := (-1)) (by decide) ?_
      rw [mKnownP, if_pos h4, if_neg h18] at hRES
      subst hRES
      exact j_iret C dX6_known_22 rfl ⟨rfl, rfl, hN, FRN.rfl N⟩

theorem cX_balesInState {l : Launch} {g : WGp} (hg : GOK g) {sh : WSh} {N : WNm} {o : Nat → Nat} {nG nB nV kG kB kV : Nat} {ln : Nat → Nat} (X : XH o sh N nG nB nV kG kB kV ln) {nT nP dy : Nat} {T : WNm} (hN : XN N T nG nB nV nT ln) (hI : TI T nG nB nV nP dy) (x : Int32) : CT l g yX6_balesInState cX6_balesInState 4 (some .int) (RM 4 0 0) [.ref (sh.2.2 100), .int x] sh N (QF g sh N (mBalesAs T x nB)) := by
  refine ent hg (by decide +kernel) (Nat.le_of_ble_eq_true rfl) ?_
  intro p e s m args below meth c C hname
  have hB := X.nB3
  refine j_iconst C dX6_balesInState_0 (v := 0) (by decide) ?_
  refine j_istore_n C dX6_balesInState_1 (by decide) rfl ?_
  refine j_iconst C dX6_balesInState_2 (v := 0) (by decide) ?_
  refine j_istore_n C dX6_balesInState_3 (by decide) rfl ?_
  suffices key : ∀ k, k ≤ nB → J p l e (RM 4 0 0) s m args below meth c (MQ below (QF g sh N (mBalesAs T x nB)) args s 0 0 g.A) g 4 sh N 0 0 4 [some (.ref (sh.2.2 100)), some (.int x), some (.int (mBalesAs T x k)), some (.int (nI k))] [] from key 0 (Nat.zero_le _)
  refine up_ind (n := nB) ?_
  intro k hk ih
  refine j_iload_n C dX6_balesInState_4 rfl ?_
  refine j_aload_n C dX6_balesInState_5 rfl ?_
  refine j_getR (j := 106) C fl_X6_29 dX6_balesInState_6 (X.c (by decide)) rfl (X.r (by decide)) ?_
  refine j_callV0I C ml_X6_73 dX6_balesInState_9 (cJ_size hg X.lb.1.1) (⟨by rw [X.lb.1.1]; decide, by rw [X.lb.1.1]; rfl⟩) ⟨Nat.le_of_ble_eq_true rfl, Nat.le_of_ble_eq_true rfl⟩ (Nat.le_of_ble_eq_true rfl) ⟨rfl, rfl⟩ ⟨Nat.zero_le _, Nat.zero_le _⟩ ?_
  rw [X.zB]
  refine j_icmp_ge (tgt := 42) C dX6_balesInState_12 (by decide) (fun h12 => ?_) (fun h12 => ?_)
  · skip
    refine j_iload_n C dX6_balesInState_42 rfl ?_
    rw [n_nle (by omega) (by omega)] at h12
    obtain rfl : k = nB := by omega
    exact j_iret C dX6_balesInState_43 rfl ⟨rfl, rfl, rfl⟩
  · skip
    rw [n_nle (by omega) (by omega)] at h12
    have hk2 : k < nB := by omega
    refine j_aload_n C dX6_balesInState_15 rfl ?_
    refine j_getR (j := 106) C fl_X6_29 dX6_balesInState_16 (X.c (by decide)) rfl (X.r (by decide)) ?_
    refine j_iload_n C dX6_balesInState_19 rfl ?_
    refine j_callV1RS (x := 2000 + k) C ml_X6_213 dX6_balesInState_20 (cX_lget hg X.lb hk2) ⟨by rw [X.lb.1.1]; decide, by rw [X.lb.1.1]; rfl⟩ ⟨Nat.le_of_ble_eq_true rfl, Nat.le_of_ble_eq_true rfl⟩ (Nat.le_of_ble_eq_true rfl) ⟨rfl, rfl⟩ ⟨Nat.zero_le _, Nat.zero_le _⟩ ?_
    refine j_cast C cl_X6_120 (X.b hk2) dX6_balesInState_23 ?_
    refine j_getI C fl_X6_217 dX6_balesInState_26 (X.b hk2) rfl ?_
    rw [show N (2000 + k) 9 = T 34 k from hN.b hk2 (f := 9) (by decide)]
    refine j_iload_n C dX6_balesInState_29 rfl ?_
    refine j_icmp_ne (tgt := 36) C dX6_balesInState_30 (by decide) (fun h30 => ?_) (fun h30 => ?_)
    · skip
      refine j_iincN C dX6_balesInState_36 rfl (by decide) rfl ?_
      refine j_goto (tgt := 4) C dX6_balesInState_39 (by decide) ?_
      have z := ih (by omega)
      rw [show mBalesAs T x (k + 1) = mBalesAs T x k + (if T 34 k = x then 1 else 0) from rfl, if_neg h30, Int32.add_zero] at z
      exact z
    · replace h30 := Decidable.not_not.mp h30
      refine j_iinc C dX6_balesInState_33 rfl rfl (by decide) rfl ?_
      refine j_iincN C dX6_balesInState_36 rfl (by decide) rfl ?_
      refine j_goto (tgt := 4) C dX6_balesInState_39 (by decide) ?_
      have z := ih (by omega)
      rw [show mBalesAs T x (k + 1) = mBalesAs T x k + (if T 34 k = x then 1 else 0) from rfl, if_pos h30] at z
      exact z

theorem cX_count {l : Launch} {g : WGp} (hg : GOK g) {sh : WSh} {N : WNm} {o : Nat → Nat} {nG nB nV kG kB kV : Nat} {ln : Nat → Nat} (X : XH o sh N nG nB nV kG kB kV ln) {nT nP dy : Nat} {T : WNm} (hN : XN N T nG nB nV nT ln) (hI : TI T nG nB nV nP dy)  (w0 : Int32) : CT l g yX6_count cX6_count 2 (some .int) (RM 5 0 0) [.ref (sh.2.2 100), .int w0] sh N (QX g sh N nG nB nV nT ln (mCount T w0)) := by
  refine ent hg (by decide +kernel) (Nat.le_of_ble_eq_true rfl) ?_
  intro p e s m args below meth c C hname
  generalize hRES : mCount T w0 = RES
  refine j_iload_n C dX6_count_0 rfl ?_
  by_cases h1_0 : w0 = 0
  · refine j_tabIn (tgt := 56) C dX6_count_1 (by rw [h1_0]; decide) (by rw [h1_0]; decide) (off := 55) (by rw [h1_0]; decide) (by decide) ?_
    refine j_aload_n C dX6_count_56 rfl ?_
    refine j_getI C fl_X6_66 dX6_count_57 (X.c (by decide)) rfl ?_
    rw [hN.1.2.2.1]
    rw [mCount, if_pos h1_0] at hRES
    first
      | (rw [hI.b23, show tn (nI nB) = nB from nI_clamp (by have := X.nB3; omega)] at hRES; first | (rw [show w0 - 5 = 0 by rw [h1_5]; decide] at hRES) | (rw [show w0 - 5 = 1 by rw [h1_6]; decide] at hRES) | (rw [show w0 - 5 = 2 by rw [h1_7]; decide] at hRES) | (rw [show w0 - 5 = 3 by rw [h1_8]; decide] at hRES))
      | rw [hI.g9] at hRES
      | rw [hI.b23] at hRES
      | rw [hI.v38] at hRES
      | rw [hN.2.2.2.2.2.2.2.2.2.1] at hRES
      | skip
    subst hRES
    exact j_iret C dX6_count_60 rfl ⟨rfl, rfl, hN, FRN.rfl N⟩
  by_cases h1_1 : w0 = 1
  · refine j_tabIn (tgt := 61) C dX6_count_1 (by rw [h1_1]; decide) (by rw [h1_1]; decide) (off := 60) (by rw [h1_1]; decide) (by decide) ?_
    refine j_aload_n C dX6_count_61 rfl ?_
    refine j_getR (j := 105) C fl_X6_25 dX6_count_62 (X.c (by decide)) rfl (X.r (by decide)) ?_
    refine j_callV0I C ml_X6_73 dX6_count_65 (cJ_size hg X.lg.1.1) (⟨by rw [X.lg.1.1]; decide, by rw [X.lg.1.1]; rfl⟩) ⟨Nat.le_of_ble_eq_true rfl, Nat.le_of_ble_eq_true rfl⟩ (Nat.le_of_ble_eq_true rfl) ⟨rfl, rfl⟩ ⟨Nat.zero_le _, Nat.zero_le _⟩ ?_
    rw [X.zG]
    rw [mCount, if_neg h1_0, if_pos h1_1] at hRES
    first
      | (rw [hI.b23, show tn (nI nB) = nB from nI_clamp (by have := X.nB3; omega)] at hRES; first | (rw [show w0 - 5 = 0 by rw [h1_5]; decide] at hRES) | (rw [show w0 - 5 = 1 by rw [h1_6]; decide] at hRES) | (rw [show w0 - 5 = 2 by rw [h1_7]; decide] at hRES) | (rw [show w0 - 5 = 3 by rw [h1_8]; decide] at hRES))
      | rw [hI.g9] at hRES
      | rw [hI.b23] at hRES
      | rw [hI.v38] at hRES
      | rw [hN.2.2.2.2.2.2.2.2.2.1] at hRES
      | skip
    subst hRES
    exact j_iret C dX6_count_68 rfl ⟨rfl, rfl, hN, FRN.rfl N⟩
  by_cases h1_2 : w0 = 2
  · refine j_tabIn (tgt := 69) C dX6_count_1 (by rw [h1_2]; decide) (by rw [h1_2]; decide) (off := 68) (by rw [h1_2]; decide) (by decide) ?_
    refine j_aload_n C dX6_count_69 rfl ?_
    refine j_getR (j := 106) C fl_X6_29 dX6_count_70 (X.c (by decide)) rfl (X.r (by decide)) ?_
    refine j_callV0I C ml_X6_73 dX6_count_73 (cJ_size hg X.lb.1.1) (⟨by rw [X.lb.1.1]; decide, by rw [X.lb.1.1]; rfl⟩) ⟨Nat.le_of_ble_eq_true rfl, Nat.le_of_ble_eq_true rfl⟩ (Nat.le_of_ble_eq_true rfl) ⟨rfl, rfl⟩ ⟨Nat.zero_le _, Nat.zero_le _⟩ ?_
    rw [X.zB]
    rw [mCount, if_neg h1_0, if_neg h1_1, if_pos h1_2] at hRES
    first
      | (rw [hI.b23, show tn (nI nB) = nB from nI_clamp (by have := X.nB3; omega)] at hRES; first | (rw [show w0 - 5 = 0 by rw [h1_5]; decide] at hRES) | (rw [show w0 - 5 = 1 by rw [h1_6]; decide] at hRES) | (rw [show w0 - 5 = 2 by rw [h1_7]; decide] at hRES) | (rw [show w0 - 5 = 3 by rw [h1_8]; decide] at hRES))
      | rw [hI.g9] at hRES
      | rw [hI.b23] at hRES
      | rw [hI.v38] at hRES
      | rw [hN.2.2.2.2.2.2.2.2.2.1] at hRES
      | skip
    subst hRES
    exact j_iret C dX6_count_76 rfl ⟨rfl, rfl, hN, FRN.rfl N⟩
  by_cases h1_3 : w0 = 3
  · refine j_tabIn (tgt := 77) C dX6_count_1 (by rw [h1_3]; decide) (by rw [h1_3]; decide) (off := 76) (by rw [h1_3]; decide) (by decide) ?_
    refine j_aload_n C dX6_count_77 rfl ?_
    refine j_getR (j := 107) C fl_X6_32 dX6_count_78 (X.c (by decide)) rfl (X.r (by decide)) ?_
    refine j_callV0I C ml_X6_73 dX6_count_81 (cJ_size hg X.lv.1.1) (⟨by rw [X.lv.1.1]; decide, by rw [X.lv.1.1]; rfl⟩) ⟨Nat.le_of_ble_eq_true rfl, Nat.le_of_ble_eq_true rfl⟩ (Nat.le_of_ble_eq_true rfl) ⟨rfl, rfl⟩ ⟨Nat.zero_le _, Nat.zero_le _⟩ ?_
    rw [X.zV]
    rw [mCount, if_neg h1_0, if_neg h1_1, if_neg h1_2, if_pos h1_3] at hRES
    first
      | (rw [hI.b23, show tn (nI nB) = nB from nI_clamp (by have := X.nB3; omega)] at hRES; first | (rw [show w0 - 5 = 0 by rw [h1_5]; decide] at hRES) | (rw [show w0 - 5 = 1 by rw [h1_6]; decide] at hRES) | (rw [show w0 - 5 = 2 by rw [h1_7]; decide] at hRES) | (rw [show w0 - 5 = 3 by rw [h1_8]; decide] at hRES))
      | rw [hI.g9] at hRES
      | rw [hI.b23] at hRES
      | rw [hI.v38] at hRES
      | rw [hN.2.2.2.2.2.2.2.2.2.1] at hRES
      | skip
    subst hRES
    exact j_iret C dX6_count_84 rfl ⟨rfl, rfl, hN, FRN.rfl N⟩
  by_cases h1_4 : w0 = 4
  · refine j_tabIn (tgt := 85) C dX6_count_1 (by rw [h1_4]; decide) (by rw [h1_4]; decide) (off := 84) (by rw [h1_4]; decide) (by decide) ?_
    refine j_aload_n C dX6_count_85 rfl ?_
    refine j_getI C fl_X6_122 dX6_count_86 (X.c (by decide)) rfl ?_
    rw [hN.1.2.2.2]
    rw [mCount, if_neg h1_0, if_neg h1_1, if_neg h1_2, if_neg h1_3, if_pos h1_4] at hRES
    first
      | (rw [hI.b23, show tn (nI nB) = nB from nI_clamp (by have := X.nB3; omega)] at hRES; first | (rw [show w0 - 5 = 0 by rw [h1_5]; decide] at hRES) | (rw [show w0 - 5 = 1 by rw [h1_6]; decide] at hRES) | (rw [show w0 - 5 = 2 by rw [h1_7]; decide] at hRES) | (rw [show w0 - 5 = 3 by rw [h1_8]; decide] at hRES))
      | rw [hI.g9] at hRES
      | rw [hI.b23] at hRES
      | rw [hI.v38] at hRES
      | rw [hN.2.2.2.2.2.2.2.2.2.1] at hRES
      | skip
    subst hRES
    exact j_iret C dX6_count_89 rfl ⟨rfl, rfl, hN, FRN.rfl N⟩
  by_cases h1_5 : w0 = 5
  · refine j_tabIn (tgt := 90) C dX6_count_1 (by rw [h1_5]; decide) (by rw [h1_5]; decide) (off := 89) (by rw [h1_5]; decide) (by decide) ?_
    refine j_aload_n C dX6_count_90 rfl ?_
    refine j_iconst C dX6_count_91 (v := 0) (by decide) ?_
    refine j_callV1I C ml_X6_210 dX6_count_92 (cX_balesInState hg X hN hI _) (⟨by rw [X.c (i := 100) (c := 6) (by decide)]; decide, by rw [X.c (i := 100) (c := 6) (by decide)]; rfl⟩) ⟨Nat.le_of_ble_eq_true rfl, Nat.le_of_ble_eq_true rfl⟩ (Nat.le_of_ble_eq_true rfl) ⟨rfl, rfl⟩ ⟨Nat.zero_le _, Nat.zero_le _⟩ ?_
    rw [mCount, if_neg h1_0, if_neg h1_1, if_neg h1_2, if_neg h1_3, if_neg h1_4, if_pos h1_5] at hRES
    first
      | (rw [hI.b23, show tn (nI nB) = nB from nI_clamp (by have := X.nB3; omega)] at hRES; first | (rw [show w0 - 5 = 0 by rw [h1_5]; decide] at hRES) | (rw [show w0 - 5 = 1 by rw [h1_6]; decide] at hRES) | (rw [show w0 - 5 = 2 by rw [h1_7]; decide] at hRES) | (rw [show w0 - 5 = 3 by rw [h1_8]; decide] at hRES))
      | rw [hI.g9] at hRES
      | rw [hI.b23] at hRES
      | rw [hI.v38] at hRES
      | rw [hN.2.2.2.2.2.2.2.2.2.1] at hRES
      | skip
    subst hRES
    exact j_iret C dX6_count_95 rfl ⟨rfl, rfl, hN, FRN.rfl N⟩
  by_cases h1_6 : w0 = 6
  · refine j_tabIn (tgt := 96) C dX6_count_1 (by rw [h1_6]; decide) (by rw [h1_6]; decide) (off := 95) (by rw [h1_6]; decide) (by decide) ?_
    refine j_aload_n C dX6_count_96 rfl ?_
    refine j_iconst C dX6_count_97 (v := 1) (by decide) ?_
    refine j_callV1I C ml_X6_210 dX6_count_98 (cX_balesInState hg X hN hI _) (⟨by rw [X.c (i := 100) (c := 6) (by decide)]; decide, by rw [X.c (i := 100) (c := 6) (by decide)]; rfl⟩) ⟨Nat.le_of_ble_eq_true rfl, Nat.le_of_ble_eq_true rfl⟩ (Nat.le_of_ble_eq_true rfl) ⟨rfl, rfl⟩ ⟨Nat.zero_le _, Nat.zero_le _⟩ ?_
    rw [mCount, if_neg h1_0, if_neg h1_1, if_neg h1_2, if_neg h1_3, if_neg h1_4, if_neg h1_5, if_pos h1_6] at hRES
    first
      | (rw [hI.b23, show tn (nI nB) = nB from nI_clamp (by have := X.nB3; omega)] at hRES; first | (rw [show w0 - 5 = 0 by rw [h1_5]; decide] at hRES) | (rw [show w0 - 5 = 1 by rw [h1_6]; decide] at hRES) | (rw [show w0 - 5 = 2 by rw [h1_7]; decide] at hRES) | (rw [show w0 - 5 = 3 by rw [h1_8]; decide] at hRES))
      | rw [hI.g9] at hRES
      | rw [hI.b23] at hRES
      | rw [hI.v38] at hRES
      | rw [hN.2.2.2.2.2.2.2.2.2.1] at hRES
      | skip
    subst hRES
    exact j_iret C dX6_count_101 rfl ⟨rfl, rfl, hN, FRN.rfl N⟩
  by_cases h1_7 : w0 = 7
  · refine j_tabIn (tgt := 102) C dX6_count_1 (by rw [h1_7]; decide) (by rw [h1_7]; decide) (off := 101) (by rw [h1_7]; decide) (by decide) ?_
    refine j_aload_n C dX6_count_102 rfl ?_
    refine j_iconst C dX6_count_103 (v := 2) (by decide) ?_
    refine j_callV1I C ml_X6_210 dX6_count_104 (cX_balesInState hg X hN hI _) (⟨by rw [X.c (i := 100) (c := 6) (by decide)]; decide, by rw [X.c (i := 100) (c := 6) (by decide)]; rfl⟩) ⟨Nat.le_of_ble_eq_true rfl, Nat.le_of_ble_eq_true rfl⟩ (Nat.le_of_ble_eq_true rfl) ⟨rfl, rfl⟩ ⟨Nat.zero_le _, Nat.zero_le _⟩ ?_
    rw [mCount, if_neg h1_0, if_neg h1_1, if_neg h1_2, if_neg h1_3, if_neg h1_4, if_neg h1_5, if_neg h1_6, if_pos h1_7] at hRES
    first
      | (rw [hI.b23, show tn (nI nB) = nB from nI_clamp (by have := X.nB3; omega)] at hRES; first | (rw [show w0 - 5 = 0 by rw [h1_5]; decide] at hRES) | (rw [show w0 - 5 = 1 by rw [h1_6]; decide] at hRES) | (rw [show w0 - 5 = 2 by rw [h1_7]; decide] at hRES) | (rw [show w0 - 5 = 3 by rw [h1_8]; decide] at hRES))
      | rw [hI.g9] at hRES
      | rw [hI.b23] at hRES
      | rw [hI.v38] at hRES
      | rw [hN.2.2.2.2.2.2.2.2.2.1] at hRES
      | skip
    subst hRES
    exact j_iret C dX6_count_107 rfl ⟨rfl, rfl, hN, FRN.rfl N⟩
  by_cases h1_8 : w0 = 8
  · refine j_tabIn (tgt := 108) C dX6_count_1 (by rw [h1_8]; decide) (by rw [h1_8]; decide) (off := 107) (by rw [h1_8]; decide) (by decide) ?_
    refine j_aload_n C dX6_count_108 rfl ?_
    refine j_iconst C dX6_count_109 (v := 3) (by decide) ?_
    refine j_callV1I C ml_X6_210 dX6_count_110 (cX_balesInState hg X hN hI _) (⟨by rw [X.c (i := 100) (c := 6) (by decide)]; decide, by rw [X.c (i := 100) (c := 6) (by decide)]; rfl⟩) ⟨Nat.le_of_ble_eq_true rfl, Nat.le_of_ble_eq_true rfl⟩ (Nat.le_of_ble_eq_true rfl) ⟨rfl, rfl⟩ ⟨Nat.zero_le _, Nat.zero_le _⟩ ?_
    rw [mCount, if_neg h1_0, if_neg h1_1, if_neg h1_2, if_neg h1_3, if_neg h1_4, if_neg h1_5, if_neg h1_6, if_neg h1_7, if_pos h1_8] at hRES
    first
      | (rw [hI.b23, show tn (nI nB) = nB from nI_clamp (by have := X.nB3; omega)] at hRES; first | (rw [show w0 - 5 = 0 by rw [h1_5]; decide] at hRES) | (rw [show w0 - 5 = 1 by rw [h1_6]; decide] at hRES) | (rw [show w0 - 5 = 2 by rw [h1_7]; decide] at hRES) | (rw [show w0 - 5 = 3 by rw [h1_8]; decide] at hRES))
      | rw [hI.g9] at hRES
      | rw [hI.b23] at hRES
      | rw [hI.v38] at hRES
      | rw [hN.2.2.2.2.2.2.2.2.2.1] at hRES
      | skip
    subst hRES
    exact j_iret C dX6_count_113 rfl ⟨rfl, rfl, hN, FRN.rfl N⟩
  by_cases h1_9 : w0 = 9
  · refine j_tabIn (tgt := 114) C dX6_count_1 (by rw [h1_9]; decide) (by rw [h1_9]; decide) (off := 113) (by rw [h1_9]; decide) (by decide) ?_
    refine j_aload_n C dX6_count_114 rfl ?_
    refine j_getR (j := 109) C fl_X6_38 dX6_count_115 (X.c (by decide)) rfl (X.r (by decide)) ?_
    refine j_getR (j := 111) C fl_X6_134 dX6_count_118 (X.c (by decide)) rfl (X.r (by decide)) ?_
    refine j_getI C fl_X6_138 dX6_count_121 (X.c (by decide)) rfl ?_
    rw [hN.2.2.2.2.2.2.2.1]
    rw [mCount, if_neg h1_0, if_neg h1_1, if_neg h1_2, if_neg h1_3, if_neg h1_4, if_neg h1_5, if_neg h1_6, if_neg h1_7, if_neg h1_8, if_pos h1_9] at hRES
    first
      | (rw [hI.b23, show tn (nI nB) = nB from nI_clamp (by have := X.nB3; omega)] at hRES; first | (rw [show w0 - 5 = 0 by rw [h1_5]; decide] at hRES) | (rw [show w0 - 5 = 1 by rw [h1_6]; decide] at hRES) | (rw [show w0 - 5 = 2 by rw [h1_7]; decide] at hRES) | (rw [show w0 - 5 = 3 by rw [h1_8]; decide] at hRES))
      | rw [hI.g9] at hRES
      | rw [hI.b23] at hRES
      | rw [hI.v38] at hRES
      | rw [hN.2.2.2.2.2.2.2.2.2.1] at hRES
      | skip
    subst hRES
    exact j_iret C dX6_count_124 rfl ⟨rfl, rfl, hN, FRN.rfl N⟩
  have q0 := lv_neT h1_0 (a := 0) (by decide)
  have q1 := lv_neT h1_1 (a := 1) (by decide)
  have q2 := lv_neT h1_2 (a := 2) (by decide)
  have q3 := lv_neT h1_3 (a := 3) (by decide)
  have q4 := lv_neT h1_4 (a := 4) (by decide)
  have q5 := lv_neT h1_5 (a := 5) (by decide)
  have q6 := lv_neT h1_6 (a := 6) (by decide)
  have q7 := lv_neT h1_7 (a := 7) (by decide)
  have q8 := lv_neT h1_8 (a := 8) (by decide)
  have q9 := lv_neT h1_9 (a := 9) (by decide)
  refine j_tabOut (tgt := 125) C dX6_count_1 (by omega) (by decide) ?_
  refine j_iconst C dX6_count_125 (v := (-1)) (by decide) ?_
  rw [mCount, if_neg h1_0, if_neg h1_1, if_neg h1_2, if_neg h1_3, if_neg h1_4, if_neg h1_5, if_neg h1_6, if_neg h1_7, if_neg h1_8, if_neg h1_9] at hRES
  first
    | (rw [hI.b23, show tn (nI nB) = nB from nI_clamp (by have := X.nB3; omega)] at hRES; first | (rw [show w0 - 5 = 0 by rw [h1_5]; decide] at hRES) | (rw [show w0 - 5 = 1 by rw [h1_6]; decide] at hRES) | (rw [show w0 - 5 = 2 by rw [h1_7]; decide] at hRES) | (rw [show w0 - 5 = 3 by rw [h1_8]; decide] at hRES))
    | rw [hI.g9] at hRES
    | rw [hI.b23] at hRES
    | rw [hI.v38] at hRES
    | rw [hN.2.2.2.2.2.2.2.2.2.1] at hRES
    | skip
  subst hRES
  exact j_iret C dX6_count_126 rfl ⟨rfl, rfl, hN, FRN.rfl N⟩

theorem cX_allAreHome {l : Launch} {g : WGp} (hg : GOK g) {sh : WSh} {N : WNm} {o : Nat → Nat} {nG nB nV kG kB kV : Nat} {ln : Nat → Nat} (X : XH o sh N nG nB nV kG kB kV ln) {nT nP dy : Nat} {T : WNm} (hN : XN N T nG nB nV nT ln) (hI : TI T nG nB nV nP dy) : CT l g yX6_allAreHome cX6_allAreHome 2 (some .boolean) (RM 4 0 0) [.ref (sh.2.2 100)] sh N (QF g sh N (pb (∀ k, k < nG → T 15 k = 0))) := by
  refine ent hg (by decide +kernel) (Nat.le_of_ble_eq_true rfl) ?_
  intro p e s m args below meth c C hname
  have hG := X.nG8
  refine j_iconst C dX6_allAreHome_0 (v := 0) (by decide) ?_
  refine j_istore_n C dX6_allAreHome_1 (by decide) rfl ?_
  suffices key : ∀ k, k ≤ nG → (∀ j, j < k → T 15 j = 0) → J p l e (RM 4 0 0) s m args below meth c (MQ below (QF g sh N (pb (∀ k, k < nG → T 15 k = 0))) args s 0 0 g.A) g 2 sh N 0 0 2 [some (.ref (sh.2.2 100)), some (.int (nI k))] [] from key 0 (Nat.zero_le _) (fun j hj => absurd hj (Nat.not_lt_zero j))
  refine up_ind (P := fun k => (∀ j, j < k → T 15 j = 0) → J p l e (RM 4 0 0) s m args below meth c (MQ below (QF g sh N (pb (∀ k, k < nG → T 15 k = 0))) args s 0 0 g.A) g 2 sh N 0 0 2 [some (.ref (sh.2.2 100)), some (.int (nI k))] []) (n := nG) ?_
  intro k hk ih hall
  refine j_iload_n C dX6_allAreHome_2 rfl ?_
  refine j_aload_n C dX6_allAreHome_3 rfl ?_
  refine j_getR (j := 105) C fl_X6_25 dX6_allAreHome_4 (X.c (by decide)) rfl (X.r (by decide)) ?_
  refine j_callV0I C ml_X6_73 dX6_allAreHome_7 (cJ_size hg X.lg.1.1) (⟨by rw [X.lg.1.1]; decide, by rw [X.lg.1.1]; rfl⟩) ⟨Nat.le_of_ble_eq_true rfl, Nat.le_of_ble_eq_true rfl⟩ (Nat.le_of_ble_eq_true rfl) ⟨rfl, rfl⟩ ⟨Nat.zero_le _, Nat.zero_le _⟩ ?_
  rw [X.zG]
  refine j_icmp_ge (tgt := 38) C dX6_allAreHome_10 (by decide) (fun h10 => ?_) (fun h10 => ?_)
  · skip
    refine j_iconst C dX6_allAreHome_38 (v := 1) (by decide) ?_
    rw [n_nle (by omega) (by omega)] at h10
    obtain rfl : k = nG := by omega
    exact j_iret C dX6_allAreHome_39 rfl ⟨rfl, rfl, (pb_t hall).symm⟩
  · skip
    rw [n_nle (by omega) (by omega)] at h10
    have hk2 : k < nG := by omega
    refine j_aload_n C dX6_allAreHome_13 rfl ?_
    refine j_getR (j := 105) C fl_X6_25 dX6_allAreHome_14 (X.c (by decide)) rfl (X.r (by decide)) ?_
    refine j_iload_n C dX6_allAreHome_17 rfl ?_
    refine j_callV1RS (x := 1000 + k) C ml_X6_213 dX6_allAreHome_18 (cX_lget hg X.lg hk2) ⟨by rw [X.lg.1.1]; decide, by rw [X.lg.1.1]; rfl⟩ ⟨Nat.le_of_ble_eq_true rfl, Nat.le_of_ble_eq_true rfl⟩ (Nat.le_of_ble_eq_true rfl) ⟨rfl, rfl⟩ ⟨Nat.zero_le _, Nat.zero_le _⟩ ?_
    refine j_cast C cl_X6_77 (X.g hk2) dX6_allAreHome_21 ?_
    refine j_getI C fl_X6_166 dX6_allAreHome_24 (X.g hk2) rfl ?_
    rw [hN.g hk2 (f := 9) (r := 15) (by decide)]
    refine j_if_eq (tgt := 32) C dX6_allAreHome_27 (by decide) (fun h27 => ?_) (fun h27 => ?_)
    · skip
      refine j_iincN C dX6_allAreHome_32 rfl (by decide) rfl ?_
      refine j_goto (tgt := 2) C dX6_allAreHome_35 (by decide) ?_
      exact ih (by omega) (fun j hj => by rcases Nat.lt_succ_iff_lt_or_eq.mp hj with q | q; exact hall j q; rw [q]; exact h27)
    · skip
      refine j_iconst C dX6_allAreHome_30 (v := 0) (by decide) ?_
      exact j_iret C dX6_allAreHome_31 rfl ⟨rfl, rfl, (pb_f (fun z => h27 (z k hk2))).symm⟩
