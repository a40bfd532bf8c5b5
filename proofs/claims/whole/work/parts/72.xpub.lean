/-! ===== THE CLASS: simple methods ===== -/
theorem XN.g {N T : WNm} {nG nB nV nT a f r : Nat} {ln : Nat → Nat} (h : XN N T nG nB nV nT ln) (ha : a < nG) (hq : (f, r) ∈ gTab) : N (1000 + a) f = T r a := (h.2.2.1 a ha).2 (f, r) hq
theorem XN.b {N T : WNm} {nG nB nV nT b f : Nat} {ln : Nat → Nat} (h : XN N T nG nB nV nT ln) (hb : b < nB) (hf : f < 12) : N (2000 + b) f = T (25 + f) b := h.2.2.2.2.2.1 b hb f hf
/-- rows that a call leaves as they were -/
def FRN (N N1 : WNm) : Prop := (∀ i, i ≤ 55 → N1 i = N i) ∧ ∀ i, 105 ≤ i → i ≤ 108 → N1 i = N i
theorem FRN.rfl (N : WNm) : FRN N N := ⟨fun _ _ => Eq.refl _, fun _ _ _ => Eq.refl _⟩
theorem FRN.trans {N N1 N2 : WNm} (h : FRN N N1) (k : FRN N1 N2) : FRN N N2 := ⟨fun i a => (k.1 i a).trans (h.1 i a), fun i a b => (k.2 i a b).trans (h.2 i a b)⟩
theorem FRN.u {N : WNm} {i k : Nat} {v : Int32} (h : 55 < i ∧ ¬ (105 ≤ i ∧ i ≤ 108)) : FRN N (u2 N i k v) := ⟨fun j a => u2_row (by omega), fun j a b => u2_row (by omega)⟩
theorem FRN.u' {N N1 : WNm} {i k : Nat} {v : Int32} (h0 : FRN N N1) (h : 55 < i ∧ ¬ (105 ≤ i ∧ i ≤ 108)) : FRN N (u2 N1 i k v) := h0.trans (FRN.u h)
theorem XH.fr {o : Nat → Nat} {sh : WSh} {N N1 : WNm} {nG nB nV kG kB kV : Nat} {ln : Nat → Nat} (h : XH o sh N nG nB nV kG kB kV ln) (f : FRN N N1) : XH o sh N1 nG nB nV kG kB kV ln := h.cong (by rw [f.2 105 (by decide) (by decide)]) (by rw [f.2 106 (by decide) (by decide)]) (by rw [f.2 107 (by decide) (by decide)])
/-- a call's answer is the reference's, and so are the numbers behind it -/
abbrev QX (g : WGp) (sh : WSh) (N : WNm) (nG nB nV nT : Nat) (ln : Nat → Nat) (res : Int32 × WNm) : Array Value → State → Outcome → State → Prop := QI g (fun r sh1 N1 => sh1 = sh ∧ r = res.1 ∧ XN N1 res.2 nG nB nV nT ln ∧ FRN N N1)
theorem TI.g9 {T : WNm} {nG nB nV nP dy : Nat} (h : TI T nG nB nV nP dy) : T 0 9 = nI nG := h.1.1.1
theorem TI.b23 {T : WNm} {nG nB nV nP dy : Nat} (h : TI T nG nB nV nP dy) : T 0 23 = nI nB := h.1.2.1.1
theorem TI.v38 {T : WNm} {nG nB nV nP dy : Nat} (h : TI T nG nB nV nP dy) : T 0 38 = nI nV := h.1.2.2.1.1
theorem TI.p5 {T : WNm} {nG nB nV nP dy : Nat} (h : TI T nG nB nV nP dy) : T 0 5 = nI nP := h.1.2.2.2.1.1
theorem TI.d1 {T : WNm} {nG nB nV nP dy : Nat} (h : TI T nG nB nV nP dy) : T 0 1 = nI dy := h.1.2.2.2.2.1.1
theorem rngT {x y : Int32} {n : Nat} (hx : 0 ≤ x ∧ x ≤ y - 1) (hy : y = nI n) (hn : n ≤ 300) : tn x < n ∧ x = nI (tn x) := by
  subst hy
  obtain ⟨k, hk, e1, e2⟩ := rngN (n := n) hx (by omega)
  rw [e2]
  exact ⟨hk, e1⟩

theorem cX_purse {l : Launch} {g : WGp} (hg : GOK g) {sh : WSh} {N : WNm} {o : Nat → Nat} {nG nB nV kG kB kV : Nat} {ln : Nat → Nat} (X : XH o sh N nG nB nV kG kB kV ln) {nT nP dy : Nat} {T : WNm} (hN : XN N T nG nB nV nT ln) (hI : TI T nG nB nV nP dy)  (p0 v : Int32) : CT l g yX6_purse cX6_purse 3 (some .int) (RM 3 0 0) [.ref (sh.2.2 100), .int p0, .int v] sh N (QX g sh N nG nB nV nT ln (mPurse T p0 v)) := by
  refine ent hg (by decide +kernel) (Nat.le_of_ble_eq_true rfl) ?_
  intro p e s m args below meth c C hname
  generalize hRES : mPurse T p0 v = RES
  refine j_iload_n C dX6_purse_0 rfl ?_
  refine j_callS1I C ml_X6_52 dX6_purse_1 (cX_isPerson hg _) ⟨Nat.le_of_ble_eq_true rfl, Nat.le_of_ble_eq_true rfl⟩ (Nat.le_of_ble_eq_true rfl) ⟨rfl, rfl⟩ ⟨Nat.zero_le _, Nat.zero_le _⟩ ?_
  refine j_if_eq (tgt := 17) C dX6_purse_4 (by decide) (fun h4 => ?_) (fun h4 => ?_)
  · replace h4 := b2_eq0.mp h4
    refine j_ldc C kc_X6_61 dX6_purse_17 ?_
    rw [mPurse, if_neg h4] at hRES
    subst hRES
    exact j_iret C dX6_purse_19 rfl ⟨rfl, rfl, hN, FRN.rfl N⟩
  · replace h4 := b2_ne0.mp h4
    refine j_iload_n C dX6_purse_7 rfl ?_
    refine j_iconst C dX6_purse_8 (v := 1) (by decide) ?_
    refine j_ldc C kc_X6_56 dX6_purse_9 ?_
    refine j_callS3I C ml_X6_57 dX6_purse_11 (cX_within hg _ _ _) ⟨Nat.le_of_ble_eq_true rfl, Nat.le_of_ble_eq_true rfl⟩ (Nat.le_of_ble_eq_true rfl) ⟨rfl, rfl⟩ ⟨Nat.zero_le _, Nat.zero_le _⟩ ?_
    refine j_if_ne (tgt := 20) C dX6_purse_14 (by decide) (fun h14 => ?_) (fun h14 => ?_)
    · replace h14 := b2_ne0.mp h14
      refine j_aload_n C dX6_purse_20 rfl ?_
      refine j_getR (j := 101) C fl_X6_9 dX6_purse_21 (X.c (by decide)) rfl (X.r (by decide)) ?_
      refine j_iload_n C dX6_purse_24 rfl ?_
      refine j_dup2 C dX6_purse_25 rfl rfl ?_
      refine j_iald C (X.a (i := 101) (n := 10) (by decide)) (inC h4 rfl (by decide)) dX6_purse_26 ?_
      rw [hN.2.1.1]
      refine j_iload_n C dX6_purse_27 rfl ?_
      refine j_iadd C dX6_purse_28 ?_
      refine j_iast C (X.a (i := 101) (n := 10) (by decide)) (inC h4 rfl (by decide)) dX6_purse_29 ?_
      refine j_aload_n C dX6_purse_30 rfl ?_
      refine j_dup C dX6_purse_31 rfl ?_
      refine j_getI C fl_X6_62 dX6_purse_32 (X.c (by decide)) rfl ?_
      refine j_iload_n C dX6_purse_35 rfl ?_
      refine j_iadd C dX6_purse_36 ?_
      refine j_putI C fl_X6_62 dX6_purse_37 (X.c (by decide)) rfl rfl rfl rfl ?_
      refine j_aload_n C dX6_purse_40 rfl ?_
      refine j_getR (j := 101) C fl_X6_9 dX6_purse_41 (X.c (by decide)) rfl (X.r (by decide)) ?_
      refine j_iload_n C dX6_purse_44 rfl ?_
      refine j_iald C (X.a (i := 101) (n := 10) (by decide)) (inC h4 rfl (by decide)) dX6_purse_45 ?_
      rw [mPurse, if_pos h4, if_pos h14] at hRES
      subst hRES
      have e2 : N 100 2 = T 0 4 := hN.1.2.1
      refine j_iret C dX6_purse_46 rfl ⟨rfl, ?_, ?_, (FRN.u ⟨by decide, by decide⟩).u' ⟨by decide, by decide⟩⟩
      · simp [u2]
      · have z := (hN.purse X.nG8 X.nB3 X.nV3 (tn p0) (T 3 (tn p0) + v)).out X.nG8 X.nB3 X.nV3 (T 0 4 + v)
        rw [u2_row (i := 101) (by decide), e2]
        show XN _ (u2 (u2 T 3 _ _) 0 4 (u2 T 3 _ _ 0 4 + v)) _ _ _ _ _
        rw [u2_row (f := T) (by decide)]
        exact z
    · replace h14 := b2_eq0.mp (Decidable.not_not.mp h14)
      refine j_ldc C kc_X6_61 dX6_purse_17 ?_
      rw [mPurse, if_pos h4, if_neg h14] at hRES
      subst hRES
      exact j_iret C dX6_purse_19 rfl ⟨rfl, rfl, hN, FRN.rfl N⟩

theorem cX_wind {l : Launch} {g : WGp} (hg : GOK g) {sh : WSh} {N : WNm} {o : Nat → Nat} {nG nB nV kG kB kV : Nat} {ln : Nat → Nat} (X : XH o sh N nG nB nV kG kB kV ln) {nT nP dy : Nat} {T : WNm} (hN : XN N T nG nB nV nT ln) (hI : TI T nG nB nV nP dy)  (d0 w : Int32) : CT l g yX6_wind cX6_wind 4 (some .int) (RM 2 0 0) [.ref (sh.2.2 100), .int d0, .int w] sh N (QX g sh N nG nB nV nT ln (mWind T d0 w)) := by
  refine ent hg (by decide +kernel) (Nat.le_of_ble_eq_true rfl) ?_
  intro p e s m args below meth c C hname
  generalize hRES : mWind T d0 w = RES
  refine j_iload_n C dX6_wind_0 rfl ?_
  refine j_iconst C dX6_wind_1 (v := 0) (by decide) ?_
  refine j_bipush C dX6_wind_2 (v := 29) (by decide) ?_
  refine j_callS3I C ml_X6_57 dX6_wind_4 (cX_within hg _ _ _) ⟨Nat.le_of_ble_eq_true rfl, Nat.le_of_ble_eq_true rfl⟩ (Nat.le_of_ble_eq_true rfl) ⟨rfl, rfl⟩ ⟨Nat.zero_le _, Nat.zero_le _⟩ ?_
  refine j_if_eq (tgt := 21) C dX6_wind_7 (by decide) (fun h7 => ?_) (fun h7 => ?_)
  · replace h7 := b2_eq0.mp h7
    refine j_bipush C dX6_wind_21 (v := (-100)) (by decide) ?_
    rw [mWind, if_neg h7] at hRES
    subst hRES
    exact j_iret C dX6_wind_23 rfl ⟨rfl, rfl, hN, FRN.rfl N⟩
  · replace h7 := b2_ne0.mp h7
    refine j_iload_n C dX6_wind_10 rfl ?_
    refine j_bipush C dX6_wind_11 (v := (-9)) (by decide) ?_
    refine j_bipush C dX6_wind_13 (v := 9) (by decide) ?_
    refine j_callS3I C ml_X6_57 dX6_wind_15 (cX_within hg _ _ _) ⟨Nat.le_of_ble_eq_true rfl, Nat.le_of_ble_eq_true rfl⟩ (Nat.le_of_ble_eq_true rfl) ⟨rfl, rfl⟩ ⟨Nat.zero_le _, Nat.zero_le _⟩ ?_
    refine j_if_ne (tgt := 24) C dX6_wind_18 (by decide) (fun h18 => ?_) (fun h18 => ?_)
    · replace h18 := b2_ne0.mp h18
      refine j_aload_n C dX6_wind_24 rfl ?_
      refine j_getR (j := 104) C fl_X6_19 dX6_wind_25 (X.c (by decide)) rfl (X.r (by decide)) ?_
      refine j_iload_n C dX6_wind_28 rfl ?_
      refine j_iald C (X.a (i := 104) (n := 30) (by decide)) (inC h7 rfl (by decide)) dX6_wind_29 ?_
      rw [hN.2.1.2.2.2]
      refine j_istore_n C dX6_wind_30 (by decide) rfl ?_
      refine j_aload_n C dX6_wind_31 rfl ?_
      refine j_getR (j := 104) C fl_X6_19 dX6_wind_32 (X.c (by decide)) rfl (X.r (by decide)) ?_
      refine j_iload_n C dX6_wind_35 rfl ?_
      refine j_iload_n C dX6_wind_36 rfl ?_
      refine j_iast C (X.a (i := 104) (n := 30) (by decide)) (inC h7 rfl (by decide)) dX6_wind_37 ?_
      refine j_iload_n C dX6_wind_38 rfl ?_
      rw [mWind, if_pos h7, if_pos h18] at hRES
      subst hRES
      exact j_iret C dX6_wind_39 rfl ⟨rfl, rfl, hN.wind X.nG8 X.nB3 X.nV3 _ _, FRN.u ⟨by decide, by decide⟩⟩
    · replace h18 := b2_eq0.mp (Decidable.not_not.mp h18)
      refine j_bipush C dX6_wind_21 (v := (-100)) (by decide) ?_
      rw [mWind, if_pos h7, if_neg h18] at hRES
      subst hRES
      exact j_iret C dX6_wind_23 rfl ⟨rfl, rfl, hN, FRN.rfl N⟩

theorem cX_coins {l : Launch} {g : WGp} (hg : GOK g) {sh : WSh} {N : WNm} {o : Nat → Nat} {nG nB nV kG kB kV : Nat} {ln : Nat → Nat} (X : XH o sh N nG nB nV kG kB kV ln) {nT nP dy : Nat} {T : WNm} (hN : XN N T nG nB nV nT ln) (hI : TI T nG nB nV nP dy)  (x : Int32) : CT l g yX6_coins cX6_coins 2 (some .int) (RM 3 0 0) [.ref (sh.2.2 100), .int x] sh N (QX g sh N nG nB nV nT ln (mCoins T x)) := by
  refine ent hg (by decide +kernel) (Nat.le_of_ble_eq_true rfl) ?_
  intro p e s m args below meth c C hname
  generalize hRES : mCoins T x = RES
  refine j_iload_n C dX6_coins_0 rfl ?_
  refine j_callS1I C ml_X6_52 dX6_coins_1 (cX_isPerson hg _) ⟨Nat.le_of_ble_eq_true rfl, Nat.le_of_ble_eq_true rfl⟩ (Nat.le_of_ble_eq_true rfl) ⟨rfl, rfl⟩ ⟨Nat.zero_le _, Nat.zero_le _⟩ ?_
  refine j_if_eq (tgt := 14) C dX6_coins_4 (by decide) (fun h4 => ?_) (fun h4 => ?_)
  · replace h4 := b2_eq0.mp h4
    refine j_iload_n C dX6_coins_14 rfl ?_
    refine j_bipush C dX6_coins_15 (v := 10) (by decide) ?_
    refine j_icmp_ne (tgt := 25) C dX6_coins_17 (by decide) (fun h17 => ?_) (fun h17 => ?_)
    · skip
      refine j_iload_n C dX6_coins_25 rfl ?_
      refine j_bipush C dX6_coins_26 (v := 11) (by decide) ?_
      refine j_icmp_ne (tgt := 38) C dX6_coins_28 (by decide) (fun h28 => ?_) (fun h28 => ?_)
      · skip
        refine j_ldc C kc_X6_61 dX6_coins_38 ?_
        rw [mCoins, if_neg h4, if_neg h17, if_neg h28] at hRES
        subst hRES
        exact j_iret C dX6_coins_40 rfl ⟨rfl, rfl, hN, FRN.rfl N⟩
      · replace h28 := Decidable.not_not.mp h28
        refine j_aload_n C dX6_coins_31 rfl ?_
        refine j_getI C fl_X6_62 dX6_coins_32 (X.c (by decide)) rfl ?_
        rw [hN.1.2.1]
        refine j_goto (tgt := 40) C dX6_coins_35 (by decide) ?_
        rw [mCoins, if_neg h4, if_neg h17, if_pos h28] at hRES
        subst hRES
        exact j_iret C dX6_coins_40 rfl ⟨rfl, rfl, hN, FRN.rfl N⟩
    · replace h17 := Decidable.not_not.mp h17
      refine j_aload_n C dX6_coins_20 rfl ?_
      refine j_getI C fl_X6_101 dX6_coins_21 (X.c (by decide)) rfl ?_
      rw [hN.1.1]
      rw [mCoins, if_neg h4, if_pos h17] at hRES
      subst hRES
      exact j_iret C dX6_coins_24 rfl ⟨rfl, rfl, hN, FRN.rfl N⟩
  · replace h4 := b2_ne0.mp h4
    refine j_aload_n C dX6_coins_7 rfl ?_
    refine j_getR (j := 101) C fl_X6_9 dX6_coins_8 (X.c (by decide)) rfl (X.r (by decide)) ?_
    refine j_iload_n C dX6_coins_11 rfl ?_
    refine j_iald C (X.a (i := 101) (n := 10) (by decide)) (inC h4 rfl (by decide)) dX6_coins_12 ?_
    rw [hN.2.1.1]
    rw [mCoins, if_pos h4] at hRES
    subst hRES
    exact j_iret C dX6_coins_13 rfl ⟨rfl, rfl, hN, FRN.rfl N⟩

theorem cX_galleyOfS {l : Launch} {g : WGp} (hg : GOK g) {sh : WSh} {N : WNm} {o : Nat → Nat} {nG nB nV kG kB kV : Nat} {ln : Nat → Nat} (X : XH o sh N nG nB nV kG kB kV ln) {x : Int32} (hx : 0 ≤ x ∧ x ≤ nI nG - 1) : CT l g yX6_galleyOf cX6_galleyOf 2 (some (.object "GalleyConvoy$Galley")) (RM 4 0 0) [.ref (sh.2.2 100), .int x] sh N (QFr g sh N (some (1000 + tn x))) := by
  refine ent hg (by decide +kernel) (Nat.le_of_ble_eq_true rfl) ?_
  intro p e s m args below meth c C hname
  obtain ⟨hlt, e1⟩ := rngT hx rfl (Nat.le_trans X.nG8 (by decide))
  refine j_iload_n C dX6_galleyOf_0 rfl ?_
  refine j_iconst C dX6_galleyOf_1 (v := 0) (by decide) ?_
  refine j_aload_n C dX6_galleyOf_2 rfl ?_
  refine j_getR (j := 105) C fl_X6_25 dX6_galleyOf_3 (X.c (by decide)) rfl (X.r (by decide)) ?_
  refine j_callV0I C ml_X6_73 dX6_galleyOf_6 (cJ_size hg X.lg.1.1) (⟨by rw [X.lg.1.1]; decide, by rw [X.lg.1.1]; rfl⟩) ⟨Nat.le_of_ble_eq_true rfl, Nat.le_of_ble_eq_true rfl⟩ (Nat.le_of_ble_eq_true rfl) ⟨rfl, rfl⟩ ⟨Nat.zero_le _, Nat.zero_le _⟩ ?_
  rw [X.zG]
  refine j_iconst C dX6_galleyOf_9 (v := 1) (by decide) ?_
  refine j_isub C dX6_galleyOf_10 ?_
  refine j_callS3I C ml_X6_57 dX6_galleyOf_11 (cX_within hg _ _ _) ⟨Nat.le_of_ble_eq_true rfl, Nat.le_of_ble_eq_true rfl⟩ (Nat.le_of_ble_eq_true rfl) ⟨rfl, rfl⟩ ⟨Nat.zero_le _, Nat.zero_le _⟩ ?_
  refine j_if_eq (tgt := 31) C dX6_galleyOf_14 (by decide) (fun h14 => ?_) (fun h14 => ?_)
  · replace h14 := b2_eq0.mp h14
    exact absurd hx h14
  · replace h14 := b2_ne0.mp h14
    refine j_aload_n C dX6_galleyOf_17 rfl ?_
    refine j_getR (j := 105) C fl_X6_25 dX6_galleyOf_18 (X.c (by decide)) rfl (X.r (by decide)) ?_
    refine j_iload_n C dX6_galleyOf_21 rfl ?_
    refine j_callV1RS (x := 1000 + tn x) C ml_X6_213 dX6_galleyOf_22 (by have z := cX_lget (l := l) hg X.lg hlt; rw [← e1] at z; exact z) ⟨by rw [X.lg.1.1]; decide, by rw [X.lg.1.1]; rfl⟩ ⟨Nat.le_of_ble_eq_true rfl, Nat.le_of_ble_eq_true rfl⟩ (Nat.le_of_ble_eq_true rfl) ⟨rfl, rfl⟩ ⟨Nat.zero_le _, Nat.zero_le _⟩ ?_
    refine j_cast C cl_X6_77 (X.g hlt) dX6_galleyOf_25 ?_
    refine j_goto (tgt := 32) C dX6_galleyOf_28 (by decide) ?_
    exact j_aret (i := 1000 + tn x) C dX6_galleyOf_32 (Or.inl ⟨_, rfl⟩) ⟨rfl, rfl, rfl⟩

theorem cX_galleyOfN {l : Launch} {g : WGp} (hg : GOK g) {sh : WSh} {N : WNm} {o : Nat → Nat} {nG nB nV kG kB kV : Nat} {ln : Nat → Nat} (X : XH o sh N nG nB nV kG kB kV ln) {x : Int32} (hx : ¬ (0 ≤ x ∧ x ≤ nI nG - 1)) : CT l g yX6_galleyOf cX6_galleyOf 2 (some (.object "GalleyConvoy$Galley")) (RM 4 0 0) [.ref (sh.2.2 100), .int x] sh N (QFr g sh N none) := by
  refine ent hg (by decide +kernel) (Nat.le_of_ble_eq_true rfl) ?_
  intro p e s m args below meth c C hname
  refine j_iload_n C dX6_galleyOf_0 rfl ?_
  refine j_iconst C dX6_galleyOf_1 (v := 0) (by decide) ?_
  refine j_aload_n C dX6_galleyOf_2 rfl ?_
  refine j_getR (j := 105) C fl_X6_25 dX6_galleyOf_3 (X.c (by decide)) rfl (X.r (by decide)) ?_
  refine j_callV0I C ml_X6_73 dX6_galleyOf_6 (cJ_size hg X.lg.1.1) (⟨by rw [X.lg.1.1]; decide, by rw [X.lg.1.1]; rfl⟩) ⟨Nat.le_of_ble_eq_true rfl, Nat.le_of_ble_eq_true rfl⟩ (Nat.le_of_ble_eq_true rfl) ⟨rfl, rfl⟩ ⟨Nat.zero_le _, Nat.zero_le _⟩ ?_
  rw [X.zG]
  refine j_iconst C dX6_galleyOf_9 (v := 1) (by decide) ?_
  refine j_isub C dX6_galleyOf_10 ?_
  refine j_callS3I C ml_X6_57 dX6_galleyOf_11 (cX_within hg _ _ _) ⟨Nat.le_of_ble_eq_true rfl, Nat.le_of_ble_eq_true rfl⟩ (Nat.le_of_ble_eq_true rfl) ⟨rfl, rfl⟩ ⟨Nat.zero_le _, Nat.zero_le _⟩ ?_
  refine j_if_eq (tgt := 31) C dX6_galleyOf_14 (by decide) (fun h14 => ?_) (fun h14 => ?_)
  · replace h14 := b2_eq0.mp h14
    refine j_anull C dX6_galleyOf_31 ?_
    exact j_aretN C dX6_galleyOf_32 (Or.inl ⟨_, rfl⟩) ⟨rfl, rfl, rfl⟩
  · replace h14 := b2_ne0.mp h14
    exact absurd h14 hx

theorem cX_baleOfS {l : Launch} {g : WGp} (hg : GOK g) {sh : WSh} {N : WNm} {o : Nat → Nat} {nG nB nV kG kB kV : Nat} {ln : Nat → Nat} (X : XH o sh N nG nB nV kG kB kV ln) {x : Int32} (hx : 0 ≤ x ∧ x ≤ nI nB - 1) : CT l g yX6_baleOf cX6_baleOf 2 (some (.object "GalleyConvoy$Bale")) (RM 4 0 0) [.ref (sh.2.2 100), .int x] sh N (QFr g sh N (some (2000 + tn x))) := by
  refine ent hg (by decide +kernel) (Nat.le_of_ble_eq_true rfl) ?_
  intro p e s m args below meth c C hname
  obtain ⟨hlt, e1⟩ := rngT hx rfl (Nat.le_trans X.nB3 (by decide))
  refine j_iload_n C dX6_baleOf_0 rfl ?_
  refine j_iconst C dX6_baleOf_1 (v := 0) (by decide) ?_
  refine j_aload_n C dX6_baleOf_2 rfl ?_
  refine j_getR (j := 106) C fl_X6_29 dX6_baleOf_3 (X.c (by decide)) rfl (X.r (by decide)) ?_
  refine j_callV0I C ml_X6_73 dX6_baleOf_6 (cJ_size hg X.lb.1.1) (⟨by rw [X.lb.1.1]; decide, by rw [X.lb.1.1]; rfl⟩) ⟨Nat.le_of_ble_eq_true rfl, Nat.le_of_ble_eq_true rfl⟩ (Nat.le_of_ble_eq_true rfl) ⟨rfl, rfl⟩ ⟨Nat.zero_le _, Nat.zero_le _⟩ ?_
  rw [X.zB]
  refine j_iconst C dX6_baleOf_9 (v := 1) (by decide) ?_
  refine j_isub C dX6_baleOf_10 ?_
  refine j_callS3I C ml_X6_57 dX6_baleOf_11 (cX_within hg _ _ _) ⟨Nat.le_of_ble_eq_true rfl, Nat.le_of_ble_eq_true rfl⟩ (Nat.le_of_ble_eq_true rfl) ⟨rfl, rfl⟩ ⟨Nat.zero_le _, Nat.zero_le _⟩ ?_
  refine j_if_eq (tgt := 31) C dX6_baleOf_14 (by decide) (fun h14 => ?_) (fun h14 => ?_)
  · replace h14 := b2_eq0.mp h14
    exact absurd hx h14
  · replace h14 := b2_ne0.mp h14
    refine j_aload_n C dX6_baleOf_17 rfl ?_
    refine j_getR (j := 106) C fl_X6_29 dX6_baleOf_18 (X.c (by decide)) rfl (X.r (by decide)) ?_
    refine j_iload_n C dX6_baleOf_21 rfl ?_
    refine j_callV1RS (x := 2000 + tn x) C ml_X6_213 dX6_baleOf_22 (by have z := cX_lget (l := l) hg X.lb hlt; rw [← e1] at z; exact z) ⟨by rw [X.lb.1.1]; decide, by rw [X.lb.1.1]; rfl⟩ ⟨Nat.le_of_ble_eq_true rfl, Nat.le_of_ble_eq_true rfl⟩ (Nat.le_of_ble_eq_true rfl) ⟨rfl, rfl⟩ ⟨Nat.zero_le _, Nat.zero_le _⟩ ?_
    refine j_cast C cl_X6_120 (X.b hlt) dX6_baleOf_25 ?_
    refine j_goto (tgt := 32) C dX6_baleOf_28 (by decide) ?_
    exact j_aret (i := 2000 + tn x) C dX6_baleOf_32 (Or.inl ⟨_, rfl⟩) ⟨rfl, rfl, rfl⟩

theorem cX_baleOfN {l : Launch} {g : WGp} (hg : GOK g) {sh : WSh} {N : WNm} {o : Nat → Nat} {nG nB nV kG kB kV : Nat} {ln : Nat → Nat} (X : XH o sh N nG nB nV kG kB kV ln) {x : Int32} (hx : ¬ (0 ≤ x ∧ x ≤ nI nB - 1)) : CT l g yX6_baleOf cX6_baleOf 2 (some (.object "GalleyConvoy$Bale")) (RM 4 0 0) [.ref (sh.2.2 100), .int x] sh N (QFr g sh N none) := by
  refine ent hg (by decide +kernel) (Nat.le_of_ble_eq_true rfl) ?_
  intro p e s m args below meth c C hname
  refine j_iload_n C dX6_baleOf_0 rfl ?_
  refine j_iconst C dX6_baleOf_1 (v := 0) (by decide) ?_
  refine j_aload_n C dX6_baleOf_2 rfl ?_
  refine j_getR (j := 106) C fl_X6_29 dX6_baleOf_3 (X.c (by decide)) rfl (X.r (by decide)) ?_
  refine j_callV0I C ml_X6_73 dX6_baleOf_6 (cJ_size hg X.lb.1.1) (⟨by rw [X.lb.1.1]; decide, by rw [X.lb.1.1]; rfl⟩) ⟨Nat.le_of_ble_eq_true rfl, Nat.le_of_ble_eq_true rfl⟩ (Nat.le_of_ble_eq_true rfl) ⟨rfl, rfl⟩ ⟨Nat.zero_le _, Nat.zero_le _⟩ ?_
  rw [X.zB]
  refine j_iconst C dX6_baleOf_9 (v := 1) (by decide) ?_
  refine j_isub C dX6_baleOf_10 ?_
  refine j_callS3I C ml_X6_57 dX6_baleOf_11 (cX_within hg _ _ _) ⟨Nat.le_of_ble_eq_true rfl, Nat.le_of_ble_eq_true rfl⟩ (Nat.le_of_ble_eq_true rfl) ⟨rfl, rfl⟩ ⟨Nat.zero_le _, Nat.zero_le _⟩ ?_
  refine j_if_eq (tgt := 31) C dX6_baleOf_14 (by decide) (fun h14 => ?_) (fun h14 => ?_)
  · replace h14 := b2_eq0.mp h14
    refine j_anull C dX6_baleOf_31 ?_
    exact j_aretN C dX6_baleOf_32 (Or.inl ⟨_, rfl⟩) ⟨rfl, rfl, rfl⟩
  · replace h14 := b2_ne0.mp h14
    exact absurd h14 hx
