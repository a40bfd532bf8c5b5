/-! ===== THE CLASS: goByOneDay, day ===== -/
/-- how far the ranked row grows on a day -/
noncomputable def kDay (T : WNm) (nB nG k : Nat) : Nat → Nat
  | 0 => k
  | a + 1 => cif (mDayG T nB nG a 15 a = 1 ∧ mLeaves (mDayG T nB nG a) nG a ∧ ¬ mDayG T nB nG a 16 a = mDayG T nB nG a 0 5 - 1) (kTo (kDay T nB nG k a) (cW (mWish (mDayG T nB nG a) a) nB)) (kDay T nB nG k a)
theorem kDay_ge (T : WNm) (nB nG k a : Nat) : kDay T nB nG k a ≤ kDay T nB nG k (a + 1) := by
  rw [kDay]
  unfold cif
  split
  · exact (kTo_mono _ (Nat.zero_le _)).1
  · exact Nat.le_refl _
theorem kDay_mono (T : WNm) (nB nG k : Nat) {a b : Nat} (h : a ≤ b) : kDay T nB nG k a ≤ kDay T nB nG k b := by
  induction h with
  | refl => exact Nat.le_refl _
  | step h ih => exact Nat.le_trans ih (kDay_ge _ _ _ _ _)
theorem kDay_le (T : WNm) {nB nG k : Nat} (hk : k ≤ 10) (hB : nB ≤ 300) : ∀ a, kDay T nB nG k a ≤ 10
  | 0 => hk
  | a + 1 => by
    have ih := kDay_le T hk hB (nG := nG) a
    rw [kDay]
    unfold cif
    split
    · exact kTo_le ih _ (by have := cW_le (mWish (mDayG T nB nG a) a) nB; omega)
    · exact ih
theorem pot_anti : ∀ k, k < 11 → ∀ k', k' < 11 → k ≤ k' → pot k' ≤ pot k := by decide
/-- how far it grows over days -/
noncomputable def kDays (T : WNm) (nB nG k : Nat) : Nat → Nat
  | 0 => k
  | j + 1 => kDay (u2 (mDays T nB nG j) 0 1 (mDays T nB nG j 0 1 + 1)) nB nG (kDays T nB nG k j) nG
theorem kDays_le (T : WNm) {nB nG k : Nat} (hk : k ≤ 10) (hB : nB ≤ 300) : ∀ j, kDays T nB nG k j ≤ 10
  | 0 => hk
  | j + 1 => kDay_le _ (kDays_le T hk hB j) hB nG
theorem kDays_ge (T : WNm) (nB nG k j : Nat) : kDays T nB nG k j ≤ kDays T nB nG k (j + 1) := kDay_mono _ _ _ _ (Nat.zero_le nG)

theorem cX_goByOneDay {l : Launch} {g : WGp} (hg : GOK g) {sh : WSh} {N : WNm} {o : Nat → Nat} {nG nB nV kG kB kV : Nat} {ln : Nat → Nat} (X : XH o sh N nG nB nV kG kB kV ln) {nT nP dy : Nat} {T : WNm} (hN : XN N T nG nB nV nT ln) (hI : TI T nG nB nV nP dy) (hX : HX g o) (hX2 : HX2 g) {k : Nat} {rl0 : List Nat} (hK : LST sh N (o 2) 108 480 k (bn rl0)) (hrl : ∀ x ∈ rl0, x < nB) (hd : dy + 1 ≤ 2000) : CT l g yX6_goByOneDay cX6_goByOneDay 3 none (RM 10 ((kDay (u2 T 0 1 (T 0 1 + 1)) nB nG k nG) - k) (pot k - pot (kDay (u2 T 0 1 (T 0 1 + 1)) nB nG k nG))) [.ref (sh.2.2 100)] sh N (QV g (fun sh1 N1 => ∃ rl : List Nat, (∀ x ∈ rl, x < nB) ∧ LST sh1 N1 (o 2) 108 480 (kDay (u2 T 0 1 (T 0 1 + 1)) nB nG k nG) (bn rl) ∧ XH o sh1 N1 nG nB nV kG kB kV ln ∧ XN N1 (mDayG (u2 T 0 1 (T 0 1 + 1)) nB nG nG) nG nB nV nT ln ∧ FRK sh N sh1 N1)) := by
  refine ent hg (by decide +kernel) (Nat.le_of_ble_eq_true rfl) ?_
  intro p e s m args below meth c C hname
  have hG := X.nG8
  have hB := X.nB3
  have hk10 : k ≤ 10 := hK.1.2.1
  have hI1 := hI.next hd
  refine j_aload_n C dX6_goByOneDay_0 rfl ?_
  refine j_dup C dX6_goByOneDay_1 rfl ?_
  refine j_getI C fl_X6_122 dX6_goByOneDay_2 (X.c (by decide)) rfl ?_
  rw [hN.1.2.2.2]
  refine j_iconst C dX6_goByOneDay_5 (v := 1) (by decide) ?_
  refine j_iadd C dX6_goByOneDay_6 ?_
  refine j_putI C fl_X6_122 dX6_goByOneDay_7 (X.c (by decide)) rfl rfl rfl rfl ?_
  have hf0 := FRN.u (N := N) (i := 100) (k := 13) (v := T 0 1 + 1) ⟨by decide, by decide⟩
  have hF := hf0.k sh
  replace hN := hN.day X.nG8 X.nB3 X.nV3 (T 0 1 + 1)
  replace X := X.fr hf0
  replace hK := hK.cong (N1 := u2 N 100 13 (T 0 1 + 1)) (by rw [hf0.2 108 (by decide) (by decide)])
  obtain ⟨N1, eN⟩ : ∃ N1, N1 = u2 N 100 13 (T 0 1 + 1) := ⟨_, rfl⟩
  rw [← eN] at hN X hF hK
  rw [← eN]
  clear eN hf0
  refine j_iconst C dX6_goByOneDay_10 (v := 0) (by decide) ?_
  refine j_istore_n C dX6_goByOneDay_11 (by decide) rfl ?_
  suffices key : ∀ a, a ≤ nG → ∀ (sh1 : WSh) (N1 : WNm) (rl : List Nat), (∀ x ∈ rl, x < nB) → LST sh1 N1 (o 2) 108 480 (kDay (u2 T 0 1 (T 0 1 + 1)) nB nG k a) (bn rl) → XH o sh1 N1 nG nB nV kG kB kV ln → XN N1 (mDayG (u2 T 0 1 (T 0 1 + 1)) nB nG a) nG nB nV nT ln → FRK sh N sh1 N1 → J p l e (RM 10 ((kDay (u2 T 0 1 (T 0 1 + 1)) nB nG k nG) - k) (pot k - pot (kDay (u2 T 0 1 (T 0 1 + 1)) nB nG k nG))) s m args below meth c (MQ below (QV g (fun sh1 N1 => ∃ rl : List Nat, (∀ x ∈ rl, x < nB) ∧ LST sh1 N1 (o 2) 108 480 (kDay (u2 T 0 1 (T 0 1 + 1)) nB nG k nG) (bn rl) ∧ XH o sh1 N1 nG nB nV kG kB kV ln ∧ XN N1 (mDayG (u2 T 0 1 (T 0 1 + 1)) nB nG nG) nG nB nV nT ln ∧ FRK sh N sh1 N1)) args s ((kDay (u2 T 0 1 (T 0 1 + 1)) nB nG k nG) - k) (pot k - pot (kDay (u2 T 0 1 (T 0 1 + 1)) nB nG k nG)) g.A) g 3 sh1 N1 ((kDay (u2 T 0 1 (T 0 1 + 1)) nB nG k a) - k) (pot k - pot (kDay (u2 T 0 1 (T 0 1 + 1)) nB nG k a)) 12 [some (.ref (sh1.2.2 100)), some (.int (nI a)), none] [] from by
    have z := key 0 (Nat.zero_le _) sh N1 rl0 hrl hK X hN hF
    rw [show kDay (u2 T 0 1 (T 0 1 + 1)) nB nG k 0 - k = 0 from Nat.sub_self _, show pot k - pot (kDay (u2 T 0 1 (T 0 1 + 1)) nB nG k 0) = 0 from Nat.sub_self _] at z
    refine J.le ?_ z
    exact ⟨rfl, rfl, trivial⟩
  clear hF X hN hK hrl
  refine up_ind (P := fun a => ∀ (sh1 : WSh) (N1 : WNm) (rl : List Nat), (∀ x ∈ rl, x < nB) → LST sh1 N1 (o 2) 108 480 (kDay (u2 T 0 1 (T 0 1 + 1)) nB nG k a) (bn rl) → XH o sh1 N1 nG nB nV kG kB kV ln → XN N1 (mDayG (u2 T 0 1 (T 0 1 + 1)) nB nG a) nG nB nV nT ln → FRK sh N sh1 N1 → J p l e (RM 10 ((kDay (u2 T 0 1 (T 0 1 + 1)) nB nG k nG) - k) (pot k - pot (kDay (u2 T 0 1 (T 0 1 + 1)) nB nG k nG))) s m args below meth c (MQ below (QV g (fun sh1 N1 => ∃ rl : List Nat, (∀ x ∈ rl, x < nB) ∧ LST sh1 N1 (o 2) 108 480 (kDay (u2 T 0 1 (T 0 1 + 1)) nB nG k nG) (bn rl) ∧ XH o sh1 N1 nG nB nV kG kB kV ln ∧ XN N1 (mDayG (u2 T 0 1 (T 0 1 + 1)) nB nG nG) nG nB nV nT ln ∧ FRK sh N sh1 N1)) args s ((kDay (u2 T 0 1 (T 0 1 + 1)) nB nG k nG) - k) (pot k - pot (kDay (u2 T 0 1 (T 0 1 + 1)) nB nG k nG)) g.A) g 3 sh1 N1 ((kDay (u2 T 0 1 (T 0 1 + 1)) nB nG k a) - k) (pot k - pot (kDay (u2 T 0 1 (T 0 1 + 1)) nB nG k a)) 12 [some (.ref (sh1.2.2 100)), some (.int (nI a)), none] []) (n := nG) ?_
  intro a ha0 ih sh1 N1 rl hrl hK X hN hF
  obtain ⟨Ta, eTa⟩ : ∃ Ta, Ta = mDayG (u2 T 0 1 (T 0 1 + 1)) nB nG a := ⟨_, rfl⟩
  have hI2 := hI1.dayG (nB := nB) a ha0
  have hp17 := dayG_pt (u2 T 0 1 (T 0 1 + 1)) nB nG a a (Nat.le_refl _)
  obtain ⟨ka, eka⟩ : ∃ ka, ka = (kDay (u2 T 0 1 (T 0 1 + 1)) nB nG k a) := ⟨_, rfl⟩
  have hka := kDay_mono (u2 T 0 1 (T 0 1 + 1)) nB nG k ha0
  have hka0 : k ≤ (kDay (u2 T 0 1 (T 0 1 + 1)) nB nG k a) := kDay_mono (u2 T 0 1 (T 0 1 + 1)) nB nG k (Nat.zero_le a)
  have hkn := kDay_le (u2 T 0 1 (T 0 1 + 1)) hk10 hB (nG := nG) nG
  have hp1 := pot_anti _ (show (kDay (u2 T 0 1 (T 0 1 + 1)) nB nG k a) < 11 by omega) _ (show (kDay (u2 T 0 1 (T 0 1 + 1)) nB nG k nG) < 11 by omega) hka
  have hp0 := pot_anti k (by omega) _ (show (kDay (u2 T 0 1 (T 0 1 + 1)) nB nG k a) < 11 by omega) hka0
  rw [← eka] at hK hka hka0 hp1 hp0
  rw [← eka]
  rw [← eTa] at hN hI2 hp17
  have cells_ok : ka - k ≤ (kDay (u2 T 0 1 (T 0 1 + 1)) nB nG k nG) - k := by omega
  have slots_ok : pot k - pot ka ≤ pot k - pot (kDay (u2 T 0 1 (T 0 1 + 1)) nB nG k nG) := by omega
  refine j_iload_n C dX6_goByOneDay_12 rfl ?_
  refine j_aload_n C dX6_goByOneDay_13 rfl ?_
  refine j_getR (j := 105) C fl_X6_25 dX6_goByOneDay_14 (X.c (by decide)) rfl (X.r (by decide)) ?_
  refine j_callV0I C ml_X6_73 dX6_goByOneDay_17 (cJ_size hg X.lg.1.1) (⟨by rw [X.lg.1.1]; decide, by rw [X.lg.1.1]; rfl⟩) ⟨Nat.le_of_ble_eq_true rfl, Nat.le_of_ble_eq_true rfl⟩ (Nat.le_of_ble_eq_true rfl) ⟨rfl, rfl⟩ ⟨cells_ok, slots_ok⟩ ?_
  rw [X.zG]
  refine j_icmp_ge (tgt := 86) C dX6_goByOneDay_20 (by decide) (fun h20 => ?_) (fun h20 => ?_)
  · skip
    rw [n_nle (by omega) (by omega)] at h20
    obtain rfl : a = nG := by omega
    subst eka
    subst eTa
    exact j_vret C dX6_goByOneDay_86 ⟨rl, hrl, hK, X, hN, hF⟩
  · skip
    rw [n_nle (by omega) (by omega)] at h20
    have ha : a < nG := by omega
    refine j_aload_n C dX6_goByOneDay_23 rfl ?_
    refine j_getR (j := 105) C fl_X6_25 dX6_goByOneDay_24 (X.c (by decide)) rfl (X.r (by decide)) ?_
    refine j_iload_n C dX6_goByOneDay_27 rfl ?_
    refine j_callV1RS (x := 1000 + a) C ml_X6_213 dX6_goByOneDay_28 (cX_lget hg X.lg ha) ⟨by rw [X.lg.1.1]; decide, by rw [X.lg.1.1]; rfl⟩ ⟨Nat.le_of_ble_eq_true rfl, Nat.le_of_ble_eq_true rfl⟩ (Nat.le_of_ble_eq_true rfl) ⟨rfl, rfl⟩ ⟨cells_ok, slots_ok⟩ ?_
    refine j_cast C cl_X6_77 (X.g ha) dX6_goByOneDay_31 ?_
    refine j_astore_n C dX6_goByOneDay_34 (by decide) rfl ?_
    refine j_aload_n C dX6_goByOneDay_35 rfl ?_
    refine j_getI C fl_X6_166 dX6_goByOneDay_36 (X.g ha) rfl ?_
    rw [show N1 (1000 + a) 9 = Ta 15 a from hN.g ha (f := 9) (r := 15) (by decide)]
    refine j_iconst C dX6_goByOneDay_39 (v := 2) (by decide) ?_
    refine j_icmp_ne (tgt := 51) C dX6_goByOneDay_40 (by decide) (fun h40 => ?_) (fun h40 => ?_)
    · skip
      refine j_aload_n C dX6_goByOneDay_51 rfl ?_
      refine j_getI C fl_X6_166 dX6_goByOneDay_52 (X.g ha) rfl ?_
      rw [show N1 (1000 + a) 9 = Ta 15 a from hN.g ha (f := 9) (r := 15) (by decide)]
      refine j_iconst C dX6_goByOneDay_55 (v := 1) (by decide) ?_
      refine j_icmp_ne (tgt := 80) C dX6_goByOneDay_56 (by decide) (fun h56 => ?_) (fun h56 => ?_)
      · skip
        refine j_iincN C dX6_goByOneDay_80 rfl (by decide) rfl ?_
        refine j_goto (tgt := 12) C dX6_goByOneDay_83 (by decide) ?_
        have ek : kDay (u2 T 0 1 (T 0 1 + 1)) nB nG k (a + 1) = ka := by
          rw [kDay, ← eTa, ← eka]
          exact cif_neg (fun z => h56 z.1)
        rw [← ek] at hK
        rw [← ek]
        have y := ih (by omega) sh1 N1 rl hrl (hK) (X) (by rw [mDayG, ← eTa, if_neg h40, if_neg h56]; exact hN) (hF)
        refine J.le ?_ y
        exact ⟨rfl, rfl, trivial⟩
      · replace h56 := Decidable.not_not.mp h56
        refine j_aload_n C dX6_goByOneDay_59 rfl ?_
        refine j_aload_n C dX6_goByOneDay_60 rfl ?_
        refine j_callV1Ig C ml_X6_241 dX6_goByOneDay_61 (cX_hasStayed hg X hN hI2 hX ha h56) ⟨by rw [X.c (i := 100) (c := 6) (by decide)]; decide, by rw [X.c (i := 100) (c := 6) (by decide)]; rfl⟩ ⟨Nat.le_of_ble_eq_true rfl, Nat.le_of_ble_eq_true rfl⟩ (Nat.le_of_ble_eq_true rfl) ⟨rfl, rfl⟩ ⟨cells_ok, slots_ok⟩ (fun r9 sh9 N2 hq => ?_)
        obtain ⟨q1, q4, q2, q3⟩ := hq
        replace q1 := q1.symm
        subst q1
        subst q4
        replace X := X.fr q3
        replace hN := q2
        replace hK := hK.cong (N1 := N2) (by rw [q3.2 108 (by decide) (by decide)])
        replace hF := hF.trans (q3.k sh1)
        clear q3 q2
        refine j_if_eq (tgt := 80) C dX6_goByOneDay_64 (by decide) (fun h64 => ?_) (fun h64 => ?_)
        · replace h64 := pb_eq0.mp h64
          refine j_iincN C dX6_goByOneDay_80 rfl (by decide) rfl ?_
          refine j_goto (tgt := 12) C dX6_goByOneDay_83 (by decide) ?_
          have hlt17 : ¬ Ta 0 1 ≤ Ta 17 a := by
            have z1 := hp17.1.symm.trans h56
            rw [u2_row (by decide)] at z1
            obtain ⟨t0, ht0, et0⟩ := hI.2.2.2.2.2.2.2 a ha z1
            rw [hI2.d1, hp17.2, u2_row (by decide), et0, n_nle (by omega) (by omega)]
            omega
          have ek : kDay (u2 T 0 1 (T 0 1 + 1)) nB nG k (a + 1) = ka := by
            rw [kDay, ← eTa, ← eka]
            exact cif_neg (fun z => h64 z.2.1.1)
          rw [← ek] at hK
          rw [← ek]
          have y := ih (by omega) sh1 N2 rl hrl (hK) (X) (by rw [mDayG, ← eTa, if_neg h40, if_pos h56, if_neg hlt17, cif_neg (fun z => h64 z.1)]; exact hN) (hF)
          refine J.le ?_ y
          exact ⟨rfl, rfl, trivial⟩
        · replace h64 := pb_ne0.mp h64
          refine j_aload_n C dX6_goByOneDay_67 rfl ?_
          refine j_aload_n C dX6_goByOneDay_68 rfl ?_
          refine j_callV1Ig C ml_X6_245 dX6_goByOneDay_69 (cX_waits hg X hN hI2 hX ha h56) ⟨by rw [X.c (i := 100) (c := 6) (by decide)]; decide, by rw [X.c (i := 100) (c := 6) (by decide)]; rfl⟩ ⟨Nat.le_of_ble_eq_true rfl, Nat.le_of_ble_eq_true rfl⟩ (Nat.le_of_ble_eq_true rfl) ⟨rfl, rfl⟩ ⟨cells_ok, slots_ok⟩ (fun r9 sh9 N3 hq => ?_)
          obtain ⟨q1, q4, q2, q3⟩ := hq
          replace q1 := q1.symm
          subst q1
          subst q4
          replace X := X.fr q3
          replace hN := q2
          replace hK := hK.cong (N1 := N3) (by rw [q3.2 108 (by decide) (by decide)])
          replace hF := hF.trans (q3.k sh1)
          clear q3 q2
          refine j_if_ne (tgt := 80) C dX6_goByOneDay_72 (by decide) (fun h72 => ?_) (fun h72 => ?_)
          · replace h72 := pb_ne0.mp h72
            refine j_iincN C dX6_goByOneDay_80 rfl (by decide) rfl ?_
            refine j_goto (tgt := 12) C dX6_goByOneDay_83 (by decide) ?_
            have hlt17 : ¬ Ta 0 1 ≤ Ta 17 a := by
              have z1 := hp17.1.symm.trans h56
              rw [u2_row (by decide)] at z1
              obtain ⟨t0, ht0, et0⟩ := hI.2.2.2.2.2.2.2 a ha z1
              rw [hI2.d1, hp17.2, u2_row (by decide), et0, n_nle (by omega) (by omega)]
              omega
            have ek : kDay (u2 T 0 1 (T 0 1 + 1)) nB nG k (a + 1) = ka := by
              rw [kDay, ← eTa, ← eka]
              exact cif_neg (fun z => h72 z.2.1.2)
            rw [← ek] at hK
            rw [← ek]
            have y := ih (by omega) sh1 N3 rl hrl (hK) (X) (by rw [mDayG, ← eTa, if_neg h40, if_pos h56, if_neg hlt17, cif_neg (fun z => h72 z.2)]; exact hN) (hF)
            refine J.le ?_ y
            exact ⟨rfl, rfl, trivial⟩
          · replace h72 := pb_eq0.mp (Decidable.not_not.mp h72)
            replace h72 : ∀ o, o < nG → ¬ mHolds Ta a o := Classical.not_not.mp h72
            by_cases hlast : Ta 16 a = Ta 0 5 - 1
            · have hle := show mLeaves Ta nG a from ⟨h64, h72⟩
              refine j_aload_n C dX6_goByOneDay_75 rfl ?_
              refine j_aload_n C dX6_goByOneDay_76 rfl ?_
              refine j_callV1Vg C ml_X6_248 dX6_goByOneDay_77 (cX_leaveD hg X hN hI2 ha h56 hlast) ⟨by rw [X.c (i := 100) (c := 6) (by decide)]; decide, by rw [X.c (i := 100) (c := 6) (by decide)]; rfl⟩ ⟨Nat.le_of_ble_eq_true rfl, Nat.le_of_ble_eq_true rfl⟩ (Nat.le_of_ble_eq_true rfl) ⟨rfl, rfl⟩ ⟨cells_ok, slots_ok⟩ (fun sh9 N4 hq => ?_)
              obtain ⟨q1, q2, q3⟩ := hq
              replace q1 := q1.symm
              subst q1
              
              refine j_iincN C dX6_goByOneDay_80 rfl (by decide) rfl ?_
              refine j_goto (tgt := 12) C dX6_goByOneDay_83 (by decide) ?_
              have hlt17 : ¬ Ta 0 1 ≤ Ta 17 a := by
                have z1 := hp17.1.symm.trans h56
                rw [u2_row (by decide)] at z1
                obtain ⟨t0, ht0, et0⟩ := hI.2.2.2.2.2.2.2 a ha z1
                rw [hI2.d1, hp17.2, u2_row (by decide), et0, n_nle (by omega) (by omega)]
                omega
              have ek : kDay (u2 T 0 1 (T 0 1 + 1)) nB nG k (a + 1) = ka := by
                rw [kDay, ← eTa, ← eka]
                exact cif_neg (fun z => z.2.2 hlast)
              rw [← ek] at hK
              rw [← ek]
              have y := ih (by omega) sh1 N4 rl hrl (hK.cong (by rw [q3.2 108 (by decide) (by decide)])) (X.fr q3) (by rw [mDayG, ← eTa, if_neg h40, if_pos h56, if_neg hlt17, cif_pos hle]; exact q2) (hF.trans (q3.k sh1))
              refine J.le ?_ y
              exact ⟨rfl, rfl, trivial⟩
            · have hle := show mLeaves Ta nG a from ⟨h64, h72⟩
              refine j_aload_n C dX6_goByOneDay_75 rfl ?_
              refine j_aload_n C dX6_goByOneDay_76 rfl ?_
              have ek : kDay (u2 T 0 1 (T 0 1 + 1)) nB nG k (a + 1) = kTo ka (cW (mWish Ta a) nB) := by
                rw [kDay, ← eTa, ← eka]
                exact cif_pos ⟨h56, hle, hlast⟩
              have hm3 := cW_le (mWish Ta a) nB
              have hka1 : kTo ka (cW (mWish Ta a) nB) ≤ 10 := kTo_le (by omega) _ (by omega)
              have hsp := sTo_pot (k := ka) (by omega) (cW (mWish Ta a) nB) (by omega) hka1
              have hk3 : kTo ka (cW (mWish Ta a) nB) ≤ (kDay (u2 T 0 1 (T 0 1 + 1)) nB nG k nG) := by rw [← ek]; exact kDay_mono _ _ _ _ ha
              have hp3 := pot_anti _ (show kTo ka (cW (mWish Ta a) nB) < 11 by omega) _ (show (kDay (u2 T 0 1 (T 0 1 + 1)) nB nG k nG) < 11 by omega) hk3
              have hk4 : ka ≤ kTo ka (cW (mWish Ta a) nB) := (kTo_mono ka (Nat.zero_le _)).1
              refine j_callV1Vg (c1 := kTo ka (cW (mWish Ta a) nB) - k) (s1 := pot k - pot (kTo ka (cW (mWish Ta a) nB))) C ml_X6_248 dX6_goByOneDay_77 (cX_leaveS hg X hN hI2 hX hX2 hK ha h56 hlast) ⟨by rw [X.c (i := 100) (c := 6) (by decide)]; decide, by rw [X.c (i := 100) (c := 6) (by decide)]; rfl⟩ ⟨Nat.le_of_ble_eq_true rfl, Nat.le_of_ble_eq_true rfl⟩ (Nat.le_of_ble_eq_true rfl) ⟨by show ka - k + (kTo ka (cW (mWish Ta a) nB) - ka) = _; omega, by show pot k - pot ka + sTo ka (cW (mWish Ta a) nB) = _; omega⟩ ⟨by show _ ≤ (kDay (u2 T 0 1 (T 0 1 + 1)) nB nG k nG) - k; omega, by show _ ≤ pot k - pot (kDay (u2 T 0 1 (T 0 1 + 1)) nB nG k nG); omega⟩ (fun sh2 N4 hq => ?_)
              obtain ⟨rl2, q0, q1, q2, q3, q4⟩ := hq
              rw [← (q4.1 100 (by omega)).2]
              clear cells_ok slots_ok
              refine j_iincN C dX6_goByOneDay_80 rfl (by decide) rfl ?_
              refine j_goto (tgt := 12) C dX6_goByOneDay_83 (by decide) ?_
              have hlt17 : ¬ Ta 0 1 ≤ Ta 17 a := by
                have z1 := hp17.1.symm.trans h56
                rw [u2_row (by decide)] at z1
                obtain ⟨t0, ht0, et0⟩ := hI.2.2.2.2.2.2.2 a ha z1
                rw [hI2.d1, hp17.2, u2_row (by decide), et0, n_nle (by omega) (by omega)]
                omega
              rw [← ek] at q1
              rw [← ek]
              have y := ih (by omega) sh2 N4 rl2 q0 q1 q2 (by rw [mDayG, ← eTa, if_neg h40, if_pos h56, if_neg hlt17, cif_pos hle]; exact q3) (hF.trans q4)
              refine J.le ?_ y
              exact ⟨rfl, rfl, trivial⟩
    · replace h40 := Decidable.not_not.mp h40
      refine j_aload_n C dX6_goByOneDay_43 rfl ?_
      refine j_aload_n C dX6_goByOneDay_44 rfl ?_
      refine j_callV1Vg C ml_X6_238 dX6_goByOneDay_45 (cX_sailOn hg X hN hI2 ha h40) ⟨by rw [X.c (i := 100) (c := 6) (by decide)]; decide, by rw [X.c (i := 100) (c := 6) (by decide)]; rfl⟩ ⟨Nat.le_of_ble_eq_true rfl, Nat.le_of_ble_eq_true rfl⟩ (Nat.le_of_ble_eq_true rfl) ⟨rfl, rfl⟩ ⟨cells_ok, slots_ok⟩ (fun sh9 N2 hq => ?_)
      obtain ⟨q1, q2, q3⟩ := hq
      replace q1 := q1.symm
      subst q1
      
      refine j_goto (tgt := 80) C dX6_goByOneDay_48 (by decide) ?_
      refine j_iincN C dX6_goByOneDay_80 rfl (by decide) rfl ?_
      refine j_goto (tgt := 12) C dX6_goByOneDay_83 (by decide) ?_
      have ek : kDay (u2 T 0 1 (T 0 1 + 1)) nB nG k (a + 1) = ka := by
        rw [kDay, ← eTa, ← eka]
        exact cif_neg (fun z => absurd (h40.symm.trans z.1) (by decide))
      rw [← ek] at hK
      rw [← ek]
      have y := ih (by omega) sh1 N2 rl hrl (hK.cong (by rw [q3.2 108 (by decide) (by decide)])) (X.fr q3) (by rw [mDayG, ← eTa, if_pos h40]; exact q2) (hF.trans (q3.k sh1))
      refine J.le ?_ y
      exact ⟨rfl, rfl, trivial⟩

theorem cX_day {l : Launch} {g : WGp} (hg : GOK g) {sh : WSh} {N : WNm} {o : Nat → Nat} {nG nB nV kG kB kV : Nat} {ln : Nat → Nat} (X : XH o sh N nG nB nV kG kB kV ln) {nT nP dy : Nat} {T : WNm} (hN : XN N T nG nB nV nT ln) (hI : TI T nG nB nV nP dy) (hX : HX g o) (hX2 : HX2 g) {k : Nat} {rl0 : List Nat} (hK : LST sh N (o 2) 108 480 k (bn rl0)) (hrl : ∀ x ∈ rl0, x < nB) (n : Int32) : CT l g yX6_day cX6_day 3 (some .int) (RM 11 10 1084) [.ref (sh.2.2 100), .int n] sh N (QI g (fun r sh1 N1 => r = (mDay T n).1 ∧ ∃ (k1 : Nat) (rl : List Nat), (∀ x ∈ rl, x < nB) ∧ LST sh1 N1 (o 2) 108 480 k1 (bn rl) ∧ XH o sh1 N1 nG nB nV kG kB kV ln ∧ XN N1 (mDay T n).2 nG nB nV nT ln ∧ FRK sh N sh1 N1)) := by
  refine ent hg (by decide +kernel) (Nat.le_of_ble_eq_true rfl) ?_
  intro p e s m args below meth c C hname
  have hG := X.nG8
  have hB := X.nB3
  have hk10 : k ≤ 10 := hK.1.2.1
  have hdy := hI.1.2.2.2.2.1
  generalize hRES : mDay T n = RES
  refine j_iload_n C dX6_day_0 rfl ?_
  refine j_iconst C dX6_day_1 (v := 1) (by decide) ?_
  refine j_bipush C dX6_day_2 (v := 100) (by decide) ?_
  refine j_callS3I C ml_X6_57 dX6_day_4 (cX_within hg _ _ _) ⟨Nat.le_of_ble_eq_true rfl, Nat.le_of_ble_eq_true rfl⟩ (Nat.le_of_ble_eq_true rfl) ⟨rfl, rfl⟩ ⟨Nat.zero_le _, Nat.zero_le _⟩ ?_
  refine j_if_eq (tgt := 22) C dX6_day_7 (by decide) (fun h7 => ?_) (fun h7 => ?_)
  · replace h7 := b2_eq0.mp h7
    refine j_iconst C dX6_day_22 (v := (-1)) (by decide) ?_
    refine J.widen (k := 10) (n := 1084) (Nat.le_of_ble_eq_true rfl) (Nat.le_of_ble_eq_true rfl) ?_
    rw [mDay, if_neg h7] at hRES
    subst hRES
    exact j_iret C dX6_day_23 rfl ⟨rfl, k, rl0, hrl, hK, X, hN, FRK.rfl sh N⟩
  · replace h7 := b2_ne0.mp h7
    refine j_aload_n C dX6_day_10 rfl ?_
    refine j_getI C fl_X6_122 dX6_day_11 (X.c (by decide)) rfl ?_
    rw [hN.1.2.2.2]
    refine j_iload_n C dX6_day_14 rfl ?_
    refine j_iadd C dX6_day_15 ?_
    refine j_sipush C dX6_day_16 (v := 2000) (by decide) ?_
    refine j_icmp_le (tgt := 24) C dX6_day_19 (by decide) (fun h19 => ?_) (fun h19 => ?_)
    · skip
      refine j_iconst C dX6_day_24 (v := 0) (by decide) ?_
      refine j_istore_n C dX6_day_25 (by decide) rfl ?_
      obtain ⟨q, hq, e1, e2⟩ := rng100 h7
      have hnd : dy + q ≤ 2000 := by
        rw [hdy.1, e1, nI_add, show (2000 : Int32) = nI 2000 from rfl, n_nle (by omega) (by decide)] at h19
        exact h19
      suffices key : ∀ j, j ≤ q → ∀ (sh1 : WSh) (N1 : WNm) (rl : List Nat), (∀ x ∈ rl, x < nB) → LST sh1 N1 (o 2) 108 480 (kDays T nB nG k j) (bn rl) → XH o sh1 N1 nG nB nV kG kB kV ln → XN N1 (mDays T nB nG j) nG nB nV nT ln → FRK sh N sh1 N1 → J p l e (RM 11 10 1084) s m args below meth c (MQ below (QI g (fun r sh1 N1 => r = RES.1 ∧ ∃ (k1 : Nat) (rl : List Nat), (∀ x ∈ rl, x < nB) ∧ LST sh1 N1 (o 2) 108 480 k1 (bn rl) ∧ XH o sh1 N1 nG nB nV kG kB kV ln ∧ XN N1 RES.2 nG nB nV nT ln ∧ FRK sh N sh1 N1)) args s 10 1084 g.A) g 3 sh1 N1 ((kDays T nB nG k j) - k) (pot k - pot (kDays T nB nG k j)) 26 [some (.ref (sh1.2.2 100)), some (.int n), some (.int (nI j))] [] from by
        have z := key 0 (Nat.zero_le _) sh N rl0 hrl hK X hN (FRK.rfl sh N)
        rw [show kDays T nB nG k 0 - k = 0 from Nat.sub_self _, show pot k - pot (kDays T nB nG k 0) = 0 from Nat.sub_self _] at z
        exact z
      clear X hN hK hrl
      refine up_ind (P := fun j => ∀ (sh1 : WSh) (N1 : WNm) (rl : List Nat), (∀ x ∈ rl, x < nB) → LST sh1 N1 (o 2) 108 480 (kDays T nB nG k j) (bn rl) → XH o sh1 N1 nG nB nV kG kB kV ln → XN N1 (mDays T nB nG j) nG nB nV nT ln → FRK sh N sh1 N1 → J p l e (RM 11 10 1084) s m args below meth c (MQ below (QI g (fun r sh1 N1 => r = RES.1 ∧ ∃ (k1 : Nat) (rl : List Nat), (∀ x ∈ rl, x < nB) ∧ LST sh1 N1 (o 2) 108 480 k1 (bn rl) ∧ XH o sh1 N1 nG nB nV kG kB kV ln ∧ XN N1 RES.2 nG nB nV nT ln ∧ FRK sh N sh1 N1)) args s 10 1084 g.A) g 3 sh1 N1 ((kDays T nB nG k j) - k) (pot k - pot (kDays T nB nG k j)) 26 [some (.ref (sh1.2.2 100)), some (.int n), some (.int (nI j))] []) (n := q) ?_
      intro j hj0 ih sh1 N1 rl hrl hK X hN hF
      have hI2 := hI.days (nB := nB) j (by omega)
      have hkj : k ≤ (kDays T nB nG k j) := by
        clear ih hK hN
        induction j with
        | zero => exact Nat.le_refl _
        | succ j ihj => exact Nat.le_trans (ihj (by omega) (hI.days (nB := nB) j (by omega))) (kDays_ge _ _ _ _ _)
      have hkl := kDays_le T hk10 hB (nG := nG) j
      refine j_iload_n C dX6_day_26 rfl ?_
      refine j_iload_n C dX6_day_27 rfl ?_
      refine j_icmp_ge (tgt := 41) C dX6_day_28 (by decide) (fun h28 => ?_) (fun h28 => ?_)
      · skip
        rw [e1, n_nle (by omega) (by omega)] at h28
        obtain rfl : j = q := by omega
        refine j_aload_n C dX6_day_41 rfl ?_
        refine j_getI C fl_X6_122 dX6_day_42 (X.c (by decide)) rfl ?_
        rw [hN.1.2.2.2]
        have hp0 := pot_anti k (by omega) _ (show (kDays T nB nG k j) < 11 by omega) hkj
        have hpk := pot_anti 0 (by decide) k (by omega) (Nat.zero_le k)
        have hpz : pot 0 = 1084 := rfl
        refine J.widen (k := 10) (n := 1084) (by omega) (by omega) ?_
        rw [mDay, if_pos h7, if_pos h19, hI.b23, hI.g9, show tn (nI nB) = nB from nI_clamp (by omega), show tn (nI nG) = nG from nI_clamp (by omega), e2] at hRES
        subst hRES
        exact j_iret C dX6_day_45 rfl ⟨rfl, _, rl, hrl, hK, X, hN, hF⟩
      · skip
        rw [e1, n_nle (by omega) (by omega)] at h28
        refine j_aload_n C dX6_day_31 rfl ?_
        have hkl1 := kDays_le T hk10 hB (nG := nG) (j + 1)
        have hkg := kDays_ge T nB nG k j
        have hp1 := pot_anti _ (show (kDays T nB nG k j) < 11 by omega) _ (show (kDays T nB nG k (j + 1)) < 11 by omega) hkg
        have hp0 := pot_anti k (by omega) _ (show (kDays T nB nG k j) < 11 by omega) hkj
        have hpk := pot_anti 0 (by decide) k (by omega) (Nat.zero_le k)
        have hpz : pot 0 = 1084 := rfl
        refine j_callV0Vg (c1 := (kDays T nB nG k (j + 1)) - k) (s1 := pot k - pot (kDays T nB nG k (j + 1))) C ml_X6_189 dX6_day_32 (cX_goByOneDay hg X hN hI2 hX hX2 hK hrl (by omega)) ⟨by rw [X.c (i := 100) (c := 6) (by decide)]; decide, by rw [X.c (i := 100) (c := 6) (by decide)]; rfl⟩ ⟨Nat.le_of_ble_eq_true rfl, Nat.le_of_ble_eq_true rfl⟩ (Nat.le_of_ble_eq_true rfl) ⟨by show (kDays T nB nG k j) - k + ((kDays T nB nG k (j + 1)) - (kDays T nB nG k j)) = _; omega, by show pot k - pot (kDays T nB nG k j) + (pot (kDays T nB nG k j) - pot (kDays T nB nG k (j + 1))) = _; omega⟩ ⟨by show _ ≤ 10; omega, by show _ ≤ 1084; omega⟩ (fun sh2 N2 hq2 => ?_)
        obtain ⟨rl2, q0, q1, q2, q3, q4⟩ := hq2
        rw [← (q4.1 100 (by omega)).2]
        refine j_iincN C dX6_day_35 rfl (by decide) rfl ?_
        refine j_goto (tgt := 26) C dX6_day_38 (by decide) ?_
        exact ih (by omega) sh2 N2 rl2 q0 q1 q2 q3 (hF.trans q4)
    · skip
      refine j_iconst C dX6_day_22 (v := (-1)) (by decide) ?_
      refine J.widen (k := 10) (n := 1084) (Nat.le_of_ble_eq_true rfl) (Nat.le_of_ble_eq_true rfl) ?_
      rw [mDay, if_pos h7, if_neg h19] at hRES
      subst hRES
      exact j_iret C dX6_day_23 rfl ⟨rfl, k, rl0, hrl, hK, X, hN, FRK.rfl sh N⟩
