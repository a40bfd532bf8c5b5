/-! ===== THE CLASS: rankForLading ===== -/

theorem cX_rankForLading {l : Launch} {g : WGp} (hg : GOK g) {sh : WSh} {N : WNm} {o : Nat → Nat} {nG nB nV kG kB kV : Nat} {ln : Nat → Nat} (X : XH o sh N nG nB nV kG kB kV ln) {nT nP dy : Nat} {T : WNm} (hN : XN N T nG nB nV nT ln) (hI : TI T nG nB nV nP dy) (hX : HX g o) (hX2 : HX2 g) {k : Nat} {rl0 : List Nat} (hK : LST sh N (o 2) 108 480 k rl0) {a : Nat} (ha : a < nG) (hs : T 15 a = 1) : CT l g yX6_rankForLading cX6_rankForLading 6 none (RM 8 (kTo k (cW (mWish T a) nB) - k) (sTo k (cW (mWish T a) nB))) [.ref (sh.2.2 100), .ref (sh.2.2 (1000 + a))] sh N (QV g (fun sh1 N1 => ∃ rl : List Nat, rl.Pairwise (RB (mWish T a)) ∧ (∀ x, x ∈ rl ↔ x < nB ∧ 0 < mWish T a x) ∧ rl.length = (cW (mWish T a) nB) ∧ LST sh1 N1 (o 2) 108 480 (kTo k (cW (mWish T a) nB)) (bn rl) ∧ XH o sh1 N1 nG nB nV kG kB kV ln ∧ XN N1 T nG nB nV nT ln ∧ FRK sh N sh1 N1)) := by
  refine ent hg (by decide +kernel) (Nat.le_of_ble_eq_true rfl) ?_
  intro p e s m args below meth c C hname
  obtain ⟨rr, hr, hrr⟩ := hI.1.2.2.2.2.2.2 a ha (Or.inl hs)
  have ea : tn (nI a) = a := nI_clamp (by have := X.nG8; omega)
  have hG := X.nG8
  have hB := X.nB3
  have hV := X.nV3
  have hP12 := hI.1.2.2.2.1.2
  refine j_aload_n C dX6_rankForLading_0 rfl ?_
  refine j_getR (j := 108) C fl_X6_49 dX6_rankForLading_1 (X.c (by decide)) rfl (X.r (by decide)) ?_
  refine j_callV0Vg C ml_X6_313 dX6_rankForLading_4 (cJ_clear (o := o) hg hK (Or.inl (by decide)) X.rf) ⟨by rw [hK.1.1]; decide, by rw [hK.1.1]; rfl⟩ ⟨Nat.le_of_ble_eq_true rfl, Nat.le_of_ble_eq_true rfl⟩ (Nat.le_of_ble_eq_true rfl) ⟨rfl, rfl⟩ ⟨Nat.zero_le _, Nat.zero_le _⟩ (fun sh1 N1 hq => ?_)
  obtain ⟨hK1, hFx, hR1⟩ := hq
  replace X := X.frx hFx hR1
  replace hN := hN.cg X.nG8 X.nB3 X.nV3 hFx.eqn (fun _ _ => rfl)
  have hF := hFx.k
  rw [← (hFx.1 100 (by omega)).2, ← (hFx.1 (1000 + a) (by omega)).2]
  clear hK
  have hK : LST sh1 N1 (o 2) 108 480 (kTo k 0) (bn []) := hK1
  clear hK1 hFx hR1
  refine j_aload_n C dX6_rankForLading_7 rfl ?_
  refine j_aload_n C dX6_rankForLading_8 rfl ?_
  refine j_callV1V C ml_X6_169 dX6_rankForLading_9 (cX_lookAt hg X hN hI (a := a) ha) ⟨by rw [X.c (i := 100) (c := 6) (by decide)]; decide, by rw [X.c (i := 100) (c := 6) (by decide)]; rfl⟩ ⟨Nat.le_of_ble_eq_true rfl, Nat.le_of_ble_eq_true rfl⟩ (Nat.le_of_ble_eq_true rfl) ⟨rfl, rfl⟩ ⟨Nat.zero_le _, Nat.zero_le _⟩ ?_
  obtain ⟨hFn, hEn⟩ := tell_rows (lookG_rows N1 (1000 + a) (T 0 1) (mInPort T (T 16 (a)) nG))
  have hn := (NMQ.look hN ha X.nG8 hI.g9 hI.b23 X.nB3 0 : NMQ (xLookG N1 114 (1000 + a) (T 0 1) (mInPort T (T 16 (a)) nG)) T 0 (nI a) 0)
  replace hN := hN.cg X.nG8 X.nB3 X.nV3 hEn (fun _ _ => rfl)
  replace X := X.fr hFn
  replace hF := hF.trans (hFn.k sh1)
  replace hK := hK.cong (N1 := xLookG N1 114 (1000 + a) (T 0 1) (mInPort T (T 16 (a)) nG)) (by rw [hFn.2 108 (by decide) (by decide)])
  clear hEn hFn
  obtain ⟨N2, eN⟩ : ∃ N2, N2 = xLookG N1 114 (1000 + a) (T 0 1) (mInPort T (T 16 (a)) nG) := ⟨_, rfl⟩
  rw [← eN] at hn hN X hF hK
  rw [← eN]
  clear eN
  refine j_aload_n C dX6_rankForLading_12 rfl ?_
  refine j_iconst C dX6_rankForLading_13 (v := 1) (by decide) ?_
  refine j_aload_n C dX6_rankForLading_14 rfl ?_
  refine j_getI C fl_X6_180 dX6_rankForLading_15 (X.g ha) rfl ?_
  rw [hN.g ha (f := 10) (r := 16) (by decide)]
  rw [hrr]
  refine j_callV2I C ml_X6_162 dX6_rankForLading_18 (cX_inForce hg X hN hI 1 hr) (⟨by rw [X.c (i := 100) (c := 6) (by decide)]; decide, by rw [X.c (i := 100) (c := 6) (by decide)]; rfl⟩) ⟨Nat.le_of_ble_eq_true rfl, Nat.le_of_ble_eq_true rfl⟩ (Nat.le_of_ble_eq_true rfl) ⟨rfl, rfl⟩ ⟨Nat.zero_le _, Nat.zero_le _⟩ ?_
  refine j_istore_n C dX6_rankForLading_21 (by decide) rfl ?_
  refine j_iconst C dX6_rankForLading_22 (v := 0) (by decide) ?_
  refine j_istore_n C dX6_rankForLading_23 (by decide) rfl ?_
  suffices key : ∀ b, b ≤ nB → ∀ (sh1 : WSh) (N1 : WNm) (rl : List Nat) (k0 z : Int32), LST sh1 N1 (o 2) 108 480 (kTo k (cW (mWish T a) b)) (bn rl) → XH o sh1 N1 nG nB nV kG kB kV ln → XN N1 T nG nB nV nT ln → FRK sh N sh1 N1 → NMQ N1 T k0 (nI a) z → ¬ k0 = 2 → rl.Pairwise (RB (mWish T a)) → (∀ x, x ∈ rl ↔ x < b ∧ 0 < mWish T a x) → rl.length = (cW (mWish T a) b) → (∀ x ∈ rl, N1 (2000 + x) 12 = mWish T a x) → J p l e (RM 8 (kTo k (cW (mWish T a) nB) - k) (sTo k (cW (mWish T a) nB))) s m args below meth c (MQ below (QV g (fun sh1 N1 => ∃ rl : List Nat, rl.Pairwise (RB (mWish T a)) ∧ (∀ x, x ∈ rl ↔ x < nB ∧ 0 < mWish T a x) ∧ rl.length = (cW (mWish T a) nB) ∧ LST sh1 N1 (o 2) 108 480 (kTo k (cW (mWish T a) nB)) (bn rl) ∧ XH o sh1 N1 nG nB nV kG kB kV ln ∧ XN N1 T nG nB nV nT ln ∧ FRK sh N sh1 N1)) args s (kTo k (cW (mWish T a) nB) - k) (sTo k (cW (mWish T a) nB)) g.A) g 6 sh1 N1 (kTo k (cW (mWish T a) b) - k) (sTo k (cW (mWish T a) b)) 24 [some (.ref (sh1.2.2 100)), some (.ref (sh1.2.2 (1000 + a))), some (.int (mKnown T 1 rr nV)), some (.int (nI b)), none, none] [] from by
    have z := key 0 (Nat.zero_le _) sh1 N2 [] 0 0 hK X hN hF hn (by decide) List.Pairwise.nil (fun x => ⟨fun h => (by cases h), fun h => absurd h.1 (Nat.not_lt_zero _)⟩) rfl (fun x h => (by cases h))
    rw [show kTo k (cW (mWish T a) 0) - k = 0 from Nat.sub_self _] at z
    refine J.le ?_ z
    exact ⟨rfl, rfl, rfl, rfl, trivial⟩
  clear hn hF X hN hK
  refine up_ind (P := fun b => ∀ (sh1 : WSh) (N1 : WNm) (rl : List Nat) (k0 z : Int32), LST sh1 N1 (o 2) 108 480 (kTo k (cW (mWish T a) b)) (bn rl) → XH o sh1 N1 nG nB nV kG kB kV ln → XN N1 T nG nB nV nT ln → FRK sh N sh1 N1 → NMQ N1 T k0 (nI a) z → ¬ k0 = 2 → rl.Pairwise (RB (mWish T a)) → (∀ x, x ∈ rl ↔ x < b ∧ 0 < mWish T a x) → rl.length = (cW (mWish T a) b) → (∀ x ∈ rl, N1 (2000 + x) 12 = mWish T a x) → J p l e (RM 8 (kTo k (cW (mWish T a) nB) - k) (sTo k (cW (mWish T a) nB))) s m args below meth c (MQ below (QV g (fun sh1 N1 => ∃ rl : List Nat, rl.Pairwise (RB (mWish T a)) ∧ (∀ x, x ∈ rl ↔ x < nB ∧ 0 < mWish T a x) ∧ rl.length = (cW (mWish T a) nB) ∧ LST sh1 N1 (o 2) 108 480 (kTo k (cW (mWish T a) nB)) (bn rl) ∧ XH o sh1 N1 nG nB nV kG kB kV ln ∧ XN N1 T nG nB nV nT ln ∧ FRK sh N sh1 N1)) args s (kTo k (cW (mWish T a) nB) - k) (sTo k (cW (mWish T a) nB)) g.A) g 6 sh1 N1 (kTo k (cW (mWish T a) b) - k) (sTo k (cW (mWish T a) b)) 24 [some (.ref (sh1.2.2 100)), some (.ref (sh1.2.2 (1000 + a))), some (.int (mKnown T 1 rr nV)), some (.int (nI b)), none, none] []) (n := nB) ?_
  intro b hb0 ih sh1 N1 rl k0 z hK X hN hF hn hk0 hp hmem hlen hW
  have cells_ok : kTo k (cW (mWish T a) b) - k ≤ kTo k (cW (mWish T a) nB) - k := by have := (kTo_mono k (cW_mono (mWish T a) hb0)).1; omega
  have slots_ok : sTo k (cW (mWish T a) b) ≤ sTo k (cW (mWish T a) nB) := (kTo_mono k (cW_mono (mWish T a) hb0)).2
  refine j_iload_n C dX6_rankForLading_24 rfl ?_
  refine j_aload_n C dX6_rankForLading_25 rfl ?_
  refine j_getR (j := 106) C fl_X6_29 dX6_rankForLading_26 (X.c (by decide)) rfl (X.r (by decide)) ?_
  refine j_callV0I C ml_X6_73 dX6_rankForLading_29 (cJ_size hg X.lb.1.1) (⟨by rw [X.lb.1.1]; decide, by rw [X.lb.1.1]; rfl⟩) ⟨Nat.le_of_ble_eq_true rfl, Nat.le_of_ble_eq_true rfl⟩ (Nat.le_of_ble_eq_true rfl) ⟨rfl, rfl⟩ ⟨cells_ok, slots_ok⟩ ?_
  rw [X.zB]
  refine j_icmp_ge (tgt := 108) C dX6_rankForLading_32 (by decide) (fun h32 => ?_) (fun h32 => ?_)
  · skip
    rw [n_nle (by omega) (by omega)] at h32
    obtain rfl : b = nB := by omega
    exact j_vret C dX6_rankForLading_108 ⟨rl, hp, hmem, hlen, hK, X, hN, hF⟩
  · skip
    rw [n_nle (by omega) (by omega)] at h32
    have hb : b < nB := by omega
    have eb : tn (nI b) = b := nI_clamp (by omega)
    refine j_aload_n C dX6_rankForLading_35 rfl ?_
    refine j_getR (j := 106) C fl_X6_29 dX6_rankForLading_36 (X.c (by decide)) rfl (X.r (by decide)) ?_
    refine j_iload_n C dX6_rankForLading_39 rfl ?_
    refine j_callV1RS (x := 2000 + b) C ml_X6_213 dX6_rankForLading_40 (cX_lget hg X.lb hb) ⟨by rw [X.lb.1.1]; decide, by rw [X.lb.1.1]; rfl⟩ ⟨Nat.le_of_ble_eq_true rfl, Nat.le_of_ble_eq_true rfl⟩ (Nat.le_of_ble_eq_true rfl) ⟨rfl, rfl⟩ ⟨cells_ok, slots_ok⟩ ?_
    refine j_cast C cl_X6_120 (X.b hb) dX6_rankForLading_43 ?_
    refine j_astore C dX6_rankForLading_46 (by decide) rfl ?_
    refine j_aload C dX6_rankForLading_48 rfl ?_
    refine j_getI C fl_X6_217 dX6_rankForLading_50 (X.b hb) rfl ?_
    rw [show N1 (2000 + b) 9 = T 34 b from hN.b hb (f := 9) (by decide)]
    refine j_if_ne (tgt := 102) C dX6_rankForLading_53 (by decide) (fun h53 => ?_) (fun h53 => ?_)
    · skip
      refine j_iincN C dX6_rankForLading_102 rfl (by decide) rfl ?_
      refine j_goto (tgt := 24) C dX6_rankForLading_105 (by decide) ?_
      have hno : ¬ 0 < mWish T a b := by rw [mWish, if_neg h53]; decide
      have ec : cW (mWish T a) (b + 1) = cW (mWish T a) b := if_neg hno
      rw [← ec] at hK
      rw [← ec]
      have y := ih (by omega) sh1 N1 rl k0 z hK X hN hF hn hk0 hp (fun x => by
        rw [hmem x]
        constructor
        · rintro ⟨z1, z2⟩; exact ⟨by omega, z2⟩
        · rintro ⟨z1, z2⟩
          refine ⟨?_, z2⟩
          rcases Nat.lt_succ_iff_lt_or_eq.mp z1 with q | q
          · exact q
          · rw [q] at z2; exact absurd z2 hno) (by rw [ec]; exact hlen) hW
      refine J.le ?_ y
      exact ⟨rfl, rfl, rfl, rfl, trivial⟩
    · replace h53 := Decidable.not_not.mp h53
      refine j_aload C dX6_rankForLading_56 rfl ?_
      refine j_getI C fl_X6_316 dX6_rankForLading_58 (X.b hb) rfl ?_
      rw [show N1 (2000 + b) 1 = T 26 b from hN.b hb (f := 1) (by decide)]
      refine j_aload_n C dX6_rankForLading_61 rfl ?_
      refine j_getI C fl_X6_180 dX6_rankForLading_62 (X.g ha) rfl ?_
      rw [hN.g ha (f := 10) (r := 16) (by decide)]
      refine j_icmp_ne (tgt := 102) C dX6_rankForLading_65 (by decide) (fun h65 => ?_) (fun h65 => ?_)
      · skip
        refine j_iincN C dX6_rankForLading_102 rfl (by decide) rfl ?_
        refine j_goto (tgt := 24) C dX6_rankForLading_105 (by decide) ?_
        have hno : ¬ 0 < mWish T a b := by rw [mWish, if_pos h53, if_neg h65]; decide
        have ec : cW (mWish T a) (b + 1) = cW (mWish T a) b := if_neg hno
        rw [← ec] at hK
        rw [← ec]
        have y := ih (by omega) sh1 N1 rl k0 z hK X hN hF hn hk0 hp (fun x => by
          rw [hmem x]
          constructor
          · rintro ⟨z1, z2⟩; exact ⟨by omega, z2⟩
          · rintro ⟨z1, z2⟩
            refine ⟨?_, z2⟩
            rcases Nat.lt_succ_iff_lt_or_eq.mp z1 with q | q
            · exact q
            · rw [q] at z2; exact absurd z2 hno) (by rw [ec]; exact hlen) hW
        refine J.le ?_ y
        exact ⟨rfl, rfl, rfl, rfl, trivial⟩
      · replace h65 := Decidable.not_not.mp h65
        refine j_aload_n C dX6_rankForLading_68 rfl ?_
        refine j_getR (j := 110) C fl_X6_45 dX6_rankForLading_69 (X.c (by decide)) rfl (X.r (by decide)) ?_
        refine j_aload C dX6_rankForLading_72 rfl ?_
        refine j_aload_n C dX6_rankForLading_74 rfl ?_
        refine j_getI C fl_X6_122 dX6_rankForLading_75 (X.c (by decide)) rfl ?_
        rw [hN.1.2.2.2]
        refine j_callV2V C ml_X6_173 dX6_rankForLading_78 (cX_lookAtBale hg (T := 110) (A := 114) (X.c (by decide)) (X.r (by decide)) (X.a (by decide)) (X.b hb) (by omega) _) (by rw [X.c (i := 110) (c := 4) (by decide)]; exact ⟨by decide, rfl⟩) ⟨Nat.le_of_ble_eq_true rfl, Nat.le_of_ble_eq_true rfl⟩ (Nat.le_of_ble_eq_true rfl) ⟨rfl, rfl⟩ ⟨cells_ok, slots_ok⟩ ?_
        obtain ⟨hFn, hEn⟩ := tell_rows (lookB_rows N1 (2000 + b) (T 0 1))
        replace hn := NMQ.bale hN hb X.nB3 hn hk0
        replace hW : ∀ x ∈ rl, (xLookB N1 114 (2000 + b) (T 0 1)) (2000 + x) 12 = mWish T a x := fun x hx => by
          rw [lookB_rows N1 (2000 + b) (T 0 1) (2000 + x) (by omega) (by omega)]
          exact hW x hx
        replace hN := hN.cg X.nG8 X.nB3 X.nV3 hEn (fun _ _ => rfl)
        replace X := X.fr hFn
        replace hF := hF.trans (hFn.k sh1)
        replace hK := hK.cong (N1 := xLookB N1 114 (2000 + b) (T 0 1)) (by rw [hFn.2 108 (by decide) (by decide)])
        clear hEn hFn
        obtain ⟨N2, eN⟩ : ∃ N2, N2 = xLookB N1 114 (2000 + b) (T 0 1) := ⟨_, rfl⟩
        rw [← eN] at hn hN X hF hK hW
        rw [← eN]
        clear eN
        refine j_aload_n C dX6_rankForLading_81 rfl ?_
        refine j_iconst C dX6_rankForLading_82 (v := 1) (by decide) ?_
        refine j_iload_n C dX6_rankForLading_83 rfl ?_
        have er : sv T 1 (mKnown T 1 rr nV) (fun w => mValue T w 1 (nI a) (nI b)) = mWish T a b := by
          rw [mWish, if_pos h53, if_pos h65, mSays_sv, ea, hrr, show tn (nI rr) = rr from nI_clamp (by omega), hI.v38, show tn (nI nV) = nV from nI_clamp (by omega)]
        refine j_callV2Ig C ml_X6_183 dX6_rankForLading_84 (cX_workedOut hg X hN hI hX (by decide) (kn_cases T 1 rr nV) hn) ⟨by rw [X.c (i := 100) (c := 6) (by decide)]; decide, by rw [X.c (i := 100) (c := 6) (by decide)]; rfl⟩ ⟨Nat.le_of_ble_eq_true rfl, Nat.le_of_ble_eq_true rfl⟩ (Nat.le_of_ble_eq_true rfl) ⟨rfl, rfl⟩ ⟨cells_ok, slots_ok⟩ (fun q sh9 N9 hq => ?_)
        obtain ⟨q1, q2, ρ, q3⟩ := hq
        rw [er] at q2
        replace q1 := q1.symm
        subst q1
        subst q2
        subst q3
        obtain ⟨hFn, hEn⟩ := tell_rows (sr_rows N2 ρ)
        replace hn := hn.sr ρ
        replace hW : ∀ x ∈ rl, (sr N2 115 ρ) (2000 + x) 12 = mWish T a x := fun x hx => by
          rw [sr_rows N2 ρ (2000 + x) (by omega) (by omega)]
          exact hW x hx
        replace hN := hN.cg X.nG8 X.nB3 X.nV3 hEn (fun _ _ => rfl)
        replace X := X.fr hFn
        replace hF := hF.trans (hFn.k sh1)
        replace hK := hK.cong (N1 := sr N2 115 ρ) (by rw [hFn.2 108 (by decide) (by decide)])
        clear hEn hFn
        obtain ⟨N3, eN⟩ : ∃ N3, N3 = sr N2 115 ρ := ⟨_, rfl⟩
        rw [← eN] at hn hN X hF hK hW
        rw [← eN]
        clear eN
        refine j_istore C dX6_rankForLading_87 (by decide) rfl ?_
        refine j_iload C dX6_rankForLading_89 rfl ?_
        refine j_if_le (tgt := 102) C dX6_rankForLading_91 (by decide) (fun h91 => ?_) (fun h91 => ?_)
        · skip
          refine j_iincN C dX6_rankForLading_102 rfl (by decide) rfl ?_
          refine j_goto (tgt := 24) C dX6_rankForLading_105 (by decide) ?_
          have hno : ¬ 0 < mWish T a b := Int32.not_lt.mpr h91
          have ec : cW (mWish T a) (b + 1) = cW (mWish T a) b := if_neg hno
          rw [← ec] at hK
          rw [← ec]
          have y := ih (by omega) sh1 N3 rl 1 (nI b) hK X hN hF hn (by decide) hp (fun x => by
            rw [hmem x]
            constructor
            · rintro ⟨z1, z2⟩; exact ⟨by omega, z2⟩
            · rintro ⟨z1, z2⟩
              refine ⟨?_, z2⟩
              rcases Nat.lt_succ_iff_lt_or_eq.mp z1 with q | q
              · exact q
              · rw [q] at z2; exact absurd z2 hno) (by rw [ec]; exact hlen) hW
          refine J.le ?_ y
          exact ⟨rfl, rfl, rfl, rfl, trivial⟩
        · skip
          refine j_aload_n C dX6_rankForLading_94 rfl ?_
          refine j_aload C dX6_rankForLading_95 rfl ?_
          refine j_iload C dX6_rankForLading_97 rfl ?_
          have hl3 : rl.length < 366 := by have := cW_le (mWish T a) b; omega
          have hnb : ¬ b ∈ rl := fun z => absurd ((hmem b).mp z).1 (Nat.lt_irrefl _)
          have hrl : ∀ x ∈ rl, x < nB := fun x hx => Nat.lt_trans ((hmem x).mp hx).1 hb
          have hWb : 0 < mWish T a b := Int32.not_le.mp h91
          have ec : cW (mWish T a) (b + 1) = cW (mWish T a) b + 1 := if_pos hWb
          have hkm := kTo_mono k (cW_mono (mWish T a) (show b + 1 ≤ nB from hb))
          have hk1 : k ≤ kTo k (cW (mWish T a) b) := (kTo_mono k (Nat.zero_le _)).1
          have hk2 : kTo k (cW (mWish T a) (b + 1)) = kUp (kTo k (cW (mWish T a) b)) rl.length := by rw [ec, hlen]; rfl
          have hs2 : sTo k (cW (mWish T a) (b + 1)) = sTo k (cW (mWish T a) b) + sUp (kTo k (cW (mWish T a) b)) rl.length := by rw [ec, hlen]; rfl
          have hku := kUp_ge (kTo k (cW (mWish T a) b)) rl.length
          refine j_callV2Vg (c1 := kTo k (cW (mWish T a) (b + 1)) - k) (s1 := sTo k (cW (mWish T a) (b + 1))) C ml_X6_319 dX6_rankForLading_99 (cX_rank hg X hX hX2 hK hl3 hrl hb hnb (mWish T a b)) ⟨by rw [X.c (i := 100) (c := 6) (by decide)]; decide, by rw [X.c (i := 100) (c := 6) (by decide)]; rfl⟩ ⟨Nat.le_of_ble_eq_true rfl, Nat.le_of_ble_eq_true rfl⟩ (Nat.le_of_ble_eq_true rfl) ⟨by rw [hk2]; show kTo k (cW (mWish T a) b) - k + (kUp (kTo k (cW (mWish T a) b)) rl.length - kTo k (cW (mWish T a) b)) = _; omega, by rw [hs2]; rfl⟩ ⟨by show kTo k (cW (mWish T a) (b + 1)) - k ≤ kTo k (cW (mWish T a) nB) - k; omega, hkm.2⟩ (fun sh2 N4 hq => ?_)
          obtain ⟨j, hj, hj1, hj2, hK2, hFx, hR2⟩ := hq
          have hF3 := FRN.u (N := N3) (i := 2000 + b) (k := 12) (v := mWish T a b) ⟨by omega, by omega⟩
          have X4 := (X.fr hF3).frx hFx hR2
          have hN4 := (hN.cg X.nG8 X.nB3 X.nV3 (EQN.u (N := N3) (i := 2000 + b) (k := 12) (v := mWish T a b) (by omega)) (fun _ _ => rfl)).cg X.nG8 X.nB3 X.nV3 hFx.eqn (fun _ _ => rfl)
          have hF4 := (hF.trans (hF3.k sh1)).trans hFx.k
          have hn4 : NMQ N4 T 1 (nI a) (nI b) := fun q hq => by
            rw [(hFx.2 114 (by decide) (by decide)).2, u2_row (by omega)]
            exact hn q hq
          rw [← hk2] at hK2
          have hW4 : ∀ x ∈ rl.take j ++ b :: rl.drop j, N4 (2000 + x) 12 = mWish T a x := fun x hx => by
            have hx3 : x < 300 := by
              rcases ins_mem.mp hx with z | z
              · omega
              · have := hrl x z; omega
            rw [(hFx.2 (2000 + x) (by omega) (by omega)).2]
            by_cases e : x = b
            · rw [e, u2_eq]
            · rw [u2_ne (by omega)]
              exact hW x ((ins_mem.mp hx).resolve_left e)
          have hp4 := srt_ins (W := mWish T a) hp (fun x hx => ((hmem x).mp hx).1) hj (fun i h1 h2 => by rw [← hW _ (gd_mem h2)]; exact hj1 i h1 h2) (fun h0 => by rw [← hW _ (gd_mem (show j - 1 < rl.length by omega))]; exact hj2 h0)
          have hm4 : ∀ x, x ∈ rl.take j ++ b :: rl.drop j ↔ x < b + 1 ∧ 0 < mWish T a x := fun x => by
            rw [ins_mem, hmem x]
            constructor
            · rintro (z | z)
              · rw [z]; exact ⟨by omega, hWb⟩
              · exact ⟨by omega, z.2⟩
            · rintro ⟨z1, z2⟩
              by_cases e : x = b
              · exact Or.inl e
              · exact Or.inr ⟨by omega, z2⟩
          rw [← (hFx.1 100 (by omega)).2, ← (hFx.1 (1000 + a) (by omega)).2]
          clear cells_ok slots_ok
          refine j_iincN C dX6_rankForLading_102 rfl (by decide) rfl ?_
          refine j_goto (tgt := 24) C dX6_rankForLading_105 (by decide) ?_
          have y := ih (by omega) sh2 N4 _ 1 (nI b) hK2 X4 hN4 hF4 hn4 (by decide) hp4 hm4 (by rw [ins_len hj, hlen, ec]) hW4
          refine J.le ?_ y
          exact ⟨rfl, rfl, rfl, rfl, trivial⟩
