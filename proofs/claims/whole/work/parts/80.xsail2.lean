/-! ===== THE CLASS: sailOn ===== -/
theorem max1 (m : Int32) : (if 1 < m then m else 1) = if 1 ≤ m then m else 1 := by
  by_cases h : 1 < m
  · rw [if_pos h, if_pos (Int32.le_of_lt h)]
  · rw [if_neg h]
    by_cases h2 : 1 ≤ m
    · rw [if_pos h2]; exact Int32.le_antisymm h2 (Int32.not_lt.mp h)
    · rw [if_neg h2]
theorem u2_id (T : WNm) (i k : Nat) : u2 T i k (T i k) = T := by
  funext a b
  by_cases h : a = i ∧ b = k
  · rw [h.1, h.2, u2_eq]
  · exact u2_ne h

theorem cX_sailOn {l : Launch} {g : WGp} (hg : GOK g) {sh : WSh} {N : WNm} {o : Nat → Nat} {nG nB nV kG kB kV : Nat} {ln : Nat → Nat} (X : XH o sh N nG nB nV kG kB kV ln) {nT nP dy : Nat} {T : WNm} (hN : XN N T nG nB nV nT ln) (hI : TI T nG nB nV nP dy) {a : Nat} (ha : a < nG) (hs : T 15 a = 2) : CT l g yX6_sailOn cX6_sailOn 4 none (RM 4 0 0) [.ref (sh.2.2 100), .ref (sh.2.2 (1000 + a))] sh N (QV g (fun sh1 N1 => sh1 = sh ∧ XN N1 (mSail T nB a) nG nB nV nT ln ∧ FRN N N1)) := by
  refine ent hg (by decide +kernel) (Nat.le_of_ble_eq_true rfl) ?_
  intro p e s m args below meth c C hname
  have hG := X.nG8
  have hB := X.nB3
  have hF := FRN.rfl N
  obtain ⟨rr, hr, hrr⟩ := hI.1.2.2.2.2.2.2 a ha (Or.inr hs)
  have hP12 := hI.1.2.2.2.1.2
  have hp12 : vp_in (T 16 a) 12 := by rw [hrr]; exact vp_inN (by omega) (by decide)
  have hd := hI.1.2.2.2.2.1
  refine j_aload_n C dX6_sailOn_0 rfl ?_
  refine j_dup C dX6_sailOn_1 rfl ?_
  refine j_getI C fl_X6_251 dX6_sailOn_2 (X.g ha) rfl ?_
  rw [hN.g ha (f := 12) (r := 18) (by decide)]
  refine j_iconst C dX6_sailOn_5 (v := 1) (by decide) ?_
  refine j_aload_n C dX6_sailOn_6 rfl ?_
  refine j_getI C fl_X6_254 dX6_sailOn_7 (X.g ha) rfl ?_
  rw [hN.g ha (f := 3) (r := 13) (by decide)]
  refine j_aload_n C dX6_sailOn_10 rfl ?_
  refine j_getR (j := 104) C fl_X6_19 dX6_sailOn_11 (X.c (by decide)) rfl (X.r (by decide)) ?_
  refine j_aload_n C dX6_sailOn_14 rfl ?_
  refine j_getI C fl_X6_122 dX6_sailOn_15 (X.c (by decide)) rfl ?_
  rw [hN.1.2.2.2]
  refine j_bipush C dX6_sailOn_18 (v := 30) (by decide) ?_
  refine j_irem C dX6_sailOn_20 (by decide) ?_
  refine j_iald C (X.a (i := 104) (n := 30) (by decide)) (in30 hd.1 (by omega)) dX6_sailOn_21 ?_
  rw [hN.2.1.2.2.2]
  refine j_iadd C dX6_sailOn_22 ?_
  refine j_callS2I C ml_X6_257 dX6_sailOn_23 (cJ_max hg _ _) ⟨Nat.le_of_ble_eq_true rfl, Nat.le_of_ble_eq_true rfl⟩ (Nat.le_of_ble_eq_true rfl) ⟨rfl, rfl⟩ ⟨Nat.zero_le _, Nat.zero_le _⟩ ?_
  rw [max1]
  refine j_iadd C dX6_sailOn_26 ?_
  refine j_putI C fl_X6_251 dX6_sailOn_27 (X.g ha) rfl rfl rfl rfl ?_
  replace hN := hN.gal X.nG8 X.nB3 X.nV3 (f := 12) (r := 18) (by decide) ha (T 18 a + (if 1 ≤ mMore T a then mMore T a else 1))
  replace X := X.fr (FRN.u (N := N) (i := 1000 + a) (k := 12) (v := T 18 a + (if 1 ≤ mMore T a then mMore T a else 1)) ⟨by omega, by omega⟩)
  replace hF := hF.trans (FRN.u (N := N) (i := 1000 + a) (k := 12) (v := T 18 a + (if 1 ≤ mMore T a then mMore T a else 1)) ⟨by omega, by omega⟩)
  obtain ⟨N1, eN⟩ : ∃ N1, N1 = u2 N (1000 + a) 12 (T 18 a + (if 1 ≤ mMore T a then mMore T a else 1)) := ⟨_, rfl⟩
  rw [← eN] at hN X hF
  change J _ _ _ _ _ _ _ _ _ _ _ _ _ _ (u2 N (1000 + a) 12 (T 18 a + (if 1 ≤ mMore T a then mMore T a else 1))) _ _ _ _ _
  rw [← eN]
  clear eN
  change XN N1 (mSail1 T a) nG nB nV nT ln at hN
  refine j_aload_n C dX6_sailOn_30 rfl ?_
  refine j_getI C fl_X6_251 dX6_sailOn_31 (X.g ha) rfl ?_
  rw [hN.g ha (f := 12) (r := 18) (by decide)]
  refine j_bipush C dX6_sailOn_34 (v := 10) (by decide) ?_
  refine j_aload_n C dX6_sailOn_36 rfl ?_
  refine j_getR (j := 102) C fl_X6_13 dX6_sailOn_37 (X.c (by decide)) rfl (X.r (by decide)) ?_
  refine j_aload_n C dX6_sailOn_40 rfl ?_
  refine j_getI C fl_X6_180 dX6_sailOn_41 (X.g ha) rfl ?_
  rw [show N1 (1000 + a) 10 = T 16 a from (hN.g ha (f := 10) (r := 16) (by decide)).trans (by unfold mSail1; rw [u2_row (by decide)])]
  refine j_iald C (X.a (i := 102) (n := 12) (by decide)) (hp12) dX6_sailOn_44 ?_
  rw [show N1 102 = T 7 from hN.2.1.2.1.trans (by unfold mSail1; rw [u2_row (by decide)])]
  refine j_imul C dX6_sailOn_45 ?_
  refine j_icmp_ge (tgt := 50) C dX6_sailOn_46 (by decide) (fun h46 => ?_) (fun h46 => ?_)
  · skip
    refine j_aload_n C dX6_sailOn_50 rfl ?_
    refine j_aload_n C dX6_sailOn_51 rfl ?_
    refine j_getI C fl_X6_180 dX6_sailOn_52 (X.g ha) rfl ?_
    rw [show N1 (1000 + a) 10 = T 16 a from (hN.g ha (f := 10) (r := 16) (by decide)).trans (by unfold mSail1; rw [u2_row (by decide)])]
    refine j_aload_n C dX6_sailOn_55 rfl ?_
    refine j_getI C fl_X6_122 dX6_sailOn_56 (X.c (by decide)) rfl ?_
    rw [show N1 100 13 = T 0 1 from hN.1.2.2.2.trans (by unfold mSail1; rw [u2_row (by decide)])]
    refine j_callV2V C ml_X6_186 dX6_sailOn_59 (cX_comeTo hg (X.g ha) _ _) (by rw [X.g ha]; exact ⟨by decide, rfl⟩) ⟨Nat.le_of_ble_eq_true rfl, Nat.le_of_ble_eq_true rfl⟩ (Nat.le_of_ble_eq_true rfl) ⟨rfl, rfl⟩ ⟨Nat.zero_le _, Nat.zero_le _⟩ ?_
    replace hN := (((hN.gal X.nG8 X.nB3 X.nV3 (f := 9) (r := 15) (by decide) ha 1).gal X.nG8 X.nB3 X.nV3 (f := 10) (r := 16) (by decide) ha (T 16 a)).gal X.nG8 X.nB3 X.nV3 (f := 11) (r := 17) (by decide) ha (T 0 1)).gal X.nG8 X.nB3 X.nV3 (f := 12) (r := 18) (by decide) ha 0
    replace X := X.fr ((((FRN.u (N := N1) (i := 1000 + a) (k := 9) (v := 1) ⟨by omega, by omega⟩).u' (i := 1000 + a) (k := 10) (v := T 16 a) ⟨by omega, by omega⟩).u' (i := 1000 + a) (k := 11) (v := T 0 1) ⟨by omega, by omega⟩).u' (i := 1000 + a) (k := 12) (v := 0) ⟨by omega, by omega⟩)
    replace hF := hF.trans ((((FRN.u (N := N1) (i := 1000 + a) (k := 9) (v := 1) ⟨by omega, by omega⟩).u' (i := 1000 + a) (k := 10) (v := T 16 a) ⟨by omega, by omega⟩).u' (i := 1000 + a) (k := 11) (v := T 0 1) ⟨by omega, by omega⟩).u' (i := 1000 + a) (k := 12) (v := 0) ⟨by omega, by omega⟩)
    change XN (xCome N1 (1000 + a) (T 16 a) (T 0 1)) _ _ _ _ _ _ at hN
    change XH o sh (xCome N1 (1000 + a) (T 16 a) (T 0 1)) _ _ _ _ _ _ _ at X
    change FRN N (xCome N1 (1000 + a) (T 16 a) (T 0 1)) at hF
    obtain ⟨N2, eN⟩ : ∃ N2, N2 = xCome N1 (1000 + a) (T 16 a) (T 0 1) := ⟨_, rfl⟩
    rw [← eN] at hN X hF
    rw [← eN]
    clear eN
    have e16 : u2 (u2 (mSail1 T a) 15 a 1) 16 a (T 16 a) = u2 (mSail1 T a) 15 a 1 := by
      have z := u2_id (u2 (mSail1 T a) 15 a 1) 16 a
      rw [u2_row (by decide)] at z
      unfold mSail1 at z ⊢
      rw [u2_row (by decide)] at z
      exact z
    rw [e16, u2_comm _ (by decide)] at hN
    change XN N2 (mSail2 T a) nG nB nV nT ln at hN
    have e2 : ∀ i, ¬ i = 15 → ¬ i = 17 → ¬ i = 18 → mSail2 T a i = T i := fun i h1 h2 h3 => by unfold mSail2 mSail1; rw [u2_row h2, u2_row h3, u2_row h1, u2_row h3]
    refine j_iconst C dX6_sailOn_62 (v := 0) (by decide) ?_
    refine j_istore_n C dX6_sailOn_63 (by decide) rfl ?_
    suffices key : ∀ k, k ≤ nB → ∀ N4 : WNm, XN N4 (mSailB (mSail2 T a) a (T 16 a) k) nG nB nV nT ln → XH o sh N4 nG nB nV kG kB kV ln → FRN N N4 → J p l e (RM 4 0 0) s m args below meth c (MQ below (QV g (fun sh1 N1 => sh1 = sh ∧ XN N1 (mSail T nB a) nG nB nV nT ln ∧ FRN N N1)) args s 0 0 g.A) g 4 sh N4 0 0 64 [some (.ref (sh.2.2 100)), some (.ref (sh.2.2 (1000 + a))), some (.int (nI k)), none] [] from key 0 (by omega) N2 hN X hF
    clear hN X hF
    refine up_ind (P := fun k => ∀ N4 : WNm, XN N4 (mSailB (mSail2 T a) a (T 16 a) k) nG nB nV nT ln → XH o sh N4 nG nB nV kG kB kV ln → FRN N N4 → J p l e (RM 4 0 0) s m args below meth c (MQ below (QV g (fun sh1 N1 => sh1 = sh ∧ XN N1 (mSail T nB a) nG nB nV nT ln ∧ FRN N N1)) args s 0 0 g.A) g 4 sh N4 0 0 64 [some (.ref (sh.2.2 100)), some (.ref (sh.2.2 (1000 + a))), some (.int (nI k)), none] []) (n := nB) ?_
    intro k hk0 ih N4 hN X hF
    refine j_iload_n C dX6_sailOn_64 rfl ?_
    refine j_aload_n C dX6_sailOn_65 rfl ?_
    refine j_getR (j := 106) C fl_X6_29 dX6_sailOn_66 (X.c (by decide)) rfl (X.r (by decide)) ?_
    refine j_callV0I C ml_X6_73 dX6_sailOn_69 (cJ_size hg X.lb.1.1) (⟨by rw [X.lb.1.1]; decide, by rw [X.lb.1.1]; rfl⟩) ⟨Nat.le_of_ble_eq_true rfl, Nat.le_of_ble_eq_true rfl⟩ (Nat.le_of_ble_eq_true rfl) ⟨rfl, rfl⟩ ⟨Nat.zero_le _, Nat.zero_le _⟩ ?_
    rw [X.zB]
    refine j_icmp_ge (tgt := 118) C dX6_sailOn_72 (by decide) (fun h72 => ?_) (fun h72 => ?_)
    · skip
      rw [n_nle (by omega) (by omega)] at h72
      obtain rfl : k = nB := by omega
      exact j_vret C dX6_sailOn_118 ⟨rfl, by rw [mSail, if_pos h46]; exact hN, hF⟩
    · skip
      rw [n_nle (by omega) (by omega)] at h72
      have hk2 : k < nB := by omega
      have eb : ∀ i, ¬ i = 0 → ¬ i = 3 → ¬ i = 19 → ¬ i = 34 → ¬ i = 36 → ¬ i = 15 → ¬ i = 17 → ¬ i = 18 → (mSailB (mSail2 T a) a (T 16 a) k) i = T i := fun i h1 h2 h3 h4 h5 h6 h7 h8 => (mSailB_row _ _ _ ⟨h1, h2, h3, h4, h5⟩ k).trans (e2 i h6 h7 h8)
      refine j_aload_n C dX6_sailOn_75 rfl ?_
      refine j_getR (j := 106) C fl_X6_29 dX6_sailOn_76 (X.c (by decide)) rfl (X.r (by decide)) ?_
      refine j_iload_n C dX6_sailOn_79 rfl ?_
      refine j_callV1RS (x := 2000 + k) C ml_X6_213 dX6_sailOn_80 (cX_lget hg X.lb hk2) ⟨by rw [X.lb.1.1]; decide, by rw [X.lb.1.1]; rfl⟩ ⟨Nat.le_of_ble_eq_true rfl, Nat.le_of_ble_eq_true rfl⟩ (Nat.le_of_ble_eq_true rfl) ⟨rfl, rfl⟩ ⟨Nat.zero_le _, Nat.zero_le _⟩ ?_
      refine j_cast C cl_X6_120 (X.b hk2) dX6_sailOn_83 ?_
      refine j_astore_n C dX6_sailOn_86 (by decide) rfl ?_
      refine j_aload_n C dX6_sailOn_87 rfl ?_
      refine j_aload_n C dX6_sailOn_88 rfl ?_
      refine j_callV1I C ml_X6_262 dX6_sailOn_89 (cX_isAboard hg (X.b hk2) (X.g ha)) (by rw [X.b hk2]; exact ⟨by decide, rfl⟩) ⟨Nat.le_of_ble_eq_true rfl, Nat.le_of_ble_eq_true rfl⟩ (Nat.le_of_ble_eq_true rfl) ⟨rfl, rfl⟩ ⟨Nat.zero_le _, Nat.zero_le _⟩ ?_
      rw [show N4 (2000 + k) 9 = (mSailB (mSail2 T a) a (T 16 a) k) 34 k from hN.b hk2 (f := 9) (by decide), show N4 (2000 + k) 10 = (mSailB (mSail2 T a) a (T 16 a) k) 35 k from hN.b hk2 (f := 10) (by decide), (hN.2.2.1 a ha).1]
      refine j_if_eq (tgt := 112) C dX6_sailOn_92 (by decide) (fun h92 => ?_) (fun h92 => ?_)
      · replace h92 := b2_eq0.mp h92
        refine j_iincN C dX6_sailOn_112 rfl (by decide) rfl ?_
        refine j_goto (tgt := 64) C dX6_sailOn_115 (by decide) ?_
        refine J.le ?_ (ih (by omega) N4 (by rw [mSailB, if_neg h92]; exact hN) X hF)
        exact ⟨rfl, rfl, rfl, trivial⟩
      · replace h92 := b2_ne0.mp h92
        skip
        refine j_aload_n C dX6_sailOn_95 rfl ?_
        refine j_getI C fl_X6_265 dX6_sailOn_96 (X.b hk2) rfl ?_
        rw [show N4 (2000 + k) 2 = (mSailB (mSail2 T a) a (T 16 a) k) 27 k from hN.b hk2 (f := 2) (by decide)]
        refine j_aload_n C dX6_sailOn_99 rfl ?_
        refine j_getI C fl_X6_180 dX6_sailOn_100 (X.g ha) rfl ?_
        rw [show N4 (1000 + a) 10 = T 16 a from (hN.g ha (f := 10) (r := 16) (by decide)).trans (by rw [eb 16 (by decide) (by decide) (by decide) (by decide) (by decide) (by decide) (by decide) (by decide)])]
        refine j_icmp_ne (tgt := 112) C dX6_sailOn_103 (by decide) (fun h103 => ?_) (fun h103 => ?_)
        · skip
          refine j_iincN C dX6_sailOn_112 rfl (by decide) rfl ?_
          refine j_goto (tgt := 64) C dX6_sailOn_115 (by decide) ?_
          refine J.le ?_ (ih (by omega) N4 (by rw [mSailB, if_pos h92, if_neg h103]; exact hN) X hF)
          exact ⟨rfl, rfl, rfl, trivial⟩
        · replace h103 := Decidable.not_not.mp h103
          refine j_aload_n C dX6_sailOn_106 rfl ?_
          refine j_aload_n C dX6_sailOn_107 rfl ?_
          refine j_aload_n C dX6_sailOn_108 rfl ?_
          refine j_callV2Vg C ml_X6_268 dX6_sailOn_109 (cX_giveOut hg X hN ha hk2 h92 (by rw [eb 25 (by decide) (by decide) (by decide) (by decide) (by decide) (by decide) (by decide) (by decide)]; exact hI.1.2.2.2.2.2.1 k hk2)) ⟨by rw [X.c (i := 100) (c := 6) (by decide)]; decide, by rw [X.c (i := 100) (c := 6) (by decide)]; rfl⟩ ⟨Nat.le_of_ble_eq_true rfl, Nat.le_of_ble_eq_true rfl⟩ (Nat.le_of_ble_eq_true rfl) ⟨rfl, rfl⟩ ⟨Nat.zero_le _, Nat.zero_le _⟩ (fun sh1 N5 hq => ?_)
          obtain ⟨q1, q2, q3⟩ := hq
          replace q1 := q1.symm
          subst q1
          refine j_iincN C dX6_sailOn_112 rfl (by decide) rfl ?_
          refine j_goto (tgt := 64) C dX6_sailOn_115 (by decide) ?_
          refine J.le ?_ (ih (by omega) N5 (by rw [mSailB, if_pos h92, if_pos h103]; exact q2) (X.fr q3) (hF.trans q3))
          exact ⟨rfl, rfl, rfl, trivial⟩
  · skip
    exact j_vret C dX6_sailOn_49 ⟨rfl, by rw [mSail, if_neg h46]; exact hN, hF⟩
