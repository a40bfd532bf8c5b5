/-! ===== THE CLASS: letting, votes in force, counts, ports ===== -/
theorem u2_comm {α : Type} (f : Nat → Nat → α) {i j k l : Nat} {v w : α} (h : ¬ i = j) : u2 (u2 f i k v) j l w = u2 (u2 f j l w) i k v := by
  funext a b
  by_cases h1 : a = j ∧ b = l
  · rw [h1.1, h1.2, u2_eq, u2_ne (fun z => h z.1.symm), u2_eq]
  · by_cases h2 : a = i ∧ b = k
    · rw [u2_ne h1, h2.1, h2.2, u2_eq, u2_eq]
    · rw [u2_ne h1, u2_ne h2, u2_ne h2, u2_ne h1]
theorem tn10n {a k : Nat} (ha : a < 8) (hk : k < 10) : tn (10 * nI a + nI k) = 10 * a + k := by rw [ix10]; exact nI_clamp (by omega)
theorem i_ab (x b n : Int32) : x + b - (b + n) = x - n := by
  rw [Int32.sub_eq_add_neg, Int32.neg_add, Int32.sub_eq_add_neg, Int32.sub_eq_add_neg, Int32.add_assoc, ← Int32.add_assoc b, Int32.add_right_neg, Int32.zero_add]
theorem i_ab2 (x b n : Int32) : x + b - (b - n) = x + n := by
  rw [Int32.sub_eq_add_neg b n, i_ab, Int32.sub_eq_add_neg, Int32.neg_neg]
theorem mLeft_u {T : WNm} {a p : Nat} (v : Int32) (ha : a < 8) (hp : p < 10) : ∀ n, n ≤ 10 → mLeft (u2 T 23 (10 * a + p) v) (nI a) n = if p < n then mLeft T (nI a) n + T 23 (10 * a + p) - v else mLeft T (nI a) n
  | 0, _ => rfl
  | n + 1, hn => by
    rw [mLeft, mLeft, mLeft_u v ha hp n (by omega), tn10n ha (by omega)]
    by_cases e : p = n
    · subst e
      rw [u2_eq, if_neg (Nat.lt_irrefl _), if_pos (Nat.lt_succ_self _), Int32.sub_add_cancel]
    · rw [u2_ne (fun z => e (by omega))]
      by_cases h : p < n
      · rw [if_pos h, if_pos (by omega)]
        generalize mLeft T (nI a) n = x
        generalize T 23 (10 * a + p) = y
        generalize T 23 (10 * a + n) = z
        simp only [Int32.sub_eq_add_neg]
        ac_rfl
      · rw [if_neg h, if_neg (by omega)]
theorem mLeft_u' {T : WNm} {a a' p : Nat} (v : Int32) (ha' : a' < 8) (hp : p < 10) (h : ¬ a' = a) : ∀ n, n ≤ 10 → mLeft (u2 T 23 (10 * a + p) v) (nI a') n = mLeft T (nI a') n
  | 0, _ => rfl
  | n + 1, hn => by rw [mLeft, mLeft, mLeft_u' v ha' hp h n (by omega), tn10n ha' (by omega), u2_ne (by omega)]
theorem mLeft_z {T : WNm} {a : Nat} (ha : a < 8) (h : ∀ p, p < 10 → T 23 (10 * a + p) = 0) : ∀ n, n ≤ 10 → mLeft T (nI a) n = 24
  | 0, _ => rfl
  | n + 1, hn => by rw [mLeft, mLeft_z ha h n (by omega), tn10n ha (by omega), h n (by omega)]; decide
/-- parts of one galley change: the office's last -/
theorem XN.part1 {N T : WNm} {nG nB nV nT : Nat} {ln : Nat → Nat} (h : XN N T nG nB nV nT ln) (hG : nG ≤ 8) (hB : nB ≤ 300) (hV : nV ≤ 30) {N1 T1 : WNm} {a : Nat} (ha : a < nG) (e : ∀ i, ¬ i = 1100 + a → N1 i = N i) (f : ∀ i, ¬ i = 23 → T1 i = T i) (hs : (∀ p, p < 10 → N1 (1100 + a) p = T1 23 (10 * a + p)) ∧ N1 (1100 + a) 10 = mLeft T1 (nI a) 10) (ho : ∀ a', a' < nG → ¬ a' = a → (∀ p, p < 10 → T1 23 (10 * a' + p) = T 23 (10 * a' + p)) ∧ mLeft T1 (nI a') 10 = mLeft T (nI a') 10) : XN N1 T1 nG nB nV nT ln := by
  obtain ⟨h0, h1, h2, h3, h4, h5, h6, h7⟩ := h
  refine ⟨h0.cg (e _ (by omega)) (fun j hj => by rw [f 0 (by decide)]), h1.cg (fun i a b => e _ (by omega)) (fun i a b => f i (by omega)), h2.cg (fun a ha => e _ (by omega)) (fun i a b => f i (by omega)), fun a' ha' => ?_, h4.cg (fun a ha k _ _ => by rw [e _ (by omega)]) (fun i a b => f i (by omega)), h5.cg (fun b hb k hk => by rw [e _ (by omega)]) (fun i a b => f i (by omega)), h6.cg (fun v hv => ⟨e _ (by omega), e _ (by omega)⟩) (fun i a b => f i (by omega)), h7.cg (e _ (by omega)) (e _ (by omega)) (by rw [f 0 (by decide)]) (f 37 (by decide))⟩
  by_cases z : a' = a
  · rw [z]; exact hs
  · rw [e (1100 + a') (by omega), (ho a' ha' z).2]
    exact ⟨fun p hp => by rw [(ho a' ha' z).1 p hp]; exact (h3 a' ha').1 p hp, (h3 a' ha').2⟩

theorem cX_let {l : Launch} {g : WGp} (hg : GOK g) {sh : WSh} {N : WNm} {o : Nat → Nat} {nG nB nV kG kB kV : Nat} {ln : Nat → Nat} (X : XH o sh N nG nB nV kG kB kV ln) {nT nP dy : Nat} {T : WNm} (hN : XN N T nG nB nV nT ln) (hI : TI T nG nB nV nP dy)  (x : Int32) : CT l g yX6_let cX6_let 4 (some .int) (RM 5 0 0) [.ref (sh.2.2 100), .int x] sh N (QX g sh N nG nB nV nT ln (mLet T x)) := by
  refine ent hg (by decide +kernel) (Nat.le_of_ble_eq_true rfl) ?_
  intro p e s m args below meth c C hname
  generalize hRES : mLet T x = RES
  refine j_aload_n C dX6_let_0 rfl ?_
  refine j_iload_n C dX6_let_1 rfl ?_
  by_cases hx : 0 ≤ x ∧ x ≤ T 0 9 - 1
  · obtain ⟨ha, e1⟩ := rngT hx hI.g9 (Nat.le_trans X.nG8 (by decide))
    refine j_callV1RS (x := 1000 + tn x) C ml_X6_86 dX6_let_2 (cX_galleyOfS hg X (by rw [← hI.g9]; exact hx)) ⟨by rw [X.c (i := 100) (c := 6) (by decide)]; decide, by rw [X.c (i := 100) (c := 6) (by decide)]; rfl⟩ ⟨Nat.le_of_ble_eq_true rfl, Nat.le_of_ble_eq_true rfl⟩ (Nat.le_of_ble_eq_true rfl) ⟨rfl, rfl⟩ ⟨Nat.zero_le _, Nat.zero_le _⟩ ?_
    refine j_astore_n C dX6_let_5 (by decide) rfl ?_
    refine j_aload_n C dX6_let_6 rfl ?_
    refine j_ifnonnull (tgt := 12) C dX6_let_7 (by decide) ?_
    have hbd := (hI.2.1 _ ha).1
    refine j_aload_n C dX6_let_12 rfl ?_
    refine j_getI C fl_X6_91 dX6_let_13 (X.g ha) rfl ?_
    rw [hN.g ha (f := 8) (r := 22) (by decide)]
    refine j_if_ne (tgt := 26) C dX6_let_16 (by decide) (fun h16 => ?_) (fun h16 => ?_)
    · skip
      refine j_bipush C dX6_let_26 (v := (-2)) (by decide) ?_
      rw [mLet, if_pos hx, if_neg h16] at hRES
      subst hRES
      exact j_iret C dX6_let_28 rfl ⟨rfl, rfl, hN, FRN.rfl N⟩
    · replace h16 := Decidable.not_not.mp h16
      refine j_aload_n C dX6_let_19 rfl ?_
      refine j_getI C fl_X6_95 dX6_let_20 (X.g ha) rfl ?_
      rw [hN.g ha (f := 6) (r := 20) (by decide)]
      refine j_if_ne (tgt := 29) C dX6_let_23 (by decide) (fun h23 => ?_) (fun h23 => ?_)
      · skip
        refine j_aload_n C dX6_let_29 rfl ?_
        refine j_getI C fl_X6_98 dX6_let_30 (X.g ha) rfl ?_
        rw [hN.g ha (f := 7) (r := 21) (by decide)]
        refine j_istore_n C dX6_let_33 (by decide) rfl ?_
        refine j_aload_n C dX6_let_34 rfl ?_
        refine j_getR (j := 101) C fl_X6_9 dX6_let_35 (X.c (by decide)) rfl (X.r (by decide)) ?_
        refine j_iload_n C dX6_let_38 rfl ?_
        refine j_iald C (X.a (i := 101) (n := 10) (by decide)) (hbd) dX6_let_39 ?_
        rw [hN.2.1.1]
        refine j_aload_n C dX6_let_40 rfl ?_
        refine j_getI C fl_X6_95 dX6_let_41 (X.g ha) rfl ?_
        rw [hN.g ha (f := 6) (r := 20) (by decide)]
        refine j_icmp_ge (tgt := 55) C dX6_let_44 (by decide) (fun h44 => ?_) (fun h44 => ?_)
        · skip
          refine j_aload_n C dX6_let_55 rfl ?_
          refine j_getR (j := 101) C fl_X6_9 dX6_let_56 (X.c (by decide)) rfl (X.r (by decide)) ?_
          refine j_iload_n C dX6_let_59 rfl ?_
          refine j_dup2 C dX6_let_60 rfl rfl ?_
          refine j_iald C (X.a (i := 101) (n := 10) (by decide)) (hbd) dX6_let_61 ?_
          rw [hN.2.1.1]
          refine j_aload_n C dX6_let_62 rfl ?_
          refine j_getI C fl_X6_95 dX6_let_63 (X.g ha) rfl ?_
          rw [hN.g ha (f := 6) (r := 20) (by decide)]
          refine j_isub C dX6_let_66 ?_
          refine j_iast C (X.a (i := 101) (n := 10) (by decide)) (hbd) dX6_let_67 ?_
          have hN1 := hN.purse X.nG8 X.nB3 X.nV3 (tn (T 21 (tn x))) (T 3 (tn (T 21 (tn x))) - T 20 (tn x))
          have hF1 := FRN.u (N := N) (i := 101) (k := tn (T 21 (tn x))) (v := T 3 (tn (T 21 (tn x))) - T 20 (tn x)) ⟨by decide, by decide⟩
          obtain ⟨N1, eN1⟩ : ∃ N1, N1 = u2 N 101 (tn (T 21 (tn x))) (T 3 (tn (T 21 (tn x))) - T 20 (tn x)) := ⟨_, rfl⟩
          rw [← eN1] at hN1 hF1
          rw [← eN1]
          clear eN1
          refine j_aload_n C dX6_let_68 rfl ?_
          refine j_dup C dX6_let_69 rfl ?_
          refine j_getI C fl_X6_101 dX6_let_70 (X.c (by decide)) rfl ?_
          rw [hN1.1.1]
          refine j_aload_n C dX6_let_73 rfl ?_
          refine j_getI C fl_X6_95 dX6_let_74 (X.g ha) rfl ?_
          rw [hN1.g ha (f := 6) (r := 20) (by decide)]
          refine j_iadd C dX6_let_77 ?_
          refine j_putI C fl_X6_101 dX6_let_78 (X.c (by decide)) rfl rfl rfl rfl ?_
          refine j_aload_n C dX6_let_81 rfl ?_
          refine j_iload_n C dX6_let_82 rfl ?_
          have hbd11 : vp_in (T 21 (tn x)) 11 := by
            obtain ⟨k, hk, ek⟩ := vp_in_of hbd (by decide)
            rw [ek]; exact vp_inN (by omega) (by decide)
          refine j_callV1V C ml_X6_104 dX6_let_83 (cX_letTo hg (X.g ha) (X.gp ha) (X.ga ha) (hbd11)) (by rw [X.g ha]; exact ⟨by decide, rfl⟩) ⟨Nat.le_of_ble_eq_true rfl, Nat.le_of_ble_eq_true rfl⟩ (Nat.le_of_ble_eq_true rfl) ⟨rfl, rfl⟩ ⟨Nat.zero_le _, Nat.zero_le _⟩ ?_
          refine j_iload_n C dX6_let_86 rfl ?_
          rw [mLet, if_pos hx, if_pos h16, if_neg h23, if_pos h44] at hRES
          subst hRES
          refine j_iret C dX6_let_87 rfl ⟨rfl, rfl, ?_, (((hF1.u' ⟨by decide, by decide⟩).u' ⟨by omega, by omega⟩).u' ⟨by omega, by omega⟩).u' ⟨by omega, by omega⟩⟩
          obtain ⟨pp, hpp, epp⟩ := vp_in_of hbd (by decide)
          have et : tn (T 21 (tn x)) = pp := by rw [epp]; exact nI_clamp (by omega)
          have hxp : tn (10 * x + T 21 (tn x)) = 10 * tn x + pp := ixx e1 epp (by have := X.nG8; omega) hpp
          have hN2 := hN1.chest X.nG8 X.nB3 X.nV3 (mLet3 T x 0 3 + mLet3 T x 20 (tn x))
          have hz := (hI.2.1 _ ha).2.2.2.1 h16
          have hx8 : tn x < 8 := by have := X.nG8; omega
          have e23 : u2 (mLet3 T x) 0 3 (mLet3 T x 0 3 + mLet3 T x 20 (tn x)) 23 = T 23 := by
            rw [u2_row (by decide)]
            unfold mLet3
            exact u2_row (by decide)
          have hN3 := hN2.part1 X.nG8 X.nB3 X.nV3 (N1 := u2 (u2 (u2 N1 100 1 (mLet3 T x 0 3 + mLet3 T x 20 (tn x))) (1100 + tn x) 10 0) (1100 + tn x) pp 24) (T1 := u2 (u2 (mLet3 T x) 0 3 (mLet3 T x 0 3 + mLet3 T x 20 (tn x))) 23 (10 * tn x + pp) 24) ha (fun i hi => by rw [u2_row hi, u2_row hi]) (fun i hi => u2_row hi) ⟨fun q hq => ?_, ?_⟩ (fun a' ha' hne => ⟨fun q hq => ?_, ?_⟩)
          · have hN4 := hN3.gal X.nG8 X.nB3 X.nV3 (f := 8) (r := 22) (by decide) ha 1
            rw [hxp, u2_comm _ (by decide)]
            show XN (xLetTo (u2 N1 100 1 (mLet3 T x 0 3 + mLet3 T x 20 (tn x))) (1000 + tn x) (1100 + tn x) (T 21 (tn x))) _ _ _ _ _ _
            unfold xLetTo
            rw [et]
            exact hN4
          · by_cases e : q = pp
            · subst e; rw [u2_eq, u2_eq]
            · rw [u2_ne (fun z => e z.2), u2_ne (by omega), hN2.p ha hq]
              exact (u2_ne (by omega)).symm
          · rw [u2_ne (by omega), u2_eq, mLeft_u 24 hx8 hpp 10 (by decide), if_pos hpp, mLeft_z hx8 (fun q hq => by rw [e23]; exact hz q hq) 10 (by decide), e23, hz pp hpp]
            decide
          · exact u2_ne (by omega)
          · exact mLeft_u' 24 (by have := X.nG8; omega) hpp hne 10 (by decide)
        · skip
          refine j_aload_n C dX6_let_47 rfl ?_
          refine j_iconst C dX6_let_48 (v := 0) (by decide) ?_
          refine j_putI C fl_X6_95 dX6_let_49 (X.g ha) rfl rfl rfl rfl ?_
          refine j_bipush C dX6_let_52 (v := (-2)) (by decide) ?_
          rw [mLet, if_pos hx, if_pos h16, if_neg h23, if_neg h44] at hRES
          subst hRES
          exact j_iret C dX6_let_54 rfl ⟨rfl, rfl, hN.gal X.nG8 X.nB3 X.nV3 (f := 6) (r := 20) (by decide) ha _, FRN.u ⟨by omega, by omega⟩⟩
      · replace h23 := Decidable.not_not.mp h23
        refine j_bipush C dX6_let_26 (v := (-2)) (by decide) ?_
        rw [mLet, if_pos hx, if_pos h16, if_pos h23] at hRES
        subst hRES
        exact j_iret C dX6_let_28 rfl ⟨rfl, rfl, hN, FRN.rfl N⟩
  · skip
    refine j_callV1RN C ml_X6_86 dX6_let_2 (cX_galleyOfN hg X (by rw [← hI.g9]; exact hx)) ⟨by rw [X.c (i := 100) (c := 6) (by decide)]; decide, by rw [X.c (i := 100) (c := 6) (by decide)]; rfl⟩ ⟨Nat.le_of_ble_eq_true rfl, Nat.le_of_ble_eq_true rfl⟩ (Nat.le_of_ble_eq_true rfl) ⟨rfl, rfl⟩ ⟨Nat.zero_le _, Nat.zero_le _⟩ ?_
    refine j_astore_nN C dX6_let_5 (by decide) rfl ?_
    refine j_aload_nN C dX6_let_6 rfl ?_
    refine j_ifnonnullN C dX6_let_7 ?_
    refine j_iconst C dX6_let_10 (v := (-1)) (by decide) ?_
    rw [mLet, if_neg hx] at hRES
    subst hRES
    exact j_iret C dX6_let_11 rfl ⟨rfl, rfl, hN, FRN.rfl N⟩

theorem cX_part {l : Launch} {g : WGp} (hg : GOK g) {sh : WSh} {N : WNm} {o : Nat → Nat} {nG nB nV kG kB kV : Nat} {ln : Nat → Nat} (X : XH o sh N nG nB nV kG kB kV ln) {nT nP dy : Nat} {T : WNm} (hN : XN N T nG nB nV nT ln) (hI : TI T nG nB nV nP dy)  (x a b n : Int32) : CT l g yX6_part cX6_part 6 (some .int) (RM 5 0 0) [.ref (sh.2.2 100), .int x, .int a, .int b, .int n] sh N (QX g sh N nG nB nV nT ln (mPart T x a b n)) := by
  refine ent hg (by decide +kernel) (Nat.le_of_ble_eq_true rfl) ?_
  intro p e s m args below meth c C hname
  generalize hRES : mPart T x a b n = RES
  refine j_aload_n C dX6_part_0 rfl ?_
  refine j_iload_n C dX6_part_1 rfl ?_
  by_cases hx : 0 ≤ x ∧ x ≤ T 0 9 - 1
  · obtain ⟨ha, e1⟩ := rngT hx hI.g9 (Nat.le_trans X.nG8 (by decide))
    refine j_callV1RS (x := 1000 + tn x) C ml_X6_86 dX6_part_2 (cX_galleyOfS hg X (by rw [← hI.g9]; exact hx)) ⟨by rw [X.c (i := 100) (c := 6) (by decide)]; decide, by rw [X.c (i := 100) (c := 6) (by decide)]; rfl⟩ ⟨Nat.le_of_ble_eq_true rfl, Nat.le_of_ble_eq_true rfl⟩ (Nat.le_of_ble_eq_true rfl) ⟨rfl, rfl⟩ ⟨Nat.zero_le _, Nat.zero_le _⟩ ?_
    refine j_astore C dX6_part_5 (by decide) rfl ?_
    refine j_aload C dX6_part_7 rfl ?_
    refine j_ifnull C dX6_part_9 ?_
    refine j_iload_n C dX6_part_12 rfl ?_
    refine j_callS1I C ml_X6_52 dX6_part_13 (cX_isPerson hg _) ⟨Nat.le_of_ble_eq_true rfl, Nat.le_of_ble_eq_true rfl⟩ (Nat.le_of_ble_eq_true rfl) ⟨rfl, rfl⟩ ⟨Nat.zero_le _, Nat.zero_le _⟩ ?_
    refine j_if_eq (tgt := 42) C dX6_part_16 (by decide) (fun h16 => ?_) (fun h16 => ?_)
    · replace h16 := b2_eq0.mp h16
      refine j_iconst C dX6_part_42 (v := (-1)) (by decide) ?_
      rw [mPart, if_pos hx, if_neg h16] at hRES
      subst hRES
      exact j_iret C dX6_part_43 rfl ⟨rfl, rfl, hN, FRN.rfl N⟩
    · replace h16 := b2_ne0.mp h16
      refine j_iload_n C dX6_part_19 rfl ?_
      refine j_callS1I C ml_X6_52 dX6_part_20 (cX_isPerson hg _) ⟨Nat.le_of_ble_eq_true rfl, Nat.le_of_ble_eq_true rfl⟩ (Nat.le_of_ble_eq_true rfl) ⟨rfl, rfl⟩ ⟨Nat.zero_le _, Nat.zero_le _⟩ ?_
      refine j_if_eq (tgt := 42) C dX6_part_23 (by decide) (fun h23 => ?_) (fun h23 => ?_)
      · replace h23 := b2_eq0.mp h23
        refine j_iconst C dX6_part_42 (v := (-1)) (by decide) ?_
        rw [mPart, if_pos hx, if_pos h16, if_neg h23] at hRES
        subst hRES
        exact j_iret C dX6_part_43 rfl ⟨rfl, rfl, hN, FRN.rfl N⟩
      · replace h23 := b2_ne0.mp h23
        refine j_iload_n C dX6_part_26 rfl ?_
        refine j_iload_n C dX6_part_27 rfl ?_
        refine j_icmp_eq (tgt := 42) C dX6_part_28 (by decide) (fun h28 => ?_) (fun h28 => ?_)
        · skip
          refine j_iconst C dX6_part_42 (v := (-1)) (by decide) ?_
          rw [mPart, if_pos hx, if_pos h16, if_pos h23, if_pos h28] at hRES
          subst hRES
          exact j_iret C dX6_part_43 rfl ⟨rfl, rfl, hN, FRN.rfl N⟩
        · skip
          refine j_iload C dX6_part_31 rfl ?_
          refine j_iconst C dX6_part_33 (v := 1) (by decide) ?_
          refine j_bipush C dX6_part_34 (v := 24) (by decide) ?_
          refine j_callS3I C ml_X6_57 dX6_part_36 (cX_within hg _ _ _) ⟨Nat.le_of_ble_eq_true rfl, Nat.le_of_ble_eq_true rfl⟩ (Nat.le_of_ble_eq_true rfl) ⟨rfl, rfl⟩ ⟨Nat.zero_le _, Nat.zero_le _⟩ ?_
          refine j_if_ne (tgt := 44) C dX6_part_39 (by decide) (fun h39 => ?_) (fun h39 => ?_)
          · replace h39 := b2_ne0.mp h39
            obtain ⟨haa, eaa⟩ := tn10 h16
            obtain ⟨hbb, ebb⟩ := tn10 h23
            have hx8 : tn x < 8 := by have := X.nG8; omega
            have exa := ixx e1 eaa hx8 haa
            have exb := ixx e1 ebb hx8 hbb
            have hab : ¬ tn a = tn b := fun z => h28 (by rw [eaa, ebb, z])
            refine j_aload C dX6_part_44 rfl ?_
            refine j_getR (j := (1100 + tn x)) C fl_X6_108 dX6_part_46 (X.g ha) rfl (X.gp ha) ?_
            refine j_iload_n C dX6_part_49 rfl ?_
            refine j_iald C (X.ga ha) (in11 h16) dX6_part_50 ?_
            rw [hN.p ha haa]
            refine j_iload C dX6_part_51 rfl ?_
            refine j_icmp_ge (tgt := 59) C dX6_part_53 (by decide) (fun h53 => ?_) (fun h53 => ?_)
            · skip
              refine j_aload C dX6_part_59 rfl ?_
              refine j_getR (j := (1100 + tn x)) C fl_X6_108 dX6_part_61 (X.g ha) rfl (X.gp ha) ?_
              refine j_iload_n C dX6_part_64 rfl ?_
              refine j_dup2 C dX6_part_65 rfl rfl ?_
              refine j_iald C (X.ga ha) (in11 h16) dX6_part_66 ?_
              rw [hN.p ha haa]
              refine j_iload C dX6_part_67 rfl ?_
              refine j_isub C dX6_part_69 ?_
              refine j_iast C (X.ga ha) (in11 h16) dX6_part_70 ?_
              refine j_aload C dX6_part_71 rfl ?_
              refine j_getR (j := (1100 + tn x)) C fl_X6_108 dX6_part_73 (X.g ha) rfl (X.gp ha) ?_
              refine j_iload_n C dX6_part_76 rfl ?_
              refine j_dup2 C dX6_part_77 rfl rfl ?_
              refine j_iald C (X.ga ha) (in11 h23) dX6_part_78 ?_
              refine j_iload C dX6_part_79 rfl ?_
              refine j_iadd C dX6_part_81 ?_
              refine j_iast C (X.ga ha) (in11 h23) dX6_part_82 ?_
              refine j_aload C dX6_part_83 rfl ?_
              refine j_getR (j := (1100 + tn x)) C fl_X6_108 dX6_part_85 (X.g ha) rfl (X.gp ha) ?_
              refine j_iload_n C dX6_part_88 rfl ?_
              refine j_iald C (X.ga ha) (in11 h23) dX6_part_89 ?_
              rw [← exa] at h53
              rw [mPart, if_pos hx, if_pos h16, if_pos h23, if_neg h28, if_pos h39, if_pos h53] at hRES
              subst hRES
              have ed1 : mPart1 T x a n = u2 T 23 (10 * tn x + tn a) (T 23 (10 * tn x + tn a) - n) := by unfold mPart1; rw [exa]
              have ed : mPart2 T x a b n = u2 (u2 T 23 (10 * tn x + tn a) (T 23 (10 * tn x + tn a) - n)) 23 (10 * tn x + tn b) (T 23 (10 * tn x + tn b) + n) := by
                unfold mPart2
                rw [ed1, exb, u2_ne (i := 23) (k := 10 * tn x + tn a) (by omega)]
              have en : u2 N (1100 + tn x) (tn a) (T 23 (10 * tn x + tn a) - n) (1100 + tn x) (tn b) = T 23 (10 * tn x + tn b) := by rw [u2_ne (fun z => hab z.2.symm)]; exact hN.p ha hbb
              rw [ed, exb]
              refine j_iret C dX6_part_90 rfl ⟨rfl, ?_, ?_, (FRN.u ⟨by omega, by omega⟩).u' ⟨by omega, by omega⟩⟩
              · show u2 _ (1100 + tn x) (tn b) _ (1100 + tn x) (tn b) = u2 _ 23 _ _ 23 _
                rw [u2_eq, u2_eq]
                show u2 N (1100 + tn x) (tn a) (T 23 (10 * tn x + tn a) - n) (1100 + tn x) (tn b) + n = _
                rw [en]
              · show XN (u2 (u2 N (1100 + tn x) (tn a) (T 23 (10 * tn x + tn a) - n)) (1100 + tn x) (tn b) (u2 N (1100 + tn x) (tn a) (T 23 (10 * tn x + tn a) - n) (1100 + tn x) (tn b) + n)) (u2 (u2 T 23 (10 * tn x + tn a) (T 23 (10 * tn x + tn a) - n)) 23 (10 * tn x + tn b) (T 23 (10 * tn x + tn b) + n)) _ _ _ _ _
                rw [en]
                refine hN.part1 X.nG8 X.nB3 X.nV3 ha (fun i hi => by rw [u2_row hi, u2_row hi]) (fun i hi => by rw [u2_row hi, u2_row hi]) ⟨fun q hq => ?_, ?_⟩ (fun a' ha' hne => ⟨fun q hq => ?_, ?_⟩)
                · by_cases e : q = tn b
                  · subst e; rw [u2_eq, u2_eq]
                  · rw [u2_ne (fun z => e z.2), u2_ne (a := 23) (by omega)]
                    by_cases e' : q = tn a
                    · subst e'; rw [u2_eq, u2_eq]
                    · rw [u2_ne (fun z => e' z.2), u2_ne (a := 23) (by omega), hN.p ha hq]
                · rw [u2_ne (by omega), u2_ne (by omega), mLeft_u _ hx8 hbb 10 (by decide), if_pos hbb, mLeft_u _ hx8 haa 10 (by decide), if_pos haa, u2_ne (a := 23) (by omega), i_ab, i_ab2, Int32.add_sub_cancel, (hN.2.2.2.1 _ ha).2, ← e1]
                · rw [u2_ne (by omega), u2_ne (by omega)]
                · rw [mLeft_u' _ (by have := X.nG8; omega) hbb hne 10 (by decide), mLeft_u' _ (by have := X.nG8; omega) haa hne 10 (by decide)]
            · skip
              refine j_bipush C dX6_part_56 (v := (-2)) (by decide) ?_
              rw [← exa] at h53
              rw [mPart, if_pos hx, if_pos h16, if_pos h23, if_neg h28, if_pos h39, if_neg h53] at hRES
              subst hRES
              exact j_iret C dX6_part_58 rfl ⟨rfl, rfl, hN, FRN.rfl N⟩
          · replace h39 := b2_eq0.mp (Decidable.not_not.mp h39)
            refine j_iconst C dX6_part_42 (v := (-1)) (by decide) ?_
            rw [mPart, if_pos hx, if_pos h16, if_pos h23, if_neg h28, if_neg h39] at hRES
            subst hRES
            exact j_iret C dX6_part_43 rfl ⟨rfl, rfl, hN, FRN.rfl N⟩
  · skip
    refine j_callV1RN C ml_X6_86 dX6_part_2 (cX_galleyOfN hg X (by rw [← hI.g9]; exact hx)) ⟨by rw [X.c (i := 100) (c := 6) (by decide)]; decide, by rw [X.c (i := 100) (c := 6) (by decide)]; rfl⟩ ⟨Nat.le_of_ble_eq_true rfl, Nat.le_of_ble_eq_true rfl⟩ (Nat.le_of_ble_eq_true rfl) ⟨rfl, rfl⟩ ⟨Nat.zero_le _, Nat.zero_le _⟩ ?_
    refine j_astoreN C dX6_part_5 (by decide) rfl ?_
    refine j_aloadN C dX6_part_7 rfl ?_
    refine j_ifnullN (tgt := 42) C dX6_part_9 (by decide) ?_
    refine j_iconst C dX6_part_42 (v := (-1)) (by decide) ?_
    rw [mPart, if_neg hx] at hRES
    subst hRES
    exact j_iret C dX6_part_43 rfl ⟨rfl, rfl, hN, FRN.rfl N⟩
