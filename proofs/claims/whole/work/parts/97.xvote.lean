/-! ===== THE CLASS: vote ===== -/
theorem XH.voteNew {o : Nat → Nat} {sh sh2 : WSh} {N N2 : WNm} {nG nB nV kG kB kV k2 L : Nat} {ln : Nat → Nat} (h : XH o sh N nG nB nV kG kB kV ln) (hV : nV < 30) (f : SAME sh N sh2 N2 (fun i => i = 107 ∨ (460 ≤ i ∧ i ≤ 470) ∨ i = 3000 + nV ∨ i = 3100 + nV)) (hL : LST sh2 N2 (o 2) 107 460 k2 (nl 3000 (nV + 1))) (hn : (sh2.1 (3000 + nV)).1 = 5 ∧ sh2.2.1 (3000 + nV) 2 = some (3100 + nV) ∧ sh2.1 (3100 + nV) = (9, L)) (hR : RF sh2) : XH o sh2 N2 nG nB (nV + 1) kG kB k2 (fun v => if v = nV then L else ln v) := by
  obtain ⟨⟨a1, a2, a3⟩, ⟨l1, l2, l3, l4, l5, l6⟩, ⟨g1, g2, g3⟩, ⟨f1, f2, f3⟩, -⟩ := h
  obtain ⟨t1, t2, t3⟩ := tabs_le2
  refine ⟨⟨fun q hq => ?_, fun q hq => ?_, fun q hq => ?_⟩, ⟨l1.keep (fun i hi => f i (by omega)), l2.keep (fun i hi => f i (by omega)), hL, l4, l5, by omega⟩, ⟨fun a ha => ?_, fun b hb => ?_, fun v hv => ?_⟩, ⟨fun a h1 h2 => ?_, fun b h1 h2 => ?_, fun v h1 h2 => ?_⟩, hR⟩
  · have := t1 q hq; rw [(f q.1 (by omega)).1]; exact a1 q hq
  · have := t2 q hq; rw [(f q.1 (by omega)).2.1]; exact a2 q hq
  · have := t3 q hq; rw [(f q.1 (by omega)).1]; exact a3 q hq
  · rw [(f (1000 + a) (by omega)).1, (f (1100 + a) (by omega)).1, (f (1000 + a) (by omega)).2.1]; exact g1 a ha
  · rw [(f (2000 + b) (by omega)).1]; exact g2 b hb
  · show _ ∧ _ ∧ sh2.1 (3100 + v) = (9, if v = nV then L else ln v)
    by_cases e : v = nV
    · rw [if_pos e, e]; exact hn
    · rw [if_neg e, (f (3000 + v) (by omega)).1, (f (3100 + v) (by omega)).1, (f (3000 + v) (by omega)).2.1]; exact g3 v (by omega)
  · rw [(f (1000 + a) (by omega)).1, (f (1100 + a) (by omega)).1]; exact f1 a h1 h2
  · rw [(f (2000 + b) (by omega)).1]; exact f2 b h1 h2
  · rw [(f (3000 + v) (by omega)).1, (f (3100 + v) (by omega)).1]; exact f3 v (by omega) h2

theorem cX_vote {l : Launch} {g : WGp} (hg : GOK g) {sh : WSh} {N : WNm} {o : Nat → Nat} {nG nB nV kG kB kV : Nat} {ln : Nat → Nat} (X : XH o sh N nG nB nV kG kB kV ln) {nT nP dy : Nat} {T : WNm} (hN : XN N T nG nB nV nT ln) (hI : TI T nG nB nV nP dy) (hX : HX g o) (hX2 : HX2 g) {k base : Nat} {rl0 : List Nat} (hK : LST sh N (o 2) 108 480 k (bn rl0)) (hrl : ∀ x ∈ rl0, x < nB) (hbase : T 42 nV = nI base) (hb6 : base ≤ 200 * nV) (k0 : Int32) : CT l g yX6_vote cX6_vote 3 (some .int) (RM 121 3 600) [.ref (sh.2.2 100), .int k0] sh N (QI g (fun r sh1 N1 => (∀ q T', VR T nT base nV k0 q T' → q = r ∧ XSt o sh1 N1 T' ∧ ∃ nV2, TI T' nG nB nV2 nP dy) ∧ FRL sh N sh1 N1)) := by
  refine ent hg (by decide +kernel) (Nat.le_of_ble_eq_true rfl) ?_
  intro p e s m args below meth c C hname
  have hB := X.nB3
  have hG := X.nG8
  have hV := X.nV3
  have hci : ∀ U H, g.X U H → CO 5 U := fun U H h => ⟨by decide, (hX2 U H h).1.2.2.1⟩
  obtain ⟨hT1, hT2, hT3, hT4⟩ := hN.2.2.2.2.2.2.2
  obtain ⟨rr1, rr2, rr3⟩ := read_rel (xp := N 112) (tp := T 37) (n := nT) hT4 hT2 (N 109 4) (T 0 48)
  refine j_iload_n C dX6_vote_0 rfl ?_
  refine j_callS1I C ml_X6_147 dX6_vote_1 (cX_isVoteKind hg _) ⟨Nat.le_of_ble_eq_true rfl, Nat.le_of_ble_eq_true rfl⟩ (Nat.le_of_ble_eq_true rfl) ⟨rfl, rfl⟩ ⟨Nat.zero_le _, Nat.zero_le _⟩ ?_
  refine j_if_ne (tgt := 9) C dX6_vote_4 (by decide) (fun h4 => ?_) (fun h4 => ?_)
  · replace h4 := b2_ne0.mp h4
    refine j_aload_n C dX6_vote_9 rfl ?_
    refine j_getR (j := 107) C fl_X6_32 dX6_vote_10 (X.c (by decide)) rfl (X.r (by decide)) ?_
    refine j_callV0I C ml_X6_73 dX6_vote_13 (cJ_size hg X.lv.1.1) (⟨by rw [X.lv.1.1]; decide, by rw [X.lv.1.1]; rfl⟩) ⟨Nat.le_of_ble_eq_true rfl, Nat.le_of_ble_eq_true rfl⟩ (Nat.le_of_ble_eq_true rfl) ⟨rfl, rfl⟩ ⟨Nat.zero_le _, Nat.zero_le _⟩ ?_
    rw [X.zV]
    refine j_bipush C dX6_vote_16 (v := 30) (by decide) ?_
    refine j_icmp_lt (tgt := 24) C dX6_vote_18 (by decide) (fun h18 => ?_) (fun h18 => ?_)
    · skip
      rw [show (30 : Int32) = nI 30 from rfl, n_nlt (by omega) (by decide)] at h18
      refine j_aload_n C dX6_vote_24 rfl ?_
      refine j_getR (j := 109) C fl_X6_38 dX6_vote_25 (X.c (by decide)) rfl (X.r (by decide)) ?_
      refine j_callV0Ig C ml_X6_150 dX6_vote_28 (cX_read hg X.rsh hX (n := nT) hT1 hT2) ⟨by rw [X.rsh.r]; decide, by rw [X.rsh.r]; rfl⟩ ⟨Nat.le_of_ble_eq_true rfl, Nat.le_of_ble_eq_true rfl⟩ (Nat.le_of_ble_eq_true rfl) ⟨rfl, rfl⟩ ⟨Nat.zero_le _, Nat.zero_le _⟩ (fun r sh1 N1 hq => ?_)
      obtain ⟨e1, e2, hRD⟩ := hq
      replace e1 := e1.symm
      subst e1
      rw [rr1] at e2
      obtain ⟨F, hF⟩ : ∃ F, F = (mReadR (T 37) nT (T 0 48)).1 := ⟨_, rfl⟩
      rw [← hF] at e2
      subst e2
      refine j_istore_n C dX6_vote_31 (by decide) rfl ?_
      refine j_aload_n C dX6_vote_32 rfl ?_
      refine j_getR (j := 109) C fl_X6_38 dX6_vote_33 (X.c (by decide)) rfl (X.r (by decide)) ?_
      refine j_getR (j := 111) C fl_X6_134 dX6_vote_36 (X.c (by decide)) rfl (X.r (by decide)) ?_
      refine j_iconst C dX6_vote_39 (v := 0) (by decide) ?_
      refine j_putI C fl_X6_138 dX6_vote_40 (X.c (by decide)) rfl rfl rfl rfl ?_
      obtain ⟨N2, eN2⟩ : ∃ N2, N2 = u2 N1 111 1 0 := ⟨_, rfl⟩
      rw [← eN2]
      have n2 : ∀ i, ¬ i = 109 → ¬ i = 113 → ¬ i = 111 → N2 i = N i := fun i h1 h2 h3 => by rw [eN2, u2_row h3]; exact hRD.2.2.2.2.2.2.2.2.1 i h1 h2
      have n2t : N2 111 1 = 0 := by rw [eN2]; exact u2_eq _ _ _ _
      have n2r : N2 109 = N1 109 ∧ N2 113 = N1 113 := by rw [eN2]; exact ⟨u2_row (by decide), u2_row (by decide)⟩
      clear eN2
      have X2 : XH o sh N2 nG nB nV kG kB kV ln := X.cong (by rw [n2 105 (by decide) (by decide) (by decide)]) (by rw [n2 106 (by decide) (by decide) (by decide)]) (by rw [n2 107 (by decide) (by decide) (by decide)])
      have hK2 : LST sh N2 (o 2) 108 480 k (bn rl0) := hK.keep (fun i hi => ⟨rfl, rfl, rfl, n2 i (by omega) (by omega) (by omega)⟩)
      refine j_iload_n C dX6_vote_43 rfl ?_
      refine j_iconst C dX6_vote_44 (v := (-1)) (by decide) ?_
      refine j_icmp_eq (tgt := 53) C dX6_vote_45 (by decide) (fun h45 => ?_) (fun h45 => ?_)
      · skip
        obtain ⟨st1, st2, st3, st4⟩ := rr3 (hF.symm.trans h45)
        obtain ⟨out, hout⟩ : ∃ out, out = (mReadR (T 37) nT (T 0 48)).2 := ⟨_, rfl⟩
        rw [← hout] at st1 st2 st3 st4
        have hLn : (xRd (N 112) nT (N 109 4)).2.2.2.2.2.length = out.length := by rw [st1, List.length_map]
        have n6 : N2 109 6 = nI out.length := by rw [n2r.1, hRD.2.2.2.2.1, hLn]
        have n7 : pileOf (N2 113) out.length = stL out := by
          have z := hRD.2.2.2.2.2.1
          rw [hLn, st1] at z
          rw [n2r.2]; exact z
        refine j_aload_n C dX6_vote_53 rfl ?_
        refine j_getR (j := 107) C fl_X6_32 dX6_vote_54 (X.c (by decide)) rfl (X.r (by decide)) ?_
        have hfr := X.2.2.2.1.2.2 nV (Nat.le_refl _) h18
        refine j_new (i := 3000 + nV) C nl_X6_153 (Nat.lt_trans (by decide) hfr.1) (X.rf.no hfr.1) (Nat.le_of_ble_eq_true rfl) (Nat.le_of_ble_eq_true rfl) dX6_vote_57 (fun q => ?_)
        obtain ⟨sh1, e1⟩ : ∃ sh1, sh1 = shNew sh (3000 + nV) (5, 0) q := ⟨_, rfl⟩
        obtain ⟨N3, e2⟩ : ∃ N3, N3 = nNew N2 (3000 + nV) := ⟨_, rfl⟩
        have hq : q = sh1.2.2 (3000 + nV) := by rw [e1]; exact (up_eq _ _ _).symm
        have f1 : ∀ i, ¬ i = 3000 + nV → sh1.1 i = sh.1 i ∧ sh1.2.1 i = sh.2.1 i ∧ sh1.2.2 i = sh.2.2 i ∧ N3 i = N2 i := fun i hi => by rw [e1, e2]; exact ⟨up_ne hi, up_ne hi, up_ne hi, up_ne hi⟩
        have hc1 : (sh1.1 (3000 + nV)).1 = 5 := by rw [e1]; show (va_up sh.1 (3000 + nV) (5, 0) (3000 + nV)).1 = 5; rw [up_eq]
        have hR1 : RF sh1 := by rw [e1]; exact X.rf.new (by decide)
        have RS := X.rsh
        have RS1 : RSh sh1 109 111 112 113 := by
          unfold RSh at RS ⊢
          rw [(f1 109 (by omega)).1, (f1 109 (by omega)).2.1, (f1 111 (by omega)).1, (f1 111 (by omega)).2.1, (f1 112 (by omega)).1, (f1 113 (by omega)).1]
          exact RS
        rw [← e1, ← e2, hq, ← (f1 100 (by omega)).2.2.1, ← (f1 107 (by omega)).2.2.1]
        clear e1 e2 hq
        refine j_dup C dX6_vote_60 rfl ?_
        refine j_iload_n C dX6_vote_61 rfl ?_
        refine j_aload_n C dX6_vote_62 rfl ?_
        refine j_getI C fl_X6_122 dX6_vote_63 (by rw [(f1 100 (by omega)).1]; exact X.c (by decide)) rfl ?_
        rw [show N3 100 13 = T 0 1 by rw [(f1 100 (by omega)).2.2.2, n2 100 (by decide) (by decide) (by decide)]; exact hN.1.2.2.2]
        refine j_aload_n C dX6_vote_66 rfl ?_
        refine j_getR (j := 109) C fl_X6_38 dX6_vote_67 (by rw [(f1 100 (by omega)).1]; exact X.c (by decide)) rfl (by rw [(f1 100 (by omega)).2.1]; exact X.r (by decide)) ?_
        refine j_callV0Rg C ml_X6_155 dX6_vote_70 (cX_stepsRead hg hX2 (P := 3100 + nV) (n := out.length) RS1 (by rw [(f1 109 (by omega)).2.2.2]; exact n6) st3 hR1 (by rw [(f1 (3100 + nV) (by omega)).1]; exact hfr.2)) ⟨by rw [RS1.r]; decide, by rw [RS1.r]; rfl⟩ ⟨Nat.le_of_ble_eq_true rfl, Nat.le_of_ble_eq_true rfl⟩ (Nat.le_of_ble_eq_true rfl) ⟨rfl, rfl⟩ ⟨Nat.le_of_ble_eq_true rfl, by show 0 + 3 + out.length ≤ 600; omega⟩ (fun r9 sh2 N4 hq => ?_)
        obtain ⟨er, c1, c2, hR2, c4⟩ := hq
        subst er
        change J _ _ _ _ _ _ _ _ _ _ _ _ _ _ _ _ _ _ _ (.ref (sh2.2.2 (3100 + nV)) :: _)
        have hc2 : (sh2.1 (3000 + nV)).1 = 5 := by rw [(c4 (3000 + nV) (by omega)).1]; exact hc1
        rw [← (c4 100 (by omega)).2.2.1, ← (c4 107 (by omega)).2.2.1, ← (c4 (3000 + nV) (by omega)).2.2.1]
        refine j_callI3Vg C ml_X6_159 dX6_vote_73 (cX_voteInit hg (V := 3000 + nV) (P := 3100 + nV) hc2 (by rw [c1]; exact (by decide : 9 ≤ 12)) _ _) ⟨Nat.le_of_ble_eq_true rfl, Nat.le_of_ble_eq_true rfl⟩ (Nat.le_of_ble_eq_true rfl) ⟨rfl, rfl⟩ ⟨Nat.le_of_ble_eq_true rfl, by show 0 + 3 + out.length ≤ 600; omega⟩ (fun sh3 N5 hq => ?_)
        obtain ⟨e3, e5⟩ := hq
        have g1 : ∀ i, sh3.1 i = sh2.1 i ∧ sh3.2.2 i = sh2.2.2 i := fun i => by rw [e3]; exact ⟨rfl, rfl⟩
        have g2 : ∀ i, ¬ i = 3000 + nV → sh3.2.1 i = sh2.2.1 i ∧ N5 i = N4 i := fun i hi => by rw [e3, e5]; exact ⟨u2_row hi, by rw [u2_row hi, u2_row hi]⟩
        have g3 : sh3.2.1 (3000 + nV) 2 = some (3100 + nV) := by rw [e3]; exact u2_eq _ _ _ _
        have g4 : N5 (3000 + nV) 0 = k0 ∧ N5 (3000 + nV) 1 = T 0 1 := by rw [e5]; exact ⟨by rw [u2_ne (by omega), u2_eq], u2_eq _ _ _ _⟩
        have hR3 : RF sh3 := fun a q j hj => by
          rw [(g1 j).1]
          by_cases e : a = 3000 + nV ∧ q = 2
          · rw [e.1, e.2, g3] at hj
            cases hj
            rw [c1]
            exact (by decide : 9 ≤ 13)
          · rw [e3] at hj
            replace hj : u2 sh2.2.1 (3000 + nV) 2 (some (3100 + nV)) a q = some j := hj
            rw [u2_ne e] at hj
            exact hR2 a q j hj
        rw [← (g1 100).2, ← (g1 107).2, ← (g1 (3000 + nV)).2]
        clear e3 e5
        have s3 : ∀ i, ¬ i = 3000 + nV → ¬ i = 3100 + nV → sh3.1 i = sh.1 i ∧ sh3.2.1 i = sh.2.1 i ∧ sh3.2.2 i = sh.2.2 i ∧ N5 i = N2 i := fun i h1 h2 => ⟨(g1 i).1.trans ((c4 i h2).1.trans (f1 i h1).1), (g2 i h1).1.trans ((c4 i h2).2.1.trans (f1 i h1).2.1), (g1 i).2.trans ((c4 i h2).2.2.1.trans (f1 i h1).2.2.1), (g2 i h1).2.trans ((c4 i h2).2.2.2.trans (f1 i h1).2.2.2)⟩
        have hL1 : LST sh3 N5 (o 2) 107 460 kV (nl 3000 nV) := X2.lv.keep (fun i hi => s3 i (by omega) (by omega))
        have hc3 : (sh3.1 (3000 + nV)).1 = 5 := by rw [(g1 _).1]; exact hc2
        have hkB : kV ≤ 10 := X.lv.1.2.1
        have hcu : kUp kV nV - kV ≤ 1 := by unfold kUp; split <;> omega
        have hsu : sUp kV nV ≤ 366 := by
          unfold sUp
          split
          · have : kV < 10 := by
              rcases Nat.lt_or_ge kV 10 with z | z
              · exact z
              · exfalso
                have e10 : kV = 10 := by omega
                have h366 : cap kV = 366 := by rw [e10]; decide
                omega
            exact cap_le _ (by omega)
          · omega
        refine j_callV1Ig (c1 := 2 + (kUp kV nV - kV)) (s1 := 3 + out.length + sUp kV nV) C ml_X6_82 dX6_vote_76 (cJ_add hg hX hX2 hL1 (Or.inl (by decide)) hR3 (ci := 5) hci (fun x hx => ?_) (by rw [nl_len]; omega) (x := 3000 + nV) hc3 (by omega)) ⟨by rw [hL1.1.1]; decide, by rw [hL1.1.1]; rfl⟩ ⟨Nat.le_of_ble_eq_true rfl, Nat.le_of_ble_eq_true rfl⟩ (Nat.le_of_ble_eq_true rfl) ⟨by rw [nl_len] <;> try rfl, by rw [nl_len]; show 0 + 3 + out.length + 0 + sUp kV nV = _; omega⟩ ⟨by show _ ≤ 3; omega, by show _ ≤ 600; omega⟩ (fun r9 sh4 N6 hq => ?_)
        · obtain ⟨i, hi, rfl⟩ := nl_mem hx
          rw [(s3 _ (by omega) (by omega)).1]
          exact X.v hi
        obtain ⟨hL2, hFx, hR4⟩ := hq
        rw [nl_len, ← nl_succ] at hL2
        have hsame : SAME sh N2 sh4 N6 (fun i => i = 107 ∨ (460 ≤ i ∧ i ≤ 470) ∨ i = 3000 + nV ∨ i = 3100 + nV) := fun i hi => by
          have z1 := hFx.1 i (by omega)
          have z2 := hFx.2 i (by omega) (by omega)
          have z3 := s3 i (by omega) (by omega)
          exact ⟨z1.1.trans z3.1, z2.1.trans z3.2.1, z1.2.trans z3.2.2.1, z2.2.trans z3.2.2.2⟩
        have X3 := X2.voteNew (L := out.length) h18 hsame hL2 ⟨by rw [(hFx.1 (3000 + nV) (by omega)).1]; exact hc3, by rw [(hFx.2 (3000 + nV) (by omega) (by omega)).1]; exact g3, by rw [(hFx.1 (3100 + nV) (by omega)).1, (g1 _).1]; exact c1⟩ hR4
        have hK3 := hK2.keep (fun i hi => hsame i (by omega))
        have m1 : N6 (3000 + nV) 0 = k0 ∧ N6 (3000 + nV) 1 = T 0 1 := by rw [(hFx.2 (3000 + nV) (by omega) (by omega)).2]; exact g4
        have m2 : ∀ j, j < out.length → N6 (3100 + nV) j = N2 113 j := fun j hj => by
          rw [(hFx.2 (3100 + nV) (by omega) (by omega)).2, (g2 (3100 + nV) (by omega)).2, c2 j hj, (f1 113 (by omega)).2.2.2]
        rw [← (hFx.1 100 (by omega)).2]
        refine j_pop C dX6_vote_79 rfl ?_
        refine j_aload_n C dX6_vote_80 rfl ?_
        refine j_getR (j := 107) C fl_X6_32 dX6_vote_81 (X3.c (by decide)) rfl (X3.r (by decide)) ?_
        refine j_callV0I C ml_X6_73 dX6_vote_84 (cJ_size hg X3.lv.1.1) ⟨by rw [X3.lv.1.1]; decide, by rw [X3.lv.1.1]; rfl⟩ ⟨Nat.le_of_ble_eq_true rfl, Nat.le_of_ble_eq_true rfl⟩ (Nat.le_of_ble_eq_true rfl) ⟨rfl, rfl⟩ ⟨by show _ ≤ 3; omega, by show _ ≤ 600; omega⟩ ?_
        rw [X3.zV]
        refine J.widen (k := 3) (n := 600) (by omega) (by omega) ?_
        refine j_iret C dX6_vote_87 rfl ⟨fun q T' hv => ?_, ⟨fun i hi => ?_, ?_⟩⟩
        rotate_left
        · have z := hsame i (by omega)
          exact ⟨z.1, z.2.1, z.2.2.1, z.2.2.2.trans (n2 i (by omega) (by omega) (by omega))⟩
        · exact (hsame 100 (by omega)).2.2.1
        rcases hv with ⟨z, _⟩ | ⟨_, z, _⟩ | ⟨_, _, ws, out2, Nr, hR, hc⟩
        · exact absurd h4 z
        · omega
        rcases hc with ⟨z, _⟩ | ⟨_, e0, e1, e2⟩
        · exfalso
          rw [← hF, h45] at z
          exact z (by decide)
        · have e3 := e0 (hF.symm.trans h45)
          rw [← hout] at e3
          subst e3
          subst e1; subst e2
          obtain ⟨i1, i2, i3, i4, i5, i6, i7, i8, i9, i10, i11, i12⟩ := vote_ok hR hI hbase hb6 h18 k0 st3 st4
          refine ⟨rfl, ⟨nG, nB, nV + 1, kG, kB, _, 0, _, k, rl0, X3, ?_, hK3, hrl, i1.g9, i1.b23, i1.v38⟩, nV + 1, i1⟩
          refine hN.tape hG hB (fun i hi => (hsame i (by omega)).2.2.2.trans (n2 i (by omega) (by omega) (by omega))) i2 i3 i4 (by rw [(hsame 111 (by omega)).2.2.2]; exact n2t) (fun v hv => ?_)
          by_cases z : v = nV
          · subst z
            simp only [if_true]
            rw [m1.1, m1.2, i8, i9, i10, i6 _ (Nat.le_refl _)]
            refine ⟨rfl, rfl, base, hbase, rfl, by omega, fun j hj => ?_⟩
            rw [m2 j hj]
            exact pile_at (by rw [i11]; exact n7) (by rw [i11]; exact st2) j hj
          · have hk := hN.2.2.2.2.2.2.1.keep (N1 := N6) hbase (by omega) (fun v hv => ⟨(hsame _ (by omega)).2.2.2.trans (n2 _ (by omega) (by omega) (by omega)), (hsame _ (by omega)).2.2.2.trans (n2 _ (by omega) (by omega) (by omega))⟩) i5 i6 i7 v (by omega)
            simp only [if_neg z]
            exact hk
      · skip
        refine j_bipush C dX6_vote_48 (v := (-100)) (by decide) ?_
        refine j_iload_n C dX6_vote_50 rfl ?_
        refine j_isub C dX6_vote_51 ?_
        refine J.widen (k := 3) (n := 600) (Nat.le_of_ble_eq_true rfl) (Nat.le_of_ble_eq_true rfl) ?_
        refine j_iret C dX6_vote_52 rfl ⟨fun q T' hv => ?_, ⟨fun i hi => ⟨rfl, rfl, rfl, n2 i (by omega) (by omega) (by omega)⟩, rfl⟩⟩
        rcases hv with ⟨z, _⟩ | ⟨_, z, _⟩ | ⟨_, _, ws, out, Nr, hR, hc⟩
        · exact absurd h4 z
        · omega
        rcases hc with ⟨_, e1, e2⟩ | ⟨z, _⟩
        · subst e1; subst e2
          obtain ⟨i1, i2, i3, i4⟩ := vote_bad hR hI hbase (by omega)
          refine ⟨by rw [hF], ⟨nG, nB, nV, kG, kB, kV, 0, ln, k, rl0, X2, ?_, hK2, hrl, i1.g9, i1.b23, i1.v38⟩, nV, i1⟩
          exact hN.tape hG hB (fun i hi => n2 i (by omega) (by omega) (by omega)) (fun j hj => i2 j (by omega) (by omega)) (fun i a b => i3 i a (by omega)) (u2_eq _ _ _ _) n2t (hN.2.2.2.2.2.2.1.keep hbase (by omega) (fun v hv => ⟨n2 _ (by omega) (by omega) (by omega), n2 _ (by omega) (by omega) (by omega)⟩) (fun v hv => ⟨by rw [i3 40 (by decide) (by decide)], by rw [i3 41 (by decide) (by decide)]⟩) (fun v hv => by rw [i3 42 (by decide) (by decide)]) i4)
        · exfalso
          rw [← hF] at z rr2
          rcases rr2 with y | ⟨y, hy, ey⟩
          · exact h45 y
          · rw [ey] at z
            exact absurd (nI_pos' (n := y) (by omega)) (i_nle.mpr z)
    · skip
      refine j_bipush C dX6_vote_21 (v := (-3)) (by decide) ?_
      rw [show (30 : Int32) = nI 30 from rfl, n_nlt (by omega) (by decide)] at h18
      refine J.widen (k := 3) (n := 600) (Nat.le_of_ble_eq_true rfl) (Nat.le_of_ble_eq_true rfl) ?_
      refine j_iret C dX6_vote_23 rfl ⟨fun q T' hv => ?_, (FRN.rfl N).l sh⟩
      rcases hv with ⟨z, _⟩ | ⟨_, _, e1, e2⟩ | ⟨_, z, _⟩
      · exact absurd h4 z
      · subst e1; subst e2
        exact ⟨rfl, ⟨nG, nB, nV, kG, kB, kV, nT, ln, k, rl0, X, hN, hK, hrl, hI.g9, hI.b23, hI.v38⟩, nV, hI⟩
      · omega
  · replace h4 := b2_eq0.mp (Decidable.not_not.mp h4)
    refine j_iconst C dX6_vote_7 (v := (-1)) (by decide) ?_
    refine J.widen (k := 3) (n := 600) (Nat.le_of_ble_eq_true rfl) (Nat.le_of_ble_eq_true rfl) ?_
    refine j_iret C dX6_vote_8 rfl ⟨fun q T' hv => ?_, (FRN.rfl N).l sh⟩
    rcases hv with ⟨_, e1, e2⟩ | ⟨z, _⟩ | ⟨z, _⟩
    · subst e1; subst e2
      exact ⟨rfl, ⟨nG, nB, nV, kG, kB, kV, nT, ln, k, rl0, X, hN, hK, hrl, hI.g9, hI.b23, hI.v38⟩, nV, hI⟩
    · exact absurd z h4
    · exact absurd z h4
