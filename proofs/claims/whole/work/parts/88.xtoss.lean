/-! ===== THE CLASS: rankAboard, throwOut, shareLoss, toss ===== -/
def onC (T : WNm) (x : Int32) (b : Nat) : Int32 := if T 34 b = 1 ∧ T 35 b = x then 1 else 0
theorem onC_pos {T : WNm} {x : Int32} {b : Nat} : 0 < onC T x b ↔ (T 34 b = 1 ∧ T 35 b = x) := by
  unfold onC
  by_cases h : T 34 b = 1 ∧ T 35 b = x
  · rw [if_pos h]; exact ⟨fun _ => h, fun _ => by decide⟩
  · rw [if_neg h]; exact ⟨fun z => absurd z (by decide), fun z => absurd z h⟩

theorem cX_rankAboard {l : Launch} {g : WGp} (hg : GOK g) {sh : WSh} {N : WNm} {o : Nat → Nat} {nG nB nV kG kB kV : Nat} {ln : Nat → Nat} (X : XH o sh N nG nB nV kG kB kV ln) {nT nP dy : Nat} {T : WNm} (hN : XN N T nG nB nV nT ln) (hI : TI T nG nB nV nP dy) (hX : HX g o) (hX2 : HX2 g) {k : Nat} {rl0 : List Nat} (hK : LST sh N (o 2) 108 480 k rl0) {a : Nat} (ha : a < nG) : CT l g yX6_rankAboard cX6_rankAboard 5 (some .int) (RM 8 (kTo k (cW (onC T (nI a)) nB) - k) (sTo k (cW (onC T (nI a)) nB))) [.ref (sh.2.2 100), .ref (sh.2.2 (1000 + a))] sh N (QI g (fun r sh1 N1 => r = iSum (onW T (nI a)) nB ∧ ∃ rl : List Nat, rl.Pairwise (RB (T 30)) ∧ (∀ x, x ∈ rl ↔ x < nB ∧ T 34 x = 1 ∧ T 35 x = nI a) ∧ LST sh1 N1 (o 2) 108 480 (kTo k (cW (onC T (nI a)) nB)) (bn rl) ∧ XH o sh1 N1 nG nB nV kG kB kV ln ∧ XN N1 T nG nB nV nT ln ∧ FRK sh N sh1 N1)) := by
  refine ent hg (by decide +kernel) (Nat.le_of_ble_eq_true rfl) ?_
  intro p e s m args below meth c C hname
  have hG := X.nG8
  have hB := X.nB3
  refine j_aload_n C dX6_rankAboard_0 rfl ?_
  refine j_getR (j := 108) C fl_X6_49 dX6_rankAboard_1 (X.c (by decide)) rfl (X.r (by decide)) ?_
  refine j_callV0Vg C ml_X6_313 dX6_rankAboard_4 (cJ_clear (o := o) hg hK (Or.inl (by decide)) X.rf) ⟨by rw [hK.1.1]; decide, by rw [hK.1.1]; rfl⟩ ⟨Nat.le_of_ble_eq_true rfl, Nat.le_of_ble_eq_true rfl⟩ (Nat.le_of_ble_eq_true rfl) ⟨rfl, rfl⟩ ⟨Nat.zero_le _, Nat.zero_le _⟩ (fun sh1 N1 hq => ?_)
  obtain ⟨hK1, hFx, hR1⟩ := hq
  replace X := X.frx hFx hR1
  replace hN := hN.cg X.nG8 X.nB3 X.nV3 hFx.eqn (fun _ _ => rfl)
  have hF := hFx.k
  rw [← (hFx.1 100 (by omega)).2, ← (hFx.1 (1000 + a) (by omega)).2]
  clear hK
  have hK : LST sh1 N1 (o 2) 108 480 (kTo k 0) (bn []) := hK1
  clear hK1 hFx hR1
  refine j_iconst C dX6_rankAboard_7 (v := 0) (by decide) ?_
  refine j_istore_n C dX6_rankAboard_8 (by decide) rfl ?_
  refine j_iconst C dX6_rankAboard_9 (v := 0) (by decide) ?_
  refine j_istore_n C dX6_rankAboard_10 (by decide) rfl ?_
  suffices key : ∀ b, b ≤ nB → ∀ (sh1 : WSh) (N1 : WNm) (rl : List Nat), LST sh1 N1 (o 2) 108 480 (kTo k (cW (onC T (nI a)) b)) (bn rl) → XH o sh1 N1 nG nB nV kG kB kV ln → XN N1 T nG nB nV nT ln → FRK sh N sh1 N1 → rl.Pairwise (RB (T 30)) → (∀ x, x ∈ rl ↔ x < b ∧ T 34 x = 1 ∧ T 35 x = nI a) → rl.length = (cW (onC T (nI a)) b) → (∀ x ∈ rl, N1 (2000 + x) 12 = T 30 x) → J p l e (RM 8 (kTo k (cW (onC T (nI a)) nB) - k) (sTo k (cW (onC T (nI a)) nB))) s m args below meth c (MQ below (QI g (fun r sh1 N1 => r = iSum (onW T (nI a)) nB ∧ ∃ rl : List Nat, rl.Pairwise (RB (T 30)) ∧ (∀ x, x ∈ rl ↔ x < nB ∧ T 34 x = 1 ∧ T 35 x = nI a) ∧ LST sh1 N1 (o 2) 108 480 (kTo k (cW (onC T (nI a)) nB)) (bn rl) ∧ XH o sh1 N1 nG nB nV kG kB kV ln ∧ XN N1 T nG nB nV nT ln ∧ FRK sh N sh1 N1)) args s (kTo k (cW (onC T (nI a)) nB) - k) (sTo k (cW (onC T (nI a)) nB)) g.A) g 5 sh1 N1 (kTo k (cW (onC T (nI a)) b) - k) (sTo k (cW (onC T (nI a)) b)) 11 [some (.ref (sh1.2.2 100)), some (.ref (sh1.2.2 (1000 + a))), some (.int (iSum (onW T (nI a)) b)), some (.int (nI b)), none] [] from by
    have z := key 0 (Nat.zero_le _) sh1 N1 [] hK X hN hF List.Pairwise.nil (fun x => ⟨fun h => (by cases h), fun h => absurd h.1 (Nat.not_lt_zero _)⟩) rfl (fun x h => (by cases h))
    rw [show kTo k (cW (onC T (nI a)) 0) - k = 0 from Nat.sub_self _] at z
    refine J.le ?_ z
    exact ⟨rfl, rfl, rfl, rfl, trivial⟩
  clear hF X hN hK
  refine up_ind (P := fun b => ∀ (sh1 : WSh) (N1 : WNm) (rl : List Nat), LST sh1 N1 (o 2) 108 480 (kTo k (cW (onC T (nI a)) b)) (bn rl) → XH o sh1 N1 nG nB nV kG kB kV ln → XN N1 T nG nB nV nT ln → FRK sh N sh1 N1 → rl.Pairwise (RB (T 30)) → (∀ x, x ∈ rl ↔ x < b ∧ T 34 x = 1 ∧ T 35 x = nI a) → rl.length = (cW (onC T (nI a)) b) → (∀ x ∈ rl, N1 (2000 + x) 12 = T 30 x) → J p l e (RM 8 (kTo k (cW (onC T (nI a)) nB) - k) (sTo k (cW (onC T (nI a)) nB))) s m args below meth c (MQ below (QI g (fun r sh1 N1 => r = iSum (onW T (nI a)) nB ∧ ∃ rl : List Nat, rl.Pairwise (RB (T 30)) ∧ (∀ x, x ∈ rl ↔ x < nB ∧ T 34 x = 1 ∧ T 35 x = nI a) ∧ LST sh1 N1 (o 2) 108 480 (kTo k (cW (onC T (nI a)) nB)) (bn rl) ∧ XH o sh1 N1 nG nB nV kG kB kV ln ∧ XN N1 T nG nB nV nT ln ∧ FRK sh N sh1 N1)) args s (kTo k (cW (onC T (nI a)) nB) - k) (sTo k (cW (onC T (nI a)) nB)) g.A) g 5 sh1 N1 (kTo k (cW (onC T (nI a)) b) - k) (sTo k (cW (onC T (nI a)) b)) 11 [some (.ref (sh1.2.2 100)), some (.ref (sh1.2.2 (1000 + a))), some (.int (iSum (onW T (nI a)) b)), some (.int (nI b)), none] []) (n := nB) ?_
  intro b hb0 ih sh1 N1 rl hK X hN hF hp hmem hlen hW
  have cells_ok : kTo k (cW (onC T (nI a)) b) - k ≤ kTo k (cW (onC T (nI a)) nB) - k := by have := (kTo_mono k (cW_mono (onC T (nI a)) hb0)).1; omega
  have slots_ok : sTo k (cW (onC T (nI a)) b) ≤ sTo k (cW (onC T (nI a)) nB) := (kTo_mono k (cW_mono (onC T (nI a)) hb0)).2
  refine j_iload_n C dX6_rankAboard_11 rfl ?_
  refine j_aload_n C dX6_rankAboard_12 rfl ?_
  refine j_getR (j := 106) C fl_X6_29 dX6_rankAboard_13 (X.c (by decide)) rfl (X.r (by decide)) ?_
  refine j_callV0I C ml_X6_73 dX6_rankAboard_16 (cJ_size hg X.lb.1.1) (⟨by rw [X.lb.1.1]; decide, by rw [X.lb.1.1]; rfl⟩) ⟨Nat.le_of_ble_eq_true rfl, Nat.le_of_ble_eq_true rfl⟩ (Nat.le_of_ble_eq_true rfl) ⟨rfl, rfl⟩ ⟨cells_ok, slots_ok⟩ ?_
  rw [X.zB]
  refine j_icmp_ge (tgt := 69) C dX6_rankAboard_19 (by decide) (fun h19 => ?_) (fun h19 => ?_)
  · skip
    refine j_iload_n C dX6_rankAboard_69 rfl ?_
    rw [n_nle (by omega) (by omega)] at h19
    obtain rfl : b = nB := by omega
    exact j_iret C dX6_rankAboard_70 rfl ⟨rfl, rl, hp, hmem, hK, X, hN, hF⟩
  · skip
    rw [n_nle (by omega) (by omega)] at h19
    have hb : b < nB := by omega
    refine j_aload_n C dX6_rankAboard_22 rfl ?_
    refine j_getR (j := 106) C fl_X6_29 dX6_rankAboard_23 (X.c (by decide)) rfl (X.r (by decide)) ?_
    refine j_iload_n C dX6_rankAboard_26 rfl ?_
    refine j_callV1RS (x := 2000 + b) C ml_X6_213 dX6_rankAboard_27 (cX_lget hg X.lb hb) ⟨by rw [X.lb.1.1]; decide, by rw [X.lb.1.1]; rfl⟩ ⟨Nat.le_of_ble_eq_true rfl, Nat.le_of_ble_eq_true rfl⟩ (Nat.le_of_ble_eq_true rfl) ⟨rfl, rfl⟩ ⟨cells_ok, slots_ok⟩ ?_
    refine j_cast C cl_X6_120 (X.b hb) dX6_rankAboard_30 ?_
    refine j_astore C dX6_rankAboard_33 (by decide) rfl ?_
    refine j_aload C dX6_rankAboard_35 rfl ?_
    refine j_aload_n C dX6_rankAboard_37 rfl ?_
    refine j_callV1I C ml_X6_262 dX6_rankAboard_38 (cX_isAboard hg (X.b hb) (X.g ha)) (by rw [X.b hb]; exact ⟨by decide, rfl⟩) ⟨Nat.le_of_ble_eq_true rfl, Nat.le_of_ble_eq_true rfl⟩ (Nat.le_of_ble_eq_true rfl) ⟨rfl, rfl⟩ ⟨cells_ok, slots_ok⟩ ?_
    rw [show N1 (2000 + b) 9 = T 34 b from hN.b hb (f := 9) (by decide), show N1 (2000 + b) 10 = T 35 b from hN.b hb (f := 10) (by decide), (hN.2.2.1 a ha).1]
    refine j_if_eq (tgt := 63) C dX6_rankAboard_41 (by decide) (fun h41 => ?_) (fun h41 => ?_)
    · replace h41 := b2_eq0.mp h41
      refine j_iincN C dX6_rankAboard_63 rfl (by decide) rfl ?_
      refine j_goto (tgt := 11) C dX6_rankAboard_66 (by decide) ?_
      have ec : cW (onC T (nI a)) (b + 1) = (cW (onC T (nI a)) b) := if_neg (fun z => h41 (onC_pos.mp z))
      rw [← ec] at hK
      rw [← ec]
      have y := ih (by omega) sh1 N1 rl hK X hN hF hp (fun x => by
        rw [hmem x]
        constructor
        · rintro ⟨z1, z2⟩; exact ⟨by omega, z2⟩
        · rintro ⟨z1, z2⟩
          refine ⟨?_, z2⟩
          rcases Nat.lt_succ_iff_lt_or_eq.mp z1 with q | q
          · exact q
          · rw [q] at z2; exact absurd z2 h41) (by rw [ec]; exact hlen) hW
      rw [show iSum (onW T (nI a)) (b + 1) = iSum (onW T (nI a)) b from by rw [iSum]; unfold onW; rw [if_neg h41, Int32.add_zero]] at y
      refine J.le ?_ y
      exact ⟨rfl, rfl, rfl, rfl, trivial⟩
    · replace h41 := b2_ne0.mp h41
      refine j_aload_n C dX6_rankAboard_44 rfl ?_
      refine j_aload C dX6_rankAboard_45 rfl ?_
      refine j_aload C dX6_rankAboard_47 rfl ?_
      refine j_getI C fl_X6_327 dX6_rankAboard_49 (X.b hb) rfl ?_
      rw [show N1 (2000 + b) 5 = T 30 b from hN.b hb (f := 5) (by decide)]
      have hl3 : rl.length < 366 := by have := cW_le (onC T (nI a)) b; omega
      have hnb : ¬ b ∈ rl := fun z => absurd ((hmem b).mp z).1 (Nat.lt_irrefl _)
      have hrl : ∀ x ∈ rl, x < nB := fun x hx => Nat.lt_trans ((hmem x).mp hx).1 hb
      have ec : cW (onC T (nI a)) (b + 1) = cW (onC T (nI a)) b + 1 := if_pos (onC_pos.mpr h41)
      have hkm := kTo_mono k (cW_mono (onC T (nI a)) (show b + 1 ≤ nB from hb))
      have hk1 : k ≤ kTo k (cW (onC T (nI a)) b) := (kTo_mono k (Nat.zero_le _)).1
      have hk2 : kTo k (cW (onC T (nI a)) (b + 1)) = kUp (kTo k (cW (onC T (nI a)) b)) rl.length := by rw [ec, hlen]; rfl
      have hs2 : sTo k (cW (onC T (nI a)) (b + 1)) = sTo k (cW (onC T (nI a)) b) + sUp (kTo k (cW (onC T (nI a)) b)) rl.length := by rw [ec, hlen]; rfl
      have hku := kUp_ge (kTo k (cW (onC T (nI a)) b)) rl.length
      refine j_callV2Vg (c1 := kTo k (cW (onC T (nI a)) (b + 1)) - k) (s1 := sTo k (cW (onC T (nI a)) (b + 1))) C ml_X6_319 dX6_rankAboard_52 (cX_rank hg X hX hX2 hK hl3 hrl hb hnb (T 30 b)) ⟨by rw [X.c (i := 100) (c := 6) (by decide)]; decide, by rw [X.c (i := 100) (c := 6) (by decide)]; rfl⟩ ⟨Nat.le_of_ble_eq_true rfl, Nat.le_of_ble_eq_true rfl⟩ (Nat.le_of_ble_eq_true rfl) ⟨by rw [hk2]; show kTo k (cW (onC T (nI a)) b) - k + (kUp (kTo k (cW (onC T (nI a)) b)) rl.length - kTo k (cW (onC T (nI a)) b)) = _; omega, hs2.symm⟩ ⟨by show kTo k (cW (onC T (nI a)) (b + 1)) - k ≤ kTo k (cW (onC T (nI a)) nB) - k; omega, hkm.2⟩ (fun sh2 N4 hq => ?_)
      obtain ⟨j, hj, hj1, hj2, hK2, hFx, hR2⟩ := hq
      have hF3 := FRN.u (N := N1) (i := 2000 + b) (k := 12) (v := T 30 b) ⟨by omega, by omega⟩
      have X4 := (X.fr hF3).frx hFx hR2
      have hN4 := (hN.cg X.nG8 X.nB3 X.nV3 (EQN.u (N := N1) (i := 2000 + b) (k := 12) (v := T 30 b) (by omega)) (fun _ _ => rfl)).cg X.nG8 X.nB3 X.nV3 hFx.eqn (fun _ _ => rfl)
      have hF4 := (hF.trans (hF3.k sh1)).trans hFx.k
      rw [← hk2] at hK2
      have hW4 : ∀ x ∈ rl.take j ++ b :: rl.drop j, N4 (2000 + x) 12 = T 30 x := fun x hx => by
        have hx3 : x < 300 := by
          rcases ins_mem.mp hx with z | z
          · omega
          · have := hrl x z; omega
        rw [(hFx.2 (2000 + x) (by omega) (by omega)).2]
        by_cases e : x = b
        · rw [e, u2_eq]
        · rw [u2_ne (by omega)]
          exact hW x ((ins_mem.mp hx).resolve_left e)
      have hp4 := srt_ins (W := T 30) hp (fun x hx => ((hmem x).mp hx).1) hj (fun i h1 h2 => by rw [← hW _ (gd_mem h2)]; exact hj1 i h1 h2) (fun h0 => by rw [← hW _ (gd_mem (show j - 1 < rl.length by omega))]; exact hj2 h0)
      have hm4 : ∀ x, x ∈ rl.take j ++ b :: rl.drop j ↔ x < b + 1 ∧ T 34 x = 1 ∧ T 35 x = nI a := fun x => by
        rw [ins_mem, hmem x]
        constructor
        · rintro (z | z)
          · rw [z]; exact ⟨by omega, h41⟩
          · exact ⟨by omega, z.2⟩
        · rintro ⟨z1, z2⟩
          by_cases e : x = b
          · exact Or.inl e
          · exact Or.inr ⟨by omega, z2⟩
      rw [← (hFx.1 100 (by omega)).2, ← (hFx.1 (1000 + a) (by omega)).2, ← (hFx.1 (2000 + b) (by omega)).2]
      clear cells_ok slots_ok
      refine j_iload_n C dX6_rankAboard_55 rfl ?_
      refine j_aload C dX6_rankAboard_56 rfl ?_
      refine j_getI C fl_X6_330 dX6_rankAboard_58 (X4.b hb) rfl ?_
      rw [show N4 (2000 + b) 6 = T 31 b from hN4.b hb (f := 6) (by decide)]
      refine j_iadd C dX6_rankAboard_61 ?_
      refine j_istore_n C dX6_rankAboard_62 (by decide) rfl ?_
      refine j_iincN C dX6_rankAboard_63 rfl (by decide) rfl ?_
      refine j_goto (tgt := 11) C dX6_rankAboard_66 (by decide) ?_
      have y := ih (by omega) sh2 N4 _ hK2 X4 hN4 hF4 hp4 hm4 (by rw [ins_len hj, hlen, ec]) hW4
      rw [show iSum (onW T (nI a)) (b + 1) = iSum (onW T (nI a)) b + T 31 b from by rw [iSum]; unfold onW; rw [if_pos h41]] at y
      refine J.le ?_ y
      exact ⟨rfl, rfl, rfl, rfl, trivial⟩

theorem cX_throwOut {l : Launch} {g : WGp} (hg : GOK g) {sh : WSh} {N : WNm} {o : Nat → Nat} {nG nB nV kG kB kV : Nat} {ln : Nat → Nat} (X : XH o sh N nG nB nV kG kB kV ln) {nT nP dy : Nat} {T : WNm} (hN : XN N T nG nB nV nT ln) (hI : TI T nG nB nV nP dy) {k : Nat} {rl : List Nat} (hK : LST sh N (o 2) 108 480 k (bn rl)) (hp : rl.Pairwise (RB (T 30))) {a : Nat} (hmem : ∀ x, x ∈ rl ↔ x < nB ∧ T 34 x = 1 ∧ T 35 x = nI a) (ha : a < nG) (hl : rl.length ≤ 300) (w : Int32) : CT l g yX6_throwOut cX6_throwOut 7 (some .int) (RM 4 0 0) [.ref (sh.2.2 100), .ref (sh.2.2 (1000 + a)), .int w] sh N (QI g (fun r sh1 N1 => sh1 = sh ∧ r = (thF w rl 0 0 T).1 ∧ XN N1 (thF w rl 0 0 T).2 nG nB nV nT ln ∧ FRN N N1)) := by
  refine ent hg (by decide +kernel) (Nat.le_of_ble_eq_true rfl) ?_
  intro p e s m args below meth c C hname
  have hG := X.nG8
  have hB := X.nB3
  refine j_iconst C dX6_throwOut_0 (v := 0) (by decide) ?_
  refine j_istore_n C dX6_throwOut_1 (by decide) rfl ?_
  refine j_iconst C dX6_throwOut_2 (v := 0) (by decide) ?_
  refine j_istore C dX6_throwOut_3 (by decide) rfl ?_
  refine j_iconst C dX6_throwOut_5 (v := 0) (by decide) ?_
  refine j_istore C dX6_throwOut_6 (by decide) rfl ?_
  suffices key : ∀ i, i ≤ rl.length → ∀ (N4 L : WNm) (ls gn : Int32), XN N4 L nG nB nV nT ln → XH o sh N4 nG nB nV kG kB kV ln → LST sh N4 (o 2) 108 480 k (bn rl) → FRN N N4 → thF w rl 0 0 T = thF w (rl.drop i) ls gn L → (∀ x ∈ rl.drop i, L 34 x = 1 ∧ L 35 x = nI a) → (∀ r, r ≠ 3 ∧ r ≠ 34 ∧ r ≠ 36 → L r = T r) → J p l e (RM 4 0 0) s m args below meth c (MQ below (QI g (fun r sh1 N1 => sh1 = sh ∧ r = (thF w rl 0 0 T).1 ∧ XN N1 (thF w rl 0 0 T).2 nG nB nV nT ln ∧ FRN N N1)) args s 0 0 g.A) g 7 sh N4 0 0 8 [some (.ref (sh.2.2 100)), some (.ref (sh.2.2 (1000 + a))), some (.int w), some (.int ls), some (.int gn), some (.int (nI i)), none] [] from key 0 (Nat.zero_le _) N T 0 0 hN X hK (FRN.rfl N) rfl (fun x hx => ((hmem x).mp hx).2) (fun _ _ => rfl)
  clear X hN hK
  refine up_ind (P := fun i => ∀ (N4 L : WNm) (ls gn : Int32), XN N4 L nG nB nV nT ln → XH o sh N4 nG nB nV kG kB kV ln → LST sh N4 (o 2) 108 480 k (bn rl) → FRN N N4 → thF w rl 0 0 T = thF w (rl.drop i) ls gn L → (∀ x ∈ rl.drop i, L 34 x = 1 ∧ L 35 x = nI a) → (∀ r, r ≠ 3 ∧ r ≠ 34 ∧ r ≠ 36 → L r = T r) → J p l e (RM 4 0 0) s m args below meth c (MQ below (QI g (fun r sh1 N1 => sh1 = sh ∧ r = (thF w rl 0 0 T).1 ∧ XN N1 (thF w rl 0 0 T).2 nG nB nV nT ln ∧ FRN N N1)) args s 0 0 g.A) g 7 sh N4 0 0 8 [some (.ref (sh.2.2 100)), some (.ref (sh.2.2 (1000 + a))), some (.int w), some (.int ls), some (.int gn), some (.int (nI i)), none] []) (n := rl.length) ?_
  intro i hi0 ih N4 L ls gn hN X hK hF hth hon hrow
  refine j_iload C dX6_throwOut_8 rfl ?_
  refine j_aload_n C dX6_throwOut_10 rfl ?_
  refine j_getR (j := 108) C fl_X6_49 dX6_throwOut_11 (X.c (by decide)) rfl (X.r (by decide)) ?_
  refine j_callV0I C ml_X6_73 dX6_throwOut_14 (cJ_size hg hK.1.1) (⟨by rw [hK.1.1]; decide, by rw [hK.1.1]; rfl⟩) ⟨Nat.le_of_ble_eq_true rfl, Nat.le_of_ble_eq_true rfl⟩ (Nat.le_of_ble_eq_true rfl) ⟨rfl, rfl⟩ ⟨Nat.zero_le _, Nat.zero_le _⟩ ?_
  rw [hK.1.2.2.2.1, bn_len]
  refine j_icmp_ge (tgt := 98) C dX6_throwOut_17 (by decide) (fun h17 => ?_) (fun h17 => ?_)
  · skip
    refine j_iload_n C dX6_throwOut_98 rfl ?_
    have hend : thF w rl 0 0 T = (ls, L) := by
      first
        | (rw [n_nle (by omega) (by omega)] at h17
           rw [hth, List.drop_eq_nil_of_le (by omega)]
           rfl)
        | (rw [n_nle (by omega) (by omega)] at h17
           have hi : i < rl.length := by omega
           have hdr : rl.drop i = rl.getD i 0 :: rl.drop (i + 1) := by rw [List.drop_eq_getElem_cons hi, gD_lt hi]
           rw [hth, hdr, thF, if_pos h23])
        | (rw [hth, (show rl.drop i = rl.getD i 0 :: rl.drop (i + 1) by rw [List.drop_eq_getElem_cons hi, gD_lt hi]), thF, if_pos h23])
    rw [hend]
    exact j_iret C dX6_throwOut_99 rfl ⟨rfl, rfl, hN, hF⟩
  · skip
    rw [n_nle (by omega) (by omega)] at h17
    have hi : i < rl.length := by omega
    refine j_iload C dX6_throwOut_20 rfl ?_
    refine j_iload_n C dX6_throwOut_22 rfl ?_
    refine j_icmp_ge (tgt := 98) C dX6_throwOut_23 (by decide) (fun h23 => ?_) (fun h23 => ?_)
    · skip
      refine j_iload_n C dX6_throwOut_98 rfl ?_
      have hend : thF w rl 0 0 T = (ls, L) := by
        first
          | (rw [n_nle (by omega) (by omega)] at h17
             rw [hth, List.drop_eq_nil_of_le (by omega)]
             rfl)
          | (rw [n_nle (by omega) (by omega)] at h17
             have hi : i < rl.length := by omega
             have hdr : rl.drop i = rl.getD i 0 :: rl.drop (i + 1) := by rw [List.drop_eq_getElem_cons hi, gD_lt hi]
             rw [hth, hdr, thF, if_pos h23])
          | (rw [hth, (show rl.drop i = rl.getD i 0 :: rl.drop (i + 1) by rw [List.drop_eq_getElem_cons hi, gD_lt hi]), thF, if_pos h23])
      rw [hend]
      exact j_iret C dX6_throwOut_99 rfl ⟨rfl, rfl, hN, hF⟩
    · skip
      have hj : rl.getD i 0 < nB := ((hmem _).mp (gd_mem hi)).1
      have hdr : rl.drop i = rl.getD i 0 :: rl.drop (i + 1) := by rw [List.drop_eq_getElem_cons hi, gD_lt hi]
      have honj : L 34 (rl.getD i 0) = 1 ∧ L 35 (rl.getD i 0) = nI a := hon _ (by rw [hdr]; exact List.mem_cons_self)
      have ho : vp_in (L 25 (rl.getD i 0)) 10 := by rw [hrow 25 (by decide)]; exact hI.1.2.2.2.2.2.1 _ hj
      have eM : ∀ r, ¬ r = 34 → ¬ r = 36 → mBecomes L (rl.getD i 0) 3 r = L r := fun r h1 h2 => by unfold mBecomes; rw [u2_row h2, u2_row h1]
      refine j_aload_n C dX6_throwOut_26 rfl ?_
      refine j_getR (j := 108) C fl_X6_49 dX6_throwOut_27 (X.c (by decide)) rfl (X.r (by decide)) ?_
      refine j_iload C dX6_throwOut_30 rfl ?_
      refine j_callV1RS (x := 2000 + rl.getD i 0) C ml_X6_213 dX6_throwOut_32 (cX_rget hg hK hi) ⟨by rw [hK.1.1]; decide, by rw [hK.1.1]; rfl⟩ ⟨Nat.le_of_ble_eq_true rfl, Nat.le_of_ble_eq_true rfl⟩ (Nat.le_of_ble_eq_true rfl) ⟨rfl, rfl⟩ ⟨Nat.zero_le _, Nat.zero_le _⟩ ?_
      refine j_cast C cl_X6_120 (X.b hj) dX6_throwOut_35 ?_
      refine j_astore C dX6_throwOut_38 (by decide) rfl ?_
      refine j_aload_n C dX6_throwOut_40 rfl ?_
      refine j_aload C dX6_throwOut_41 rfl ?_
      refine j_callV1V C ml_X6_272 dX6_throwOut_43 (cX_unload hg (X.g ha) (X.b hj) (by omega)) (by rw [X.g ha]; exact ⟨by decide, rfl⟩) ⟨Nat.le_of_ble_eq_true rfl, Nat.le_of_ble_eq_true rfl⟩ (Nat.le_of_ble_eq_true rfl) ⟨rfl, rfl⟩ ⟨Nat.zero_le _, Nat.zero_le _⟩ ?_
      refine j_aload C dX6_throwOut_46 rfl ?_
      refine j_iconst C dX6_throwOut_48 (v := 3) (by decide) ?_
      refine j_aload_n C dX6_throwOut_49 rfl ?_
      refine j_getI C fl_X6_122 dX6_throwOut_50 (X.c (by decide)) rfl ?_
      rw [xChg_row _ _ _ _ (show ¬ 100 = 1000 + a by omega), hN.1.2.2.2]
      refine j_callV2V C ml_X6_276 dX6_throwOut_53 (cX_turn hg (X.b hj) _ _) (by rw [X.b hj]; exact ⟨by decide, rfl⟩) ⟨Nat.le_of_ble_eq_true rfl, Nat.le_of_ble_eq_true rfl⟩ (Nat.le_of_ble_eq_true rfl) ⟨rfl, rfl⟩ ⟨Nat.zero_le _, Nat.zero_le _⟩ ?_
      have hf5 : FRN N4 (xTurn (xChg N4 (1000 + a) (2000 + rl.getD i 0) (-1)) (2000 + rl.getD i 0) 3 (L 0 1)) := ⟨fun q hq => by unfold xTurn; rw [u2_row (by omega), u2_row (by omega), xChg_row _ _ _ _ (by omega)], fun q h1 h2 => by unfold xTurn; rw [u2_row (by omega), u2_row (by omega), xChg_row _ _ _ _ (by omega)]⟩
      replace hN := hN.off X.nG8 X.nB3 X.nV3 ha hj honj 3 (by decide)
      replace X := X.fr hf5
      replace hF := hF.trans hf5
      replace hK := hK.cong (N1 := (xTurn (xChg N4 (1000 + a) (2000 + rl.getD i 0) (-1)) (2000 + rl.getD i 0) 3 (L 0 1))) (by rw [hf5.2 108 (by decide) (by decide)])
      obtain ⟨N5, eN⟩ : ∃ N5, N5 = (xTurn (xChg N4 (1000 + a) (2000 + rl.getD i 0) (-1)) (2000 + rl.getD i 0) 3 (L 0 1)) := ⟨_, rfl⟩
      rw [← eN] at hN X hF hK
      rw [← eN]
      clear eN hf5
      refine j_aload_n C dX6_throwOut_56 rfl ?_
      refine j_getR (j := 101) C fl_X6_9 dX6_throwOut_57 (X.c (by decide)) rfl (X.r (by decide)) ?_
      refine j_aload C dX6_throwOut_60 rfl ?_
      refine j_getI C fl_X6_285 dX6_throwOut_62 (X.b hj) rfl ?_
      rw [show N5 (2000 + rl.getD i 0) 0 = L 25 (rl.getD i 0) from (hN.b hj (f := 0) (by decide)).trans (by rw [eM 25 (by decide) (by decide)])]
      refine j_dup2 C dX6_throwOut_65 rfl rfl ?_
      refine j_iald C (X.a (i := 101) (n := 10) (by decide)) (ho) dX6_throwOut_66 ?_
      rw [show N5 101 = L 3 from hN.2.1.1.trans (by rw [eM 3 (by decide) (by decide)])]
      refine j_aload C dX6_throwOut_67 rfl ?_
      refine j_getI C fl_X6_330 dX6_throwOut_69 (X.b hj) rfl ?_
      rw [show N5 (2000 + rl.getD i 0) 6 = L 31 (rl.getD i 0) from (hN.b hj (f := 6) (by decide)).trans (by rw [eM 31 (by decide) (by decide)])]
      refine j_iadd C dX6_throwOut_72 ?_
      refine j_iast C (X.a (i := 101) (n := 10) (by decide)) (ho) dX6_throwOut_73 ?_
      have hf6 := FRN.u (N := N5) (i := 101) (k := tn (L 25 (rl.getD i 0))) (v := L 3 (tn (L 25 (rl.getD i 0))) + L 31 (rl.getD i 0)) ⟨by decide, by decide⟩
      replace hN := hN.purse X.nG8 X.nB3 X.nV3 (tn (L 25 (rl.getD i 0))) (L 3 (tn (L 25 (rl.getD i 0))) + L 31 (rl.getD i 0))
      replace X := X.fr hf6
      replace hF := hF.trans hf6
      replace hK := hK.cong (N1 := u2 N5 101 (tn (L 25 (rl.getD i 0))) (L 3 (tn (L 25 (rl.getD i 0))) + L 31 (rl.getD i 0))) (by rw [hf6.2 108 (by decide) (by decide)])
      obtain ⟨N6, eN⟩ : ∃ N6, N6 = u2 N5 101 (tn (L 25 (rl.getD i 0))) (L 3 (tn (L 25 (rl.getD i 0))) + L 31 (rl.getD i 0)) := ⟨_, rfl⟩
      rw [← eN] at hN X hF hK
      rw [← eN]
      clear eN hf6
      change XN N6 (mThrow1 L (rl.getD i 0)) nG nB nV nT ln at hN
      refine j_iload C dX6_throwOut_74 rfl ?_
      refine j_aload C dX6_throwOut_76 rfl ?_
      refine j_getI C fl_X6_327 dX6_throwOut_78 (X.b hj) rfl ?_
      rw [show N6 (2000 + rl.getD i 0) 5 = L 30 (rl.getD i 0) from (hN.b hj (f := 5) (by decide)).trans (by rw [mThrow1_row _ _ (by decide)])]
      refine j_iadd C dX6_throwOut_81 ?_
      refine j_istore C dX6_throwOut_82 (by decide) rfl ?_
      refine j_iload_n C dX6_throwOut_84 rfl ?_
      refine j_aload C dX6_throwOut_85 rfl ?_
      refine j_getI C fl_X6_330 dX6_throwOut_87 (X.b hj) rfl ?_
      rw [show N6 (2000 + rl.getD i 0) 6 = L 31 (rl.getD i 0) from (hN.b hj (f := 6) (by decide)).trans (by rw [mThrow1_row _ _ (by decide)])]
      refine j_iadd C dX6_throwOut_90 ?_
      refine j_istore_n C dX6_throwOut_91 (by decide) rfl ?_
      refine j_iincN C dX6_throwOut_92 rfl (by decide) rfl ?_
      refine j_goto (tgt := 8) C dX6_throwOut_95 (by decide) ?_
      refine J.le ?_ (ih (by omega) N6 (mThrow1 L (rl.getD i 0)) (ls + L 31 (rl.getD i 0)) (gn + L 30 (rl.getD i 0)) hN X hK hF (by rw [hth, hdr, thF, if_neg (Int32.not_le.mpr (Int32.not_le.mp h23))]) (fun x hx => ?_) (fun r hr => (mThrow1_row _ _ hr).trans (hrow r hr)))
      · exact ⟨rfl, rfl, rfl, rfl, rfl, rfl, trivial⟩
      · have hne : ¬ x = rl.getD i 0 := fun z => by
          have hp2 : (rl.drop i).Pairwise (RB (T 30)) := hp.sublist (List.drop_sublist _ _)
          rw [hdr] at hp2
          have hz := (List.pairwise_cons.mp hp2).1 x hx
          rw [z] at hz
          exact hz.irr
        rw [mThrow1_34, if_neg hne, mThrow1_row _ _ (by decide : 35 ≠ 3 ∧ 35 ≠ 34 ∧ 35 ≠ 36)]
        exact hon x (by rw [hdr]; exact List.mem_cons_of_mem _ hx)

theorem cX_shareLoss {l : Launch} {g : WGp} (hg : GOK g) {sh : WSh} {N : WNm} {o : Nat → Nat} {nG nB nV kG kB kV : Nat} {ln : Nat → Nat} (X : XH o sh N nG nB nV kG kB kV ln) {nT : Nat} {T : WNm} (hN : XN N T nG nB nV nT ln) {k : Nat} {rl : List Nat} (hK : LST sh N (o 2) 108 480 k (bn rl)) (hmem : ∀ x ∈ rl, x < nB) (hl : rl.length ≤ 300) (howner : ∀ b, b < nB → vp_in (T 25 b) 10) (ls br : Int32) (hbr : 1 ≤ br) : CT l g yX6_shareLoss cX6_shareLoss 7 none (RM 4 0 0) [.ref (sh.2.2 100), .int ls, .int br] sh N (QV g (fun sh1 N1 => sh1 = sh ∧ XN N1 (u2 (shS T ls br.toInt64 rl T) 0 3 (T 0 3 - shL T ls br.toInt64 rl ls)) nG nB nV nT ln ∧ FRN N N1)) := by
  refine ent hg (by decide +kernel) (Nat.le_of_ble_eq_true rfl) ?_
  intro p e s m args below meth c C hname
  have hG := X.nG8
  have hB := X.nB3
  have hb0 : ¬ br.toInt64 = 0 := fun z => by
    have z2 := congrArg Int64.toInt z
    rw [Int32.toInt_toInt64] at z2
    have z3 := i_le.mp hbr
    rw [show (1 : Int32).toInt = 1 from rfl] at z3
    rw [show (0 : Int64).toInt = 0 from rfl] at z2
    omega
  refine j_iload_n C dX6_shareLoss_0 rfl ?_
  refine j_iconst C dX6_shareLoss_1 (v := 1) (by decide) ?_
  refine j_icmp_ge (tgt := 6) C dX6_shareLoss_2 (by decide) (fun h2 => ?_) (fun h2 => ?_)
  · skip
    refine j_iload_n C dX6_shareLoss_6 rfl ?_
    refine j_istore_n C dX6_shareLoss_7 (by decide) rfl ?_
    refine j_iconst C dX6_shareLoss_8 (v := 0) (by decide) ?_
    refine j_istore C dX6_shareLoss_9 (by decide) rfl ?_
    suffices key : ∀ i, i ≤ rl.length → ∀ (N4 G : WNm) (left : Int32), XN N4 G nG nB nV nT ln → XH o sh N4 nG nB nV kG kB kV ln → LST sh N4 (o 2) 108 480 k (bn rl) → FRN N N4 → shS T ls br.toInt64 rl T = shS T ls br.toInt64 (rl.drop i) G → shL T ls br.toInt64 rl ls = shL T ls br.toInt64 (rl.drop i) left → (∀ r, ¬ r = 3 → G r = T r) → J p l e (RM 4 0 0) s m args below meth c (MQ below (QV g (fun sh1 N1 => sh1 = sh ∧ XN N1 (u2 (shS T ls br.toInt64 rl T) 0 3 (T 0 3 - shL T ls br.toInt64 rl ls)) nG nB nV nT ln ∧ FRN N N1)) args s 0 0 g.A) g 7 sh N4 0 0 11 [some (.ref (sh.2.2 100)), some (.int ls), some (.int br), some (.int left), some (.int (nI i)), none, none] [] from key 0 (Nat.zero_le _) N T ls hN X hK (FRN.rfl N) rfl rfl (fun _ _ => rfl)
    clear X hN hK
    refine up_ind (P := fun i => ∀ (N4 G : WNm) (left : Int32), XN N4 G nG nB nV nT ln → XH o sh N4 nG nB nV kG kB kV ln → LST sh N4 (o 2) 108 480 k (bn rl) → FRN N N4 → shS T ls br.toInt64 rl T = shS T ls br.toInt64 (rl.drop i) G → shL T ls br.toInt64 rl ls = shL T ls br.toInt64 (rl.drop i) left → (∀ r, ¬ r = 3 → G r = T r) → J p l e (RM 4 0 0) s m args below meth c (MQ below (QV g (fun sh1 N1 => sh1 = sh ∧ XN N1 (u2 (shS T ls br.toInt64 rl T) 0 3 (T 0 3 - shL T ls br.toInt64 rl ls)) nG nB nV nT ln ∧ FRN N N1)) args s 0 0 g.A) g 7 sh N4 0 0 11 [some (.ref (sh.2.2 100)), some (.int ls), some (.int br), some (.int left), some (.int (nI i)), none, none] []) (n := rl.length) ?_
    intro i hi0 ih N4 G left hN X hK hF hsS hsL hrow
    refine j_iload C dX6_shareLoss_11 rfl ?_
    refine j_aload_n C dX6_shareLoss_13 rfl ?_
    refine j_getR (j := 108) C fl_X6_49 dX6_shareLoss_14 (X.c (by decide)) rfl (X.r (by decide)) ?_
    refine j_callV0I C ml_X6_73 dX6_shareLoss_17 (cJ_size hg hK.1.1) (⟨by rw [hK.1.1]; decide, by rw [hK.1.1]; rfl⟩) ⟨Nat.le_of_ble_eq_true rfl, Nat.le_of_ble_eq_true rfl⟩ (Nat.le_of_ble_eq_true rfl) ⟨rfl, rfl⟩ ⟨Nat.zero_le _, Nat.zero_le _⟩ ?_
    rw [hK.1.2.2.2.1, bn_len]
    refine j_icmp_ge (tgt := 78) C dX6_shareLoss_20 (by decide) (fun h20 => ?_) (fun h20 => ?_)
    · skip
      rw [n_nle (by omega) (by omega)] at h20
      rw [List.drop_eq_nil_of_le (by omega)] at hsS hsL
      refine j_aload_n C dX6_shareLoss_78 rfl ?_
      refine j_dup C dX6_shareLoss_79 rfl ?_
      refine j_getI C fl_X6_101 dX6_shareLoss_80 (X.c (by decide)) rfl ?_
      rw [hN.1.1]
      refine j_iload_n C dX6_shareLoss_83 rfl ?_
      refine j_isub C dX6_shareLoss_84 ?_
      refine j_putI C fl_X6_101 dX6_shareLoss_85 (X.c (by decide)) rfl rfl rfl rfl ?_
      refine j_vret C dX6_shareLoss_88 ⟨rfl, ?_, hF.u' ⟨by decide, by decide⟩⟩
      rw [hsS, hsL]
      show XN (u2 N4 100 1 (G 0 3 - left)) (u2 G 0 3 (T 0 3 - left)) _ _ _ _ _
      rw [hrow 0 (by decide)]
      exact hN.chest X.nG8 X.nB3 X.nV3 _
    · skip
      rw [n_nle (by omega) (by omega)] at h20
      have hi : i < rl.length := by omega
      have hj : rl.getD i 0 < nB := hmem _ (gd_mem hi)
      have hdr : rl.drop i = rl.getD i 0 :: rl.drop (i + 1) := by rw [List.drop_eq_getElem_cons hi, gD_lt hi]
      have ho := howner _ hj
      refine j_aload_n C dX6_shareLoss_23 rfl ?_
      refine j_getR (j := 108) C fl_X6_49 dX6_shareLoss_24 (X.c (by decide)) rfl (X.r (by decide)) ?_
      refine j_iload C dX6_shareLoss_27 rfl ?_
      refine j_callV1RS (x := 2000 + rl.getD i 0) C ml_X6_213 dX6_shareLoss_29 (cX_rget hg hK hi) ⟨by rw [hK.1.1]; decide, by rw [hK.1.1]; rfl⟩ ⟨Nat.le_of_ble_eq_true rfl, Nat.le_of_ble_eq_true rfl⟩ (Nat.le_of_ble_eq_true rfl) ⟨rfl, rfl⟩ ⟨Nat.zero_le _, Nat.zero_le _⟩ ?_
      refine j_cast C cl_X6_120 (X.b hj) dX6_shareLoss_32 ?_
      refine j_astore C dX6_shareLoss_35 (by decide) rfl ?_
      refine j_iload_n C dX6_shareLoss_37 rfl ?_
      refine j_i2l C dX6_shareLoss_38 ?_
      refine j_aload C dX6_shareLoss_39 rfl ?_
      refine j_getI C fl_X6_330 dX6_shareLoss_41 (X.b hj) rfl ?_
      rw [show N4 (2000 + rl.getD i 0) 6 = T 31 (rl.getD i 0) from (hN.b hj (f := 6) (by decide)).trans (by rw [hrow 31 (by decide)])]
      refine j_i2l C dX6_shareLoss_44 ?_
      refine j_lmul C dX6_shareLoss_45 ?_
      refine j_iload_n C dX6_shareLoss_46 rfl ?_
      refine j_i2l C dX6_shareLoss_47 ?_
      refine j_ldiv C dX6_shareLoss_48 (hb0) ?_
      refine j_l2i C dX6_shareLoss_49 ?_
      refine j_istore C dX6_shareLoss_50 (by decide) rfl ?_
      refine j_aload_n C dX6_shareLoss_52 rfl ?_
      refine j_getR (j := 101) C fl_X6_9 dX6_shareLoss_53 (X.c (by decide)) rfl (X.r (by decide)) ?_
      refine j_aload C dX6_shareLoss_56 rfl ?_
      refine j_getI C fl_X6_285 dX6_shareLoss_58 (X.b hj) rfl ?_
      rw [show N4 (2000 + rl.getD i 0) 0 = T 25 (rl.getD i 0) from (hN.b hj (f := 0) (by decide)).trans (by rw [hrow 25 (by decide)])]
      refine j_dup2 C dX6_shareLoss_61 rfl rfl ?_
      refine j_iald C (X.a (i := 101) (n := 10) (by decide)) (ho) dX6_shareLoss_62 ?_
      rw [hN.2.1.1]
      refine j_iload C dX6_shareLoss_63 rfl ?_
      refine j_isub C dX6_shareLoss_65 ?_
      refine j_iast C (X.a (i := 101) (n := 10) (by decide)) (ho) dX6_shareLoss_66 ?_
      have hf6 := FRN.u (N := N4) (i := 101) (k := tn (T 25 (rl.getD i 0))) (v := G 3 (tn (T 25 (rl.getD i 0))) - shr T ls br.toInt64 (rl.getD i 0)) ⟨by decide, by decide⟩
      replace hN := hN.purse X.nG8 X.nB3 X.nV3 (tn (T 25 (rl.getD i 0))) (G 3 (tn (T 25 (rl.getD i 0))) - shr T ls br.toInt64 (rl.getD i 0))
      replace X := X.fr hf6
      replace hF := hF.trans hf6
      replace hK := hK.cong (N1 := u2 N4 101 (tn (T 25 (rl.getD i 0))) (G 3 (tn (T 25 (rl.getD i 0))) - shr T ls br.toInt64 (rl.getD i 0))) (by rw [hf6.2 108 (by decide) (by decide)])
      change J _ _ _ _ _ _ _ _ _ _ _ _ _ _ (u2 N4 101 (tn (T 25 (rl.getD i 0))) (G 3 (tn (T 25 (rl.getD i 0))) - shr T ls br.toInt64 (rl.getD i 0))) _ _ _ _ _
      obtain ⟨N6, eN⟩ : ∃ N6, N6 = u2 N4 101 (tn (T 25 (rl.getD i 0))) (G 3 (tn (T 25 (rl.getD i 0))) - shr T ls br.toInt64 (rl.getD i 0)) := ⟨_, rfl⟩
      rw [← eN] at hN X hF hK
      rw [← eN]
      clear eN hf6
      refine j_iload_n C dX6_shareLoss_67 rfl ?_
      refine j_iload C dX6_shareLoss_68 rfl ?_
      refine j_isub C dX6_shareLoss_70 ?_
      refine j_istore_n C dX6_shareLoss_71 (by decide) rfl ?_
      refine j_iincN C dX6_shareLoss_72 rfl (by decide) rfl ?_
      refine j_goto (tgt := 11) C dX6_shareLoss_75 (by decide) ?_
      refine J.le ?_ (ih (by omega) N6 _ (left - shr T ls br.toInt64 (rl.getD i 0)) hN X hK hF (by rw [hsS, hdr, shS]) (by rw [hsL, hdr, shL]) (fun r hr => by rw [u2_row hr]; exact hrow r hr))
      exact ⟨rfl, rfl, rfl, rfl, rfl, trivial⟩
  · skip
    exact absurd hbr h2

theorem rl_short {W : Nat → Int32} {rl : List Nat} {n : Nat} (hp : rl.Pairwise (RB W)) (h : ∀ y ∈ rl, y < n) : rl.length ≤ n := by
  have hnd : rl.Nodup := hp.imp (fun {a b} hab e => by rw [e] at hab; exact hab.irr)
  have hs : rl ⊆ List.range n := fun y hy => List.mem_range.mpr (h y hy)
  have z := hnd.length_le_of_subset hs
  rw [List.length_range] at z
  exact z

theorem cX_toss {l : Launch} {g : WGp} (hg : GOK g) {sh : WSh} {N : WNm} {o : Nat → Nat} {nG nB nV kG kB kV : Nat} {ln : Nat → Nat} (X : XH o sh N nG nB nV kG kB kV ln) {nT nP dy : Nat} {T : WNm} (hN : XN N T nG nB nV nT ln) (hI : TI T nG nB nV nP dy) (hX : HX g o) (hX2 : HX2 g) {k : Nat} {rl0 : List Nat} (hK : LST sh N (o 2) 108 480 k (bn rl0)) (hrl : ∀ x ∈ rl0, x < nB) (x w : Int32) : CT l g yX6_toss cX6_toss 6 (some .int) (RM 9 10 1084) [.ref (sh.2.2 100), .int x, .int w] sh N (QI g (fun r sh1 N1 => r = (mToss T x w).1 ∧ ∃ (k1 : Nat) (rl : List Nat), (∀ x ∈ rl, x < nB) ∧ LST sh1 N1 (o 2) 108 480 k1 (bn rl) ∧ XH o sh1 N1 nG nB nV kG kB kV ln ∧ XN N1 (mToss T x w).2 nG nB nV nT ln ∧ FRK sh N sh1 N1)) := by
  refine ent hg (by decide +kernel) (Nat.le_of_ble_eq_true rfl) ?_
  intro p e s m args below meth c C hname
  have hG := X.nG8
  have hB := X.nB3
  have hk10 : k ≤ 10 := hK.1.2.1
  generalize hRES : mToss T x w = RES
  refine j_aload_n C dX6_toss_0 rfl ?_
  refine j_iload_n C dX6_toss_1 rfl ?_
  by_cases hx : 0 ≤ x ∧ x ≤ T 0 9 - 1
  · obtain ⟨ha, e1⟩ := rngT hx hI.g9 (Nat.le_trans X.nG8 (by decide))
    refine j_callV1RS (x := 1000 + tn x) C ml_X6_86 dX6_toss_2 (cX_galleyOfS hg X (by rw [← hI.g9]; exact hx)) ⟨by rw [X.c (i := 100) (c := 6) (by decide)]; decide, by rw [X.c (i := 100) (c := 6) (by decide)]; rfl⟩ ⟨Nat.le_of_ble_eq_true rfl, Nat.le_of_ble_eq_true rfl⟩ (Nat.le_of_ble_eq_true rfl) ⟨rfl, rfl⟩ ⟨Nat.zero_le _, Nat.zero_le _⟩ ?_
    refine j_astore_n C dX6_toss_5 (by decide) rfl ?_
    refine j_aload_n C dX6_toss_6 rfl ?_
    refine j_ifnull C dX6_toss_7 ?_
    refine j_iload_n C dX6_toss_10 rfl ?_
    refine j_iconst C dX6_toss_11 (v := 1) (by decide) ?_
    refine j_ldc C kc_X6_56 dX6_toss_12 ?_
    refine j_callS3I C ml_X6_57 dX6_toss_14 (cX_within hg _ _ _) ⟨Nat.le_of_ble_eq_true rfl, Nat.le_of_ble_eq_true rfl⟩ (Nat.le_of_ble_eq_true rfl) ⟨rfl, rfl⟩ ⟨Nat.zero_le _, Nat.zero_le _⟩ ?_
    refine j_if_ne (tgt := 22) C dX6_toss_17 (by decide) (fun h17 => ?_) (fun h17 => ?_)
    · replace h17 := b2_ne0.mp h17
      refine j_aload_n C dX6_toss_22 rfl ?_
      refine j_getI C fl_X6_166 dX6_toss_23 (X.g ha) rfl ?_
      rw [hN.g ha (f := 9) (r := 15) (by decide)]
      refine j_iconst C dX6_toss_26 (v := 2) (by decide) ?_
      refine j_icmp_ne (tgt := 37) C dX6_toss_27 (by decide) (fun h27 => ?_) (fun h27 => ?_)
      · skip
        refine j_bipush C dX6_toss_37 (v := (-2)) (by decide) ?_
        first | rw [mToss, if_pos hx, if_pos h17, if_neg h27] at hRES | rw [mToss, if_pos hx, if_pos h17, if_pos h27, hI.b23, show tn (nI nB) = nB from nI_clamp (by omega), if_pos h34] at hRES
        refine J.widen (k := 10) (n := 1084) (Nat.le_of_ble_eq_true rfl) (Nat.le_of_ble_eq_true rfl) ?_
        subst hRES
        exact j_iret C dX6_toss_39 rfl ⟨rfl, k, rl0, hrl, hK, X, hN, FRK.rfl sh N⟩
      · replace h27 := Decidable.not_not.mp h27
        refine j_aload_n C dX6_toss_30 rfl ?_
        refine j_getI C fl_X6_192 dX6_toss_31 (X.g ha) rfl ?_
        rw [(hN.2.2.2.2.1 _ ha).1, ← e1]
        refine j_if_ne (tgt := 40) C dX6_toss_34 (by decide) (fun h34 => ?_) (fun h34 => ?_)
        · skip
          rw [mToss, if_pos hx, if_pos h17, if_pos h27, hI.b23, show tn (nI nB) = nB from nI_clamp (by omega), if_neg h34] at hRES
          refine j_aload_n C dX6_toss_40 rfl ?_
          refine j_getI C fl_X6_195 dX6_toss_41 (X.g ha) rfl ?_
          rw [hN.g ha (f := 4) (r := 14) (by decide)]
          refine j_aload_n C dX6_toss_44 rfl ?_
          refine j_aload_n C dX6_toss_45 rfl ?_
          have hm3 := cW_le (onC T (nI (tn x))) nB
          have hka1 : kTo k (cW (onC T (nI (tn x))) nB) ≤ 10 := kTo_le hk10 _ (by omega)
          have hsp := sTo_pot (k := k) hk10 (cW (onC T (nI (tn x))) nB) (by omega) hka1
          have hpk := pot_anti 0 (by decide) k (by omega) (Nat.zero_le k)
          have hpz : pot 0 = 1084 := rfl
          have cells_ok : kTo k (cW (onC T (nI (tn x))) nB) - k ≤ 10 := by omega
          have slots_ok : sTo k (cW (onC T (nI (tn x))) nB) ≤ 1084 := by omega
          refine j_callV1Ig C ml_X6_198 dX6_toss_46 (cX_rankAboard hg X hN hI hX hX2 hK ha) ⟨by rw [X.c (i := 100) (c := 6) (by decide)]; decide, by rw [X.c (i := 100) (c := 6) (by decide)]; rfl⟩ ⟨Nat.le_of_ble_eq_true rfl, Nat.le_of_ble_eq_true rfl⟩ (Nat.le_of_ble_eq_true rfl) ⟨Nat.zero_add _, Nat.zero_add _⟩ ⟨cells_ok, slots_ok⟩ (fun r sh1 N1 hq => ?_)
          obtain ⟨q1, rl, hp, hmem, hK1, X1, hN1, hF⟩ := hq
          subst q1
          rw [← (hF.1 100 (by omega)).2, ← (hF.1 (1000 + tn x) (by omega)).2]
          obtain ⟨b1, b2, b3⟩ := bear_eq hI ha hG hB nB (Nat.le_refl _)
          rw [← e1] at hmem b1 b2 b3 cells_ok slots_ok
          rw [← e1]
          have hbr : 1 ≤ T 14 (tn x) + iSum (onW T x) nB := i_le.mpr (by rw [show (1 : Int32).toInt = 1 from rfl]; exact b2)
          have hl3 : rl.length ≤ 300 := by
            have z := hK1.1.2.2.2.2
            rw [bn_len] at z
            exact rl_short hp (fun y hy => Nat.lt_of_lt_of_le ((hmem y).mp hy).1 hB)
          refine j_iadd C dX6_toss_49 ?_
          refine j_istore C dX6_toss_50 (by decide) rfl ?_
          refine j_aload_n C dX6_toss_52 rfl ?_
          refine j_aload_n C dX6_toss_53 rfl ?_
          refine j_iload_n C dX6_toss_54 rfl ?_
          refine j_callV2Ig C ml_X6_202 dX6_toss_55 (cX_throwOut hg X1 hN1 hI hK1 hp (a := tn x) (by rw [← e1]; exact hmem) ha hl3 w) (by rw [X1.c (i := 100) (c := 6) (by decide)]; exact ⟨by decide, rfl⟩) ⟨Nat.le_of_ble_eq_true rfl, Nat.le_of_ble_eq_true rfl⟩ (Nat.le_of_ble_eq_true rfl) ⟨rfl, rfl⟩ ⟨cells_ok, slots_ok⟩ (fun r sh9 N2 hq => ?_)
          obtain ⟨q1, q2, q3, q4⟩ := hq
          replace q1 := q1.symm
          subst q1
          subst q2
          have hth : mThrow x w nB (nB + 1) 0 0 T = thF w rl 0 0 T := throw_eq rl (nB + 1) 0 0 T hp (fun b hb => ⟨fun z => (hmem b).mpr ⟨hb, z⟩, fun z => ((hmem b).mp z).2⟩) (fun y hy => ((hmem y).mp hy).1) (by have := rl_short (n := nB) hp (fun y hy => ((hmem y).mp hy).1); omega)
          have X2 := X1.fr q4
          have hK2 := hK1.cong (N1 := N2) (by rw [q4.2 108 (by decide) (by decide)])
          refine j_istore C dX6_toss_58 (by decide) rfl ?_
          refine j_aload_n C dX6_toss_60 rfl ?_
          refine j_iload C dX6_toss_61 rfl ?_
          refine j_iload C dX6_toss_63 rfl ?_
          refine j_callV2Vg C ml_X6_206 dX6_toss_65 (cX_shareLoss hg X2 q3 hK2 (fun y hy => ((hmem y).mp hy).1) hl3 (fun b hb => by rw [thF_row (by decide)]; exact hI.1.2.2.2.2.2.1 b hb) _ _ hbr) (by rw [X2.c (i := 100) (c := 6) (by decide)]; exact ⟨by decide, rfl⟩) ⟨Nat.le_of_ble_eq_true rfl, Nat.le_of_ble_eq_true rfl⟩ (Nat.le_of_ble_eq_true rfl) ⟨rfl, rfl⟩ ⟨cells_ok, slots_ok⟩ (fun sh9 N3 hq => ?_)
          obtain ⟨q1, q5, q6⟩ := hq
          replace q1 := q1.symm
          subst q1
          rw [b1] at q5
          obtain ⟨s1, s2⟩ := share_eq (F := (thF w rl 0 0 T).2) (ls := (thF w rl 0 0 T).1) (al := mAll T x nB) (fun x => (RB.irr : ¬ RB (T 30) x x)) hp hmem
          rw [s1, s2] at q5
          have e03 : mShN T x (thF w rl 0 0 T).1 (mAll T x nB) (thF w rl 0 0 T).2 nB 0 3 = (thF w rl 0 0 T).2 0 3 := by rw [mShN_row _ _ _ _ _ (by decide)]
          rw [mTossOk, hth, mTossEnd, e03] at hRES
          refine j_iload C dX6_toss_68 rfl ?_
          refine J.widen (k := 10) (n := 1084) cells_ok slots_ok ?_
          subst hRES
          exact j_iret C dX6_toss_70 rfl ⟨rfl, _, rl, fun y hy => ((hmem y).mp hy).1, hK2.cong (by rw [q6.2 108 (by decide) (by decide)]), X2.fr q6, q5, (hF.trans (q4.k sh1)).trans (q6.k sh1)⟩
        · replace h34 := Decidable.not_not.mp h34
          refine j_bipush C dX6_toss_37 (v := (-2)) (by decide) ?_
          first | rw [mToss, if_pos hx, if_pos h17, if_neg h27] at hRES | rw [mToss, if_pos hx, if_pos h17, if_pos h27, hI.b23, show tn (nI nB) = nB from nI_clamp (by omega), if_pos h34] at hRES
          refine J.widen (k := 10) (n := 1084) (Nat.le_of_ble_eq_true rfl) (Nat.le_of_ble_eq_true rfl) ?_
          subst hRES
          exact j_iret C dX6_toss_39 rfl ⟨rfl, k, rl0, hrl, hK, X, hN, FRK.rfl sh N⟩
    · replace h17 := b2_eq0.mp (Decidable.not_not.mp h17)
      refine j_iconst C dX6_toss_20 (v := (-1)) (by decide) ?_
      first | rw [mToss, if_neg hx] at hRES | rw [mToss, if_pos hx, if_neg h17] at hRES
      refine J.widen (k := 10) (n := 1084) (Nat.le_of_ble_eq_true rfl) (Nat.le_of_ble_eq_true rfl) ?_
      subst hRES
      exact j_iret C dX6_toss_21 rfl ⟨rfl, k, rl0, hrl, hK, X, hN, FRK.rfl sh N⟩
  · skip
    refine j_callV1RN C ml_X6_86 dX6_toss_2 (cX_galleyOfN hg X (by rw [← hI.g9]; exact hx)) ⟨by rw [X.c (i := 100) (c := 6) (by decide)]; decide, by rw [X.c (i := 100) (c := 6) (by decide)]; rfl⟩ ⟨Nat.le_of_ble_eq_true rfl, Nat.le_of_ble_eq_true rfl⟩ (Nat.le_of_ble_eq_true rfl) ⟨rfl, rfl⟩ ⟨Nat.zero_le _, Nat.zero_le _⟩ ?_
    refine j_astore_nN C dX6_toss_5 (by decide) rfl ?_
    refine j_aload_nN C dX6_toss_6 rfl ?_
    refine j_ifnullN (tgt := 20) C dX6_toss_7 (by decide) ?_
    refine j_iconst C dX6_toss_20 (v := (-1)) (by decide) ?_
    first | rw [mToss, if_neg hx] at hRES | rw [mToss, if_pos hx, if_neg h17] at hRES
    refine J.widen (k := 10) (n := 1084) (Nat.le_of_ble_eq_true rfl) (Nat.le_of_ble_eq_true rfl) ?_
    subst hRES
    exact j_iret C dX6_toss_21 rfl ⟨rfl, k, rl0, hrl, hK, X, hN, FRK.rfl sh N⟩
