/-! ===== THE CLASS: leave ===== -/
theorem mLoad1_34 (L : WNm) (nB a j : Nat) {x : Nat} (h : ¬ x = j) : mLoad1 L nB a j 34 x = L 34 x := by
  have e : u2 (mBecomes L j 1) 35 j (nI a) 34 x = L 34 x := by rw [u2_row (by decide), mBecomes, u2_row (by decide), u2_ne (fun z => h z.2)]
  unfold mLoad1
  repeat' split
  all_goals first | rfl | exact e
def ldF (T : WNm) (nB a : Nat) (rl : List Nat) : WNm := rl.foldl (fun L j => mLoad1 L nB a j) T
theorem ldF_row {nB a : Nat} {i : Nat} (h : i ≠ 34 ∧ i ≠ 35 ∧ i ≠ 36) : ∀ (rl : List Nat) (T : WNm), ldF T nB a rl i = T i
  | [], _ => rfl
  | j :: rl, T => (ldF_row h rl (mLoad1 T nB a j)).trans (mLoad1_row _ _ _ _ h)
theorem ldF_34 {nB a x : Nat} : ∀ (rl : List Nat) (T : WNm), ¬ x ∈ rl → ldF T nB a rl 34 x = T 34 x
  | [], _, _ => rfl
  | j :: rl, T, h => (ldF_34 rl (mLoad1 T nB a j) (fun z => h (List.mem_cons_of_mem _ z))).trans (mLoad1_34 _ _ _ _ (fun z => h (by rw [z]; exact List.mem_cons_self)))
theorem ldF_succ (T : WNm) (nB a : Nat) {rl : List Nat} {i : Nat} (h : i < rl.length) : ldF T nB a (rl.take (i + 1)) = mLoad1 (ldF T nB a (rl.take i)) nB a (rl.getD i 0) := by
  rw [List.take_succ_eq_append_getElem h, ldF, List.foldl_append, ← gD_lt h]
  rfl
theorem not_take {W : Nat → Int32} {rl : List Nat} {i : Nat} (hp : rl.Pairwise (RB W)) (h : i < rl.length) : ¬ rl.getD i 0 ∈ rl.take i := by
  intro z
  obtain ⟨q, hq, e⟩ := List.getElem_of_mem z
  rw [List.length_take] at hq
  have hr := List.pairwise_iff_getElem.mp hp q i (by omega) h (by omega)
  rw [List.getElem_take] at e
  rw [gD_lt h] at e
  rw [e] at hr
  exact hr.irr
theorem can_eq {N L : WNm} {nG nB nV nT : Nat} {ln : Nat → Nat} {a j : Nat} (h : XN N L nG nB nV nT ln) (ha : a < nG) (hj : j < nB) : (xCan N (1000 + a) (2000 + j) = 0 → mLoad1 L nB a j = L) ∧ (¬ xCan N (1000 + a) (2000 + j) = 0 → mLoad1 L nB a j = u2 (mBecomes L j 1) 35 j (nI a)) ∧ (xCan N (1000 + a) (2000 + j) = 0 ∨ xCan N (1000 + a) (2000 + j) = 1) := by
  obtain ⟨s1, s2, s3, s4⟩ := h.2.2.2.2.1 a ha
  have g1 := h.g ha (f := 1) (r := 11) (by decide)
  have g2 := h.g ha (f := 2) (r := 12) (by decide)
  have b3 := h.b hj (f := 3) (by decide)
  have b4 := h.b hj (f := 4) (by decide)
  have b5 := h.b hj (f := 5) (by decide)
  unfold xCan mLoad1
  rw [s2, s3, s4, g1, g2, b3, b4, b5]
  by_cases h1 : L 11 a < mRoomOn L (nI a) nB + L (25 + 4) j
  · rw [if_pos h1, if_pos h1]; exact ⟨fun _ => rfl, fun z => absurd rfl z, Or.inl rfl⟩
  · rw [if_neg h1, if_neg h1]
    by_cases h2 : L 12 a < mWeightOn L (nI a) False nB + L (25 + 5) j
    · rw [if_pos h2, if_pos h2]; exact ⟨fun _ => rfl, fun z => absurd rfl z, Or.inl rfl⟩
    · rw [if_neg h2, if_neg h2]
      by_cases h3 : L (25 + 3) j = 1
      · rw [if_pos h3, if_pos h3]
        by_cases h4 : L 12 a / 2 < mWeightOn L (nI a) True nB + L (25 + 5) j
        · rw [if_pos h4, if_pos h4]; exact ⟨fun _ => rfl, fun z => absurd rfl z, Or.inl rfl⟩
        · rw [if_neg h4, if_neg h4]; exact ⟨fun z => absurd z (by decide), fun _ => rfl, Or.inr rfl⟩
      · rw [if_neg h3, if_neg h3]; exact ⟨fun z => absurd z (by decide), fun _ => rfl, Or.inr rfl⟩

theorem cX_leaveD {l : Launch} {g : WGp} (hg : GOK g) {sh : WSh} {N : WNm} {o : Nat → Nat} {nG nB nV kG kB kV : Nat} {ln : Nat → Nat} (X : XH o sh N nG nB nV kG kB kV ln) {nT nP dy : Nat} {T : WNm} (hN : XN N T nG nB nV nT ln) (hI : TI T nG nB nV nP dy) {a : Nat} (ha : a < nG) (hs : T 15 a = 1) (hlast : T 16 a = T 0 5 - 1) : CT l g yX6_leave cX6_leave 4 none (RM 9 0 0) [.ref (sh.2.2 100), .ref (sh.2.2 (1000 + a))] sh N (QV g (fun sh1 N1 => sh1 = sh ∧ XN N1 (mGo T nB a) nG nB nV nT ln ∧ FRN N N1)) := by
  refine ent hg (by decide +kernel) (Nat.le_of_ble_eq_true rfl) ?_
  intro p e s m args below meth c C hname
  obtain ⟨rr, hr, hrr⟩ := hI.1.2.2.2.2.2.2 a ha (Or.inl hs)
  have hG := X.nG8
  have hB := X.nB3
  have hV := X.nV3
  have hP12 := hI.1.2.2.2.1.2
  have hlt : T 16 a < T 0 5 - 1 ↔ ¬ T 16 a = T 0 5 - 1 := by
    rw [hrr, hI.p5, show (1 : Int32) = nI 1 from rfl, nI_sub (by omega), n_nlt (by omega) (by omega)]
    constructor
    · intro z q
      have := nI_inj (by omega) (by omega) q
      omega
    · intro z
      rcases Nat.lt_or_ge rr (nP - 1) with q | q
      · exact q
      · exact absurd (by rw [show rr = nP - 1 by omega]) z
  refine j_aload_n C dX6_leave_0 rfl ?_
  refine j_getI C fl_X6_180 dX6_leave_1 (X.g ha) rfl ?_
  rw [hN.g ha (f := 10) (r := 16) (by decide)]
  refine j_aload_n C dX6_leave_4 rfl ?_
  refine j_getI C fl_X6_66 dX6_leave_5 (X.c (by decide)) rfl ?_
  rw [hN.1.2.2.1]
  refine j_iconst C dX6_leave_8 (v := 1) (by decide) ?_
  refine j_isub C dX6_leave_9 ?_
  refine j_icmp_lt (tgt := 19) C dX6_leave_10 (by decide) (fun h10 => ?_) (fun h10 => ?_)
  · skip
    exact absurd hlast (hlt.mp h10)
  · skip
    refine j_aload_n C dX6_leave_13 rfl ?_
    refine j_iconst C dX6_leave_14 (v := 3) (by decide) ?_
    refine j_putI C fl_X6_166 dX6_leave_15 (X.g ha) rfl rfl rfl rfl ?_
    exact j_vret C dX6_leave_18 ⟨rfl, by rw [mGo, if_pos hlast]; exact hN.gal X.nG8 X.nB3 X.nV3 (f := 9) (r := 15) (by decide) ha 3, FRN.u ⟨by omega, by omega⟩⟩

theorem cX_leaveS {l : Launch} {g : WGp} (hg : GOK g) {sh : WSh} {N : WNm} {o : Nat → Nat} {nG nB nV kG kB kV : Nat} {ln : Nat → Nat} (X : XH o sh N nG nB nV kG kB kV ln) {nT nP dy : Nat} {T : WNm} (hN : XN N T nG nB nV nT ln) (hI : TI T nG nB nV nP dy) (hX : HX g o) (hX2 : HX2 g) {k : Nat} {rl0 : List Nat} (hK : LST sh N (o 2) 108 480 k rl0) {a : Nat} (ha : a < nG) (hs : T 15 a = 1) (hlast : ¬ T 16 a = T 0 5 - 1) : CT l g yX6_leave cX6_leave 4 none (RM 9 (kTo k (cW (mWish T a) nB) - k) (sTo k (cW (mWish T a) nB))) [.ref (sh.2.2 100), .ref (sh.2.2 (1000 + a))] sh N (QV g (fun sh1 N1 => ∃ rl : List Nat, (∀ x ∈ rl, x < nB) ∧ LST sh1 N1 (o 2) 108 480 (kTo k (cW (mWish T a) nB)) (bn rl) ∧ XH o sh1 N1 nG nB nV kG kB kV ln ∧ XN N1 (mGo T nB a) nG nB nV nT ln ∧ FRK sh N sh1 N1)) := by
  refine ent hg (by decide +kernel) (Nat.le_of_ble_eq_true rfl) ?_
  intro p e s m args below meth c C hname
  obtain ⟨rr, hr, hrr⟩ := hI.1.2.2.2.2.2.2 a ha (Or.inl hs)
  have hG := X.nG8
  have hB := X.nB3
  have hV := X.nV3
  have hP12 := hI.1.2.2.2.1.2
  have hlt : T 16 a < T 0 5 - 1 ↔ ¬ T 16 a = T 0 5 - 1 := by
    rw [hrr, hI.p5, show (1 : Int32) = nI 1 from rfl, nI_sub (by omega), n_nlt (by omega) (by omega)]
    constructor
    · intro z q
      have := nI_inj (by omega) (by omega) q
      omega
    · intro z
      rcases Nat.lt_or_ge rr (nP - 1) with q | q
      · exact q
      · exact absurd (by rw [show rr = nP - 1 by omega]) z
  refine j_aload_n C dX6_leave_0 rfl ?_
  refine j_getI C fl_X6_180 dX6_leave_1 (X.g ha) rfl ?_
  rw [hN.g ha (f := 10) (r := 16) (by decide)]
  refine j_aload_n C dX6_leave_4 rfl ?_
  refine j_getI C fl_X6_66 dX6_leave_5 (X.c (by decide)) rfl ?_
  rw [hN.1.2.2.1]
  refine j_iconst C dX6_leave_8 (v := 1) (by decide) ?_
  refine j_isub C dX6_leave_9 ?_
  refine j_icmp_lt (tgt := 19) C dX6_leave_10 (by decide) (fun h10 => ?_) (fun h10 => ?_)
  · skip
    refine j_aload_n C dX6_leave_19 rfl ?_
    refine j_aload_n C dX6_leave_20 rfl ?_
    refine j_callV1Vg C ml_X6_294 dX6_leave_21 (cX_rankForLading hg X hN hI hX hX2 hK ha hs) ⟨by rw [X.c (i := 100) (c := 6) (by decide)]; decide, by rw [X.c (i := 100) (c := 6) (by decide)]; rfl⟩ ⟨Nat.le_of_ble_eq_true rfl, Nat.le_of_ble_eq_true rfl⟩ (Nat.le_of_ble_eq_true rfl) ⟨Nat.zero_add _, Nat.zero_add _⟩ ⟨Nat.le_refl _, Nat.le_refl _⟩ (fun sh1 N1 hq => ?_)
    obtain ⟨rl, hp, hmem, hlen, hK1, X1, hN1, hF⟩ := hq
    rw [← (hF.1 100 (by omega)).2, ← (hF.1 (1000 + a) (by omega)).2]
    have hm := cW_le (mWish T a) nB
    have hgo : mGo T nB a = mGoEnd (ldF T nB a rl) (T 16 a) a := by
      rw [mGo, if_neg hlast, load_eq rl (nB + 1) _ T hp (fun b hb => ?_) (fun x hx => ((hmem x).mp hx).1) (by omega)]
      · rfl
      · by_cases z : 0 < mWish T a b
        · rw [if_pos z]; exact ⟨fun _ => (hmem b).mpr ⟨hb, z⟩, fun _ => rfl⟩
        · rw [if_neg z]; exact ⟨fun q => absurd q (by decide), fun q => absurd ((hmem b).mp q).2 z⟩
    have hq0 : ∀ x ∈ rl, T 34 x = 0 := fun x hx => by
      have z := ((hmem x).mp hx).2
      unfold mWish at z
      split at z
      · assumption
      · exact absurd z (by decide)
    clear X hN hK
    refine j_iconst C dX6_leave_24 (v := 0) (by decide) ?_
    refine j_istore_n C dX6_leave_25 (by decide) rfl ?_
    suffices key : ∀ i, i ≤ rl.length → ∀ (N4 : WNm), XN N4 (ldF T nB a (rl.take i)) nG nB nV nT ln → XH o sh1 N4 nG nB nV kG kB kV ln → LST sh1 N4 (o 2) 108 480 (kTo k (cW (mWish T a) nB)) (bn rl) → FRK sh N sh1 N4 → J p l e (RM 9 (kTo k (cW (mWish T a) nB) - k) (sTo k (cW (mWish T a) nB))) s m args below meth c (MQ below (QV g (fun sh1 N1 => ∃ rl : List Nat, (∀ x ∈ rl, x < nB) ∧ LST sh1 N1 (o 2) 108 480 (kTo k (cW (mWish T a) nB)) (bn rl) ∧ XH o sh1 N1 nG nB nV kG kB kV ln ∧ XN N1 (mGo T nB a) nG nB nV nT ln ∧ FRK sh N sh1 N1)) args s (kTo k (cW (mWish T a) nB) - k) (sTo k (cW (mWish T a) nB)) g.A) g 4 sh1 N4 (kTo k (cW (mWish T a) nB) - k) (sTo k (cW (mWish T a) nB)) 26 [some (.ref (sh1.2.2 100)), some (.ref (sh1.2.2 (1000 + a))), some (.int (nI i)), none] [] from key 0 (Nat.zero_le _) N1 hN1 X1 hK1 hF
    clear hN1 X1 hK1 hF
    refine up_ind (P := fun i => ∀ (N4 : WNm), XN N4 (ldF T nB a (rl.take i)) nG nB nV nT ln → XH o sh1 N4 nG nB nV kG kB kV ln → LST sh1 N4 (o 2) 108 480 (kTo k (cW (mWish T a) nB)) (bn rl) → FRK sh N sh1 N4 → J p l e (RM 9 (kTo k (cW (mWish T a) nB) - k) (sTo k (cW (mWish T a) nB))) s m args below meth c (MQ below (QV g (fun sh1 N1 => ∃ rl : List Nat, (∀ x ∈ rl, x < nB) ∧ LST sh1 N1 (o 2) 108 480 (kTo k (cW (mWish T a) nB)) (bn rl) ∧ XH o sh1 N1 nG nB nV kG kB kV ln ∧ XN N1 (mGo T nB a) nG nB nV nT ln ∧ FRK sh N sh1 N1)) args s (kTo k (cW (mWish T a) nB) - k) (sTo k (cW (mWish T a) nB)) g.A) g 4 sh1 N4 (kTo k (cW (mWish T a) nB) - k) (sTo k (cW (mWish T a) nB)) 26 [some (.ref (sh1.2.2 100)), some (.ref (sh1.2.2 (1000 + a))), some (.int (nI i)), none] []) (n := rl.length) ?_
    intro i hi0 ih N4 hN X hK hF
    refine j_iload_n C dX6_leave_26 rfl ?_
    refine j_aload_n C dX6_leave_27 rfl ?_
    refine j_getR (j := 108) C fl_X6_49 dX6_leave_28 (X.c (by decide)) rfl (X.r (by decide)) ?_
    refine j_callV0I C ml_X6_73 dX6_leave_31 (cJ_size hg hK.1.1) (⟨by rw [hK.1.1]; decide, by rw [hK.1.1]; rfl⟩) ⟨Nat.le_of_ble_eq_true rfl, Nat.le_of_ble_eq_true rfl⟩ (Nat.le_of_ble_eq_true rfl) ⟨rfl, rfl⟩ ⟨Nat.le_refl _, Nat.le_refl _⟩ ?_
    rw [hK.1.2.2.2.1, bn_len]
    refine j_icmp_ge (tgt := 85) C dX6_leave_34 (by decide) (fun h34 => ?_) (fun h34 => ?_)
    · skip
      rw [n_nle (by omega) (by omega)] at h34
      obtain rfl : i = rl.length := by omega
      rw [List.take_length] at hN
      refine j_aload_n C dX6_leave_85 rfl ?_
      refine j_aload_n C dX6_leave_86 rfl ?_
      refine j_getI C fl_X6_122 dX6_leave_87 (X.c (by decide)) rfl ?_
      rw [hN.1.2.2.2]
      refine j_callV1V C ml_X6_310 dX6_leave_90 (cX_putToSea hg (X.g ha) _) (by rw [X.g ha]; exact ⟨by decide, rfl⟩) ⟨Nat.le_of_ble_eq_true rfl, Nat.le_of_ble_eq_true rfl⟩ (Nat.le_of_ble_eq_true rfl) ⟨rfl, rfl⟩ ⟨Nat.le_refl _, Nat.le_refl _⟩ ?_
      have hN6 := (((hN.gal X.nG8 X.nB3 X.nV3 (f := 9) (r := 15) (by decide) ha 2).gal X.nG8 X.nB3 X.nV3 (f := 10) (r := 16) (by decide) ha (T 16 a + 1)).gal X.nG8 X.nB3 X.nV3 (f := 11) (r := 17) (by decide) ha (ldF T nB a rl 0 1)).gal X.nG8 X.nB3 X.nV3 (f := 12) (r := 18) (by decide) ha 0
      have hf6 : FRN N4 (xPut N4 (1000 + a) (ldF T nB a rl 0 1)) := (((FRN.u ⟨by omega, by omega⟩).u' ⟨by omega, by omega⟩).u' ⟨by omega, by omega⟩).u' ⟨by omega, by omega⟩
      have e10 : N4 (1000 + a) 10 = T 16 a := (hN.g ha (f := 10) (r := 16) (by decide)).trans (by rw [ldF_row ⟨by decide, by decide, by decide⟩])
      refine j_vret C dX6_leave_93 ⟨rl, fun x hx => ((hmem x).mp hx).1, hK.cong (by rw [hf6.2 108 (by decide) (by decide)]), X.fr hf6, ?_, hF.trans (hf6.k sh1)⟩
      rw [hgo]
      show XN (xPut N4 (1000 + a) (ldF T nB a rl 0 1)) _ _ _ _ _ _
      unfold xPut
      rw [e10]
      exact hN6
    · skip
      rw [n_nle (by omega) (by omega)] at h34
      have hi : i < rl.length := by omega
      have hj : rl.getD i 0 < nB := ((hmem _).mp (gd_mem hi)).1
      have hcan := can_eq hN ha hj
      have hq34 : ldF T nB a (rl.take i) 34 (rl.getD i 0) = 0 := by
        rw [ldF_34 _ _ (not_take hp hi)]
        exact hq0 _ (gd_mem hi)
      refine j_aload_n C dX6_leave_37 rfl ?_
      refine j_getR (j := 108) C fl_X6_49 dX6_leave_38 (X.c (by decide)) rfl (X.r (by decide)) ?_
      refine j_iload_n C dX6_leave_41 rfl ?_
      refine j_callV1RS (x := 2000 + rl.getD i 0) C ml_X6_213 dX6_leave_42 (cX_rget hg hK hi) ⟨by rw [hK.1.1]; decide, by rw [hK.1.1]; rfl⟩ ⟨Nat.le_of_ble_eq_true rfl, Nat.le_of_ble_eq_true rfl⟩ (Nat.le_of_ble_eq_true rfl) ⟨rfl, rfl⟩ ⟨Nat.le_refl _, Nat.le_refl _⟩ ?_
      refine j_cast C cl_X6_120 (X.b hj) dX6_leave_45 ?_
      refine j_astore_n C dX6_leave_48 (by decide) rfl ?_
      refine j_aload_n C dX6_leave_49 rfl ?_
      refine j_aload_n C dX6_leave_50 rfl ?_
      refine j_callV1I C ml_X6_297 dX6_leave_51 (cX_canTake hg (X.g ha) (X.b hj)) (by rw [X.g ha]; exact ⟨by decide, rfl⟩) ⟨Nat.le_of_ble_eq_true rfl, Nat.le_of_ble_eq_true rfl⟩ (Nat.le_of_ble_eq_true rfl) ⟨rfl, rfl⟩ ⟨Nat.le_refl _, Nat.le_refl _⟩ ?_
      refine j_if_eq (tgt := 79) C dX6_leave_54 (by decide) (fun h54 => ?_) (fun h54 => ?_)
      · skip
        refine j_iincN C dX6_leave_79 rfl (by decide) rfl ?_
        refine j_goto (tgt := 26) C dX6_leave_82 (by decide) ?_
        have hN5 := hN
        rw [← hcan.1 h54, ← ldF_succ T nB a hi] at hN5
        refine J.le ?_ (ih (by omega) N4 hN5 X hK hF)
        exact ⟨rfl, rfl, rfl, trivial⟩
      · skip
        refine j_aload_n C dX6_leave_57 rfl ?_
        refine j_aload_n C dX6_leave_58 rfl ?_
        refine j_callV1V C ml_X6_301 dX6_leave_59 (cX_load hg (X.g ha) (X.b hj) (by omega)) (by rw [X.g ha]; exact ⟨by decide, rfl⟩) ⟨Nat.le_of_ble_eq_true rfl, Nat.le_of_ble_eq_true rfl⟩ (Nat.le_of_ble_eq_true rfl) ⟨rfl, rfl⟩ ⟨Nat.le_refl _, Nat.le_refl _⟩ ?_
        refine j_aload_n C dX6_leave_62 rfl ?_
        refine j_aload_n C dX6_leave_63 rfl ?_
        refine j_getI C fl_X6_304 dX6_leave_64 (X.g ha) rfl ?_
        rw [(xChg_g N4 (1000 + a) (2000 + rl.getD i 0) 1).1 0 (by omega), (hN.2.2.1 a ha).1]
        refine j_putI C fl_X6_307 dX6_leave_67 (X.b hj) rfl rfl rfl rfl ?_
        refine j_aload_n C dX6_leave_70 rfl ?_
        refine j_iconst C dX6_leave_71 (v := 1) (by decide) ?_
        refine j_aload_n C dX6_leave_72 rfl ?_
        refine j_getI C fl_X6_122 dX6_leave_73 (X.c (by decide)) rfl ?_
        rw [u2_row (show ¬ 100 = 2000 + rl.getD i 0 by omega), xChg_row _ _ _ _ (show ¬ 100 = 1000 + a by omega), hN.1.2.2.2]
        refine j_callV2V C ml_X6_276 dX6_leave_76 (cX_turn hg (X.b hj) _ _) (by rw [X.b hj]; exact ⟨by decide, rfl⟩) ⟨Nat.le_of_ble_eq_true rfl, Nat.le_of_ble_eq_true rfl⟩ (Nat.le_of_ble_eq_true rfl) ⟨rfl, rfl⟩ ⟨Nat.le_refl _, Nat.le_refl _⟩ ?_
        have hN5 := hN.on X.nG8 X.nB3 X.nV3 ha hj hq34
        rw [← hcan.2.1 h54, ← ldF_succ T nB a hi] at hN5
        have hf5 : FRN N4 (xTurn (u2 (xChg N4 (1000 + a) (2000 + rl.getD i 0) 1) (2000 + rl.getD i 0) 10 (nI a)) (2000 + rl.getD i 0) 1 (ldF T nB a (rl.take i) 0 1)) := ⟨fun q hq => by unfold xTurn; rw [u2_row (by omega), u2_row (by omega), u2_row (by omega), xChg_row _ _ _ _ (by omega)], fun q h1 h2 => by unfold xTurn; rw [u2_row (by omega), u2_row (by omega), u2_row (by omega), xChg_row _ _ _ _ (by omega)]⟩
        refine j_iincN C dX6_leave_79 rfl (by decide) rfl ?_
        refine j_goto (tgt := 26) C dX6_leave_82 (by decide) ?_
        refine J.le ?_ (ih (by omega) _ hN5 (X.fr hf5) (hK.cong (by rw [hf5.2 108 (by decide) (by decide)])) (hF.trans (hf5.k sh1)))
        exact ⟨rfl, rfl, rfl, trivial⟩
  · skip
    exact absurd (hlt.mpr hlast) h10
