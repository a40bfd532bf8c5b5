/-! ===== THE CLASS: galley ===== -/
def GV (nu r b s h : Int32) (f : Nat) : Int32 := if f = 0 then nu else (if f = 1 then r else (if f = 2 then b else (if f = 3 then s else (if f = 4 then h else (if f = 10 ∨ f = 11 then -1 else 0)))))
/-- behind the constructor: the object G with its row P -/
def GI (sh : WSh) (N : WNm) (G P : Nat) (nu r b s h : Int32) (sh1 : WSh) (N1 : WNm) : Prop :=
  (∀ i, ¬ i = P → sh1.1 i = sh.1 i ∧ sh1.2.2 i = sh.2.2 i) ∧ (∀ i, ¬ i = P → ¬ i = G → sh1.2.1 i = sh.2.1 i ∧ N1 i = N i) ∧ sh1.1 P = (9, 11) ∧ sh1.2.1 G 5 = some P ∧ RF sh1 ∧ (∀ f, N1 G f = GV nu r b s h f) ∧ ∀ j, N1 P j = if j = 10 then 24 else 0
theorem XH.galleyNew {o : Nat → Nat} {sh sh2 : WSh} {N N2 : WNm} {nG nB nV kG kB kV k2 : Nat} {ln : Nat → Nat} (h : XH o sh N nG nB nV kG kB kV ln) (hG : nG < 8) (f : SAME sh N sh2 N2 (fun i => i = 105 ∨ (420 ≤ i ∧ i ≤ 430) ∨ i = 1000 + nG ∨ i = 1100 + nG)) (hL : LST sh2 N2 (o 2) 105 420 k2 (nl 1000 (nG + 1))) (hn : (sh2.1 (1000 + nG)).1 = 1 ∧ sh2.2.1 (1000 + nG) 5 = some (1100 + nG) ∧ sh2.1 (1100 + nG) = (9, 11)) (hR : RF sh2) : XH o sh2 N2 (nG + 1) nB nV k2 kB kV ln := by
  obtain ⟨⟨a1, a2, a3⟩, ⟨l1, l2, l3, l4, l5, l6⟩, ⟨g1, g2, g3⟩, ⟨f1, f2, f3⟩, -⟩ := h
  obtain ⟨t1, t2, t3⟩ := tabs_le2
  refine ⟨⟨fun q hq => ?_, fun q hq => ?_, fun q hq => ?_⟩, ⟨hL, l2.keep (fun i hi => f i (by omega)), l3.keep (fun i hi => f i (by omega)), by omega, l5, l6⟩, ⟨fun a ha => ?_, fun b hb => ?_, fun v hv => ?_⟩, ⟨fun a h1 h2 => ?_, fun b h1 h2 => ?_, fun v h1 h2 => ?_⟩, hR⟩
  · have := t1 q hq; rw [(f q.1 (by omega)).1]; exact a1 q hq
  · have := t2 q hq; rw [(f q.1 (by omega)).2.1]; exact a2 q hq
  · have := t3 q hq; rw [(f q.1 (by omega)).1]; exact a3 q hq
  · by_cases e : a = nG
    · rw [e]; exact hn
    · rw [(f (1000 + a) (by omega)).1, (f (1100 + a) (by omega)).1, (f (1000 + a) (by omega)).2.1]; exact g1 a (by omega)
  · rw [(f (2000 + b) (by omega)).1]; exact g2 b hb
  · rw [(f (3000 + v) (by omega)).1, (f (3100 + v) (by omega)).1, (f (3000 + v) (by omega)).2.1]; exact g3 v hv
  · rw [(f (1000 + a) (by omega)).1, (f (1100 + a) (by omega)).1]; exact f1 a (by omega) h2
  · rw [(f (2000 + b) (by omega)).1]; exact f2 b h1 h2
  · rw [(f (3000 + v) (by omega)).1, (f (3100 + v) (by omega)).1]; exact f3 v h1 h2
def mGalN (T : WNm) (n : Nat) (r b s h : Int32) : WNm := u2 (u2 (u2 (u2 (u2 T 11 n r) 12 n b) 13 n s) 14 n h) 0 9 (T 0 9 + 1)
theorem XN.galleyNew {N T N2 : WNm} {nG nB nV nT nP dy : Nat} {ln : Nat → Nat} (h : XN N T nG nB nV nT ln) (hI : TI T nG nB nV nP dy) (hG : nG < 8) (hB : nB ≤ 300) (hV : nV ≤ 30) (r b s hh : Int32) (f : ∀ i, ¬ (i = 105 ∨ (420 ≤ i ∧ i ≤ 430) ∨ i = 1000 + nG ∨ i = 1100 + nG) → N2 i = N i) (hg : ∀ k, N2 (1000 + nG) k = GV (nI nG) r b s hh k) (hp : ∀ j, N2 (1100 + nG) j = if j = 10 then 24 else 0) : XN N2 (mGalN T nG r b s hh) (nG + 1) nB nV nT ln := by
  have row : ∀ i, ¬ i = 0 → ¬ (11 ≤ i ∧ i ≤ 14) → mGalN T nG r b s hh i = T i := fun i h1 h2 => by
    unfold mGalN
    rw [u2_row h1, u2_row (by omega), u2_row (by omega), u2_row (by omega), u2_row (by omega)]
  have row0 : ∀ j, ¬ j = 9 → mGalN T nG r b s hh 0 j = T 0 j := fun j hj => by
    unfold mGalN
    rw [u2_ne (by omega), u2_row (by decide), u2_row (by decide), u2_row (by decide), u2_row (by decide)]
  have old : ∀ i, 11 ≤ i → i ≤ 22 → ∀ a, ¬ a = nG → mGalN T nG r b s hh i a = T i a := fun i h1 h2 a ha => by
    unfold mGalN
    rw [u2_row (by omega), u2_ne (by omega), u2_ne (by omega), u2_ne (by omega), u2_ne (by omega)]
  obtain ⟨h0, h1, h2, h3, h4, h5, h6, h7⟩ := h
  have fr := hI.2.2.1 nG (Nat.le_refl _) hG
  have hon : ∀ q, q < nB → ¬ (T 34 q = 1 ∧ T 35 q = nI nG) := fun q hq z => by
    obtain ⟨a, ha, ea⟩ := (hI.2.2.2.1 q hq).1 z.1
    have := nI_inj (by omega) (by omega) (ea.symm.trans z.2)
    omega
  obtain ⟨s1, s2, s3, s4⟩ : mBalesOn T (nI nG) nB = 0 ∧ mRoomOn T (nI nG) nB = 0 ∧ mWeightOn T (nI nG) False nB = 0 ∧ mWeightOn T (nI nG) True nB = 0 := by
    refine ⟨?_, ?_, ?_, ?_⟩
    · exact (iSum_same nB (fun q hq => if_neg (hon q hq))).trans (iSum_zero nB)
    · exact (iSum_same nB (fun q hq => if_neg (hon q hq))).trans (iSum_zero nB)
    · exact (iSum_same nB (fun q hq => if_neg (fun z => hon q hq z.1))).trans (iSum_zero nB)
    · exact (iSum_same nB (fun q hq => if_neg (fun z => hon q hq z.1))).trans (iSum_zero nB)
  refine ⟨h0.cg (f _ (by omega)) (fun j hj => row0 j (by omega)), h1.cg (fun i a b => f i (by omega)) (fun i a b => row i (by omega) (by omega)), fun a ha => ?_, fun a ha => ?_, fun a ha => ?_, h5.cg (fun b hb k hk => by rw [f _ (by omega)]) (fun i a b => row i (by omega) (by omega)), h6.cg (fun v hv => ⟨f _ (by omega), f _ (by omega)⟩) (fun i a b => row i (by omega) (by omega)), h7.cg (f _ (by omega)) (f _ (by omega)) (row0 37 (by decide)) (row 37 (by decide) (by decide))⟩
  · by_cases e : a = nG
    · subst e
      refine ⟨by rw [hg]; rfl, fun q hq => ?_⟩
      rw [hg]
      simp only [gTab, List.mem_cons, List.not_mem_nil, or_false] at hq
      obtain ⟨⟨y1, y2, y3, y4, y5, y6, y7, y8⟩, -⟩ := fr
      rcases hq with z | z | z | z | z | z | z | z | z | z | z | z <;> subst z
      · unfold mGalN; simp [GV, u2]
      · unfold mGalN; simp [GV, u2]
      · unfold mGalN; simp [GV, u2]
      · unfold mGalN; simp [GV, u2]
      · rw [row 20 (by decide) (by decide), y6]; rfl
      · rw [row 21 (by decide) (by decide), y7]; rfl
      · rw [row 22 (by decide) (by decide), y8]; rfl
      · rw [row 15 (by decide) (by decide), y1]; rfl
      · rw [row 16 (by decide) (by decide), y2]; rfl
      · rw [row 17 (by decide) (by decide), y3]; rfl
      · rw [row 18 (by decide) (by decide), y4]; rfl
      · rw [row 19 (by decide) (by decide), y5]; rfl
    · rw [f (1000 + a) (by omega)]
      refine ⟨(h2 a (by omega)).1, fun q hq => ?_⟩
      have := gTab_r q hq
      rw [old q.2 this.1 this.2 a e]
      exact (h2 a (by omega)).2 q hq
  · rw [mLeft_cg (row 23 (by decide) (by decide)), row 23 (by decide) (by decide)]
    by_cases e : a = nG
    · subst e
      refine ⟨fun p hp' => ?_, ?_⟩
      · rw [hp, if_neg (by omega), fr.2 p hp']
      · rw [hp, if_pos rfl, mLeft_z hG fr.2 10 (by decide)]
    · rw [f (1100 + a) (by omega)]
      exact h3 a (by omega)
  · obtain ⟨z1, z2, z3, z4⟩ := mOn_cg (T := T) (T1 := mGalN T nG r b s hh) (fun i a b => row i (by omega) (by omega)) (nI a) nB
    rw [z1, z2, z3, z4]
    by_cases e : a = nG
    · subst e
      rw [s1, s2, s3, s4, hg, hg, hg, hg]
      exact ⟨rfl, rfl, rfl, rfl⟩
    · rw [f (1000 + a) (by omega)]
      exact h4 a (by omega)

theorem cX_galleyInit {l : Launch} {g : WGp} (hg : GOK g) {sh : WSh} {N : WNm} {G P : Nat} (hG : (sh.1 G).1 = 1) (hne : ¬ P = G) (hf : 13 < (sh.1 P).1) (hR : RF sh) (hz : N G = fun _ => 0) (nu r b s0 h0 : Int32) : CT l g yX1_init cX1_init 6 none (RM 1 1 11) [.ref (sh.2.2 G), .int nu, .int r, .int b, .int s0, .int h0] sh N (QV g (fun sh1 N1 => GI sh N G P nu r b s0 h0 sh1 N1)) := by
  refine ent hg (by decide +kernel) (Nat.le_of_ble_eq_true rfl) ?_
  intro p e s m args below meth c C hname
  refine j_aload_n C dX1_init_0 rfl ?_
  refine j_objInit C ob_X1_3 dX1_init_1 (Nat.le_of_ble_eq_true rfl) (Nat.le_of_ble_eq_true rfl) ?_
  refine j_aload_n C dX1_init_4 rfl ?_
  refine j_bipush C dX1_init_5 (v := 11) (by decide) ?_
  refine j_newa_int (i := P) (n := 11) C rfl (by decide) (Nat.lt_trans (by decide) hf) (hR.no hf) (Nat.le_of_ble_eq_true rfl) (Nat.le_of_ble_eq_true rfl) dX1_init_7 (fun q => ?_)
  obtain ⟨sh1, e1⟩ : ∃ sh1, sh1 = shNew sh P (9, 11) q := ⟨_, rfl⟩
  obtain ⟨N1, e2⟩ : ∃ N1, N1 = nNew N P := ⟨_, rfl⟩
  have hq : q = sh1.2.2 P := by rw [e1]; exact (up_eq _ _ _).symm
  have f1 : ∀ i, ¬ i = P → sh1.1 i = sh.1 i ∧ sh1.2.1 i = sh.2.1 i ∧ sh1.2.2 i = sh.2.2 i ∧ N1 i = N i := fun i hi => by rw [e1, e2]; exact ⟨up_ne hi, up_ne hi, up_ne hi, up_ne hi⟩
  have hP0 : sh1.1 P = (9, 11) := by rw [e1]; exact up_eq _ _ _
  have hR0 : RF sh1 := by rw [e1]; exact hR.new (by decide)
  have hN0 : N1 P = fun _ => 0 := by rw [e2]; exact up_eq _ _ _
  have hGP : ¬ G = P := fun z => hne z.symm
  rw [← e1, ← e2, hq, ← (f1 G hGP).2.2.1]
  clear e1 e2 hq
  have hG1 : (sh1.1 G).1 = 1 := by rw [(f1 G hGP).1]; exact hG
  refine j_putRf (j := P) (i := G) C hname fl_X1_9 dX1_init_9 hG1 rfl ⟨rfl, rfl⟩ rfl rfl ?_
  have hr1 : u2 sh1.2.1 G 5 (some P) G 5 = some P := u2_eq _ _ _ _
  have hP1 := hP0
  refine j_aload_n C dX1_init_12 rfl ?_
  refine j_iconst C dX1_init_13 (v := 0) (by decide) ?_
  refine j_putI C fl_X1_15 dX1_init_14 (hG1) rfl rfl rfl rfl ?_
  refine j_aload_n C dX1_init_17 rfl ?_
  refine j_iconst C dX1_init_18 (v := (-1)) (by decide) ?_
  refine j_putI C fl_X1_19 dX1_init_19 (hG1) rfl rfl rfl rfl ?_
  refine j_aload_n C dX1_init_22 rfl ?_
  refine j_iconst C dX1_init_23 (v := (-1)) (by decide) ?_
  refine j_putI C fl_X1_22 dX1_init_24 (hG1) rfl rfl rfl rfl ?_
  refine j_aload_n C dX1_init_27 rfl ?_
  refine j_iload_n C dX1_init_28 rfl ?_
  refine j_putIf C hname fl_X1_25 dX1_init_29 (hG1) rfl ⟨rfl, rfl⟩ rfl rfl ?_
  refine j_aload_n C dX1_init_32 rfl ?_
  refine j_iload_n C dX1_init_33 rfl ?_
  refine j_putIf C hname fl_X1_28 dX1_init_34 (hG1) rfl ⟨rfl, rfl⟩ rfl rfl ?_
  refine j_aload_n C dX1_init_37 rfl ?_
  refine j_iload_n C dX1_init_38 rfl ?_
  refine j_putIf C hname fl_X1_31 dX1_init_39 (hG1) rfl ⟨rfl, rfl⟩ rfl rfl ?_
  refine j_aload_n C dX1_init_42 rfl ?_
  refine j_iload C dX1_init_43 rfl ?_
  refine j_putIf C hname fl_X1_34 dX1_init_45 (hG1) rfl ⟨rfl, rfl⟩ rfl rfl ?_
  refine j_aload_n C dX1_init_48 rfl ?_
  refine j_iload C dX1_init_49 rfl ?_
  refine j_putIf C hname fl_X1_37 dX1_init_51 (hG1) rfl ⟨rfl, rfl⟩ rfl rfl ?_
  refine j_aload_n C dX1_init_54 rfl ?_
  refine j_getR (j := P) C fl_X1_9 dX1_init_55 (hG1) rfl (hr1) ?_
  refine j_bipush C dX1_init_58 (v := 10) (by decide) ?_
  refine j_bipush C dX1_init_60 (v := 24) (by decide) ?_
  refine j_iast C (hP1) (by unfold vp_in; decide) dX1_init_62 ?_
  refine j_vret C dX1_init_63 ⟨fun i hi => ⟨(f1 i hi).1, (f1 i hi).2.2.1⟩, fun i hi hj => ⟨(u2_row hj).trans (f1 i hi).2.1, ?_⟩, hP0, u2_eq _ _ _ _, fun a q j hj => ?_, fun f => ?_, fun j => ?_⟩
  · rw [u2_row hi]
    iterate 8 rw [u2_row hj]
    exact (f1 i hi).2.2.2
  · replace hj : u2 sh1.2.1 G 5 (some P) a q = some j := hj
    by_cases e : a = G ∧ q = 5
    · rw [e.1, e.2, u2_eq] at hj
      cases hj
      show (sh1.1 P).1 ≤ 13
      rw [hP0]
      exact (by decide : 9 ≤ 13)
    · rw [u2_ne e] at hj
      exact hR0 a q j hj
  · rw [u2_row hGP]
    have hN1G : N1 G = fun _ => 0 := (f1 G hGP).2.2.2.trans hz
    by_cases e0 : f = 0
    · subst e0; simp [GV, u2]
    by_cases e1 : f = 1
    · subst e1; simp [GV, u2]
    by_cases e2 : f = 2
    · subst e2; simp [GV, u2]
    by_cases e3 : f = 3
    · subst e3; simp [GV, u2]
    by_cases e4 : f = 4
    · subst e4; simp [GV, u2]
    by_cases e10 : f = 10
    · subst e10; simp [GV, u2]
    by_cases e11 : f = 11
    · subst e11; simp [GV, u2]
    by_cases e9 : f = 9
    · subst e9; simp [GV, u2]
    · simp [GV, u2, e0, e1, e2, e3, e4, e9, e10, e11, hN1G]
  · by_cases e : j = 10
    · rw [if_pos e, e, show (10 : Int32).toNatClampNeg = 10 from by decide, u2_eq]
    · rw [if_neg e, show (10 : Int32).toNatClampNeg = 10 from by decide, u2_ne (fun z => e z.2)]
      iterate 8 rw [u2_row hne]
      rw [hN0]

theorem cX_galley {l : Launch} {g : WGp} (hg : GOK g) {sh : WSh} {N : WNm} {o : Nat → Nat} {nG nB nV kG kB kV : Nat} {ln : Nat → Nat} (X : XH o sh N nG nB nV kG kB kV ln) {nT nP dy : Nat} {T : WNm} (hN : XN N T nG nB nV nT ln) (hI : TI T nG nB nV nP dy) (hX : HX g o) (hX2 : HX2 g) {k : Nat} {rl0 : List Nat} (hK : LST sh N (o 2) 108 480 k (bn rl0)) (hrl : ∀ x ∈ rl0, x < nB) (r b s0 h0 : Int32) : CT l g yX6_galley cX6_galley 6 (some .int) (RM 9 3 400) [.ref (sh.2.2 100), .int r, .int b, .int s0, .int h0] sh N (QI g (fun q sh1 N1 => q = (mGalley T r b s0 h0).1 ∧ XSt o sh1 N1 (mGalley T r b s0 h0).2 ∧ FRL sh N sh1 N1)) := by
  refine ent hg (by decide +kernel) (Nat.le_of_ble_eq_true rfl) ?_
  intro p e s m args below meth c C hname
  have hB := X.nB3
  have hG := X.nG8
  have hV := X.nV3
  have hci : ∀ U H, g.X U H → CO 1 U := fun U H h => ⟨by decide, (hX2 U H h).1.2.1⟩
  generalize hRES : mGalley T r b s0 h0 = RES
  refine j_iload_n C dX6_galley_0 rfl ?_
  refine j_iconst C dX6_galley_1 (v := 1) (by decide) ?_
  refine j_sipush C dX6_galley_2 (v := 999) (by decide) ?_
  refine j_callS3I C ml_X6_57 dX6_galley_5 (cX_within hg _ _ _) ⟨Nat.le_of_ble_eq_true rfl, Nat.le_of_ble_eq_true rfl⟩ (Nat.le_of_ble_eq_true rfl) ⟨rfl, rfl⟩ ⟨Nat.zero_le _, Nat.zero_le _⟩ ?_
  refine j_if_eq (tgt := 44) C dX6_galley_8 (by decide) (fun h8 => ?_) (fun h8 => ?_)
  · replace h8 := b2_eq0.mp h8
    refine j_iconst C dX6_galley_44 (v := (-1)) (by decide) ?_
    rw [mGalley, if_neg h8] at hRES
    refine J.widen (k := 3) (n := 400) (Nat.le_of_ble_eq_true rfl) (Nat.le_of_ble_eq_true rfl) ?_
    subst hRES
    exact j_iret C dX6_galley_45 rfl ⟨rfl, ⟨nG, nB, nV, kG, kB, kV, nT, ln, k, rl0, X, hN, hK, hrl, hI.g9, hI.b23, hI.v38⟩, (FRN.rfl N).l sh⟩
  · replace h8 := b2_ne0.mp h8
    refine j_iload_n C dX6_galley_11 rfl ?_
    refine j_iconst C dX6_galley_12 (v := 1) (by decide) ?_
    refine j_sipush C dX6_galley_13 (v := 9999) (by decide) ?_
    refine j_callS3I C ml_X6_57 dX6_galley_16 (cX_within hg _ _ _) ⟨Nat.le_of_ble_eq_true rfl, Nat.le_of_ble_eq_true rfl⟩ (Nat.le_of_ble_eq_true rfl) ⟨rfl, rfl⟩ ⟨Nat.zero_le _, Nat.zero_le _⟩ ?_
    refine j_if_eq (tgt := 44) C dX6_galley_19 (by decide) (fun h19 => ?_) (fun h19 => ?_)
    · replace h19 := b2_eq0.mp h19
      refine j_iconst C dX6_galley_44 (v := (-1)) (by decide) ?_
      rw [mGalley, if_pos h8, if_neg h19] at hRES
      refine J.widen (k := 3) (n := 400) (Nat.le_of_ble_eq_true rfl) (Nat.le_of_ble_eq_true rfl) ?_
      subst hRES
      exact j_iret C dX6_galley_45 rfl ⟨rfl, ⟨nG, nB, nV, kG, kB, kV, nT, ln, k, rl0, X, hN, hK, hrl, hI.g9, hI.b23, hI.v38⟩, (FRN.rfl N).l sh⟩
    · replace h19 := b2_ne0.mp h19
      refine j_iload_n C dX6_galley_22 rfl ?_
      refine j_iconst C dX6_galley_23 (v := 1) (by decide) ?_
      refine j_bipush C dX6_galley_24 (v := 9) (by decide) ?_
      refine j_callS3I C ml_X6_57 dX6_galley_26 (cX_within hg _ _ _) ⟨Nat.le_of_ble_eq_true rfl, Nat.le_of_ble_eq_true rfl⟩ (Nat.le_of_ble_eq_true rfl) ⟨rfl, rfl⟩ ⟨Nat.zero_le _, Nat.zero_le _⟩ ?_
      refine j_if_eq (tgt := 44) C dX6_galley_29 (by decide) (fun h29 => ?_) (fun h29 => ?_)
      · replace h29 := b2_eq0.mp h29
        refine j_iconst C dX6_galley_44 (v := (-1)) (by decide) ?_
        rw [mGalley, if_pos h8, if_pos h19, if_neg h29] at hRES
        refine J.widen (k := 3) (n := 400) (Nat.le_of_ble_eq_true rfl) (Nat.le_of_ble_eq_true rfl) ?_
        subst hRES
        exact j_iret C dX6_galley_45 rfl ⟨rfl, ⟨nG, nB, nV, kG, kB, kV, nT, ln, k, rl0, X, hN, hK, hrl, hI.g9, hI.b23, hI.v38⟩, (FRN.rfl N).l sh⟩
      · replace h29 := b2_ne0.mp h29
        refine j_iload C dX6_galley_32 rfl ?_
        refine j_iconst C dX6_galley_34 (v := 1) (by decide) ?_
        refine j_sipush C dX6_galley_35 (v := 9999) (by decide) ?_
        refine j_callS3I C ml_X6_57 dX6_galley_38 (cX_within hg _ _ _) ⟨Nat.le_of_ble_eq_true rfl, Nat.le_of_ble_eq_true rfl⟩ (Nat.le_of_ble_eq_true rfl) ⟨rfl, rfl⟩ ⟨Nat.zero_le _, Nat.zero_le _⟩ ?_
        refine j_if_ne (tgt := 46) C dX6_galley_41 (by decide) (fun h41 => ?_) (fun h41 => ?_)
        · replace h41 := b2_ne0.mp h41
          refine j_aload_n C dX6_galley_46 rfl ?_
          refine j_getR (j := 105) C fl_X6_25 dX6_galley_47 (X.c (by decide)) rfl (X.r (by decide)) ?_
          refine j_callV0I C ml_X6_73 dX6_galley_50 (cJ_size hg X.lg.1.1) (⟨by rw [X.lg.1.1]; decide, by rw [X.lg.1.1]; rfl⟩) ⟨Nat.le_of_ble_eq_true rfl, Nat.le_of_ble_eq_true rfl⟩ (Nat.le_of_ble_eq_true rfl) ⟨rfl, rfl⟩ ⟨Nat.zero_le _, Nat.zero_le _⟩ ?_
          rw [X.zG]
          refine j_istore C dX6_galley_53 (by decide) rfl ?_
          refine j_iload C dX6_galley_55 rfl ?_
          refine j_bipush C dX6_galley_57 (v := 8) (by decide) ?_
          refine j_icmp_lt (tgt := 65) C dX6_galley_59 (by decide) (fun h59 => ?_) (fun h59 => ?_)
          · skip
            rw [show (8 : Int32) = nI 8 from rfl, n_nlt (by omega) (by decide)] at h59
            rw [mGalley, if_pos h8, if_pos h19, if_pos h29, if_pos h41, if_neg (show ¬ T 0 9 = 8 from fun z => by
              have z2 := nI_inj (b := 8) (by omega) (by decide) (hI.g9.symm.trans z)
              omega), hI.g9, show tn (nI nG) = nG from nI_clamp (by omega), ← hI.g9] at hRES
            change (T 0 9, mGalN T nG r b s0 h0) = RES at hRES
            refine j_aload_n C dX6_galley_65 rfl ?_
            refine j_getR (j := 105) C fl_X6_25 dX6_galley_66 (X.c (by decide)) rfl (X.r (by decide)) ?_
            have hfr := X.2.2.2.1.1 nG (Nat.le_refl _) h59
            refine j_new (i := 1000 + nG) C nl_X6_77 (Nat.lt_trans (by decide) hfr.1) (X.rf.no hfr.1) (Nat.le_of_ble_eq_true rfl) (Nat.le_of_ble_eq_true rfl) dX6_galley_69 (fun q => ?_)
            obtain ⟨sh1, e1⟩ : ∃ sh1, sh1 = shNew sh (1000 + nG) (1, 0) q := ⟨_, rfl⟩
            obtain ⟨N1, e2⟩ : ∃ N1, N1 = nNew N (1000 + nG) := ⟨_, rfl⟩
            have hq : q = sh1.2.2 (1000 + nG) := by rw [e1]; exact (up_eq _ _ _).symm
            have f1 : ∀ i, ¬ i = 1000 + nG → sh1.1 i = sh.1 i ∧ sh1.2.1 i = sh.2.1 i ∧ sh1.2.2 i = sh.2.2 i ∧ N1 i = N i := fun i hi => by rw [e1, e2]; exact ⟨up_ne hi, up_ne hi, up_ne hi, up_ne hi⟩
            have hc1 : (sh1.1 (1000 + nG)).1 = 1 := by rw [e1]; show (va_up sh.1 (1000 + nG) (1, 0) (1000 + nG)).1 = 1; rw [up_eq]
            have hR1 : RF sh1 := by rw [e1]; exact X.rf.new (by decide)
            have hz1 : N1 (1000 + nG) = fun _ => 0 := by rw [e2]; exact up_eq _ _ _
            rw [← e1, ← e2, hq, ← (f1 100 (by omega)).2.2.1, ← (f1 105 (by omega)).2.2.1]
            clear e1 e2 hq
            refine j_dup C dX6_galley_72 rfl ?_
            refine j_iload C dX6_galley_73 rfl ?_
            refine j_iload_n C dX6_galley_75 rfl ?_
            refine j_iload_n C dX6_galley_76 rfl ?_
            refine j_iload_n C dX6_galley_77 rfl ?_
            refine j_iload C dX6_galley_78 rfl ?_
            refine j_callI5Vg C ml_X6_79 dX6_galley_80 (cX_galleyInit hg (P := 1100 + nG) hc1 (by omega) (by rw [(f1 (1100 + nG) (by omega)).1]; exact hfr.2) hR1 hz1 _ _ _ _ _) ⟨Nat.le_of_ble_eq_true rfl, Nat.le_of_ble_eq_true rfl⟩ (Nat.le_of_ble_eq_true rfl) ⟨rfl, rfl⟩ ⟨Nat.le_of_ble_eq_true rfl, Nat.le_of_ble_eq_true rfl⟩ (fun sh2 N2 hq => ?_)
            obtain ⟨i1, i2, i3, i4, i5, i6, i7⟩ := hq
            rw [← (i1 100 (by omega)).2, ← (i1 105 (by omega)).2, ← (i1 (1000 + nG) (by omega)).2]
            have hL1 : LST sh2 N2 (o 2) 105 420 kG (nl 1000 nG) := X.lg.keep (fun i hi => ⟨(i1 i (by omega)).1.trans (f1 i (by omega)).1, (i2 i (by omega) (by omega)).1.trans (f1 i (by omega)).2.1, (i1 i (by omega)).2.trans (f1 i (by omega)).2.2.1, (i2 i (by omega) (by omega)).2.trans (f1 i (by omega)).2.2.2⟩)
            have hc2 : (sh2.1 (1000 + nG)).1 = 1 := by rw [(i1 (1000 + nG) (by omega)).1]; exact hc1
            have hkB : kG ≤ 10 := X.lg.1.2.1
            have hcu : kUp kG nG - kG ≤ 1 := by unfold kUp; split <;> omega
            have hsu : sUp kG nG ≤ 366 := by
              unfold sUp
              split
              · have : kG < 10 := by
                  rcases Nat.lt_or_ge kG 10 with z | z
                  · exact z
                  · exfalso
                    have e10 : kG = 10 := by omega
                    have h366 : cap kG = 366 := by rw [e10]; decide
                    omega
                exact cap_le _ (by omega)
              · omega
            refine j_callV1Ig (c1 := 2 + (kUp kG nG - kG)) (s1 := 29 + sUp kG nG) C ml_X6_82 dX6_galley_83 (cJ_add hg hX hX2 hL1 (Or.inl (by decide)) i5 (ci := 1) hci (fun x hx => ?_) (by rw [nl_len]; omega) (x := 1000 + nG) hc2 (by omega)) ⟨by rw [hL1.1.1]; decide, by rw [hL1.1.1]; rfl⟩ ⟨Nat.le_of_ble_eq_true rfl, Nat.le_of_ble_eq_true rfl⟩ (Nat.le_of_ble_eq_true rfl) ⟨by rw [nl_len] <;> try rfl, by rw [nl_len] <;> try rfl⟩ ⟨by show _ ≤ 3; omega, by show _ ≤ 400; omega⟩ (fun r9 sh3 N3 hq => ?_)
            · obtain ⟨i, hi, rfl⟩ := nl_mem hx
              rw [(i1 _ (by omega)).1, (f1 _ (by omega)).1]
              exact X.g hi
            obtain ⟨hL2, hFx, hR2⟩ := hq
            rw [nl_len, ← nl_succ] at hL2
            have hsame : SAME sh N sh3 N3 (fun i => i = 105 ∨ (420 ≤ i ∧ i ≤ 430) ∨ i = 1000 + nG ∨ i = 1100 + nG) := fun i hi => by
              have z1 := hFx.1 i (by omega)
              have z2 := hFx.2 i (by omega) (by omega)
              have z3 := f1 i (by omega)
              have z4 := i1 i (by omega)
              have z5 := i2 i (by omega) (by omega)
              exact ⟨z1.1.trans (z4.1.trans z3.1), z2.1.trans (z5.1.trans z3.2.1), z1.2.trans (z4.2.trans z3.2.2.1), z2.2.trans (z5.2.trans z3.2.2.2)⟩
            have X3 := X.galleyNew h59 hsame hL2 ⟨by rw [(hFx.1 (1000 + nG) (by omega)).1]; exact hc2, by rw [(hFx.2 (1000 + nG) (by omega) (by omega)).1]; exact i4, by rw [(hFx.1 (1100 + nG) (by omega)).1]; exact i3⟩ hR2
            have hN3 := hN.galleyNew hI h59 hB hV r b s0 h0 (fun i hi => (hsame i hi).2.2.2) (fun q => by rw [(hFx.2 (1000 + nG) (by omega) (by omega)).2]; exact i6 q) (fun q => by rw [(hFx.2 (1100 + nG) (by omega) (by omega)).2]; exact i7 q)
            have hK3 := hK.keep (fun i hi => hsame i (by omega))
            refine j_pop C dX6_galley_86 rfl ?_
            refine j_iload C dX6_galley_87 rfl ?_
            refine J.widen (k := 3) (n := 400) (by omega) (by omega) ?_
            rw [← hI.g9]
            subst hRES
            exact j_iret C dX6_galley_89 rfl ⟨rfl, ⟨nG + 1, nB, nV, _, kB, kV, nT, ln, k, rl0, X3, hN3, hK3, hrl, (by rw [← nI_1, ← hI.g9]; rfl), hI.b23, hI.v38⟩, hsame.l (fun i hi => by omega) (by omega)⟩
          · skip
            refine j_bipush C dX6_galley_62 (v := (-3)) (by decide) ?_
            rw [show (8 : Int32) = nI 8 from rfl, n_nlt (by omega) (by decide)] at h59
            rw [mGalley, if_pos h8, if_pos h19, if_pos h29, if_pos h41, if_pos (show T 0 9 = 8 by rw [hI.g9, show nG = 8 by omega]; rfl)] at hRES
            refine J.widen (k := 3) (n := 400) (Nat.le_of_ble_eq_true rfl) (Nat.le_of_ble_eq_true rfl) ?_
            subst hRES
            exact j_iret C dX6_galley_64 rfl ⟨rfl, ⟨nG, nB, nV, kG, kB, kV, nT, ln, k, rl0, X, hN, hK, hrl, hI.g9, hI.b23, hI.v38⟩, (FRN.rfl N).l sh⟩
        · replace h41 := b2_eq0.mp (Decidable.not_not.mp h41)
          refine j_iconst C dX6_galley_44 (v := (-1)) (by decide) ?_
          rw [mGalley, if_pos h8, if_pos h19, if_pos h29, if_neg h41] at hRES
          refine J.widen (k := 3) (n := 400) (Nat.le_of_ble_eq_true rfl) (Nat.le_of_ble_eq_true rfl) ?_
          subst hRES
          exact j_iret C dX6_galley_45 rfl ⟨rfl, ⟨nG, nB, nV, kG, kB, kV, nT, ln, k, rl0, X, hN, hK, hrl, hI.g9, hI.b23, hI.v38⟩, (FRN.rfl N).l sh⟩
