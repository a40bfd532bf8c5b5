/-! ===== THE CLASS: small constructors ===== -/
/-- still more of the outside: constructors that only the nest may call -/
def XO3 (U : State) : Prop := va_Nw (.methodLinkNest RX6 37 yX2_init RX6) U ∧ va_Nw (.methodLinkNest RX2 11 yX3_init RX6) U ∧ va_Nw (.methodLinkNest RX6 44 yX4_init RX6) U
theorem XO3.go {s U : State} (hW : s.WarmedH U.vm) (h : XO3 s) : XO3 U := ⟨va_Nw.warmM hW h.1, va_Nw.warmM hW h.2.1, va_Nw.warmM hW h.2.2⟩
abbrev HX3 (g : WGp) : Prop := ∀ U H, g.X U H → XO3 U
theorem HX3.r {g : WGp} (h : HX3 g) : MIN RX6 RX6 37 yX2_init cX2_init 1 0 g := MIN.of 123 69 124 (by decide +kernel) (by decide +kernel) (by decide +kernel) rfl ⟨by decide +kernel, by decide +kernel, by decide +kernel⟩ (fun U H z => (h U H z).1)
theorem HX3.t {g : WGp} (h : HX3 g) : MIN RX6 RX2 11 yX3_init cX3_init 1 0 g := MIN.of 129 70 130 (by decide +kernel) (by decide +kernel) (by decide +kernel) rfl ⟨by decide +kernel, by decide +kernel, by decide +kernel⟩ (fun U H z => (h U H z).2.1)
theorem HX3.e {g : WGp} (h : HX3 g) : MIN RX6 RX6 44 yX4_init cX4_init 1 0 g := MIN.of 167 71 168 (by decide +kernel) (by decide +kernel) (by decide +kernel) rfl ⟨by decide +kernel, by decide +kernel, by decide +kernel⟩ (fun U H z => (h U H z).2.2)
theorem RF.put {sh : WSh} (h : RF sh) {i k j : Nat} (hj : (sh.1 j).1 ≤ 13) : RF (sh.1, u2 sh.2.1 i k (some j), sh.2.2) := by
  intro a q y hy
  replace hy : u2 sh.2.1 i k (some j) a q = some y := hy
  by_cases e : a = i ∧ q = k
  · rw [e.1, e.2, u2_eq] at hy
    cases hy
    exact hj
  · rw [u2_ne e] at hy
    exact h a q y hy

theorem cJ_acInit {l : Launch} {g : WGp} (hg : GOK g) {sh : WSh} {N : WNm} (q : Nat) : CT l g yJxa1e45_init_da8c8 cJxa1e45_init_da8c8 1 none (RM 1 0 0) [.ref q] sh N (QFv g sh N) := by
  refine ent hg (by decide +kernel) (Nat.le_of_ble_eq_true rfl) ?_
  intro p e s m args below meth c C hname
  refine j_aload_n C dJxa1e45_init_da8c8_0 rfl ?_
  refine j_objInit C ob_Jxa1e45_1 dJxa1e45_init_da8c8_1 (Nat.le_of_ble_eq_true rfl) (Nat.le_of_ble_eq_true rfl) ?_
  exact j_vret C dJxa1e45_init_da8c8_4 ⟨rfl, rfl⟩

theorem cJ_alInit {l : Launch} {g : WGp} (hg : GOK g) {sh : WSh} {N : WNm} {L : Nat} (hL : (sh.1 L).1 = 8) : CT l g yJxc12de_init_da8c8 cJxc12de_init_da8c8 1 none (RM 2 0 0) [.ref (sh.2.2 L)] sh N (QFv g sh (u2 N L 0 0)) := by
  refine ent hg (by decide +kernel) (Nat.le_of_ble_eq_true rfl) ?_
  intro p e s m args below meth c C hname
  refine j_aload_n C dJxc12de_init_da8c8_0 rfl ?_
  refine j_callI0V C ml_Jxc12de_1 dJxc12de_init_da8c8_1 (cJ_acInit hg _) ⟨Nat.le_of_ble_eq_true rfl, Nat.le_of_ble_eq_true rfl⟩ (Nat.le_of_ble_eq_true rfl) ⟨rfl, rfl⟩ ⟨Nat.le_of_ble_eq_true rfl, Nat.le_of_ble_eq_true rfl⟩ ?_
  refine j_aload_n C dJxc12de_init_da8c8_4 rfl ?_
  refine j_iconst C dJxc12de_init_da8c8_5 (v := 0) (by decide) ?_
  refine j_putI C fl_Jxc12de_7 dJxc12de_init_da8c8_6 hL rfl rfl rfl rfl ?_
  exact j_vret C dJxc12de_init_da8c8_9 ⟨rfl, rfl⟩

theorem cJ_listInit {l : Launch} {g : WGp} (hg : GOK g) {sh : WSh} {N : WNm} {o : Nat → Nat} (hX : HX g o) {L b : Nat} (hL : (sh.1 L).1 = 8) (hb : sh.2.2 b = o 2) : CT l g yJx4a65c_init_da8c8 cJx4a65c_init_da8c8 1 none (RM 3 0 0) [.ref (sh.2.2 L)] sh N (QV g (fun sh1 N1 => sh1 = (sh.1, u2 sh.2.1 L 1 (some b), sh.2.2) ∧ N1 = u2 N L 0 0)) := by
  refine ent hg (by decide +kernel) (Nat.le_of_ble_eq_true rfl) ?_
  intro p e s m args below meth c C hname
  refine j_aload_n C dJx4a65c_init_da8c8_0 rfl ?_
  refine j_callI0V C ml_Jx4a65c_1 dJx4a65c_init_da8c8_1 (cJ_alInit hg hL) ⟨Nat.le_of_ble_eq_true rfl, Nat.le_of_ble_eq_true rfl⟩ (Nat.le_of_ble_eq_true rfl) ⟨rfl, rfl⟩ ⟨Nat.le_of_ble_eq_true rfl, Nat.le_of_ble_eq_true rfl⟩ ?_
  refine j_aload_n C dJx4a65c_init_da8c8_4 rfl ?_
  refine j_gets C tb_emp (hX _ _ C.2.2.2.2.2.1.2.1).2.1.1 dJx4a65c_init_da8c8_5 ?_
  rw [← hb]
  refine j_putR (j := b) (i := L) C fl_Jx4a65c_9 dJx4a65c_init_da8c8_8 hL rfl rfl rfl rfl ?_
  exact j_vret C dJx4a65c_init_da8c8_11 ⟨rfl, rfl⟩

theorem cX_tapeInit {l : Launch} {g : WGp} (hg : GOK g) {sh : WSh} {N : WNm} {Z Y : Nat} (hZ : (sh.1 Z).1 = 3) (hf : 13 < (sh.1 Y).1) (hR : RF sh) : CT l g yX3_init cX3_init 1 none (RM 1 1 200) [.ref (sh.2.2 Z)] sh N (QV g (fun sh1 N1 => SAME sh N sh1 N1 (fun i => i = Z ∨ i = Y) ∧ (sh1.1 Z = sh.1 Z ∧ sh1.2.2 Z = sh.2.2 Z ∧ N1 Z = N Z ∧ sh1.2.1 Z 0 = some Y) ∧ (sh1.1 Y = (9, 200) ∧ N1 Y = fun _ => 0) ∧ RF sh1)) := by
  refine ent hg (by decide +kernel) (Nat.le_of_ble_eq_true rfl) ?_
  intro p e s m args below meth c C hname
  have hne : ¬ Z = Y := fun z => by rw [← z, hZ] at hf; exact absurd hf (by decide)
  refine j_aload_n C dX3_init_0 rfl ?_
  refine j_objInit C ob_X3_3 dX3_init_1 (Nat.le_of_ble_eq_true rfl) (Nat.le_of_ble_eq_true rfl) ?_
  refine j_aload_n C dX3_init_4 rfl ?_
  refine j_sipush C dX3_init_5 (v := 200) (by decide) ?_
  refine j_newa_int (i := Y) (n := 200) C rfl (by decide) (Nat.lt_trans (by decide) hf) (hR.no hf) (Nat.le_of_ble_eq_true rfl) (Nat.le_of_ble_eq_true rfl) dX3_init_8 (fun q => ?_)
  obtain ⟨sh1, e1⟩ : ∃ sh1, sh1 = shNew sh Y (9, 200) q := ⟨_, rfl⟩
  obtain ⟨N1, e2⟩ : ∃ N1, N1 = nNew N Y := ⟨_, rfl⟩
  have hq : q = sh1.2.2 Y := by rw [e1]; exact (up_eq _ _ _).symm
  have f1 : ∀ i, ¬ i = Y → sh1.1 i = sh.1 i ∧ sh1.2.1 i = sh.2.1 i ∧ sh1.2.2 i = sh.2.2 i ∧ N1 i = N i := fun i hi => by rw [e1, e2]; exact ⟨up_ne hi, up_ne hi, up_ne hi, up_ne hi⟩
  have hY : sh1.1 Y = (9, 200) := by rw [e1]; exact up_eq _ _ _
  have hR1 : RF sh1 := by rw [e1]; exact hR.new (by decide)
  have hN1 : N1 Y = fun _ => 0 := by rw [e2]; exact up_eq _ _ _
  rw [← e1, ← e2, hq, ← (f1 Z hne).2.2.1]
  clear e1 e2 hq
  have hZ1 : (sh1.1 Z).1 = 3 := by rw [(f1 Z hne).1]; exact hZ
  first
    | refine j_putRf (j := Y) (i := Z) C hname fl_X3_9 dX3_init_10 hZ1 rfl ⟨rfl, rfl⟩ rfl rfl ?_
    | refine j_putR (j := Y) (i := Z) C fl_X3_9 dX3_init_10 hZ1 rfl rfl rfl rfl ?_
  refine j_vret C dX3_init_13 ⟨fun i hi => ?_, ⟨(f1 Z hne).1, (by first | rfl | exact (f1 Z hne).2.2.1), (f1 Z hne).2.2.2, u2_eq _ _ _ _⟩, ⟨hY, hN1⟩, hR1.put (by rw [hY]; exact (by decide : 9 ≤ 13))⟩
  have z := f1 i (fun z => hi (Or.inr z))
  exact ⟨z.1, (u2_row (fun z => hi (Or.inl z))).trans z.2.1, z.2.2.1, z.2.2.2⟩

theorem cX_readerInit {l : Launch} {g : WGp} (hg : GOK g) {sh : WSh} {N : WNm} (hX3 : HX3 g) {R Z Y S : Nat} (hRd : (sh.1 R).1 = 2) (hd1 : ¬ Z = Y ∧ ¬ Z = S ∧ ¬ Y = S) (hz : 13 < (sh.1 Z).1) (hy : 13 < (sh.1 Y).1) (hs : 13 < (sh.1 S).1) (hR : RF sh) : CT l g yX2_init cX2_init 1 none (RM 2 3 402) [.ref (sh.2.2 R)] sh N (QV g (fun sh1 N1 => SAME sh N sh1 N1 (fun i => i = R ∨ i = Z ∨ i = Y ∨ i = S) ∧ (sh1.1 R = sh.1 R ∧ sh1.2.2 R = sh.2.2 R ∧ N1 R = N R) ∧ RSh sh1 R Z Y S ∧ (N1 Z = fun _ => 0) ∧ RF sh1)) := by
  refine ent hg (by decide +kernel) (Nat.le_of_ble_eq_true rfl) ?_
  intro p e s m args below meth c C hname
  have hRZ : ¬ R = Z := fun z => by rw [← z, hRd] at hz; exact absurd hz (by decide)
  have hRY : ¬ R = Y := fun z => by rw [← z, hRd] at hy; exact absurd hy (by decide)
  have hRS : ¬ R = S := fun z => by rw [← z, hRd] at hs; exact absurd hs (by decide)
  obtain ⟨hZY, hZS, hYS⟩ := hd1
  refine j_aload_n C dX2_init_0 rfl ?_
  refine j_objInit C ob_X2_3 dX2_init_1 (Nat.le_of_ble_eq_true rfl) (Nat.le_of_ble_eq_true rfl) ?_
  refine j_aload_n C dX2_init_4 rfl ?_
  refine j_new (i := Z) C nl_X2_9 (Nat.lt_trans (by decide) hz) (hR.no hz) (Nat.le_of_ble_eq_true rfl) (Nat.le_of_ble_eq_true rfl) dX2_init_5 (fun q => ?_)
  obtain ⟨sh1, e1⟩ : ∃ sh1, sh1 = shNew sh Z (3, 0) q := ⟨_, rfl⟩
  obtain ⟨N1, e2⟩ : ∃ N1, N1 = nNew N Z := ⟨_, rfl⟩
  have hq : q = sh1.2.2 Z := by rw [e1]; exact (up_eq _ _ _).symm
  have f1 : ∀ i, ¬ i = Z → sh1.1 i = sh.1 i ∧ sh1.2.1 i = sh.2.1 i ∧ sh1.2.2 i = sh.2.2 i ∧ N1 i = N i := fun i hi => by rw [e1, e2]; exact ⟨up_ne hi, up_ne hi, up_ne hi, up_ne hi⟩
  have hZ1 : (sh1.1 Z).1 = 3 := by rw [e1]; show (va_up sh.1 Z (3, 0) Z).1 = 3; rw [up_eq]
  have hR1 : RF sh1 := by rw [e1]; exact hR.new (by decide)
  have hN1 : N1 Z = fun _ => 0 := by rw [e2]; exact up_eq _ _ _
  rw [← e1, ← e2, hq, ← (f1 R hRZ).2.2.1]
  clear e1 e2 hq
  refine j_dup C dX2_init_8 rfl ?_
  refine j_callIN0Vg C hX3.t dX2_init_9 (cX_tapeInit hg (Y := Y) hZ1 (by rw [(f1 Y (fun z => hZY z.symm)).1]; exact hy) hR1) ⟨Nat.le_of_ble_eq_true rfl, Nat.le_of_ble_eq_true rfl⟩ (Nat.le_of_ble_eq_true rfl) ⟨rfl, rfl⟩ ⟨Nat.le_of_ble_eq_true rfl, Nat.le_of_ble_eq_true rfl⟩ (fun sh2 N2 hq => ?_)
  obtain ⟨g1, ⟨g2, g3, g4, g5⟩, ⟨g6, g7⟩, hR2⟩ := hq
  have gR := g1 R (by rintro (z | z); exact hRZ z; exact hRY z)
  rw [← g3, ← gR.2.2.1]
  have hRd2 : (sh2.1 R).1 = 2 := by rw [gR.1, (f1 R hRZ).1]; exact hRd
  have hZ2 : (sh2.1 Z).1 = 3 := by rw [g2]; exact hZ1
  first
    | refine j_putRf (j := Z) (i := R) C hname fl_X2_12 dX2_init_12 hRd2 rfl ⟨rfl, rfl⟩ rfl rfl ?_
    | refine j_putR (j := Z) (i := R) C fl_X2_12 dX2_init_12 hRd2 rfl rfl rfl rfl ?_
  have hR3 : RF (sh2.1, u2 sh2.2.1 R 0 (some Z), sh2.2.2) := hR2.put (by rw [hZ2]; decide)
  obtain ⟨sh3, e3⟩ : ∃ sh3 : WSh, sh3 = (sh2.1, u2 sh2.2.1 R 0 (some Z), sh2.2.2) := ⟨_, rfl⟩
  have k1 : ∀ i, sh3.1 i = sh2.1 i ∧ sh3.2.2 i = sh2.2.2 i := fun i => by rw [e3]; exact ⟨rfl, rfl⟩
  have k2 : ∀ i, ¬ i = R → sh3.2.1 i = sh2.2.1 i := fun i hi => by rw [e3]; exact u2_row hi
  have k3 : sh3.2.1 R 0 = some Z := by rw [e3]; exact u2_eq _ _ _ _
  rw [← e3] at hR3 ⊢
  rw [show sh2.2.2 R = sh3.2.2 R from (k1 R).2.symm]
  clear e3
  have hs3 : 13 < (sh3.1 S).1 := by rw [(k1 S).1, (g1 S (by rintro (z | z); exact hZS z.symm; exact hYS z.symm)).1, (f1 S (fun z => hZS z.symm)).1]; exact hs
  refine j_aload_n C dX2_init_15 rfl ?_
  refine j_sipush C dX2_init_16 (v := 200) (by decide) ?_
  refine j_newa_int (i := S) (n := 200) C rfl (by decide) (Nat.lt_trans (by decide) hs3) (hR3.no hs3) (Nat.le_of_ble_eq_true rfl) (Nat.le_of_ble_eq_true rfl) dX2_init_19 (fun q => ?_)
  obtain ⟨sh4, e4⟩ : ∃ sh4, sh4 = shNew sh3 S (9, 200) q := ⟨_, rfl⟩
  obtain ⟨N4, e5⟩ : ∃ N4, N4 = nNew N2 S := ⟨_, rfl⟩
  have hq : q = sh4.2.2 S := by rw [e4]; exact (up_eq _ _ _).symm
  have f4 : ∀ i, ¬ i = S → sh4.1 i = sh3.1 i ∧ sh4.2.1 i = sh3.2.1 i ∧ sh4.2.2 i = sh3.2.2 i ∧ N4 i = N2 i := fun i hi => by rw [e4, e5]; exact ⟨up_ne hi, up_ne hi, up_ne hi, up_ne hi⟩
  have hS4 : sh4.1 S = (9, 200) := by rw [e4]; exact up_eq _ _ _
  have hR4 : RF sh4 := by rw [e4]; exact hR3.new (by decide)
  rw [← e4, ← e5, hq, ← (f4 R hRS).2.2.1]
  clear e4 e5 hq
  have hRd4 : (sh4.1 R).1 = 2 := by rw [(f4 R hRS).1, (k1 R).1]; exact hRd2
  first
    | refine j_putRf (j := S) (i := R) C hname fl_X2_18 dX2_init_21 hRd4 rfl ⟨rfl, rfl⟩ rfl rfl ?_
    | refine j_putR (j := S) (i := R) C fl_X2_18 dX2_init_21 hRd4 rfl rfl rfl rfl ?_
  refine j_vret C dX2_init_24 ⟨fun i hi => ?_, ⟨?_, ?_, ?_⟩, ⟨hRd4, ?_, ?_, ?_, ?_, u2_eq _ _ _ _, hS4, fun z => hRZ z.symm, fun z => hRY z.symm, fun z => hRS z.symm, hZY, hZS, hYS⟩, ?_, hR4.put (by rw [hS4]; exact (by decide : 9 ≤ 13))⟩
  · have i1 : ¬ i = R := fun z => hi (Or.inl z)
    have i2 : ¬ i = Z := fun z => hi (Or.inr (Or.inl z))
    have i3 : ¬ i = Y := fun z => hi (Or.inr (Or.inr (Or.inl z)))
    have i4 : ¬ i = S := fun z => hi (Or.inr (Or.inr (Or.inr z)))
    have z4 := f4 i i4
    have z1 := f1 i i2
    have z2 := g1 i (by rintro (z | z); exact i2 z; exact i3 z)
    exact ⟨z4.1.trans ((k1 i).1.trans (z2.1.trans z1.1)), (u2_row i1).trans (z4.2.1.trans ((k2 i i1).trans (z2.2.1.trans z1.2.1))), z4.2.2.1.trans ((k1 i).2.trans (z2.2.2.1.trans z1.2.2.1)), z4.2.2.2.trans (z2.2.2.2.trans z1.2.2.2)⟩
  · exact (f4 R hRS).1.trans ((k1 R).1.trans (gR.1.trans (f1 R hRZ).1))
  · first | rfl | exact (f4 R hRS).2.2.1.trans ((k1 R).2.trans (gR.2.2.1.trans (f1 R hRZ).2.2.1))
  · exact (f4 R hRS).2.2.2.trans (gR.2.2.2.trans (f1 R hRZ).2.2.2)
  · show u2 sh4.2.1 R 5 (some S) R 0 = some Z
    rw [u2_ne (by omega), (f4 R hRS).2.1]; exact k3
  · show (sh4.1 Z).1 = 3
    rw [(f4 Z hZS).1, (k1 Z).1]; exact hZ2
  · show u2 sh4.2.1 R 5 (some S) Z 0 = some Y
    rw [u2_row (fun z => hRZ z.symm), (f4 Z hZS).2.1, k2 Z (fun z => hRZ z.symm)]; exact g5
  · show sh4.1 Y = (9, 200)
    rw [(f4 Y hYS).1, (k1 Y).1]; exact g6
  · rw [(f4 Z hZS).2.2.2, g4]; exact hN1

theorem cX_tellerInit {l : Launch} {g : WGp} (hg : GOK g) {sh : WSh} {N : WNm} {R V P : Nat} (hRd : (sh.1 R).1 = 4) (hVP : ¬ V = P) (hv : 13 < (sh.1 V).1) (hp : 13 < (sh.1 P).1) (hR : RF sh) : CT l g yX4_init cX4_init 1 none (RM 1 2 213) [.ref (sh.2.2 R)] sh N (QV g (fun sh1 N1 => SAME sh N sh1 N1 (fun i => i = R ∨ i = V ∨ i = P) ∧ (sh1.1 R = sh.1 R ∧ sh1.2.2 R = sh.2.2 R ∧ N1 R = N R) ∧ (sh1.2.1 R 0 = some V ∧ sh1.2.1 R 1 = some P ∧ sh1.1 V = (9, 13) ∧ sh1.1 P = (9, 200)) ∧ RF sh1)) := by
  refine ent hg (by decide +kernel) (Nat.le_of_ble_eq_true rfl) ?_
  intro p e s m args below meth c C hname
  have hRV : ¬ R = V := fun z => by rw [← z, hRd] at hv; exact absurd hv (by decide)
  have hRP : ¬ R = P := fun z => by rw [← z, hRd] at hp; exact absurd hp (by decide)
  refine j_aload_n C dX4_init_0 rfl ?_
  refine j_objInit C ob_X4_3 dX4_init_1 (Nat.le_of_ble_eq_true rfl) (Nat.le_of_ble_eq_true rfl) ?_
  refine j_aload_n C dX4_init_4 rfl ?_
  refine j_bipush C dX4_init_5 (v := 13) (by decide) ?_
  refine j_newa_int (i := V) (n := 13) C rfl (by decide) (Nat.lt_trans (by decide) hv) (hR.no hv) (Nat.le_of_ble_eq_true rfl) (Nat.le_of_ble_eq_true rfl) dX4_init_7 (fun q => ?_)
  obtain ⟨sh1, e1⟩ : ∃ sh1, sh1 = shNew sh V (9, 13) q := ⟨_, rfl⟩
  obtain ⟨N1, e2⟩ : ∃ N1, N1 = nNew N V := ⟨_, rfl⟩
  have hq : q = sh1.2.2 V := by rw [e1]; exact (up_eq _ _ _).symm
  have f1 : ∀ i, ¬ i = V → sh1.1 i = sh.1 i ∧ sh1.2.1 i = sh.2.1 i ∧ sh1.2.2 i = sh.2.2 i ∧ N1 i = N i := fun i hi => by rw [e1, e2]; exact ⟨up_ne hi, up_ne hi, up_ne hi, up_ne hi⟩
  have hV1 : sh1.1 V = (9, 13) := by rw [e1]; exact up_eq _ _ _
  have hR1 : RF sh1 := by rw [e1]; exact hR.new (by decide)
  rw [← e1, ← e2, hq, ← (f1 R hRV).2.2.1]
  clear e1 e2 hq
  have hRd1 : (sh1.1 R).1 = 4 := by rw [(f1 R hRV).1]; exact hRd
  first
    | refine j_putRf (j := V) (i := R) C hname fl_X4_11 dX4_init_9 hRd1 rfl ⟨rfl, rfl⟩ rfl rfl ?_
    | refine j_putR (j := V) (i := R) C fl_X4_11 dX4_init_9 hRd1 rfl rfl rfl rfl ?_
  have hR3 : RF (sh1.1, u2 sh1.2.1 R 0 (some V), sh1.2.2) := hR1.put (by rw [hV1]; exact (by decide : 9 ≤ 13))
  obtain ⟨sh3, e3⟩ : ∃ sh3 : WSh, sh3 = (sh1.1, u2 sh1.2.1 R 0 (some V), sh1.2.2) := ⟨_, rfl⟩
  have k1 : ∀ i, sh3.1 i = sh1.1 i ∧ sh3.2.2 i = sh1.2.2 i := fun i => by rw [e3]; exact ⟨rfl, rfl⟩
  have k2 : ∀ i, ¬ i = R → sh3.2.1 i = sh1.2.1 i := fun i hi => by rw [e3]; exact u2_row hi
  have k3 : sh3.2.1 R 0 = some V := by rw [e3]; exact u2_eq _ _ _ _
  rw [← e3] at hR3 ⊢
  rw [show sh1.2.2 R = sh3.2.2 R from (k1 R).2.symm]
  clear e3
  have hs3 : 13 < (sh3.1 P).1 := by rw [(k1 P).1, (f1 P (fun z => hVP z.symm)).1]; exact hp
  refine j_aload_n C dX4_init_12 rfl ?_
  refine j_sipush C dX4_init_13 (v := 200) (by decide) ?_
  refine j_newa_int (i := P) (n := 200) C rfl (by decide) (Nat.lt_trans (by decide) hs3) (hR3.no hs3) (Nat.le_of_ble_eq_true rfl) (Nat.le_of_ble_eq_true rfl) dX4_init_16 (fun q => ?_)
  obtain ⟨sh4, e4⟩ : ∃ sh4, sh4 = shNew sh3 P (9, 200) q := ⟨_, rfl⟩
  obtain ⟨N4, e5⟩ : ∃ N4, N4 = nNew N1 P := ⟨_, rfl⟩
  have hq : q = sh4.2.2 P := by rw [e4]; exact (up_eq _ _ _).symm
  have f4 : ∀ i, ¬ i = P → sh4.1 i = sh3.1 i ∧ sh4.2.1 i = sh3.2.1 i ∧ sh4.2.2 i = sh3.2.2 i ∧ N4 i = N1 i := fun i hi => by rw [e4, e5]; exact ⟨up_ne hi, up_ne hi, up_ne hi, up_ne hi⟩
  have hS4 : sh4.1 P = (9, 200) := by rw [e4]; exact up_eq _ _ _
  have hR4 : RF sh4 := by rw [e4]; exact hR3.new (by decide)
  rw [← e4, ← e5, hq, ← (f4 R hRP).2.2.1]
  clear e4 e5 hq
  have hRd4 : (sh4.1 R).1 = 4 := by rw [(f4 R hRP).1, (k1 R).1]; exact hRd1
  first
    | refine j_putRf (j := P) (i := R) C hname fl_X4_15 dX4_init_18 hRd4 rfl ⟨rfl, rfl⟩ rfl rfl ?_
    | refine j_putR (j := P) (i := R) C fl_X4_15 dX4_init_18 hRd4 rfl rfl rfl rfl ?_
  refine j_vret C dX4_init_21 ⟨fun i hi => ?_, ⟨?_, ?_, ?_⟩, ⟨?_, u2_eq _ _ _ _, ?_, hS4⟩, hR4.put (by rw [hS4]; exact (by decide : 9 ≤ 13))⟩
  · have i1 : ¬ i = R := fun z => hi (Or.inl z)
    have i2 : ¬ i = V := fun z => hi (Or.inr (Or.inl z))
    have i3 : ¬ i = P := fun z => hi (Or.inr (Or.inr z))
    have z4 := f4 i i3
    have z1 := f1 i i2
    exact ⟨z4.1.trans ((k1 i).1.trans z1.1), (u2_row i1).trans (z4.2.1.trans ((k2 i i1).trans z1.2.1)), z4.2.2.1.trans ((k1 i).2.trans z1.2.2.1), z4.2.2.2.trans z1.2.2.2⟩
  · exact (f4 R hRP).1.trans ((k1 R).1.trans (f1 R hRV).1)
  · first | rfl | exact (f4 R hRP).2.2.1.trans ((k1 R).2.trans (f1 R hRV).2.2.1)
  · exact (f4 R hRP).2.2.2.trans (f1 R hRV).2.2.2
  · show u2 sh4.2.1 R 1 (some P) R 0 = some V
    rw [u2_ne (by omega), (f4 R hRP).2.1]; exact k3
  · show sh4.1 V = (9, 13)
    rw [(f4 V hVP).1, (k1 V).1]; exact hV1
