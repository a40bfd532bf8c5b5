/-! ===== THE CLASS: the steps of a vote are copied ===== -/
section Rows
variable {p : Program} {l : Launch} {e : Env} {R : Room} {s : State} {m : MethodId} {args : Array Value} {below : List Frame} {meth : Method} {c : Code} {Q : State → Prop} {g : WGp} {nL : Nat} {own : String} {cc : ByteArray} {ret : Option FieldType}
variable {sh : WSh} {N : WNm} {cells slots pc : Nat} {lv : List (Option Value)} {st : List Value}
theorem j_castI (C : Cx p s m args meth c g nL own cc ret) {idx i n : Nat} (hl : Cond.classLink own idx "[I" ∈ TBL) (ht : sh.1 i = (9, n)) (hd : decode cc pc = .ok (.checkcast idx, 3)) (kk : J p l e R s m args below meth c Q g nL sh N cells slots (pc + 3) lv (.ref (sh.2.2 i) :: st)) : J p l e R s m args below meth c Q g nL sh N cells slots pc lv (.ref (sh.2.2 i) :: st) := by
  intro H locs ls a b d T hT X
  have hc := (a.1 i).2.1 (by rw [ht])
  rw [ht] at hc
  have hnm : s.vm.findClass "[I" = some (g.tc 0) := va_nm_int (C.2.2.2.2.2.1.1.2 0 _ rfl).2
  obtain ⟨vm', X', stp⟩ := X.checkcastYes C.1 C.2.2.2.1 (C.2.2.2.2.1 _ hl) (by rw [hT]; exact hc) rfl hnm (va_asg _ _) (g := F0 m pc ls (.ref (sh.2.2 i) :: st)) rfl rfl (by rw [C.2.1]; exact hd)
  obtain ⟨t, a1, b1⟩ := kk H locs ls a b d (T.setVm vm') hT X'
  exact ⟨t, stp t a1, b1⟩
end Rows
theorem tb_cnL : Cond.methodLink RJ7 316 ⟨"[I", "clone", "()Ljava/lang/Object;"⟩ ∈ TBL := tbl_in 650 (by decide +kernel) rfl
theorem tb_cnM : Cond.sameMethod "[I" "java/lang/Object" "clone" "()Ljava/lang/Object;" ∈ TBL := tbl_in 651 (by decide +kernel) rfl
theorem tb_cnN : Cond.native ⟨"java/lang/Object", "clone", "()Ljava/lang/Object;"⟩ ∈ TBL := tbl_in 652 (by decide +kernel) rfl
theorem tb_cnI : Cond.instanceMethod ⟨"java/lang/Object", "clone", "()Ljava/lang/Object;"⟩ ∈ TBL := tbl_in 653 (by decide +kernel) rfl
theorem tb_cnS : Cond.selects "[I" ⟨"[I", "clone", "()Ljava/lang/Object;"⟩ ⟨"java/lang/Object", "clone", "()Ljava/lang/Object;"⟩ ∈ TBL := tbl_in 654 (by decide +kernel) rfl
/-- a shorter copy of a row of ints -/
def CPI (sh : WSh) (N : WNm) (E P n : Nat) (sh1 : WSh) (N1 : WNm) : Prop :=
  sh1.1 P = (9, n) ∧ (∀ j, j < n → N1 P j = N E j) ∧ RF sh1 ∧ ∀ a, ¬ a = P → sh1.1 a = sh.1 a ∧ sh1.2.1 a = sh.2.1 a ∧ sh1.2.2 a = sh.2.2 a ∧ N1 a = N a

theorem cJ_copyI {l : Launch} {g : WGp} (hg : GOK g) {sh : WSh} {N : WNm} (hX2 : HX2 g) {E P n : Nat} (hE : sh.1 E = (9, 200)) (hn : n ≤ 200) (hR : RF sh) (hf : 13 < (sh.1 P).1) : CT l g yJ7_copyOf_59c91 cJ7_copyOf_59c91 3 (some (.array .int)) (RM 2 1 n) [.ref (sh.2.2 E), .int (nI n)] sh N (QR g (fun r sh1 N1 => r = some P ∧ CPI sh N E P n sh1 N1)) := by
  refine ent hg (by decide +kernel) (Nat.le_of_ble_eq_true rfl) ?_
  intro p e s m args below meth c C hname
  have hne : ¬ E = P := fun z => by rw [← z, hE] at hf; exact absurd hf (by simp)
  refine j_iload_n C dJ7_copyOf_59c91_0 rfl ?_
  refine j_aload_n C dJ7_copyOf_59c91_1 rfl ?_
  refine j_alen C hE (by decide) dJ7_copyOf_59c91_2 ?_
  refine j_icmp_ne (tgt := 14) C dJ7_copyOf_59c91_3 (by decide) (fun h3 => ?_) (fun h3 => ?_)
  · refine j_iload_n C dJ7_copyOf_59c91_14 rfl ?_
    refine j_newa_int (i := P) (n := n) C rfl (by omega) (Nat.lt_trans (by decide) hf) (hR.no hf) (Nat.le_of_ble_eq_true rfl) (by show 0 + n ≤ n; omega) dJ7_copyOf_59c91_15 (fun q => ?_)
    obtain ⟨sh1, e1⟩ : ∃ sh1, sh1 = shNew sh P (9, n) q := ⟨_, rfl⟩
    obtain ⟨N1, e2⟩ : ∃ N1, N1 = nNew N P := ⟨_, rfl⟩
    have hq : q = sh1.2.2 P := by rw [e1]; exact (up_eq _ _ _).symm
    have a1 : ∀ a, ¬ a = P → sh1.1 a = sh.1 a ∧ sh1.2.1 a = sh.2.1 a ∧ sh1.2.2 a = sh.2.2 a ∧ N1 a = N a := fun a ha => by rw [e1, e2]; exact ⟨up_ne ha, up_ne ha, up_ne ha, up_ne ha⟩
    have a2 : sh1.1 P = (9, n) := by rw [e1]; exact up_eq _ _ _
    have hR1 : RF sh1 := by rw [e1]; exact hR.new (show 9 ≤ 13 by decide)
    have hE1 : sh1.1 E = (9, 200) := (a1 E hne).1.trans hE
    rw [← e1, ← e2, hq, ← (a1 E hne).2.2.1, show (0 : Nat) + n = n from Nat.zero_add _]
    refine j_astore_n C dJ7_copyOf_59c91_17 (by decide) rfl ?_
    refine j_aload_n C dJ7_copyOf_59c91_18 rfl ?_
    refine j_iconst C dJ7_copyOf_59c91_19 (v := 0) (by decide) ?_
    refine j_aload_n C dJ7_copyOf_59c91_20 rfl ?_
    refine j_iconst C dJ7_copyOf_59c91_21 (v := 0) (by decide) ?_
    refine j_aload_n C dJ7_copyOf_59c91_22 rfl ?_
    refine j_alen C hE1 (by decide) dJ7_copyOf_59c91_23 ?_
    refine j_iload_n C dJ7_copyOf_59c91_24 rfl ?_
    refine j_callS2I C ml_J7_304 dJ7_copyOf_59c91_25 (cJ_min hg _ _) ⟨Nat.le_of_ble_eq_true rfl, Nat.le_of_ble_eq_true rfl⟩ (Nat.le_of_ble_eq_true rfl) ⟨rfl, rfl⟩ ⟨Nat.le_of_ble_eq_true rfl, Nat.le_refl _⟩ ?_
    rw [show (if nI n < nI 200 then nI n else nI 200) = nI n by
      by_cases z : n < 200
      · rw [if_pos ((n_nlt (by omega) (by decide)).mpr z)]
      · rw [if_neg (fun y => z ((n_nlt (by omega) (by decide)).mp y)), show n = 200 by omega]]
    refine j_copyi (i0 := E) (i1 := P) (n0 := 200) (n1 := n) (s0 := 0) (d0 := 0) (k := n) C tb_acL tb_acN tb_acS tb_sysI hE1 a2 (by omega) (by omega) (by omega) (by omega) (Nat.le_of_ble_eq_true rfl) (Nat.le_of_ble_eq_true rfl) dJ7_copyOf_59c91_28 ?_
    refine j_aload_n C dJ7_copyOf_59c91_31 rfl ?_
    refine j_aret (i := P) C dJ7_copyOf_59c91_32 (Or.inr ⟨_, rfl⟩) ⟨rfl, a2, fun j hj => ?_, hR1, fun a ha => ⟨(a1 a ha).1, (a1 a ha).2.1, (a1 a ha).2.2.1, (up_ne ha).trans (a1 a ha).2.2.2⟩⟩
    rw [up_eq, va_cpy, if_pos ⟨Nat.zero_le _, by omega⟩, (a1 E hne).2.2.2, show 0 + (j - 0) = j by omega]
  · have hn2 : n = 200 := nI_inj (by omega) (by decide) (Decidable.not_not.mp h3)
    subst hn2
    refine j_aload_n C dJ7_copyOf_59c91_6 rfl ?_
    refine j_clone (i0 := E) (i := P) (n := 200) C tb_cnL tb_cnM tb_cnN tb_cnI tb_cnS (hX2 _ _ C.2.2.2.2.2.1.2.1) hE (Nat.lt_trans (by decide) hf) (hR.no hf) (Nat.le_of_ble_eq_true rfl) (Nat.le_of_ble_eq_true rfl) (Nat.le_of_ble_eq_true rfl) (Nat.le_of_ble_eq_true rfl) dJ7_copyOf_59c91_7 (fun q => ?_)
    obtain ⟨sh1, e1⟩ : ∃ sh1, sh1 = shNew sh P (9, 200) q := ⟨_, rfl⟩
    have hq : q = sh1.2.2 P := by rw [e1]; exact (up_eq _ _ _).symm
    have a1 : ∀ a, ¬ a = P → sh1.1 a = sh.1 a ∧ sh1.2.1 a = sh.2.1 a ∧ sh1.2.2 a = sh.2.2 a := fun a ha => by rw [e1]; exact ⟨up_ne ha, up_ne ha, up_ne ha⟩
    have a2 : sh1.1 P = (9, 200) := by rw [e1]; exact up_eq _ _ _
    have hR1 : RF sh1 := by rw [e1]; exact hR.new (by decide)
    rw [← e1, hq]
    refine j_castI C tb_clI a2 dJ7_copyOf_59c91_10 ?_
    exact j_aret (i := P) C dJ7_copyOf_59c91_13 (Or.inr ⟨_, rfl⟩) ⟨rfl, a2, fun j hj => by rw [up_eq], hR1, fun a ha => ⟨(a1 a ha).1, (a1 a ha).2.1, (a1 a ha).2.2, up_ne ha⟩⟩

theorem cX_stepsRead {l : Launch} {g : WGp} (hg : GOK g) {sh : WSh} {N : WNm} (hX2 : HX2 g) {R Z Y S P n : Nat} (RS : RSh sh R Z Y S) (hL : N R 6 = nI n) (hn : n ≤ 200) (hR : RF sh) (hf : 13 < (sh.1 P).1) : CT l g yX2_stepsRead cX2_stepsRead 1 (some (.array .int)) (RM 3 1 n) [.ref (sh.2.2 R)] sh N (QR g (fun r sh1 N1 => r = some P ∧ CPI sh N S P n sh1 N1)) := by
  refine ent hg (by decide +kernel) (Nat.le_of_ble_eq_true rfl) ?_
  intro p e s m args below meth c C hname
  refine j_aload_n C dX2_stepsRead_0 rfl ?_
  refine j_getR (j := S) C fl_X2_18 dX2_stepsRead_1 RS.r rfl RS.s ?_
  refine j_aload_n C dX2_stepsRead_4 rfl ?_
  refine j_getI C fl_X2_26 dX2_stepsRead_5 RS.r rfl ?_
  rw [hL]
  refine j_callS2Rg C ml_X2_42 dX2_stepsRead_8 (cJ_copyI hg hX2 (P := P) RS.sa hn hR hf) ⟨Nat.le_of_ble_eq_true rfl, Nat.le_of_ble_eq_true rfl⟩ (Nat.le_of_ble_eq_true rfl) ⟨rfl, Nat.zero_add _⟩ ⟨Nat.le_of_ble_eq_true rfl, Nat.le_refl _⟩ (fun r sh1 N1 hq => ?_)
  obtain ⟨e1, hq⟩ := hq
  subst e1
  exact j_aret (i := P) C dX2_stepsRead_11 (Or.inr ⟨_, rfl⟩) ⟨rfl, hq⟩

theorem cX_voteInit {l : Launch} {g : WGp} (hg : GOK g) {sh : WSh} {N : WNm} {V P : Nat} (hV : (sh.1 V).1 = 5) (hP : (sh.1 P).1 ≤ 12) (k td : Int32) : CT l g yX5_init cX5_init 4 none (RM 1 0 0) [.ref (sh.2.2 V), .int k, .int td, .ref (sh.2.2 P)] sh N (QV g (fun sh1 N1 => sh1 = (sh.1, u2 sh.2.1 V 2 (some P), sh.2.2) ∧ N1 = u2 (u2 N V 0 k) V 1 td)) := by
  refine ent hg (by decide +kernel) (Nat.le_of_ble_eq_true rfl) ?_
  intro p e s m args below meth c C hname
  refine j_aload_n C dX5_init_0 rfl ?_
  refine j_objInit C ob_X5_1 dX5_init_1 (Nat.le_of_ble_eq_true rfl) (Nat.le_of_ble_eq_true rfl) ?_
  refine j_aload_n C dX5_init_4 rfl ?_
  refine j_iload_n C dX5_init_5 rfl ?_
  refine j_putIf C hname fl_X5_7 dX5_init_6 (hV) rfl ⟨rfl, rfl⟩ rfl rfl ?_
  refine j_aload_n C dX5_init_9 rfl ?_
  refine j_iload_n C dX5_init_10 rfl ?_
  refine j_putIf C hname fl_X5_13 dX5_init_11 (hV) rfl ⟨rfl, rfl⟩ rfl rfl ?_
  refine j_aload_n C dX5_init_14 rfl ?_
  refine j_aload_n C dX5_init_15 rfl ?_
  refine j_putRf (j := P) (i := V) C hname fl_X5_16 dX5_init_16 hV rfl ⟨rfl, rfl⟩ rfl rfl ?_
  exact j_vret C dX5_init_19 ⟨rfl, rfl⟩
