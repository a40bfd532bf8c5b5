/-! ===== THE CLASS: its constructor ===== -/
/-- the numbers that belong to the K-th thing that the constructor makes -/
def iNum : Nat → List Nat
  | 0 => [101] | 1 => [102] | 2 => [103] | 3 => [104] | 4 => [105] | 5 => [106] | 6 => [107] | 7 => [109, 111, 112, 113] | 8 => [110, 114, 115] | _ => [108]
def iFld : Nat → Nat
  | 0 => 0 | 1 => 3 | 2 => 4 | 3 => 6 | 4 => 7 | 5 => 8 | 6 => 9 | 7 => 10 | 8 => 11 | _ => 12
def ARR (i n : Nat) (sh : WSh) (N : WNm) : Prop := sh.1 i = (9, n) ∧ N i = fun _ => 0
def LSI (L b : Nat) (sh : WSh) (N : WNm) : Prop := (sh.1 L).1 = 8 ∧ sh.2.1 L 1 = some b ∧ N L 2 = 0
def ITM : Nat → WSh → WNm → Prop
  | 0, sh, N => ARR 101 10 sh N
  | 1, sh, N => ARR 102 12 sh N
  | 2, sh, N => ARR 103 12 sh N
  | 3, sh, N => ARR 104 30 sh N
  | 4, sh, N => LSI 105 420 sh N
  | 5, sh, N => LSI 106 440 sh N
  | 6, sh, N => LSI 107 460 sh N
  | 7, sh, N => RSh sh 109 111 112 113 ∧ N 111 = fun _ => 0
  | 8, sh, _ => (sh.1 110).1 = 4 ∧ sh.2.1 110 0 = some 114 ∧ sh.2.1 110 1 = some 115 ∧ sh.1 114 = (9, 13) ∧ sh.1 115 = (9, 200)
  | _, sh, N => LSI 108 480 sh N
theorem ARR.keep {i n : Nat} {sh sh1 : WSh} {N N1 : WNm} (h : ARR i n sh N) (e : sh1.1 i = sh.1 i ∧ sh1.2.1 i = sh.2.1 i ∧ N1 i = N i) : ARR i n sh1 N1 := by
  unfold ARR; rw [e.1, e.2.2]; exact h
theorem LSI.keep {L b : Nat} {sh sh1 : WSh} {N N1 : WNm} (h : LSI L b sh N) (e : sh1.1 L = sh.1 L ∧ sh1.2.1 L = sh.2.1 L ∧ N1 L = N L) : LSI L b sh1 N1 := by
  unfold LSI; rw [e.1, e.2.1, e.2.2]; exact h
theorem ITM.keep {sh sh1 : WSh} {N N1 : WNm} : ∀ k, ITM k sh N → (∀ i ∈ iNum k, sh1.1 i = sh.1 i ∧ sh1.2.1 i = sh.2.1 i ∧ N1 i = N i) → ITM k sh1 N1
  | 0, h, e => ARR.keep h (e 101 (by decide))
  | 1, h, e => ARR.keep h (e 102 (by decide))
  | 2, h, e => ARR.keep h (e 103 (by decide))
  | 3, h, e => ARR.keep h (e 104 (by decide))
  | 4, h, e => LSI.keep h (e 105 (by decide))
  | 5, h, e => LSI.keep h (e 106 (by decide))
  | 6, h, e => LSI.keep h (e 107 (by decide))
  | 7, h, e => by
    have a := e 109 (by decide)
    have b := e 111 (by decide)
    have c := e 112 (by decide)
    have d := e 113 (by decide)
    show RSh sh1 109 111 112 113 ∧ N1 111 = fun _ => 0
    unfold RSh
    rw [a.1, a.2.1, b.1, b.2.1, c.1, d.1, b.2.2]
    exact h
  | 8, h, e => by
    have a := e 110 (by decide)
    have b := e 114 (by decide)
    have c := e 115 (by decide)
    show (sh1.1 110).1 = 4 ∧ sh1.2.1 110 0 = some 114 ∧ sh1.2.1 110 1 = some 115 ∧ sh1.1 114 = (9, 13) ∧ sh1.1 115 = (9, 200)
    rw [a.1, a.2.1, b.1, c.1]
    exact h
  | k + 9, h, e => LSI.keep (L := 108) (b := 480) h (e 108 (by show 108 ∈ [108]; decide))
/-- while the constructor runs: the first K things stand, the rest is still free -/
def PX (sh0 : WSh) (N0 : WNm) (h0 K : Nat) (sh : WSh) (N : WNm) : Prop :=
  ((sh.1 100).1 = 6 ∧ sh.2.2 100 = h0 ∧ N 100 = fun _ => 0) ∧ (∀ k, k < K → ITM k sh N ∧ sh.2.1 100 (iFld k) = some ((iNum k).headD 0)) ∧ (∀ k, K ≤ k → k < 10 → ∀ i ∈ iNum k, 13 < (sh.1 i).1) ∧ (∀ i, ¬ (100 ≤ i ∧ i ≤ 115) → sh.1 i = sh0.1 i ∧ sh.2.1 i = sh0.2.1 i ∧ sh.2.2 i = sh0.2.2 i ∧ N i = N0 i) ∧ RF sh
theorem iNum_in : ∀ k, k < 10 → ∀ i ∈ iNum k, 101 ≤ i ∧ i ≤ 115 := by decide
theorem iNum_dis' : ∀ k, k < 10 → ∀ j, j < 10 → ∀ i ∈ iNum k, i ∈ iNum j → k = j := by decide
theorem iNum_dis (k : Nat) (hk : k < 10) (j : Nat) (hj : j < 10) (h : ¬ k = j) (i : Nat) (hi : i ∈ iNum k) : ¬ i ∈ iNum j := fun z => h (iNum_dis' k hk j hj i hi z)
theorem iFld_dis : ∀ k, k < 10 → ∀ j, j < 10 → ¬ k = j → ¬ iFld k = iFld j := by decide
theorem PX.step {sh0 : WSh} {N0 : WNm} {h0 K : Nat} {sh sh1 : WSh} {N N1 : WNm} (h : PX sh0 N0 h0 K sh N) (hK : K < 10) (f : SAME sh N sh1 N1 (fun i => i ∈ iNum K)) (hi : ITM K sh1 N1) (hk : (sh1.1 ((iNum K).headD 0)).1 ≤ 13) (hR : RF sh1) : PX sh0 N0 h0 (K + 1) (sh1.1, u2 sh1.2.1 100 (iFld K) (some ((iNum K).headD 0)), sh1.2.2) N1 := by
  obtain ⟨⟨a1, a2, a3⟩, b, c, d, -⟩ := h
  have f100 := f 100 (fun z => by have := iNum_in K hK 100 z; omega)
  refine ⟨⟨by show (sh1.1 100).1 = 6; rw [f100.1]; exact a1, by show sh1.2.2 100 = h0; rw [f100.2.2.1]; exact a2, by rw [f100.2.2.2]; exact a3⟩, fun k hk' => ?_, fun k h1 h2 i hi' => ?_, fun i hi' => ?_, hR.put hk⟩
  · by_cases e : k = K
    · subst e
      refine ⟨ITM.keep k hi (fun i hi' => ⟨rfl, ?_, rfl⟩), u2_eq _ _ _ _⟩
      have := iNum_in k hK i hi'
      exact u2_row (by omega)
    · refine ⟨ITM.keep k (b k (by omega)).1 (fun i hi' => ?_), ?_⟩
      · have z := f i (iNum_dis k (by omega) K hK e i hi')
        have := iNum_in k (by omega) i hi'
        exact ⟨z.1, (u2_row (by omega)).trans z.2.1, z.2.2.2⟩
      · show u2 sh1.2.1 100 (iFld K) (some ((iNum K).headD 0)) 100 (iFld k) = _
        rw [u2_ne (fun z => iFld_dis k (by omega) K hK e z.2), f100.2.1]
        exact (b k (by omega)).2
  · show 13 < (sh1.1 i).1
    rw [(f i (iNum_dis k h2 K hK (by omega) i hi')).1]
    exact c k (by omega) h2 i hi'
  · have z := f i (fun z => by have := iNum_in K hK i z; omega)
    have y := d i hi'
    exact ⟨z.1.trans y.1, (u2_row (by omega)).trans (z.2.1.trans y.2.1), z.2.2.1.trans y.2.2.1, z.2.2.2.trans y.2.2.2⟩
theorem SAME.new (sh : WSh) (N : WNm) {i q : Nat} {tl : Nat × Nat} {P : Nat → Prop} (hP : P i) : SAME sh N (shNew sh i tl q) (nNew N i) P := fun j hj => by
  have h : ¬ j = i := fun z => hj (by rw [z]; exact hP)
  exact ⟨up_ne h, up_ne h, up_ne h, up_ne h⟩
theorem ARR.new (sh : WSh) (N : WNm) (i n q : Nat) : ARR i n (shNew sh i (9, n) q) (nNew N i) := by
  refine ⟨?_, ?_⟩
  · exact up_eq _ _ _
  · exact up_eq _ _ _
section Rows
variable {p : Program} {l : Launch} {e : Env} {R : Room} {s : State} {m : MethodId} {args : Array Value} {below : List Frame} {meth : Method} {c : Code} {Q : State → Prop} {g : WGp} {nL : Nat} {own : String} {cc : ByteArray} {ret : Option FieldType}
variable {sh : WSh} {N : WNm} {cells slots pc : Nat} {lv : List (Option Value)} {st : List Value}
/-- the K-th thing stands, and is put into its field -/
theorem x_put (C : Cx p s m args meth c g nL RX6 cc ret) (hname : meth.name = "<init>") {sh0 : WSh} {N0 : WNm} {h0 K idx qa : Nat} {sh1 : WSh} {N1 : WNm} (h : PX sh0 N0 h0 K sh N) (hK : K < 10) (f : SAME sh N sh1 N1 (fun i => i ∈ iNum K)) (hi : ITM K sh1 N1) (hk : (sh1.1 ((iNum K).headD 0)).1 ≤ 13) (hR : RF sh1) (hqa : qa = sh1.2.2 ((iNum K).headD 0)) (hf : FL RX6 idx 6 (iFld K)) (hd : decode cc pc = .ok (.putfield idx, 3)) (hI : isI 6 (iFld K) = false) (hfin : (TT 6 (iFld K)).1 = RX6 ∧ (TT 6 (iFld K)).2.2.2 = true) (hn : narrow (tyT 6 (iFld K)) (.ref qa) = .ref qa) (hfit : fits (tyT 6 (iFld K)) (.ref qa) = true) (kk : ∀ sh2 : WSh, PX sh0 N0 h0 (K + 1) sh2 N1 → J p l e R s m args below meth c Q g nL sh2 N1 cells slots (pc + 3) lv st) : J p l e R s m args below meth c Q g nL sh1 N1 cells slots pc lv (.ref qa :: .ref h0 :: st) := by
  have h2 := h.step hK f hi hk hR
  have e0 : h0 = sh1.2.2 100 := h2.1.2.1.symm
  have c0 : (sh1.1 100).1 = 6 := h2.1.1
  have kk2 := kk _ h2
  subst hqa
  revert kk2
  clear kk h2 h
  intro kk2
  rw [e0]
  exact j_putRf (j := (iNum K).headD 0) (i := 100) C hname hf hd c0 hI hfin hn hfit kk2
end Rows

theorem cX_init {l : Launch} {g : WGp} (hg : GOK g) {sh : WSh} {N : WNm} {o : Nat → Nat} (hX : HX g o) (hX3 : HX3 g) {sh0 : WSh} {N0 : WNm} {h0 : Nat} (hb : ∀ b, b = 420 ∨ b = 440 ∨ b = 460 ∨ b = 480 → (sh0.1 b).1 ≤ 13 ∧ sh0.2.2 b = o 2) (h : PX sh0 N0 h0 0 sh N) : CT l g yX6_init cX6_init 1 none (RM 4 15 700) [.ref h0] sh N (QV g (fun sh1 N1 => PX sh0 N0 h0 10 sh1 N1)) := by
  refine ent hg (by decide +kernel) (Nat.le_of_ble_eq_true rfl) ?_
  intro p e s m args below meth c C hname
  refine j_aload_n C dX6_init_0 rfl ?_
  refine j_objInit C ob_X6_1 dX6_init_1 (Nat.le_of_ble_eq_true rfl) (Nat.le_of_ble_eq_true rfl) ?_
  refine j_aload_n C dX6_init_4 rfl ?_
  refine j_bipush C dX6_init_5 (v := 10) (by decide) ?_
  have hf0 := h.2.2.1 0 (by decide) (by decide) 101 (by decide)
  refine j_newa_int (i := 101) (n := 10) C rfl (by decide) (Nat.lt_trans (by decide) hf0) (h.2.2.2.2.no hf0) (Nat.le_of_ble_eq_true rfl) (Nat.le_of_ble_eq_true rfl) dX6_init_7 (fun q => ?_)
  refine x_put C hname (K := 0) h (by decide) (SAME.new sh N (by decide)) (ARR.new sh N 101 10 q) (by show (va_up sh.1 101 (9, 10) 101).1 ≤ 13; rw [up_eq]; exact (by decide : 9 ≤ 13)) (h.2.2.2.2.new (by decide)) (show q = va_up sh.2.2 101 q 101 from (up_eq _ _ _).symm) fl_X6_9 dX6_init_9 rfl ⟨rfl, rfl⟩ rfl rfl (fun sh_1 h_1 => ?_)
  obtain ⟨N_1, eN⟩ : ∃ N_1, N_1 = nNew N 101 := ⟨_, rfl⟩
  rw [← eN] at h_1 ⊢
  clear eN hf0 h
  refine j_aload_n C dX6_init_12 rfl ?_
  refine j_bipush C dX6_init_13 (v := 12) (by decide) ?_
  have hf1 := h_1.2.2.1 1 (by decide) (by decide) 102 (by decide)
  refine j_newa_int (i := 102) (n := 12) C rfl (by decide) (Nat.lt_trans (by decide) hf1) (h_1.2.2.2.2.no hf1) (Nat.le_of_ble_eq_true rfl) (Nat.le_of_ble_eq_true rfl) dX6_init_15 (fun q => ?_)
  refine x_put C hname (K := 1) h_1 (by decide) (SAME.new sh_1 N_1 (by decide)) (ARR.new sh_1 N_1 102 12 q) (by show (va_up sh_1.1 102 (9, 12) 102).1 ≤ 13; rw [up_eq]; exact (by decide : 9 ≤ 13)) (h_1.2.2.2.2.new (by decide)) (show q = va_up sh_1.2.2 102 q 102 from (up_eq _ _ _).symm) fl_X6_13 dX6_init_17 rfl ⟨rfl, rfl⟩ rfl rfl (fun sh_2 h_2 => ?_)
  obtain ⟨N_2, eN⟩ : ∃ N_2, N_2 = nNew N_1 102 := ⟨_, rfl⟩
  rw [← eN] at h_2 ⊢
  clear eN hf1 h_1
  refine j_aload_n C dX6_init_20 rfl ?_
  refine j_bipush C dX6_init_21 (v := 12) (by decide) ?_
  have hf2 := h_2.2.2.1 2 (by decide) (by decide) 103 (by decide)
  refine j_newa_int (i := 103) (n := 12) C rfl (by decide) (Nat.lt_trans (by decide) hf2) (h_2.2.2.2.2.no hf2) (Nat.le_of_ble_eq_true rfl) (Nat.le_of_ble_eq_true rfl) dX6_init_23 (fun q => ?_)
  refine x_put C hname (K := 2) h_2 (by decide) (SAME.new sh_2 N_2 (by decide)) (ARR.new sh_2 N_2 103 12 q) (by show (va_up sh_2.1 103 (9, 12) 103).1 ≤ 13; rw [up_eq]; exact (by decide : 9 ≤ 13)) (h_2.2.2.2.2.new (by decide)) (show q = va_up sh_2.2.2 103 q 103 from (up_eq _ _ _).symm) fl_X6_16 dX6_init_25 rfl ⟨rfl, rfl⟩ rfl rfl (fun sh_3 h_3 => ?_)
  obtain ⟨N_3, eN⟩ : ∃ N_3, N_3 = nNew N_2 103 := ⟨_, rfl⟩
  rw [← eN] at h_3 ⊢
  clear eN hf2 h_2
  refine j_aload_n C dX6_init_28 rfl ?_
  refine j_bipush C dX6_init_29 (v := 30) (by decide) ?_
  have hf3 := h_3.2.2.1 3 (by decide) (by decide) 104 (by decide)
  refine j_newa_int (i := 104) (n := 30) C rfl (by decide) (Nat.lt_trans (by decide) hf3) (h_3.2.2.2.2.no hf3) (Nat.le_of_ble_eq_true rfl) (Nat.le_of_ble_eq_true rfl) dX6_init_31 (fun q => ?_)
  refine x_put C hname (K := 3) h_3 (by decide) (SAME.new sh_3 N_3 (by decide)) (ARR.new sh_3 N_3 104 30 q) (by show (va_up sh_3.1 104 (9, 30) 104).1 ≤ 13; rw [up_eq]; exact (by decide : 9 ≤ 13)) (h_3.2.2.2.2.new (by decide)) (show q = va_up sh_3.2.2 104 q 104 from (up_eq _ _ _).symm) fl_X6_19 dX6_init_33 rfl ⟨rfl, rfl⟩ rfl rfl (fun sh_4 h_4 => ?_)
  obtain ⟨N_4, eN⟩ : ∃ N_4, N_4 = nNew N_3 104 := ⟨_, rfl⟩
  rw [← eN] at h_4 ⊢
  clear eN hf3 h_3
  refine j_aload_n C dX6_init_36 rfl ?_
  have hf4 := h_4.2.2.1 4 (by decide) (by decide) 105 (by decide)
  refine j_new (i := 105) C nl_X6_22 (Nat.lt_trans (by decide) hf4) (h_4.2.2.2.2.no hf4) (Nat.le_of_ble_eq_true rfl) (Nat.le_of_ble_eq_true rfl) dX6_init_37 (fun q => ?_)
  obtain ⟨t1, e1⟩ : ∃ t1, t1 = shNew sh_4 105 (8, 0) q := ⟨_, rfl⟩
  obtain ⟨U1, e2⟩ : ∃ U1, U1 = nNew N_4 105 := ⟨_, rfl⟩
  have hq : q = t1.2.2 105 := by rw [e1]; exact (show q = va_up sh_4.2.2 105 q 105 from (up_eq _ _ _).symm)
  have f1 : ∀ j, ¬ j = 105 → t1.1 j = sh_4.1 j ∧ t1.2.1 j = sh_4.2.1 j ∧ t1.2.2 j = sh_4.2.2 j ∧ U1 j = N_4 j := fun j hi => by rw [e1, e2]; exact ⟨up_ne hi, up_ne hi, up_ne hi, up_ne hi⟩
  have hc1 : (t1.1 105).1 = 8 := by rw [e1]; show (va_up sh_4.1 105 (8, 0) 105).1 = 8; rw [up_eq]
  have hR1 : RF t1 := by rw [e1]; exact h_4.2.2.2.2.new (by decide)
  have hz1 : U1 105 = fun _ => 0 := by rw [e2]; exact up_eq _ _ _
  rw [← e1, ← e2, hq]
  clear e1 e2 hq
  refine j_dup C dX6_init_40 rfl ?_
  have hb4 := hb 420 (by decide)
  have hf4b := h_4.2.2.2.1 420 (by decide)
  refine j_callI0Vg C ml_X6_24 dX6_init_41 (cJ_listInit hg hX (L := 105) (b := 420) hc1 (by rw [(f1 420 (by decide)).2.2.1, hf4b.2.2.1]; exact hb4.2)) ⟨Nat.le_of_ble_eq_true rfl, Nat.le_of_ble_eq_true rfl⟩ (Nat.le_of_ble_eq_true rfl) ⟨rfl, rfl⟩ ⟨Nat.le_of_ble_eq_true rfl, Nat.le_of_ble_eq_true rfl⟩ (fun t2 U2 hq => ?_)
  obtain ⟨e3, e4⟩ := hq
  have w1 : SAME sh_4 N_4 t2 U2 (fun j => j ∈ iNum 4) := fun j hj => by
    have hj' : ¬ j = 105 := fun z => hj (by rw [z]; decide)
    have z := f1 j hj'
    rw [e3, e4]
    exact ⟨z.1, (u2_row hj').trans z.2.1, z.2.2.1, (u2_row hj').trans z.2.2.2⟩
  have w2 : LSI 105 420 t2 U2 := by
    rw [e3, e4]
    exact ⟨hc1, (show u2 t1.2.1 105 1 (some 420) 105 1 = some 420 from u2_eq _ _ _ _), by rw [u2_ne (by decide), hz1]⟩
  have w3 : RF t2 := by rw [e3]; exact hR1.put (by rw [(f1 420 (by decide)).1, hf4b.1]; exact hb4.1)
  have w4 : t1.2.2 105 = t2.2.2 105 := by rw [e3]
  clear e3 e4 hR1
  refine x_put C hname (K := 4) h_4 (by decide) w1 w2 (by show (t2.1 105).1 ≤ 13; rw [w2.1]; decide) w3 w4 fl_X6_25 dX6_init_44 rfl ⟨rfl, rfl⟩ rfl rfl (fun sh_5 h_5 => ?_)
  revert h_5
  generalize U2 = N_5
  intro h_5
  clear w1 w2 w3 w4 hz1 hc1 f1 hf4 hf4b hb4 h_4
  refine j_aload_n C dX6_init_47 rfl ?_
  have hf5 := h_5.2.2.1 5 (by decide) (by decide) 106 (by decide)
  refine j_new (i := 106) C nl_X6_22 (Nat.lt_trans (by decide) hf5) (h_5.2.2.2.2.no hf5) (Nat.le_of_ble_eq_true rfl) (Nat.le_of_ble_eq_true rfl) dX6_init_48 (fun q => ?_)
  obtain ⟨t1, e1⟩ : ∃ t1, t1 = shNew sh_5 106 (8, 0) q := ⟨_, rfl⟩
  obtain ⟨U1, e2⟩ : ∃ U1, U1 = nNew N_5 106 := ⟨_, rfl⟩
  have hq : q = t1.2.2 106 := by rw [e1]; exact (show q = va_up sh_5.2.2 106 q 106 from (up_eq _ _ _).symm)
  have f1 : ∀ j, ¬ j = 106 → t1.1 j = sh_5.1 j ∧ t1.2.1 j = sh_5.2.1 j ∧ t1.2.2 j = sh_5.2.2 j ∧ U1 j = N_5 j := fun j hi => by rw [e1, e2]; exact ⟨up_ne hi, up_ne hi, up_ne hi, up_ne hi⟩
  have hc1 : (t1.1 106).1 = 8 := by rw [e1]; show (va_up sh_5.1 106 (8, 0) 106).1 = 8; rw [up_eq]
  have hR1 : RF t1 := by rw [e1]; exact h_5.2.2.2.2.new (by decide)
  have hz1 : U1 106 = fun _ => 0 := by rw [e2]; exact up_eq _ _ _
  rw [← e1, ← e2, hq]
  clear e1 e2 hq
  refine j_dup C dX6_init_51 rfl ?_
  have hb5 := hb 440 (by decide)
  have hf5b := h_5.2.2.2.1 440 (by decide)
  refine j_callI0Vg C ml_X6_24 dX6_init_52 (cJ_listInit hg hX (L := 106) (b := 440) hc1 (by rw [(f1 440 (by decide)).2.2.1, hf5b.2.2.1]; exact hb5.2)) ⟨Nat.le_of_ble_eq_true rfl, Nat.le_of_ble_eq_true rfl⟩ (Nat.le_of_ble_eq_true rfl) ⟨rfl, rfl⟩ ⟨Nat.le_of_ble_eq_true rfl, Nat.le_of_ble_eq_true rfl⟩ (fun t2 U2 hq => ?_)
  obtain ⟨e3, e4⟩ := hq
  have w1 : SAME sh_5 N_5 t2 U2 (fun j => j ∈ iNum 5) := fun j hj => by
    have hj' : ¬ j = 106 := fun z => hj (by rw [z]; decide)
    have z := f1 j hj'
    rw [e3, e4]
    exact ⟨z.1, (u2_row hj').trans z.2.1, z.2.2.1, (u2_row hj').trans z.2.2.2⟩
  have w2 : LSI 106 440 t2 U2 := by
    rw [e3, e4]
    exact ⟨hc1, (show u2 t1.2.1 106 1 (some 440) 106 1 = some 440 from u2_eq _ _ _ _), by rw [u2_ne (by decide), hz1]⟩
  have w3 : RF t2 := by rw [e3]; exact hR1.put (by rw [(f1 440 (by decide)).1, hf5b.1]; exact hb5.1)
  have w4 : t1.2.2 106 = t2.2.2 106 := by rw [e3]
  clear e3 e4 hR1
  refine x_put C hname (K := 5) h_5 (by decide) w1 w2 (by show (t2.1 106).1 ≤ 13; rw [w2.1]; decide) w3 w4 fl_X6_29 dX6_init_55 rfl ⟨rfl, rfl⟩ rfl rfl (fun sh_6 h_6 => ?_)
  revert h_6
  generalize U2 = N_6
  intro h_6
  clear w1 w2 w3 w4 hz1 hc1 f1 hf5 hf5b hb5 h_5
  refine j_aload_n C dX6_init_58 rfl ?_
  have hf6 := h_6.2.2.1 6 (by decide) (by decide) 107 (by decide)
  refine j_new (i := 107) C nl_X6_22 (Nat.lt_trans (by decide) hf6) (h_6.2.2.2.2.no hf6) (Nat.le_of_ble_eq_true rfl) (Nat.le_of_ble_eq_true rfl) dX6_init_59 (fun q => ?_)
  obtain ⟨t1, e1⟩ : ∃ t1, t1 = shNew sh_6 107 (8, 0) q := ⟨_, rfl⟩
  obtain ⟨U1, e2⟩ : ∃ U1, U1 = nNew N_6 107 := ⟨_, rfl⟩
  have hq : q = t1.2.2 107 := by rw [e1]; exact (show q = va_up sh_6.2.2 107 q 107 from (up_eq _ _ _).symm)
  have f1 : ∀ j, ¬ j = 107 → t1.1 j = sh_6.1 j ∧ t1.2.1 j = sh_6.2.1 j ∧ t1.2.2 j = sh_6.2.2 j ∧ U1 j = N_6 j := fun j hi => by rw [e1, e2]; exact ⟨up_ne hi, up_ne hi, up_ne hi, up_ne hi⟩
  have hc1 : (t1.1 107).1 = 8 := by rw [e1]; show (va_up sh_6.1 107 (8, 0) 107).1 = 8; rw [up_eq]
  have hR1 : RF t1 := by rw [e1]; exact h_6.2.2.2.2.new (by decide)
  have hz1 : U1 107 = fun _ => 0 := by rw [e2]; exact up_eq _ _ _
  rw [← e1, ← e2, hq]
  clear e1 e2 hq
  refine j_dup C dX6_init_62 rfl ?_
  have hb6 := hb 460 (by decide)
  have hf6b := h_6.2.2.2.1 460 (by decide)
  refine j_callI0Vg C ml_X6_24 dX6_init_63 (cJ_listInit hg hX (L := 107) (b := 460) hc1 (by rw [(f1 460 (by decide)).2.2.1, hf6b.2.2.1]; exact hb6.2)) ⟨Nat.le_of_ble_eq_true rfl, Nat.le_of_ble_eq_true rfl⟩ (Nat.le_of_ble_eq_true rfl) ⟨rfl, rfl⟩ ⟨Nat.le_of_ble_eq_true rfl, Nat.le_of_ble_eq_true rfl⟩ (fun t2 U2 hq => ?_)
  obtain ⟨e3, e4⟩ := hq
  have w1 : SAME sh_6 N_6 t2 U2 (fun j => j ∈ iNum 6) := fun j hj => by
    have hj' : ¬ j = 107 := fun z => hj (by rw [z]; decide)
    have z := f1 j hj'
    rw [e3, e4]
    exact ⟨z.1, (u2_row hj').trans z.2.1, z.2.2.1, (u2_row hj').trans z.2.2.2⟩
  have w2 : LSI 107 460 t2 U2 := by
    rw [e3, e4]
    exact ⟨hc1, (show u2 t1.2.1 107 1 (some 460) 107 1 = some 460 from u2_eq _ _ _ _), by rw [u2_ne (by decide), hz1]⟩
  have w3 : RF t2 := by rw [e3]; exact hR1.put (by rw [(f1 460 (by decide)).1, hf6b.1]; exact hb6.1)
  have w4 : t1.2.2 107 = t2.2.2 107 := by rw [e3]
  clear e3 e4 hR1
  refine x_put C hname (K := 6) h_6 (by decide) w1 w2 (by show (t2.1 107).1 ≤ 13; rw [w2.1]; decide) w3 w4 fl_X6_32 dX6_init_66 rfl ⟨rfl, rfl⟩ rfl rfl (fun sh_7 h_7 => ?_)
  revert h_7
  generalize U2 = N_7
  intro h_7
  clear w1 w2 w3 w4 hz1 hc1 f1 hf6 hf6b hb6 h_6
  have hy111 := h_7.2.2.1 7 (by decide) (by decide) 111 (by decide)
  have hy112 := h_7.2.2.1 7 (by decide) (by decide) 112 (by decide)
  have hy113 := h_7.2.2.1 7 (by decide) (by decide) 113 (by decide)
  refine j_aload_n C dX6_init_69 rfl ?_
  have hf7 := h_7.2.2.1 7 (by decide) (by decide) 109 (by decide)
  refine j_new (i := 109) C nl_X6_35 (Nat.lt_trans (by decide) hf7) (h_7.2.2.2.2.no hf7) (Nat.le_of_ble_eq_true rfl) (Nat.le_of_ble_eq_true rfl) dX6_init_70 (fun q => ?_)
  obtain ⟨t1, e1⟩ : ∃ t1, t1 = shNew sh_7 109 (2, 0) q := ⟨_, rfl⟩
  obtain ⟨U1, e2⟩ : ∃ U1, U1 = nNew N_7 109 := ⟨_, rfl⟩
  have hq : q = t1.2.2 109 := by rw [e1]; exact (show q = va_up sh_7.2.2 109 q 109 from (up_eq _ _ _).symm)
  have f1 : ∀ j, ¬ j = 109 → t1.1 j = sh_7.1 j ∧ t1.2.1 j = sh_7.2.1 j ∧ t1.2.2 j = sh_7.2.2 j ∧ U1 j = N_7 j := fun j hi => by rw [e1, e2]; exact ⟨up_ne hi, up_ne hi, up_ne hi, up_ne hi⟩
  have hc1 : (t1.1 109).1 = 2 := by rw [e1]; show (va_up sh_7.1 109 (2, 0) 109).1 = 2; rw [up_eq]
  have hR1 : RF t1 := by rw [e1]; exact h_7.2.2.2.2.new (by decide)
  have hz1 : U1 109 = fun _ => 0 := by rw [e2]; exact up_eq _ _ _
  rw [← e1, ← e2, hq]
  clear e1 e2 hq
  refine j_dup C dX6_init_73 rfl ?_
  refine j_callIN0Vg C hX3.r dX6_init_74 (cX_readerInit hg hX3 (Z := 111) (Y := 112) (S := 113) hc1 (by decide) (by rw [(f1 111 (by decide)).1]; exact hy111) (by rw [(f1 112 (by decide)).1]; exact hy112) (by rw [(f1 113 (by decide)).1]; exact hy113) hR1) ⟨Nat.le_of_ble_eq_true rfl, Nat.le_of_ble_eq_true rfl⟩ (Nat.le_of_ble_eq_true rfl) ⟨rfl, rfl⟩ ⟨Nat.le_of_ble_eq_true rfl, Nat.le_of_ble_eq_true rfl⟩ (fun t2 U2 hq => ?_)
  obtain ⟨g1, ⟨g2, g3, g4⟩, g5, g6, w3⟩ := hq
  have w1 : SAME sh_7 N_7 t2 U2 (fun j => j ∈ iNum 7) := fun j hj => by
    have hj' : ¬ j = 109 ∧ ¬ j = 111 ∧ ¬ j = 112 ∧ ¬ j = 113 := ⟨fun z => hj (by rw [z]; decide), fun z => hj (by rw [z]; decide), fun z => hj (by rw [z]; decide), fun z => hj (by rw [z]; decide)⟩
    have z := f1 j hj'.1
    have y := g1 j (by omega)
    exact ⟨y.1.trans z.1, y.2.1.trans z.2.1, y.2.2.1.trans z.2.2.1, y.2.2.2.trans z.2.2.2⟩
  refine x_put C hname (K := 7) h_7 (by decide) w1 ⟨g5, g6⟩ (by show (t2.1 109).1 ≤ 13; rw [g2, hc1]; decide) w3 g3.symm fl_X6_38 dX6_init_77 rfl ⟨rfl, rfl⟩ rfl rfl (fun sh_8 h_8 => ?_)
  revert h_8
  generalize U2 = N_8
  intro h_8
  clear w1 w3 hz1 hc1 hR1 g1 g2 g3 g4 g5 f1 hf7 hy111 hy112 hy113 g6 h_7
  have hy114 := h_8.2.2.1 8 (by decide) (by decide) 114 (by decide)
  have hy115 := h_8.2.2.1 8 (by decide) (by decide) 115 (by decide)
  refine j_aload_n C dX6_init_80 rfl ?_
  have hf8 := h_8.2.2.1 8 (by decide) (by decide) 110 (by decide)
  refine j_new (i := 110) C nl_X6_42 (Nat.lt_trans (by decide) hf8) (h_8.2.2.2.2.no hf8) (Nat.le_of_ble_eq_true rfl) (Nat.le_of_ble_eq_true rfl) dX6_init_81 (fun q => ?_)
  obtain ⟨t1, e1⟩ : ∃ t1, t1 = shNew sh_8 110 (4, 0) q := ⟨_, rfl⟩
  obtain ⟨U1, e2⟩ : ∃ U1, U1 = nNew N_8 110 := ⟨_, rfl⟩
  have hq : q = t1.2.2 110 := by rw [e1]; exact (show q = va_up sh_8.2.2 110 q 110 from (up_eq _ _ _).symm)
  have f1 : ∀ j, ¬ j = 110 → t1.1 j = sh_8.1 j ∧ t1.2.1 j = sh_8.2.1 j ∧ t1.2.2 j = sh_8.2.2 j ∧ U1 j = N_8 j := fun j hi => by rw [e1, e2]; exact ⟨up_ne hi, up_ne hi, up_ne hi, up_ne hi⟩
  have hc1 : (t1.1 110).1 = 4 := by rw [e1]; show (va_up sh_8.1 110 (4, 0) 110).1 = 4; rw [up_eq]
  have hR1 : RF t1 := by rw [e1]; exact h_8.2.2.2.2.new (by decide)
  have hz1 : U1 110 = fun _ => 0 := by rw [e2]; exact up_eq _ _ _
  rw [← e1, ← e2, hq]
  clear e1 e2 hq
  refine j_dup C dX6_init_84 rfl ?_
  refine j_callIN0Vg C hX3.e dX6_init_85 (cX_tellerInit hg (V := 114) (P := 115) hc1 (by decide) (by rw [(f1 114 (by decide)).1]; exact hy114) (by rw [(f1 115 (by decide)).1]; exact hy115) hR1) ⟨Nat.le_of_ble_eq_true rfl, Nat.le_of_ble_eq_true rfl⟩ (Nat.le_of_ble_eq_true rfl) ⟨rfl, rfl⟩ ⟨Nat.le_of_ble_eq_true rfl, Nat.le_of_ble_eq_true rfl⟩ (fun t2 U2 hq => ?_)
  obtain ⟨g1, ⟨g2, g3, g4⟩, g5, w3⟩ := hq
  have w1 : SAME sh_8 N_8 t2 U2 (fun j => j ∈ iNum 8) := fun j hj => by
    have hj' : ¬ j = 110 ∧ ¬ j = 114 ∧ ¬ j = 115 := ⟨fun z => hj (by rw [z]; decide), fun z => hj (by rw [z]; decide), fun z => hj (by rw [z]; decide)⟩
    have z := f1 j hj'.1
    have y := g1 j (by omega)
    exact ⟨y.1.trans z.1, y.2.1.trans z.2.1, y.2.2.1.trans z.2.2.1, y.2.2.2.trans z.2.2.2⟩
  refine x_put C hname (K := 8) h_8 (by decide) w1 ⟨by rw [g2]; exact hc1, g5.1, g5.2.1, g5.2.2.1, g5.2.2.2⟩ (by show (t2.1 110).1 ≤ 13; rw [g2, hc1]; decide) w3 g3.symm fl_X6_45 dX6_init_88 rfl ⟨rfl, rfl⟩ rfl rfl (fun sh_9 h_9 => ?_)
  revert h_9
  generalize U2 = N_9
  intro h_9
  clear w1 w3 hz1 hc1 hR1 g1 g2 g3 g4 g5 f1 hf8 hy114 hy115 h_8
  refine j_aload_n C dX6_init_91 rfl ?_
  have hf9 := h_9.2.2.1 9 (by decide) (by decide) 108 (by decide)
  refine j_new (i := 108) C nl_X6_22 (Nat.lt_trans (by decide) hf9) (h_9.2.2.2.2.no hf9) (Nat.le_of_ble_eq_true rfl) (Nat.le_of_ble_eq_true rfl) dX6_init_92 (fun q => ?_)
  obtain ⟨t1, e1⟩ : ∃ t1, t1 = shNew sh_9 108 (8, 0) q := ⟨_, rfl⟩
  obtain ⟨U1, e2⟩ : ∃ U1, U1 = nNew N_9 108 := ⟨_, rfl⟩
  have hq : q = t1.2.2 108 := by rw [e1]; exact (show q = va_up sh_9.2.2 108 q 108 from (up_eq _ _ _).symm)
  have f1 : ∀ j, ¬ j = 108 → t1.1 j = sh_9.1 j ∧ t1.2.1 j = sh_9.2.1 j ∧ t1.2.2 j = sh_9.2.2 j ∧ U1 j = N_9 j := fun j hi => by rw [e1, e2]; exact ⟨up_ne hi, up_ne hi, up_ne hi, up_ne hi⟩
  have hc1 : (t1.1 108).1 = 8 := by rw [e1]; show (va_up sh_9.1 108 (8, 0) 108).1 = 8; rw [up_eq]
  have hR1 : RF t1 := by rw [e1]; exact h_9.2.2.2.2.new (by decide)
  have hz1 : U1 108 = fun _ => 0 := by rw [e2]; exact up_eq _ _ _
  rw [← e1, ← e2, hq]
  clear e1 e2 hq
  refine j_dup C dX6_init_95 rfl ?_
  have hb9 := hb 480 (by decide)
  have hf9b := h_9.2.2.2.1 480 (by decide)
  refine j_callI0Vg C ml_X6_24 dX6_init_96 (cJ_listInit hg hX (L := 108) (b := 480) hc1 (by rw [(f1 480 (by decide)).2.2.1, hf9b.2.2.1]; exact hb9.2)) ⟨Nat.le_of_ble_eq_true rfl, Nat.le_of_ble_eq_true rfl⟩ (Nat.le_of_ble_eq_true rfl) ⟨rfl, rfl⟩ ⟨Nat.le_of_ble_eq_true rfl, Nat.le_of_ble_eq_true rfl⟩ (fun t2 U2 hq => ?_)
  obtain ⟨e3, e4⟩ := hq
  have w1 : SAME sh_9 N_9 t2 U2 (fun j => j ∈ iNum 9) := fun j hj => by
    have hj' : ¬ j = 108 := fun z => hj (by rw [z]; decide)
    have z := f1 j hj'
    rw [e3, e4]
    exact ⟨z.1, (u2_row hj').trans z.2.1, z.2.2.1, (u2_row hj').trans z.2.2.2⟩
  have w2 : LSI 108 480 t2 U2 := by
    rw [e3, e4]
    exact ⟨hc1, (show u2 t1.2.1 108 1 (some 480) 108 1 = some 480 from u2_eq _ _ _ _), by rw [u2_ne (by decide), hz1]⟩
  have w3 : RF t2 := by rw [e3]; exact hR1.put (by rw [(f1 480 (by decide)).1, hf9b.1]; exact hb9.1)
  have w4 : t1.2.2 108 = t2.2.2 108 := by rw [e3]
  clear e3 e4 hR1
  refine x_put C hname (K := 9) h_9 (by decide) w1 w2 (by show (t2.1 108).1 ≤ 13; rw [w2.1]; decide) w3 w4 fl_X6_49 dX6_init_99 rfl ⟨rfl, rfl⟩ rfl rfl (fun sh_10 h_10 => ?_)
  revert h_10
  generalize U2 = N_10
  intro h_10
  clear w1 w2 w3 w4 hz1 hc1 f1 hf9 hf9b hb9 h_9
  refine J.widen (k := 15) (n := 700) (Nat.le_of_ble_eq_true rfl) (Nat.le_of_ble_eq_true rfl) ?_
  exact j_vret C dX6_init_102 h_10
