/-! ===== THE REFERENCE: says, givesOut, sails, leaves ===== -/
/-- the rows that are for the moment alone (pile, wish, tried) as q has them -/
def sc (N : WNm) (q : Nat → Nat → Int32) : WNm := fun a => if a = 53 ∨ a = 54 ∨ a = 55 then q a else N a
theorem sc_self (N : WNm) : sc N N = N := by funext a; simp [sc]
theorem sc_sc (N : WNm) (q q' : Nat → Nat → Int32) : sc (sc N q) q' = sc N q' := by
  funext a
  by_cases h : a = 53 ∨ a = 54 ∨ a = 55 <;> simp [sc, h]
theorem sc_in {i : Nat} (h : i = 53 ∨ i = 54 ∨ i = 55) (N : WNm) (q : Nat → Nat → Int32) (k : Nat) (v : Int32) : u2 (sc N q) i k v = sc N (u2 q i k v) := by
  funext a b
  by_cases ha : a = 53 ∨ a = 54 ∨ a = 55
  · simp [u2, sc, ha]
  · have : ¬ a = i := fun e => ha (by rw [e]; exact h)
    simp [u2, sc, ha, this]
theorem sc_out {i : Nat} (h : ¬ (i = 53 ∨ i = 54 ∨ i = 55)) (N : WNm) (q : Nat → Nat → Int32) (k : Nat) (v : Int32) : u2 (sc N q) i k v = sc (u2 N i k v) q := by
  funext a b
  by_cases ha : a = 53 ∨ a = 54 ∨ a = 55
  · have : ¬ a = i := fun e => h (by rw [← e]; exact ha)
    simp [u2, sc, ha, this]
  · simp [u2, sc, ha]
theorem sc_sr (N : WNm) (q : Nat → Nat → Int32) (ρ : Nat → Int32) : sr (sc N q) 53 ρ = sc N (fun a => if a = 53 then ρ else q a) := by
  funext a
  by_cases ha : a = 53
  · simp [sr, sc, ha]
  · by_cases hb : a = 53 ∨ a = 54 ∨ a = 55 <;> simp [sr, sc, ha, hb]
theorem sr_sc (N : WNm) (ρ : Nat → Int32) : sr N 53 ρ = sc N (fun a => if a = 53 then ρ else N a) := by
  rw [← sc_sr, sc_self]
theorem mKnown_sc (N : WNm) (q : Nat → Nat → Int32) (k : Int32) (p : Nat) : ∀ n, mKnown (sc N q) k p n = mKnown N k p n
  | 0 => rfl
  | n + 1 => by rw [mKnown, mKnown, mKnown_sc N q k p n]; rfl
theorem mEv_sc (N : WNm) (q : Nat → Nat → Int32) (s0 : Nat) (val : Int32 → Int32) : ∀ j, mEv (sc N q) s0 val j = mEv N s0 val j
  | 0 => rfl
  | j + 1 => by rw [mEv, mEv, mEv_sc N q s0 val j]; rfl
theorem mSays_sc (N : WNm) (q : Nat → Nat → Int32) (k x b : Int32) : mSays (sc N q) k x b = mSays N k x b := by
  unfold mSays
  simp only [mKnown_sc, mEv_sc]
  rfl
theorem voteOk_sc {N : WNm} {q : Nat → Nat → Int32} {v : Nat} (h : voteOk N v) : voteOk (sc N q) v := by
  obtain ⟨a, b, h1, h2, h3, h4, h5⟩ := h
  exact ⟨a, b, h1, h2, h3, h4, fun val => by simp only [mEv_sc]; exact h5 val⟩

def mSaysP (N : WNm) (k x b : Int32) : Int32 := if 0 ≤ k ∧ k ≤ 2 then (if 0 ≤ x ∧ x ≤ N 0 9 - 1 then (if N 15 (tn x) = 1 then (if k = 1 then (if 0 ≤ b ∧ b ≤ N 0 23 - 1 then mSays N k x b else -2000000000) else (if k = 2 then (if 0 ≤ b ∧ b ≤ N 0 9 - 1 then (if b = x then -2000000000 else mSays N k x b) else -2000000000) else mSays N k x b)) else -2000000000) else -2000000000) else -2000000000

theorem cM_says {l : Launch} {g : WGp} (hg : GOK g) {sh : WSh} {N : WNm} (M : MSh sh) {nG : Nat} (hG : N 0 9 = nI nG) (hG8 : nG ≤ 8) {nB : Nat} (hN : N 0 23 = nI nB) (hN3 : nB ≤ 300) {nV : Nat} (hV : N 0 38 = nI nV) (hV30 : nV ≤ 30) (hvo : ∀ v, v < nV → voteOk N v) (hpo : ∀ a, a < nG → N 15 a = 1 → vp_in (N 16 a) 12) (k x b : Int32) : CT l g yX7_says cX7_says 4 (some .int) (RM 5 0 0) [.ref (sh.2.2 0), .int k, .int x, .int b] sh N (QI g (fun r sh1 N1 => sh1 = sh ∧ r = mSaysP N k x b ∧ ∃ q, N1 = sc N q)) := by
  refine ent hg (by decide +kernel) (Nat.le_of_ble_eq_true rfl) ?_
  intro p e s m args below meth c C hname
  refine j_iload_n C dX7_says_0 rfl ?_
  refine j_iconst C dX7_says_1 (v := 0) (by decide) ?_
  refine j_iconst C dX7_says_2 (v := 2) (by decide) ?_
  refine j_callS3I C ml_X7_133 dX7_says_3 (cM_in hg _ _ _) ⟨Nat.le_of_ble_eq_true rfl, Nat.le_of_ble_eq_true rfl⟩ (Nat.le_of_ble_eq_true rfl) ⟨rfl, rfl⟩ ⟨Nat.zero_le _, Nat.zero_le _⟩ ?_
  refine j_if_eq (tgt := 27) C dX7_says_6 (by decide) (fun h6 => ?_) (fun h6 => ?_)
  · replace h6 := b2_eq0.mp h6
    refine j_ldc C kc_X7_151 dX7_says_27 ?_
    exact j_iret C dX7_says_29 rfl ⟨rfl, by rw [mSaysP, if_neg h6], N, (sc_self N).symm⟩
  · replace h6 := b2_ne0.mp h6
    refine j_aload_n C dX7_says_9 rfl ?_
    refine j_iload_n C dX7_says_10 rfl ?_
    refine j_callV1I C ml_X7_155 dX7_says_11 (cM_isGalley hg M _) ⟨by rw [M.c]; decide, by rw [M.c]; rfl⟩ ⟨Nat.le_of_ble_eq_true rfl, Nat.le_of_ble_eq_true rfl⟩ (Nat.le_of_ble_eq_true rfl) ⟨rfl, rfl⟩ ⟨Nat.zero_le _, Nat.zero_le _⟩ ?_
    refine j_if_eq (tgt := 27) C dX7_says_14 (by decide) (fun h14 => ?_) (fun h14 => ?_)
    · replace h14 := b2_eq0.mp h14
      refine j_ldc C kc_X7_151 dX7_says_27 ?_
      exact j_iret C dX7_says_29 rfl ⟨rfl, by rw [mSaysP, if_pos h6, if_neg h14], N, (sc_self N).symm⟩
    · replace h14 := b2_ne0.mp h14
      refine j_aload_n C dX7_says_17 rfl ?_
      refine j_getR (j := 15) C fl_X7_34 dX7_says_18 (M.c) rfl (M.r14) ?_
      refine j_iload_n C dX7_says_21 rfl ?_
      refine j_iald C (M.t15) (inG h14 hG hG8 (by decide)) dX7_says_22 ?_
      refine j_iconst C dX7_says_23 (v := 1) (by decide) ?_
      refine j_icmp_eq (tgt := 30) C dX7_says_24 (by decide) (fun h24 => ?_) (fun h24 => ?_)
      · skip
        refine j_iload_n C dX7_says_30 rfl ?_
        refine j_iconst C dX7_says_31 (v := 1) (by decide) ?_
        refine j_icmp_ne (tgt := 43) C dX7_says_32 (by decide) (fun h32 => ?_) (fun h32 => ?_)
        · skip
          refine j_iload_n C dX7_says_43 rfl ?_
          refine j_iconst C dX7_says_44 (v := 2) (by decide) ?_
          refine j_icmp_ne (tgt := 64) C dX7_says_45 (by decide) (fun h45 => ?_) (fun h45 => ?_)
          · skip
            refine j_aload_n C dX7_says_64 rfl ?_
            refine j_iload_n C dX7_says_65 rfl ?_
            refine j_iload_n C dX7_says_66 rfl ?_
            refine j_iload_n C dX7_says_67 rfl ?_
            refine j_callV3Ig C ml_X7_298 dX7_says_68 (cM_says0 hg M hG hG8 hN hN3 hV hV30 hvo (inG h14 hG hG8 (by decide)) (by obtain ⟨a, ha, e1, e2⟩ := rngN (n := nG) (by rw [← hG]; exact h14) (by omega); have h24b : N 15 (tn x) = 1 := h24; rw [e2] at h24b ⊢; exact hpo a ha h24b) (fun z => by first | exact inG h40 hN hN3 (by decide) | exact absurd z h32 | (rw [h45] at z; exact absurd z (by decide)))) ⟨by rw [M.c]; decide, by rw [M.c]; rfl⟩ ⟨Nat.le_of_ble_eq_true rfl, Nat.le_of_ble_eq_true rfl⟩ (Nat.le_of_ble_eq_true rfl) ⟨rfl, rfl⟩ ⟨Nat.zero_le _, Nat.zero_le _⟩ (fun r sh1 N1 hq => ?_)
            obtain ⟨rfl, rfl, ρ, rfl⟩ := hq
            exact j_iret C dX7_says_71 rfl ⟨rfl, by rw [mSaysP, if_pos h6, if_pos h14, if_pos h24, if_neg h32, if_neg h45], _, sr_sc _ _⟩
          · replace h45 := Decidable.not_not.mp h45
            refine j_aload_n C dX7_says_48 rfl ?_
            refine j_iload_n C dX7_says_49 rfl ?_
            refine j_callV1I C ml_X7_155 dX7_says_50 (cM_isGalley hg M _) ⟨by rw [M.c]; decide, by rw [M.c]; rfl⟩ ⟨Nat.le_of_ble_eq_true rfl, Nat.le_of_ble_eq_true rfl⟩ (Nat.le_of_ble_eq_true rfl) ⟨rfl, rfl⟩ ⟨Nat.zero_le _, Nat.zero_le _⟩ ?_
            refine j_if_eq (tgt := 61) C dX7_says_53 (by decide) (fun h53 => ?_) (fun h53 => ?_)
            · replace h53 := b2_eq0.mp h53
              refine j_ldc C kc_X7_151 dX7_says_61 ?_
              exact j_iret C dX7_says_63 rfl ⟨rfl, by rw [mSaysP, if_pos h6, if_pos h14, if_pos h24, if_neg h32, if_pos h45, if_neg h53], N, (sc_self N).symm⟩
            · replace h53 := b2_ne0.mp h53
              refine j_iload_n C dX7_says_56 rfl ?_
              refine j_iload_n C dX7_says_57 rfl ?_
              refine j_icmp_ne (tgt := 64) C dX7_says_58 (by decide) (fun h58 => ?_) (fun h58 => ?_)
              · skip
                refine j_aload_n C dX7_says_64 rfl ?_
                refine j_iload_n C dX7_says_65 rfl ?_
                refine j_iload_n C dX7_says_66 rfl ?_
                refine j_iload_n C dX7_says_67 rfl ?_
                refine j_callV3Ig C ml_X7_298 dX7_says_68 (cM_says0 hg M hG hG8 hN hN3 hV hV30 hvo (inG h14 hG hG8 (by decide)) (by obtain ⟨a, ha, e1, e2⟩ := rngN (n := nG) (by rw [← hG]; exact h14) (by omega); have h24b : N 15 (tn x) = 1 := h24; rw [e2] at h24b ⊢; exact hpo a ha h24b) (fun z => by first | exact inG h40 hN hN3 (by decide) | exact absurd z h32 | (rw [h45] at z; exact absurd z (by decide)))) ⟨by rw [M.c]; decide, by rw [M.c]; rfl⟩ ⟨Nat.le_of_ble_eq_true rfl, Nat.le_of_ble_eq_true rfl⟩ (Nat.le_of_ble_eq_true rfl) ⟨rfl, rfl⟩ ⟨Nat.zero_le _, Nat.zero_le _⟩ (fun r sh1 N1 hq => ?_)
                obtain ⟨rfl, rfl, ρ, rfl⟩ := hq
                exact j_iret C dX7_says_71 rfl ⟨rfl, by rw [mSaysP, if_pos h6, if_pos h14, if_pos h24, if_neg h32, if_pos h45, if_pos h53, if_neg h58], _, sr_sc _ _⟩
              · replace h58 := Decidable.not_not.mp h58
                refine j_ldc C kc_X7_151 dX7_says_61 ?_
                exact j_iret C dX7_says_63 rfl ⟨rfl, by rw [mSaysP, if_pos h6, if_pos h14, if_pos h24, if_neg h32, if_pos h45, if_pos h53, if_pos h58], N, (sc_self N).symm⟩
        · replace h32 := Decidable.not_not.mp h32
          refine j_aload_n C dX7_says_35 rfl ?_
          refine j_iload_n C dX7_says_36 rfl ?_
          refine j_callV1I C ml_X7_168 dX7_says_37 (cM_isBale hg M _) ⟨by rw [M.c]; decide, by rw [M.c]; rfl⟩ ⟨Nat.le_of_ble_eq_true rfl, Nat.le_of_ble_eq_true rfl⟩ (Nat.le_of_ble_eq_true rfl) ⟨rfl, rfl⟩ ⟨Nat.zero_le _, Nat.zero_le _⟩ ?_
          refine j_if_eq (tgt := 61) C dX7_says_40 (by decide) (fun h40 => ?_) (fun h40 => ?_)
          · replace h40 := b2_eq0.mp h40
            refine j_ldc C kc_X7_151 dX7_says_61 ?_
            exact j_iret C dX7_says_63 rfl ⟨rfl, by rw [mSaysP, if_pos h6, if_pos h14, if_pos h24, if_pos h32, if_neg h40], N, (sc_self N).symm⟩
          · replace h40 := b2_ne0.mp h40
            refine j_iload_n C dX7_says_43 rfl ?_
            refine j_iconst C dX7_says_44 (v := 2) (by decide) ?_
            refine j_icmp_ne (tgt := 64) C dX7_says_45 (by decide) (fun h45 => ?_) (fun h45 => ?_)
            · skip
              refine j_aload_n C dX7_says_64 rfl ?_
              refine j_iload_n C dX7_says_65 rfl ?_
              refine j_iload_n C dX7_says_66 rfl ?_
              refine j_iload_n C dX7_says_67 rfl ?_
              refine j_callV3Ig C ml_X7_298 dX7_says_68 (cM_says0 hg M hG hG8 hN hN3 hV hV30 hvo (inG h14 hG hG8 (by decide)) (by obtain ⟨a, ha, e1, e2⟩ := rngN (n := nG) (by rw [← hG]; exact h14) (by omega); have h24b : N 15 (tn x) = 1 := h24; rw [e2] at h24b ⊢; exact hpo a ha h24b) (fun z => by first | exact inG h40 hN hN3 (by decide) | exact absurd z h32 | (rw [h45] at z; exact absurd z (by decide)))) ⟨by rw [M.c]; decide, by rw [M.c]; rfl⟩ ⟨Nat.le_of_ble_eq_true rfl, Nat.le_of_ble_eq_true rfl⟩ (Nat.le_of_ble_eq_true rfl) ⟨rfl, rfl⟩ ⟨Nat.zero_le _, Nat.zero_le _⟩ (fun r sh1 N1 hq => ?_)
              obtain ⟨rfl, rfl, ρ, rfl⟩ := hq
              exact j_iret C dX7_says_71 rfl ⟨rfl, by rw [mSaysP, if_pos h6, if_pos h14, if_pos h24, if_pos h32, if_pos h40], _, sr_sc _ _⟩
            · replace h45 := Decidable.not_not.mp h45
              exact absurd (h32.symm.trans h45) (by decide)
      · skip
        refine j_ldc C kc_X7_151 dX7_says_27 ?_
        exact j_iret C dX7_says_29 rfl ⟨rfl, by rw [mSaysP, if_pos h6, if_pos h14, if_neg h24], N, (sc_self N).symm⟩

def mGiveP (N : WNm) (f : Int32) (a : Nat) : Nat → WNm
  | 0 => N
  | p + 1 => u2 (mGiveP N f a p) 3 p (mGiveP N f a p 3 p + f * mGiveP N f a p 23 (10 * a + p) / 24)
def mGiveL (N : WNm) (f : Int32) (a : Nat) : Nat → Int32
  | 0 => f
  | p + 1 => mGiveL N f a p - f * mGiveP N f a p 23 (10 * a + p) / 24
def mGive3 (N : WNm) (k a : Nat) : WNm := u2 (u2 (mBecomes N k 2) 3 (tn (N 25 k)) (N 3 (tn (N 25 k)) - N 32 k)) 19 a (N 19 a + N 32 k)
def mGive (N : WNm) (k a : Nat) : WNm := u2 (mGiveP (mGive3 N k a) (N 32 k) a 10) 0 3 (mGiveP (mGive3 N k a) (N 32 k) a 10 0 3 + mGiveL (mGive3 N k a) (N 32 k) a 10)
theorem mGiveP_row (N : WNm) (f : Int32) (a : Nat) {i : Nat} (h : i ≠ 3) : ∀ p, mGiveP N f a p i = N i
  | 0 => rfl
  | p + 1 => by rw [mGiveP, u2_row h, mGiveP_row N f a h p]
theorem mGive_row (N : WNm) (k a : Nat) {i : Nat} (h : i ≠ 0 ∧ i ≠ 3 ∧ i ≠ 19 ∧ i ≠ 34 ∧ i ≠ 36) : mGive N k a i = N i := by
  rw [mGive, u2_row h.1, mGiveP_row _ _ _ h.2.1, mGive3, u2_row h.2.2.1, u2_row h.2.1, mBecomes, u2_row h.2.2.2.2, u2_row h.2.2.2.1]
theorem mGive_0 (N : WNm) (k a : Nat) {j : Nat} (h : j ≠ 3) : mGive N k a 0 j = N 0 j := by
  rw [mGive, u2_ne (fun z => h z.2), mGiveP_row _ _ _ (by decide)]
  rfl

theorem cM_givesOut {l : Launch} {g : WGp} (hg : GOK g) {sh : WSh} {N : WNm} (M : MSh sh) {k a : Nat} (hk : k < 300) (ha : a < 8) (ho : vp_in (N 25 k) 10) : CT l g yX7_givesOut cX7_givesOut 7 none (RM 2 0 0) [.ref (sh.2.2 0), .int (nI k), .int (nI a)] sh N (QFv g sh (mGive N k a)) := by
  refine ent hg (by decide +kernel) (Nat.le_of_ble_eq_true rfl) ?_
  intro p e s m args below meth c C hname
  refine j_aload_n C dX7_givesOut_0 rfl ?_
  refine j_iload_n C dX7_givesOut_1 rfl ?_
  refine j_iconst C dX7_givesOut_2 (v := 2) (by decide) ?_
  refine j_callV2V C ml_X7_313 dX7_givesOut_3 (cM_becomes hg M hk _) ⟨by rw [M.c]; decide, by rw [M.c]; rfl⟩ ⟨Nat.le_of_ble_eq_true rfl, Nat.le_of_ble_eq_true rfl⟩ (Nat.le_of_ble_eq_true rfl) ⟨rfl, rfl⟩ ⟨Nat.zero_le _, Nat.zero_le _⟩ ?_
  refine j_aload_n C dX7_givesOut_6 rfl ?_
  refine j_getR (j := 32) C fl_X7_83 dX7_givesOut_7 (M.c) rfl (M.r31) ?_
  refine j_iload_n C dX7_givesOut_10 rfl ?_
  refine j_ialdN C (M.t32) (⟨by omega, by decide⟩) dX7_givesOut_11 ?_
  refine j_istore_n C dX7_givesOut_12 (by decide) rfl ?_
  refine j_aload_n C dX7_givesOut_13 rfl ?_
  refine j_getR (j := 3) C fl_X7_7 dX7_givesOut_14 (M.c) rfl (M.r2) ?_
  refine j_aload_n C dX7_givesOut_17 rfl ?_
  refine j_getR (j := 25) C fl_X7_62 dX7_givesOut_18 (M.c) rfl (M.r24) ?_
  refine j_iload_n C dX7_givesOut_21 rfl ?_
  refine j_ialdN C (M.t25) (⟨by omega, by decide⟩) dX7_givesOut_22 ?_
  refine j_dup2 C dX7_givesOut_23 rfl rfl ?_
  refine j_iald C (M.t3) (ho) dX7_givesOut_24 ?_
  refine j_iload_n C dX7_givesOut_25 rfl ?_
  refine j_isub C dX7_givesOut_26 ?_
  refine j_iast C (M.t3) (ho) dX7_givesOut_27 ?_
  refine j_aload_n C dX7_givesOut_28 rfl ?_
  refine j_getR (j := 19) C fl_X7_46 dX7_givesOut_29 (M.c) rfl (M.r18) ?_
  refine j_iload_n C dX7_givesOut_32 rfl ?_
  refine j_dup2 C dX7_givesOut_33 rfl rfl ?_
  refine j_ialdN C (M.t19) (⟨by omega, by decide⟩) dX7_givesOut_34 ?_
  refine j_iload_n C dX7_givesOut_35 rfl ?_
  refine j_iadd C dX7_givesOut_36 ?_
  refine j_iastN C (M.t19) (⟨by omega, by decide⟩) dX7_givesOut_37 ?_
  refine j_iload_n C dX7_givesOut_38 rfl ?_
  refine j_istore C dX7_givesOut_39 (by decide) rfl ?_
  refine j_iconst C dX7_givesOut_41 (v := 0) (by decide) ?_
  refine j_istore C dX7_givesOut_42 (by decide) rfl ?_
  refine up_ind (P := fun q => J p l e (RM 2 0 0) s m args below meth c (MQ below (QFv g sh (mGive N k a)) args s 0 0 g.A) g 7 sh (mGiveP (mGive3 N k a) (N 32 k) a q) 0 0 44 [some (.ref (sh.2.2 0)), some (.int (nI k)), some (.int (nI a)), some (.int (N 32 k)), some (.int (mGiveL (mGive3 N k a) (N 32 k) a q)), some (.int (nI q)), none] []) (n := 10) ?_ 0 (Nat.zero_le _)
  intro q hq ih
  refine j_iload C dX7_givesOut_44 rfl ?_
  refine j_bipush C dX7_givesOut_46 (v := 10) (by decide) ?_
  refine j_icmp_ge (tgt := 95) C dX7_givesOut_48 (by decide) (fun h48 => ?_) (fun h48 => ?_)
  · skip
    rw [show (10 : Int32) = nI 10 from rfl, n_nle (by omega) (by omega)] at h48
    obtain rfl : q = 10 := by omega
    refine j_aload_n C dX7_givesOut_95 rfl ?_
    refine j_dup C dX7_givesOut_96 rfl ?_
    refine j_getI C fl_X7_159 dX7_givesOut_97 (M.c) rfl ?_
    refine j_iload C dX7_givesOut_100 rfl ?_
    refine j_iadd C dX7_givesOut_102 ?_
    refine j_putI C fl_X7_159 dX7_givesOut_103 (M.c) rfl rfl rfl rfl ?_
    exact j_vret C dX7_givesOut_106 ⟨rfl, rfl⟩
  · skip
    rw [show (10 : Int32) = nI 10 from rfl, n_nle (by omega) (by omega)] at h48
    replace h48 : q < 10 := by omega
    refine j_iload_n C dX7_givesOut_51 rfl ?_
    refine j_aload_n C dX7_givesOut_52 rfl ?_
    refine j_getR (j := 23) C fl_X7_59 dX7_givesOut_53 (M.c) rfl (M.r22) ?_
    refine j_bipush C dX7_givesOut_56 (v := 10) (by decide) ?_
    refine j_iload_n C dX7_givesOut_58 rfl ?_
    refine j_imul C dX7_givesOut_59 ?_
    refine j_iload C dX7_givesOut_60 rfl ?_
    refine j_iadd C dX7_givesOut_62 ?_
    rw [ix10]
    refine j_ialdN C (M.t23) (⟨by omega, by decide⟩) dX7_givesOut_63 ?_
    refine j_imul C dX7_givesOut_64 ?_
    refine j_bipush C dX7_givesOut_65 (v := 24) (by decide) ?_
    refine j_idiv C dX7_givesOut_67 (by decide) ?_
    refine j_istore C dX7_givesOut_68 (by decide) rfl ?_
    refine j_aload_n C dX7_givesOut_70 rfl ?_
    refine j_getR (j := 3) C fl_X7_7 dX7_givesOut_71 (M.c) rfl (M.r2) ?_
    refine j_iload C dX7_givesOut_74 rfl ?_
    refine j_dup2 C dX7_givesOut_76 rfl rfl ?_
    refine j_ialdN C (M.t3) (⟨by omega, by decide⟩) dX7_givesOut_77 ?_
    refine j_iload C dX7_givesOut_78 rfl ?_
    refine j_iadd C dX7_givesOut_80 ?_
    refine j_iastN C (M.t3) (⟨by omega, by decide⟩) dX7_givesOut_81 ?_
    refine j_iload C dX7_givesOut_82 rfl ?_
    refine j_iload C dX7_givesOut_84 rfl ?_
    refine j_isub C dX7_givesOut_86 ?_
    refine j_istore C dX7_givesOut_87 (by decide) rfl ?_
    refine j_iincN C dX7_givesOut_89 rfl (by decide) rfl ?_
    refine j_goto (tgt := 44) C dX7_givesOut_92 (by decide) ?_
    exact J.le (lv1 := [some (.ref (sh.2.2 0)), some (.int (nI k)), some (.int (nI a)), some (.int (N 32 k)), some (.int (mGiveL (mGive3 N k a) (N 32 k) a (q + 1))), some (.int (nI (q + 1))), none]) ⟨rfl, rfl, rfl, rfl, rfl, rfl, trivial⟩ (ih h48)

def mMore (N : WNm) (a : Nat) : Int32 := N 13 a + N 9 (tn (N 0 1 - N 0 1 / 30 * 30))
def mSail1 (N : WNm) (a : Nat) : WNm := u2 N 18 a (N 18 a + (if 1 ≤ mMore N a then mMore N a else 1))
def mSail2 (N : WNm) (a : Nat) : WNm := u2 (u2 (u2 (mSail1 N a) 15 a 1) 18 a 0) 17 a (N 0 1)
def mSailB (N : WNm) (a : Nat) (p : Int32) : Nat → WNm
  | 0 => N
  | b + 1 => if mSailB N a p b 34 b = 1 ∧ mSailB N a p b 35 b = nI a then (if mSailB N a p b 27 b = p then mGive (mSailB N a p b) b a else mSailB N a p b) else mSailB N a p b
def mSail (N : WNm) (nB a : Nat) : WNm := if 10 * N 7 (tn (N 16 a)) ≤ mSail1 N a 18 a then mSailB (mSail2 N a) a (N 16 a) nB else mSail1 N a
theorem mSailB_row (N : WNm) (a : Nat) (p : Int32) {i : Nat} (h : i ≠ 0 ∧ i ≠ 3 ∧ i ≠ 19 ∧ i ≠ 34 ∧ i ≠ 36) : ∀ b, mSailB N a p b i = N i
  | 0 => rfl
  | b + 1 => by
    rw [mSailB]
    split
    · split
      · rw [mGive_row _ _ _ h]; exact mSailB_row N a p h b
      · exact mSailB_row N a p h b
    · exact mSailB_row N a p h b
theorem mSailB_0 (N : WNm) (a : Nat) (p : Int32) {j : Nat} (h : j ≠ 3) : ∀ b, mSailB N a p b 0 j = N 0 j
  | 0 => rfl
  | b + 1 => by
    rw [mSailB]
    split
    · split
      · rw [mGive_0 _ _ _ h]; exact mSailB_0 N a p h b
      · exact mSailB_0 N a p h b
    · exact mSailB_0 N a p h b
theorem in30 {x : Int32} {d : Nat} (h : x = nI d) (hd : d < 2147483648) : vp_in (x - x / 30 * 30) 30 := by
  rw [h, show (30 : Int32) = nI 30 from rfl, pk_rem (by omega) (by omega) (by omega)]
  exact vp_inN (Nat.mod_lt _ (by omega)) (by omega)

theorem cM_sails {l : Launch} {g : WGp} (hg : GOK g) {sh : WSh} {N : WNm} (M : MSh sh) {nB : Nat} (hN : N 0 23 = nI nB) (hN3 : nB ≤ 300) {dy : Nat} (hdy : N 0 1 = nI dy) (hdy2 : dy < 2147483648) {a : Nat} (ha : a < 8) (hp : vp_in (N 16 a) 12) (ho : ∀ k, k < nB → vp_in (N 25 k) 10) : CT l g yX7_sails cX7_sails 5 none (RM 3 0 0) [.ref (sh.2.2 0), .int (nI a)] sh N (QFv g sh (mSail N nB a)) := by
  refine ent hg (by decide +kernel) (Nat.le_of_ble_eq_true rfl) ?_
  intro p e s m args below meth c C hname
  have key : ∀ N1 : WNm, 10 * N 7 (tn (N 16 a)) ≤ mSail1 N a 18 a → N1 = mSail1 N a → J p l e (RM 3 0 0) s m args below meth c (MQ below (QFv g sh (mSail N nB a)) args s 0 0 g.A) g 5 sh N1 0 0 65 [some (.ref (sh.2.2 0)), some (.int (nI a)), some (.int (mMore N a)), some (.int (N 16 a)), none] [] := by
    intro N1 hle e1
    subst e1
    refine j_aload_n C dX7_sails_65 rfl ?_
    refine j_getR (j := 15) C fl_X7_34 dX7_sails_66 (M.c) rfl (M.r14) ?_
    refine j_iload_n C dX7_sails_69 rfl ?_
    refine j_iconst C dX7_sails_70 (v := 1) (by decide) ?_
    refine j_iastN C (M.t15) (⟨by omega, by decide⟩) dX7_sails_71 ?_
    refine j_aload_n C dX7_sails_72 rfl ?_
    refine j_getR (j := 18) C fl_X7_43 dX7_sails_73 (M.c) rfl (M.r17) ?_
    refine j_iload_n C dX7_sails_76 rfl ?_
    refine j_iconst C dX7_sails_77 (v := 0) (by decide) ?_
    refine j_iastN C (M.t18) (⟨by omega, by decide⟩) dX7_sails_78 ?_
    refine j_aload_n C dX7_sails_79 rfl ?_
    refine j_getR (j := 17) C fl_X7_40 dX7_sails_80 (M.c) rfl (M.r16) ?_
    refine j_iload_n C dX7_sails_83 rfl ?_
    refine j_aload_n C dX7_sails_84 rfl ?_
    refine j_getI C fl_X7_165 dX7_sails_85 (M.c) rfl ?_
    refine j_iastN C (M.t17) (⟨by omega, by decide⟩) dX7_sails_88 ?_
    refine j_iconst C dX7_sails_89 (v := 0) (by decide) ?_
    refine j_istore C dX7_sails_90 (by decide) rfl ?_
    refine up_ind (P := fun b => J p l e (RM 3 0 0) s m args below meth c (MQ below (QFv g sh (mSail N nB a)) args s 0 0 g.A) g 5 sh (mSailB (mSail2 N a) a (N 16 a) b) 0 0 92 [some (.ref (sh.2.2 0)), some (.int (nI a)), some (.int (mMore N a)), some (.int (N 16 a)), some (.int (nI b))] []) (n := nB) ?_ 0 (Nat.zero_le _)
    intro b hb ih
    refine j_iload C dX7_sails_92 rfl ?_
    refine j_aload_n C dX7_sails_94 rfl ?_
    refine j_getI C fl_X7_143 dX7_sails_95 (M.c) rfl ?_
    refine j_icmp_ge (tgt := 135) C dX7_sails_98 (by decide) (fun h98 => ?_) (fun h98 => ?_)
    · skip
      have e23 : mSailB (mSail2 N a) a (N 16 a) b 0 23 = nI nB := by rw [mSailB_0 _ _ _ (by decide)]; exact hN
      rw [e23, n_nle (by omega) (by omega)] at h98
      obtain rfl : b = nB := by omega
      exact j_vret C dX7_sails_135 ⟨rfl, by rw [mSail, if_pos hle]⟩
    · skip
      have e23 : mSailB (mSail2 N a) a (N 16 a) b 0 23 = nI nB := by rw [mSailB_0 _ _ _ (by decide)]; exact hN
      rw [e23, n_nle (by omega) (by omega)] at h98
      refine j_aload_n C dX7_sails_101 rfl ?_
      refine j_iload C dX7_sails_102 rfl ?_
      refine j_iload_n C dX7_sails_104 rfl ?_
      refine j_callV2I C ml_X7_171 dX7_sails_105 (cM_isOn hg M (k := b) (by omega) _) ⟨by rw [M.c]; decide, by rw [M.c]; rfl⟩ ⟨Nat.le_of_ble_eq_true rfl, Nat.le_of_ble_eq_true rfl⟩ (Nat.le_of_ble_eq_true rfl) ⟨rfl, rfl⟩ ⟨Nat.zero_le _, Nat.zero_le _⟩ ?_
      refine j_if_eq (tgt := 129) C dX7_sails_108 (by decide) (fun h108 => ?_) (fun h108 => ?_)
      · replace h108 := b2_eq0.mp h108
        refine j_iincN C dX7_sails_129 rfl (by decide) rfl ?_
        refine j_goto (tgt := 92) C dX7_sails_132 (by decide) ?_
        have z := ih (by omega)
        rw [mSailB, if_neg h108] at z
        exact z
      · replace h108 := b2_ne0.mp h108
        refine j_aload_n C dX7_sails_111 rfl ?_
        refine j_getR (j := 27) C fl_X7_68 dX7_sails_112 (M.c) rfl (M.r26) ?_
        refine j_iload C dX7_sails_115 rfl ?_
        refine j_ialdN C (M.t27) (⟨by omega, by decide⟩) dX7_sails_117 ?_
        refine j_iload_n C dX7_sails_118 rfl ?_
        refine j_icmp_ne (tgt := 129) C dX7_sails_119 (by decide) (fun h119 => ?_) (fun h119 => ?_)
        · skip
          refine j_iincN C dX7_sails_129 rfl (by decide) rfl ?_
          refine j_goto (tgt := 92) C dX7_sails_132 (by decide) ?_
          have z := ih (by omega)
          rw [mSailB, if_pos h108, if_neg h119] at z
          exact z
        · replace h119 := Decidable.not_not.mp h119
          refine j_aload_n C dX7_sails_122 rfl ?_
          refine j_iload C dX7_sails_123 rfl ?_
          refine j_iload_n C dX7_sails_125 rfl ?_
          refine j_callV2V C ml_X7_310 dX7_sails_126 (cM_givesOut hg M (by omega) ha (by rw [mSailB_row _ _ _ (by decide)]; exact ho b (by omega))) ⟨by rw [M.c]; decide, by rw [M.c]; rfl⟩ ⟨Nat.le_of_ble_eq_true rfl, Nat.le_of_ble_eq_true rfl⟩ (Nat.le_of_ble_eq_true rfl) ⟨rfl, rfl⟩ ⟨Nat.zero_le _, Nat.zero_le _⟩ ?_
          refine j_iincN C dX7_sails_129 rfl (by decide) rfl ?_
          refine j_goto (tgt := 92) C dX7_sails_132 (by decide) ?_
          have z := ih (by omega)
          rw [mSailB, if_pos h108, if_pos h119] at z
          exact z
  refine j_aload_n C dX7_sails_0 rfl ?_
  refine j_getR (j := 13) C fl_X7_28 dX7_sails_1 (M.c) rfl (M.r12) ?_
  refine j_iload_n C dX7_sails_4 rfl ?_
  refine j_ialdN C (M.t13) (⟨by omega, by decide⟩) dX7_sails_5 ?_
  refine j_aload_n C dX7_sails_6 rfl ?_
  refine j_getR (j := 9) C fl_X7_19 dX7_sails_7 (M.c) rfl (M.r8) ?_
  refine j_aload_n C dX7_sails_10 rfl ?_
  refine j_getI C fl_X7_165 dX7_sails_11 (M.c) rfl ?_
  refine j_bipush C dX7_sails_14 (v := 30) (by decide) ?_
  refine j_irem C dX7_sails_16 (by decide) ?_
  refine j_iald C (M.t9) (in30 hdy hdy2) dX7_sails_17 ?_
  refine j_iadd C dX7_sails_18 ?_
  refine j_istore_n C dX7_sails_19 (by decide) rfl ?_
  refine j_aload_n C dX7_sails_20 rfl ?_
  refine j_getR (j := 18) C fl_X7_43 dX7_sails_21 (M.c) rfl (M.r17) ?_
  refine j_iload_n C dX7_sails_24 rfl ?_
  refine j_dup2 C dX7_sails_25 rfl rfl ?_
  refine j_ialdN C (M.t18) (⟨by omega, by decide⟩) dX7_sails_26 ?_
  refine j_iload_n C dX7_sails_27 rfl ?_
  refine j_iconst C dX7_sails_28 (v := 1) (by decide) ?_
  refine j_icmp_ge (tgt := 36) C dX7_sails_29 (by decide) (fun h29 => ?_) (fun h29 => ?_)
  · skip
    refine j_iload_n C dX7_sails_36 rfl ?_
    refine j_iadd C dX7_sails_37 ?_
    refine j_iastN C (M.t18) (⟨by omega, by decide⟩) dX7_sails_38 ?_
    refine j_aload_n C dX7_sails_39 rfl ?_
    refine j_getR (j := 16) C fl_X7_37 dX7_sails_40 (M.c) rfl (M.r15) ?_
    refine j_iload_n C dX7_sails_43 rfl ?_
    refine j_ialdN C (M.t16) (⟨by omega, by decide⟩) dX7_sails_44 ?_
    refine j_istore_n C dX7_sails_45 (by decide) rfl ?_
    refine j_aload_n C dX7_sails_46 rfl ?_
    refine j_getR (j := 18) C fl_X7_43 dX7_sails_47 (M.c) rfl (M.r17) ?_
    refine j_iload_n C dX7_sails_50 rfl ?_
    refine j_ialdN C (M.t18) (⟨by omega, by decide⟩) dX7_sails_51 ?_
    refine j_bipush C dX7_sails_52 (v := 10) (by decide) ?_
    refine j_aload_n C dX7_sails_54 rfl ?_
    refine j_getR (j := 7) C fl_X7_13 dX7_sails_55 (M.c) rfl (M.r6) ?_
    refine j_iload_n C dX7_sails_58 rfl ?_
    refine j_iald C (M.t7) (hp) dX7_sails_59 ?_
    refine j_imul C dX7_sails_60 ?_
    refine j_icmp_ge (tgt := 65) C dX7_sails_61 (by decide) (fun h61 => ?_) (fun h61 => ?_)
    · skip
      refine key _ ?_ ?_
      · first | (rw [mSail1, if_pos (show 1 ≤ mMore N a from h29)]; exact h61) | (rw [mSail1, if_neg (show ¬ 1 ≤ mMore N a from h29)]; exact h61)
      · first | (rw [mSail1, if_pos (show 1 ≤ mMore N a from h29)]; try rfl) | (rw [mSail1, if_neg (show ¬ 1 ≤ mMore N a from h29)]; try rfl)
    · skip
      refine j_vret C dX7_sails_64 ⟨rfl, ?_⟩
      rw [mSail, if_neg]
      · first | (rw [mSail1, if_pos (show 1 ≤ mMore N a from h29)]; try rfl) | (rw [mSail1, if_neg (show ¬ 1 ≤ mMore N a from h29)]; try rfl)
      · first | (rw [mSail1, if_pos (show 1 ≤ mMore N a from h29)]; exact h61) | (rw [mSail1, if_neg (show ¬ 1 ≤ mMore N a from h29)]; exact h61)
  · skip
    refine j_iconst C dX7_sails_32 (v := 1) (by decide) ?_
    refine j_goto (tgt := 37) C dX7_sails_33 (by decide) ?_
    refine j_iadd C dX7_sails_37 ?_
    refine j_iastN C (M.t18) (⟨by omega, by decide⟩) dX7_sails_38 ?_
    refine j_aload_n C dX7_sails_39 rfl ?_
    refine j_getR (j := 16) C fl_X7_37 dX7_sails_40 (M.c) rfl (M.r15) ?_
    refine j_iload_n C dX7_sails_43 rfl ?_
    refine j_ialdN C (M.t16) (⟨by omega, by decide⟩) dX7_sails_44 ?_
    refine j_istore_n C dX7_sails_45 (by decide) rfl ?_
    refine j_aload_n C dX7_sails_46 rfl ?_
    refine j_getR (j := 18) C fl_X7_43 dX7_sails_47 (M.c) rfl (M.r17) ?_
    refine j_iload_n C dX7_sails_50 rfl ?_
    refine j_ialdN C (M.t18) (⟨by omega, by decide⟩) dX7_sails_51 ?_
    refine j_bipush C dX7_sails_52 (v := 10) (by decide) ?_
    refine j_aload_n C dX7_sails_54 rfl ?_
    refine j_getR (j := 7) C fl_X7_13 dX7_sails_55 (M.c) rfl (M.r6) ?_
    refine j_iload_n C dX7_sails_58 rfl ?_
    refine j_iald C (M.t7) (hp) dX7_sails_59 ?_
    refine j_imul C dX7_sails_60 ?_
    refine j_icmp_ge (tgt := 65) C dX7_sails_61 (by decide) (fun h61 => ?_) (fun h61 => ?_)
    · skip
      refine key _ ?_ ?_
      · first | (rw [mSail1, if_pos (show 1 ≤ mMore N a from h29)]; exact h61) | (rw [mSail1, if_neg (show ¬ 1 ≤ mMore N a from h29)]; exact h61)
      · first | (rw [mSail1, if_pos (show 1 ≤ mMore N a from h29)]; try rfl) | (rw [mSail1, if_neg (show ¬ 1 ≤ mMore N a from h29)]; try rfl)
    · skip
      refine j_vret C dX7_sails_64 ⟨rfl, ?_⟩
      rw [mSail, if_neg]
      · first | (rw [mSail1, if_pos (show 1 ≤ mMore N a from h29)]; try rfl) | (rw [mSail1, if_neg (show ¬ 1 ≤ mMore N a from h29)]; try rfl)
      · first | (rw [mSail1, if_pos (show 1 ≤ mMore N a from h29)]; exact h61) | (rw [mSail1, if_neg (show ¬ 1 ≤ mMore N a from h29)]; exact h61)

def mStay (N : WNm) (a : Nat) : Int32 := if 0 ≤ mSays N 0 (nI a) 0 then (if mSays N 0 (nI a) 0 ≤ 30 then mSays N 0 (nI a) 0 else 30) else 0
def mHolds (N : WNm) (a o : Nat) : Prop := ¬ o = a ∧ N 15 o = 2 ∧ N 16 o = N 16 a ∧ 0 < mSays N 2 (nI a) (nI o)
theorem mHolds_dec (N : WNm) (a o : Nat) : mHolds N a o ∨ ¬ mHolds N a o := Classical.em _
def mLeaves (N : WNm) (nG a : Nat) : Prop := mStay N a ≤ N 0 1 - N 17 a ∧ ∀ o, o < nG → ¬ mHolds N a o
noncomputable def pb (P : Prop) : Int32 := @ite Int32 P (Classical.propDecidable P) 1 0
theorem pb_t {P : Prop} (h : P) : pb P = 1 := if_pos h
theorem pb_f {P : Prop} (h : ¬ P) : pb P = 0 := if_neg h
theorem pb_nar (P : Prop) : narrow .boolean (.int (pb P)) = .int (pb P) := by
  rcases Classical.em P with h | h
  · rw [pb_t h]; rfl
  · rw [pb_f h]; rfl
theorem pb_eq0 {P : Prop} : pb P = 0 ↔ ¬ P := by
  rcases Classical.em P with h | h
  · rw [pb_t h]; simp [h]
  · rw [pb_f h]; simp [h]
theorem pb_ne0 {P : Prop} : ¬ pb P = 0 ↔ P := by
  rcases Classical.em P with h | h
  · rw [pb_t h]; simp [h]
  · rw [pb_f h]; simp [h]

theorem cM_leaves {l : Launch} {g : WGp} (hg : GOK g) {sh : WSh} {N : WNm} (M : MSh sh) {nG : Nat} (hG : N 0 9 = nI nG) (hG8 : nG ≤ 8) {nB : Nat} (hN : N 0 23 = nI nB) (hN3 : nB ≤ 300) {nV : Nat} (hV : N 0 38 = nI nV) (hV30 : nV ≤ 30) (hvo : ∀ v, v < nV → voteOk N v) {a : Nat} (ha : a < nG) (hp : vp_in (N 16 a) 12) : CT l g yX7_leaves cX7_leaves 4 (some .boolean) (RM 5 0 0) [.ref (sh.2.2 0), .int (nI a)] sh N (QI g (fun r sh1 N1 => sh1 = sh ∧ r = pb (mLeaves N nG a) ∧ ∃ q, N1 = sc N q)) := by
  refine ent hg (by decide +kernel) (Nat.le_of_ble_eq_true rfl) ?_
  intro p e s m args below meth c C hname
  have eta : tn (nI a) = a := nI_clamp (by omega)
  have key : ∀ (q : Nat → Nat → Int32) {z : Int32}, z = mStay N a → J p l e (RM 5 0 0) s m args below meth c (MQ below (QI g (fun r sh1 N1 => sh1 = sh ∧ r = pb (mLeaves N nG a) ∧ ∃ q, N1 = sc N q)) args s 0 0 g.A) g 4 sh (sc N q) 0 0 29 [some (.ref (sh.2.2 0)), some (.int (nI a)), some (.int z), none] [] := by
    intro q z ez
    subst ez
    refine j_aload_n C dX7_leaves_29 rfl ?_
    refine j_getI C fl_X7_165 dX7_leaves_30 (M.c) rfl ?_
    refine j_aload_n C dX7_leaves_33 rfl ?_
    refine j_getR (j := 17) C fl_X7_40 dX7_leaves_34 (M.c) rfl (M.r16) ?_
    refine j_iload_n C dX7_leaves_37 rfl ?_
    refine j_ialdN C (M.t17) (⟨by omega, by decide⟩) dX7_leaves_38 ?_
    refine j_isub C dX7_leaves_39 ?_
    refine j_iload_n C dX7_leaves_40 rfl ?_
    refine j_icmp_ge (tgt := 46) C dX7_leaves_41 (by decide) (fun h41 => ?_) (fun h41 => ?_)
    · skip
      refine j_iconst C dX7_leaves_46 (v := 0) (by decide) ?_
      refine j_istore_n C dX7_leaves_47 (by decide) rfl ?_
      have hstay : mStay N a ≤ N 0 1 - N 17 a := h41
      suffices key2 : ∀ o, o ≤ nG → ∀ q, (∀ j, j < o → ¬ mHolds N a j) → J p l e (RM 5 0 0) s m args below meth c (MQ below (QI g (fun r sh1 N1 => sh1 = sh ∧ r = pb (mLeaves N nG a) ∧ ∃ q, N1 = sc N q)) args s 0 0 g.A) g 4 sh (sc N q) 0 0 48 [some (.ref (sh.2.2 0)), some (.int (nI a)), some (.int (mStay N a)), some (.int (nI o))] [] from key2 0 (Nat.zero_le _) q (fun j hj => absurd hj (Nat.not_lt_zero j))
      refine up_ind (n := nG) ?_
      intro o ho ih q hall
      refine j_iload_n C dX7_leaves_48 rfl ?_
      refine j_aload_n C dX7_leaves_49 rfl ?_
      refine j_getI C fl_X7_140 dX7_leaves_50 (M.c) rfl ?_
      refine j_icmp_ge (tgt := 104) C dX7_leaves_53 (by decide) (fun h53 => ?_) (fun h53 => ?_)
      · skip
        have h53 : N 0 9 ≤ nI o := h53
        rw [hG, n_nle (by omega) (by omega)] at h53
        obtain rfl : o = nG := by omega
        refine j_iconst C dX7_leaves_104 (v := 1) (by decide) ?_
        exact j_iret C dX7_leaves_105 rfl ⟨rfl, (pb_t ⟨hstay, hall⟩).symm, q, rfl⟩
      · skip
        have h53 : ¬ N 0 9 ≤ nI o := h53
        rw [hG, n_nle (by omega) (by omega)] at h53
        refine j_iload_n C dX7_leaves_56 rfl ?_
        refine j_iload_n C dX7_leaves_57 rfl ?_
        refine j_icmp_eq (tgt := 98) C dX7_leaves_58 (by decide) (fun h58 => ?_) (fun h58 => ?_)
        · skip
          refine j_iincN C dX7_leaves_98 rfl (by decide) rfl ?_
          refine j_goto (tgt := 48) C dX7_leaves_101 (by decide) ?_
          exact ih (by omega) q (fun j hj => by rcases Nat.lt_succ_iff_lt_or_eq.mp hj with y | y; exact hall j y; rw [y]; exact fun z => z.1 ((nI_eq (by omega) (by omega)).mp h58))
        · skip
          refine j_aload_n C dX7_leaves_61 rfl ?_
          refine j_getR (j := 15) C fl_X7_34 dX7_leaves_62 (M.c) rfl (M.r14) ?_
          refine j_iload_n C dX7_leaves_65 rfl ?_
          refine j_ialdN C (M.t15) (⟨by omega, by decide⟩) dX7_leaves_66 ?_
          refine j_iconst C dX7_leaves_67 (v := 2) (by decide) ?_
          refine j_icmp_ne (tgt := 98) C dX7_leaves_68 (by decide) (fun h68 => ?_) (fun h68 => ?_)
          · skip
            refine j_iincN C dX7_leaves_98 rfl (by decide) rfl ?_
            refine j_goto (tgt := 48) C dX7_leaves_101 (by decide) ?_
            exact ih (by omega) q (fun j hj => by rcases Nat.lt_succ_iff_lt_or_eq.mp hj with y | y; exact hall j y; rw [y]; exact fun z => h68 z.2.1)
          · replace h68 := Decidable.not_not.mp h68
            refine j_aload_n C dX7_leaves_71 rfl ?_
            refine j_getR (j := 16) C fl_X7_37 dX7_leaves_72 (M.c) rfl (M.r15) ?_
            refine j_iload_n C dX7_leaves_75 rfl ?_
            refine j_ialdN C (M.t16) (⟨by omega, by decide⟩) dX7_leaves_76 ?_
            refine j_aload_n C dX7_leaves_77 rfl ?_
            refine j_getR (j := 16) C fl_X7_37 dX7_leaves_78 (M.c) rfl (M.r15) ?_
            refine j_iload_n C dX7_leaves_81 rfl ?_
            refine j_ialdN C (M.t16) (⟨by omega, by decide⟩) dX7_leaves_82 ?_
            refine j_icmp_ne (tgt := 98) C dX7_leaves_83 (by decide) (fun h83 => ?_) (fun h83 => ?_)
            · skip
              refine j_iincN C dX7_leaves_98 rfl (by decide) rfl ?_
              refine j_goto (tgt := 48) C dX7_leaves_101 (by decide) ?_
              exact ih (by omega) q (fun j hj => by rcases Nat.lt_succ_iff_lt_or_eq.mp hj with y | y; exact hall j y; rw [y]; exact fun z => h83 z.2.2.1)
            · replace h83 := Decidable.not_not.mp h83
              refine j_aload_n C dX7_leaves_86 rfl ?_
              refine j_iconst C dX7_leaves_87 (v := 2) (by decide) ?_
              refine j_iload_n C dX7_leaves_88 rfl ?_
              refine j_iload_n C dX7_leaves_89 rfl ?_
              refine j_callV3Ig C ml_X7_298 dX7_leaves_90 (cM_says0 hg M (N := sc N q) hG hG8 hN hN3 hV hV30 (fun v hv => voteOk_sc (hvo v hv)) (k := 2) (x := nI a) (b := nI o) (vp_inN (by omega) (by decide)) (by rw [eta]; exact hp) (fun z => absurd z (by decide))) ⟨by rw [M.c]; decide, by rw [M.c]; rfl⟩ ⟨Nat.le_of_ble_eq_true rfl, Nat.le_of_ble_eq_true rfl⟩ (Nat.le_of_ble_eq_true rfl) ⟨rfl, rfl⟩ ⟨Nat.zero_le _, Nat.zero_le _⟩ (fun r sh1 N1 hq => ?_)
              obtain ⟨rfl, rfl, ρ, rfl⟩ := hq
              rw [mSays_sc, sc_sr]
              generalize (fun a => if a = 53 then ρ else q a) = q1
              refine j_if_le (tgt := 98) C dX7_leaves_93 (by decide) (fun h93 => ?_) (fun h93 => ?_)
              · skip
                refine j_iincN C dX7_leaves_98 rfl (by decide) rfl ?_
                refine j_goto (tgt := 48) C dX7_leaves_101 (by decide) ?_
                exact ih (by omega) q1 (fun j hj => by rcases Nat.lt_succ_iff_lt_or_eq.mp hj with y | y; exact hall j y; rw [y]; exact fun z => absurd z.2.2.2 (by rw [i_nlt]; exact h93))
              · skip
                refine j_iconst C dX7_leaves_96 (v := 0) (by decide) ?_
                exact j_iret C dX7_leaves_97 rfl ⟨rfl, (pb_f (fun z => z.2 o (by omega) ⟨fun y => h58 (by rw [y]), h68, h83, i_nle.mp h93⟩)).symm, q1, rfl⟩
    · skip
      refine j_iconst C dX7_leaves_44 (v := 0) (by decide) ?_
      exact j_iret C dX7_leaves_45 rfl ⟨rfl, (pb_f (fun z => h41 z.1)).symm, q, rfl⟩
  refine j_nm (fun N0 hN0 => ?_)
  rw [← sc_self N] at hN0
  subst hN0
  refine j_aload_n C dX7_leaves_0 rfl ?_
  refine j_iconst C dX7_leaves_1 (v := 0) (by decide) ?_
  refine j_iload_n C dX7_leaves_2 rfl ?_
  refine j_iconst C dX7_leaves_3 (v := 0) (by decide) ?_
  refine j_callV3Ig C ml_X7_298 dX7_leaves_4 (cM_says0 hg M (N := sc N N) hG hG8 hN hN3 hV hV30 (fun v hv => voteOk_sc (hvo v hv)) (k := 0) (x := nI a) (b := 0) (vp_inN (by omega) (by decide)) (by rw [eta]; exact hp) (fun z => absurd z (by decide))) ⟨by rw [M.c]; decide, by rw [M.c]; rfl⟩ ⟨Nat.le_of_ble_eq_true rfl, Nat.le_of_ble_eq_true rfl⟩ (Nat.le_of_ble_eq_true rfl) ⟨rfl, rfl⟩ ⟨Nat.zero_le _, Nat.zero_le _⟩ (fun r sh1 N1 hq => ?_)
  obtain ⟨rfl, rfl, ρ, rfl⟩ := hq
  rw [mSays_sc, sc_sr]
  generalize (fun a => if a = 53 then ρ else N a) = q
  refine j_istore_n C dX7_leaves_7 (by decide) rfl ?_
  refine j_iload_n C dX7_leaves_8 rfl ?_
  refine j_if_ge (tgt := 16) C dX7_leaves_9 (by decide) (fun h9 => ?_) (fun h9 => ?_)
  · skip
    refine j_iload_n C dX7_leaves_16 rfl ?_
    refine j_bipush C dX7_leaves_17 (v := 30) (by decide) ?_
    refine j_icmp_le (tgt := 27) C dX7_leaves_19 (by decide) (fun h19 => ?_) (fun h19 => ?_)
    · skip
      refine j_iload_n C dX7_leaves_27 rfl ?_
      refine j_istore_n C dX7_leaves_28 (by decide) rfl ?_
      exact key q (by rw [mStay, if_pos h9, if_pos h19])
    · skip
      refine j_bipush C dX7_leaves_22 (v := 30) (by decide) ?_
      refine j_goto (tgt := 28) C dX7_leaves_24 (by decide) ?_
      refine j_istore_n C dX7_leaves_28 (by decide) rfl ?_
      exact key q (by rw [mStay, if_pos h9, if_neg h19])
  · skip
    refine j_iconst C dX7_leaves_12 (v := 0) (by decide) ?_
    refine j_goto (tgt := 28) C dX7_leaves_13 (by decide) ?_
    refine j_istore_n C dX7_leaves_28 (by decide) rfl ?_
    exact key q (by rw [mStay, if_neg h9])
