/-! ===== THE REFERENCE: simple public methods ===== -/
theorem inC {x h : Int32} {n : Nat} (hx : 0 ≤ x ∧ x ≤ h) (hh : h = nI n - 1) (hn : n < 1073741824) : vp_in x n := by
  obtain ⟨k, hk, rfl, -⟩ := rngC hx hh hn
  exact vp_inN hk (by omega)
theorem inG {x : Int32} {y : Int32} {n m : Nat} (hx : 0 ≤ x ∧ x ≤ y - 1) (hy : y = nI n) (hn : n ≤ m) (hm : m < 1073741824) : vp_in x m := by
  obtain ⟨k, hk, rfl, -⟩ := rngN (n := n) (by rw [← hy]; exact hx) (by omega)
  exact vp_inN (by omega) (by omega)
theorem in_pred {x : Int32} {n m : Nat} (hx : x = nI n) (h0 : ¬ x = 0) (hn : n ≤ m) (hm : m < 1073741824) : vp_in (x - 1) m := by
  subst hx
  cases n with
  | zero => exact absurd rfl h0
  | succ q => rw [nI_pred]; exact vp_inN (by omega) (by omega)
theorem in10 {x y : Int32} (hx : vp_in x 8) (hy : vp_in y 10) : vp_in (10 * x + y) 80 := by
  obtain ⟨a, ha, rfl⟩ := vp_in_of hx (by omega)
  obtain ⟨b, hb, rfl⟩ := vp_in_of hy (by omega)
  rw [ix10]
  exact vp_inN (by omega) (by omega)

def mPurse (N : WNm) (p v : Int32) : Int32 × WNm := if 0 ≤ p ∧ p ≤ 9 then (if 1 ≤ v ∧ v ≤ 100000 then (u2 (u2 N 3 (tn p) (N 3 (tn p) + v)) 0 4 (u2 N 3 (tn p) (N 3 (tn p) + v) 0 4 + v) 3 (tn p), u2 (u2 N 3 (tn p) (N 3 (tn p) + v)) 0 4 (u2 N 3 (tn p) (N 3 (tn p) + v) 0 4 + v)) else (-2000000000, N)) else (-2000000000, N)
theorem cM_purse {l : Launch} {g : WGp} (hg : GOK g) {sh : WSh} {N : WNm} (M : MSh sh)  (p0 v : Int32) : CT l g yX7_purse cX7_purse 3 (some .int) (RM 3 0 0) [.ref (sh.2.2 0), .int p0, .int v] sh N (QF g sh (mPurse N p0 v).2 (mPurse N p0 v).1) := by
  refine ent hg (by decide +kernel) (Nat.le_of_ble_eq_true rfl) ?_
  intro p e s m args below meth c C hname
  refine j_iload_n C dX7_purse_0 rfl ?_
  refine j_callS1I C ml_X7_146 dX7_purse_1 (cM_isPerson hg _) ⟨Nat.le_of_ble_eq_true rfl, Nat.le_of_ble_eq_true rfl⟩ (Nat.le_of_ble_eq_true rfl) ⟨rfl, rfl⟩ ⟨Nat.zero_le _, Nat.zero_le _⟩ ?_
  refine j_if_eq (tgt := 17) C dX7_purse_4 (by decide) (fun h4 => ?_) (fun h4 => ?_)
  · replace h4 := b2_eq0.mp h4
    refine j_ldc C kc_X7_151 dX7_purse_17 ?_
    refine j_iret C dX7_purse_19 rfl ⟨rfl, ?_, ?_⟩ <;> rw [mPurse, if_neg h4] <;> try rfl
  · replace h4 := b2_ne0.mp h4
    refine j_iload_n C dX7_purse_7 rfl ?_
    refine j_iconst C dX7_purse_8 (v := 1) (by decide) ?_
    refine j_ldc C kc_X7_150 dX7_purse_9 ?_
    refine j_callS3I C ml_X7_133 dX7_purse_11 (cM_in hg _ _ _) ⟨Nat.le_of_ble_eq_true rfl, Nat.le_of_ble_eq_true rfl⟩ (Nat.le_of_ble_eq_true rfl) ⟨rfl, rfl⟩ ⟨Nat.zero_le _, Nat.zero_le _⟩ ?_
    refine j_if_ne (tgt := 20) C dX7_purse_14 (by decide) (fun h14 => ?_) (fun h14 => ?_)
    · replace h14 := b2_ne0.mp h14
      refine j_aload_n C dX7_purse_20 rfl ?_
      refine j_getR (j := 3) C fl_X7_7 dX7_purse_21 (M.c) rfl (M.r2) ?_
      refine j_iload_n C dX7_purse_24 rfl ?_
      refine j_dup2 C dX7_purse_25 rfl rfl ?_
      refine j_iald C (M.t3) (inC h4 rfl (by decide)) dX7_purse_26 ?_
      refine j_iload_n C dX7_purse_27 rfl ?_
      refine j_iadd C dX7_purse_28 ?_
      refine j_iast C (M.t3) (inC h4 rfl (by decide)) dX7_purse_29 ?_
      refine j_aload_n C dX7_purse_30 rfl ?_
      refine j_dup C dX7_purse_31 rfl ?_
      refine j_getI C fl_X7_152 dX7_purse_32 (M.c) rfl ?_
      refine j_iload_n C dX7_purse_35 rfl ?_
      refine j_iadd C dX7_purse_36 ?_
      refine j_putI C fl_X7_152 dX7_purse_37 (M.c) rfl rfl rfl rfl ?_
      refine j_aload_n C dX7_purse_40 rfl ?_
      refine j_getR (j := 3) C fl_X7_7 dX7_purse_41 (M.c) rfl (M.r2) ?_
      refine j_iload_n C dX7_purse_44 rfl ?_
      refine j_iald C (M.t3) (inC h4 rfl (by decide)) dX7_purse_45 ?_
      refine j_iret C dX7_purse_46 rfl ⟨rfl, ?_, ?_⟩ <;> rw [mPurse, if_pos h4, if_pos h14] <;> try rfl
    · replace h14 := b2_eq0.mp (Decidable.not_not.mp h14)
      refine j_ldc C kc_X7_151 dX7_purse_17 ?_
      refine j_iret C dX7_purse_19 rfl ⟨rfl, ?_, ?_⟩ <;> rw [mPurse, if_pos h4, if_neg h14] <;> try rfl

def mWind (N : WNm) (d w : Int32) : Int32 × WNm := if 0 ≤ d ∧ d ≤ 29 then (if -9 ≤ w ∧ w ≤ 9 then (N 9 (tn d), u2 N 9 (tn d) w) else (-100, N)) else (-100, N)
theorem cM_wind {l : Launch} {g : WGp} (hg : GOK g) {sh : WSh} {N : WNm} (M : MSh sh)  (d0 w : Int32) : CT l g yX7_wind cX7_wind 4 (some .int) (RM 2 0 0) [.ref (sh.2.2 0), .int d0, .int w] sh N (QF g sh (mWind N d0 w).2 (mWind N d0 w).1) := by
  refine ent hg (by decide +kernel) (Nat.le_of_ble_eq_true rfl) ?_
  intro p e s m args below meth c C hname
  refine j_iload_n C dX7_wind_0 rfl ?_
  refine j_iconst C dX7_wind_1 (v := 0) (by decide) ?_
  refine j_bipush C dX7_wind_2 (v := 29) (by decide) ?_
  refine j_callS3I C ml_X7_133 dX7_wind_4 (cM_in hg _ _ _) ⟨Nat.le_of_ble_eq_true rfl, Nat.le_of_ble_eq_true rfl⟩ (Nat.le_of_ble_eq_true rfl) ⟨rfl, rfl⟩ ⟨Nat.zero_le _, Nat.zero_le _⟩ ?_
  refine j_if_eq (tgt := 21) C dX7_wind_7 (by decide) (fun h7 => ?_) (fun h7 => ?_)
  · replace h7 := b2_eq0.mp h7
    refine j_bipush C dX7_wind_21 (v := (-100)) (by decide) ?_
    refine j_iret C dX7_wind_23 rfl ⟨rfl, ?_, ?_⟩ <;> rw [mWind, if_neg h7] <;> try rfl
  · replace h7 := b2_ne0.mp h7
    refine j_iload_n C dX7_wind_10 rfl ?_
    refine j_bipush C dX7_wind_11 (v := (-9)) (by decide) ?_
    refine j_bipush C dX7_wind_13 (v := 9) (by decide) ?_
    refine j_callS3I C ml_X7_133 dX7_wind_15 (cM_in hg _ _ _) ⟨Nat.le_of_ble_eq_true rfl, Nat.le_of_ble_eq_true rfl⟩ (Nat.le_of_ble_eq_true rfl) ⟨rfl, rfl⟩ ⟨Nat.zero_le _, Nat.zero_le _⟩ ?_
    refine j_if_ne (tgt := 24) C dX7_wind_18 (by decide) (fun h18 => ?_) (fun h18 => ?_)
    · replace h18 := b2_ne0.mp h18
      refine j_aload_n C dX7_wind_24 rfl ?_
      refine j_getR (j := 9) C fl_X7_19 dX7_wind_25 (M.c) rfl (M.r8) ?_
      refine j_iload_n C dX7_wind_28 rfl ?_
      refine j_iald C (M.t9) (inC h7 rfl (by decide)) dX7_wind_29 ?_
      refine j_istore_n C dX7_wind_30 (by decide) rfl ?_
      refine j_aload_n C dX7_wind_31 rfl ?_
      refine j_getR (j := 9) C fl_X7_19 dX7_wind_32 (M.c) rfl (M.r8) ?_
      refine j_iload_n C dX7_wind_35 rfl ?_
      refine j_iload_n C dX7_wind_36 rfl ?_
      refine j_iast C (M.t9) (inC h7 rfl (by decide)) dX7_wind_37 ?_
      refine j_iload_n C dX7_wind_38 rfl ?_
      refine j_iret C dX7_wind_39 rfl ⟨rfl, ?_, ?_⟩ <;> rw [mWind, if_pos h7, if_pos h18] <;> try rfl
    · replace h18 := b2_eq0.mp (Decidable.not_not.mp h18)
      refine j_bipush C dX7_wind_21 (v := (-100)) (by decide) ?_
      refine j_iret C dX7_wind_23 rfl ⟨rfl, ?_, ?_⟩ <;> rw [mWind, if_pos h7, if_neg h18] <;> try rfl

def mGalley (N : WNm) (r b s h : Int32) : Int32 × WNm := if 1 ≤ r ∧ r ≤ 999 then (if 1 ≤ b ∧ b ≤ 9999 then (if 1 ≤ s ∧ s ≤ 9 then (if 1 ≤ h ∧ h ≤ 9999 then (if N 0 9 = 8 then (-3, N) else (N 0 9, u2 (u2 (u2 (u2 (u2 N 11 (tn (N 0 9)) r) 12 (tn (N 0 9)) b) 13 (tn (N 0 9)) s) 14 (tn (N 0 9)) h) 0 9 (N 0 9 + 1))) else (-1, N)) else (-1, N)) else (-1, N)) else (-1, N)
theorem cM_galley {l : Launch} {g : WGp} (hg : GOK g) {sh : WSh} {N : WNm} (M : MSh sh) {nG : Nat} (hG : N 0 9 = nI nG) (hG8 : nG ≤ 8) (r b s0 h0 : Int32) : CT l g yX7_galley cX7_galley 6 (some .int) (RM 2 0 0) [.ref (sh.2.2 0), .int r, .int b, .int s0, .int h0] sh N (QF g sh (mGalley N r b s0 h0).2 (mGalley N r b s0 h0).1) := by
  refine ent hg (by decide +kernel) (Nat.le_of_ble_eq_true rfl) ?_
  intro p e s m args below meth c C hname
  refine j_iload_n C dX7_galley_0 rfl ?_
  refine j_iconst C dX7_galley_1 (v := 1) (by decide) ?_
  refine j_sipush C dX7_galley_2 (v := 999) (by decide) ?_
  refine j_callS3I C ml_X7_133 dX7_galley_5 (cM_in hg _ _ _) ⟨Nat.le_of_ble_eq_true rfl, Nat.le_of_ble_eq_true rfl⟩ (Nat.le_of_ble_eq_true rfl) ⟨rfl, rfl⟩ ⟨Nat.zero_le _, Nat.zero_le _⟩ ?_
  refine j_if_eq (tgt := 44) C dX7_galley_8 (by decide) (fun h8 => ?_) (fun h8 => ?_)
  · replace h8 := b2_eq0.mp h8
    refine j_iconst C dX7_galley_44 (v := (-1)) (by decide) ?_
    refine j_iret C dX7_galley_45 rfl ⟨rfl, ?_, ?_⟩ <;> rw [mGalley, if_neg h8] <;> try rfl
  · replace h8 := b2_ne0.mp h8
    refine j_iload_n C dX7_galley_11 rfl ?_
    refine j_iconst C dX7_galley_12 (v := 1) (by decide) ?_
    refine j_sipush C dX7_galley_13 (v := 9999) (by decide) ?_
    refine j_callS3I C ml_X7_133 dX7_galley_16 (cM_in hg _ _ _) ⟨Nat.le_of_ble_eq_true rfl, Nat.le_of_ble_eq_true rfl⟩ (Nat.le_of_ble_eq_true rfl) ⟨rfl, rfl⟩ ⟨Nat.zero_le _, Nat.zero_le _⟩ ?_
    refine j_if_eq (tgt := 44) C dX7_galley_19 (by decide) (fun h19 => ?_) (fun h19 => ?_)
    · replace h19 := b2_eq0.mp h19
      refine j_iconst C dX7_galley_44 (v := (-1)) (by decide) ?_
      refine j_iret C dX7_galley_45 rfl ⟨rfl, ?_, ?_⟩ <;> rw [mGalley, if_pos h8, if_neg h19] <;> try rfl
    · replace h19 := b2_ne0.mp h19
      refine j_iload_n C dX7_galley_22 rfl ?_
      refine j_iconst C dX7_galley_23 (v := 1) (by decide) ?_
      refine j_bipush C dX7_galley_24 (v := 9) (by decide) ?_
      refine j_callS3I C ml_X7_133 dX7_galley_26 (cM_in hg _ _ _) ⟨Nat.le_of_ble_eq_true rfl, Nat.le_of_ble_eq_true rfl⟩ (Nat.le_of_ble_eq_true rfl) ⟨rfl, rfl⟩ ⟨Nat.zero_le _, Nat.zero_le _⟩ ?_
      refine j_if_eq (tgt := 44) C dX7_galley_29 (by decide) (fun h29 => ?_) (fun h29 => ?_)
      · replace h29 := b2_eq0.mp h29
        refine j_iconst C dX7_galley_44 (v := (-1)) (by decide) ?_
        refine j_iret C dX7_galley_45 rfl ⟨rfl, ?_, ?_⟩ <;> rw [mGalley, if_pos h8, if_pos h19, if_neg h29] <;> try rfl
      · replace h29 := b2_ne0.mp h29
        refine j_iload C dX7_galley_32 rfl ?_
        refine j_iconst C dX7_galley_34 (v := 1) (by decide) ?_
        refine j_sipush C dX7_galley_35 (v := 9999) (by decide) ?_
        refine j_callS3I C ml_X7_133 dX7_galley_38 (cM_in hg _ _ _) ⟨Nat.le_of_ble_eq_true rfl, Nat.le_of_ble_eq_true rfl⟩ (Nat.le_of_ble_eq_true rfl) ⟨rfl, rfl⟩ ⟨Nat.zero_le _, Nat.zero_le _⟩ ?_
        refine j_if_ne (tgt := 46) C dX7_galley_41 (by decide) (fun h41 => ?_) (fun h41 => ?_)
        · replace h41 := b2_ne0.mp h41
          refine j_aload_n C dX7_galley_46 rfl ?_
          refine j_getI C fl_X7_140 dX7_galley_47 (M.c) rfl ?_
          refine j_bipush C dX7_galley_50 (v := 8) (by decide) ?_
          refine j_icmp_ne (tgt := 58) C dX7_galley_52 (by decide) (fun h52 => ?_) (fun h52 => ?_)
          · skip
            have hin : vp_in (N 0 9) 8 := by
              rw [hG] at h52 ⊢
              exact vp_inN (by rcases Nat.lt_or_ge nG 8 with q | q; exact q; exact absurd (by rw [show nG = 8 by omega]; rfl) h52) (by decide)
            refine j_aload_n C dX7_galley_58 rfl ?_
            refine j_getI C fl_X7_140 dX7_galley_59 (M.c) rfl ?_
            refine j_istore C dX7_galley_62 (by decide) rfl ?_
            refine j_aload_n C dX7_galley_64 rfl ?_
            refine j_getR (j := 11) C fl_X7_22 dX7_galley_65 (M.c) rfl (M.r10) ?_
            refine j_iload C dX7_galley_68 rfl ?_
            refine j_iload_n C dX7_galley_70 rfl ?_
            refine j_iast C (M.t11) (hin) dX7_galley_71 ?_
            refine j_aload_n C dX7_galley_72 rfl ?_
            refine j_getR (j := 12) C fl_X7_25 dX7_galley_73 (M.c) rfl (M.r11) ?_
            refine j_iload C dX7_galley_76 rfl ?_
            refine j_iload_n C dX7_galley_78 rfl ?_
            refine j_iast C (M.t12) (hin) dX7_galley_79 ?_
            refine j_aload_n C dX7_galley_80 rfl ?_
            refine j_getR (j := 13) C fl_X7_28 dX7_galley_81 (M.c) rfl (M.r12) ?_
            refine j_iload C dX7_galley_84 rfl ?_
            refine j_iload_n C dX7_galley_86 rfl ?_
            refine j_iast C (M.t13) (hin) dX7_galley_87 ?_
            refine j_aload_n C dX7_galley_88 rfl ?_
            refine j_getR (j := 14) C fl_X7_31 dX7_galley_89 (M.c) rfl (M.r13) ?_
            refine j_iload C dX7_galley_92 rfl ?_
            refine j_iload C dX7_galley_94 rfl ?_
            refine j_iast C (M.t14) (hin) dX7_galley_96 ?_
            refine j_aload_n C dX7_galley_97 rfl ?_
            refine j_dup C dX7_galley_98 rfl ?_
            refine j_getI C fl_X7_140 dX7_galley_99 (M.c) rfl ?_
            refine j_iconst C dX7_galley_102 (v := 1) (by decide) ?_
            refine j_iadd C dX7_galley_103 ?_
            refine j_putI C fl_X7_140 dX7_galley_104 (M.c) rfl rfl rfl rfl ?_
            refine j_iload C dX7_galley_107 rfl ?_
            refine j_iret C dX7_galley_109 rfl ⟨rfl, ?_, ?_⟩ <;> rw [mGalley, if_pos h8, if_pos h19, if_pos h29, if_pos h41, if_neg h52] <;> try rfl
          · replace h52 := Decidable.not_not.mp h52
            refine j_bipush C dX7_galley_55 (v := (-3)) (by decide) ?_
            refine j_iret C dX7_galley_57 rfl ⟨rfl, ?_, ?_⟩ <;> rw [mGalley, if_pos h8, if_pos h19, if_pos h29, if_pos h41, if_pos h52] <;> try rfl
        · replace h41 := b2_eq0.mp (Decidable.not_not.mp h41)
          refine j_iconst C dX7_galley_44 (v := (-1)) (by decide) ?_
          refine j_iret C dX7_galley_45 rfl ⟨rfl, ?_, ?_⟩ <;> rw [mGalley, if_pos h8, if_pos h19, if_pos h29, if_neg h41] <;> try rfl

def mBid (N : WNm) (x p c : Int32) : Int32 × WNm := if 0 ≤ x ∧ x ≤ N 0 9 - 1 then (if 0 ≤ p ∧ p ≤ 9 then (if 1 ≤ c ∧ c ≤ 1000000 then (if N 22 (tn x) = 0 then (if c ≤ N 20 (tn x) then (-2, N) else (if c ≤ N 3 (tn p) then (1, u2 (u2 N 20 (tn x) c) 21 (tn x) p) else (-2, N))) else (-2, N)) else (-1, N)) else (-1, N)) else (-1, N)
theorem cM_bid {l : Launch} {g : WGp} (hg : GOK g) {sh : WSh} {N : WNm} (M : MSh sh) {nG : Nat} (hG : N 0 9 = nI nG) (hG8 : nG ≤ 8) (x p0 c0 : Int32) : CT l g yX7_bid cX7_bid 4 (some .int) (RM 3 0 0) [.ref (sh.2.2 0), .int x, .int p0, .int c0] sh N (QF g sh (mBid N x p0 c0).2 (mBid N x p0 c0).1) := by
  refine ent hg (by decide +kernel) (Nat.le_of_ble_eq_true rfl) ?_
  intro p e s m args below meth c C hname
  refine j_aload_n C dX7_bid_0 rfl ?_
  refine j_iload_n C dX7_bid_1 rfl ?_
  refine j_callV1I C ml_X7_155 dX7_bid_2 (cM_isGalley hg M _) ⟨by rw [M.c]; decide, by rw [M.c]; rfl⟩ ⟨Nat.le_of_ble_eq_true rfl, Nat.le_of_ble_eq_true rfl⟩ (Nat.le_of_ble_eq_true rfl) ⟨rfl, rfl⟩ ⟨Nat.zero_le _, Nat.zero_le _⟩ ?_
  refine j_if_eq (tgt := 25) C dX7_bid_5 (by decide) (fun h5 => ?_) (fun h5 => ?_)
  · replace h5 := b2_eq0.mp h5
    refine j_iconst C dX7_bid_25 (v := (-1)) (by decide) ?_
    refine j_iret C dX7_bid_26 rfl ⟨rfl, ?_, ?_⟩ <;> rw [mBid, if_neg h5] <;> try rfl
  · replace h5 := b2_ne0.mp h5
    refine j_iload_n C dX7_bid_8 rfl ?_
    refine j_callS1I C ml_X7_146 dX7_bid_9 (cM_isPerson hg _) ⟨Nat.le_of_ble_eq_true rfl, Nat.le_of_ble_eq_true rfl⟩ (Nat.le_of_ble_eq_true rfl) ⟨rfl, rfl⟩ ⟨Nat.zero_le _, Nat.zero_le _⟩ ?_
    refine j_if_eq (tgt := 25) C dX7_bid_12 (by decide) (fun h12 => ?_) (fun h12 => ?_)
    · replace h12 := b2_eq0.mp h12
      refine j_iconst C dX7_bid_25 (v := (-1)) (by decide) ?_
      refine j_iret C dX7_bid_26 rfl ⟨rfl, ?_, ?_⟩ <;> rw [mBid, if_pos h5, if_neg h12] <;> try rfl
    · replace h12 := b2_ne0.mp h12
      refine j_iload_n C dX7_bid_15 rfl ?_
      refine j_iconst C dX7_bid_16 (v := 1) (by decide) ?_
      refine j_ldc C kc_X7_158 dX7_bid_17 ?_
      refine j_callS3I C ml_X7_133 dX7_bid_19 (cM_in hg _ _ _) ⟨Nat.le_of_ble_eq_true rfl, Nat.le_of_ble_eq_true rfl⟩ (Nat.le_of_ble_eq_true rfl) ⟨rfl, rfl⟩ ⟨Nat.zero_le _, Nat.zero_le _⟩ ?_
      refine j_if_ne (tgt := 27) C dX7_bid_22 (by decide) (fun h22 => ?_) (fun h22 => ?_)
      · replace h22 := b2_ne0.mp h22
        refine j_aload_n C dX7_bid_27 rfl ?_
        refine j_getR (j := 22) C fl_X7_55 dX7_bid_28 (M.c) rfl (M.r21) ?_
        refine j_iload_n C dX7_bid_31 rfl ?_
        refine j_zald C (M.t22) (inG h5 hG hG8 (by decide)) dX7_bid_32 ?_
        refine j_if_ne (tgt := 56) C dX7_bid_33 (by decide) (fun h33 => ?_) (fun h33 => ?_)
        · skip
          refine j_bipush C dX7_bid_56 (v := (-2)) (by decide) ?_
          refine j_iret C dX7_bid_58 rfl ⟨rfl, ?_, ?_⟩ <;> rw [mBid, if_pos h5, if_pos h12, if_pos h22, if_neg h33] <;> try rfl
        · replace h33 := Decidable.not_not.mp h33
          refine j_iload_n C dX7_bid_36 rfl ?_
          refine j_aload_n C dX7_bid_37 rfl ?_
          refine j_getR (j := 20) C fl_X7_49 dX7_bid_38 (M.c) rfl (M.r19) ?_
          refine j_iload_n C dX7_bid_41 rfl ?_
          refine j_iald C (M.t20) (inG h5 hG hG8 (by decide)) dX7_bid_42 ?_
          refine j_icmp_le (tgt := 56) C dX7_bid_43 (by decide) (fun h43 => ?_) (fun h43 => ?_)
          · skip
            refine j_bipush C dX7_bid_56 (v := (-2)) (by decide) ?_
            refine j_iret C dX7_bid_58 rfl ⟨rfl, ?_, ?_⟩ <;> rw [mBid, if_pos h5, if_pos h12, if_pos h22, if_pos h33, if_pos h43] <;> try rfl
          · skip
            refine j_aload_n C dX7_bid_46 rfl ?_
            refine j_getR (j := 3) C fl_X7_7 dX7_bid_47 (M.c) rfl (M.r2) ?_
            refine j_iload_n C dX7_bid_50 rfl ?_
            refine j_iald C (M.t3) (inC h12 rfl (by decide)) dX7_bid_51 ?_
            refine j_iload_n C dX7_bid_52 rfl ?_
            refine j_icmp_ge (tgt := 59) C dX7_bid_53 (by decide) (fun h53 => ?_) (fun h53 => ?_)
            · skip
              refine j_aload_n C dX7_bid_59 rfl ?_
              refine j_getR (j := 20) C fl_X7_49 dX7_bid_60 (M.c) rfl (M.r19) ?_
              refine j_iload_n C dX7_bid_63 rfl ?_
              refine j_iload_n C dX7_bid_64 rfl ?_
              refine j_iast C (M.t20) (inG h5 hG hG8 (by decide)) dX7_bid_65 ?_
              refine j_aload_n C dX7_bid_66 rfl ?_
              refine j_getR (j := 21) C fl_X7_52 dX7_bid_67 (M.c) rfl (M.r20) ?_
              refine j_iload_n C dX7_bid_70 rfl ?_
              refine j_iload_n C dX7_bid_71 rfl ?_
              refine j_iast C (M.t21) (inG h5 hG hG8 (by decide)) dX7_bid_72 ?_
              refine j_iconst C dX7_bid_73 (v := 1) (by decide) ?_
              refine j_iret C dX7_bid_74 rfl ⟨rfl, ?_, ?_⟩ <;> rw [mBid, if_pos h5, if_pos h12, if_pos h22, if_pos h33, if_neg h43, if_pos h53] <;> try rfl
            · skip
              refine j_bipush C dX7_bid_56 (v := (-2)) (by decide) ?_
              refine j_iret C dX7_bid_58 rfl ⟨rfl, ?_, ?_⟩ <;> rw [mBid, if_pos h5, if_pos h12, if_pos h22, if_pos h33, if_neg h43, if_neg h53] <;> try rfl
      · replace h22 := b2_eq0.mp (Decidable.not_not.mp h22)
        refine j_iconst C dX7_bid_25 (v := (-1)) (by decide) ?_
        refine j_iret C dX7_bid_26 rfl ⟨rfl, ?_, ?_⟩ <;> rw [mBid, if_pos h5, if_pos h12, if_neg h22] <;> try rfl

def mLet3 (N : WNm) (x : Int32) : WNm := u2 N 3 (tn (N 21 (tn x))) (N 3 (tn (N 21 (tn x))) - N 20 (tn x))
def mLet (N : WNm) (x : Int32) : Int32 × WNm := if 0 ≤ x ∧ x ≤ N 0 9 - 1 then (if N 22 (tn x) = 0 then (if N 20 (tn x) = 0 then (-2, N) else (if N 20 (tn x) ≤ N 3 (tn (N 21 (tn x))) then (N 21 (tn x), u2 (u2 (u2 (mLet3 N x) 0 3 (mLet3 N x 0 3 + mLet3 N x 20 (tn x))) 22 (tn x) 1) 23 (tn (10 * x + N 21 (tn x))) 24) else (-2, u2 N 20 (tn x) 0))) else (-2, N)) else (-1, N)
theorem cM_let {l : Launch} {g : WGp} (hg : GOK g) {sh : WSh} {N : WNm} (M : MSh sh) {nG : Nat} (hG : N 0 9 = nI nG) (hG8 : nG ≤ 8) (hB : ∀ k, k < nG → vp_in (N 21 k) 10) (x : Int32) : CT l g yX7_let cX7_let 3 (some .int) (RM 3 0 0) [.ref (sh.2.2 0), .int x] sh N (QF g sh (mLet N x).2 (mLet N x).1) := by
  refine ent hg (by decide +kernel) (Nat.le_of_ble_eq_true rfl) ?_
  intro p e s m args below meth c C hname
  refine j_aload_n C dX7_let_0 rfl ?_
  refine j_iload_n C dX7_let_1 rfl ?_
  refine j_callV1I C ml_X7_155 dX7_let_2 (cM_isGalley hg M _) ⟨by rw [M.c]; decide, by rw [M.c]; rfl⟩ ⟨Nat.le_of_ble_eq_true rfl, Nat.le_of_ble_eq_true rfl⟩ (Nat.le_of_ble_eq_true rfl) ⟨rfl, rfl⟩ ⟨Nat.zero_le _, Nat.zero_le _⟩ ?_
  refine j_if_ne (tgt := 10) C dX7_let_5 (by decide) (fun h5 => ?_) (fun h5 => ?_)
  · replace h5 := b2_ne0.mp h5
    have hb : vp_in (N 21 (tn x)) 10 := by
      obtain ⟨k, hk, e1, e2⟩ := rngN (n := nG) (by rw [← hG]; exact h5) (by omega)
      rw [e2]; exact hB k hk
    refine j_aload_n C dX7_let_10 rfl ?_
    refine j_getR (j := 22) C fl_X7_55 dX7_let_11 (M.c) rfl (M.r21) ?_
    refine j_iload_n C dX7_let_14 rfl ?_
    refine j_zald C (M.t22) (inG h5 hG hG8 (by decide)) dX7_let_15 ?_
    refine j_if_ne (tgt := 28) C dX7_let_16 (by decide) (fun h16 => ?_) (fun h16 => ?_)
    · skip
      refine j_bipush C dX7_let_28 (v := (-2)) (by decide) ?_
      refine j_iret C dX7_let_30 rfl ⟨rfl, ?_, ?_⟩ <;> rw [mLet, if_pos h5, if_neg h16] <;> try rfl
    · replace h16 := Decidable.not_not.mp h16
      refine j_aload_n C dX7_let_19 rfl ?_
      refine j_getR (j := 20) C fl_X7_49 dX7_let_20 (M.c) rfl (M.r19) ?_
      refine j_iload_n C dX7_let_23 rfl ?_
      refine j_iald C (M.t20) (inG h5 hG hG8 (by decide)) dX7_let_24 ?_
      refine j_if_ne (tgt := 31) C dX7_let_25 (by decide) (fun h25 => ?_) (fun h25 => ?_)
      · skip
        refine j_aload_n C dX7_let_31 rfl ?_
        refine j_getR (j := 21) C fl_X7_52 dX7_let_32 (M.c) rfl (M.r20) ?_
        refine j_iload_n C dX7_let_35 rfl ?_
        refine j_iald C (M.t21) (inG h5 hG hG8 (by decide)) dX7_let_36 ?_
        refine j_istore_n C dX7_let_37 (by decide) rfl ?_
        refine j_aload_n C dX7_let_38 rfl ?_
        refine j_getR (j := 3) C fl_X7_7 dX7_let_39 (M.c) rfl (M.r2) ?_
        refine j_iload_n C dX7_let_42 rfl ?_
        refine j_iald C (M.t3) (hb) dX7_let_43 ?_
        refine j_aload_n C dX7_let_44 rfl ?_
        refine j_getR (j := 20) C fl_X7_49 dX7_let_45 (M.c) rfl (M.r19) ?_
        refine j_iload_n C dX7_let_48 rfl ?_
        refine j_iald C (M.t20) (inG h5 hG hG8 (by decide)) dX7_let_49 ?_
        refine j_icmp_ge (tgt := 63) C dX7_let_50 (by decide) (fun h50 => ?_) (fun h50 => ?_)
        · skip
          refine j_aload_n C dX7_let_63 rfl ?_
          refine j_getR (j := 3) C fl_X7_7 dX7_let_64 (M.c) rfl (M.r2) ?_
          refine j_iload_n C dX7_let_67 rfl ?_
          refine j_dup2 C dX7_let_68 rfl rfl ?_
          refine j_iald C (M.t3) (hb) dX7_let_69 ?_
          refine j_aload_n C dX7_let_70 rfl ?_
          refine j_getR (j := 20) C fl_X7_49 dX7_let_71 (M.c) rfl (M.r19) ?_
          refine j_iload_n C dX7_let_74 rfl ?_
          refine j_iald C (M.t20) (inG h5 hG hG8 (by decide)) dX7_let_75 ?_
          refine j_isub C dX7_let_76 ?_
          refine j_iast C (M.t3) (hb) dX7_let_77 ?_
          refine j_aload_n C dX7_let_78 rfl ?_
          refine j_dup C dX7_let_79 rfl ?_
          refine j_getI C fl_X7_159 dX7_let_80 (M.c) rfl ?_
          refine j_aload_n C dX7_let_83 rfl ?_
          refine j_getR (j := 20) C fl_X7_49 dX7_let_84 (M.c) rfl (M.r19) ?_
          refine j_iload_n C dX7_let_87 rfl ?_
          refine j_iald C (M.t20) (inG h5 hG hG8 (by decide)) dX7_let_88 ?_
          refine j_iadd C dX7_let_89 ?_
          refine j_putI C fl_X7_159 dX7_let_90 (M.c) rfl rfl rfl rfl ?_
          refine j_aload_n C dX7_let_93 rfl ?_
          refine j_getR (j := 22) C fl_X7_55 dX7_let_94 (M.c) rfl (M.r21) ?_
          refine j_iload_n C dX7_let_97 rfl ?_
          refine j_iconst C dX7_let_98 (v := 1) (by decide) ?_
          refine j_zast C (M.t22) (inG h5 hG hG8 (by decide)) (rfl) dX7_let_99 ?_
          refine j_aload_n C dX7_let_100 rfl ?_
          refine j_getR (j := 23) C fl_X7_59 dX7_let_101 (M.c) rfl (M.r22) ?_
          refine j_bipush C dX7_let_104 (v := 10) (by decide) ?_
          refine j_iload_n C dX7_let_106 rfl ?_
          refine j_imul C dX7_let_107 ?_
          refine j_iload_n C dX7_let_108 rfl ?_
          refine j_iadd C dX7_let_109 ?_
          refine j_bipush C dX7_let_110 (v := 24) (by decide) ?_
          refine j_iast C (M.t23) (in10 (inG h5 hG hG8 (by decide)) hb) dX7_let_112 ?_
          refine j_iload_n C dX7_let_113 rfl ?_
          refine j_iret C dX7_let_114 rfl ⟨rfl, ?_, ?_⟩ <;> rw [mLet, if_pos h5, if_pos h16, if_neg h25, if_pos h50] <;> try rfl
        · skip
          refine j_aload_n C dX7_let_53 rfl ?_
          refine j_getR (j := 20) C fl_X7_49 dX7_let_54 (M.c) rfl (M.r19) ?_
          refine j_iload_n C dX7_let_57 rfl ?_
          refine j_iconst C dX7_let_58 (v := 0) (by decide) ?_
          refine j_iast C (M.t20) (inG h5 hG hG8 (by decide)) dX7_let_59 ?_
          refine j_bipush C dX7_let_60 (v := (-2)) (by decide) ?_
          refine j_iret C dX7_let_62 rfl ⟨rfl, ?_, ?_⟩ <;> rw [mLet, if_pos h5, if_pos h16, if_neg h25, if_neg h50] <;> try rfl
      · replace h25 := Decidable.not_not.mp h25
        refine j_bipush C dX7_let_28 (v := (-2)) (by decide) ?_
        refine j_iret C dX7_let_30 rfl ⟨rfl, ?_, ?_⟩ <;> rw [mLet, if_pos h5, if_pos h16, if_pos h25] <;> try rfl
  · replace h5 := b2_eq0.mp (Decidable.not_not.mp h5)
    refine j_iconst C dX7_let_8 (v := (-1)) (by decide) ?_
    refine j_iret C dX7_let_9 rfl ⟨rfl, ?_, ?_⟩ <;> rw [mLet, if_neg h5] <;> try rfl

def mPart1 (N : WNm) (x a n : Int32) : WNm := u2 N 23 (tn (10 * x + a)) (N 23 (tn (10 * x + a)) - n)
def mPart2 (N : WNm) (x a b n : Int32) : WNm := u2 (mPart1 N x a n) 23 (tn (10 * x + b)) (mPart1 N x a n 23 (tn (10 * x + b)) + n)
def mPart (N : WNm) (x a b n : Int32) : Int32 × WNm := if 0 ≤ x ∧ x ≤ N 0 9 - 1 then (if 0 ≤ a ∧ a ≤ 9 then (if 0 ≤ b ∧ b ≤ 9 then (if a = b then (-1, N) else (if 1 ≤ n ∧ n ≤ 24 then (if n ≤ N 23 (tn (10 * x + a)) then (mPart2 N x a b n 23 (tn (10 * x + b)), mPart2 N x a b n) else (-2, N)) else (-1, N))) else (-1, N)) else (-1, N)) else (-1, N)
theorem cM_part {l : Launch} {g : WGp} (hg : GOK g) {sh : WSh} {N : WNm} (M : MSh sh) {nG : Nat} (hG : N 0 9 = nI nG) (hG8 : nG ≤ 8) (x a b n : Int32) : CT l g yX7_part cX7_part 5 (some .int) (RM 3 0 0) [.ref (sh.2.2 0), .int x, .int a, .int b, .int n] sh N (QF g sh (mPart N x a b n).2 (mPart N x a b n).1) := by
  refine ent hg (by decide +kernel) (Nat.le_of_ble_eq_true rfl) ?_
  intro p e s m args below meth c C hname
  refine j_aload_n C dX7_part_0 rfl ?_
  refine j_iload_n C dX7_part_1 rfl ?_
  refine j_callV1I C ml_X7_155 dX7_part_2 (cM_isGalley hg M _) ⟨by rw [M.c]; decide, by rw [M.c]; rfl⟩ ⟨Nat.le_of_ble_eq_true rfl, Nat.le_of_ble_eq_true rfl⟩ (Nat.le_of_ble_eq_true rfl) ⟨rfl, rfl⟩ ⟨Nat.zero_le _, Nat.zero_le _⟩ ?_
  refine j_if_eq (tgt := 38) C dX7_part_5 (by decide) (fun h5 => ?_) (fun h5 => ?_)
  · replace h5 := b2_eq0.mp h5
    refine j_iconst C dX7_part_38 (v := (-1)) (by decide) ?_
    refine j_iret C dX7_part_39 rfl ⟨rfl, ?_, ?_⟩ <;> rw [mPart, if_neg h5] <;> try rfl
  · replace h5 := b2_ne0.mp h5
    refine j_iload_n C dX7_part_8 rfl ?_
    refine j_callS1I C ml_X7_146 dX7_part_9 (cM_isPerson hg _) ⟨Nat.le_of_ble_eq_true rfl, Nat.le_of_ble_eq_true rfl⟩ (Nat.le_of_ble_eq_true rfl) ⟨rfl, rfl⟩ ⟨Nat.zero_le _, Nat.zero_le _⟩ ?_
    refine j_if_eq (tgt := 38) C dX7_part_12 (by decide) (fun h12 => ?_) (fun h12 => ?_)
    · replace h12 := b2_eq0.mp h12
      refine j_iconst C dX7_part_38 (v := (-1)) (by decide) ?_
      refine j_iret C dX7_part_39 rfl ⟨rfl, ?_, ?_⟩ <;> rw [mPart, if_pos h5, if_neg h12] <;> try rfl
    · replace h12 := b2_ne0.mp h12
      refine j_iload_n C dX7_part_15 rfl ?_
      refine j_callS1I C ml_X7_146 dX7_part_16 (cM_isPerson hg _) ⟨Nat.le_of_ble_eq_true rfl, Nat.le_of_ble_eq_true rfl⟩ (Nat.le_of_ble_eq_true rfl) ⟨rfl, rfl⟩ ⟨Nat.zero_le _, Nat.zero_le _⟩ ?_
      refine j_if_eq (tgt := 38) C dX7_part_19 (by decide) (fun h19 => ?_) (fun h19 => ?_)
      · replace h19 := b2_eq0.mp h19
        refine j_iconst C dX7_part_38 (v := (-1)) (by decide) ?_
        refine j_iret C dX7_part_39 rfl ⟨rfl, ?_, ?_⟩ <;> rw [mPart, if_pos h5, if_pos h12, if_neg h19] <;> try rfl
      · replace h19 := b2_ne0.mp h19
        refine j_iload_n C dX7_part_22 rfl ?_
        refine j_iload_n C dX7_part_23 rfl ?_
        refine j_icmp_eq (tgt := 38) C dX7_part_24 (by decide) (fun h24 => ?_) (fun h24 => ?_)
        · skip
          refine j_iconst C dX7_part_38 (v := (-1)) (by decide) ?_
          refine j_iret C dX7_part_39 rfl ⟨rfl, ?_, ?_⟩ <;> rw [mPart, if_pos h5, if_pos h12, if_pos h19, if_pos h24] <;> try rfl
        · skip
          refine j_iload C dX7_part_27 rfl ?_
          refine j_iconst C dX7_part_29 (v := 1) (by decide) ?_
          refine j_bipush C dX7_part_30 (v := 24) (by decide) ?_
          refine j_callS3I C ml_X7_133 dX7_part_32 (cM_in hg _ _ _) ⟨Nat.le_of_ble_eq_true rfl, Nat.le_of_ble_eq_true rfl⟩ (Nat.le_of_ble_eq_true rfl) ⟨rfl, rfl⟩ ⟨Nat.zero_le _, Nat.zero_le _⟩ ?_
          refine j_if_ne (tgt := 40) C dX7_part_35 (by decide) (fun h35 => ?_) (fun h35 => ?_)
          · replace h35 := b2_ne0.mp h35
            refine j_aload_n C dX7_part_40 rfl ?_
            refine j_getR (j := 23) C fl_X7_59 dX7_part_41 (M.c) rfl (M.r22) ?_
            refine j_bipush C dX7_part_44 (v := 10) (by decide) ?_
            refine j_iload_n C dX7_part_46 rfl ?_
            refine j_imul C dX7_part_47 ?_
            refine j_iload_n C dX7_part_48 rfl ?_
            refine j_iadd C dX7_part_49 ?_
            refine j_iald C (M.t23) (in10 (inG h5 hG hG8 (by decide)) (inC h12 rfl (by decide))) dX7_part_50 ?_
            refine j_iload C dX7_part_51 rfl ?_
            refine j_icmp_ge (tgt := 59) C dX7_part_53 (by decide) (fun h53 => ?_) (fun h53 => ?_)
            · skip
              refine j_aload_n C dX7_part_59 rfl ?_
              refine j_getR (j := 23) C fl_X7_59 dX7_part_60 (M.c) rfl (M.r22) ?_
              refine j_bipush C dX7_part_63 (v := 10) (by decide) ?_
              refine j_iload_n C dX7_part_65 rfl ?_
              refine j_imul C dX7_part_66 ?_
              refine j_iload_n C dX7_part_67 rfl ?_
              refine j_iadd C dX7_part_68 ?_
              refine j_dup2 C dX7_part_69 rfl rfl ?_
              refine j_iald C (M.t23) (in10 (inG h5 hG hG8 (by decide)) (inC h12 rfl (by decide))) dX7_part_70 ?_
              refine j_iload C dX7_part_71 rfl ?_
              refine j_isub C dX7_part_73 ?_
              refine j_iast C (M.t23) (in10 (inG h5 hG hG8 (by decide)) (inC h12 rfl (by decide))) dX7_part_74 ?_
              refine j_aload_n C dX7_part_75 rfl ?_
              refine j_getR (j := 23) C fl_X7_59 dX7_part_76 (M.c) rfl (M.r22) ?_
              refine j_bipush C dX7_part_79 (v := 10) (by decide) ?_
              refine j_iload_n C dX7_part_81 rfl ?_
              refine j_imul C dX7_part_82 ?_
              refine j_iload_n C dX7_part_83 rfl ?_
              refine j_iadd C dX7_part_84 ?_
              refine j_dup2 C dX7_part_85 rfl rfl ?_
              refine j_iald C (M.t23) (in10 (inG h5 hG hG8 (by decide)) (inC h19 rfl (by decide))) dX7_part_86 ?_
              refine j_iload C dX7_part_87 rfl ?_
              refine j_iadd C dX7_part_89 ?_
              refine j_iast C (M.t23) (in10 (inG h5 hG hG8 (by decide)) (inC h19 rfl (by decide))) dX7_part_90 ?_
              refine j_aload_n C dX7_part_91 rfl ?_
              refine j_getR (j := 23) C fl_X7_59 dX7_part_92 (M.c) rfl (M.r22) ?_
              refine j_bipush C dX7_part_95 (v := 10) (by decide) ?_
              refine j_iload_n C dX7_part_97 rfl ?_
              refine j_imul C dX7_part_98 ?_
              refine j_iload_n C dX7_part_99 rfl ?_
              refine j_iadd C dX7_part_100 ?_
              refine j_iald C (M.t23) (in10 (inG h5 hG hG8 (by decide)) (inC h19 rfl (by decide))) dX7_part_101 ?_
              refine j_iret C dX7_part_102 rfl ⟨rfl, ?_, ?_⟩ <;> rw [mPart, if_pos h5, if_pos h12, if_pos h19, if_neg h24, if_pos h35, if_pos h53] <;> try rfl
            · skip
              refine j_bipush C dX7_part_56 (v := (-2)) (by decide) ?_
              refine j_iret C dX7_part_58 rfl ⟨rfl, ?_, ?_⟩ <;> rw [mPart, if_pos h5, if_pos h12, if_pos h19, if_neg h24, if_pos h35, if_neg h53] <;> try rfl
          · replace h35 := b2_eq0.mp (Decidable.not_not.mp h35)
            refine j_iconst C dX7_part_38 (v := (-1)) (by decide) ?_
            refine j_iret C dX7_part_39 rfl ⟨rfl, ?_, ?_⟩ <;> rw [mPart, if_pos h5, if_pos h12, if_pos h19, if_neg h24, if_neg h35] <;> try rfl

def mCoins (N : WNm) (w : Int32) : Int32 × WNm := if 0 ≤ w ∧ w ≤ 9 then (N 3 (tn w), N) else (if w = 10 then (N 0 3, N) else (if w = 11 then (N 0 4, N) else (-2000000000, N)))
theorem cM_coins {l : Launch} {g : WGp} (hg : GOK g) {sh : WSh} {N : WNm} (M : MSh sh)  (x : Int32) : CT l g yX7_coins cX7_coins 2 (some .int) (RM 3 0 0) [.ref (sh.2.2 0), .int x] sh N (QF g sh (mCoins N x).2 (mCoins N x).1) := by
  refine ent hg (by decide +kernel) (Nat.le_of_ble_eq_true rfl) ?_
  intro p e s m args below meth c C hname
  refine j_iload_n C dX7_coins_0 rfl ?_
  refine j_callS1I C ml_X7_146 dX7_coins_1 (cM_isPerson hg _) ⟨Nat.le_of_ble_eq_true rfl, Nat.le_of_ble_eq_true rfl⟩ (Nat.le_of_ble_eq_true rfl) ⟨rfl, rfl⟩ ⟨Nat.zero_le _, Nat.zero_le _⟩ ?_
  refine j_if_eq (tgt := 16) C dX7_coins_4 (by decide) (fun h4 => ?_) (fun h4 => ?_)
  · replace h4 := b2_eq0.mp h4
    refine j_iload_n C dX7_coins_16 rfl ?_
    refine j_bipush C dX7_coins_17 (v := 10) (by decide) ?_
    refine j_icmp_ne (tgt := 29) C dX7_coins_19 (by decide) (fun h19 => ?_) (fun h19 => ?_)
    · skip
      refine j_iload_n C dX7_coins_29 rfl ?_
      refine j_bipush C dX7_coins_30 (v := 11) (by decide) ?_
      refine j_icmp_ne (tgt := 42) C dX7_coins_32 (by decide) (fun h32 => ?_) (fun h32 => ?_)
      · skip
        refine j_ldc C kc_X7_151 dX7_coins_42 ?_
        refine j_iret C dX7_coins_44 rfl ⟨rfl, ?_, ?_⟩ <;> rw [mCoins, if_neg h4, if_neg h19, if_neg h32] <;> try rfl
      · replace h32 := Decidable.not_not.mp h32
        refine j_aload_n C dX7_coins_35 rfl ?_
        refine j_getI C fl_X7_152 dX7_coins_36 (M.c) rfl ?_
        refine j_goto (tgt := 44) C dX7_coins_39 (by decide) ?_
        refine j_iret C dX7_coins_44 rfl ⟨rfl, ?_, ?_⟩ <;> rw [mCoins, if_neg h4, if_neg h19, if_pos h32] <;> try rfl
    · replace h19 := Decidable.not_not.mp h19
      refine j_aload_n C dX7_coins_22 rfl ?_
      refine j_getI C fl_X7_159 dX7_coins_23 (M.c) rfl ?_
      refine j_goto (tgt := 44) C dX7_coins_26 (by decide) ?_
      refine j_iret C dX7_coins_44 rfl ⟨rfl, ?_, ?_⟩ <;> rw [mCoins, if_neg h4, if_pos h19] <;> try rfl
  · replace h4 := b2_ne0.mp h4
    refine j_aload_n C dX7_coins_7 rfl ?_
    refine j_getR (j := 3) C fl_X7_7 dX7_coins_8 (M.c) rfl (M.r2) ?_
    refine j_iload_n C dX7_coins_11 rfl ?_
    refine j_iald C (M.t3) (inC h4 rfl (by decide)) dX7_coins_12 ?_
    refine j_goto (tgt := 44) C dX7_coins_13 (by decide) ?_
    refine j_iret C dX7_coins_44 rfl ⟨rfl, ?_, ?_⟩ <;> rw [mCoins, if_pos h4] <;> try rfl

def mStart (N : WNm) (x : Int32) : Int32 × WNm := if 0 ≤ x ∧ x ≤ N 0 9 - 1 then (if N 15 (tn x) = 0 then (if 2 ≤ N 0 5 then (1, u2 (u2 (u2 N 15 (tn x) 1) 16 (tn x) 0) 17 (tn x) (N 0 1)) else (-2, N)) else (-2, N)) else (-1, N)
theorem cM_start {l : Launch} {g : WGp} (hg : GOK g) {sh : WSh} {N : WNm} (M : MSh sh) {nG : Nat} (hG : N 0 9 = nI nG) (hG8 : nG ≤ 8) (x : Int32) : CT l g yX7_start cX7_start 2 (some .int) (RM 3 0 0) [.ref (sh.2.2 0), .int x] sh N (QF g sh (mStart N x).2 (mStart N x).1) := by
  refine ent hg (by decide +kernel) (Nat.le_of_ble_eq_true rfl) ?_
  intro p e s m args below meth c C hname
  refine j_aload_n C dX7_start_0 rfl ?_
  refine j_iload_n C dX7_start_1 rfl ?_
  refine j_callV1I C ml_X7_155 dX7_start_2 (cM_isGalley hg M _) ⟨by rw [M.c]; decide, by rw [M.c]; rfl⟩ ⟨Nat.le_of_ble_eq_true rfl, Nat.le_of_ble_eq_true rfl⟩ (Nat.le_of_ble_eq_true rfl) ⟨rfl, rfl⟩ ⟨Nat.zero_le _, Nat.zero_le _⟩ ?_
  refine j_if_ne (tgt := 10) C dX7_start_5 (by decide) (fun h5 => ?_) (fun h5 => ?_)
  · replace h5 := b2_ne0.mp h5
    refine j_aload_n C dX7_start_10 rfl ?_
    refine j_getR (j := 15) C fl_X7_34 dX7_start_11 (M.c) rfl (M.r14) ?_
    refine j_iload_n C dX7_start_14 rfl ?_
    refine j_iald C (M.t15) (inG h5 hG hG8 (by decide)) dX7_start_15 ?_
    refine j_if_ne (tgt := 27) C dX7_start_16 (by decide) (fun h16 => ?_) (fun h16 => ?_)
    · skip
      refine j_bipush C dX7_start_27 (v := (-2)) (by decide) ?_
      refine j_iret C dX7_start_29 rfl ⟨rfl, ?_, ?_⟩ <;> rw [mStart, if_pos h5, if_neg h16] <;> try rfl
    · replace h16 := Decidable.not_not.mp h16
      refine j_aload_n C dX7_start_19 rfl ?_
      refine j_getI C fl_X7_137 dX7_start_20 (M.c) rfl ?_
      refine j_iconst C dX7_start_23 (v := 2) (by decide) ?_
      refine j_icmp_ge (tgt := 30) C dX7_start_24 (by decide) (fun h24 => ?_) (fun h24 => ?_)
      · skip
        refine j_aload_n C dX7_start_30 rfl ?_
        refine j_getR (j := 15) C fl_X7_34 dX7_start_31 (M.c) rfl (M.r14) ?_
        refine j_iload_n C dX7_start_34 rfl ?_
        refine j_iconst C dX7_start_35 (v := 1) (by decide) ?_
        refine j_iast C (M.t15) (inG h5 hG hG8 (by decide)) dX7_start_36 ?_
        refine j_aload_n C dX7_start_37 rfl ?_
        refine j_getR (j := 16) C fl_X7_37 dX7_start_38 (M.c) rfl (M.r15) ?_
        refine j_iload_n C dX7_start_41 rfl ?_
        refine j_iconst C dX7_start_42 (v := 0) (by decide) ?_
        refine j_iast C (M.t16) (inG h5 hG hG8 (by decide)) dX7_start_43 ?_
        refine j_aload_n C dX7_start_44 rfl ?_
        refine j_getR (j := 17) C fl_X7_40 dX7_start_45 (M.c) rfl (M.r16) ?_
        refine j_iload_n C dX7_start_48 rfl ?_
        refine j_aload_n C dX7_start_49 rfl ?_
        refine j_getI C fl_X7_165 dX7_start_50 (M.c) rfl ?_
        refine j_iast C (M.t17) (inG h5 hG hG8 (by decide)) dX7_start_53 ?_
        refine j_iconst C dX7_start_54 (v := 1) (by decide) ?_
        refine j_iret C dX7_start_55 rfl ⟨rfl, ?_, ?_⟩ <;> rw [mStart, if_pos h5, if_pos h16, if_pos h24] <;> try rfl
      · skip
        refine j_bipush C dX7_start_27 (v := (-2)) (by decide) ?_
        refine j_iret C dX7_start_29 rfl ⟨rfl, ?_, ?_⟩ <;> rw [mStart, if_pos h5, if_pos h16, if_neg h24] <;> try rfl
  · replace h5 := b2_eq0.mp (Decidable.not_not.mp h5)
    refine j_iconst C dX7_start_8 (v := (-1)) (by decide) ?_
    refine j_iret C dX7_start_9 rfl ⟨rfl, ?_, ?_⟩ <;> rw [mStart, if_neg h5] <;> try rfl

def mKnownP (N : WNm) (k p : Int32) : Int32 × WNm := if 0 ≤ k ∧ k ≤ 2 then (if 0 ≤ p ∧ p ≤ N 0 5 - 1 then (mKnown N k (tn p) (tn (N 0 38)), N) else (-1, N)) else (-1, N)
theorem cM_known {l : Launch} {g : WGp} (hg : GOK g) {sh : WSh} {N : WNm} (M : MSh sh) {nP : Nat} (hP : N 0 5 = nI nP) (hP12 : nP ≤ 12) {nV : Nat} (hV : N 0 38 = nI nV) (hV30 : nV ≤ 30) (k p0 : Int32) : CT l g yX7_known cX7_known 3 (some .int) (RM 3 0 0) [.ref (sh.2.2 0), .int k, .int p0] sh N (QF g sh (mKnownP N k p0).2 (mKnownP N k p0).1) := by
  refine ent hg (by decide +kernel) (Nat.le_of_ble_eq_true rfl) ?_
  intro p e s m args below meth c C hname
  refine j_iload_n C dX7_known_0 rfl ?_
  refine j_iconst C dX7_known_1 (v := 0) (by decide) ?_
  refine j_iconst C dX7_known_2 (v := 2) (by decide) ?_
  refine j_callS3I C ml_X7_133 dX7_known_3 (cM_in hg _ _ _) ⟨Nat.le_of_ble_eq_true rfl, Nat.le_of_ble_eq_true rfl⟩ (Nat.le_of_ble_eq_true rfl) ⟨rfl, rfl⟩ ⟨Nat.zero_le _, Nat.zero_le _⟩ ?_
  refine j_if_eq (tgt := 17) C dX7_known_6 (by decide) (fun h6 => ?_) (fun h6 => ?_)
  · replace h6 := b2_eq0.mp h6
    refine j_iconst C dX7_known_17 (v := (-1)) (by decide) ?_
    refine j_goto (tgt := 27) C dX7_known_18 (by decide) ?_
    refine j_iret C dX7_known_27 rfl ⟨rfl, ?_, ?_⟩ <;> rw [mKnownP, if_neg h6] <;> rw [hV, show tn (nI nV) = nV from nI_clamp (by omega)]
  · replace h6 := b2_ne0.mp h6
    refine j_aload_n C dX7_known_9 rfl ?_
    refine j_iload_n C dX7_known_10 rfl ?_
    refine j_callV1I C ml_X7_162 dX7_known_11 (cM_isPort hg M _) ⟨by rw [M.c]; decide, by rw [M.c]; rfl⟩ ⟨Nat.le_of_ble_eq_true rfl, Nat.le_of_ble_eq_true rfl⟩ (Nat.le_of_ble_eq_true rfl) ⟨rfl, rfl⟩ ⟨Nat.zero_le _, Nat.zero_le _⟩ ?_
    refine j_if_ne (tgt := 21) C dX7_known_14 (by decide) (fun h14 => ?_) (fun h14 => ?_)
    · replace h14 := b2_ne0.mp h14
      refine j_aload_n C dX7_known_21 rfl ?_
      refine j_iload_n C dX7_known_22 rfl ?_
      refine j_iload_n C dX7_known_23 rfl ?_
      refine j_callV2I C ml_X7_276 dX7_known_24 (cM_knownAt hg M hV hV30 k (inG h14 hP hP12 (by decide))) ⟨by rw [M.c]; decide, by rw [M.c]; rfl⟩ ⟨Nat.le_of_ble_eq_true rfl, Nat.le_of_ble_eq_true rfl⟩ (Nat.le_of_ble_eq_true rfl) ⟨rfl, rfl⟩ ⟨Nat.zero_le _, Nat.zero_le _⟩ ?_
      refine j_iret C dX7_known_27 rfl ⟨rfl, ?_, ?_⟩ <;> rw [mKnownP, if_pos h6, if_pos h14] <;> rw [hV, show tn (nI nV) = nV from nI_clamp (by omega)]
    · replace h14 := b2_eq0.mp (Decidable.not_not.mp h14)
      refine j_iconst C dX7_known_17 (v := (-1)) (by decide) ?_
      refine j_goto (tgt := 27) C dX7_known_18 (by decide) ?_
      refine j_iret C dX7_known_27 rfl ⟨rfl, ?_, ?_⟩ <;> rw [mKnownP, if_pos h6, if_neg h14] <;> rw [hV, show tn (nI nV) = nV from nI_clamp (by omega)]

def mAbout (N : WNm) (b w : Int32) : Int32 × WNm := if 0 ≤ b ∧ b ≤ N 0 23 - 1 then (if w = 0 then (N 25 (tn b), N) else (if w = 1 then (N 26 (tn b), N) else (if w = 2 then (N 27 (tn b), N) else (if w = 3 then (N 28 (tn b), N) else (if w = 4 then (N 29 (tn b), N) else (if w = 5 then (N 30 (tn b), N) else (if w = 6 then (N 31 (tn b), N) else (if w = 7 then (N 32 (tn b), N) else (if w = 8 then (N 33 (tn b), N) else (if w = 9 then (N 34 (tn b), N) else (if w = 10 then (N 35 (tn b), N) else (if w = 11 then (N 36 (tn b), N) else (-1, N))))))))))))) else (-1, N)
theorem cM_about {l : Launch} {g : WGp} (hg : GOK g) {sh : WSh} {N : WNm} (M : MSh sh) {nB : Nat} (hN : N 0 23 = nI nB) (hN3 : nB ≤ 300) (b w : Int32) : CT l g yX7_about cX7_about 3 (some .int) (RM 3 0 0) [.ref (sh.2.2 0), .int b, .int w] sh N (QF g sh (mAbout N b w).2 (mAbout N b w).1) := by
  refine ent hg (by decide +kernel) (Nat.le_of_ble_eq_true rfl) ?_
  intro p e s m args below meth c C hname
  refine j_aload_n C dX7_about_0 rfl ?_
  refine j_iload_n C dX7_about_1 rfl ?_
  refine j_callV1I C ml_X7_168 dX7_about_2 (cM_isBale hg M _) ⟨by rw [M.c]; decide, by rw [M.c]; rfl⟩ ⟨Nat.le_of_ble_eq_true rfl, Nat.le_of_ble_eq_true rfl⟩ (Nat.le_of_ble_eq_true rfl) ⟨rfl, rfl⟩ ⟨Nat.zero_le _, Nat.zero_le _⟩ ?_
  refine j_if_ne (tgt := 10) C dX7_about_5 (by decide) (fun h5 => ?_) (fun h5 => ?_)
  · replace h5 := b2_ne0.mp h5
    refine j_iload_n C dX7_about_10 rfl ?_
    by_cases h11_0 : w = 0
    · refine j_tabIn (tgt := 72) C dX7_about_11 (by rw [h11_0]; decide) (by rw [h11_0]; decide) (off := 61) (by rw [h11_0]; decide) (by decide) ?_
      refine j_aload_n C dX7_about_72 rfl ?_
      refine j_getR (j := 25) C fl_X7_62 dX7_about_73 (M.c) rfl (M.r24) ?_
      refine j_iload_n C dX7_about_76 rfl ?_
      refine j_iald C (M.t25) (inG h5 hN hN3 (by decide)) dX7_about_77 ?_
      refine j_iret C dX7_about_78 rfl ⟨rfl, ?_, ?_⟩ <;> rw [mAbout, if_pos h5, if_pos h11_0] <;> try rfl
    by_cases h11_1 : w = 1
    · refine j_tabIn (tgt := 79) C dX7_about_11 (by rw [h11_1]; decide) (by rw [h11_1]; decide) (off := 68) (by rw [h11_1]; decide) (by decide) ?_
      refine j_aload_n C dX7_about_79 rfl ?_
      refine j_getR (j := 26) C fl_X7_65 dX7_about_80 (M.c) rfl (M.r25) ?_
      refine j_iload_n C dX7_about_83 rfl ?_
      refine j_iald C (M.t26) (inG h5 hN hN3 (by decide)) dX7_about_84 ?_
      refine j_iret C dX7_about_85 rfl ⟨rfl, ?_, ?_⟩ <;> rw [mAbout, if_pos h5, if_neg h11_0, if_pos h11_1] <;> try rfl
    by_cases h11_2 : w = 2
    · refine j_tabIn (tgt := 86) C dX7_about_11 (by rw [h11_2]; decide) (by rw [h11_2]; decide) (off := 75) (by rw [h11_2]; decide) (by decide) ?_
      refine j_aload_n C dX7_about_86 rfl ?_
      refine j_getR (j := 27) C fl_X7_68 dX7_about_87 (M.c) rfl (M.r26) ?_
      refine j_iload_n C dX7_about_90 rfl ?_
      refine j_iald C (M.t27) (inG h5 hN hN3 (by decide)) dX7_about_91 ?_
      refine j_iret C dX7_about_92 rfl ⟨rfl, ?_, ?_⟩ <;> rw [mAbout, if_pos h5, if_neg h11_0, if_neg h11_1, if_pos h11_2] <;> try rfl
    by_cases h11_3 : w = 3
    · refine j_tabIn (tgt := 93) C dX7_about_11 (by rw [h11_3]; decide) (by rw [h11_3]; decide) (off := 82) (by rw [h11_3]; decide) (by decide) ?_
      refine j_aload_n C dX7_about_93 rfl ?_
      refine j_getR (j := 28) C fl_X7_71 dX7_about_94 (M.c) rfl (M.r27) ?_
      refine j_iload_n C dX7_about_97 rfl ?_
      refine j_iald C (M.t28) (inG h5 hN hN3 (by decide)) dX7_about_98 ?_
      refine j_iret C dX7_about_99 rfl ⟨rfl, ?_, ?_⟩ <;> rw [mAbout, if_pos h5, if_neg h11_0, if_neg h11_1, if_neg h11_2, if_pos h11_3] <;> try rfl
    by_cases h11_4 : w = 4
    · refine j_tabIn (tgt := 100) C dX7_about_11 (by rw [h11_4]; decide) (by rw [h11_4]; decide) (off := 89) (by rw [h11_4]; decide) (by decide) ?_
      refine j_aload_n C dX7_about_100 rfl ?_
      refine j_getR (j := 29) C fl_X7_74 dX7_about_101 (M.c) rfl (M.r28) ?_
      refine j_iload_n C dX7_about_104 rfl ?_
      refine j_iald C (M.t29) (inG h5 hN hN3 (by decide)) dX7_about_105 ?_
      refine j_iret C dX7_about_106 rfl ⟨rfl, ?_, ?_⟩ <;> rw [mAbout, if_pos h5, if_neg h11_0, if_neg h11_1, if_neg h11_2, if_neg h11_3, if_pos h11_4] <;> try rfl
    by_cases h11_5 : w = 5
    · refine j_tabIn (tgt := 107) C dX7_about_11 (by rw [h11_5]; decide) (by rw [h11_5]; decide) (off := 96) (by rw [h11_5]; decide) (by decide) ?_
      refine j_aload_n C dX7_about_107 rfl ?_
      refine j_getR (j := 30) C fl_X7_77 dX7_about_108 (M.c) rfl (M.r29) ?_
      refine j_iload_n C dX7_about_111 rfl ?_
      refine j_iald C (M.t30) (inG h5 hN hN3 (by decide)) dX7_about_112 ?_
      refine j_iret C dX7_about_113 rfl ⟨rfl, ?_, ?_⟩ <;> rw [mAbout, if_pos h5, if_neg h11_0, if_neg h11_1, if_neg h11_2, if_neg h11_3, if_neg h11_4, if_pos h11_5] <;> try rfl
    by_cases h11_6 : w = 6
    · refine j_tabIn (tgt := 114) C dX7_about_11 (by rw [h11_6]; decide) (by rw [h11_6]; decide) (off := 103) (by rw [h11_6]; decide) (by decide) ?_
      refine j_aload_n C dX7_about_114 rfl ?_
      refine j_getR (j := 31) C fl_X7_80 dX7_about_115 (M.c) rfl (M.r30) ?_
      refine j_iload_n C dX7_about_118 rfl ?_
      refine j_iald C (M.t31) (inG h5 hN hN3 (by decide)) dX7_about_119 ?_
      refine j_iret C dX7_about_120 rfl ⟨rfl, ?_, ?_⟩ <;> rw [mAbout, if_pos h5, if_neg h11_0, if_neg h11_1, if_neg h11_2, if_neg h11_3, if_neg h11_4, if_neg h11_5, if_pos h11_6] <;> try rfl
    by_cases h11_7 : w = 7
    · refine j_tabIn (tgt := 121) C dX7_about_11 (by rw [h11_7]; decide) (by rw [h11_7]; decide) (off := 110) (by rw [h11_7]; decide) (by decide) ?_
      refine j_aload_n C dX7_about_121 rfl ?_
      refine j_getR (j := 32) C fl_X7_83 dX7_about_122 (M.c) rfl (M.r31) ?_
      refine j_iload_n C dX7_about_125 rfl ?_
      refine j_iald C (M.t32) (inG h5 hN hN3 (by decide)) dX7_about_126 ?_
      refine j_iret C dX7_about_127 rfl ⟨rfl, ?_, ?_⟩ <;> rw [mAbout, if_pos h5, if_neg h11_0, if_neg h11_1, if_neg h11_2, if_neg h11_3, if_neg h11_4, if_neg h11_5, if_neg h11_6, if_pos h11_7] <;> try rfl
    by_cases h11_8 : w = 8
    · refine j_tabIn (tgt := 128) C dX7_about_11 (by rw [h11_8]; decide) (by rw [h11_8]; decide) (off := 117) (by rw [h11_8]; decide) (by decide) ?_
      refine j_aload_n C dX7_about_128 rfl ?_
      refine j_getR (j := 33) C fl_X7_86 dX7_about_129 (M.c) rfl (M.r32) ?_
      refine j_iload_n C dX7_about_132 rfl ?_
      refine j_iald C (M.t33) (inG h5 hN hN3 (by decide)) dX7_about_133 ?_
      refine j_iret C dX7_about_134 rfl ⟨rfl, ?_, ?_⟩ <;> rw [mAbout, if_pos h5, if_neg h11_0, if_neg h11_1, if_neg h11_2, if_neg h11_3, if_neg h11_4, if_neg h11_5, if_neg h11_6, if_neg h11_7, if_pos h11_8] <;> try rfl
    by_cases h11_9 : w = 9
    · refine j_tabIn (tgt := 135) C dX7_about_11 (by rw [h11_9]; decide) (by rw [h11_9]; decide) (off := 124) (by rw [h11_9]; decide) (by decide) ?_
      refine j_aload_n C dX7_about_135 rfl ?_
      refine j_getR (j := 34) C fl_X7_89 dX7_about_136 (M.c) rfl (M.r33) ?_
      refine j_iload_n C dX7_about_139 rfl ?_
      refine j_iald C (M.t34) (inG h5 hN hN3 (by decide)) dX7_about_140 ?_
      refine j_iret C dX7_about_141 rfl ⟨rfl, ?_, ?_⟩ <;> rw [mAbout, if_pos h5, if_neg h11_0, if_neg h11_1, if_neg h11_2, if_neg h11_3, if_neg h11_4, if_neg h11_5, if_neg h11_6, if_neg h11_7, if_neg h11_8, if_pos h11_9] <;> try rfl
    by_cases h11_10 : w = 10
    · refine j_tabIn (tgt := 142) C dX7_about_11 (by rw [h11_10]; decide) (by rw [h11_10]; decide) (off := 131) (by rw [h11_10]; decide) (by decide) ?_
      refine j_aload_n C dX7_about_142 rfl ?_
      refine j_getR (j := 35) C fl_X7_92 dX7_about_143 (M.c) rfl (M.r34) ?_
      refine j_iload_n C dX7_about_146 rfl ?_
      refine j_iald C (M.t35) (inG h5 hN hN3 (by decide)) dX7_about_147 ?_
      refine j_iret C dX7_about_148 rfl ⟨rfl, ?_, ?_⟩ <;> rw [mAbout, if_pos h5, if_neg h11_0, if_neg h11_1, if_neg h11_2, if_neg h11_3, if_neg h11_4, if_neg h11_5, if_neg h11_6, if_neg h11_7, if_neg h11_8, if_neg h11_9, if_pos h11_10] <;> try rfl
    by_cases h11_11 : w = 11
    · refine j_tabIn (tgt := 149) C dX7_about_11 (by rw [h11_11]; decide) (by rw [h11_11]; decide) (off := 138) (by rw [h11_11]; decide) (by decide) ?_
      refine j_aload_n C dX7_about_149 rfl ?_
      refine j_getR (j := 36) C fl_X7_95 dX7_about_150 (M.c) rfl (M.r35) ?_
      refine j_iload_n C dX7_about_153 rfl ?_
      refine j_iald C (M.t36) (inG h5 hN hN3 (by decide)) dX7_about_154 ?_
      refine j_iret C dX7_about_155 rfl ⟨rfl, ?_, ?_⟩ <;> rw [mAbout, if_pos h5, if_neg h11_0, if_neg h11_1, if_neg h11_2, if_neg h11_3, if_neg h11_4, if_neg h11_5, if_neg h11_6, if_neg h11_7, if_neg h11_8, if_neg h11_9, if_neg h11_10, if_pos h11_11] <;> try rfl
    have q0 := lv_neT h11_0 (a := 0) (by decide)
    have q1 := lv_neT h11_1 (a := 1) (by decide)
    have q2 := lv_neT h11_2 (a := 2) (by decide)
    have q3 := lv_neT h11_3 (a := 3) (by decide)
    have q4 := lv_neT h11_4 (a := 4) (by decide)
    have q5 := lv_neT h11_5 (a := 5) (by decide)
    have q6 := lv_neT h11_6 (a := 6) (by decide)
    have q7 := lv_neT h11_7 (a := 7) (by decide)
    have q8 := lv_neT h11_8 (a := 8) (by decide)
    have q9 := lv_neT h11_9 (a := 9) (by decide)
    have q10 := lv_neT h11_10 (a := 10) (by decide)
    have q11 := lv_neT h11_11 (a := 11) (by decide)
    refine j_tabOut (tgt := 156) C dX7_about_11 (by omega) (by decide) ?_
    refine j_iconst C dX7_about_156 (v := (-1)) (by decide) ?_
    refine j_iret C dX7_about_157 rfl ⟨rfl, ?_, ?_⟩ <;> rw [mAbout, if_pos h5, if_neg h11_0, if_neg h11_1, if_neg h11_2, if_neg h11_3, if_neg h11_4, if_neg h11_5, if_neg h11_6, if_neg h11_7, if_neg h11_8, if_neg h11_9, if_neg h11_10, if_neg h11_11] <;> try rfl
  · replace h5 := b2_eq0.mp (Decidable.not_not.mp h5)
    refine j_iconst C dX7_about_8 (v := (-1)) (by decide) ?_
    refine j_iret C dX7_about_9 rfl ⟨rfl, ?_, ?_⟩ <;> rw [mAbout, if_neg h5] <;> try rfl

def mCount (N : WNm) (w : Int32) : Int32 × WNm := if w = 0 then (N 0 5, N) else (if w = 1 then (N 0 9, N) else (if w = 2 then (N 0 23, N) else (if w = 3 then (N 0 38, N) else (if w = 4 then (N 0 1, N) else (if w = 5 then (mBalesAs N (w - 5) (tn (N 0 23)), N) else (if w = 6 then (mBalesAs N (w - 5) (tn (N 0 23)), N) else (if w = 7 then (mBalesAs N (w - 5) (tn (N 0 23)), N) else (if w = 8 then (mBalesAs N (w - 5) (tn (N 0 23)), N) else (if w = 9 then (N 0 37, N) else (-1, N))))))))))
theorem cM_count {l : Launch} {g : WGp} (hg : GOK g) {sh : WSh} {N : WNm} (M : MSh sh) {nB : Nat} (hN : N 0 23 = nI nB) (hN3 : nB ≤ 300) (w : Int32) : CT l g yX7_count cX7_count 2 (some .int) (RM 3 0 0) [.ref (sh.2.2 0), .int w] sh N (QF g sh (mCount N w).2 (mCount N w).1) := by
  refine ent hg (by decide +kernel) (Nat.le_of_ble_eq_true rfl) ?_
  intro p e s m args below meth c C hname
  refine j_iload_n C dX7_count_0 rfl ?_
  by_cases h1_0 : w = 0
  · refine j_tabIn (tgt := 56) C dX7_count_1 (by rw [h1_0]; decide) (by rw [h1_0]; decide) (off := 55) (by rw [h1_0]; decide) (by decide) ?_
    refine j_aload_n C dX7_count_56 rfl ?_
    refine j_getI C fl_X7_137 dX7_count_57 (M.c) rfl ?_
    refine j_iret C dX7_count_60 rfl ⟨rfl, ?_, ?_⟩ <;> rw [mCount, if_pos h1_0] <;> rw [hN, show tn (nI nB) = nB from nI_clamp (by omega)]
  by_cases h1_1 : w = 1
  · refine j_tabIn (tgt := 61) C dX7_count_1 (by rw [h1_1]; decide) (by rw [h1_1]; decide) (off := 60) (by rw [h1_1]; decide) (by decide) ?_
    refine j_aload_n C dX7_count_61 rfl ?_
    refine j_getI C fl_X7_140 dX7_count_62 (M.c) rfl ?_
    refine j_iret C dX7_count_65 rfl ⟨rfl, ?_, ?_⟩ <;> rw [mCount, if_neg h1_0, if_pos h1_1] <;> rw [hN, show tn (nI nB) = nB from nI_clamp (by omega)]
  by_cases h1_2 : w = 2
  · refine j_tabIn (tgt := 66) C dX7_count_1 (by rw [h1_2]; decide) (by rw [h1_2]; decide) (off := 65) (by rw [h1_2]; decide) (by decide) ?_
    refine j_aload_n C dX7_count_66 rfl ?_
    refine j_getI C fl_X7_143 dX7_count_67 (M.c) rfl ?_
    refine j_iret C dX7_count_70 rfl ⟨rfl, ?_, ?_⟩ <;> rw [mCount, if_neg h1_0, if_neg h1_1, if_pos h1_2] <;> rw [hN, show tn (nI nB) = nB from nI_clamp (by omega)]
  by_cases h1_3 : w = 3
  · refine j_tabIn (tgt := 71) C dX7_count_1 (by rw [h1_3]; decide) (by rw [h1_3]; decide) (off := 70) (by rw [h1_3]; decide) (by decide) ?_
    refine j_aload_n C dX7_count_71 rfl ?_
    refine j_getI C fl_X7_256 dX7_count_72 (M.c) rfl ?_
    refine j_iret C dX7_count_75 rfl ⟨rfl, ?_, ?_⟩ <;> rw [mCount, if_neg h1_0, if_neg h1_1, if_neg h1_2, if_pos h1_3] <;> rw [hN, show tn (nI nB) = nB from nI_clamp (by omega)]
  by_cases h1_4 : w = 4
  · refine j_tabIn (tgt := 76) C dX7_count_1 (by rw [h1_4]; decide) (by rw [h1_4]; decide) (off := 75) (by rw [h1_4]; decide) (by decide) ?_
    refine j_aload_n C dX7_count_76 rfl ?_
    refine j_getI C fl_X7_165 dX7_count_77 (M.c) rfl ?_
    refine j_iret C dX7_count_80 rfl ⟨rfl, ?_, ?_⟩ <;> rw [mCount, if_neg h1_0, if_neg h1_1, if_neg h1_2, if_neg h1_3, if_pos h1_4] <;> rw [hN, show tn (nI nB) = nB from nI_clamp (by omega)]
  by_cases h1_5 : w = 5
  · refine j_tabIn (tgt := 81) C dX7_count_1 (by rw [h1_5]; decide) (by rw [h1_5]; decide) (off := 80) (by rw [h1_5]; decide) (by decide) ?_
    refine j_aload_n C dX7_count_81 rfl ?_
    refine j_iload_n C dX7_count_82 rfl ?_
    refine j_iconst C dX7_count_83 (v := 5) (by decide) ?_
    refine j_isub C dX7_count_84 ?_
    refine j_callV1I C ml_X7_328 dX7_count_85 (cM_balesAs hg M hN hN3 _) ⟨by rw [M.c]; decide, by rw [M.c]; rfl⟩ ⟨Nat.le_of_ble_eq_true rfl, Nat.le_of_ble_eq_true rfl⟩ (Nat.le_of_ble_eq_true rfl) ⟨rfl, rfl⟩ ⟨Nat.zero_le _, Nat.zero_le _⟩ ?_
    refine j_iret C dX7_count_88 rfl ⟨rfl, ?_, ?_⟩ <;> rw [mCount, if_neg h1_0, if_neg h1_1, if_neg h1_2, if_neg h1_3, if_neg h1_4, if_pos h1_5] <;> rw [hN, show tn (nI nB) = nB from nI_clamp (by omega)]
  by_cases h1_6 : w = 6
  · refine j_tabIn (tgt := 81) C dX7_count_1 (by rw [h1_6]; decide) (by rw [h1_6]; decide) (off := 80) (by rw [h1_6]; decide) (by decide) ?_
    refine j_aload_n C dX7_count_81 rfl ?_
    refine j_iload_n C dX7_count_82 rfl ?_
    refine j_iconst C dX7_count_83 (v := 5) (by decide) ?_
    refine j_isub C dX7_count_84 ?_
    refine j_callV1I C ml_X7_328 dX7_count_85 (cM_balesAs hg M hN hN3 _) ⟨by rw [M.c]; decide, by rw [M.c]; rfl⟩ ⟨Nat.le_of_ble_eq_true rfl, Nat.le_of_ble_eq_true rfl⟩ (Nat.le_of_ble_eq_true rfl) ⟨rfl, rfl⟩ ⟨Nat.zero_le _, Nat.zero_le _⟩ ?_
    refine j_iret C dX7_count_88 rfl ⟨rfl, ?_, ?_⟩ <;> rw [mCount, if_neg h1_0, if_neg h1_1, if_neg h1_2, if_neg h1_3, if_neg h1_4, if_neg h1_5, if_pos h1_6] <;> rw [hN, show tn (nI nB) = nB from nI_clamp (by omega)]
  by_cases h1_7 : w = 7
  · refine j_tabIn (tgt := 81) C dX7_count_1 (by rw [h1_7]; decide) (by rw [h1_7]; decide) (off := 80) (by rw [h1_7]; decide) (by decide) ?_
    refine j_aload_n C dX7_count_81 rfl ?_
    refine j_iload_n C dX7_count_82 rfl ?_
    refine j_iconst C dX7_count_83 (v := 5) (by decide) ?_
    refine j_isub C dX7_count_84 ?_
    refine j_callV1I C ml_X7_328 dX7_count_85 (cM_balesAs hg M hN hN3 _) ⟨by rw [M.c]; decide, by rw [M.c]; rfl⟩ ⟨Nat.le_of_ble_eq_true rfl, Nat.le_of_ble_eq_true rfl⟩ (Nat.le_of_ble_eq_true rfl) ⟨rfl, rfl⟩ ⟨Nat.zero_le _, Nat.zero_le _⟩ ?_
    refine j_iret C dX7_count_88 rfl ⟨rfl, ?_, ?_⟩ <;> rw [mCount, if_neg h1_0, if_neg h1_1, if_neg h1_2, if_neg h1_3, if_neg h1_4, if_neg h1_5, if_neg h1_6, if_pos h1_7] <;> rw [hN, show tn (nI nB) = nB from nI_clamp (by omega)]
  by_cases h1_8 : w = 8
  · refine j_tabIn (tgt := 81) C dX7_count_1 (by rw [h1_8]; decide) (by rw [h1_8]; decide) (off := 80) (by rw [h1_8]; decide) (by decide) ?_
    refine j_aload_n C dX7_count_81 rfl ?_
    refine j_iload_n C dX7_count_82 rfl ?_
    refine j_iconst C dX7_count_83 (v := 5) (by decide) ?_
    refine j_isub C dX7_count_84 ?_
    refine j_callV1I C ml_X7_328 dX7_count_85 (cM_balesAs hg M hN hN3 _) ⟨by rw [M.c]; decide, by rw [M.c]; rfl⟩ ⟨Nat.le_of_ble_eq_true rfl, Nat.le_of_ble_eq_true rfl⟩ (Nat.le_of_ble_eq_true rfl) ⟨rfl, rfl⟩ ⟨Nat.zero_le _, Nat.zero_le _⟩ ?_
    refine j_iret C dX7_count_88 rfl ⟨rfl, ?_, ?_⟩ <;> rw [mCount, if_neg h1_0, if_neg h1_1, if_neg h1_2, if_neg h1_3, if_neg h1_4, if_neg h1_5, if_neg h1_6, if_neg h1_7, if_pos h1_8] <;> rw [hN, show tn (nI nB) = nB from nI_clamp (by omega)]
  by_cases h1_9 : w = 9
  · refine j_tabIn (tgt := 89) C dX7_count_1 (by rw [h1_9]; decide) (by rw [h1_9]; decide) (off := 88) (by rw [h1_9]; decide) (by decide) ?_
    refine j_aload_n C dX7_count_89 rfl ?_
    refine j_getI C fl_X7_175 dX7_count_90 (M.c) rfl ?_
    refine j_iret C dX7_count_93 rfl ⟨rfl, ?_, ?_⟩ <;> rw [mCount, if_neg h1_0, if_neg h1_1, if_neg h1_2, if_neg h1_3, if_neg h1_4, if_neg h1_5, if_neg h1_6, if_neg h1_7, if_neg h1_8, if_pos h1_9] <;> rw [hN, show tn (nI nB) = nB from nI_clamp (by omega)]
  have q0 := lv_neT h1_0 (a := 0) (by decide)
  have q1 := lv_neT h1_1 (a := 1) (by decide)
  have q2 := lv_neT h1_2 (a := 2) (by decide)
  have q3 := lv_neT h1_3 (a := 3) (by decide)
  have q4 := lv_neT h1_4 (a := 4) (by decide)
  have q5 := lv_neT h1_5 (a := 5) (by decide)
  have q6 := lv_neT h1_6 (a := 6) (by decide)
  have q7 := lv_neT h1_7 (a := 7) (by decide)
  have q8 := lv_neT h1_8 (a := 8) (by decide)
  have q9 := lv_neT h1_9 (a := 9) (by decide)
  refine j_tabOut (tgt := 94) C dX7_count_1 (by omega) (by decide) ?_
  refine j_iconst C dX7_count_94 (v := (-1)) (by decide) ?_
  refine j_iret C dX7_count_95 rfl ⟨rfl, ?_, ?_⟩ <;> rw [mCount, if_neg h1_0, if_neg h1_1, if_neg h1_2, if_neg h1_3, if_neg h1_4, if_neg h1_5, if_neg h1_6, if_neg h1_7, if_neg h1_8, if_neg h1_9] <;> rw [hN, show tn (nI nB) = nB from nI_clamp (by omega)]

def mShip (N : WNm) (x w : Int32) : Int32 × WNm := if 0 ≤ x ∧ x ≤ N 0 9 - 1 then (if w = 0 then (N 15 (tn x), N) else (if w = 1 then (N 16 (tn x), N) else (if w = 2 then (N 17 (tn x), N) else (if w = 3 then (N 18 (tn x), N) else (if w = 4 then (mBalesOn N x (tn (N 0 23)), N) else (if w = 5 then (mRoomOn N x (tn (N 0 23)), N) else (if w = 6 then (mWeightOn N x False (tn (N 0 23)), N) else (if w = 7 then (N 19 (tn x), N) else (if w = 8 then (N 20 (tn x), N) else (if w = 9 then ((if N 22 (tn x) = 0 then 0 else 1), N) else (-2, N))))))))))) else (-2, N)
theorem cM_ship {l : Launch} {g : WGp} (hg : GOK g) {sh : WSh} {N : WNm} (M : MSh sh) {nG : Nat} (hG : N 0 9 = nI nG) (hG8 : nG ≤ 8) {nB : Nat} (hN : N 0 23 = nI nB) (hN3 : nB ≤ 300) (x w : Int32) : CT l g yX7_ship cX7_ship 3 (some .int) (RM 4 0 0) [.ref (sh.2.2 0), .int x, .int w] sh N (QF g sh (mShip N x w).2 (mShip N x w).1) := by
  refine ent hg (by decide +kernel) (Nat.le_of_ble_eq_true rfl) ?_
  intro p e s m args below meth c C hname
  refine j_aload_n C dX7_ship_0 rfl ?_
  refine j_iload_n C dX7_ship_1 rfl ?_
  refine j_callV1I C ml_X7_155 dX7_ship_2 (cM_isGalley hg M _) ⟨by rw [M.c]; decide, by rw [M.c]; rfl⟩ ⟨Nat.le_of_ble_eq_true rfl, Nat.le_of_ble_eq_true rfl⟩ (Nat.le_of_ble_eq_true rfl) ⟨rfl, rfl⟩ ⟨Nat.zero_le _, Nat.zero_le _⟩ ?_
  refine j_if_ne (tgt := 11) C dX7_ship_5 (by decide) (fun h5 => ?_) (fun h5 => ?_)
  · replace h5 := b2_ne0.mp h5
    refine j_iload_n C dX7_ship_11 rfl ?_
    by_cases h12_0 : w = 0
    · refine j_tabIn (tgt := 68) C dX7_ship_12 (by rw [h12_0]; decide) (by rw [h12_0]; decide) (off := 56) (by rw [h12_0]; decide) (by decide) ?_
      refine j_aload_n C dX7_ship_68 rfl ?_
      refine j_getR (j := 15) C fl_X7_34 dX7_ship_69 (M.c) rfl (M.r14) ?_
      refine j_iload_n C dX7_ship_72 rfl ?_
      refine j_iald C (M.t15) (inG h5 hG hG8 (by decide)) dX7_ship_73 ?_
      refine j_iret C dX7_ship_74 rfl ⟨rfl, ?_, ?_⟩ <;> rw [mShip, if_pos h5, if_pos h12_0] <;> try rw [hN, show tn (nI nB) = nB from nI_clamp (by omega)]
    by_cases h12_1 : w = 1
    · refine j_tabIn (tgt := 75) C dX7_ship_12 (by rw [h12_1]; decide) (by rw [h12_1]; decide) (off := 63) (by rw [h12_1]; decide) (by decide) ?_
      refine j_aload_n C dX7_ship_75 rfl ?_
      refine j_getR (j := 16) C fl_X7_37 dX7_ship_76 (M.c) rfl (M.r15) ?_
      refine j_iload_n C dX7_ship_79 rfl ?_
      refine j_iald C (M.t16) (inG h5 hG hG8 (by decide)) dX7_ship_80 ?_
      refine j_iret C dX7_ship_81 rfl ⟨rfl, ?_, ?_⟩ <;> rw [mShip, if_pos h5, if_neg h12_0, if_pos h12_1] <;> try rw [hN, show tn (nI nB) = nB from nI_clamp (by omega)]
    by_cases h12_2 : w = 2
    · refine j_tabIn (tgt := 82) C dX7_ship_12 (by rw [h12_2]; decide) (by rw [h12_2]; decide) (off := 70) (by rw [h12_2]; decide) (by decide) ?_
      refine j_aload_n C dX7_ship_82 rfl ?_
      refine j_getR (j := 17) C fl_X7_40 dX7_ship_83 (M.c) rfl (M.r16) ?_
      refine j_iload_n C dX7_ship_86 rfl ?_
      refine j_iald C (M.t17) (inG h5 hG hG8 (by decide)) dX7_ship_87 ?_
      refine j_iret C dX7_ship_88 rfl ⟨rfl, ?_, ?_⟩ <;> rw [mShip, if_pos h5, if_neg h12_0, if_neg h12_1, if_pos h12_2] <;> try rw [hN, show tn (nI nB) = nB from nI_clamp (by omega)]
    by_cases h12_3 : w = 3
    · refine j_tabIn (tgt := 89) C dX7_ship_12 (by rw [h12_3]; decide) (by rw [h12_3]; decide) (off := 77) (by rw [h12_3]; decide) (by decide) ?_
      refine j_aload_n C dX7_ship_89 rfl ?_
      refine j_getR (j := 18) C fl_X7_43 dX7_ship_90 (M.c) rfl (M.r17) ?_
      refine j_iload_n C dX7_ship_93 rfl ?_
      refine j_iald C (M.t18) (inG h5 hG hG8 (by decide)) dX7_ship_94 ?_
      refine j_iret C dX7_ship_95 rfl ⟨rfl, ?_, ?_⟩ <;> rw [mShip, if_pos h5, if_neg h12_0, if_neg h12_1, if_neg h12_2, if_pos h12_3] <;> try rw [hN, show tn (nI nB) = nB from nI_clamp (by omega)]
    by_cases h12_4 : w = 4
    · refine j_tabIn (tgt := 96) C dX7_ship_12 (by rw [h12_4]; decide) (by rw [h12_4]; decide) (off := 84) (by rw [h12_4]; decide) (by decide) ?_
      refine j_aload_n C dX7_ship_96 rfl ?_
      refine j_iload_n C dX7_ship_97 rfl ?_
      refine j_callV1I C ml_X7_322 dX7_ship_98 (cM_balesOn hg M hN hN3 _) ⟨by rw [M.c]; decide, by rw [M.c]; rfl⟩ ⟨Nat.le_of_ble_eq_true rfl, Nat.le_of_ble_eq_true rfl⟩ (Nat.le_of_ble_eq_true rfl) ⟨rfl, rfl⟩ ⟨Nat.zero_le _, Nat.zero_le _⟩ ?_
      refine j_iret C dX7_ship_101 rfl ⟨rfl, ?_, ?_⟩ <;> rw [mShip, if_pos h5, if_neg h12_0, if_neg h12_1, if_neg h12_2, if_neg h12_3, if_pos h12_4] <;> try rw [hN, show tn (nI nB) = nB from nI_clamp (by omega)]
    by_cases h12_5 : w = 5
    · refine j_tabIn (tgt := 102) C dX7_ship_12 (by rw [h12_5]; decide) (by rw [h12_5]; decide) (off := 90) (by rw [h12_5]; decide) (by decide) ?_
      refine j_aload_n C dX7_ship_102 rfl ?_
      refine j_iload_n C dX7_ship_103 rfl ?_
      refine j_callV1I C ml_X7_319 dX7_ship_104 (cM_roomOn hg M hN hN3 _) ⟨by rw [M.c]; decide, by rw [M.c]; rfl⟩ ⟨Nat.le_of_ble_eq_true rfl, Nat.le_of_ble_eq_true rfl⟩ (Nat.le_of_ble_eq_true rfl) ⟨rfl, rfl⟩ ⟨Nat.zero_le _, Nat.zero_le _⟩ ?_
      refine j_iret C dX7_ship_107 rfl ⟨rfl, ?_, ?_⟩ <;> rw [mShip, if_pos h5, if_neg h12_0, if_neg h12_1, if_neg h12_2, if_neg h12_3, if_neg h12_4, if_pos h12_5] <;> try rw [hN, show tn (nI nB) = nB from nI_clamp (by omega)]
    by_cases h12_6 : w = 6
    · refine j_tabIn (tgt := 108) C dX7_ship_12 (by rw [h12_6]; decide) (by rw [h12_6]; decide) (off := 96) (by rw [h12_6]; decide) (by decide) ?_
      refine j_aload_n C dX7_ship_108 rfl ?_
      refine j_iload_n C dX7_ship_109 rfl ?_
      refine j_iconst C dX7_ship_110 (v := 0) (by decide) ?_
      refine j_callV2I C ml_X7_283 dX7_ship_111 (cM_weightOn hg M hN hN3 _ False) ⟨by rw [M.c]; decide, by rw [M.c]; rfl⟩ ⟨Nat.le_of_ble_eq_true rfl, Nat.le_of_ble_eq_true rfl⟩ (Nat.le_of_ble_eq_true rfl) ⟨rfl, rfl⟩ ⟨Nat.zero_le _, Nat.zero_le _⟩ ?_
      refine j_iret C dX7_ship_114 rfl ⟨rfl, ?_, ?_⟩ <;> rw [mShip, if_pos h5, if_neg h12_0, if_neg h12_1, if_neg h12_2, if_neg h12_3, if_neg h12_4, if_neg h12_5, if_pos h12_6] <;> try rw [hN, show tn (nI nB) = nB from nI_clamp (by omega)]
    by_cases h12_7 : w = 7
    · refine j_tabIn (tgt := 115) C dX7_ship_12 (by rw [h12_7]; decide) (by rw [h12_7]; decide) (off := 103) (by rw [h12_7]; decide) (by decide) ?_
      refine j_aload_n C dX7_ship_115 rfl ?_
      refine j_getR (j := 19) C fl_X7_46 dX7_ship_116 (M.c) rfl (M.r18) ?_
      refine j_iload_n C dX7_ship_119 rfl ?_
      refine j_iald C (M.t19) (inG h5 hG hG8 (by decide)) dX7_ship_120 ?_
      refine j_iret C dX7_ship_121 rfl ⟨rfl, ?_, ?_⟩ <;> rw [mShip, if_pos h5, if_neg h12_0, if_neg h12_1, if_neg h12_2, if_neg h12_3, if_neg h12_4, if_neg h12_5, if_neg h12_6, if_pos h12_7] <;> try rw [hN, show tn (nI nB) = nB from nI_clamp (by omega)]
    by_cases h12_8 : w = 8
    · refine j_tabIn (tgt := 122) C dX7_ship_12 (by rw [h12_8]; decide) (by rw [h12_8]; decide) (off := 110) (by rw [h12_8]; decide) (by decide) ?_
      refine j_aload_n C dX7_ship_122 rfl ?_
      refine j_getR (j := 20) C fl_X7_49 dX7_ship_123 (M.c) rfl (M.r19) ?_
      refine j_iload_n C dX7_ship_126 rfl ?_
      refine j_iald C (M.t20) (inG h5 hG hG8 (by decide)) dX7_ship_127 ?_
      refine j_iret C dX7_ship_128 rfl ⟨rfl, ?_, ?_⟩ <;> rw [mShip, if_pos h5, if_neg h12_0, if_neg h12_1, if_neg h12_2, if_neg h12_3, if_neg h12_4, if_neg h12_5, if_neg h12_6, if_neg h12_7, if_pos h12_8] <;> try rw [hN, show tn (nI nB) = nB from nI_clamp (by omega)]
    by_cases h12_9 : w = 9
    · refine j_tabIn (tgt := 129) C dX7_ship_12 (by rw [h12_9]; decide) (by rw [h12_9]; decide) (off := 117) (by rw [h12_9]; decide) (by decide) ?_
      refine j_aload_n C dX7_ship_129 rfl ?_
      refine j_getR (j := 22) C fl_X7_55 dX7_ship_130 (M.c) rfl (M.r21) ?_
      refine j_iload_n C dX7_ship_133 rfl ?_
      refine j_zald C (M.t22) (inG h5 hG hG8 (by decide)) dX7_ship_134 ?_
      refine j_if_eq (tgt := 142) C dX7_ship_135 (by decide) (fun h135 => ?_) (fun h135 => ?_)
      · skip
        refine j_iconst C dX7_ship_142 (v := 0) (by decide) ?_
        refine j_iret C dX7_ship_143 rfl ⟨rfl, ?_, ?_⟩ <;> rw [mShip, if_pos h5, if_neg h12_0, if_neg h12_1, if_neg h12_2, if_neg h12_3, if_neg h12_4, if_neg h12_5, if_neg h12_6, if_neg h12_7, if_neg h12_8, if_pos h12_9, if_pos h135] <;> try rw [hN, show tn (nI nB) = nB from nI_clamp (by omega)]
      · skip
        refine j_iconst C dX7_ship_138 (v := 1) (by decide) ?_
        refine j_goto (tgt := 143) C dX7_ship_139 (by decide) ?_
        refine j_iret C dX7_ship_143 rfl ⟨rfl, ?_, ?_⟩ <;> rw [mShip, if_pos h5, if_neg h12_0, if_neg h12_1, if_neg h12_2, if_neg h12_3, if_neg h12_4, if_neg h12_5, if_neg h12_6, if_neg h12_7, if_neg h12_8, if_pos h12_9, if_neg h135] <;> try rw [hN, show tn (nI nB) = nB from nI_clamp (by omega)]
    have q0 := lv_neT h12_0 (a := 0) (by decide)
    have q1 := lv_neT h12_1 (a := 1) (by decide)
    have q2 := lv_neT h12_2 (a := 2) (by decide)
    have q3 := lv_neT h12_3 (a := 3) (by decide)
    have q4 := lv_neT h12_4 (a := 4) (by decide)
    have q5 := lv_neT h12_5 (a := 5) (by decide)
    have q6 := lv_neT h12_6 (a := 6) (by decide)
    have q7 := lv_neT h12_7 (a := 7) (by decide)
    have q8 := lv_neT h12_8 (a := 8) (by decide)
    have q9 := lv_neT h12_9 (a := 9) (by decide)
    refine j_tabOut (tgt := 144) C dX7_ship_12 (by omega) (by decide) ?_
    refine j_bipush C dX7_ship_144 (v := (-2)) (by decide) ?_
    refine j_iret C dX7_ship_146 rfl ⟨rfl, ?_, ?_⟩ <;> rw [mShip, if_pos h5, if_neg h12_0, if_neg h12_1, if_neg h12_2, if_neg h12_3, if_neg h12_4, if_neg h12_5, if_neg h12_6, if_neg h12_7, if_neg h12_8, if_neg h12_9] <;> try rw [hN, show tn (nI nB) = nB from nI_clamp (by omega)]
  · replace h5 := b2_eq0.mp (Decidable.not_not.mp h5)
    refine j_bipush C dX7_ship_8 (v := (-2)) (by decide) ?_
    refine j_iret C dX7_ship_10 rfl ⟨rfl, ?_, ?_⟩ <;> rw [mShip, if_neg h5] <;> try rw [hN, show tn (nI nB) = nB from nI_clamp (by omega)]

def mBaleN (N : WNm) (who wh sz pr : Int32) : WNm := (u2 (u2 (u2 (u2 (u2 (u2 (u2 (u2 (u2 (u2 (u2 (u2 (u2 N 25 (tn (N 0 23)) (who)) 26 (tn (N 0 23)) (wh / 100)) 27 (tn (N 0 23)) (wh - wh / 100 * 100)) 28 (tn (N 0 23)) (sz / 1000000)) 29 (tn (N 0 23)) (sz / 1000 - sz / 1000 / 1000 * 1000)) 30 (tn (N 0 23)) (sz - sz / 1000 * 1000)) 31 (tn (N 0 23)) (pr / 1000)) 32 (tn (N 0 23)) (pr - pr / 1000 * 1000)) 33 (tn (N 0 23)) (N 0 1)) 34 (tn (N 0 23)) (0)) 35 (tn (N 0 23)) (-1)) 36 (tn (N 0 23)) (N 0 1)) 0 23 (N 0 23 + 1))
def mBale (N : WNm) (who wh sz pr : Int32) : Int32 × WNm := (if 0 ≤ who ∧ who ≤ 9 then (if wh < 0 then (-1, N) else (if sz < 0 then (-1, N) else (if 0 ≤ pr then (if 0 ≤ wh / 100 ∧ wh / 100 ≤ N 0 5 - 1 then (if 0 ≤ wh - wh / 100 * 100 ∧ wh - wh / 100 * 100 ≤ N 0 5 - 1 then (if wh - wh / 100 * 100 ≤ wh / 100 then (-1, N) else (if 0 ≤ sz / 1000000 ∧ sz / 1000000 ≤ 2 then (if 1 ≤ sz / 1000 - sz / 1000 / 1000 * 1000 ∧ sz / 1000 - sz / 1000 / 1000 * 1000 ≤ 99 then (if 1 ≤ sz - sz / 1000 * 1000 ∧ sz - sz / 1000 * 1000 ≤ 999 then (if 1 ≤ pr / 1000 ∧ pr / 1000 ≤ 9999 then (if N 0 23 = 300 then (-3, N) else (N 0 23, mBaleN N who wh sz pr)) else (-1, N)) else (-1, N)) else (-1, N)) else (-1, N))) else (-1, N)) else (-1, N)) else (-1, N)))) else (-1, N))
theorem cM_bale {l : Launch} {g : WGp} (hg : GOK g) {sh : WSh} {N : WNm} (M : MSh sh) {nB : Nat} (hN : N 0 23 = nI nB) (hN3 : nB ≤ 300) (who wh sz pr : Int32) : CT l g yX7_bale cX7_bale 9 (some .int) (RM 3 0 0) [.ref (sh.2.2 0), .int who, .int wh, .int sz, .int pr] sh N (QF g sh (mBale N who wh sz pr).2 (mBale N who wh sz pr).1) := by
  refine ent hg (by decide +kernel) (Nat.le_of_ble_eq_true rfl) ?_
  intro p e s m args below meth c C hname
  refine j_iload_n C dX7_bale_0 rfl ?_
  refine j_callS1I C ml_X7_146 dX7_bale_1 (cM_isPerson hg _) ⟨Nat.le_of_ble_eq_true rfl, Nat.le_of_ble_eq_true rfl⟩ (Nat.le_of_ble_eq_true rfl) ⟨rfl, rfl⟩ ⟨Nat.zero_le _, Nat.zero_le _⟩ ?_
  refine j_if_eq (tgt := 20) C dX7_bale_4 (by decide) (fun h4 => ?_) (fun h4 => ?_)
  · replace h4 := b2_eq0.mp h4
    refine j_iconst C dX7_bale_20 (v := (-1)) (by decide) ?_
    refine j_iret C dX7_bale_21 rfl ⟨rfl, ?_, ?_⟩ <;> rw [mBale, if_neg h4] <;> try rfl
  · replace h4 := b2_ne0.mp h4
    refine j_iload_n C dX7_bale_7 rfl ?_
    refine j_if_lt (tgt := 20) C dX7_bale_8 (by decide) (fun h8 => ?_) (fun h8 => ?_)
    · skip
      refine j_iconst C dX7_bale_20 (v := (-1)) (by decide) ?_
      refine j_iret C dX7_bale_21 rfl ⟨rfl, ?_, ?_⟩ <;> rw [mBale, if_pos h4, if_pos h8] <;> try rfl
    · skip
      refine j_iload_n C dX7_bale_11 rfl ?_
      refine j_if_lt (tgt := 20) C dX7_bale_12 (by decide) (fun h12 => ?_) (fun h12 => ?_)
      · skip
        refine j_iconst C dX7_bale_20 (v := (-1)) (by decide) ?_
        refine j_iret C dX7_bale_21 rfl ⟨rfl, ?_, ?_⟩ <;> rw [mBale, if_pos h4, if_neg h8, if_pos h12] <;> try rfl
      · skip
        refine j_iload C dX7_bale_15 rfl ?_
        refine j_if_ge (tgt := 22) C dX7_bale_17 (by decide) (fun h17 => ?_) (fun h17 => ?_)
        · skip
          refine j_iload_n C dX7_bale_22 rfl ?_
          refine j_bipush C dX7_bale_23 (v := 100) (by decide) ?_
          refine j_idiv C dX7_bale_25 (by decide) ?_
          refine j_istore C dX7_bale_26 (by decide) rfl ?_
          refine j_iload_n C dX7_bale_28 rfl ?_
          refine j_bipush C dX7_bale_29 (v := 100) (by decide) ?_
          refine j_irem C dX7_bale_31 (by decide) ?_
          refine j_istore C dX7_bale_32 (by decide) rfl ?_
          refine j_aload_n C dX7_bale_34 rfl ?_
          refine j_iload C dX7_bale_35 rfl ?_
          refine j_callV1I C ml_X7_162 dX7_bale_37 (cM_isPort hg M _) ⟨by rw [M.c]; decide, by rw [M.c]; rfl⟩ ⟨Nat.le_of_ble_eq_true rfl, Nat.le_of_ble_eq_true rfl⟩ (Nat.le_of_ble_eq_true rfl) ⟨rfl, rfl⟩ ⟨Nat.zero_le _, Nat.zero_le _⟩ ?_
          refine j_if_eq (tgt := 124) C dX7_bale_40 (by decide) (fun h40 => ?_) (fun h40 => ?_)
          · replace h40 := b2_eq0.mp h40
            refine j_iconst C dX7_bale_124 (v := 0) (by decide) ?_
            refine j_istore C dX7_bale_125 (by decide) rfl ?_
            refine j_iload C dX7_bale_127 rfl ?_
            refine j_if_ne (tgt := 134) C dX7_bale_129 (by decide) (fun h129 => ?_) (fun h129 => ?_)
            · exact absurd h129 (by decide)
            · skip
              refine j_iconst C dX7_bale_132 (v := (-1)) (by decide) ?_
              refine j_iret C dX7_bale_133 rfl ⟨rfl, ?_, ?_⟩ <;> rw [mBale, if_pos h4, if_neg h8, if_neg h12, if_pos h17, if_neg h40] <;> try rfl
          · replace h40 := b2_ne0.mp h40
            refine j_aload_n C dX7_bale_43 rfl ?_
            refine j_iload C dX7_bale_44 rfl ?_
            refine j_callV1I C ml_X7_162 dX7_bale_46 (cM_isPort hg M _) ⟨by rw [M.c]; decide, by rw [M.c]; rfl⟩ ⟨Nat.le_of_ble_eq_true rfl, Nat.le_of_ble_eq_true rfl⟩ (Nat.le_of_ble_eq_true rfl) ⟨rfl, rfl⟩ ⟨Nat.zero_le _, Nat.zero_le _⟩ ?_
            refine j_if_eq (tgt := 124) C dX7_bale_49 (by decide) (fun h49 => ?_) (fun h49 => ?_)
            · replace h49 := b2_eq0.mp h49
              refine j_iconst C dX7_bale_124 (v := 0) (by decide) ?_
              refine j_istore C dX7_bale_125 (by decide) rfl ?_
              refine j_iload C dX7_bale_127 rfl ?_
              refine j_if_ne (tgt := 134) C dX7_bale_129 (by decide) (fun h129 => ?_) (fun h129 => ?_)
              · exact absurd h129 (by decide)
              · skip
                refine j_iconst C dX7_bale_132 (v := (-1)) (by decide) ?_
                refine j_iret C dX7_bale_133 rfl ⟨rfl, ?_, ?_⟩ <;> rw [mBale, if_pos h4, if_neg h8, if_neg h12, if_pos h17, if_pos h40, if_neg h49] <;> try rfl
            · replace h49 := b2_ne0.mp h49
              refine j_iload C dX7_bale_52 rfl ?_
              refine j_iload C dX7_bale_54 rfl ?_
              refine j_icmp_le (tgt := 124) C dX7_bale_56 (by decide) (fun h56 => ?_) (fun h56 => ?_)
              · skip
                refine j_iconst C dX7_bale_124 (v := 0) (by decide) ?_
                refine j_istore C dX7_bale_125 (by decide) rfl ?_
                refine j_iload C dX7_bale_127 rfl ?_
                refine j_if_ne (tgt := 134) C dX7_bale_129 (by decide) (fun h129 => ?_) (fun h129 => ?_)
                · exact absurd h129 (by decide)
                · skip
                  refine j_iconst C dX7_bale_132 (v := (-1)) (by decide) ?_
                  refine j_iret C dX7_bale_133 rfl ⟨rfl, ?_, ?_⟩ <;> rw [mBale, if_pos h4, if_neg h8, if_neg h12, if_pos h17, if_pos h40, if_pos h49, if_pos h56] <;> try rfl
              · skip
                refine j_iload_n C dX7_bale_59 rfl ?_
                refine j_ldc C kc_X7_158 dX7_bale_60 ?_
                refine j_idiv C dX7_bale_62 (by decide) ?_
                refine j_iconst C dX7_bale_63 (v := 0) (by decide) ?_
                refine j_iconst C dX7_bale_64 (v := 2) (by decide) ?_
                refine j_callS3I C ml_X7_133 dX7_bale_65 (cM_in hg _ _ _) ⟨Nat.le_of_ble_eq_true rfl, Nat.le_of_ble_eq_true rfl⟩ (Nat.le_of_ble_eq_true rfl) ⟨rfl, rfl⟩ ⟨Nat.zero_le _, Nat.zero_le _⟩ ?_
                refine j_if_eq (tgt := 124) C dX7_bale_68 (by decide) (fun h68 => ?_) (fun h68 => ?_)
                · replace h68 := b2_eq0.mp h68
                  refine j_iconst C dX7_bale_124 (v := 0) (by decide) ?_
                  refine j_istore C dX7_bale_125 (by decide) rfl ?_
                  refine j_iload C dX7_bale_127 rfl ?_
                  refine j_if_ne (tgt := 134) C dX7_bale_129 (by decide) (fun h129 => ?_) (fun h129 => ?_)
                  · exact absurd h129 (by decide)
                  · skip
                    refine j_iconst C dX7_bale_132 (v := (-1)) (by decide) ?_
                    refine j_iret C dX7_bale_133 rfl ⟨rfl, ?_, ?_⟩ <;> rw [mBale, if_pos h4, if_neg h8, if_neg h12, if_pos h17, if_pos h40, if_pos h49, if_neg h56, if_neg h68] <;> try rfl
                · replace h68 := b2_ne0.mp h68
                  refine j_iload_n C dX7_bale_71 rfl ?_
                  refine j_sipush C dX7_bale_72 (v := 1000) (by decide) ?_
                  refine j_idiv C dX7_bale_75 (by decide) ?_
                  refine j_sipush C dX7_bale_76 (v := 1000) (by decide) ?_
                  refine j_irem C dX7_bale_79 (by decide) ?_
                  refine j_iconst C dX7_bale_80 (v := 1) (by decide) ?_
                  refine j_bipush C dX7_bale_81 (v := 99) (by decide) ?_
                  refine j_callS3I C ml_X7_133 dX7_bale_83 (cM_in hg _ _ _) ⟨Nat.le_of_ble_eq_true rfl, Nat.le_of_ble_eq_true rfl⟩ (Nat.le_of_ble_eq_true rfl) ⟨rfl, rfl⟩ ⟨Nat.zero_le _, Nat.zero_le _⟩ ?_
                  refine j_if_eq (tgt := 124) C dX7_bale_86 (by decide) (fun h86 => ?_) (fun h86 => ?_)
                  · replace h86 := b2_eq0.mp h86
                    refine j_iconst C dX7_bale_124 (v := 0) (by decide) ?_
                    refine j_istore C dX7_bale_125 (by decide) rfl ?_
                    refine j_iload C dX7_bale_127 rfl ?_
                    refine j_if_ne (tgt := 134) C dX7_bale_129 (by decide) (fun h129 => ?_) (fun h129 => ?_)
                    · exact absurd h129 (by decide)
                    · skip
                      refine j_iconst C dX7_bale_132 (v := (-1)) (by decide) ?_
                      refine j_iret C dX7_bale_133 rfl ⟨rfl, ?_, ?_⟩ <;> rw [mBale, if_pos h4, if_neg h8, if_neg h12, if_pos h17, if_pos h40, if_pos h49, if_neg h56, if_pos h68, if_neg h86] <;> try rfl
                  · replace h86 := b2_ne0.mp h86
                    refine j_iload_n C dX7_bale_89 rfl ?_
                    refine j_sipush C dX7_bale_90 (v := 1000) (by decide) ?_
                    refine j_irem C dX7_bale_93 (by decide) ?_
                    refine j_iconst C dX7_bale_94 (v := 1) (by decide) ?_
                    refine j_sipush C dX7_bale_95 (v := 999) (by decide) ?_
                    refine j_callS3I C ml_X7_133 dX7_bale_98 (cM_in hg _ _ _) ⟨Nat.le_of_ble_eq_true rfl, Nat.le_of_ble_eq_true rfl⟩ (Nat.le_of_ble_eq_true rfl) ⟨rfl, rfl⟩ ⟨Nat.zero_le _, Nat.zero_le _⟩ ?_
                    refine j_if_eq (tgt := 124) C dX7_bale_101 (by decide) (fun h101 => ?_) (fun h101 => ?_)
                    · replace h101 := b2_eq0.mp h101
                      refine j_iconst C dX7_bale_124 (v := 0) (by decide) ?_
                      refine j_istore C dX7_bale_125 (by decide) rfl ?_
                      refine j_iload C dX7_bale_127 rfl ?_
                      refine j_if_ne (tgt := 134) C dX7_bale_129 (by decide) (fun h129 => ?_) (fun h129 => ?_)
                      · exact absurd h129 (by decide)
                      · skip
                        refine j_iconst C dX7_bale_132 (v := (-1)) (by decide) ?_
                        refine j_iret C dX7_bale_133 rfl ⟨rfl, ?_, ?_⟩ <;> rw [mBale, if_pos h4, if_neg h8, if_neg h12, if_pos h17, if_pos h40, if_pos h49, if_neg h56, if_pos h68, if_pos h86, if_neg h101] <;> try rfl
                    · replace h101 := b2_ne0.mp h101
                      refine j_iload C dX7_bale_104 rfl ?_
                      refine j_sipush C dX7_bale_106 (v := 1000) (by decide) ?_
                      refine j_idiv C dX7_bale_109 (by decide) ?_
                      refine j_iconst C dX7_bale_110 (v := 1) (by decide) ?_
                      refine j_sipush C dX7_bale_111 (v := 9999) (by decide) ?_
                      refine j_callS3I C ml_X7_133 dX7_bale_114 (cM_in hg _ _ _) ⟨Nat.le_of_ble_eq_true rfl, Nat.le_of_ble_eq_true rfl⟩ (Nat.le_of_ble_eq_true rfl) ⟨rfl, rfl⟩ ⟨Nat.zero_le _, Nat.zero_le _⟩ ?_
                      refine j_if_eq (tgt := 124) C dX7_bale_117 (by decide) (fun h117 => ?_) (fun h117 => ?_)
                      · replace h117 := b2_eq0.mp h117
                        refine j_iconst C dX7_bale_124 (v := 0) (by decide) ?_
                        refine j_istore C dX7_bale_125 (by decide) rfl ?_
                        refine j_iload C dX7_bale_127 rfl ?_
                        refine j_if_ne (tgt := 134) C dX7_bale_129 (by decide) (fun h129 => ?_) (fun h129 => ?_)
                        · exact absurd h129 (by decide)
                        · skip
                          refine j_iconst C dX7_bale_132 (v := (-1)) (by decide) ?_
                          refine j_iret C dX7_bale_133 rfl ⟨rfl, ?_, ?_⟩ <;> rw [mBale, if_pos h4, if_neg h8, if_neg h12, if_pos h17, if_pos h40, if_pos h49, if_neg h56, if_pos h68, if_pos h86, if_pos h101, if_neg h117] <;> try rfl
                      · replace h117 := b2_ne0.mp h117
                        refine j_iconst C dX7_bale_120 (v := 1) (by decide) ?_
                        refine j_goto (tgt := 125) C dX7_bale_121 (by decide) ?_
                        refine j_istore C dX7_bale_125 (by decide) rfl ?_
                        refine j_iload C dX7_bale_127 rfl ?_
                        refine j_if_ne (tgt := 134) C dX7_bale_129 (by decide) (fun h129 => ?_) (fun h129 => ?_)
                        · skip
                          refine j_aload_n C dX7_bale_134 rfl ?_
                          refine j_getI C fl_X7_143 dX7_bale_135 (M.c) rfl ?_
                          refine j_sipush C dX7_bale_138 (v := 300) (by decide) ?_
                          refine j_icmp_ne (tgt := 147) C dX7_bale_141 (by decide) (fun h141 => ?_) (fun h141 => ?_)
                          · skip
                            have hin : vp_in (N 0 23) 300 := by
                              rw [hN] at h141 ⊢
                              exact vp_inN (by rcases Nat.lt_or_ge nB 300 with q | q; exact q; exact absurd (by rw [show nB = 300 by omega]; rfl) h141) (by decide)
                            refine j_aload_n C dX7_bale_147 rfl ?_
                            refine j_getI C fl_X7_143 dX7_bale_148 (M.c) rfl ?_
                            refine j_istore C dX7_bale_151 (by decide) rfl ?_
                            refine j_aload_n C dX7_bale_153 rfl ?_
                            refine j_getR (j := 25) C fl_X7_62 dX7_bale_154 (M.c) rfl (M.r24) ?_
                            refine j_iload C dX7_bale_157 rfl ?_
                            refine j_iload_n C dX7_bale_159 rfl ?_
                            refine j_iast C (M.t25) (hin) dX7_bale_160 ?_
                            refine j_aload_n C dX7_bale_161 rfl ?_
                            refine j_getR (j := 26) C fl_X7_65 dX7_bale_162 (M.c) rfl (M.r25) ?_
                            refine j_iload C dX7_bale_165 rfl ?_
                            refine j_iload C dX7_bale_167 rfl ?_
                            refine j_iast C (M.t26) (hin) dX7_bale_169 ?_
                            refine j_aload_n C dX7_bale_170 rfl ?_
                            refine j_getR (j := 27) C fl_X7_68 dX7_bale_171 (M.c) rfl (M.r26) ?_
                            refine j_iload C dX7_bale_174 rfl ?_
                            refine j_iload C dX7_bale_176 rfl ?_
                            refine j_iast C (M.t27) (hin) dX7_bale_178 ?_
                            refine j_aload_n C dX7_bale_179 rfl ?_
                            refine j_getR (j := 28) C fl_X7_71 dX7_bale_180 (M.c) rfl (M.r27) ?_
                            refine j_iload C dX7_bale_183 rfl ?_
                            refine j_iload_n C dX7_bale_185 rfl ?_
                            refine j_ldc C kc_X7_158 dX7_bale_186 ?_
                            refine j_idiv C dX7_bale_188 (by decide) ?_
                            refine j_iast C (M.t28) (hin) dX7_bale_189 ?_
                            refine j_aload_n C dX7_bale_190 rfl ?_
                            refine j_getR (j := 29) C fl_X7_74 dX7_bale_191 (M.c) rfl (M.r28) ?_
                            refine j_iload C dX7_bale_194 rfl ?_
                            refine j_iload_n C dX7_bale_196 rfl ?_
                            refine j_sipush C dX7_bale_197 (v := 1000) (by decide) ?_
                            refine j_idiv C dX7_bale_200 (by decide) ?_
                            refine j_sipush C dX7_bale_201 (v := 1000) (by decide) ?_
                            refine j_irem C dX7_bale_204 (by decide) ?_
                            refine j_iast C (M.t29) (hin) dX7_bale_205 ?_
                            refine j_aload_n C dX7_bale_206 rfl ?_
                            refine j_getR (j := 30) C fl_X7_77 dX7_bale_207 (M.c) rfl (M.r29) ?_
                            refine j_iload C dX7_bale_210 rfl ?_
                            refine j_iload_n C dX7_bale_212 rfl ?_
                            refine j_sipush C dX7_bale_213 (v := 1000) (by decide) ?_
                            refine j_irem C dX7_bale_216 (by decide) ?_
                            refine j_iast C (M.t30) (hin) dX7_bale_217 ?_
                            refine j_aload_n C dX7_bale_218 rfl ?_
                            refine j_getR (j := 31) C fl_X7_80 dX7_bale_219 (M.c) rfl (M.r30) ?_
                            refine j_iload C dX7_bale_222 rfl ?_
                            refine j_iload C dX7_bale_224 rfl ?_
                            refine j_sipush C dX7_bale_226 (v := 1000) (by decide) ?_
                            refine j_idiv C dX7_bale_229 (by decide) ?_
                            refine j_iast C (M.t31) (hin) dX7_bale_230 ?_
                            refine j_aload_n C dX7_bale_231 rfl ?_
                            refine j_getR (j := 32) C fl_X7_83 dX7_bale_232 (M.c) rfl (M.r31) ?_
                            refine j_iload C dX7_bale_235 rfl ?_
                            refine j_iload C dX7_bale_237 rfl ?_
                            refine j_sipush C dX7_bale_239 (v := 1000) (by decide) ?_
                            refine j_irem C dX7_bale_242 (by decide) ?_
                            refine j_iast C (M.t32) (hin) dX7_bale_243 ?_
                            refine j_aload_n C dX7_bale_244 rfl ?_
                            refine j_getR (j := 33) C fl_X7_86 dX7_bale_245 (M.c) rfl (M.r32) ?_
                            refine j_iload C dX7_bale_248 rfl ?_
                            refine j_aload_n C dX7_bale_250 rfl ?_
                            refine j_getI C fl_X7_165 dX7_bale_251 (M.c) rfl ?_
                            refine j_iast C (M.t33) (hin) dX7_bale_254 ?_
                            refine j_aload_n C dX7_bale_255 rfl ?_
                            refine j_getR (j := 34) C fl_X7_89 dX7_bale_256 (M.c) rfl (M.r33) ?_
                            refine j_iload C dX7_bale_259 rfl ?_
                            refine j_iconst C dX7_bale_261 (v := 0) (by decide) ?_
                            refine j_iast C (M.t34) (hin) dX7_bale_262 ?_
                            refine j_aload_n C dX7_bale_263 rfl ?_
                            refine j_getR (j := 35) C fl_X7_92 dX7_bale_264 (M.c) rfl (M.r34) ?_
                            refine j_iload C dX7_bale_267 rfl ?_
                            refine j_iconst C dX7_bale_269 (v := (-1)) (by decide) ?_
                            refine j_iast C (M.t35) (hin) dX7_bale_270 ?_
                            refine j_aload_n C dX7_bale_271 rfl ?_
                            refine j_getR (j := 36) C fl_X7_95 dX7_bale_272 (M.c) rfl (M.r35) ?_
                            refine j_iload C dX7_bale_275 rfl ?_
                            refine j_aload_n C dX7_bale_277 rfl ?_
                            refine j_getI C fl_X7_165 dX7_bale_278 (M.c) rfl ?_
                            refine j_iast C (M.t36) (hin) dX7_bale_281 ?_
                            refine j_aload_n C dX7_bale_282 rfl ?_
                            refine j_dup C dX7_bale_283 rfl ?_
                            refine j_getI C fl_X7_143 dX7_bale_284 (M.c) rfl ?_
                            refine j_iconst C dX7_bale_287 (v := 1) (by decide) ?_
                            refine j_iadd C dX7_bale_288 ?_
                            refine j_putI C fl_X7_143 dX7_bale_289 (M.c) rfl rfl rfl rfl ?_
                            refine j_iload C dX7_bale_292 rfl ?_
                            refine j_iret C dX7_bale_294 rfl ⟨rfl, ?_, ?_⟩ <;> rw [mBale, if_pos h4, if_neg h8, if_neg h12, if_pos h17, if_pos h40, if_pos h49, if_neg h56, if_pos h68, if_pos h86, if_pos h101, if_pos h117, if_neg h141] <;> try rfl
                          · replace h141 := Decidable.not_not.mp h141
                            refine j_bipush C dX7_bale_144 (v := (-3)) (by decide) ?_
                            refine j_iret C dX7_bale_146 rfl ⟨rfl, ?_, ?_⟩ <;> rw [mBale, if_pos h4, if_neg h8, if_neg h12, if_pos h17, if_pos h40, if_pos h49, if_neg h56, if_pos h68, if_pos h86, if_pos h101, if_pos h117, if_pos h141] <;> try rfl
                        · exact absurd (by decide) h129
        · skip
          refine j_iconst C dX7_bale_20 (v := (-1)) (by decide) ?_
          refine j_iret C dX7_bale_21 rfl ⟨rfl, ?_, ?_⟩ <;> rw [mBale, if_pos h4, if_neg h8, if_neg h12, if_neg h17] <;> try rfl

def mPort1 (N : WNm) (x : Int32) : WNm := u2 N 7 (tn (N 0 5)) x
def mPort2 (N : WNm) (x : Int32) : WNm := u2 (mPort1 N x) 8 (tn (N 0 5)) (if N 0 5 = 0 then 0 else mPort1 N x 8 (tn (N 0 5 - 1)) + x)
def mPort3 (N : WNm) (x : Int32) : WNm := u2 (mPort2 N x) 0 5 (N 0 5 + 1)
def mPortOk (N : WNm) (x : Int32) : Int32 × WNm := if ∀ k, k < tn (N 0 9) → N 15 k = 0 then (if N 0 5 = 12 then (-3, N) else (N 0 5 + 1 - 1, mPort3 N x)) else (-2, N)
def mPort (N : WNm) (x : Int32) : Int32 × WNm := if N 0 5 = 0 then (if x = 0 then mPortOk N x else (-1, N)) else (if 1 ≤ x ∧ x ≤ 9 then mPortOk N x else (-1, N))

theorem cM_port {l : Launch} {g : WGp} (hg : GOK g) {sh : WSh} {N : WNm} (M : MSh sh) {nG : Nat} (hG : N 0 9 = nI nG) (hG8 : nG ≤ 8) {nP : Nat} (hP : N 0 5 = nI nP) (hP12 : nP ≤ 12) (x : Int32) : CT l g yX7_port cX7_port 3 (some .int) (RM 2 0 0) [.ref (sh.2.2 0), .int x] sh N (QF g sh (mPort N x).2 (mPort N x).1) := by
  refine ent hg (by decide +kernel) (Nat.le_of_ble_eq_true rfl) ?_
  intro p e s m args below meth c C hname
  have key : mPort N x = mPortOk N x → J p l e (RM 2 0 0) s m args below meth c (MQ below (QF g sh (mPort N x).2 (mPort N x).1) args s 0 0 g.A) g 3 sh N 0 0 28 [some (.ref (sh.2.2 0)), some (.int x), some (.int (0))] [] := by
    intro em
    suffices key2 : ∀ k, k ≤ nG → (∀ j, j < k → N 15 j = 0) → J p l e (RM 2 0 0) s m args below meth c (MQ below (QF g sh (mPort N x).2 (mPort N x).1) args s 0 0 g.A) g 3 sh N 0 0 28 [some (.ref (sh.2.2 0)), some (.int x), some (.int (nI k))] [] from key2 0 (Nat.zero_le _) (fun j hj => absurd hj (Nat.not_lt_zero j))
    refine up_ind (P := fun k => (∀ j, j < k → N 15 j = 0) → J p l e (RM 2 0 0) s m args below meth c (MQ below (QF g sh (mPort N x).2 (mPort N x).1) args s 0 0 g.A) g 3 sh N 0 0 28 [some (.ref (sh.2.2 0)), some (.int x), some (.int (nI k))] []) (n := nG) ?_
    intro k hk ih hall
    refine j_iload_n C dX7_port_28 rfl ?_
    refine j_aload_n C dX7_port_29 rfl ?_
    refine j_getI C fl_X7_140 dX7_port_30 (M.c) rfl ?_
    refine j_icmp_ge (tgt := 54) C dX7_port_33 (by decide) (fun h33 => ?_) (fun h33 => ?_)
    · skip
      rw [hG, n_nle (by omega) (by omega)] at h33
      obtain rfl : k = nG := by omega
      rw [em, mPortOk, if_pos (fun j hj => hall j (by rw [hG, show tn (nI k) = k from nI_clamp (by omega)] at hj; exact hj))]
      refine j_aload_n C dX7_port_54 rfl ?_
      refine j_getI C fl_X7_137 dX7_port_55 (M.c) rfl ?_
      refine j_bipush C dX7_port_58 (v := 12) (by decide) ?_
      refine j_icmp_ne (tgt := 66) C dX7_port_60 (by decide) (fun h60 => ?_) (fun h60 => ?_)
      · skip
        have hnp : nP < 12 := by
          rcases Nat.lt_or_ge nP 12 with q | q
          · exact q
          · exact absurd (by rw [hP, show nP = 12 by omega]; rfl) h60
        have hin : vp_in (N 0 5) 12 := by rw [hP]; exact vp_inN hnp (by decide)
        rw [if_neg h60]
        refine j_aload_n C dX7_port_66 rfl ?_
        refine j_getR (j := 7) C fl_X7_13 dX7_port_67 (M.c) rfl (M.r6) ?_
        refine j_aload_n C dX7_port_70 rfl ?_
        refine j_getI C fl_X7_137 dX7_port_71 (M.c) rfl ?_
        refine j_iload_n C dX7_port_74 rfl ?_
        refine j_iast C (M.t7) (hin) dX7_port_75 ?_
        refine j_aload_n C dX7_port_76 rfl ?_
        refine j_getR (j := 8) C fl_X7_16 dX7_port_77 (M.c) rfl (M.r7) ?_
        refine j_aload_n C dX7_port_80 rfl ?_
        refine j_getI C fl_X7_137 dX7_port_81 (M.c) rfl ?_
        refine j_aload_n C dX7_port_84 rfl ?_
        refine j_getI C fl_X7_137 dX7_port_85 (M.c) rfl ?_
        refine j_if_ne (tgt := 95) C dX7_port_88 (by decide) (fun h88 => ?_) (fun h88 => ?_)
        · skip
          have hin2 : vp_in (N 0 5 - 1) 12 := in_pred hP h88 hP12 (by decide)
          refine j_aload_n C dX7_port_95 rfl ?_
          refine j_getR (j := 8) C fl_X7_16 dX7_port_96 (M.c) rfl (M.r7) ?_
          refine j_aload_n C dX7_port_99 rfl ?_
          refine j_getI C fl_X7_137 dX7_port_100 (M.c) rfl ?_
          refine j_iconst C dX7_port_103 (v := 1) (by decide) ?_
          refine j_isub C dX7_port_104 ?_
          refine j_iald C (M.t8) (hin2) dX7_port_105 ?_
          refine j_iload_n C dX7_port_106 rfl ?_
          refine j_iadd C dX7_port_107 ?_
          refine j_iast C (M.t8) (hin) dX7_port_108 ?_
          refine j_aload_n C dX7_port_109 rfl ?_
          refine j_dup C dX7_port_110 rfl ?_
          refine j_getI C fl_X7_137 dX7_port_111 (M.c) rfl ?_
          refine j_iconst C dX7_port_114 (v := 1) (by decide) ?_
          refine j_iadd C dX7_port_115 ?_
          refine j_putI C fl_X7_137 dX7_port_116 (M.c) rfl rfl rfl rfl ?_
          refine j_aload_n C dX7_port_119 rfl ?_
          refine j_getI C fl_X7_137 dX7_port_120 (M.c) rfl ?_
          refine j_iconst C dX7_port_123 (v := 1) (by decide) ?_
          refine j_isub C dX7_port_124 ?_
          refine j_iret C dX7_port_125 rfl ⟨rfl, ?_, rfl⟩
          first | (have h88 : N 0 5 = 0 := h88; show _ = mPort3 N x; rw [mPort3, mPort2, if_pos h88]; rfl) | (have h88 : ¬ N 0 5 = 0 := h88; show _ = mPort3 N x; rw [mPort3, mPort2, if_neg h88]; rfl)
        · replace h88 := Decidable.not_not.mp h88
          refine j_iconst C dX7_port_91 (v := 0) (by decide) ?_
          refine j_goto (tgt := 108) C dX7_port_92 (by decide) ?_
          refine j_iast C (M.t8) (hin) dX7_port_108 ?_
          refine j_aload_n C dX7_port_109 rfl ?_
          refine j_dup C dX7_port_110 rfl ?_
          refine j_getI C fl_X7_137 dX7_port_111 (M.c) rfl ?_
          refine j_iconst C dX7_port_114 (v := 1) (by decide) ?_
          refine j_iadd C dX7_port_115 ?_
          refine j_putI C fl_X7_137 dX7_port_116 (M.c) rfl rfl rfl rfl ?_
          refine j_aload_n C dX7_port_119 rfl ?_
          refine j_getI C fl_X7_137 dX7_port_120 (M.c) rfl ?_
          refine j_iconst C dX7_port_123 (v := 1) (by decide) ?_
          refine j_isub C dX7_port_124 ?_
          refine j_iret C dX7_port_125 rfl ⟨rfl, ?_, rfl⟩
          first | (have h88 : N 0 5 = 0 := h88; show _ = mPort3 N x; rw [mPort3, mPort2, if_pos h88]; rfl) | (have h88 : ¬ N 0 5 = 0 := h88; show _ = mPort3 N x; rw [mPort3, mPort2, if_neg h88]; rfl)
      · replace h60 := Decidable.not_not.mp h60
        refine j_bipush C dX7_port_63 (v := (-3)) (by decide) ?_
        rw [if_pos h60]; exact j_iret C dX7_port_65 rfl ⟨rfl, rfl, rfl⟩
    · skip
      rw [hG, n_nle (by omega) (by omega)] at h33
      refine j_aload_n C dX7_port_36 rfl ?_
      refine j_getR (j := 15) C fl_X7_34 dX7_port_37 (M.c) rfl (M.r14) ?_
      refine j_iload_n C dX7_port_40 rfl ?_
      refine j_ialdN C (M.t15) (⟨by omega, by decide⟩) dX7_port_41 ?_
      refine j_if_eq (tgt := 48) C dX7_port_42 (by decide) (fun h42 => ?_) (fun h42 => ?_)
      · skip
        refine j_iincN C dX7_port_48 rfl (by decide) rfl ?_
        refine j_goto (tgt := 28) C dX7_port_51 (by decide) ?_
        exact ih (by omega) (fun j hj => by rcases Nat.lt_succ_iff_lt_or_eq.mp hj with q | q; exact hall j q; rw [q]; exact h42)
      · skip
        refine j_bipush C dX7_port_45 (v := (-2)) (by decide) ?_
        refine j_iret C dX7_port_47 rfl ⟨rfl, ?_, ?_⟩ <;> rw [em, mPortOk, if_neg (fun z => h42 (z k (by rw [hG, show tn (nI nG) = nG from nI_clamp (by omega)]; omega)))]
  refine j_aload_n C dX7_port_0 rfl ?_
  refine j_getI C fl_X7_137 dX7_port_1 (M.c) rfl ?_
  refine j_if_ne (tgt := 14) C dX7_port_4 (by decide) (fun h4 => ?_) (fun h4 => ?_)
  · skip
    refine j_iload_n C dX7_port_14 rfl ?_
    refine j_iconst C dX7_port_15 (v := 1) (by decide) ?_
    refine j_bipush C dX7_port_16 (v := 9) (by decide) ?_
    refine j_callS3I C ml_X7_133 dX7_port_18 (cM_in hg _ _ _) ⟨Nat.le_of_ble_eq_true rfl, Nat.le_of_ble_eq_true rfl⟩ (Nat.le_of_ble_eq_true rfl) ⟨rfl, rfl⟩ ⟨Nat.zero_le _, Nat.zero_le _⟩ ?_
    refine j_if_ne (tgt := 26) C dX7_port_21 (by decide) (fun h21 => ?_) (fun h21 => ?_)
    · replace h21 := b2_ne0.mp h21
      refine j_iconst C dX7_port_26 (v := 0) (by decide) ?_
      refine j_istore_n C dX7_port_27 (by decide) rfl ?_
      exact key (by rw [mPort, if_neg h4, if_pos h21])
    · replace h21 := b2_eq0.mp (Decidable.not_not.mp h21)
      refine j_iconst C dX7_port_24 (v := (-1)) (by decide) ?_
      refine j_iret C dX7_port_25 rfl ⟨rfl, ?_, ?_⟩ <;> rw [mPort, if_neg h4, if_neg h21]
  · replace h4 := Decidable.not_not.mp h4
    refine j_iload_n C dX7_port_7 rfl ?_
    refine j_if_eq (tgt := 26) C dX7_port_8 (by decide) (fun h8 => ?_) (fun h8 => ?_)
    · skip
      refine j_iconst C dX7_port_26 (v := 0) (by decide) ?_
      refine j_istore_n C dX7_port_27 (by decide) rfl ?_
      exact key (by rw [mPort, if_pos h4, if_pos h8])
    · skip
      refine j_goto (tgt := 24) C dX7_port_11 (by decide) ?_
      refine j_iconst C dX7_port_24 (v := (-1)) (by decide) ?_
      refine j_iret C dX7_port_25 rfl ⟨rfl, ?_, ?_⟩ <;> rw [mPort, if_pos h4, if_neg h8]
