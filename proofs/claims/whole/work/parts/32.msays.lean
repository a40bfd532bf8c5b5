/-! ===== THE REFERENCE: parts, feed, what votes say ===== -/
def mLeft (N : WNm) (x : Int32) : Nat → Int32
  | 0 => 24
  | k + 1 => mLeft N x k - N 23 (tn (10 * x + nI k))
def mParts (N : WNm) (x p : Int32) : Int32 × WNm := if 0 ≤ x ∧ x ≤ N 0 9 - 1 then (if p = -1 then (if p < 0 then (mLeft N x 10, N) else (N 23 (tn (10 * x + p)), N)) else (if 0 ≤ p ∧ p ≤ 9 then (if p < 0 then (mLeft N x 10, N) else (N 23 (tn (10 * x + p)), N)) else (-1, N))) else (-1, N)

theorem cM_parts {l : Launch} {g : WGp} (hg : GOK g) {sh : WSh} {N : WNm} (M : MSh sh) {nG : Nat} (hG : N 0 9 = nI nG) (hG8 : nG ≤ 8) (x p0 : Int32) : CT l g yX7_parts cX7_parts 5 (some .int) (RM 3 0 0) [.ref (sh.2.2 0), .int x, .int p0] sh N (QF g sh (mParts N x p0).2 (mParts N x p0).1) := by
  refine ent hg (by decide +kernel) (Nat.le_of_ble_eq_true rfl) ?_
  intro p e s m args below meth c C hname
  have key : (0 ≤ x ∧ x ≤ N 0 9 - 1) → (mParts N x p0).1 = mLeft N x 10 → (mParts N x p0).2 = N → J p l e (RM 3 0 0) s m args below meth c (MQ below (QF g sh (mParts N x p0).2 (mParts N x p0).1) args s 0 0 g.A) g 5 sh N 0 0 38 [some (.ref (sh.2.2 0)), some (.int x), some (.int p0), none, none] [] := by
    intro h5 e1 e2
    refine j_bipush C dX7_parts_38 (v := 24) (by decide) ?_
    refine j_istore_n C dX7_parts_40 (by decide) rfl ?_
    refine j_iconst C dX7_parts_41 (v := 0) (by decide) ?_
    refine j_istore C dX7_parts_42 (by decide) rfl ?_
    refine up_ind (P := fun k => J p l e (RM 3 0 0) s m args below meth c (MQ below (QF g sh (mParts N x p0).2 (mParts N x p0).1) args s 0 0 g.A) g 5 sh N 0 0 44 [some (.ref (sh.2.2 0)), some (.int x), some (.int p0), some (.int (mLeft N x k)), some (.int (nI k))] []) (n := 10) ?_ 0 (Nat.zero_le _)
    intro k hk ih
    refine j_iload C dX7_parts_44 rfl ?_
    refine j_bipush C dX7_parts_46 (v := 10) (by decide) ?_
    refine j_icmp_ge (tgt := 72) C dX7_parts_48 (by decide) (fun h48 => ?_) (fun h48 => ?_)
    · skip
      rw [show (10 : Int32) = nI 10 from rfl, n_nle (by omega) (by omega)] at h48
      obtain rfl : k = 10 := by omega
      refine j_iload_n C dX7_parts_72 rfl ?_
      exact j_iret C dX7_parts_73 rfl ⟨rfl, e2.symm, e1.symm⟩
    · skip
      rw [show (10 : Int32) = nI 10 from rfl, n_nle (by omega) (by omega)] at h48
      replace h48 : k < 10 := by omega
      refine j_iload_n C dX7_parts_51 rfl ?_
      refine j_aload_n C dX7_parts_52 rfl ?_
      refine j_getR (j := 23) C fl_X7_59 dX7_parts_53 (M.c) rfl (M.r22) ?_
      refine j_bipush C dX7_parts_56 (v := 10) (by decide) ?_
      refine j_iload_n C dX7_parts_58 rfl ?_
      refine j_imul C dX7_parts_59 ?_
      refine j_iload C dX7_parts_60 rfl ?_
      refine j_iadd C dX7_parts_62 ?_
      refine j_iald C (M.t23) (in10 (inG h5 hG hG8 (by decide)) (vp_inN h48 (by decide))) dX7_parts_63 ?_
      refine j_isub C dX7_parts_64 ?_
      refine j_istore_n C dX7_parts_65 (by decide) rfl ?_
      refine j_iincN C dX7_parts_66 rfl (by decide) rfl ?_
      refine j_goto (tgt := 44) C dX7_parts_69 (by decide) ?_
      exact ih h48
  refine j_aload_n C dX7_parts_0 rfl ?_
  refine j_iload_n C dX7_parts_1 rfl ?_
  refine j_callV1I C ml_X7_155 dX7_parts_2 (cM_isGalley hg M _) ⟨by rw [M.c]; decide, by rw [M.c]; rfl⟩ ⟨Nat.le_of_ble_eq_true rfl, Nat.le_of_ble_eq_true rfl⟩ (Nat.le_of_ble_eq_true rfl) ⟨rfl, rfl⟩ ⟨Nat.zero_le _, Nat.zero_le _⟩ ?_
  refine j_if_eq (tgt := 20) C dX7_parts_5 (by decide) (fun h5 => ?_) (fun h5 => ?_)
  · replace h5 := b2_eq0.mp h5
    refine j_iconst C dX7_parts_20 (v := (-1)) (by decide) ?_
    refine j_iret C dX7_parts_21 rfl ⟨rfl, ?_, ?_⟩ <;> rw [mParts, if_neg h5]
  · replace h5 := b2_ne0.mp h5
    refine j_iload_n C dX7_parts_8 rfl ?_
    refine j_iconst C dX7_parts_9 (v := (-1)) (by decide) ?_
    refine j_icmp_eq (tgt := 22) C dX7_parts_10 (by decide) (fun h10 => ?_) (fun h10 => ?_)
    · skip
      refine j_iload_n C dX7_parts_22 rfl ?_
      refine j_if_lt (tgt := 38) C dX7_parts_23 (by decide) (fun h23 => ?_) (fun h23 => ?_)
      · skip
        exact key h5 (by rw [mParts, if_pos h5, if_pos h10, if_pos h23]) (by rw [mParts, if_pos h5, if_pos h10, if_pos h23])
      · skip
        refine j_aload_n C dX7_parts_26 rfl ?_
        refine j_getR (j := 23) C fl_X7_59 dX7_parts_27 (M.c) rfl (M.r22) ?_
        refine j_bipush C dX7_parts_30 (v := 10) (by decide) ?_
        refine j_iload_n C dX7_parts_32 rfl ?_
        refine j_imul C dX7_parts_33 ?_
        refine j_iload_n C dX7_parts_34 rfl ?_
        refine j_iadd C dX7_parts_35 ?_
        refine j_iald C (M.t23) (by first | exact in10 (inG h5 hG hG8 (by decide)) (inC h17 rfl (by decide)) | exact absurd (by rw [h10]; decide) h23) dX7_parts_36 ?_
        refine j_iret C dX7_parts_37 rfl ⟨rfl, ?_, ?_⟩ <;> rw [mParts, if_pos h5, if_pos h10, if_neg h23]
    · skip
      refine j_iload_n C dX7_parts_13 rfl ?_
      refine j_callS1I C ml_X7_146 dX7_parts_14 (cM_isPerson hg _) ⟨Nat.le_of_ble_eq_true rfl, Nat.le_of_ble_eq_true rfl⟩ (Nat.le_of_ble_eq_true rfl) ⟨rfl, rfl⟩ ⟨Nat.zero_le _, Nat.zero_le _⟩ ?_
      refine j_if_ne (tgt := 22) C dX7_parts_17 (by decide) (fun h17 => ?_) (fun h17 => ?_)
      · replace h17 := b2_ne0.mp h17
        refine j_iload_n C dX7_parts_22 rfl ?_
        refine j_if_lt (tgt := 38) C dX7_parts_23 (by decide) (fun h23 => ?_) (fun h23 => ?_)
        · skip
          exact key h5 (by rw [mParts, if_pos h5, if_neg h10, if_pos h17, if_pos h23]) (by rw [mParts, if_pos h5, if_neg h10, if_pos h17, if_pos h23])
        · skip
          refine j_aload_n C dX7_parts_26 rfl ?_
          refine j_getR (j := 23) C fl_X7_59 dX7_parts_27 (M.c) rfl (M.r22) ?_
          refine j_bipush C dX7_parts_30 (v := 10) (by decide) ?_
          refine j_iload_n C dX7_parts_32 rfl ?_
          refine j_imul C dX7_parts_33 ?_
          refine j_iload_n C dX7_parts_34 rfl ?_
          refine j_iadd C dX7_parts_35 ?_
          refine j_iald C (M.t23) (by first | exact in10 (inG h5 hG hG8 (by decide)) (inC h17 rfl (by decide)) | exact absurd (by rw [h10]; decide) h23) dX7_parts_36 ?_
          refine j_iret C dX7_parts_37 rfl ⟨rfl, ?_, ?_⟩ <;> rw [mParts, if_pos h5, if_neg h10, if_pos h17, if_neg h23]
      · replace h17 := b2_eq0.mp (Decidable.not_not.mp h17)
        refine j_iconst C dX7_parts_20 (v := (-1)) (by decide) ?_
        refine j_iret C dX7_parts_21 rfl ⟨rfl, ?_, ?_⟩ <;> rw [mParts, if_pos h5, if_neg h10, if_neg h17]

def mFeedN (N : WNm) (v : Int32) : Nat → WNm
  | 0 => N
  | k + 1 => u2 (u2 (mFeedN N v k) 37 (tn (mFeedN N v k 0 37)) (v >>> (8 * nI k &&& 31)).toInt8.toInt32.toInt8.toInt32) 0 37 (mFeedN N v k 0 37 + 1)
theorem mFeedN_len (N : WNm) (v : Int32) {t : Nat} (h : N 0 37 = nI t) : ∀ k, mFeedN N v k 0 37 = nI (t + k)
  | 0 => h
  | k + 1 => by rw [mFeedN, u2_eq, mFeedN_len N v h k, nI_1, Nat.add_assoc]
def mFeed (N : WNm) (n v : Int32) : Int32 × WNm := if 1 ≤ n ∧ n ≤ 4 then (if N 0 37 + n ≤ 200 then (mFeedN N v (tn n) 0 37, mFeedN N v (tn n)) else (-3, N)) else (-1, N)
theorem rng14 {n : Int32} (h : 1 ≤ n ∧ n ≤ 4) : ∃ q, q ≤ 4 ∧ n = nI q ∧ tn n = q := by
  have h1 := i_le.mp h.1
  have h2 := i_le.mp h.2
  rw [show (1 : Int32).toInt = 1 from rfl] at h1
  rw [show (4 : Int32).toInt = 4 from rfl] at h2
  obtain ⟨k, hk, rfl⟩ := vp_in_of (n := 5) ((vp_in_iff (x := n)).mpr ⟨by omega, by omega⟩) (by omega)
  exact ⟨k, by omega, rfl, nI_clamp (by omega)⟩

theorem cM_feed {l : Launch} {g : WGp} (hg : GOK g) {sh : WSh} {N : WNm} (M : MSh sh) {t : Nat} (hT : N 0 37 = nI t) (hT2 : t ≤ 200) (n v : Int32) : CT l g yX7_feed cX7_feed 4 (some .int) (RM 2 0 0) [.ref (sh.2.2 0), .int n, .int v] sh N (QF g sh (mFeed N n v).2 (mFeed N n v).1) := by
  refine ent hg (by decide +kernel) (Nat.le_of_ble_eq_true rfl) ?_
  intro p e s m args below meth c C hname
  refine j_iload_n C dX7_feed_0 rfl ?_
  refine j_iconst C dX7_feed_1 (v := 1) (by decide) ?_
  refine j_iconst C dX7_feed_2 (v := 4) (by decide) ?_
  refine j_callS3I C ml_X7_133 dX7_feed_3 (cM_in hg _ _ _) ⟨Nat.le_of_ble_eq_true rfl, Nat.le_of_ble_eq_true rfl⟩ (Nat.le_of_ble_eq_true rfl) ⟨rfl, rfl⟩ ⟨Nat.zero_le _, Nat.zero_le _⟩ ?_
  refine j_if_ne (tgt := 11) C dX7_feed_6 (by decide) (fun h6 => ?_) (fun h6 => ?_)
  · replace h6 := b2_ne0.mp h6
    refine j_aload_n C dX7_feed_11 rfl ?_
    refine j_getI C fl_X7_175 dX7_feed_12 (M.c) rfl ?_
    refine j_iload_n C dX7_feed_15 rfl ?_
    refine j_iadd C dX7_feed_16 ?_
    refine j_sipush C dX7_feed_17 (v := 200) (by decide) ?_
    refine j_icmp_le (tgt := 26) C dX7_feed_20 (by decide) (fun h20 => ?_) (fun h20 => ?_)
    · skip
      refine j_iconst C dX7_feed_26 (v := 0) (by decide) ?_
      refine j_istore_n C dX7_feed_27 (by decide) rfl ?_
      have em : mFeed N n v = (mFeedN N v (tn n) 0 37, mFeedN N v (tn n)) := by rw [mFeed, if_pos h6, if_pos h20]
      obtain ⟨q, hq, e1, e2⟩ := rng14 h6
      have hq2 : t + q ≤ 200 := by
        rw [hT, e1, nI_add, show (200 : Int32) = nI 200 from rfl, n_nle (by omega) (by omega)] at h20
        exact h20
      refine up_ind (P := fun k => J p l e (RM 2 0 0) s m args below meth c (MQ below (QF g sh (mFeed N n v).2 (mFeed N n v).1) args s 0 0 g.A) g 4 sh (mFeedN N v k) 0 0 28 [some (.ref (sh.2.2 0)), some (.int n), some (.int v), some (.int (nI k))] []) (n := q) ?_ 0 (Nat.zero_le _)
      intro k hk ih
      refine j_iload_n C dX7_feed_28 rfl ?_
      refine j_iload_n C dX7_feed_29 rfl ?_
      refine j_icmp_ge (tgt := 65) C dX7_feed_30 (by decide) (fun h30 => ?_) (fun h30 => ?_)
      · skip
        rw [e1, n_nle (by omega) (by omega)] at h30
        obtain rfl : k = q := by omega
        refine j_aload_n C dX7_feed_65 rfl ?_
        refine j_getI C fl_X7_175 dX7_feed_66 (M.c) rfl ?_
        refine j_iret C dX7_feed_69 rfl ⟨rfl, ?_, ?_⟩ <;> rw [em, e2]
      · skip
        rw [e1, n_nle (by omega) (by omega)] at h30
        refine j_aload_n C dX7_feed_33 rfl ?_
        refine j_getR (j := 37) C fl_X7_98 dX7_feed_34 (M.c) rfl (M.r36) ?_
        refine j_aload_n C dX7_feed_37 rfl ?_
        refine j_getI C fl_X7_175 dX7_feed_38 (M.c) rfl ?_
        refine j_iload_n C dX7_feed_41 rfl ?_
        refine j_bipush C dX7_feed_42 (v := 8) (by decide) ?_
        refine j_iload_n C dX7_feed_44 rfl ?_
        refine j_imul C dX7_feed_45 ?_
        refine j_ishr C dX7_feed_46 ?_
        refine j_i2b C dX7_feed_47 ?_
        refine j_bast C (M.t37) (by rw [mFeedN_len N v hT]; exact vp_inN (by omega) (by decide)) dX7_feed_48 ?_
        refine j_aload_n C dX7_feed_49 rfl ?_
        refine j_dup C dX7_feed_50 rfl ?_
        refine j_getI C fl_X7_175 dX7_feed_51 (M.c) rfl ?_
        refine j_iconst C dX7_feed_54 (v := 1) (by decide) ?_
        refine j_iadd C dX7_feed_55 ?_
        refine j_putI C fl_X7_175 dX7_feed_56 (M.c) rfl rfl rfl rfl ?_
        refine j_iincN C dX7_feed_59 rfl (by decide) rfl ?_
        refine j_goto (tgt := 28) C dX7_feed_62 (by decide) ?_
        exact ih (by omega)
    · skip
      refine j_bipush C dX7_feed_23 (v := (-3)) (by decide) ?_
      refine j_iret C dX7_feed_25 rfl ⟨rfl, ?_, ?_⟩ <;> rw [mFeed, if_pos h6, if_neg h20]
  · replace h6 := b2_eq0.mp (Decidable.not_not.mp h6)
    refine j_iconst C dX7_feed_9 (v := (-1)) (by decide) ?_
    refine j_iret C dX7_feed_10 rfl ⟨rfl, ?_, ?_⟩ <;> rw [mFeed, if_neg h6]

def mOfBale (N : WNm) (w : Int32) (b : Int32) : Int32 := if w = 107 then N 28 (tn b) else (if w = 108 then N 29 (tn b) else (if w = 109 then N 30 (tn b) else (if w = 110 then N 31 (tn b) else (if w = 111 then N 32 (tn b) else N 0 1 - N 33 (tn b)))))
def mBoth (w a b : Int32) : Int32 := if w = 10 then (if a = 0 then (if b = 0 then 0 else 1) else 1) else (if w = 20 then (if a = 0 then 0 else (if b = 0 then 0 else 1)) else (if w = 40 then (if b ≤ a then 0 else 1) else (if w = 41 then (if a = b then 1 else 0) else (if w = 42 then (if a ≤ b then 0 else 1) else (if w = 50 then a + b else (if w = 51 then a - b else a * b))))))
def mValue (N : WNm) (w k x b : Int32) : Int32 := if w = 100 then N 16 (tn x) else (if w = 101 then N 0 1 else (if w = 102 then (if k = 2 then b else x) else (if w = 103 then mInPort N (N 16 (tn x)) (tn (N 0 9)) else (if w = 104 then (if k = 2 then N 0 1 - N 17 (tn x) else 0) else (if w = 105 then N 0 1 - N 17 (tn x) else (if w = 106 then mWeightOn N x False (tn (N 0 23)) else (if k = 1 then mOfBale N w b else 0)))))))

theorem cM_ofBale {l : Launch} {g : WGp} (hg : GOK g) {sh : WSh} {N : WNm} (M : MSh sh) (w : Int32) {b : Int32} (hb : vp_in b 300) : CT l g yX7_ofBale cX7_ofBale 3 (some .int) (RM 1 0 0) [.ref (sh.2.2 0), .int w, .int b] sh N (QF g sh N (mOfBale N w b)) := by
  refine ent hg (by decide +kernel) (Nat.le_of_ble_eq_true rfl) ?_
  intro p e s m args below meth c C hname
  refine j_iload_n C dX7_ofBale_0 rfl ?_
  by_cases h1_107 : w = 107
  · refine j_tabIn (tgt := 36) C dX7_ofBale_1 (by rw [h1_107]; decide) (by rw [h1_107]; decide) (off := 35) (by rw [h1_107]; decide) (by decide) ?_
    refine j_aload_n C dX7_ofBale_36 rfl ?_
    refine j_getR (j := 28) C fl_X7_71 dX7_ofBale_37 (M.c) rfl (M.r27) ?_
    refine j_iload_n C dX7_ofBale_40 rfl ?_
    refine j_iald C (M.t28) (hb) dX7_ofBale_41 ?_
    refine j_iret C dX7_ofBale_42 rfl ⟨rfl, rfl, ?_⟩ <;> rw [mOfBale, if_pos h1_107]
  by_cases h1_108 : w = 108
  · refine j_tabIn (tgt := 43) C dX7_ofBale_1 (by rw [h1_108]; decide) (by rw [h1_108]; decide) (off := 42) (by rw [h1_108]; decide) (by decide) ?_
    refine j_aload_n C dX7_ofBale_43 rfl ?_
    refine j_getR (j := 29) C fl_X7_74 dX7_ofBale_44 (M.c) rfl (M.r28) ?_
    refine j_iload_n C dX7_ofBale_47 rfl ?_
    refine j_iald C (M.t29) (hb) dX7_ofBale_48 ?_
    refine j_iret C dX7_ofBale_49 rfl ⟨rfl, rfl, ?_⟩ <;> rw [mOfBale, if_neg h1_107, if_pos h1_108]
  by_cases h1_109 : w = 109
  · refine j_tabIn (tgt := 50) C dX7_ofBale_1 (by rw [h1_109]; decide) (by rw [h1_109]; decide) (off := 49) (by rw [h1_109]; decide) (by decide) ?_
    refine j_aload_n C dX7_ofBale_50 rfl ?_
    refine j_getR (j := 30) C fl_X7_77 dX7_ofBale_51 (M.c) rfl (M.r29) ?_
    refine j_iload_n C dX7_ofBale_54 rfl ?_
    refine j_iald C (M.t30) (hb) dX7_ofBale_55 ?_
    refine j_iret C dX7_ofBale_56 rfl ⟨rfl, rfl, ?_⟩ <;> rw [mOfBale, if_neg h1_107, if_neg h1_108, if_pos h1_109]
  by_cases h1_110 : w = 110
  · refine j_tabIn (tgt := 57) C dX7_ofBale_1 (by rw [h1_110]; decide) (by rw [h1_110]; decide) (off := 56) (by rw [h1_110]; decide) (by decide) ?_
    refine j_aload_n C dX7_ofBale_57 rfl ?_
    refine j_getR (j := 31) C fl_X7_80 dX7_ofBale_58 (M.c) rfl (M.r30) ?_
    refine j_iload_n C dX7_ofBale_61 rfl ?_
    refine j_iald C (M.t31) (hb) dX7_ofBale_62 ?_
    refine j_iret C dX7_ofBale_63 rfl ⟨rfl, rfl, ?_⟩ <;> rw [mOfBale, if_neg h1_107, if_neg h1_108, if_neg h1_109, if_pos h1_110]
  by_cases h1_111 : w = 111
  · refine j_tabIn (tgt := 64) C dX7_ofBale_1 (by rw [h1_111]; decide) (by rw [h1_111]; decide) (off := 63) (by rw [h1_111]; decide) (by decide) ?_
    refine j_aload_n C dX7_ofBale_64 rfl ?_
    refine j_getR (j := 32) C fl_X7_83 dX7_ofBale_65 (M.c) rfl (M.r31) ?_
    refine j_iload_n C dX7_ofBale_68 rfl ?_
    refine j_iald C (M.t32) (hb) dX7_ofBale_69 ?_
    refine j_iret C dX7_ofBale_70 rfl ⟨rfl, rfl, ?_⟩ <;> rw [mOfBale, if_neg h1_107, if_neg h1_108, if_neg h1_109, if_neg h1_110, if_pos h1_111]
  have q107 := lv_neT h1_107 (a := 107) (by decide)
  have q108 := lv_neT h1_108 (a := 108) (by decide)
  have q109 := lv_neT h1_109 (a := 109) (by decide)
  have q110 := lv_neT h1_110 (a := 110) (by decide)
  have q111 := lv_neT h1_111 (a := 111) (by decide)
  refine j_tabOut (tgt := 71) C dX7_ofBale_1 (by omega) (by decide) ?_
  refine j_aload_n C dX7_ofBale_71 rfl ?_
  refine j_getI C fl_X7_165 dX7_ofBale_72 (M.c) rfl ?_
  refine j_aload_n C dX7_ofBale_75 rfl ?_
  refine j_getR (j := 33) C fl_X7_86 dX7_ofBale_76 (M.c) rfl (M.r32) ?_
  refine j_iload_n C dX7_ofBale_79 rfl ?_
  refine j_iald C (M.t33) (hb) dX7_ofBale_80 ?_
  refine j_isub C dX7_ofBale_81 ?_
  refine j_iret C dX7_ofBale_82 rfl ⟨rfl, rfl, ?_⟩ <;> rw [mOfBale, if_neg h1_107, if_neg h1_108, if_neg h1_109, if_neg h1_110, if_neg h1_111]

theorem cM_both {l : Launch} {g : WGp} (hg : GOK g) {sh : WSh} {N : WNm} (w a b : Int32) : CT l g yX7_both cX7_both 3 (some .int) (RM 1 0 0) [.int w, .int a, .int b] sh N (QF g sh N (mBoth w a b)) := by
  refine ent hg (by decide +kernel) (Nat.le_of_ble_eq_true rfl) ?_
  intro p e s m args below meth c C hname
  refine j_iload_n C dX7_both_0 rfl ?_
  by_cases h1_10 : w = 10
  · refine j_lookup (tgt := 68) C dX7_both_1 (by decide) (off := 67) (by rw [h1_10]; decide) (by decide) ?_
    refine j_iload_n C dX7_both_68 rfl ?_
    refine j_if_ne (tgt := 76) C dX7_both_69 (by decide) (fun h69 => ?_) (fun h69 => ?_)
    · skip
      refine j_iconst C dX7_both_76 (v := 1) (by decide) ?_
      refine j_goto (tgt := 81) C dX7_both_77 (by decide) ?_
      refine j_iret C dX7_both_81 rfl ⟨rfl, rfl, ?_⟩ <;> rw [mBoth, if_pos h1_10, if_neg h69]
    · replace h69 := Decidable.not_not.mp h69
      refine j_iload_n C dX7_both_72 rfl ?_
      refine j_if_eq (tgt := 80) C dX7_both_73 (by decide) (fun h73 => ?_) (fun h73 => ?_)
      · skip
        refine j_iconst C dX7_both_80 (v := 0) (by decide) ?_
        refine j_iret C dX7_both_81 rfl ⟨rfl, rfl, ?_⟩ <;> rw [mBoth, if_pos h1_10, if_pos h69, if_pos h73]
      · skip
        refine j_iconst C dX7_both_76 (v := 1) (by decide) ?_
        refine j_goto (tgt := 81) C dX7_both_77 (by decide) ?_
        refine j_iret C dX7_both_81 rfl ⟨rfl, rfl, ?_⟩ <;> rw [mBoth, if_pos h1_10, if_pos h69, if_neg h73]
  by_cases h1_20 : w = 20
  · refine j_lookup (tgt := 82) C dX7_both_1 (by decide) (off := 81) (by rw [h1_20]; decide) (by decide) ?_
    refine j_iload_n C dX7_both_82 rfl ?_
    refine j_if_eq (tgt := 94) C dX7_both_83 (by decide) (fun h83 => ?_) (fun h83 => ?_)
    · skip
      refine j_iconst C dX7_both_94 (v := 0) (by decide) ?_
      refine j_iret C dX7_both_95 rfl ⟨rfl, rfl, ?_⟩ <;> rw [mBoth, if_neg h1_10, if_pos h1_20, if_pos h83]
    · skip
      refine j_iload_n C dX7_both_86 rfl ?_
      refine j_if_eq (tgt := 94) C dX7_both_87 (by decide) (fun h87 => ?_) (fun h87 => ?_)
      · skip
        refine j_iconst C dX7_both_94 (v := 0) (by decide) ?_
        refine j_iret C dX7_both_95 rfl ⟨rfl, rfl, ?_⟩ <;> rw [mBoth, if_neg h1_10, if_pos h1_20, if_neg h83, if_pos h87]
      · skip
        refine j_iconst C dX7_both_90 (v := 1) (by decide) ?_
        refine j_goto (tgt := 95) C dX7_both_91 (by decide) ?_
        refine j_iret C dX7_both_95 rfl ⟨rfl, rfl, ?_⟩ <;> rw [mBoth, if_neg h1_10, if_pos h1_20, if_neg h83, if_neg h87]
  by_cases h1_40 : w = 40
  · refine j_lookup (tgt := 96) C dX7_both_1 (by decide) (off := 95) (by rw [h1_40]; decide) (by decide) ?_
    refine j_iload_n C dX7_both_96 rfl ?_
    refine j_iload_n C dX7_both_97 rfl ?_
    refine j_icmp_ge (tgt := 105) C dX7_both_98 (by decide) (fun h98 => ?_) (fun h98 => ?_)
    · skip
      refine j_iconst C dX7_both_105 (v := 0) (by decide) ?_
      refine j_iret C dX7_both_106 rfl ⟨rfl, rfl, ?_⟩ <;> rw [mBoth, if_neg h1_10, if_neg h1_20, if_pos h1_40, if_pos h98]
    · skip
      refine j_iconst C dX7_both_101 (v := 1) (by decide) ?_
      refine j_goto (tgt := 106) C dX7_both_102 (by decide) ?_
      refine j_iret C dX7_both_106 rfl ⟨rfl, rfl, ?_⟩ <;> rw [mBoth, if_neg h1_10, if_neg h1_20, if_pos h1_40, if_neg h98]
  by_cases h1_41 : w = 41
  · refine j_lookup (tgt := 107) C dX7_both_1 (by decide) (off := 106) (by rw [h1_41]; decide) (by decide) ?_
    refine j_iload_n C dX7_both_107 rfl ?_
    refine j_iload_n C dX7_both_108 rfl ?_
    refine j_icmp_ne (tgt := 116) C dX7_both_109 (by decide) (fun h109 => ?_) (fun h109 => ?_)
    · skip
      refine j_iconst C dX7_both_116 (v := 0) (by decide) ?_
      refine j_iret C dX7_both_117 rfl ⟨rfl, rfl, ?_⟩ <;> rw [mBoth, if_neg h1_10, if_neg h1_20, if_neg h1_40, if_pos h1_41, if_neg h109]
    · replace h109 := Decidable.not_not.mp h109
      refine j_iconst C dX7_both_112 (v := 1) (by decide) ?_
      refine j_goto (tgt := 117) C dX7_both_113 (by decide) ?_
      refine j_iret C dX7_both_117 rfl ⟨rfl, rfl, ?_⟩ <;> rw [mBoth, if_neg h1_10, if_neg h1_20, if_neg h1_40, if_pos h1_41, if_pos h109]
  by_cases h1_42 : w = 42
  · refine j_lookup (tgt := 118) C dX7_both_1 (by decide) (off := 117) (by rw [h1_42]; decide) (by decide) ?_
    refine j_iload_n C dX7_both_118 rfl ?_
    refine j_iload_n C dX7_both_119 rfl ?_
    refine j_icmp_le (tgt := 127) C dX7_both_120 (by decide) (fun h120 => ?_) (fun h120 => ?_)
    · skip
      refine j_iconst C dX7_both_127 (v := 0) (by decide) ?_
      refine j_iret C dX7_both_128 rfl ⟨rfl, rfl, ?_⟩ <;> rw [mBoth, if_neg h1_10, if_neg h1_20, if_neg h1_40, if_neg h1_41, if_pos h1_42, if_pos h120]
    · skip
      refine j_iconst C dX7_both_123 (v := 1) (by decide) ?_
      refine j_goto (tgt := 128) C dX7_both_124 (by decide) ?_
      refine j_iret C dX7_both_128 rfl ⟨rfl, rfl, ?_⟩ <;> rw [mBoth, if_neg h1_10, if_neg h1_20, if_neg h1_40, if_neg h1_41, if_pos h1_42, if_neg h120]
  by_cases h1_50 : w = 50
  · refine j_lookup (tgt := 129) C dX7_both_1 (by decide) (off := 128) (by rw [h1_50]; decide) (by decide) ?_
    refine j_iload_n C dX7_both_129 rfl ?_
    refine j_iload_n C dX7_both_130 rfl ?_
    refine j_iadd C dX7_both_131 ?_
    refine j_iret C dX7_both_132 rfl ⟨rfl, rfl, ?_⟩ <;> rw [mBoth, if_neg h1_10, if_neg h1_20, if_neg h1_40, if_neg h1_41, if_neg h1_42, if_pos h1_50]
  by_cases h1_51 : w = 51
  · refine j_lookup (tgt := 133) C dX7_both_1 (by decide) (off := 132) (by rw [h1_51]; decide) (by decide) ?_
    refine j_iload_n C dX7_both_133 rfl ?_
    refine j_iload_n C dX7_both_134 rfl ?_
    refine j_isub C dX7_both_135 ?_
    refine j_iret C dX7_both_136 rfl ⟨rfl, rfl, ?_⟩ <;> rw [mBoth, if_neg h1_10, if_neg h1_20, if_neg h1_40, if_neg h1_41, if_neg h1_42, if_neg h1_50, if_pos h1_51]
  refine j_lookup (tgt := 137) C dX7_both_1 (by decide) (off := 136) (by show Op.lookupswitch.offset [((10 : Int), (67 : Int)), ((20 : Int), (81 : Int)), ((40 : Int), (95 : Int)), ((41 : Int), (106 : Int)), ((42 : Int), (117 : Int)), ((50 : Int), (128 : Int)), ((51 : Int), (132 : Int))] 136 w.toInt = _; rw [lv_osw h1_10 (by decide), lv_osw h1_20 (by decide), lv_osw h1_40 (by decide), lv_osw h1_41 (by decide), lv_osw h1_42 (by decide), lv_osw h1_50 (by decide), lv_osw h1_51 (by decide)]; rfl) (by decide) ?_
  refine j_iload_n C dX7_both_137 rfl ?_
  refine j_iload_n C dX7_both_138 rfl ?_
  refine j_imul C dX7_both_139 ?_
  refine j_iret C dX7_both_140 rfl ⟨rfl, rfl, ?_⟩ <;> rw [mBoth, if_neg h1_10, if_neg h1_20, if_neg h1_40, if_neg h1_41, if_neg h1_42, if_neg h1_50, if_neg h1_51]

theorem cM_value {l : Launch} {g : WGp} (hg : GOK g) {sh : WSh} {N : WNm} (M : MSh sh) {nG : Nat} (hG : N 0 9 = nI nG) (hG8 : nG ≤ 8) {nB : Nat} (hN : N 0 23 = nI nB) (hN3 : nB ≤ 300) (w k : Int32) {x b : Int32} (hx : vp_in x 8) (hb : k = 1 → vp_in b 300) : CT l g yX7_value cX7_value 5 (some .int) (RM 3 0 0) [.ref (sh.2.2 0), .int w, .int k, .int x, .int b] sh N (QF g sh N (mValue N w k x b)) := by
  refine ent hg (by decide +kernel) (Nat.le_of_ble_eq_true rfl) ?_
  intro p e s m args below meth c C hname
  refine j_iload_n C dX7_value_0 rfl ?_
  by_cases h1_100 : w = 100
  · refine j_tabIn (tgt := 44) C dX7_value_1 (by rw [h1_100]; decide) (by rw [h1_100]; decide) (off := 43) (by rw [h1_100]; decide) (by decide) ?_
    refine j_aload_n C dX7_value_44 rfl ?_
    refine j_getR (j := 16) C fl_X7_37 dX7_value_45 (M.c) rfl (M.r15) ?_
    refine j_iload_n C dX7_value_48 rfl ?_
    refine j_iald C (M.t16) (hx) dX7_value_49 ?_
    refine j_iret C dX7_value_50 rfl ⟨rfl, rfl, ?_⟩ <;> rw [mValue, if_pos h1_100]
  by_cases h1_101 : w = 101
  · refine j_tabIn (tgt := 51) C dX7_value_1 (by rw [h1_101]; decide) (by rw [h1_101]; decide) (off := 50) (by rw [h1_101]; decide) (by decide) ?_
    refine j_aload_n C dX7_value_51 rfl ?_
    refine j_getI C fl_X7_165 dX7_value_52 (M.c) rfl ?_
    refine j_iret C dX7_value_55 rfl ⟨rfl, rfl, ?_⟩ <;> rw [mValue, if_neg h1_100, if_pos h1_101]
  by_cases h1_102 : w = 102
  · refine j_tabIn (tgt := 56) C dX7_value_1 (by rw [h1_102]; decide) (by rw [h1_102]; decide) (off := 55) (by rw [h1_102]; decide) (by decide) ?_
    refine j_iload_n C dX7_value_56 rfl ?_
    refine j_iconst C dX7_value_57 (v := 2) (by decide) ?_
    refine j_icmp_ne (tgt := 66) C dX7_value_58 (by decide) (fun h58 => ?_) (fun h58 => ?_)
    · skip
      refine j_iload_n C dX7_value_66 rfl ?_
      refine j_iret C dX7_value_67 rfl ⟨rfl, rfl, ?_⟩ <;> rw [mValue, if_neg h1_100, if_neg h1_101, if_pos h1_102, if_neg h58]
    · replace h58 := Decidable.not_not.mp h58
      refine j_iload C dX7_value_61 rfl ?_
      refine j_goto (tgt := 67) C dX7_value_63 (by decide) ?_
      refine j_iret C dX7_value_67 rfl ⟨rfl, rfl, ?_⟩ <;> rw [mValue, if_neg h1_100, if_neg h1_101, if_pos h1_102, if_pos h58]
  by_cases h1_103 : w = 103
  · refine j_tabIn (tgt := 68) C dX7_value_1 (by rw [h1_103]; decide) (by rw [h1_103]; decide) (off := 67) (by rw [h1_103]; decide) (by decide) ?_
    refine j_aload_n C dX7_value_68 rfl ?_
    refine j_aload_n C dX7_value_69 rfl ?_
    refine j_getR (j := 16) C fl_X7_37 dX7_value_70 (M.c) rfl (M.r15) ?_
    refine j_iload_n C dX7_value_73 rfl ?_
    refine j_iald C (M.t16) (hx) dX7_value_74 ?_
    refine j_callV1I C ml_X7_280 dX7_value_75 (cM_inPort hg M hG hG8 _) ⟨by rw [M.c]; decide, by rw [M.c]; rfl⟩ ⟨Nat.le_of_ble_eq_true rfl, Nat.le_of_ble_eq_true rfl⟩ (Nat.le_of_ble_eq_true rfl) ⟨rfl, rfl⟩ ⟨Nat.zero_le _, Nat.zero_le _⟩ ?_
    refine j_iret C dX7_value_78 rfl ⟨rfl, rfl, ?_⟩ <;> rw [mValue, if_neg h1_100, if_neg h1_101, if_neg h1_102, if_pos h1_103] <;> first | rw [hG, show tn (nI nG) = nG from nI_clamp (by omega)] | rw [hN, show tn (nI nB) = nB from nI_clamp (by omega)]
  by_cases h1_104 : w = 104
  · refine j_tabIn (tgt := 79) C dX7_value_1 (by rw [h1_104]; decide) (by rw [h1_104]; decide) (off := 78) (by rw [h1_104]; decide) (by decide) ?_
    refine j_iload_n C dX7_value_79 rfl ?_
    refine j_iconst C dX7_value_80 (v := 2) (by decide) ?_
    refine j_icmp_ne (tgt := 98) C dX7_value_81 (by decide) (fun h81 => ?_) (fun h81 => ?_)
    · skip
      refine j_iconst C dX7_value_98 (v := 0) (by decide) ?_
      refine j_iret C dX7_value_99 rfl ⟨rfl, rfl, ?_⟩ <;> rw [mValue, if_neg h1_100, if_neg h1_101, if_neg h1_102, if_neg h1_103, if_pos h1_104, if_neg h81]
    · replace h81 := Decidable.not_not.mp h81
      refine j_aload_n C dX7_value_84 rfl ?_
      refine j_getI C fl_X7_165 dX7_value_85 (M.c) rfl ?_
      refine j_aload_n C dX7_value_88 rfl ?_
      refine j_getR (j := 17) C fl_X7_40 dX7_value_89 (M.c) rfl (M.r16) ?_
      refine j_iload_n C dX7_value_92 rfl ?_
      refine j_iald C (M.t17) (hx) dX7_value_93 ?_
      refine j_isub C dX7_value_94 ?_
      refine j_goto (tgt := 99) C dX7_value_95 (by decide) ?_
      refine j_iret C dX7_value_99 rfl ⟨rfl, rfl, ?_⟩ <;> rw [mValue, if_neg h1_100, if_neg h1_101, if_neg h1_102, if_neg h1_103, if_pos h1_104, if_pos h81]
  by_cases h1_105 : w = 105
  · refine j_tabIn (tgt := 100) C dX7_value_1 (by rw [h1_105]; decide) (by rw [h1_105]; decide) (off := 99) (by rw [h1_105]; decide) (by decide) ?_
    refine j_aload_n C dX7_value_100 rfl ?_
    refine j_getI C fl_X7_165 dX7_value_101 (M.c) rfl ?_
    refine j_aload_n C dX7_value_104 rfl ?_
    refine j_getR (j := 17) C fl_X7_40 dX7_value_105 (M.c) rfl (M.r16) ?_
    refine j_iload_n C dX7_value_108 rfl ?_
    refine j_iald C (M.t17) (hx) dX7_value_109 ?_
    refine j_isub C dX7_value_110 ?_
    refine j_iret C dX7_value_111 rfl ⟨rfl, rfl, ?_⟩ <;> rw [mValue, if_neg h1_100, if_neg h1_101, if_neg h1_102, if_neg h1_103, if_neg h1_104, if_pos h1_105]
  by_cases h1_106 : w = 106
  · refine j_tabIn (tgt := 112) C dX7_value_1 (by rw [h1_106]; decide) (by rw [h1_106]; decide) (off := 111) (by rw [h1_106]; decide) (by decide) ?_
    refine j_aload_n C dX7_value_112 rfl ?_
    refine j_iload_n C dX7_value_113 rfl ?_
    refine j_iconst C dX7_value_114 (v := 0) (by decide) ?_
    refine j_callV2I C ml_X7_283 dX7_value_115 (cM_weightOn hg M hN hN3 _ False) ⟨by rw [M.c]; decide, by rw [M.c]; rfl⟩ ⟨Nat.le_of_ble_eq_true rfl, Nat.le_of_ble_eq_true rfl⟩ (Nat.le_of_ble_eq_true rfl) ⟨rfl, rfl⟩ ⟨Nat.zero_le _, Nat.zero_le _⟩ ?_
    refine j_iret C dX7_value_118 rfl ⟨rfl, rfl, ?_⟩ <;> rw [mValue, if_neg h1_100, if_neg h1_101, if_neg h1_102, if_neg h1_103, if_neg h1_104, if_neg h1_105, if_pos h1_106] <;> first | rw [hG, show tn (nI nG) = nG from nI_clamp (by omega)] | rw [hN, show tn (nI nB) = nB from nI_clamp (by omega)]
  have q100 := lv_neT h1_100 (a := 100) (by decide)
  have q101 := lv_neT h1_101 (a := 101) (by decide)
  have q102 := lv_neT h1_102 (a := 102) (by decide)
  have q103 := lv_neT h1_103 (a := 103) (by decide)
  have q104 := lv_neT h1_104 (a := 104) (by decide)
  have q105 := lv_neT h1_105 (a := 105) (by decide)
  have q106 := lv_neT h1_106 (a := 106) (by decide)
  refine j_tabOut (tgt := 119) C dX7_value_1 (by omega) (by decide) ?_
  refine j_iload_n C dX7_value_119 rfl ?_
  refine j_iconst C dX7_value_120 (v := 1) (by decide) ?_
  refine j_icmp_ne (tgt := 134) C dX7_value_121 (by decide) (fun h121 => ?_) (fun h121 => ?_)
  · skip
    refine j_iconst C dX7_value_134 (v := 0) (by decide) ?_
    refine j_iret C dX7_value_135 rfl ⟨rfl, rfl, ?_⟩ <;> rw [mValue, if_neg h1_100, if_neg h1_101, if_neg h1_102, if_neg h1_103, if_neg h1_104, if_neg h1_105, if_neg h1_106, if_neg h121]
  · replace h121 := Decidable.not_not.mp h121
    refine j_aload_n C dX7_value_124 rfl ?_
    refine j_iload_n C dX7_value_125 rfl ?_
    refine j_iload C dX7_value_126 rfl ?_
    refine j_callV2I C ml_X7_287 dX7_value_128 (cM_ofBale hg M _ (hb h121)) ⟨by rw [M.c]; decide, by rw [M.c]; rfl⟩ ⟨Nat.le_of_ble_eq_true rfl, Nat.le_of_ble_eq_true rfl⟩ (Nat.le_of_ble_eq_true rfl) ⟨rfl, rfl⟩ ⟨Nat.zero_le _, Nat.zero_le _⟩ ?_
    refine j_goto (tgt := 135) C dX7_value_131 (by decide) ?_
    refine j_iret C dX7_value_135 rfl ⟨rfl, rfl, ?_⟩ <;> rw [mValue, if_neg h1_100, if_neg h1_101, if_neg h1_102, if_neg h1_103, if_neg h1_104, if_neg h1_105, if_neg h1_106, if_pos h121]

/-- the pile's first n places, the last one first -/
def pileOf (ρ : Nat → Int32) : Nat → List Int32
  | 0 => []
  | n + 1 => ρ n :: pileOf ρ n
theorem pileOf_len (ρ : Nat → Int32) : ∀ n, (pileOf ρ n).length = n
  | 0 => rfl
  | n + 1 => by rw [pileOf, List.length_cons, pileOf_len ρ n]
theorem pileOf_cong {ρ ρ' : Nat → Int32} : ∀ {n : Nat}, (∀ k, k < n → ρ' k = ρ k) → pileOf ρ' n = pileOf ρ n
  | 0, _ => rfl
  | n + 1, h => by rw [pileOf, pileOf, h n (by omega), pileOf_cong (fun k hk => h k (by omega))]
theorem pile_push (ρ : Nat → Int32) (n : Nat) (v : Int32) : pileOf (fun j => if j = n then v else ρ j) (n + 1) = v :: pileOf ρ n := by
  rw [pileOf, if_pos rfl, pileOf_cong (fun q hq => if_neg (by omega))]
def sr (N : WNm) (i : Nat) (ρ : Nat → Int32) : WNm := fun a => if a = i then ρ else N a
theorem sr_u2 (N : WNm) (i k : Nat) (ρ : Nat → Int32) (v : Int32) : u2 (sr N i ρ) i k v = sr N i (fun j => if j = k then v else ρ j) := by
  funext a b
  by_cases h : a = i
  · subst h; by_cases hb : b = k <;> simp [u2, sr, hb]
  · simp [u2, sr, h]
theorem sr_self (N : WNm) (i : Nat) : sr N i (N i) = N := by
  funext a
  by_cases h : a = i
  · subst h; simp [sr]
  · simp [sr, h]
theorem sr_sr (N : WNm) (i : Nat) (ρ ρ' : Nat → Int32) : sr (sr N i ρ) i ρ' = sr N i ρ' := by
  funext a
  by_cases h : a = i <;> simp [sr, h]
/-- one step of a vote upon a pile -/
def mStepOn (w num : Int32) (val : Int32 → Int32) (st : List Int32) : List Int32 :=
  if w = 1 then num :: st else (if w < 100 then (if w = 30 then (match st with | a :: r => (if a = 0 then 1 else 0) :: r | [] => []) else (if w = 70 then (match st with | a :: r => (-a) :: r | [] => []) else (match st with | b :: a :: r => mBoth w a b :: r | _ => []))) else val w :: st)
def mEv (N : WNm) (s0 : Nat) (val : Int32 → Int32) : Nat → List Int32
  | 0 => []
  | j + 1 => mStepOn (N 43 (s0 + j)) (N 44 (s0 + j)) val (mEv N s0 val j)
def stepOk (w : Int32) (n : Nat) : Prop := if w = 1 then n < 200 else (if w < 100 then (if w = 30 then 1 ≤ n else (if w = 70 then 1 ≤ n else 2 ≤ n)) else n < 200)
/-- a vote's steps as they must be: they keep the pile, and leave one -/
def voteOk (N : WNm) (v : Nat) : Prop := ∃ a b : Nat, N 42 v = nI a ∧ N 42 (v + 1) = nI b ∧ a ≤ b ∧ b ≤ 6200 ∧ ∀ val : Int32 → Int32, (∀ j, j < b - a → stepOk (N 43 (a + j)) (mEv N a val j).length ∧ (mEv N a val j).length ≤ 200) ∧ (mEv N a val (b - a)).length = 1
def mSays (N : WNm) (k x b : Int32) : Int32 := if 0 ≤ mKnown N k (tn (N 16 (tn x))) (tn (N 0 38)) then (mEv N (tn (N 42 (tn (mKnown N k (tn (N 16 (tn x))) (tn (N 0 38)))))) (fun w => mValue N w k x b) (tn (N 42 (tn (mKnown N k (tn (N 16 (tn x))) (tn (N 0 38))) + 1)) - tn (N 42 (tn (mKnown N k (tn (N 16 (tn x))) (tn (N 0 38))))))).headD 0 else (if k = 2 then 0 else 1)
theorem mKnown_cases (N : WNm) (k : Int32) (p : Nat) : ∀ n, mKnown N k p n = -2 ∨ ∃ v, v < n ∧ mKnown N k p n = nI v
  | 0 => Or.inl rfl
  | n + 1 => by
    rw [mKnown]
    split
    · exact Or.inr ⟨n, by omega, rfl⟩
    · rcases mKnown_cases N k p n with h | ⟨v, hv, h⟩
      · exact Or.inl h
      · exact Or.inr ⟨v, by omega, h⟩
theorem cM_says0 {l : Launch} {g : WGp} (hg : GOK g) {sh : WSh} {N : WNm} (M : MSh sh) {nG : Nat} (hG : N 0 9 = nI nG) (hG8 : nG ≤ 8) {nB : Nat} (hN : N 0 23 = nI nB) (hN3 : nB ≤ 300) {nV : Nat} (hV : N 0 38 = nI nV) (hV30 : nV ≤ 30) (hvo : ∀ v, v < nV → voteOk N v) {k x b : Int32} (hx : vp_in x 8) (hp : vp_in (N 16 (tn x)) 12) (hb : k = 1 → vp_in b 300) : CT l g yX7_says0 cX7_says0 8 (some .int) (RM 4 0 0) [.ref (sh.2.2 0), .int k, .int x, .int b] sh N (QI g (fun r sh1 N1 => sh1 = sh ∧ r = mSays N k x b ∧ ∃ ρ, N1 = sr N 53 ρ)) := by
  refine ent hg (by decide +kernel) (Nat.le_of_ble_eq_true rfl) ?_
  intro p e s m args below meth c C hname
  have key : ∀ v, v < nV → mKnown N k (tn (N 16 (tn x))) nV = nI v → J p l e (RM 4 0 0) s m args below meth c (MQ below (QI g (fun r sh1 N1 => sh1 = sh ∧ r = mSays N k x b ∧ ∃ ρ, N1 = sr N 53 ρ)) args s 0 0 g.A) g 8 sh N 0 0 29 [some (.ref (sh.2.2 0)), some (.int k), some (.int x), some (.int b), some (.int (mKnown N k (tn (N 16 (tn x))) nV)), none, none, none] [] := by
    intro v hv ev
    obtain ⟨a0, b0, ea, eb, hab, hb6, hst⟩ := hvo v hv
    obtain ⟨hst, hfin⟩ := hst (fun w => mValue N w k x b)
    have et : tn (N 0 38) = nV := by rw [hV]; exact nI_clamp (by omega)
    have eR : mSays N k x b = (mEv N a0 (fun w => mValue N w k x b) (b0 - a0)).headD 0 := by
      rw [mSays, et, ev, if_pos (nI_pos' (by omega)), show tn (nI v) = v from nI_clamp (by omega), ea, eb, show tn (nI a0) = a0 from nI_clamp (by omega), show tn (nI b0) = b0 from nI_clamp (by omega)]
    rw [ev]
    refine j_iconst C dX7_says0_29 (v := 0) (by decide) ?_
    refine j_istore C dX7_says0_30 (by decide) rfl ?_
    refine j_aload_n C dX7_says0_32 rfl ?_
    refine j_getR (j := 42) C fl_X7_108 dX7_says0_33 (M.c) rfl (M.r41) ?_
    refine j_iload C dX7_says0_36 rfl ?_
    refine j_ialdN C (M.t42) (⟨by omega, by decide⟩) dX7_says0_38 ?_
    refine j_istore C dX7_says0_39 (by decide) rfl ?_
    rw [ea]
    suffices key2 : ∀ j, j ≤ b0 - a0 → ∀ ρ : Nat → Int32, pileOf ρ (mEv N a0 (fun w => mValue N w k x b) j).length = mEv N a0 (fun w => mValue N w k x b) j → J p l e (RM 4 0 0) s m args below meth c (MQ below (QI g (fun r sh1 N1 => sh1 = sh ∧ r = mSays N k x b ∧ ∃ ρ, N1 = sr N 53 ρ)) args s 0 0 g.A) g 8 sh (sr N 53 ρ) 0 0 41 [some (.ref (sh.2.2 0)), some (.int k), some (.int x), some (.int b), some (.int (nI v)), some (.int (nI (mEv N a0 (fun w => mValue N w k x b) j).length)), some (.int (nI (a0 + j))), none] [] from J.le (lv1 := [some (.ref (sh.2.2 0)), some (.int k), some (.int x), some (.int b), some (.int (nI v)), some (.int 0), some (.int (nI a0)), none]) ⟨rfl, rfl, rfl, rfl, rfl, rfl, rfl, trivial⟩ (by have z := key2 0 (Nat.zero_le _) (N 53) rfl; rw [sr_self] at z; exact z)
    refine up_ind (n := b0 - a0) ?_
    intro j hj ih ρ hρ
    have fin : j < b0 - a0 → ∀ (ρ' : Nat → Int32) (n' : Nat), pileOf ρ' n' = mEv N a0 (fun w => mValue N w k x b) (j + 1) → J p l e (RM 4 0 0) s m args below meth c (MQ below (QI g (fun r sh1 N1 => sh1 = sh ∧ r = mSays N k x b ∧ ∃ ρ, N1 = sr N 53 ρ)) args s 0 0 g.A) g 8 sh (sr N 53 ρ') 0 0 211 [some (.ref (sh.2.2 0)), some (.int k), some (.int x), some (.int b), some (.int (nI v)), some (.int (nI n')), some (.int (nI (a0 + j))), some (.int (N 43 (a0 + j)))] [] := by
      intro hjl ρ' n' hρ'
      refine j_iincN C dX7_says0_211 rfl (by decide) rfl ?_
      refine j_goto (tgt := 41) C dX7_says0_214 (by decide) ?_
      have hl : (mEv N a0 (fun w => mValue N w k x b) (j + 1)).length = n' := by rw [← hρ', pileOf_len]
      have z := ih hjl ρ' (by rw [hl]; exact hρ')
      rw [hl] at z
      exact J.le (lv1 := [some (.ref (sh.2.2 0)), some (.int k), some (.int x), some (.int b), some (.int (nI v)), some (.int (nI n')), some (.int (nI (a0 + (j + 1)))), none]) ⟨rfl, rfl, rfl, rfl, rfl, rfl, rfl, trivial⟩ z
    generalize hn : (mEv N a0 (fun w => mValue N w k x b) j).length = n at hρ ⊢
    refine j_iload C dX7_says0_41 rfl ?_
    refine j_aload_n C dX7_says0_43 rfl ?_
    refine j_getR (j := 42) C fl_X7_108 dX7_says0_44 (M.c) rfl (M.r41) ?_
    refine j_iload C dX7_says0_47 rfl ?_
    refine j_iconst C dX7_says0_49 (v := 1) (by decide) ?_
    refine j_iadd C dX7_says0_50 ?_
    rw [nI_1]
    refine j_ialdN C (M.t42) (⟨by omega, by decide⟩) dX7_says0_51 ?_
    refine j_icmp_ge (tgt := 217) C dX7_says0_52 (by decide) (fun h52 => ?_) (fun h52 => ?_)
    · skip
      obtain rfl : j = b0 - a0 := by
        have h52 : N 42 (v + 1) ≤ nI (a0 + j) := h52
        rw [eb, n_nle (by omega) (by omega)] at h52
        omega
      refine j_aload_n C dX7_says0_217 rfl ?_
      refine j_getR (j := 53) C fl_X7_120 dX7_says0_218 (M.c) rfl (M.r52) ?_
      refine j_iconst C dX7_says0_221 (v := 0) (by decide) ?_
      refine j_iald C (M.t53) (by unfold vp_in; decide) dX7_says0_222 ?_
      refine j_iret C dX7_says0_223 rfl ⟨rfl, ?_, ρ, rfl⟩
      rw [eR, ← hρ]
      rw [hfin] at hn
      subst hn
      rfl
    · skip
      have hjl : j < b0 - a0 := by
        have h52 : ¬ N 42 (v + 1) ≤ nI (a0 + j) := h52
        rw [eb, n_nle (by omega) (by omega)] at h52
        omega
      have hok := (hst j hjl).1
      rw [hn] at hok
      refine j_aload_n C dX7_says0_55 rfl ?_
      refine j_getR (j := 43) C fl_X7_111 dX7_says0_56 (M.c) rfl (M.r42) ?_
      refine j_iload C dX7_says0_59 rfl ?_
      refine j_ialdN C (M.t43) (⟨by omega, by decide⟩) dX7_says0_61 ?_
      refine j_istore C dX7_says0_62 (by decide) rfl ?_
      rw [show sr N 53 ρ 43 (a0 + j) = N 43 (a0 + j) from rfl]
      refine j_iload C dX7_says0_64 rfl ?_
      refine j_iconst C dX7_says0_66 (v := 1) (by decide) ?_
      refine j_icmp_eq (tgt := 77) C dX7_says0_67 (by decide) (fun h67 => ?_) (fun h67 => ?_)
      · skip
        have hn2 : n < 200 := by
          unfold stepOk at hok
          first | (rw [if_pos h67] at hok; exact hok) | (rw [if_neg h67, if_neg h74] at hok; exact hok)
        refine j_aload_n C dX7_says0_77 rfl ?_
        refine j_getR (j := 53) C fl_X7_120 dX7_says0_78 (M.c) rfl (M.r52) ?_
        refine j_iload C dX7_says0_81 rfl ?_
        refine j_iload C dX7_says0_83 rfl ?_
        refine j_iconst C dX7_says0_85 (v := 1) (by decide) ?_
        refine j_icmp_ne (tgt := 99) C dX7_says0_86 (by decide) (fun h86 => ?_) (fun h86 => ?_)
        · skip
          exact absurd h67 h86
        · replace h86 := Decidable.not_not.mp h86
          refine j_aload_n C dX7_says0_89 rfl ?_
          refine j_getR (j := 44) C fl_X7_114 dX7_says0_90 (M.c) rfl (M.r43) ?_
          refine j_iload C dX7_says0_93 rfl ?_
          refine j_ialdN C (M.t44) (⟨by omega, by decide⟩) dX7_says0_95 ?_
          refine j_goto (tgt := 108) C dX7_says0_96 (by decide) ?_
          refine j_iastN C (M.t53) (⟨by omega, by decide⟩) dX7_says0_108 ?_
          rw [sr_u2]
          refine j_iincN C dX7_says0_109 rfl (by decide) rfl ?_
          refine j_goto (tgt := 211) C dX7_says0_112 (by decide) ?_
          refine fin hjl _ _ ?_
          rw [pile_push, mEv]
          unfold mStepOn
          rw [if_pos h67, ← hρ]
          rfl
      · skip
        refine j_iload C dX7_says0_70 rfl ?_
        refine j_bipush C dX7_says0_72 (v := 100) (by decide) ?_
        refine j_icmp_lt (tgt := 115) C dX7_says0_74 (by decide) (fun h74 => ?_) (fun h74 => ?_)
        · skip
          refine j_iload C dX7_says0_115 rfl ?_
          refine j_bipush C dX7_says0_117 (v := 30) (by decide) ?_
          refine j_icmp_eq (tgt := 129) C dX7_says0_119 (by decide) (fun h119 => ?_) (fun h119 => ?_)
          · skip
            obtain ⟨m1, rfl⟩ : ∃ m1, n = m1 + 1 := by
              have hk1 : 1 ≤ n := by
                unfold stepOk at hok
                first | (rw [if_neg h67, if_pos h74, if_pos h119] at hok; exact hok) | (rw [if_neg h67, if_pos h74, if_neg h119, if_pos h126] at hok; exact hok)
              exact ⟨n - 1, by omega⟩
            have hle := (hst j hjl).2
            rw [hn] at hle
            refine j_aload_n C dX7_says0_129 rfl ?_
            refine j_getR (j := 53) C fl_X7_120 dX7_says0_130 (M.c) rfl (M.r52) ?_
            refine j_iload C dX7_says0_133 rfl ?_
            refine j_iconst C dX7_says0_135 (v := 1) (by decide) ?_
            refine j_isub C dX7_says0_136 ?_
            rw [nI_pred]
            refine j_iload C dX7_says0_137 rfl ?_
            refine j_bipush C dX7_says0_139 (v := 70) (by decide) ?_
            refine j_icmp_ne (tgt := 157) C dX7_says0_141 (by decide) (fun h141 => ?_) (fun h141 => ?_)
            · skip
              refine j_aload_n C dX7_says0_157 rfl ?_
              refine j_getR (j := 53) C fl_X7_120 dX7_says0_158 (M.c) rfl (M.r52) ?_
              refine j_iload C dX7_says0_161 rfl ?_
              refine j_iconst C dX7_says0_163 (v := 1) (by decide) ?_
              refine j_isub C dX7_says0_164 ?_
              rw [nI_pred]
              refine j_ialdN C (M.t53) (⟨by omega, by decide⟩) dX7_says0_165 ?_
              refine j_if_ne (tgt := 173) C dX7_says0_166 (by decide) (fun h166 => ?_) (fun h166 => ?_)
              · skip
                refine j_iconst C dX7_says0_173 (v := 0) (by decide) ?_
                refine j_iastN C (M.t53) (⟨by omega, by decide⟩) dX7_says0_174 ?_
                rw [sr_u2]
                refine j_goto (tgt := 211) C dX7_says0_175 (by decide) ?_
                refine fin hjl _ _ ?_
                rw [pile_push, mEv]
                unfold mStepOn
                rw [if_neg h67, if_pos h74, if_pos h119, ← hρ]
                first | rfl | (show _ = (if ρ m1 = 0 then (1 : Int32) else 0) :: _; rw [if_pos (show ρ m1 = 0 from h166)]) | (show _ = (if ρ m1 = 0 then (1 : Int32) else 0) :: _; rw [if_neg (show ¬ ρ m1 = 0 from h166)])
              · replace h166 := Decidable.not_not.mp h166
                refine j_iconst C dX7_says0_169 (v := 1) (by decide) ?_
                refine j_goto (tgt := 174) C dX7_says0_170 (by decide) ?_
                refine j_iastN C (M.t53) (⟨by omega, by decide⟩) dX7_says0_174 ?_
                rw [sr_u2]
                refine j_goto (tgt := 211) C dX7_says0_175 (by decide) ?_
                refine fin hjl _ _ ?_
                rw [pile_push, mEv]
                unfold mStepOn
                rw [if_neg h67, if_pos h74, if_pos h119, ← hρ]
                first | rfl | (show _ = (if ρ m1 = 0 then (1 : Int32) else 0) :: _; rw [if_pos (show ρ m1 = 0 from h166)]) | (show _ = (if ρ m1 = 0 then (1 : Int32) else 0) :: _; rw [if_neg (show ¬ ρ m1 = 0 from h166)])
            · replace h141 := Decidable.not_not.mp h141
              exact absurd (h119.symm.trans h141) (by decide)
          · skip
            refine j_iload C dX7_says0_122 rfl ?_
            refine j_bipush C dX7_says0_124 (v := 70) (by decide) ?_
            refine j_icmp_ne (tgt := 178) C dX7_says0_126 (by decide) (fun h126 => ?_) (fun h126 => ?_)
            · skip
              obtain ⟨m1, rfl⟩ : ∃ m1, n = m1 + 1 + 1 := by
                have hk1 : 2 ≤ n := by
                  unfold stepOk at hok
                  rw [if_neg h67, if_pos h74, if_neg h119, if_neg h126] at hok; exact hok
                exact ⟨n - 2, by omega⟩
              have hle := (hst j hjl).2
              rw [hn] at hle
              refine j_iinc C dX7_says0_178 rfl (show _ = nI (m1 + 1) by rw [dec1, nI_pred]) (by decide) rfl ?_
              refine j_aload_n C dX7_says0_181 rfl ?_
              refine j_getR (j := 53) C fl_X7_120 dX7_says0_182 (M.c) rfl (M.r52) ?_
              refine j_iload C dX7_says0_185 rfl ?_
              refine j_iconst C dX7_says0_187 (v := 1) (by decide) ?_
              refine j_isub C dX7_says0_188 ?_
              rw [nI_pred]
              refine j_iload C dX7_says0_189 rfl ?_
              refine j_aload_n C dX7_says0_191 rfl ?_
              refine j_getR (j := 53) C fl_X7_120 dX7_says0_192 (M.c) rfl (M.r52) ?_
              refine j_iload C dX7_says0_195 rfl ?_
              refine j_iconst C dX7_says0_197 (v := 1) (by decide) ?_
              refine j_isub C dX7_says0_198 ?_
              rw [nI_pred]
              refine j_ialdN C (M.t53) (⟨by omega, by decide⟩) dX7_says0_199 ?_
              refine j_aload_n C dX7_says0_200 rfl ?_
              refine j_getR (j := 53) C fl_X7_120 dX7_says0_201 (M.c) rfl (M.r52) ?_
              refine j_iload C dX7_says0_204 rfl ?_
              refine j_ialdN C (M.t53) (⟨by omega, by decide⟩) dX7_says0_206 ?_
              refine j_callS3I C ml_X7_294 dX7_says0_207 (cM_both hg _ _ _) ⟨Nat.le_of_ble_eq_true rfl, Nat.le_of_ble_eq_true rfl⟩ (Nat.le_of_ble_eq_true rfl) ⟨rfl, rfl⟩ ⟨Nat.zero_le _, Nat.zero_le _⟩ ?_
              refine j_iastN C (M.t53) (⟨by omega, by decide⟩) dX7_says0_210 ?_
              rw [sr_u2]
              refine fin hjl _ _ ?_
              rw [pile_push, mEv]
              unfold mStepOn
              rw [if_neg h67, if_pos h74, if_neg h119, if_neg h126, ← hρ]
              rfl
            · replace h126 := Decidable.not_not.mp h126
              obtain ⟨m1, rfl⟩ : ∃ m1, n = m1 + 1 := by
                have hk1 : 1 ≤ n := by
                  unfold stepOk at hok
                  first | (rw [if_neg h67, if_pos h74, if_pos h119] at hok; exact hok) | (rw [if_neg h67, if_pos h74, if_neg h119, if_pos h126] at hok; exact hok)
                exact ⟨n - 1, by omega⟩
              have hle := (hst j hjl).2
              rw [hn] at hle
              refine j_aload_n C dX7_says0_129 rfl ?_
              refine j_getR (j := 53) C fl_X7_120 dX7_says0_130 (M.c) rfl (M.r52) ?_
              refine j_iload C dX7_says0_133 rfl ?_
              refine j_iconst C dX7_says0_135 (v := 1) (by decide) ?_
              refine j_isub C dX7_says0_136 ?_
              rw [nI_pred]
              refine j_iload C dX7_says0_137 rfl ?_
              refine j_bipush C dX7_says0_139 (v := 70) (by decide) ?_
              refine j_icmp_ne (tgt := 157) C dX7_says0_141 (by decide) (fun h141 => ?_) (fun h141 => ?_)
              · skip
                exact absurd h126 h141
              · replace h141 := Decidable.not_not.mp h141
                refine j_aload_n C dX7_says0_144 rfl ?_
                refine j_getR (j := 53) C fl_X7_120 dX7_says0_145 (M.c) rfl (M.r52) ?_
                refine j_iload C dX7_says0_148 rfl ?_
                refine j_iconst C dX7_says0_150 (v := 1) (by decide) ?_
                refine j_isub C dX7_says0_151 ?_
                rw [nI_pred]
                refine j_ialdN C (M.t53) (⟨by omega, by decide⟩) dX7_says0_152 ?_
                refine j_ineg C dX7_says0_153 ?_
                refine j_goto (tgt := 174) C dX7_says0_154 (by decide) ?_
                refine j_iastN C (M.t53) (⟨by omega, by decide⟩) dX7_says0_174 ?_
                rw [sr_u2]
                refine j_goto (tgt := 211) C dX7_says0_175 (by decide) ?_
                refine fin hjl _ _ ?_
                rw [pile_push, mEv]
                unfold mStepOn
                rw [if_neg h67, if_pos h74, if_neg h119, if_pos h126, ← hρ]
                first | rfl | (show _ = (if ρ m1 = 0 then (1 : Int32) else 0) :: _; rw [if_pos (show ρ m1 = 0 from h166)]) | (show _ = (if ρ m1 = 0 then (1 : Int32) else 0) :: _; rw [if_neg (show ¬ ρ m1 = 0 from h166)])
        · skip
          have hn2 : n < 200 := by
            unfold stepOk at hok
            first | (rw [if_pos h67] at hok; exact hok) | (rw [if_neg h67, if_neg h74] at hok; exact hok)
          refine j_aload_n C dX7_says0_77 rfl ?_
          refine j_getR (j := 53) C fl_X7_120 dX7_says0_78 (M.c) rfl (M.r52) ?_
          refine j_iload C dX7_says0_81 rfl ?_
          refine j_iload C dX7_says0_83 rfl ?_
          refine j_iconst C dX7_says0_85 (v := 1) (by decide) ?_
          refine j_icmp_ne (tgt := 99) C dX7_says0_86 (by decide) (fun h86 => ?_) (fun h86 => ?_)
          · skip
            refine j_aload_n C dX7_says0_99 rfl ?_
            refine j_iload C dX7_says0_100 rfl ?_
            refine j_iload_n C dX7_says0_102 rfl ?_
            refine j_iload_n C dX7_says0_103 rfl ?_
            refine j_iload_n C dX7_says0_104 rfl ?_
            refine j_callV4I C ml_X7_290 dX7_says0_105 (cM_value hg M (N := sr N 53 ρ) hG hG8 hN hN3 _ _ hx hb) ⟨by rw [M.c]; decide, by rw [M.c]; rfl⟩ ⟨Nat.le_of_ble_eq_true rfl, Nat.le_of_ble_eq_true rfl⟩ (Nat.le_of_ble_eq_true rfl) ⟨rfl, rfl⟩ ⟨Nat.zero_le _, Nat.zero_le _⟩ ?_
            rw [show mValue (sr N 53 ρ) = mValue N from rfl]
            refine j_iastN C (M.t53) (⟨by omega, by decide⟩) dX7_says0_108 ?_
            rw [sr_u2]
            refine j_iincN C dX7_says0_109 rfl (by decide) rfl ?_
            refine j_goto (tgt := 211) C dX7_says0_112 (by decide) ?_
            refine fin hjl _ _ ?_
            rw [pile_push, mEv]
            unfold mStepOn
            rw [if_neg h67, if_neg h74, ← hρ]
          · replace h86 := Decidable.not_not.mp h86
            exact absurd h86 h67
  refine j_aload_n C dX7_says0_0 rfl ?_
  refine j_iload_n C dX7_says0_1 rfl ?_
  refine j_aload_n C dX7_says0_2 rfl ?_
  refine j_getR (j := 16) C fl_X7_37 dX7_says0_3 (M.c) rfl (M.r15) ?_
  refine j_iload_n C dX7_says0_6 rfl ?_
  refine j_iald C (M.t16) (hx) dX7_says0_7 ?_
  refine j_callV2I C ml_X7_276 dX7_says0_8 (cM_knownAt hg M hV hV30 k hp) ⟨by rw [M.c]; decide, by rw [M.c]; rfl⟩ ⟨Nat.le_of_ble_eq_true rfl, Nat.le_of_ble_eq_true rfl⟩ (Nat.le_of_ble_eq_true rfl) ⟨rfl, rfl⟩ ⟨Nat.zero_le _, Nat.zero_le _⟩ ?_
  refine j_istore C dX7_says0_11 (by decide) rfl ?_
  refine j_iload C dX7_says0_13 rfl ?_
  refine j_if_ge (tgt := 29) C dX7_says0_15 (by decide) (fun h15 => ?_) (fun h15 => ?_)
  · skip
    obtain ⟨v, hv, ev⟩ := (mKnown_cases N k (tn (N 16 (tn x))) nV).resolve_left (fun z => by rw [z] at h15; exact absurd h15 (by decide))
    exact key v hv ev
  · skip
    refine j_iload_n C dX7_says0_18 rfl ?_
    refine j_iconst C dX7_says0_19 (v := 2) (by decide) ?_
    refine j_icmp_ne (tgt := 27) C dX7_says0_20 (by decide) (fun h20 => ?_) (fun h20 => ?_)
    · skip
      refine j_iconst C dX7_says0_27 (v := 1) (by decide) ?_
      exact j_iret C dX7_says0_28 rfl ⟨rfl, by rw [mSays, show tn (N 0 38) = nV by rw [hV]; exact nI_clamp (by omega), if_neg h15, if_neg h20], N 53, (sr_self N 53).symm⟩
    · replace h20 := Decidable.not_not.mp h20
      refine j_iconst C dX7_says0_23 (v := 0) (by decide) ?_
      refine j_goto (tgt := 28) C dX7_says0_24 (by decide) ?_
      exact j_iret C dX7_says0_28 rfl ⟨rfl, by rw [mSays, show tn (N 0 38) = nV by rw [hV]; exact nI_clamp (by omega), if_neg h15, if_pos h20], N 53, (sr_self N 53).symm⟩
