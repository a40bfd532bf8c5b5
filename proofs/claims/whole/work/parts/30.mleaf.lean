/-! ===== THE REFERENCE, method by method: leaves ===== -/
theorem i_nlt {a b : Int32} : ¬ a < b ↔ b ≤ a := by rw [Int32.lt_iff_toInt_lt, Int32.le_iff_toInt_le]; omega
theorem i_nle {a b : Int32} : ¬ a ≤ b ↔ b < a := by rw [Int32.lt_iff_toInt_lt, Int32.le_iff_toInt_le]; omega
theorem n_nle {a b : Nat} (ha : a < 2147483648) (hb : b < 2147483648) : nI a ≤ nI b ↔ a ≤ b := nI_leI (by omega) (by omega)
theorem n_nlt {a b : Nat} (ha : a < 2147483648) (hb : b < 2147483648) : nI a < nI b ↔ a < b := nI_ltI (by omega) (by omega)
theorem i_le {a b : Int32} : a ≤ b ↔ a.toInt ≤ b.toInt := Int32.le_iff_toInt_le
theorem i_lt {a b : Int32} : a < b ↔ a.toInt < b.toInt := Int32.lt_iff_toInt_lt
theorem n_int {k : Nat} (h : k < 2147483648) : (nI k).toInt = (k : Int) := nI_toInt (by omega)
theorem rngN {x : Int32} {n : Nat} (h : 0 ≤ x ∧ x ≤ nI n - 1) (hn : n < 1073741824) : ∃ k, k < n ∧ x = nI k ∧ tn x = k := by
  have h1 : (0 : Int32).toInt ≤ x.toInt := i_le.mp h.1
  have h2 := i_le.mp h.2
  have e1 : (nI n - 1).toInt = (n : Int) - 1 := pk_sub_toInt (b := 1) (by omega) (by omega)
  have h0 : (0 : Int32).toInt = 0 := by decide
  obtain ⟨k, hk, rfl⟩ := vp_in_of (n := n) ((vp_in_iff (x := x)).mpr ⟨by omega, by omega⟩) (by omega)
  exact ⟨k, hk, rfl, nI_clamp (by omega)⟩
theorem rngC {x h : Int32} {n : Nat} (hx : 0 ≤ x ∧ x ≤ h) (hh : h = nI n - 1) (hn : n < 1073741824) : ∃ k, k < n ∧ x = nI k ∧ tn x = k := rngN (by rw [← hh]; exact hx) hn
theorem ix10 (a b : Nat) : (10 : Int32) * nI a + nI b = nI (10 * a + b) := by
  rw [show (10 : Int32) = nI 10 from rfl, pk_mul, nI_add]

theorem cM_in {l : Launch} {g : WGp} (hg : GOK g) {sh : WSh} {N : WNm} (v lo hi : Int32) : CT l g yX7_in cX7_in 3 (some .boolean) (RM 1 0 0) [.int v, .int lo, .int hi] sh N (QF g sh N (b2 (lo ≤ v ∧ v ≤ hi))) := by
  refine ent hg (by decide +kernel) (Nat.le_of_ble_eq_true rfl) ?_
  intro p e s m args below meth c C hname
  refine j_iload_n C dX7_in_0 rfl ?_
  refine j_iload_n C dX7_in_1 rfl ?_
  refine j_icmp_lt (tgt := 14) C dX7_in_2 (by decide) (fun h2 => ?_) (fun h2 => ?_)
  · skip
    refine j_iconst C dX7_in_14 (v := 0) (by decide) ?_
    refine j_iret C dX7_in_15 rfl ⟨rfl, rfl, ?_⟩
    first | exact (b2_t ⟨h2, h7⟩).symm | exact (b2_f (fun z => absurd z.1 (i_nle.mpr h2))).symm | exact (b2_f (fun z => absurd z.2 (i_nle.mpr h7))).symm
  · replace h2 := i_nlt.mp h2
    refine j_iload_n C dX7_in_5 rfl ?_
    refine j_iload_n C dX7_in_6 rfl ?_
    refine j_icmp_gt (tgt := 14) C dX7_in_7 (by decide) (fun h7 => ?_) (fun h7 => ?_)
    · skip
      refine j_iconst C dX7_in_14 (v := 0) (by decide) ?_
      refine j_iret C dX7_in_15 rfl ⟨rfl, rfl, ?_⟩
      first | exact (b2_t ⟨h2, h7⟩).symm | exact (b2_f (fun z => absurd z.1 (i_nle.mpr h2))).symm | exact (b2_f (fun z => absurd z.2 (i_nle.mpr h7))).symm
    · replace h7 := i_nlt.mp h7
      refine j_iconst C dX7_in_10 (v := 1) (by decide) ?_
      refine j_goto (tgt := 15) C dX7_in_11 (by decide) ?_
      refine j_iret C dX7_in_15 rfl ⟨rfl, rfl, ?_⟩
      first | exact (b2_t ⟨h2, h7⟩).symm | exact (b2_f (fun z => absurd z.1 (i_nle.mpr h2))).symm | exact (b2_f (fun z => absurd z.2 (i_nle.mpr h7))).symm

theorem cM_isPerson {l : Launch} {g : WGp} (hg : GOK g) {sh : WSh} {N : WNm} (v : Int32) : CT l g yX7_isPerson cX7_isPerson 1 (some .boolean) (RM 2 0 0) [.int v] sh N (QF g sh N (b2 (0 ≤ v ∧ v ≤ 9))) := by
  refine ent hg (by decide +kernel) (Nat.le_of_ble_eq_true rfl) ?_
  intro p e s m args below meth c C hname
  refine j_iload_n C dX7_isPerson_0 rfl ?_
  refine j_iconst C dX7_isPerson_1 (v := 0) (by decide) ?_
  refine j_bipush C dX7_isPerson_2 (v := 9) (by decide) ?_
  refine j_callS3I C ml_X7_133 dX7_isPerson_4 (cM_in hg _ _ _) ⟨Nat.le_of_ble_eq_true rfl, Nat.le_of_ble_eq_true rfl⟩ (Nat.le_of_ble_eq_true rfl) ⟨rfl, rfl⟩ ⟨Nat.zero_le _, Nat.zero_le _⟩ ?_
  exact j_iret C dX7_isPerson_7 (b2_nar _) ⟨rfl, rfl, rfl⟩

theorem cM_isPort {l : Launch} {g : WGp} (hg : GOK g) {sh : WSh} {N : WNm} (M : MSh sh) (v : Int32) : CT l g yX7_isPort cX7_isPort 2 (some .boolean) (RM 2 0 0) [.ref (sh.2.2 0), .int v] sh N (QF g sh N (b2 (0 ≤ v ∧ v ≤ N 0 5 - 1))) := by
  refine ent hg (by decide +kernel) (Nat.le_of_ble_eq_true rfl) ?_
  intro p e s m args below meth c C hname
  refine j_iload_n C dX7_isPort_0 rfl ?_
  refine j_iconst C dX7_isPort_1 (v := 0) (by decide) ?_
  refine j_aload_n C dX7_isPort_2 rfl ?_
  refine j_getI C fl_X7_137 dX7_isPort_3 (M.c) rfl ?_
  refine j_iconst C dX7_isPort_6 (v := 1) (by decide) ?_
  refine j_isub C dX7_isPort_7 ?_
  refine j_callS3I C ml_X7_133 dX7_isPort_8 (cM_in hg _ _ _) ⟨Nat.le_of_ble_eq_true rfl, Nat.le_of_ble_eq_true rfl⟩ (Nat.le_of_ble_eq_true rfl) ⟨rfl, rfl⟩ ⟨Nat.zero_le _, Nat.zero_le _⟩ ?_
  exact j_iret C dX7_isPort_11 (b2_nar _) ⟨rfl, rfl, rfl⟩

theorem cM_isGalley {l : Launch} {g : WGp} (hg : GOK g) {sh : WSh} {N : WNm} (M : MSh sh) (v : Int32) : CT l g yX7_isGalley cX7_isGalley 2 (some .boolean) (RM 2 0 0) [.ref (sh.2.2 0), .int v] sh N (QF g sh N (b2 (0 ≤ v ∧ v ≤ N 0 9 - 1))) := by
  refine ent hg (by decide +kernel) (Nat.le_of_ble_eq_true rfl) ?_
  intro p e s m args below meth c C hname
  refine j_iload_n C dX7_isGalley_0 rfl ?_
  refine j_iconst C dX7_isGalley_1 (v := 0) (by decide) ?_
  refine j_aload_n C dX7_isGalley_2 rfl ?_
  refine j_getI C fl_X7_140 dX7_isGalley_3 (M.c) rfl ?_
  refine j_iconst C dX7_isGalley_6 (v := 1) (by decide) ?_
  refine j_isub C dX7_isGalley_7 ?_
  refine j_callS3I C ml_X7_133 dX7_isGalley_8 (cM_in hg _ _ _) ⟨Nat.le_of_ble_eq_true rfl, Nat.le_of_ble_eq_true rfl⟩ (Nat.le_of_ble_eq_true rfl) ⟨rfl, rfl⟩ ⟨Nat.zero_le _, Nat.zero_le _⟩ ?_
  exact j_iret C dX7_isGalley_11 (b2_nar _) ⟨rfl, rfl, rfl⟩

theorem cM_isBale {l : Launch} {g : WGp} (hg : GOK g) {sh : WSh} {N : WNm} (M : MSh sh) (v : Int32) : CT l g yX7_isBale cX7_isBale 2 (some .boolean) (RM 2 0 0) [.ref (sh.2.2 0), .int v] sh N (QF g sh N (b2 (0 ≤ v ∧ v ≤ N 0 23 - 1))) := by
  refine ent hg (by decide +kernel) (Nat.le_of_ble_eq_true rfl) ?_
  intro p e s m args below meth c C hname
  refine j_iload_n C dX7_isBale_0 rfl ?_
  refine j_iconst C dX7_isBale_1 (v := 0) (by decide) ?_
  refine j_aload_n C dX7_isBale_2 rfl ?_
  refine j_getI C fl_X7_143 dX7_isBale_3 (M.c) rfl ?_
  refine j_iconst C dX7_isBale_6 (v := 1) (by decide) ?_
  refine j_isub C dX7_isBale_7 ?_
  refine j_callS3I C ml_X7_133 dX7_isBale_8 (cM_in hg _ _ _) ⟨Nat.le_of_ble_eq_true rfl, Nat.le_of_ble_eq_true rfl⟩ (Nat.le_of_ble_eq_true rfl) ⟨rfl, rfl⟩ ⟨Nat.zero_le _, Nat.zero_le _⟩ ?_
  exact j_iret C dX7_isBale_11 (b2_nar _) ⟨rfl, rfl, rfl⟩

theorem cM_isOn {l : Launch} {g : WGp} (hg : GOK g) {sh : WSh} {N : WNm} (M : MSh sh) {k : Nat} (hk : k < 300) (x : Int32) : CT l g yX7_isOn cX7_isOn 3 (some .boolean) (RM 1 0 0) [.ref (sh.2.2 0), .int (nI k), .int x] sh N (QF g sh N (b2 (N 34 k = 1 ∧ N 35 k = x))) := by
  refine ent hg (by decide +kernel) (Nat.le_of_ble_eq_true rfl) ?_
  intro p e s m args below meth c C hname
  refine j_aload_n C dX7_isOn_0 rfl ?_
  refine j_getR (j := 34) C fl_X7_89 dX7_isOn_1 (M.c) rfl (M.r33) ?_
  refine j_iload_n C dX7_isOn_4 rfl ?_
  refine j_ialdN C (M.t34) (⟨hk, by decide⟩) dX7_isOn_5 ?_
  refine j_iconst C dX7_isOn_6 (v := 1) (by decide) ?_
  refine j_icmp_ne (tgt := 24) C dX7_isOn_7 (by decide) (fun h7 => ?_) (fun h7 => ?_)
  · skip
    refine j_iconst C dX7_isOn_24 (v := 0) (by decide) ?_
    refine j_iret C dX7_isOn_25 rfl ⟨rfl, rfl, ?_⟩
    simp_all [b2]
  · replace h7 := Decidable.not_not.mp h7
    refine j_aload_n C dX7_isOn_10 rfl ?_
    refine j_getR (j := 35) C fl_X7_92 dX7_isOn_11 (M.c) rfl (M.r34) ?_
    refine j_iload_n C dX7_isOn_14 rfl ?_
    refine j_ialdN C (M.t35) (⟨hk, by decide⟩) dX7_isOn_15 ?_
    refine j_iload_n C dX7_isOn_16 rfl ?_
    refine j_icmp_ne (tgt := 24) C dX7_isOn_17 (by decide) (fun h17 => ?_) (fun h17 => ?_)
    · skip
      refine j_iconst C dX7_isOn_24 (v := 0) (by decide) ?_
      refine j_iret C dX7_isOn_25 rfl ⟨rfl, rfl, ?_⟩
      simp_all [b2]
    · replace h17 := Decidable.not_not.mp h17
      refine j_iconst C dX7_isOn_20 (v := 1) (by decide) ?_
      refine j_goto (tgt := 25) C dX7_isOn_21 (by decide) ?_
      refine j_iret C dX7_isOn_25 rfl ⟨rfl, rfl, ?_⟩
      simp_all [b2]

def mRoomOn (N : WNm) (x : Int32) (n : Nat) : Int32 := iSum (fun b => if N 34 b = 1 ∧ N 35 b = x then N 29 b else 0) n
theorem cM_roomOn {l : Launch} {g : WGp} (hg : GOK g) {sh : WSh} {N : WNm} (M : MSh sh) {n : Nat} (hn : N 0 23 = nI n) (hn3 : n ≤ 300) (x : Int32) : CT l g yX7_roomOn cX7_roomOn 4 (some .int) (RM 2 0 0) [.ref (sh.2.2 0), .int x] sh N (QF g sh N (mRoomOn N x n)) := by
  refine ent hg (by decide +kernel) (Nat.le_of_ble_eq_true rfl) ?_
  intro p e s m args below meth c C hname
  refine j_iconst C dX7_roomOn_0 (v := 0) (by decide) ?_
  refine j_istore_n C dX7_roomOn_1 (by decide) rfl ?_
  refine j_iconst C dX7_roomOn_2 (v := 0) (by decide) ?_
  refine j_istore_n C dX7_roomOn_3 (by decide) rfl ?_
  refine up_ind (P := fun k => J p l e (RM 2 0 0) s m args below meth c _ g _ sh N 0 0 4 [some (.ref (sh.2.2 0)), some (.int x), some (.int (mRoomOn N x k)), some (.int (nI k))] []) (n := n) ?_ 0 (Nat.zero_le _)
  intro k hk ih
  refine j_iload_n C dX7_roomOn_4 rfl ?_
  refine j_aload_n C dX7_roomOn_5 rfl ?_
  refine j_getI C fl_X7_143 dX7_roomOn_6 (M.c) rfl ?_
  refine j_icmp_ge (tgt := 40) C dX7_roomOn_9 (by decide) (fun h9 => ?_) (fun h9 => ?_)
  · skip
    rw [hn, n_nle (by omega) (by omega)] at h9
    obtain rfl : k = n := by omega
    refine j_iload_n C dX7_roomOn_40 rfl ?_
    exact j_iret C dX7_roomOn_41 rfl ⟨rfl, rfl, rfl⟩
  · replace h9 := i_nle.mp h9
    rw [hn, n_nlt (by omega) (by omega)] at h9
    refine j_iload_n C dX7_roomOn_12 rfl ?_
    refine j_aload_n C dX7_roomOn_13 rfl ?_
    refine j_iload_n C dX7_roomOn_14 rfl ?_
    refine j_iload_n C dX7_roomOn_15 rfl ?_
    refine j_callV2I C ml_X7_171 dX7_roomOn_16 (cM_isOn hg M (k := k) (by omega) x) ⟨by rw [M.c]; decide, by rw [M.c]; rfl⟩ ⟨Nat.le_of_ble_eq_true rfl, Nat.le_of_ble_eq_true rfl⟩ (Nat.le_of_ble_eq_true rfl) ⟨rfl, rfl⟩ ⟨Nat.zero_le _, Nat.zero_le _⟩ ?_
    refine j_if_eq (tgt := 31) C dX7_roomOn_19 (by decide) (fun h19 => ?_) (fun h19 => ?_)
    · replace h19 := b2_eq0.mp h19
      refine j_iconst C dX7_roomOn_31 (v := 0) (by decide) ?_
      refine j_iadd C dX7_roomOn_32 ?_
      refine j_istore_n C dX7_roomOn_33 (by decide) rfl ?_
      refine j_iincN C dX7_roomOn_34 rfl (by decide) rfl ?_
      refine j_goto (tgt := 4) C dX7_roomOn_37 (by decide) ?_
      rw [show mRoomOn N x k + _ = mRoomOn N x (k + 1) by simp [mRoomOn, iSum, *]]
      exact ih (by omega)
    · replace h19 := b2_ne0.mp h19
      refine j_aload_n C dX7_roomOn_22 rfl ?_
      refine j_getR (j := 29) C fl_X7_74 dX7_roomOn_23 (M.c) rfl (M.r28) ?_
      refine j_iload_n C dX7_roomOn_26 rfl ?_
      refine j_ialdN C (M.t29) (⟨by omega, by decide⟩) dX7_roomOn_27 ?_
      refine j_goto (tgt := 32) C dX7_roomOn_28 (by decide) ?_
      refine j_iadd C dX7_roomOn_32 ?_
      refine j_istore_n C dX7_roomOn_33 (by decide) rfl ?_
      refine j_iincN C dX7_roomOn_34 rfl (by decide) rfl ?_
      refine j_goto (tgt := 4) C dX7_roomOn_37 (by decide) ?_
      rw [show mRoomOn N x k + _ = mRoomOn N x (k + 1) by simp [mRoomOn, iSum, *]]
      exact ih (by omega)

def mBalesOn (N : WNm) (x : Int32) (n : Nat) : Int32 := iSum (fun b => if N 34 b = 1 ∧ N 35 b = x then 1 else 0) n
theorem cM_balesOn {l : Launch} {g : WGp} (hg : GOK g) {sh : WSh} {N : WNm} (M : MSh sh) {n : Nat} (hn : N 0 23 = nI n) (hn3 : n ≤ 300) (x : Int32) : CT l g yX7_balesOn cX7_balesOn 4 (some .int) (RM 2 0 0) [.ref (sh.2.2 0), .int x] sh N (QF g sh N (mBalesOn N x n)) := by
  refine ent hg (by decide +kernel) (Nat.le_of_ble_eq_true rfl) ?_
  intro p e s m args below meth c C hname
  refine j_iconst C dX7_balesOn_0 (v := 0) (by decide) ?_
  refine j_istore_n C dX7_balesOn_1 (by decide) rfl ?_
  refine j_iconst C dX7_balesOn_2 (v := 0) (by decide) ?_
  refine j_istore_n C dX7_balesOn_3 (by decide) rfl ?_
  refine up_ind (P := fun k => J p l e (RM 2 0 0) s m args below meth c _ g _ sh N 0 0 4 [some (.ref (sh.2.2 0)), some (.int x), some (.int (mBalesOn N x k)), some (.int (nI k))] []) (n := n) ?_ 0 (Nat.zero_le _)
  intro k hk ih
  refine j_iload_n C dX7_balesOn_4 rfl ?_
  refine j_aload_n C dX7_balesOn_5 rfl ?_
  refine j_getI C fl_X7_143 dX7_balesOn_6 (M.c) rfl ?_
  refine j_icmp_ge (tgt := 35) C dX7_balesOn_9 (by decide) (fun h9 => ?_) (fun h9 => ?_)
  · skip
    refine j_iload_n C dX7_balesOn_35 rfl ?_
    rw [hn, n_nle (by omega) (by omega)] at h9
    obtain rfl : k = n := by omega
    exact j_iret C dX7_balesOn_36 rfl ⟨rfl, rfl, rfl⟩
  · replace h9 := i_nle.mp h9
    rw [hn, n_nlt (by omega) (by omega)] at h9
    refine j_iload_n C dX7_balesOn_12 rfl ?_
    refine j_aload_n C dX7_balesOn_13 rfl ?_
    refine j_iload_n C dX7_balesOn_14 rfl ?_
    refine j_iload_n C dX7_balesOn_15 rfl ?_
    refine j_callV2I C ml_X7_171 dX7_balesOn_16 (cM_isOn hg M (k := k) (by omega) x) ⟨by rw [M.c]; decide, by rw [M.c]; rfl⟩ ⟨Nat.le_of_ble_eq_true rfl, Nat.le_of_ble_eq_true rfl⟩ (Nat.le_of_ble_eq_true rfl) ⟨rfl, rfl⟩ ⟨Nat.zero_le _, Nat.zero_le _⟩ ?_
    refine j_if_eq (tgt := 26) C dX7_balesOn_19 (by decide) (fun h19 => ?_) (fun h19 => ?_)
    · replace h19 := b2_eq0.mp h19
      refine j_iconst C dX7_balesOn_26 (v := 0) (by decide) ?_
      refine j_iadd C dX7_balesOn_27 ?_
      refine j_istore_n C dX7_balesOn_28 (by decide) rfl ?_
      refine j_iincN C dX7_balesOn_29 rfl (by decide) rfl ?_
      refine j_goto (tgt := 4) C dX7_balesOn_32 (by decide) ?_
      rw [show mBalesOn N x k + _ = mBalesOn N x (k + 1) by simp [mBalesOn, iSum, *]]
      exact ih (by omega)
    · replace h19 := b2_ne0.mp h19
      refine j_iconst C dX7_balesOn_22 (v := 1) (by decide) ?_
      refine j_goto (tgt := 27) C dX7_balesOn_23 (by decide) ?_
      refine j_iadd C dX7_balesOn_27 ?_
      refine j_istore_n C dX7_balesOn_28 (by decide) rfl ?_
      refine j_iincN C dX7_balesOn_29 rfl (by decide) rfl ?_
      refine j_goto (tgt := 4) C dX7_balesOn_32 (by decide) ?_
      rw [show mBalesOn N x k + _ = mBalesOn N x (k + 1) by simp [mBalesOn, iSum, *]]
      exact ih (by omega)

def mWeightOn (N : WNm) (x : Int32) (hv : Prop) [Decidable hv] (n : Nat) : Int32 := iSum (fun b => if (N 34 b = 1 ∧ N 35 b = x) ∧ (¬ hv ∨ N 28 b = 1) then N 30 b else 0) n
theorem cM_weightOn {l : Launch} {g : WGp} (hg : GOK g) {sh : WSh} {N : WNm} (M : MSh sh) {n : Nat} (hn : N 0 23 = nI n) (hn3 : n ≤ 300) (x : Int32) (hv : Prop) [Decidable hv] : CT l g yX7_weightOn cX7_weightOn 5 (some .int) (RM 2 0 0) [.ref (sh.2.2 0), .int x, .int (b2 hv)] sh N (QF g sh N (mWeightOn N x hv n)) := by
  refine ent hg (by decide +kernel) (Nat.le_of_ble_eq_true rfl) ?_
  intro p e s m args below meth c C hname
  refine j_iconst C dX7_weightOn_0 (v := 0) (by decide) ?_
  refine j_istore_n C dX7_weightOn_1 (by decide) rfl ?_
  refine j_iconst C dX7_weightOn_2 (v := 0) (by decide) ?_
  refine j_istore C dX7_weightOn_3 (by decide) rfl ?_
  refine up_ind (P := fun k => J p l e (RM 2 0 0) s m args below meth c _ g _ sh N 0 0 5 [some (.ref (sh.2.2 0)), some (.int x), some (.int (b2 hv)), some (.int (mWeightOn N x hv k)), some (.int (nI k))] []) (n := n) ?_ 0 (Nat.zero_le _)
  intro k hk ih
  refine j_iload C dX7_weightOn_5 rfl ?_
  refine j_aload_n C dX7_weightOn_7 rfl ?_
  refine j_getI C fl_X7_143 dX7_weightOn_8 (M.c) rfl ?_
  refine j_icmp_ge (tgt := 59) C dX7_weightOn_11 (by decide) (fun h11 => ?_) (fun h11 => ?_)
  · skip
    refine j_iload_n C dX7_weightOn_59 rfl ?_
    rw [hn, n_nle (by omega) (by omega)] at h11
    obtain rfl : k = n := by omega
    exact j_iret C dX7_weightOn_60 rfl ⟨rfl, rfl, rfl⟩
  · replace h11 := i_nle.mp h11
    rw [hn, n_nlt (by omega) (by omega)] at h11
    refine j_iload_n C dX7_weightOn_14 rfl ?_
    refine j_aload_n C dX7_weightOn_15 rfl ?_
    refine j_iload C dX7_weightOn_16 rfl ?_
    refine j_iload_n C dX7_weightOn_18 rfl ?_
    refine j_callV2I C ml_X7_171 dX7_weightOn_19 (cM_isOn hg M (k := k) (by omega) x) ⟨by rw [M.c]; decide, by rw [M.c]; rfl⟩ ⟨Nat.le_of_ble_eq_true rfl, Nat.le_of_ble_eq_true rfl⟩ (Nat.le_of_ble_eq_true rfl) ⟨rfl, rfl⟩ ⟨Nat.zero_le _, Nat.zero_le _⟩ ?_
    refine j_if_eq (tgt := 50) C dX7_weightOn_22 (by decide) (fun h22 => ?_) (fun h22 => ?_)
    · replace h22 := b2_eq0.mp h22
      refine j_iconst C dX7_weightOn_50 (v := 0) (by decide) ?_
      refine j_iadd C dX7_weightOn_51 ?_
      refine j_istore_n C dX7_weightOn_52 (by decide) rfl ?_
      refine j_iincN C dX7_weightOn_53 rfl (by decide) rfl ?_
      refine j_goto (tgt := 5) C dX7_weightOn_56 (by decide) ?_
      rw [show mWeightOn N x hv k + _ = mWeightOn N x hv (k + 1) by simp_all [mWeightOn, iSum, b2_eq0, b2_ne0]]
      exact ih (by omega)
    · replace h22 := b2_ne0.mp h22
      refine j_iload_n C dX7_weightOn_25 rfl ?_
      refine j_if_eq (tgt := 40) C dX7_weightOn_26 (by decide) (fun h26 => ?_) (fun h26 => ?_)
      · skip
        refine j_aload_n C dX7_weightOn_40 rfl ?_
        refine j_getR (j := 30) C fl_X7_77 dX7_weightOn_41 (M.c) rfl (M.r29) ?_
        refine j_iload C dX7_weightOn_44 rfl ?_
        refine j_ialdN C (M.t30) (⟨by omega, by decide⟩) dX7_weightOn_46 ?_
        refine j_goto (tgt := 51) C dX7_weightOn_47 (by decide) ?_
        refine j_iadd C dX7_weightOn_51 ?_
        refine j_istore_n C dX7_weightOn_52 (by decide) rfl ?_
        refine j_iincN C dX7_weightOn_53 rfl (by decide) rfl ?_
        refine j_goto (tgt := 5) C dX7_weightOn_56 (by decide) ?_
        rw [show mWeightOn N x hv k + _ = mWeightOn N x hv (k + 1) by simp_all [mWeightOn, iSum, b2_eq0, b2_ne0]]
        exact ih (by omega)
      · skip
        refine j_aload_n C dX7_weightOn_29 rfl ?_
        refine j_getR (j := 28) C fl_X7_71 dX7_weightOn_30 (M.c) rfl (M.r27) ?_
        refine j_iload C dX7_weightOn_33 rfl ?_
        refine j_ialdN C (M.t28) (⟨by omega, by decide⟩) dX7_weightOn_35 ?_
        refine j_iconst C dX7_weightOn_36 (v := 1) (by decide) ?_
        refine j_icmp_ne (tgt := 50) C dX7_weightOn_37 (by decide) (fun h37 => ?_) (fun h37 => ?_)
        · skip
          refine j_iconst C dX7_weightOn_50 (v := 0) (by decide) ?_
          refine j_iadd C dX7_weightOn_51 ?_
          refine j_istore_n C dX7_weightOn_52 (by decide) rfl ?_
          refine j_iincN C dX7_weightOn_53 rfl (by decide) rfl ?_
          refine j_goto (tgt := 5) C dX7_weightOn_56 (by decide) ?_
          rw [show mWeightOn N x hv k + _ = mWeightOn N x hv (k + 1) by simp_all [mWeightOn, iSum, b2_eq0, b2_ne0]]
          exact ih (by omega)
        · replace h37 := Decidable.not_not.mp h37
          refine j_aload_n C dX7_weightOn_40 rfl ?_
          refine j_getR (j := 30) C fl_X7_77 dX7_weightOn_41 (M.c) rfl (M.r29) ?_
          refine j_iload C dX7_weightOn_44 rfl ?_
          refine j_ialdN C (M.t30) (⟨by omega, by decide⟩) dX7_weightOn_46 ?_
          refine j_goto (tgt := 51) C dX7_weightOn_47 (by decide) ?_
          refine j_iadd C dX7_weightOn_51 ?_
          refine j_istore_n C dX7_weightOn_52 (by decide) rfl ?_
          refine j_iincN C dX7_weightOn_53 rfl (by decide) rfl ?_
          refine j_goto (tgt := 5) C dX7_weightOn_56 (by decide) ?_
          rw [show mWeightOn N x hv k + _ = mWeightOn N x hv (k + 1) by simp_all [mWeightOn, iSum, b2_eq0, b2_ne0]]
          exact ih (by omega)

def mBalesAs (N : WNm) (x : Int32) (n : Nat) : Int32 := iSum (fun b => if N 34 b = x then 1 else 0) n
theorem cM_balesAs {l : Launch} {g : WGp} (hg : GOK g) {sh : WSh} {N : WNm} (M : MSh sh) {n : Nat} (hn : N 0 23 = nI n) (hn3 : n ≤ 300) (x : Int32) : CT l g yX7_balesAs cX7_balesAs 4 (some .int) (RM 1 0 0) [.ref (sh.2.2 0), .int x] sh N (QF g sh N (mBalesAs N x n)) := by
  refine ent hg (by decide +kernel) (Nat.le_of_ble_eq_true rfl) ?_
  intro p e s m args below meth c C hname
  refine j_iconst C dX7_balesAs_0 (v := 0) (by decide) ?_
  refine j_istore_n C dX7_balesAs_1 (by decide) rfl ?_
  refine j_iconst C dX7_balesAs_2 (v := 0) (by decide) ?_
  refine j_istore_n C dX7_balesAs_3 (by decide) rfl ?_
  refine up_ind (P := fun k => J p l e (RM 1 0 0) s m args below meth c _ g _ sh N 0 0 4 [some (.ref (sh.2.2 0)), some (.int x), some (.int (mBalesAs N x k)), some (.int (nI k))] []) (n := n) ?_ 0 (Nat.zero_le _)
  intro k hk ih
  refine j_iload_n C dX7_balesAs_4 rfl ?_
  refine j_aload_n C dX7_balesAs_5 rfl ?_
  refine j_getI C fl_X7_143 dX7_balesAs_6 (M.c) rfl ?_
  refine j_icmp_ge (tgt := 36) C dX7_balesAs_9 (by decide) (fun h9 => ?_) (fun h9 => ?_)
  · skip
    refine j_iload_n C dX7_balesAs_36 rfl ?_
    rw [hn, n_nle (by omega) (by omega)] at h9
    obtain rfl : k = n := by omega
    exact j_iret C dX7_balesAs_37 rfl ⟨rfl, rfl, rfl⟩
  · replace h9 := i_nle.mp h9
    rw [hn, n_nlt (by omega) (by omega)] at h9
    refine j_iload_n C dX7_balesAs_12 rfl ?_
    refine j_aload_n C dX7_balesAs_13 rfl ?_
    refine j_getR (j := 34) C fl_X7_89 dX7_balesAs_14 (M.c) rfl (M.r33) ?_
    refine j_iload_n C dX7_balesAs_17 rfl ?_
    refine j_ialdN C (M.t34) (⟨by omega, by decide⟩) dX7_balesAs_18 ?_
    refine j_iload_n C dX7_balesAs_19 rfl ?_
    refine j_icmp_ne (tgt := 27) C dX7_balesAs_20 (by decide) (fun h20 => ?_) (fun h20 => ?_)
    · skip
      refine j_iconst C dX7_balesAs_27 (v := 0) (by decide) ?_
      refine j_iadd C dX7_balesAs_28 ?_
      refine j_istore_n C dX7_balesAs_29 (by decide) rfl ?_
      refine j_iincN C dX7_balesAs_30 rfl (by decide) rfl ?_
      refine j_goto (tgt := 4) C dX7_balesAs_33 (by decide) ?_
      rw [show mBalesAs N x k + _ = mBalesAs N x (k + 1) by simp [mBalesAs, iSum, *]]
      exact ih (by omega)
    · replace h20 := Decidable.not_not.mp h20
      refine j_iconst C dX7_balesAs_23 (v := 1) (by decide) ?_
      refine j_goto (tgt := 28) C dX7_balesAs_24 (by decide) ?_
      refine j_iadd C dX7_balesAs_28 ?_
      refine j_istore_n C dX7_balesAs_29 (by decide) rfl ?_
      refine j_iincN C dX7_balesAs_30 rfl (by decide) rfl ?_
      refine j_goto (tgt := 4) C dX7_balesAs_33 (by decide) ?_
      rw [show mBalesAs N x k + _ = mBalesAs N x (k + 1) by simp [mBalesAs, iSum, *]]
      exact ih (by omega)

def mInPort (N : WNm) (x : Int32) (n : Nat) : Int32 := iSum (fun b => if N 15 b = 1 ∧ N 16 b = x then 1 else 0) n
theorem cM_inPort {l : Launch} {g : WGp} (hg : GOK g) {sh : WSh} {N : WNm} (M : MSh sh) {n : Nat} (hn : N 0 9 = nI n) (hn3 : n ≤ 8) (x : Int32) : CT l g yX7_inPort cX7_inPort 4 (some .int) (RM 1 0 0) [.ref (sh.2.2 0), .int x] sh N (QF g sh N (mInPort N x n)) := by
  refine ent hg (by decide +kernel) (Nat.le_of_ble_eq_true rfl) ?_
  intro p e s m args below meth c C hname
  refine j_iconst C dX7_inPort_0 (v := 0) (by decide) ?_
  refine j_istore_n C dX7_inPort_1 (by decide) rfl ?_
  refine j_iconst C dX7_inPort_2 (v := 0) (by decide) ?_
  refine j_istore_n C dX7_inPort_3 (by decide) rfl ?_
  refine up_ind (P := fun k => J p l e (RM 1 0 0) s m args below meth c _ g _ sh N 0 0 4 [some (.ref (sh.2.2 0)), some (.int x), some (.int (mInPort N x k)), some (.int (nI k))] []) (n := n) ?_ 0 (Nat.zero_le _)
  intro k hk ih
  refine j_iload_n C dX7_inPort_4 rfl ?_
  refine j_aload_n C dX7_inPort_5 rfl ?_
  refine j_getI C fl_X7_140 dX7_inPort_6 (M.c) rfl ?_
  refine j_icmp_ge (tgt := 46) C dX7_inPort_9 (by decide) (fun h9 => ?_) (fun h9 => ?_)
  · skip
    refine j_iload_n C dX7_inPort_46 rfl ?_
    rw [hn, n_nle (by omega) (by omega)] at h9
    obtain rfl : k = n := by omega
    exact j_iret C dX7_inPort_47 rfl ⟨rfl, rfl, rfl⟩
  · replace h9 := i_nle.mp h9
    rw [hn, n_nlt (by omega) (by omega)] at h9
    refine j_iload_n C dX7_inPort_12 rfl ?_
    refine j_aload_n C dX7_inPort_13 rfl ?_
    refine j_getR (j := 15) C fl_X7_34 dX7_inPort_14 (M.c) rfl (M.r14) ?_
    refine j_iload_n C dX7_inPort_17 rfl ?_
    refine j_ialdN C (M.t15) (⟨by omega, by decide⟩) dX7_inPort_18 ?_
    refine j_iconst C dX7_inPort_19 (v := 1) (by decide) ?_
    refine j_icmp_ne (tgt := 37) C dX7_inPort_20 (by decide) (fun h20 => ?_) (fun h20 => ?_)
    · skip
      refine j_iconst C dX7_inPort_37 (v := 0) (by decide) ?_
      refine j_iadd C dX7_inPort_38 ?_
      refine j_istore_n C dX7_inPort_39 (by decide) rfl ?_
      refine j_iincN C dX7_inPort_40 rfl (by decide) rfl ?_
      refine j_goto (tgt := 4) C dX7_inPort_43 (by decide) ?_
      rw [show mInPort N x k + _ = mInPort N x (k + 1) by simp [mInPort, iSum, *]]
      exact ih (by omega)
    · replace h20 := Decidable.not_not.mp h20
      refine j_aload_n C dX7_inPort_23 rfl ?_
      refine j_getR (j := 16) C fl_X7_37 dX7_inPort_24 (M.c) rfl (M.r15) ?_
      refine j_iload_n C dX7_inPort_27 rfl ?_
      refine j_ialdN C (M.t16) (⟨by omega, by decide⟩) dX7_inPort_28 ?_
      refine j_iload_n C dX7_inPort_29 rfl ?_
      refine j_icmp_ne (tgt := 37) C dX7_inPort_30 (by decide) (fun h30 => ?_) (fun h30 => ?_)
      · skip
        refine j_iconst C dX7_inPort_37 (v := 0) (by decide) ?_
        refine j_iadd C dX7_inPort_38 ?_
        refine j_istore_n C dX7_inPort_39 (by decide) rfl ?_
        refine j_iincN C dX7_inPort_40 rfl (by decide) rfl ?_
        refine j_goto (tgt := 4) C dX7_inPort_43 (by decide) ?_
        rw [show mInPort N x k + _ = mInPort N x (k + 1) by simp [mInPort, iSum, *]]
        exact ih (by omega)
      · replace h30 := Decidable.not_not.mp h30
        refine j_iconst C dX7_inPort_33 (v := 1) (by decide) ?_
        refine j_goto (tgt := 38) C dX7_inPort_34 (by decide) ?_
        refine j_iadd C dX7_inPort_38 ?_
        refine j_istore_n C dX7_inPort_39 (by decide) rfl ?_
        refine j_iincN C dX7_inPort_40 rfl (by decide) rfl ?_
        refine j_goto (tgt := 4) C dX7_inPort_43 (by decide) ?_
        rw [show mInPort N x k + _ = mInPort N x (k + 1) by simp [mInPort, iSum, *]]
        exact ih (by omega)

def mOpened (N : WNm) (n : Nat) : Int32 := iSum (fun b => if N 51 b = 5 ∨ N 51 b = 30 ∨ N 51 b = 70 then 1 else 0) n
theorem cM_opened {l : Launch} {g : WGp} (hg : GOK g) {sh : WSh} {N : WNm} (M : MSh sh) {n : Nat} (hn : N 0 51 = nI n) (hn3 : n ≤ 300)  : CT l g yX7_opened cX7_opened 3 (some .int) (RM 1 0 0) [.ref (sh.2.2 0)] sh N (QF g sh N (mOpened N  n)) := by
  refine ent hg (by decide +kernel) (Nat.le_of_ble_eq_true rfl) ?_
  intro p e s m args below meth c C hname
  refine j_iconst C dX7_opened_0 (v := 0) (by decide) ?_
  refine j_istore_n C dX7_opened_1 (by decide) rfl ?_
  refine j_iconst C dX7_opened_2 (v := 0) (by decide) ?_
  refine j_istore_n C dX7_opened_3 (by decide) rfl ?_
  refine up_ind (P := fun k => J p l e (RM 1 0 0) s m args below meth c _ g _ sh N 0 0 4 [some (.ref (sh.2.2 0)), some (.int (mOpened N k)), some (.int (nI k))] []) (n := n) ?_ 0 (Nat.zero_le _)
  intro k hk ih
  refine j_iload_n C dX7_opened_4 rfl ?_
  refine j_aload_n C dX7_opened_5 rfl ?_
  refine j_getI C fl_X7_243 dX7_opened_6 (M.c) rfl ?_
  refine j_icmp_ge (tgt := 58) C dX7_opened_9 (by decide) (fun h9 => ?_) (fun h9 => ?_)
  · skip
    refine j_iload_n C dX7_opened_58 rfl ?_
    rw [hn, n_nle (by omega) (by omega)] at h9
    obtain rfl : k = n := by omega
    exact j_iret C dX7_opened_59 rfl ⟨rfl, rfl, rfl⟩
  · replace h9 := i_nle.mp h9
    rw [hn, n_nlt (by omega) (by omega)] at h9
    refine j_iload_n C dX7_opened_12 rfl ?_
    refine j_aload_n C dX7_opened_13 rfl ?_
    refine j_getR (j := 51) C fl_X7_117 dX7_opened_14 (M.c) rfl (M.r50) ?_
    refine j_iload_n C dX7_opened_17 rfl ?_
    refine j_ialdN C (M.t51) (⟨by omega, by decide⟩) dX7_opened_18 ?_
    refine j_iconst C dX7_opened_19 (v := 5) (by decide) ?_
    refine j_icmp_eq (tgt := 45) C dX7_opened_20 (by decide) (fun h20 => ?_) (fun h20 => ?_)
    · skip
      refine j_iconst C dX7_opened_45 (v := 1) (by decide) ?_
      refine j_goto (tgt := 50) C dX7_opened_46 (by decide) ?_
      refine j_iadd C dX7_opened_50 ?_
      refine j_istore_n C dX7_opened_51 (by decide) rfl ?_
      refine j_iincN C dX7_opened_52 rfl (by decide) rfl ?_
      refine j_goto (tgt := 4) C dX7_opened_55 (by decide) ?_
      rw [show mOpened N  k + _ = mOpened N  (k + 1) by simp [mOpened, iSum, *]]
      exact ih (by omega)
    · skip
      refine j_aload_n C dX7_opened_23 rfl ?_
      refine j_getR (j := 51) C fl_X7_117 dX7_opened_24 (M.c) rfl (M.r50) ?_
      refine j_iload_n C dX7_opened_27 rfl ?_
      refine j_ialdN C (M.t51) (⟨by omega, by decide⟩) dX7_opened_28 ?_
      refine j_bipush C dX7_opened_29 (v := 30) (by decide) ?_
      refine j_icmp_eq (tgt := 45) C dX7_opened_31 (by decide) (fun h31 => ?_) (fun h31 => ?_)
      · skip
        refine j_iconst C dX7_opened_45 (v := 1) (by decide) ?_
        refine j_goto (tgt := 50) C dX7_opened_46 (by decide) ?_
        refine j_iadd C dX7_opened_50 ?_
        refine j_istore_n C dX7_opened_51 (by decide) rfl ?_
        refine j_iincN C dX7_opened_52 rfl (by decide) rfl ?_
        refine j_goto (tgt := 4) C dX7_opened_55 (by decide) ?_
        rw [show mOpened N  k + _ = mOpened N  (k + 1) by simp [mOpened, iSum, *]]
        exact ih (by omega)
      · skip
        refine j_aload_n C dX7_opened_34 rfl ?_
        refine j_getR (j := 51) C fl_X7_117 dX7_opened_35 (M.c) rfl (M.r50) ?_
        refine j_iload_n C dX7_opened_38 rfl ?_
        refine j_ialdN C (M.t51) (⟨by omega, by decide⟩) dX7_opened_39 ?_
        refine j_bipush C dX7_opened_40 (v := 70) (by decide) ?_
        refine j_icmp_ne (tgt := 49) C dX7_opened_42 (by decide) (fun h42 => ?_) (fun h42 => ?_)
        · skip
          refine j_iconst C dX7_opened_49 (v := 0) (by decide) ?_
          refine j_iadd C dX7_opened_50 ?_
          refine j_istore_n C dX7_opened_51 (by decide) rfl ?_
          refine j_iincN C dX7_opened_52 rfl (by decide) rfl ?_
          refine j_goto (tgt := 4) C dX7_opened_55 (by decide) ?_
          rw [show mOpened N  k + _ = mOpened N  (k + 1) by simp [mOpened, iSum, *]]
          exact ih (by omega)
        · replace h42 := Decidable.not_not.mp h42
          refine j_iconst C dX7_opened_45 (v := 1) (by decide) ?_
          refine j_goto (tgt := 50) C dX7_opened_46 (by decide) ?_
          refine j_iadd C dX7_opened_50 ?_
          refine j_istore_n C dX7_opened_51 (by decide) rfl ?_
          refine j_iincN C dX7_opened_52 rfl (by decide) rfl ?_
          refine j_goto (tgt := 4) C dX7_opened_55 (by decide) ?_
          rw [show mOpened N  k + _ = mOpened N  (k + 1) by simp [mOpened, iSum, *]]
          exact ih (by omega)

def mBecomes (N : WNm) (b : Nat) (w : Int32) : WNm := u2 (u2 N 34 b w) 36 b (N 0 1)

theorem cM_becomes {l : Launch} {g : WGp} (hg : GOK g) {sh : WSh} {N : WNm} (M : MSh sh) {k : Nat} (hk : k < 300) (x : Int32) : CT l g yX7_becomes cX7_becomes 3 none (RM 1 0 0) [.ref (sh.2.2 0), .int (nI k), .int x] sh N (QFv g sh (mBecomes N k x)) := by
  refine ent hg (by decide +kernel) (Nat.le_of_ble_eq_true rfl) ?_
  intro p e s m args below meth c C hname
  refine j_aload_n C dX7_becomes_0 rfl ?_
  refine j_getR (j := 34) C fl_X7_89 dX7_becomes_1 (M.c) rfl (M.r33) ?_
  refine j_iload_n C dX7_becomes_4 rfl ?_
  refine j_iload_n C dX7_becomes_5 rfl ?_
  refine j_iastN C (M.t34) (⟨hk, by decide⟩) dX7_becomes_6 ?_
  refine j_aload_n C dX7_becomes_7 rfl ?_
  refine j_getR (j := 36) C fl_X7_95 dX7_becomes_8 (M.c) rfl (M.r35) ?_
  refine j_iload_n C dX7_becomes_11 rfl ?_
  refine j_aload_n C dX7_becomes_12 rfl ?_
  refine j_getI C fl_X7_165 dX7_becomes_13 (M.c) rfl ?_
  refine j_iastN C (M.t36) (⟨hk, by decide⟩) dX7_becomes_16 ?_
  exact j_vret C dX7_becomes_17 ⟨rfl, rfl⟩

def mKnown (N : WNm) (k : Int32) (p : Nat) : Nat → Int32
  | 0 => -2
  | v + 1 => if N 40 v = k ∧ N 41 v ≤ N 0 1 - N 8 p then nI v else mKnown N k p v
theorem dec1 (x : Int32) : x + Int32.ofInt (-1) = x - 1 := by rw [Int32.sub_eq_add_neg]; rfl

theorem cM_knownAt {l : Launch} {g : WGp} (hg : GOK g) {sh : WSh} {N : WNm} (M : MSh sh) {n : Nat} (hn : N 0 38 = nI n) (hn3 : n ≤ 30) (k : Int32) {p0 : Int32} (hp : vp_in p0 12) : CT l g yX7_knownAt cX7_knownAt 4 (some .int) (RM 1 0 0) [.ref (sh.2.2 0), .int k, .int p0] sh N (QF g sh N (mKnown N k (tn p0) n)) := by
  refine ent hg (by decide +kernel) (Nat.le_of_ble_eq_true rfl) ?_
  intro p e s m args below meth c C hname
  refine j_aload_n C dX7_knownAt_0 rfl ?_
  refine j_getI C fl_X7_256 dX7_knownAt_1 (M.c) rfl ?_
  refine j_iconst C dX7_knownAt_4 (v := 1) (by decide) ?_
  refine j_isub C dX7_knownAt_5 ?_
  refine j_istore_n C dX7_knownAt_6 (by decide) rfl ?_
  rw [hn]
  suffices key : ∀ j, j ≤ n → mKnown N k (tn p0) n = mKnown N k (tn p0) j → J p l e (RM 1 0 0) s m args below meth c (MQ below (QF g sh N (mKnown N k (tn p0) n)) args s 0 0 g.A) g 4 sh N 0 0 7 [some (.ref (sh.2.2 0)), some (.int k), some (.int p0), some (.int (nI j - 1))] [] from key n (Nat.le_refl _) rfl
  intro j
  induction j with
  | zero =>
    intro _ ej
    refine j_iload_n C dX7_knownAt_7 rfl ?_
    refine j_if_lt (tgt := 49) C dX7_knownAt_8 (by decide) (fun h8 => ?_) (fun h8 => ?_)
    · skip
      refine j_bipush C dX7_knownAt_49 (v := (-2)) (by decide) ?_
      exact j_iret C dX7_knownAt_51 rfl ⟨rfl, rfl, by rw [ej]; rfl⟩
    · replace h8 := i_nlt.mp h8
      exact absurd h8 (by decide)
  | succ j ih =>
    intro hj ej
    rw [nI_pred]
    refine j_iload_n C dX7_knownAt_7 rfl ?_
    refine j_if_lt (tgt := 49) C dX7_knownAt_8 (by decide) (fun h8 => ?_) (fun h8 => ?_)
    · skip
      exact absurd h8 (by rw [i_nlt]; exact nI_pos' (by omega))
    · replace h8 := i_nlt.mp h8
      refine j_aload_n C dX7_knownAt_11 rfl ?_
      refine j_getR (j := 40) C fl_X7_102 dX7_knownAt_12 (M.c) rfl (M.r39) ?_
      refine j_iload_n C dX7_knownAt_15 rfl ?_
      refine j_ialdN C (M.t40) (⟨by omega, by decide⟩) dX7_knownAt_16 ?_
      refine j_iload_n C dX7_knownAt_17 rfl ?_
      refine j_icmp_ne (tgt := 43) C dX7_knownAt_18 (by decide) (fun h18 => ?_) (fun h18 => ?_)
      · skip
        refine j_iinc C dX7_knownAt_43 rfl (dec1 _) (by decide) rfl ?_
        refine j_goto (tgt := 7) C dX7_knownAt_46 (by decide) ?_
        exact ih (by omega) (by rw [ej, mKnown, if_neg]; intro z; first | exact h18 z.1 | exact absurd z.2 (i_nle.mpr h38))
      · replace h18 := Decidable.not_not.mp h18
        refine j_aload_n C dX7_knownAt_21 rfl ?_
        refine j_getR (j := 41) C fl_X7_105 dX7_knownAt_22 (M.c) rfl (M.r40) ?_
        refine j_iload_n C dX7_knownAt_25 rfl ?_
        refine j_ialdN C (M.t41) (⟨by omega, by decide⟩) dX7_knownAt_26 ?_
        refine j_aload_n C dX7_knownAt_27 rfl ?_
        refine j_getI C fl_X7_165 dX7_knownAt_28 (M.c) rfl ?_
        refine j_aload_n C dX7_knownAt_31 rfl ?_
        refine j_getR (j := 8) C fl_X7_16 dX7_knownAt_32 (M.c) rfl (M.r7) ?_
        refine j_iload_n C dX7_knownAt_35 rfl ?_
        refine j_iald C (M.t8) (hp) dX7_knownAt_36 ?_
        refine j_isub C dX7_knownAt_37 ?_
        refine j_icmp_gt (tgt := 43) C dX7_knownAt_38 (by decide) (fun h38 => ?_) (fun h38 => ?_)
        · skip
          refine j_iinc C dX7_knownAt_43 rfl (dec1 _) (by decide) rfl ?_
          refine j_goto (tgt := 7) C dX7_knownAt_46 (by decide) ?_
          exact ih (by omega) (by rw [ej, mKnown, if_neg]; intro z; first | exact h18 z.1 | exact absurd z.2 (i_nle.mpr h38))
        · replace h38 := i_nlt.mp h38
          refine j_iload_n C dX7_knownAt_41 rfl ?_
          exact j_iret C dX7_knownAt_42 rfl ⟨rfl, rfl, by rw [ej, mKnown, if_pos ⟨h18, h38⟩]⟩

def oI (o : Option Nat) : Int32 := match o with
  | none => -1
  | some k => nI k
/-- the first of the greatest among those that may be taken -/
def best (w : Nat → Int32) (ok : Nat → Prop) [DecidablePred ok] : Nat → Option Nat
  | 0 => none
  | b + 1 => match best w ok b with
    | none => if ok b then some b else none
    | some j => if ok b ∧ w j < w b then some b else some j
theorem best_lt (w : Nat → Int32) (ok : Nat → Prop) [DecidablePred ok] : ∀ (n j : Nat), best w ok n = some j → j < n ∧ ok j
  | 0, j, h => by cases h
  | n + 1, j, h => by
    unfold best at h
    rcases hb : best w ok n with _ | i
    · rw [hb] at h
      simp only at h
      split at h
      · cases h; exact ⟨Nat.lt_succ_self _, ‹_›⟩
      · cases h
    · rw [hb] at h
      simp only at h
      have := best_lt w ok n i hb
      split at h
      · next q => cases h; exact ⟨Nat.lt_succ_self _, q.1⟩
      · cases h; exact ⟨by omega, this.2⟩
theorem best_no {w : Nat → Int32} {ok : Nat → Prop} [DecidablePred ok] {k : Nat} (h : ¬ ok k) : best w ok (k + 1) = best w ok k := by
  rw [best]
  cases hb : best w ok k with
  | none => simp [h]
  | some j => simp [h]
theorem best_none {w : Nat → Int32} {ok : Nat → Prop} [DecidablePred ok] {k : Nat} (hb : best w ok k = none) (h : ok k) : best w ok (k + 1) = some k := by rw [best, hb]; simp [h]
theorem best_gt {w : Nat → Int32} {ok : Nat → Prop} [DecidablePred ok] {k j : Nat} (hb : best w ok k = some j) (h : ok k) (hw : w j < w k) : best w ok (k + 1) = some k := by rw [best, hb]; simp [h, hw]
theorem best_le {w : Nat → Int32} {ok : Nat → Prop} [DecidablePred ok] {k j : Nat} (hb : best w ok k = some j) (hw : ¬ w j < w k) : best w ok (k + 1) = some j := by rw [best, hb]; simp only; rw [if_neg (fun z => hw z.2)]
def mNext (N : WNm) (n : Nat) : Option Nat := best (fun b => N 54 b) (fun b => N 55 b = 0) n
def mHeavy (N : WNm) (x : Int32) (n : Nat) : Option Nat := best (fun b => N 30 b) (fun b => N 34 b = 1 ∧ N 35 b = x) n
theorem mNext_lt (N : WNm) (n j : Nat) (h : mNext N n = some j) : j < n := (best_lt _ _ n j h).1
theorem mHeavy_lt (N : WNm) (x : Int32) (n j : Nat) (h : mHeavy N x n = some j) : j < n := (best_lt _ _ n j h).1

theorem cM_nextBale {l : Launch} {g : WGp} (hg : GOK g) {sh : WSh} {N : WNm} (M : MSh sh) {n : Nat} (hn : N 0 23 = nI n) (hn3 : n ≤ 300)  : CT l g yX7_nextBale cX7_nextBale 3 (some .int) (RM 1 0 0) [.ref (sh.2.2 0)] sh N (QF g sh N (oI (mNext N n))) := by
  refine ent hg (by decide +kernel) (Nat.le_of_ble_eq_true rfl) ?_
  intro p e s m args below meth c C hname
  refine j_iconst C dX7_nextBale_0 (v := (-1)) (by decide) ?_
  refine j_istore_n C dX7_nextBale_1 (by decide) rfl ?_
  refine j_iconst C dX7_nextBale_2 (v := 0) (by decide) ?_
  refine j_istore_n C dX7_nextBale_3 (by decide) rfl ?_
  refine up_ind (P := fun k => J p l e (RM 1 0 0) s m args below meth c (MQ below (QF g sh N (oI (mNext N n))) args s 0 0 g.A) g _ sh N 0 0 4 [some (.ref (sh.2.2 0)), some (.int (oI (mNext N k))), some (.int (nI k))] []) (n := n) ?_ 0 (Nat.zero_le _)
  intro k hk ih
  refine j_iload_n C dX7_nextBale_4 rfl ?_
  refine j_aload_n C dX7_nextBale_5 rfl ?_
  refine j_getI C fl_X7_143 dX7_nextBale_6 (M.c) rfl ?_
  refine j_icmp_ge (tgt := 48) C dX7_nextBale_9 (by decide) (fun h9 => ?_) (fun h9 => ?_)
  · skip
    rw [hn, n_nle (by omega) (by omega)] at h9
    obtain rfl : k = n := by omega
    refine j_iload_n C dX7_nextBale_48 rfl ?_
    exact j_iret C dX7_nextBale_49 rfl ⟨rfl, rfl, rfl⟩
  · replace h9 := i_nle.mp h9
    rw [hn, n_nlt (by omega) (by omega)] at h9
    refine j_aload_n C dX7_nextBale_12 rfl ?_
    refine j_getR (j := 55) C fl_X7_126 dX7_nextBale_13 (M.c) rfl (M.r54) ?_
    refine j_iload_n C dX7_nextBale_16 rfl ?_
    refine j_zaldN C (M.t55) (⟨by omega, by decide⟩) dX7_nextBale_17 ?_
    refine j_if_ne (tgt := 42) C dX7_nextBale_18 (by decide) (fun h18 => ?_) (fun h18 => ?_)
    · skip
      refine j_iincN C dX7_nextBale_42 rfl (by decide) rfl ?_
      refine j_goto (tgt := 4) C dX7_nextBale_45 (by decide) ?_
      first
        | (rw [show mNext N (k + 1) = _ from best_no h18] at ih; exact ih (by omega))
        | (rw [show mNext N (k + 1) = _ from best_none hm h18] at ih; exact ih (by omega))
        | (rw [show mNext N (k + 1) = _ from best_gt hm h18 h37] at ih; exact ih (by omega))
        | (rw [show mNext N (k + 1) = _ from best_le hm (i_nlt.mpr h37)] at ih; exact ih (by omega))
        | exact absurd h22 (nI_pos (by omega))
    · replace h18 := Decidable.not_not.mp h18
      rcases hm : mNext N k with _ | j
      · skip
        refine j_iload_n C dX7_nextBale_21 rfl ?_
        refine j_if_lt (tgt := 40) C dX7_nextBale_22 (by decide) (fun h22 => ?_) (fun h22 => ?_)
        · skip
          refine j_iload_n C dX7_nextBale_40 rfl ?_
          refine j_istore_n C dX7_nextBale_41 (by decide) rfl ?_
          refine j_iincN C dX7_nextBale_42 rfl (by decide) rfl ?_
          refine j_goto (tgt := 4) C dX7_nextBale_45 (by decide) ?_
          first
            | (rw [show mNext N (k + 1) = _ from best_no h18] at ih; exact ih (by omega))
            | (rw [show mNext N (k + 1) = _ from best_none hm h18] at ih; exact ih (by omega))
            | (rw [show mNext N (k + 1) = _ from best_gt hm h18 h37] at ih; exact ih (by omega))
            | (rw [show mNext N (k + 1) = _ from best_le hm (i_nlt.mpr h37)] at ih; exact ih (by omega))
            | exact absurd h22 (nI_pos (by omega))
        · replace h22 := i_nlt.mp h22
          exact absurd h22 (by decide)
      · have hj := mNext_lt N k j hm
        rw [show oI (some j) = nI j from rfl]
        refine j_iload_n C dX7_nextBale_21 rfl ?_
        refine j_if_lt (tgt := 40) C dX7_nextBale_22 (by decide) (fun h22 => ?_) (fun h22 => ?_)
        · skip
          refine j_iload_n C dX7_nextBale_40 rfl ?_
          refine j_istore_n C dX7_nextBale_41 (by decide) rfl ?_
          refine j_iincN C dX7_nextBale_42 rfl (by decide) rfl ?_
          refine j_goto (tgt := 4) C dX7_nextBale_45 (by decide) ?_
          first
            | (rw [show mNext N (k + 1) = _ from best_no h18] at ih; exact ih (by omega))
            | (rw [show mNext N (k + 1) = _ from best_none hm h18] at ih; exact ih (by omega))
            | (rw [show mNext N (k + 1) = _ from best_gt hm h18 h37] at ih; exact ih (by omega))
            | (rw [show mNext N (k + 1) = _ from best_le hm (i_nlt.mpr h37)] at ih; exact ih (by omega))
            | exact absurd h22 (nI_pos (by omega))
        · replace h22 := i_nlt.mp h22
          refine j_aload_n C dX7_nextBale_25 rfl ?_
          refine j_getR (j := 54) C fl_X7_123 dX7_nextBale_26 (M.c) rfl (M.r53) ?_
          refine j_iload_n C dX7_nextBale_29 rfl ?_
          refine j_ialdN C (M.t54) (⟨by omega, by decide⟩) dX7_nextBale_30 ?_
          refine j_aload_n C dX7_nextBale_31 rfl ?_
          refine j_getR (j := 54) C fl_X7_123 dX7_nextBale_32 (M.c) rfl (M.r53) ?_
          refine j_iload_n C dX7_nextBale_35 rfl ?_
          refine j_ialdN C (M.t54) (⟨by omega, by decide⟩) dX7_nextBale_36 ?_
          refine j_icmp_le (tgt := 42) C dX7_nextBale_37 (by decide) (fun h37 => ?_) (fun h37 => ?_)
          · skip
            refine j_iincN C dX7_nextBale_42 rfl (by decide) rfl ?_
            refine j_goto (tgt := 4) C dX7_nextBale_45 (by decide) ?_
            first
              | (rw [show mNext N (k + 1) = _ from best_no h18] at ih; exact ih (by omega))
              | (rw [show mNext N (k + 1) = _ from best_none hm h18] at ih; exact ih (by omega))
              | (rw [show mNext N (k + 1) = _ from best_gt hm h18 h37] at ih; exact ih (by omega))
              | (rw [show mNext N (k + 1) = _ from best_le hm (i_nlt.mpr h37)] at ih; exact ih (by omega))
              | exact absurd h22 (nI_pos (by omega))
          · replace h37 := i_nle.mp h37
            refine j_iload_n C dX7_nextBale_40 rfl ?_
            refine j_istore_n C dX7_nextBale_41 (by decide) rfl ?_
            refine j_iincN C dX7_nextBale_42 rfl (by decide) rfl ?_
            refine j_goto (tgt := 4) C dX7_nextBale_45 (by decide) ?_
            first
              | (rw [show mNext N (k + 1) = _ from best_no h18] at ih; exact ih (by omega))
              | (rw [show mNext N (k + 1) = _ from best_none hm h18] at ih; exact ih (by omega))
              | (rw [show mNext N (k + 1) = _ from best_gt hm h18 h37] at ih; exact ih (by omega))
              | (rw [show mNext N (k + 1) = _ from best_le hm (i_nlt.mpr h37)] at ih; exact ih (by omega))
              | exact absurd h22 (nI_pos (by omega))

theorem cM_heaviest {l : Launch} {g : WGp} (hg : GOK g) {sh : WSh} {N : WNm} (M : MSh sh) {n : Nat} (hn : N 0 23 = nI n) (hn3 : n ≤ 300) (x : Int32) : CT l g yX7_heaviest cX7_heaviest 4 (some .int) (RM 2 0 0) [.ref (sh.2.2 0), .int x] sh N (QF g sh N (oI (mHeavy N x n))) := by
  refine ent hg (by decide +kernel) (Nat.le_of_ble_eq_true rfl) ?_
  intro p e s m args below meth c C hname
  refine j_iconst C dX7_heaviest_0 (v := (-1)) (by decide) ?_
  refine j_istore_n C dX7_heaviest_1 (by decide) rfl ?_
  refine j_iconst C dX7_heaviest_2 (v := 0) (by decide) ?_
  refine j_istore_n C dX7_heaviest_3 (by decide) rfl ?_
  refine up_ind (P := fun k => J p l e (RM 2 0 0) s m args below meth c (MQ below (QF g sh N (oI (mHeavy N x n))) args s 0 0 g.A) g _ sh N 0 0 4 [some (.ref (sh.2.2 0)), some (.int x), some (.int (oI (mHeavy N x k))), some (.int (nI k))] []) (n := n) ?_ 0 (Nat.zero_le _)
  intro k hk ih
  refine j_iload_n C dX7_heaviest_4 rfl ?_
  refine j_aload_n C dX7_heaviest_5 rfl ?_
  refine j_getI C fl_X7_143 dX7_heaviest_6 (M.c) rfl ?_
  refine j_icmp_ge (tgt := 48) C dX7_heaviest_9 (by decide) (fun h9 => ?_) (fun h9 => ?_)
  · skip
    rw [hn, n_nle (by omega) (by omega)] at h9
    obtain rfl : k = n := by omega
    refine j_iload_n C dX7_heaviest_48 rfl ?_
    exact j_iret C dX7_heaviest_49 rfl ⟨rfl, rfl, rfl⟩
  · replace h9 := i_nle.mp h9
    rw [hn, n_nlt (by omega) (by omega)] at h9
    refine j_aload_n C dX7_heaviest_12 rfl ?_
    refine j_iload_n C dX7_heaviest_13 rfl ?_
    refine j_iload_n C dX7_heaviest_14 rfl ?_
    refine j_callV2I C ml_X7_171 dX7_heaviest_15 (cM_isOn hg M (k := k) (by omega) x) ⟨by rw [M.c]; decide, by rw [M.c]; rfl⟩ ⟨Nat.le_of_ble_eq_true rfl, Nat.le_of_ble_eq_true rfl⟩ (Nat.le_of_ble_eq_true rfl) ⟨rfl, rfl⟩ ⟨Nat.zero_le _, Nat.zero_le _⟩ ?_
    refine j_if_eq (tgt := 42) C dX7_heaviest_18 (by decide) (fun h18 => ?_) (fun h18 => ?_)
    · replace h18 := b2_eq0.mp h18
      refine j_iincN C dX7_heaviest_42 rfl (by decide) rfl ?_
      refine j_goto (tgt := 4) C dX7_heaviest_45 (by decide) ?_
      first
        | (rw [show mHeavy N x (k + 1) = _ from best_no h18] at ih; exact ih (by omega))
        | (rw [show mHeavy N x (k + 1) = _ from best_none hm h18] at ih; exact ih (by omega))
        | (rw [show mHeavy N x (k + 1) = _ from best_gt hm h18 h37] at ih; exact ih (by omega))
        | (rw [show mHeavy N x (k + 1) = _ from best_le hm (i_nlt.mpr h37)] at ih; exact ih (by omega))
        | exact absurd h22 (nI_pos (by omega))
    · replace h18 := b2_ne0.mp h18
      rcases hm : mHeavy N x k with _ | j
      · skip
        refine j_iload_n C dX7_heaviest_21 rfl ?_
        refine j_if_lt (tgt := 40) C dX7_heaviest_22 (by decide) (fun h22 => ?_) (fun h22 => ?_)
        · skip
          refine j_iload_n C dX7_heaviest_40 rfl ?_
          refine j_istore_n C dX7_heaviest_41 (by decide) rfl ?_
          refine j_iincN C dX7_heaviest_42 rfl (by decide) rfl ?_
          refine j_goto (tgt := 4) C dX7_heaviest_45 (by decide) ?_
          first
            | (rw [show mHeavy N x (k + 1) = _ from best_no h18] at ih; exact ih (by omega))
            | (rw [show mHeavy N x (k + 1) = _ from best_none hm h18] at ih; exact ih (by omega))
            | (rw [show mHeavy N x (k + 1) = _ from best_gt hm h18 h37] at ih; exact ih (by omega))
            | (rw [show mHeavy N x (k + 1) = _ from best_le hm (i_nlt.mpr h37)] at ih; exact ih (by omega))
            | exact absurd h22 (nI_pos (by omega))
        · replace h22 := i_nlt.mp h22
          exact absurd h22 (by decide)
      · have hj := mHeavy_lt N x k j hm
        rw [show oI (some j) = nI j from rfl]
        refine j_iload_n C dX7_heaviest_21 rfl ?_
        refine j_if_lt (tgt := 40) C dX7_heaviest_22 (by decide) (fun h22 => ?_) (fun h22 => ?_)
        · skip
          refine j_iload_n C dX7_heaviest_40 rfl ?_
          refine j_istore_n C dX7_heaviest_41 (by decide) rfl ?_
          refine j_iincN C dX7_heaviest_42 rfl (by decide) rfl ?_
          refine j_goto (tgt := 4) C dX7_heaviest_45 (by decide) ?_
          first
            | (rw [show mHeavy N x (k + 1) = _ from best_no h18] at ih; exact ih (by omega))
            | (rw [show mHeavy N x (k + 1) = _ from best_none hm h18] at ih; exact ih (by omega))
            | (rw [show mHeavy N x (k + 1) = _ from best_gt hm h18 h37] at ih; exact ih (by omega))
            | (rw [show mHeavy N x (k + 1) = _ from best_le hm (i_nlt.mpr h37)] at ih; exact ih (by omega))
            | exact absurd h22 (nI_pos (by omega))
        · replace h22 := i_nlt.mp h22
          refine j_aload_n C dX7_heaviest_25 rfl ?_
          refine j_getR (j := 30) C fl_X7_77 dX7_heaviest_26 (M.c) rfl (M.r29) ?_
          refine j_iload_n C dX7_heaviest_29 rfl ?_
          refine j_ialdN C (M.t30) (⟨by omega, by decide⟩) dX7_heaviest_30 ?_
          refine j_aload_n C dX7_heaviest_31 rfl ?_
          refine j_getR (j := 30) C fl_X7_77 dX7_heaviest_32 (M.c) rfl (M.r29) ?_
          refine j_iload_n C dX7_heaviest_35 rfl ?_
          refine j_ialdN C (M.t30) (⟨by omega, by decide⟩) dX7_heaviest_36 ?_
          refine j_icmp_le (tgt := 42) C dX7_heaviest_37 (by decide) (fun h37 => ?_) (fun h37 => ?_)
          · skip
            refine j_iincN C dX7_heaviest_42 rfl (by decide) rfl ?_
            refine j_goto (tgt := 4) C dX7_heaviest_45 (by decide) ?_
            first
              | (rw [show mHeavy N x (k + 1) = _ from best_no h18] at ih; exact ih (by omega))
              | (rw [show mHeavy N x (k + 1) = _ from best_none hm h18] at ih; exact ih (by omega))
              | (rw [show mHeavy N x (k + 1) = _ from best_gt hm h18 h37] at ih; exact ih (by omega))
              | (rw [show mHeavy N x (k + 1) = _ from best_le hm (i_nlt.mpr h37)] at ih; exact ih (by omega))
              | exact absurd h22 (nI_pos (by omega))
          · replace h37 := i_nle.mp h37
            refine j_iload_n C dX7_heaviest_40 rfl ?_
            refine j_istore_n C dX7_heaviest_41 (by decide) rfl ?_
            refine j_iincN C dX7_heaviest_42 rfl (by decide) rfl ?_
            refine j_goto (tgt := 4) C dX7_heaviest_45 (by decide) ?_
            first
              | (rw [show mHeavy N x (k + 1) = _ from best_no h18] at ih; exact ih (by omega))
              | (rw [show mHeavy N x (k + 1) = _ from best_none hm h18] at ih; exact ih (by omega))
              | (rw [show mHeavy N x (k + 1) = _ from best_gt hm h18 h37] at ih; exact ih (by omega))
              | (rw [show mHeavy N x (k + 1) = _ from best_le hm (i_nlt.mpr h37)] at ih; exact ih (by omega))
              | exact absurd h22 (nI_pos (by omega))
