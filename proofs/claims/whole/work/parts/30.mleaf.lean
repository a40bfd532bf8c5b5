/-! ===== THE REFERENCE, method by method: leaves ===== -/
theorem i_nlt {a b : Int32} : ¬ a < b ↔ b ≤ a := by rw [Int32.lt_iff_toInt_lt, Int32.le_iff_toInt_le]; omega
theorem i_nle {a b : Int32} : ¬ a ≤ b ↔ b < a := by rw [Int32.lt_iff_toInt_lt, Int32.le_iff_toInt_le]; omega
theorem n_nle {a b : Nat} (ha : a < 2147483648) (hb : b < 2147483648) : nI a ≤ nI b ↔ a ≤ b := nI_leI (by omega) (by omega)
theorem n_nlt {a b : Nat} (ha : a < 2147483648) (hb : b < 2147483648) : nI a < nI b ↔ a < b := nI_ltI (by omega) (by omega)

theorem cM_in {l : Launch} {g : WGp} (hg : GOK g) {sh : WSh} {N : WNm} (v lo hi : Int32) : CT l g yX7_in cX7_in 3 (some .boolean) (RM 1 0 0) [.int v, .int lo, .int hi] sh N (QF g sh N (b2 (lo ≤ v ∧ v ≤ hi))) := by
  refine ent hg (by decide +kernel) (Nat.le_of_ble_eq_true rfl) ?_
  intro p e s m args below meth c C hname
  refine j_iload_n C dX7_in_0 rfl ?_
  refine j_iload_n C dX7_in_1 rfl ?_
  refine j_icmp_lt (tgt := 14) C dX7_in_2 (by decide) (fun h2 => ?_) (fun h2 => ?_)
  · skip
    refine j_iconst C dX7_in_14 (v := 0) (by decide) ?_
    refine j_iret C dX7_in_15 rfl ⟨rfl, rfl, ?_⟩
    first | exact (b2_t ⟨i_nlt.mp ‹_›, i_nlt.mp ‹_›⟩).symm | (refine (b2_f ?_).symm; intro z; first | exact absurd (i_nlt.mpr z.1) (by simpa using ‹_›) | exact absurd (i_nlt.mpr z.2) (by simpa using ‹_›))
  · skip
    refine j_iload_n C dX7_in_5 rfl ?_
    refine j_iload_n C dX7_in_6 rfl ?_
    refine j_icmp_gt (tgt := 14) C dX7_in_7 (by decide) (fun h7 => ?_) (fun h7 => ?_)
    · skip
      refine j_iconst C dX7_in_14 (v := 0) (by decide) ?_
      refine j_iret C dX7_in_15 rfl ⟨rfl, rfl, ?_⟩
      first | exact (b2_t ⟨i_nlt.mp ‹_›, i_nlt.mp ‹_›⟩).symm | (refine (b2_f ?_).symm; intro z; first | exact absurd (i_nlt.mpr z.1) (by simpa using ‹_›) | exact absurd (i_nlt.mpr z.2) (by simpa using ‹_›))
    · skip
      refine j_iconst C dX7_in_10 (v := 1) (by decide) ?_
      refine j_goto (tgt := 15) C dX7_in_11 (by decide) ?_
      refine j_iret C dX7_in_15 rfl ⟨rfl, rfl, ?_⟩
      first | exact (b2_t ⟨i_nlt.mp ‹_›, i_nlt.mp ‹_›⟩).symm | (refine (b2_f ?_).symm; intro z; first | exact absurd (i_nlt.mpr z.1) (by simpa using ‹_›) | exact absurd (i_nlt.mpr z.2) (by simpa using ‹_›))

theorem cM_isPerson {l : Launch} {g : WGp} (hg : GOK g) {sh : WSh} {N : WNm} (v : Int32) : CT l g yX7_isPerson cX7_isPerson 1 (some .boolean) (RM 2 0 0) [.int v] sh N (QF g sh N (b2 (0 ≤ v ∧ v ≤ 9))) := by
  refine ent hg (by decide +kernel) (Nat.le_of_ble_eq_true rfl) ?_
  intro p e s m args below meth c C hname
  refine j_iload_n C dX7_isPerson_0 rfl ?_
  refine j_iconst C dX7_isPerson_1 (v := 0) (by decide) ?_
  refine j_bipush C dX7_isPerson_2 (v := 9) (by decide) ?_
  refine j_callS3I C ml_X7_133 dX7_isPerson_4 (cM_in hg _ _ _) ⟨Nat.le_of_ble_eq_true rfl, Nat.le_of_ble_eq_true rfl⟩ (Nat.le_of_ble_eq_true rfl) ⟨rfl, rfl⟩ ⟨Nat.zero_le _, Nat.zero_le _⟩ ?_
  exact j_iret C dX7_isPerson_7 (b2_nar _) ⟨rfl, rfl, rfl⟩

theorem cM_isPort {l : Launch} {g : WGp} (hg : GOK g) {sh : WSh} {N : WNm} (M : MSh sh) (v : Int32) : CT l g yX7_isPort cX7_isPort 2 (some .boolean) (RM 2 0 0) [.ref (sh.2.2 0), .int v] sh N (QF g sh N (b2 (0 ≤ v ∧ v ≤ N 0 5 - 1))) := by
  refine ent hg (by decide +kernel) (Nat.le_of_ble_eq_true rfl) ?_
  intro p e s m args below meth c C hname
  refine j_iload_n C dX7_isPort_0 rfl ?_
  refine j_iconst C dX7_isPort_1 (v := 0) (by decide) ?_
  refine j_aload_n C dX7_isPort_2 rfl ?_
  refine j_getI C fl_X7_137 dX7_isPort_3 (M.c) rfl ?_
  refine j_iconst C dX7_isPort_6 (v := 1) (by decide) ?_
  refine j_isub C dX7_isPort_7 ?_
  refine j_callS3I C ml_X7_133 dX7_isPort_8 (cM_in hg _ _ _) ⟨Nat.le_of_ble_eq_true rfl, Nat.le_of_ble_eq_true rfl⟩ (Nat.le_of_ble_eq_true rfl) ⟨rfl, rfl⟩ ⟨Nat.zero_le _, Nat.zero_le _⟩ ?_
  exact j_iret C dX7_isPort_11 (b2_nar _) ⟨rfl, rfl, rfl⟩

theorem cM_isGalley {l : Launch} {g : WGp} (hg : GOK g) {sh : WSh} {N : WNm} (M : MSh sh) (v : Int32) : CT l g yX7_isGalley cX7_isGalley 2 (some .boolean) (RM 2 0 0) [.ref (sh.2.2 0), .int v] sh N (QF g sh N (b2 (0 ≤ v ∧ v ≤ N 0 9 - 1))) := by
  refine ent hg (by decide +kernel) (Nat.le_of_ble_eq_true rfl) ?_
  intro p e s m args below meth c C hname
  refine j_iload_n C dX7_isGalley_0 rfl ?_
  refine j_iconst C dX7_isGalley_1 (v := 0) (by decide) ?_
  refine j_aload_n C dX7_isGalley_2 rfl ?_
  refine j_getI C fl_X7_140 dX7_isGalley_3 (M.c) rfl ?_
  refine j_iconst C dX7_isGalley_6 (v := 1) (by decide) ?_
  refine j_isub C dX7_isGalley_7 ?_
  refine j_callS3I C ml_X7_133 dX7_isGalley_8 (cM_in hg _ _ _) ⟨Nat.le_of_ble_eq_true rfl, Nat.le_of_ble_eq_true rfl⟩ (Nat.le_of_ble_eq_true rfl) ⟨rfl, rfl⟩ ⟨Nat.zero_le _, Nat.zero_le _⟩ ?_
  exact j_iret C dX7_isGalley_11 (b2_nar _) ⟨rfl, rfl, rfl⟩

theorem cM_isBale {l : Launch} {g : WGp} (hg : GOK g) {sh : WSh} {N : WNm} (M : MSh sh) (v : Int32) : CT l g yX7_isBale cX7_isBale 2 (some .boolean) (RM 2 0 0) [.ref (sh.2.2 0), .int v] sh N (QF g sh N (b2 (0 ≤ v ∧ v ≤ N 0 23 - 1))) := by
  refine ent hg (by decide +kernel) (Nat.le_of_ble_eq_true rfl) ?_
  intro p e s m args below meth c C hname
  refine j_iload_n C dX7_isBale_0 rfl ?_
  refine j_iconst C dX7_isBale_1 (v := 0) (by decide) ?_
  refine j_aload_n C dX7_isBale_2 rfl ?_
  refine j_getI C fl_X7_143 dX7_isBale_3 (M.c) rfl ?_
  refine j_iconst C dX7_isBale_6 (v := 1) (by decide) ?_
  refine j_isub C dX7_isBale_7 ?_
  refine j_callS3I C ml_X7_133 dX7_isBale_8 (cM_in hg _ _ _) ⟨Nat.le_of_ble_eq_true rfl, Nat.le_of_ble_eq_true rfl⟩ (Nat.le_of_ble_eq_true rfl) ⟨rfl, rfl⟩ ⟨Nat.zero_le _, Nat.zero_le _⟩ ?_
  exact j_iret C dX7_isBale_11 (b2_nar _) ⟨rfl, rfl, rfl⟩

def mOn (N : WNm) (k : Nat) (x : Int32) : Int32 := if N 34 k = 1 ∧ N 35 k = x then 1 else 0
theorem mOn_nar (N : WNm) (k : Nat) (x : Int32) : narrow .boolean (.int (mOn N k x)) = .int (mOn N k x) := b2_nar (N 34 k = 1 ∧ N 35 k = x)
theorem mOn_eq0 {N : WNm} {k : Nat} {x : Int32} : mOn N k x = 0 ↔ ¬ (N 34 k = 1 ∧ N 35 k = x) := b2_eq0

theorem cM_isOn {l : Launch} {g : WGp} (hg : GOK g) {sh : WSh} {N : WNm} (M : MSh sh) {k : Nat} (hk : k < 300) (x : Int32) : CT l g yX7_isOn cX7_isOn 3 (some .boolean) (RM 1 0 0) [.ref (sh.2.2 0), .int (nI k), .int x] sh N (QF g sh N (mOn N k x)) := by
  refine ent hg (by decide +kernel) (Nat.le_of_ble_eq_true rfl) ?_
  intro p e s m args below meth c C hname
  refine j_aload_n C dX7_isOn_0 rfl ?_
  refine j_getR (j := 34) C fl_X7_89 dX7_isOn_1 (M.c) rfl (M.r33) ?_
  refine j_iload_n C dX7_isOn_4 rfl ?_
  refine j_ialdN C (M.t34) (⟨hk, by decide⟩) dX7_isOn_5 ?_
  refine j_iconst C dX7_isOn_6 (v := 1) (by decide) ?_
  refine j_icmp_ne (tgt := 24) C dX7_isOn_7 (by decide) (fun h7 => ?_) (fun h7 => ?_)
  · skip
    refine j_iconst C dX7_isOn_24 (v := 0) (by decide) ?_
    refine j_iret C dX7_isOn_25 rfl ⟨rfl, rfl, ?_⟩
    simp_all [mOn]
  · skip
    refine j_aload_n C dX7_isOn_10 rfl ?_
    refine j_getR (j := 35) C fl_X7_92 dX7_isOn_11 (M.c) rfl (M.r34) ?_
    refine j_iload_n C dX7_isOn_14 rfl ?_
    refine j_ialdN C (M.t35) (⟨hk, by decide⟩) dX7_isOn_15 ?_
    refine j_iload_n C dX7_isOn_16 rfl ?_
    refine j_icmp_ne (tgt := 24) C dX7_isOn_17 (by decide) (fun h17 => ?_) (fun h17 => ?_)
    · skip
      refine j_iconst C dX7_isOn_24 (v := 0) (by decide) ?_
      refine j_iret C dX7_isOn_25 rfl ⟨rfl, rfl, ?_⟩
      simp_all [mOn]
    · skip
      refine j_iconst C dX7_isOn_20 (v := 1) (by decide) ?_
      refine j_goto (tgt := 25) C dX7_isOn_21 (by decide) ?_
      refine j_iret C dX7_isOn_25 rfl ⟨rfl, rfl, ?_⟩
      simp_all [mOn]

def mRoomOn (N : WNm) (x : Int32) (n : Nat) : Int32 := iSum (fun b => if mOn N b x = 0 then 0 else N 29 b) n

theorem cM_roomOn {l : Launch} {g : WGp} (hg : GOK g) {sh : WSh} {N : WNm} (M : MSh sh) {n : Nat} (hn : N 0 23 = nI n) (hn3 : n ≤ 300) (x : Int32) : CT l g yX7_roomOn cX7_roomOn 4 (some .int) (RM 2 0 0) [.ref (sh.2.2 0), .int x] sh N (QF g sh N (mRoomOn N x n)) := by
  refine ent hg (by decide +kernel) (Nat.le_of_ble_eq_true rfl) ?_
  intro p e s m args below meth c C hname
  refine j_iconst C dX7_roomOn_0 (v := 0) (by decide) ?_
  refine j_istore_n C dX7_roomOn_1 (by decide) rfl ?_
  refine j_iconst C dX7_roomOn_2 (v := 0) (by decide) ?_
  refine j_istore_n C dX7_roomOn_3 (by decide) rfl ?_
  refine up_ind (P := fun k => J p l e (RM 2 0 0) s m args below meth c _ g _ sh N 0 0 4 [some (.ref (sh.2.2 0)), some (.int x), some (.int (mRoomOn N x k)), some (.int (nI k))] []) (n := n) ?_ 0 (Nat.zero_le _)
  intro k hk ih
  refine j_iload_n C dX7_roomOn_4 rfl ?_
  refine j_aload_n C dX7_roomOn_5 rfl ?_
  refine j_getI C fl_X7_143 dX7_roomOn_6 (M.c) rfl ?_
  refine j_icmp_ge (tgt := 40) C dX7_roomOn_9 (by decide) (fun h9 => ?_) (fun h9 => ?_)
  · skip
    rw [hn, n_nle (by omega) (by omega)] at h9
    obtain rfl : k = n := by omega
    refine j_iload_n C dX7_roomOn_40 rfl ?_
    exact j_iret C dX7_roomOn_41 rfl ⟨rfl, rfl, rfl⟩
  · skip
    rw [hn, n_nle (by omega) (by omega)] at h9
    refine j_iload_n C dX7_roomOn_12 rfl ?_
    refine j_aload_n C dX7_roomOn_13 rfl ?_
    refine j_iload_n C dX7_roomOn_14 rfl ?_
    refine j_iload_n C dX7_roomOn_15 rfl ?_
    refine j_callV2I C ml_X7_171 dX7_roomOn_16 (cM_isOn hg M (k := k) (by omega) x) ⟨by rw [M.c]; decide, by rw [M.c]; rfl⟩ ⟨Nat.le_of_ble_eq_true rfl, Nat.le_of_ble_eq_true rfl⟩ (Nat.le_of_ble_eq_true rfl) ⟨rfl, rfl⟩ ⟨Nat.zero_le _, Nat.zero_le _⟩ ?_
    refine j_if_eq (tgt := 31) C dX7_roomOn_19 (by decide) (fun h19 => ?_) (fun h19 => ?_)
    · skip
      refine j_iconst C dX7_roomOn_31 (v := 0) (by decide) ?_
      refine j_iadd C dX7_roomOn_32 ?_
      refine j_istore_n C dX7_roomOn_33 (by decide) rfl ?_
      refine j_iincN C dX7_roomOn_34 rfl (by decide) rfl ?_
      refine j_goto (tgt := 4) C dX7_roomOn_37 (by decide) ?_
      rw [show mRoomOn N x k + _ = mRoomOn N x (k + 1) by simp [mRoomOn, iSum, *]]
      exact ih (by omega)
    · skip
      refine j_aload_n C dX7_roomOn_22 rfl ?_
      refine j_getR (j := 29) C fl_X7_74 dX7_roomOn_23 (M.c) rfl (M.r28) ?_
      refine j_iload_n C dX7_roomOn_26 rfl ?_
      refine j_ialdN C (M.t29) (⟨by omega, by decide⟩) dX7_roomOn_27 ?_
      refine j_goto (tgt := 32) C dX7_roomOn_28 (by decide) ?_
      refine j_iadd C dX7_roomOn_32 ?_
      refine j_istore_n C dX7_roomOn_33 (by decide) rfl ?_
      refine j_iincN C dX7_roomOn_34 rfl (by decide) rfl ?_
      refine j_goto (tgt := 4) C dX7_roomOn_37 (by decide) ?_
      rw [show mRoomOn N x k + _ = mRoomOn N x (k + 1) by simp [mRoomOn, iSum, *]]
      exact ih (by omega)
