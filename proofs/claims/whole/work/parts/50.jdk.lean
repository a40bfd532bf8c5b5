/-! ===== THE JDK: small methods ===== -/

theorem entF {l : Launch} {g : WGp} {y : MethodName} {cc : ByteArray} {maxL : Nat} {ret : Option FieldType} {rm : Room} {av : List Value} {sh : WSh} {N : WNm} {Qc : Array Value → State → Outcome → State → Prop} (hg : GOK g) (hy : plainFor y = true) (hlen : (lvE0 av).length ≤ maxL)
    (body : ∀ (p : Program) (e : Env) (s : State) (m : MethodId) (args : Array Value) (below : List Frame) (meth : Method) (c : Code), Cx p s m args meth c g maxL y.cls cc ret → meth.name = y.name → J p l e rm s m args below meth c (MQ below Qc args s rm.cells rm.slots g.A) g maxL sh N 0 0 0 (lvE av maxL) []) : CT l g y cc maxL ret rm av sh N Qc := by
  refine va_MetF (cc := cc) (maxL := maxL) (ret := ret) hy rfl ?_
  intro p e s m args below meth c s₁ B hml hv
  obtain ⟨rfl, hP, hK⟩ := hv
  have hts := atoms_spec (ws := .code y cc maxL ret :: TBL) B.pre
  have hC : Cx p s m av.toArray meth c g maxL y.cls cc ret := ⟨B.exec, B.bytes, hml, findClass_of_methodNamed B.named, fun w hw => hts w (List.mem_cons_of_mem _ hw), hK, hg, B.returns, B.notSynchronized⟩
  have hl := lv_entry av (n := maxL) (by rw [← lvE0_len]; exact hlen)
  rw [lg_entry_eq]
  refine body p e s m av.toArray below meth c hC (name_of_methodNamed B.named B.method).1 s.heap [] _ hP va_S.rf ⟨hl.1, hl.2.1, fun k v hk => ?_⟩
  refine hl.2.2 (k, v) ?_
  have h2 : (lvE0 av)[k]? = some (some v) := by
    unfold lvE at hk
    by_cases hkl : k < (lvE0 av).length
    · rwa [List.getElem?_append_left hkl] at hk
    · rw [List.getElem?_append_right (by omega), List.getElem?_replicate] at hk
      split at hk
      · cases hk
      · cases hk
  have := lvE0_args av 0 k v h2
  rwa [Nat.zero_add] at this

theorem cJ_max {l : Launch} {g : WGp} (hg : GOK g) {sh : WSh} {N : WNm} (a b : Int32) : CT l g yJ9_max_7cf53 cJ9_max_7cf53 2 (some .int) (RM 1 0 0) [.int a, .int b] sh N (QF g sh N (if a < b then b else a)) := by
  refine entF hg (by decide +kernel) (Nat.le_of_ble_eq_true rfl) ?_
  intro p e s m args below meth c C hname
  refine j_iload_n C dJ9_max_7cf53_0 rfl ?_
  refine j_iload_n C dJ9_max_7cf53_1 rfl ?_
  refine j_icmp_lt (tgt := 9) C dJ9_max_7cf53_2 (by decide) (fun h2 => ?_) (fun h2 => ?_)
  · skip
    refine j_iload_n C dJ9_max_7cf53_9 rfl ?_
    refine j_iret C dJ9_max_7cf53_10 rfl ⟨rfl, rfl, ?_⟩ <;> rw [if_pos h2]
  · skip
    refine j_iload_n C dJ9_max_7cf53_5 rfl ?_
    refine j_goto (tgt := 10) C dJ9_max_7cf53_6 (by decide) ?_
    refine j_iret C dJ9_max_7cf53_10 rfl ⟨rfl, rfl, ?_⟩ <;> rw [if_neg h2]

theorem cJ_min {l : Launch} {g : WGp} (hg : GOK g) {sh : WSh} {N : WNm} (a b : Int32) : CT l g yJ9_min_7cf53 cJ9_min_7cf53 2 (some .int) (RM 1 0 0) [.int a, .int b] sh N (QF g sh N (if b < a then b else a)) := by
  refine entF hg (by decide +kernel) (Nat.le_of_ble_eq_true rfl) ?_
  intro p e s m args below meth c C hname
  refine j_iload_n C dJ9_min_7cf53_0 rfl ?_
  refine j_iload_n C dJ9_min_7cf53_1 rfl ?_
  refine j_icmp_gt (tgt := 9) C dJ9_min_7cf53_2 (by decide) (fun h2 => ?_) (fun h2 => ?_)
  · skip
    refine j_iload_n C dJ9_min_7cf53_9 rfl ?_
    refine j_iret C dJ9_min_7cf53_10 rfl ⟨rfl, rfl, ?_⟩ <;> rw [if_pos h2]
  · skip
    refine j_iload_n C dJ9_min_7cf53_5 rfl ?_
    refine j_goto (tgt := 10) C dJ9_min_7cf53_6 (by decide) ?_
    refine j_iret C dJ9_min_7cf53_10 rfl ⟨rfl, rfl, ?_⟩ <;> rw [if_neg h2]

theorem cJ_chk3 {l : Launch} {g : WGp} (hg : GOK g) {sh : WSh} {N : WNm} {k n : Nat} (hk : k < n) (hn : n < 2147483648)  : CT l g yJ3_checkIndex_8e157 cJ3_checkIndex_8e157 3 (some .int) (RM 1 0 0) [.int (nI k), .int (nI n), .null] sh N (QF g sh N (nI k)) := by
  refine ent hg (by decide +kernel) (Nat.le_of_ble_eq_true rfl) ?_
  intro p e s m args below meth c C hname
  refine j_iload_n C dJ3_checkIndex_8e157_0 rfl ?_
  refine j_if_lt (tgt := 9) C dJ3_checkIndex_8e157_1 (by decide) (fun h1 => ?_) (fun h1 => ?_)
  · skip
    exact absurd h1 (nI_pos (by omega))
  · skip
    refine j_iload_n C dJ3_checkIndex_8e157_4 rfl ?_
    refine j_iload_n C dJ3_checkIndex_8e157_5 rfl ?_
    refine j_icmp_lt (tgt := 16) C dJ3_checkIndex_8e157_6 (by decide) (fun h6 => ?_) (fun h6 => ?_)
    · skip
      refine j_iload_n C dJ3_checkIndex_8e157_16 rfl ?_
      exact j_iret C dJ3_checkIndex_8e157_17 rfl ⟨rfl, rfl, rfl⟩
    · skip
      exact absurd (nI_lt hk (by omega)) h6

theorem cJ_chk {l : Launch} {g : WGp} (hg : GOK g) {sh : WSh} {N : WNm} {k n : Nat} (hk : k < n) (hn : n < 2147483648) : CT l g yJ15_checkIndex_7cf53 cJ15_checkIndex_7cf53 2 (some .int) (RM 2 0 0) [.int (nI k), .int (nI n)] sh N (QF g sh N (nI k)) := by
  refine ent hg (by decide +kernel) (Nat.le_of_ble_eq_true rfl) ?_
  intro p e s m args below meth c C hname
  refine j_iload_n C dJ15_checkIndex_7cf53_0 rfl ?_
  refine j_iload_n C dJ15_checkIndex_7cf53_1 rfl ?_
  refine j_anull C dJ15_checkIndex_7cf53_2 ?_
  refine j_callS3I C ml_J15_105 dJ15_checkIndex_7cf53_3 (cJ_chk3 hg hk hn) ⟨Nat.le_of_ble_eq_true rfl, Nat.le_of_ble_eq_true rfl⟩ (Nat.le_of_ble_eq_true rfl) ⟨rfl, rfl⟩ ⟨Nat.zero_le _, Nat.zero_le _⟩ ?_
  exact j_iret C dJ15_checkIndex_7cf53_6 rfl ⟨rfl, rfl, rfl⟩

theorem cJ_size {l : Launch} {g : WGp} (hg : GOK g) {sh : WSh} {N : WNm} {L : Nat} (hL : (sh.1 L).1 = 8) : CT l g yJx4a65c_size_8abf5 cJx4a65c_size_8abf5 1 (some .int) (RM 1 0 0) [.ref (sh.2.2 L)] sh N (QF g sh N (N L 2)) := by
  refine ent hg (by decide +kernel) (Nat.le_of_ble_eq_true rfl) ?_
  intro p e s m args below meth c C hname
  refine j_aload_n C dJx4a65c_size_8abf5_0 rfl ?_
  refine j_getI C fl_Jx4a65c_48 dJx4a65c_size_8abf5_1 (hL) rfl ?_
  exact j_iret C dJx4a65c_size_8abf5_4 rfl ⟨rfl, rfl, rfl⟩

theorem cJ_elem {l : Launch} {g : WGp} (hg : GOK g) {sh : WSh} {N : WNm} {L E cap k x : Nat} (hL : (sh.1 L).1 = 8) (hE : sh.2.1 L 1 = some E) (hA : sh.1 E = (12, cap)) (hk : k < cap) (hc : cap < 2147483648) (hx : sh.2.1 E k = some x) : CT l g yJx4a65c_elementData_915e3 cJx4a65c_elementData_915e3 2 (some (.object "java/lang/Object")) (RM 1 0 0) [.ref (sh.2.2 L), .int (nI k)] sh N (QFr g sh N (some x)) := by
  refine ent hg (by decide +kernel) (Nat.le_of_ble_eq_true rfl) ?_
  intro p e s m args below meth c C hname
  refine j_aload_n C dJx4a65c_elementData_915e3_0 rfl ?_
  refine j_getR (j := E) C fl_Jx4a65c_9 dJx4a65c_elementData_915e3_1 hL rfl hE ?_
  refine j_iload_n C dJx4a65c_elementData_915e3_4 rfl ?_
  refine j_aald (j := x) C hA (vp_inN hk hc) (by rw [nI_clamp (by omega)]; exact hx) dJx4a65c_elementData_915e3_5 ?_
  exact j_aret (i := x) C dJx4a65c_elementData_915e3_6 (Or.inl ⟨_, rfl⟩) ⟨rfl, rfl, rfl⟩

theorem cJ_get {l : Launch} {g : WGp} (hg : GOK g) {sh : WSh} {N : WNm} {L E cap n k x : Nat} (hL : (sh.1 L).1 = 8) (hE : sh.2.1 L 1 = some E) (hA : sh.1 E = (12, cap)) (hn : N L 2 = nI n) (hk : k < n) (hnc : n ≤ cap) (hc : cap < 2147483648) (hx : sh.2.1 E k = some x) : CT l g yJx4a65c_get_915e3 cJx4a65c_get_915e3 2 (some (.object "java/lang/Object")) (RM 3 0 0) [.ref (sh.2.2 L), .int (nI k)] sh N (QFr g sh N (some x)) := by
  refine ent hg (by decide +kernel) (Nat.le_of_ble_eq_true rfl) ?_
  intro p e s m args below meth c C hname
  refine j_iload_n C dJx4a65c_get_915e3_0 rfl ?_
  refine j_aload_n C dJx4a65c_get_915e3_1 rfl ?_
  refine j_getI C fl_Jx4a65c_48 dJx4a65c_get_915e3_2 hL rfl ?_
  rw [hn]
  refine j_callS2I C ml_Jx4a65c_118 dJx4a65c_get_915e3_5 (cJ_chk hg hk (by omega)) ⟨Nat.le_of_ble_eq_true rfl, Nat.le_of_ble_eq_true rfl⟩ (Nat.le_of_ble_eq_true rfl) ⟨rfl, rfl⟩ ⟨Nat.zero_le _, Nat.zero_le _⟩ ?_
  refine j_pop C dJx4a65c_get_915e3_8 rfl ?_
  refine j_aload_n C dJx4a65c_get_915e3_9 rfl ?_
  refine j_iload_n C dJx4a65c_get_915e3_10 rfl ?_
  refine j_callV1RS (x := x) C ml_Jx4a65c_123 dJx4a65c_get_915e3_11 (cJ_elem hg hL hE hA (by omega) hc hx) ⟨by rw [hL]; decide, by rw [hL]; rfl⟩ ⟨Nat.le_of_ble_eq_true rfl, Nat.le_of_ble_eq_true rfl⟩ (Nat.le_of_ble_eq_true rfl) ⟨rfl, rfl⟩ ⟨Nat.zero_le _, Nat.zero_le _⟩ ?_
  exact j_aret (i := x) C dJx4a65c_get_915e3_14 (Or.inl ⟨_, rfl⟩) ⟨rfl, rfl, rfl⟩

/-- the first k places of the row i hold v -/
def rFill (N : WNm) (i : Nat) (v : Int32) (k : Nat) : WNm := fun a b => if a = i ∧ b < k then v else N a b
theorem rFill_0 (N : WNm) (i : Nat) (v : Int32) : rFill N i v 0 = N := by funext a b; simp [rFill]
theorem rFill_s (N : WNm) (i : Nat) (v : Int32) (k : Nat) : u2 (rFill N i v k) i k v = rFill N i v (k + 1) := by
  funext a b
  by_cases ha : a = i
  · subst ha
    by_cases hb : b = k
    · subst hb; simp [u2, rFill]
    · have : (b < k + 1) = (b < k) := by simp only [eq_iff_iff]; omega
      simp [u2, rFill, hb, this]
  · simp [u2, rFill, ha]

theorem cJ_fill {l : Launch} {g : WGp} (hg : GOK g) {sh : WSh} {N : WNm} {A n : Nat} (hA : sh.1 A = (9, n)) (hn : n < 2147483648) (v : Int32) : CT l g yJ7_fill_53178 cJ7_fill_53178 4 none (RM 1 0 0) [.ref (sh.2.2 A), .int v] sh N (QFv g sh (rFill N A v n)) := by
  refine ent hg (by decide +kernel) (Nat.le_of_ble_eq_true rfl) ?_
  intro p e s m args below meth c C hname
  refine j_iconst C dJ7_fill_53178_0 (v := 0) (by decide) ?_
  refine j_istore_n C dJ7_fill_53178_1 (by decide) rfl ?_
  refine j_aload_n C dJ7_fill_53178_2 rfl ?_
  refine j_alen C (hA) (by decide) dJ7_fill_53178_3 ?_
  refine j_istore_n C dJ7_fill_53178_4 (by decide) rfl ?_
  suffices key : ∀ k, k ≤ n → J p l e (RM 1 0 0) s m args below meth c (MQ below (QFv g sh (rFill N A v n)) args s 0 0 g.A) g 4 sh (rFill N A v k) 0 0 5 [some (.ref (sh.2.2 A)), some (.int v), some (.int (nI k)), some (.int (nI n))] [] from by have z := key 0 (Nat.zero_le _); rw [rFill_0] at z; exact z
  refine up_ind (n := n) ?_
  intro k hk ih
  refine j_iload_n C dJ7_fill_53178_5 rfl ?_
  refine j_iload_n C dJ7_fill_53178_6 rfl ?_
  refine j_icmp_ge (tgt := 20) C dJ7_fill_53178_7 (by decide) (fun h7 => ?_) (fun h7 => ?_)
  · skip
    rw [n_nle (by omega) (by omega)] at h7
    obtain rfl : k = n := by omega
    exact j_vret C dJ7_fill_53178_20 ⟨rfl, rfl⟩
  · skip
    rw [n_nle (by omega) (by omega)] at h7
    refine j_aload_n C dJ7_fill_53178_10 rfl ?_
    refine j_iload_n C dJ7_fill_53178_11 rfl ?_
    refine j_iload_n C dJ7_fill_53178_12 rfl ?_
    refine j_iastN C (hA) (⟨by omega, hn⟩) dJ7_fill_53178_13 ?_
    refine j_iincN C dJ7_fill_53178_14 rfl (by decide) rfl ?_
    refine j_goto (tgt := 5) C dJ7_fill_53178_17 (by decide) ?_
    rw [rFill_s]
    exact ih (by omega)

theorem cJ_newLength {l : Launch} {g : WGp} (hg : GOK g) {sh : WSh} {N : WNm} {n a b : Nat} (hn : n < 100000000) (ha : 0 < a ∧ a < 100000000) (hb : b < 100000000) : CT l g yJ8_newLength_cabcc cJ8_newLength_cabcc 4 (some .int) (RM 2 0 0) [.int (nI n), .int (nI a), .int (nI b)] sh N (QF g sh N (nI (n + (if a < b then b else a)))) := by
  refine ent hg (by decide +kernel) (Nat.le_of_ble_eq_true rfl) ?_
  intro p e s m args below meth c C hname
  have eM : (if nI a < nI b then nI b else nI a) = nI (if a < b then b else a) := by
    by_cases h : a < b
    · rw [if_pos h, if_pos (nI_lt h (by omega))]
    · rw [if_neg h, if_neg (nI_nlt (by omega) (by omega))]
  have hM : (if a < b then b else a) < 100000000 ∧ 0 < (if a < b then b else a) := by split <;> omega
  refine j_iload_n C dJ8_newLength_cabcc_0 rfl ?_
  refine j_iload_n C dJ8_newLength_cabcc_1 rfl ?_
  refine j_iload_n C dJ8_newLength_cabcc_2 rfl ?_
  refine j_callS2I C ml_J8_194 dJ8_newLength_cabcc_3 (cJ_max hg _ _) ⟨Nat.le_of_ble_eq_true rfl, Nat.le_of_ble_eq_true rfl⟩ (Nat.le_of_ble_eq_true rfl) ⟨rfl, rfl⟩ ⟨Nat.zero_le _, Nat.zero_le _⟩ ?_
  refine j_iadd C dJ8_newLength_cabcc_6 ?_
  refine j_istore_n C dJ8_newLength_cabcc_7 (by decide) rfl ?_
  refine j_iconst C dJ8_newLength_cabcc_8 (v := 0) (by decide) ?_
  refine j_iload_n C dJ8_newLength_cabcc_9 rfl ?_
  refine j_icmp_ge (tgt := 21) C dJ8_newLength_cabcc_10 (by decide) (fun h10 => ?_) (fun h10 => ?_)
  · skip
    first | (rw [eM, nI_add, show (0 : Int32) = nI 0 from rfl, n_nle (by omega) (by omega)] at h10; omega) | (rw [eM, nI_add, show (2147483639 : Int32) = nI 2147483639 from rfl, n_nlt (by omega) (by omega)] at h16; omega)
  · skip
    refine j_iload_n C dJ8_newLength_cabcc_13 rfl ?_
    refine j_ldc C kc_J8_200 dJ8_newLength_cabcc_14 ?_
    refine j_icmp_gt (tgt := 21) C dJ8_newLength_cabcc_16 (by decide) (fun h16 => ?_) (fun h16 => ?_)
    · skip
      first | (rw [eM, nI_add, show (0 : Int32) = nI 0 from rfl, n_nle (by omega) (by omega)] at h10; omega) | (rw [eM, nI_add, show (2147483639 : Int32) = nI 2147483639 from rfl, n_nlt (by omega) (by omega)] at h16; omega)
    · skip
      refine j_iload_n C dJ8_newLength_cabcc_19 rfl ?_
      exact j_iret C dJ8_newLength_cabcc_20 rfl ⟨rfl, rfl, by rw [eM, nI_add]⟩
