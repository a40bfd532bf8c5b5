/-! ===== THE CLASS: what votes say ===== -/
theorem st13 : ∀ k, k < 13 → ¬ nI (100 + k) = 1 ∧ 100 ≤ nI (100 + k) ∧ ¬ 99 - nI (100 + k) < -13 ∧ 99 - nI (100 + k) < 0 ∧ tn (-1 - (99 - nI (100 + k))) = k ∧ ¬ nI (100 + k) < 100 := by decide
/-- one step is the same on both sides -/
theorem step_eq {nm : Nat → Int32} {val : Int32 → Int32} {w n : Int32} {st : List Int32} (hv : ∀ q, q < 13 → nm q = val (nI (100 + q))) (hg : stG w n) (hs : stepOk w st.length) : xStep nm (stM w n) st = mStepOn w n val st := by
  rcases hg with ⟨rfl, hn⟩ | ⟨k, hk, rfl⟩ | hw
  · unfold stepOk at hs
    rw [if_pos rfl] at hs
    have h1 : ¬ n < -13 := fun z => absurd (Int32.lt_of_le_of_lt hn z) (by decide)
    have h2 : ¬ n < 0 := fun z => Int32.lt_irrefl (Int32.lt_of_le_of_lt hn z)
    have e : stM 1 n = n := if_pos rfl
    rw [e]
    unfold mStepOn xStep
    rw [if_pos rfl, if_neg h1, if_neg (by omega), if_neg h2]
  · obtain ⟨a1, a2, a3, a4, a5, a6⟩ := st13 k hk
    unfold stepOk at hs
    rw [if_neg a1, if_neg a6] at hs
    have e : stM (nI (100 + k)) n = 99 - nI (100 + k) := by unfold stM; rw [if_neg a1, if_pos a2]
    rw [e]
    unfold mStepOn xStep
    rw [if_neg a1, if_neg a6, if_neg a3, if_neg (by omega), if_pos a4, a5, hv k hk]
  · simp only [List.mem_cons, List.not_mem_nil, or_false] at hw
    rcases hw with rfl | rfl | rfl | rfl | rfl | rfl | rfl | rfl | rfl | rfl

    · have hl : 2 ≤ st.length := hs
      rcases st with _ | ⟨b, _ | ⟨a, r⟩⟩
      · exact absurd hl (by simp)
      · exact absurd hl (by simp)
      · rfl
    · have hl : 2 ≤ st.length := hs
      rcases st with _ | ⟨b, _ | ⟨a, r⟩⟩
      · exact absurd hl (by simp)
      · exact absurd hl (by simp)
      · rfl
    · have hl : 1 ≤ st.length := hs
      rcases st with _ | ⟨a, r⟩
      · exact absurd hl (by simp)
      · rfl
    · have hl : 1 ≤ st.length := hs
      rcases st with _ | ⟨a, r⟩
      · exact absurd hl (by simp)
      · rfl
    · have hl : 2 ≤ st.length := hs
      rcases st with _ | ⟨b, _ | ⟨a, r⟩⟩
      · exact absurd hl (by simp)
      · exact absurd hl (by simp)
      · rfl
    · have hl : 2 ≤ st.length := hs
      rcases st with _ | ⟨b, _ | ⟨a, r⟩⟩
      · exact absurd hl (by simp)
      · exact absurd hl (by simp)
      · rfl
    · have hl : 2 ≤ st.length := hs
      rcases st with _ | ⟨b, _ | ⟨a, r⟩⟩
      · exact absurd hl (by simp)
      · exact absurd hl (by simp)
      · rfl
    · have hl : 2 ≤ st.length := hs
      rcases st with _ | ⟨b, _ | ⟨a, r⟩⟩
      · exact absurd hl (by simp)
      · exact absurd hl (by simp)
      · rfl
    · have hl : 2 ≤ st.length := hs
      rcases st with _ | ⟨b, _ | ⟨a, r⟩⟩
      · exact absurd hl (by simp)
      · exact absurd hl (by simp)
      · rfl
    · have hl : 2 ≤ st.length := hs
      rcases st with _ | ⟨b, _ | ⟨a, r⟩⟩
      · exact absurd hl (by simp)
      · exact absurd hl (by simp)
      · rfl
theorem ev_eq {T : WNm} {nm sp : Nat → Int32} {val : Int32 → Int32} {s0 n : Nat} (hv : ∀ q, q < 13 → nm q = val (nI (100 + q))) (hg : ∀ j, j < n → stG (T 43 (s0 + j)) (T 44 (s0 + j)) ∧ sp j = stM (T 43 (s0 + j)) (T 44 (s0 + j))) (hs : ∀ j, j < n → stepOk (T 43 (s0 + j)) (mEv T s0 val j).length) : ∀ j, j ≤ n → xEv nm sp j = mEv T s0 val j
  | 0, _ => rfl
  | j + 1, hj => by rw [xEv, mEv, ev_eq hv hg hs j (by omega), (hg j (by omega)).2, step_eq hv (hg j (by omega)).1 (hs j (by omega))]
/-- what a vote gives, by what the names stand for -/
def sv (T : WNm) (k kv : Int32) (val : Int32 → Int32) : Int32 := if 0 ≤ kv then (mEv T (tn (T 42 (tn kv))) val (tn (T 42 (tn kv + 1)) - tn (T 42 (tn kv)))).headD 0 else (if k = 2 then 0 else 1)
theorem mSays_sv (T : WNm) (k x b : Int32) : mSays T k x b = sv T k (mKnown T k (tn (T 16 (tn x))) (tn (T 0 38))) (fun w => mValue T w k x b) := rfl
/-- the teller's names -/
def NMQ (N T : WNm) (k x b : Int32) : Prop := ∀ q, q < 13 → N 114 q = mValue T (nI (100 + q)) k x b
theorem q13 {q : Nat} (h : q < 13) : q = 0 ∨ q = 1 ∨ q = 2 ∨ q = 3 ∨ q = 4 ∨ q = 5 ∨ q = 6 ∨ q = 7 ∨ q = 8 ∨ q = 9 ∨ q = 10 ∨ q = 11 ∨ q = 12 := by omega

theorem mV0 (T : WNm) (k x b : Int32) : mValue T (nI (100 + 0)) k x b = T 16 (tn x) := by
  unfold mValue
  rw [if_pos (by decide)]

theorem mV1 (T : WNm) (k x b : Int32) : mValue T (nI (100 + 1)) k x b = T 0 1 := by
  unfold mValue
  rw [if_neg (by decide), if_pos (by decide)]

theorem mV2 (T : WNm) (k x b : Int32) : mValue T (nI (100 + 2)) k x b = (if k = 2 then b else x) := by
  unfold mValue
  rw [if_neg (by decide), if_neg (by decide), if_pos (by decide)]

theorem mV3 (T : WNm) (k x b : Int32) : mValue T (nI (100 + 3)) k x b = mInPort T (T 16 (tn x)) (tn (T 0 9)) := by
  unfold mValue
  rw [if_neg (by decide), if_neg (by decide), if_neg (by decide), if_pos (by decide)]

theorem mV4 (T : WNm) (k x b : Int32) : mValue T (nI (100 + 4)) k x b = (if k = 2 then T 0 1 - T 17 (tn x) else 0) := by
  unfold mValue
  rw [if_neg (by decide), if_neg (by decide), if_neg (by decide), if_neg (by decide), if_pos (by decide)]

theorem mV5 (T : WNm) (k x b : Int32) : mValue T (nI (100 + 5)) k x b = T 0 1 - T 17 (tn x) := by
  unfold mValue
  rw [if_neg (by decide), if_neg (by decide), if_neg (by decide), if_neg (by decide), if_neg (by decide), if_pos (by decide)]

theorem mV6 (T : WNm) (k x b : Int32) : mValue T (nI (100 + 6)) k x b = mWeightOn T x False (tn (T 0 23)) := by
  unfold mValue
  rw [if_neg (by decide), if_neg (by decide), if_neg (by decide), if_neg (by decide), if_neg (by decide), if_neg (by decide), if_pos (by decide)]

theorem mV7 (T : WNm) (k x b : Int32) : mValue T (nI (100 + 7)) k x b = (if k = 1 then T 28 (tn b) else 0) := by
  unfold mValue
  rw [if_neg (by decide), if_neg (by decide), if_neg (by decide), if_neg (by decide), if_neg (by decide), if_neg (by decide), if_neg (by decide)]
  have e : mOfBale T (nI (100 + 7)) b = T 28 (tn b) := by
    unfold mOfBale
    rw [if_pos (by decide)]
  rw [e]

theorem mV8 (T : WNm) (k x b : Int32) : mValue T (nI (100 + 8)) k x b = (if k = 1 then T 29 (tn b) else 0) := by
  unfold mValue
  rw [if_neg (by decide), if_neg (by decide), if_neg (by decide), if_neg (by decide), if_neg (by decide), if_neg (by decide), if_neg (by decide)]
  have e : mOfBale T (nI (100 + 8)) b = T 29 (tn b) := by
    unfold mOfBale
    rw [if_neg (by decide), if_pos (by decide)]
  rw [e]

theorem mV9 (T : WNm) (k x b : Int32) : mValue T (nI (100 + 9)) k x b = (if k = 1 then T 30 (tn b) else 0) := by
  unfold mValue
  rw [if_neg (by decide), if_neg (by decide), if_neg (by decide), if_neg (by decide), if_neg (by decide), if_neg (by decide), if_neg (by decide)]
  have e : mOfBale T (nI (100 + 9)) b = T 30 (tn b) := by
    unfold mOfBale
    rw [if_neg (by decide), if_neg (by decide), if_pos (by decide)]
  rw [e]

theorem mV10 (T : WNm) (k x b : Int32) : mValue T (nI (100 + 10)) k x b = (if k = 1 then T 31 (tn b) else 0) := by
  unfold mValue
  rw [if_neg (by decide), if_neg (by decide), if_neg (by decide), if_neg (by decide), if_neg (by decide), if_neg (by decide), if_neg (by decide)]
  have e : mOfBale T (nI (100 + 10)) b = T 31 (tn b) := by
    unfold mOfBale
    rw [if_neg (by decide), if_neg (by decide), if_neg (by decide), if_pos (by decide)]
  rw [e]

theorem mV11 (T : WNm) (k x b : Int32) : mValue T (nI (100 + 11)) k x b = (if k = 1 then T 32 (tn b) else 0) := by
  unfold mValue
  rw [if_neg (by decide), if_neg (by decide), if_neg (by decide), if_neg (by decide), if_neg (by decide), if_neg (by decide), if_neg (by decide)]
  have e : mOfBale T (nI (100 + 11)) b = T 32 (tn b) := by
    unfold mOfBale
    rw [if_neg (by decide), if_neg (by decide), if_neg (by decide), if_neg (by decide), if_pos (by decide)]
  rw [e]

theorem mV12 (T : WNm) (k x b : Int32) : mValue T (nI (100 + 12)) k x b = (if k = 1 then T 0 1 - T 33 (tn b) else 0) := by
  unfold mValue
  rw [if_neg (by decide), if_neg (by decide), if_neg (by decide), if_neg (by decide), if_neg (by decide), if_neg (by decide), if_neg (by decide)]
  have e : mOfBale T (nI (100 + 12)) b = T 0 1 - T 33 (tn b) := by
    unfold mOfBale
    rw [if_neg (by decide), if_neg (by decide), if_neg (by decide), if_neg (by decide), if_neg (by decide)]
  rw [e]

theorem NMQ.look {N T : WNm} {nG nB nV nT a : Nat} {ln : Nat → Nat} (h : XN N T nG nB nV nT ln) (ha : a < nG) (hG : nG ≤ 8) (hg9 : T 0 9 = nI nG) (hb : T 0 23 = nI nB) (hB : nB ≤ 300) (z : Int32) : NMQ (xLookG N 114 (1000 + a) (T 0 1) (mInPort T (T 16 a) nG)) T 0 (nI a) z := by
  intro q hq
  have ea : tn (nI a) = a := nI_clamp (by omega)
  have eG : tn (nI nG) = nG := nI_clamp (by omega)
  have eB : tn (nI nB) = nB := nI_clamp (by omega)
  have g10 := h.g ha (f := 10) (r := 16) (by decide)
  have g11 := h.g ha (f := 11) (r := 17) (by decide)
  have g0 := (h.2.2.1 a ha).1
  have g15 := (h.2.2.2.2.1 a ha).2.2.1
  unfold xLookG
  rcases q13 hq with e | e | e | e | e | e | e | e | e | e | e | e | e <;> subst e
  · rw [mV0, ea]; simp [u2, g10]
  · rw [mV1]; simp [u2]
  · rw [mV2]; simp [u2, g0]
  · rw [mV3, ea, hg9, eG]; simp [u2]
  · rw [mV4]; simp [u2, rFill]
  · rw [mV5, ea]; simp [u2, g11]
  · rw [mV6, hb, eB]; simp [u2, g15]
  · rw [mV7]; simp [u2, rFill]
  · rw [mV8]; simp [u2, rFill]
  · rw [mV9]; simp [u2, rFill]
  · rw [mV10]; simp [u2, rFill]
  · rw [mV11]; simp [u2, rFill]
  · rw [mV12]; simp [u2, rFill]

theorem NMQ.bale {N T : WNm} {nG nB nV nT b : Nat} {ln : Nat → Nat} {k x z : Int32} (h : XN N T nG nB nV nT ln) (hb : b < nB) (hB : nB ≤ 300) (hn : NMQ N T k x z) (hk : ¬ k = 2) : NMQ (xLookB N 114 (2000 + b) (T 0 1)) T 1 x (nI b) := by
  intro q hq
  have eb : tn (nI b) = b := nI_clamp (by omega)
  have f3 := h.b hb (f := 3) (by decide)
  have f4 := h.b hb (f := 4) (by decide)
  have f5 := h.b hb (f := 5) (by decide)
  have f6 := h.b hb (f := 6) (by decide)
  have f7 := h.b hb (f := 7) (by decide)
  have f8 := h.b hb (f := 8) (by decide)
  have hq0 := hn q hq
  unfold xLookB
  rcases q13 hq with e | e | e | e | e | e | e | e | e | e | e | e | e <;> subst e
  · rw [mV0] at hq0 ⊢; simp [u2, hq0]
  · rw [mV1] at hq0 ⊢; simp [u2, hq0]
  · rw [mV2, if_neg hk] at hq0; rw [mV2]; simp [u2, hq0]
  · rw [mV3] at hq0 ⊢; simp [u2, hq0]
  · rw [mV4, if_neg hk] at hq0; rw [mV4]; simp [u2, hq0]
  · rw [mV5] at hq0 ⊢; simp [u2, hq0]
  · rw [mV6] at hq0 ⊢; simp [u2, hq0]
  · rw [mV7, if_pos rfl, eb]; simp [u2, f3]
  · rw [mV8, if_pos rfl, eb]; simp [u2, f4]
  · rw [mV9, if_pos rfl, eb]; simp [u2, f5]
  · rw [mV10, if_pos rfl, eb]; simp [u2, f6]
  · rw [mV11, if_pos rfl, eb]; simp [u2, f7]
  · rw [mV12, if_pos rfl, eb]; simp [u2, f8]

theorem NMQ.other {N T : WNm} {nG nB nV nT a : Nat} {ln : Nat → Nat} {k x z : Int32} (h : XN N T nG nB nV nT ln) (ha : a < nG) (hn : NMQ N T k x z) (hk : ¬ k = 1) : NMQ (xLookO N 114 (1000 + a)) T 2 x (nI a) := by
  intro q hq
  have g0 := (h.2.2.1 a ha).1
  have h5 := hn 5 (by decide)
  rw [mV5] at h5
  have hq0 := hn q hq
  unfold xLookO
  rcases q13 hq with e | e | e | e | e | e | e | e | e | e | e | e | e <;> subst e
  · rw [mV0] at hq0 ⊢; simp [u2, hq0]
  · rw [mV1] at hq0 ⊢; simp [u2, hq0]
  · rw [mV2, if_pos rfl]; simp [u2, g0]
  · rw [mV3] at hq0 ⊢; simp [u2, hq0]
  · rw [mV4, if_pos rfl]; simp [u2, h5]
  · rw [mV5] at hq0 ⊢; simp [u2, hq0]
  · rw [mV6] at hq0 ⊢; simp [u2, hq0]
  · rw [mV7, if_neg hk] at hq0; rw [mV7]; simp [u2, hq0]
  · rw [mV8, if_neg hk] at hq0; rw [mV8]; simp [u2, hq0]
  · rw [mV9, if_neg hk] at hq0; rw [mV9]; simp [u2, hq0]
  · rw [mV10, if_neg hk] at hq0; rw [mV10]; simp [u2, hq0]
  · rw [mV11, if_neg hk] at hq0; rw [mV11]; simp [u2, hq0]
  · rw [mV12, if_neg hk] at hq0; rw [mV12]; simp [u2, hq0]

/-- only the teller's rows change -/
theorem tell_rows {N N1 : WNm} (h : ∀ i, ¬ i = 114 → ¬ i = 115 → N1 i = N i) : FRN N N1 ∧ EQN N N1 :=
  ⟨⟨fun i a => h i (by omega) (by omega), fun i a b => h i (by omega) (by omega)⟩, fun i a b => h i (by omega) (by omega), ⟨h _ (by decide) (by decide), h _ (by decide) (by decide)⟩, fun i a b => h i (by omega) (by omega), fun i a b k _ => by rw [h i (by omega) (by omega)], fun i a b => h i (by omega) (by omega)⟩
theorem lookG_rows (N : WNm) (G : Nat) (t h : Int32) : ∀ i, ¬ i = 114 → ¬ i = 115 → xLookG N 114 G t h i = N i := fun i a _ => by
  unfold xLookG
  rw [u2_row a, u2_row a, u2_row a, u2_row a, u2_row a, u2_row a]
  funext j
  simp [rFill, a]
theorem lookB_rows (N : WNm) (B : Nat) (t : Int32) : ∀ i, ¬ i = 114 → ¬ i = 115 → xLookB N 114 B t i = N i := fun i a _ => by
  unfold xLookB
  rw [u2_row a, u2_row a, u2_row a, u2_row a, u2_row a, u2_row a]
theorem lookO_rows (N : WNm) (G : Nat) : ∀ i, ¬ i = 114 → ¬ i = 115 → xLookO N 114 G i = N i := fun i a _ => by
  unfold xLookO
  rw [u2_row a, u2_row a]
theorem sr_rows (N : WNm) (ρ : Nat → Int32) : ∀ i, ¬ i = 114 → ¬ i = 115 → sr N 115 ρ i = N i := fun i _ a => sr_ne a
theorem NMQ.sr {N T : WNm} {k x b : Int32} (h : NMQ N T k x b) (ρ : Nat → Int32) : NMQ (sr N 115 ρ) T k x b := fun q hq => by rw [sr_ne (by decide)]; exact h q hq

theorem cX_lookAt {l : Launch} {g : WGp} (hg : GOK g) {sh : WSh} {N : WNm} {o : Nat → Nat} {nG nB nV kG kB kV : Nat} {ln : Nat → Nat} (X : XH o sh N nG nB nV kG kB kV ln) {nT nP dy : Nat} {T : WNm} (hN : XN N T nG nB nV nT ln) (hI : TI T nG nB nV nP dy) {a : Nat} (ha : a < nG) : CT l g yX6_lookAt cX6_lookAt 5 none (RM 4 0 0) [.ref (sh.2.2 100), .ref (sh.2.2 (1000 + a))] sh N (QFv g sh (xLookG N 114 (1000 + a) (T 0 1) (mInPort T (T 16 a) nG))) := by
  refine ent hg (by decide +kernel) (Nat.le_of_ble_eq_true rfl) ?_
  intro p e s m args below meth c C hname
  have hG := X.nG8
  refine j_iconst C dX6_lookAt_0 (v := 0) (by decide) ?_
  refine j_istore_n C dX6_lookAt_1 (by decide) rfl ?_
  refine j_iconst C dX6_lookAt_2 (v := 0) (by decide) ?_
  refine j_istore_n C dX6_lookAt_3 (by decide) rfl ?_
  suffices key : ∀ k, k ≤ nG → J p l e (RM 4 0 0) s m args below meth c (MQ below (QFv g sh (xLookG N 114 (1000 + a) (T 0 1) (mInPort T (T 16 a) nG))) args s 0 0 g.A) g 5 sh N 0 0 4 [some (.ref (sh.2.2 100)), some (.ref (sh.2.2 (1000 + a))), some (.int (mInPort T (T 16 a) k)), some (.int (nI k)), none] [] from key 0 (Nat.zero_le _)
  refine up_ind (n := nG) ?_
  intro k hk ih
  refine j_iload_n C dX6_lookAt_4 rfl ?_
  refine j_aload_n C dX6_lookAt_5 rfl ?_
  refine j_getR (j := 105) C fl_X6_25 dX6_lookAt_6 (X.c (by decide)) rfl (X.r (by decide)) ?_
  refine j_callV0I C ml_X6_73 dX6_lookAt_9 (cJ_size hg X.lg.1.1) (⟨by rw [X.lg.1.1]; decide, by rw [X.lg.1.1]; rfl⟩) ⟨Nat.le_of_ble_eq_true rfl, Nat.le_of_ble_eq_true rfl⟩ (Nat.le_of_ble_eq_true rfl) ⟨rfl, rfl⟩ ⟨Nat.zero_le _, Nat.zero_le _⟩ ?_
  rw [X.zG]
  refine j_icmp_ge (tgt := 58) C dX6_lookAt_12 (by decide) (fun h12 => ?_) (fun h12 => ?_)
  · skip
    rw [n_nle (by omega) (by omega)] at h12
    obtain rfl : k = nG := by omega
    refine j_aload_n C dX6_lookAt_58 rfl ?_
    refine j_getR (j := 110) C fl_X6_45 dX6_lookAt_59 (X.c (by decide)) rfl (X.r (by decide)) ?_
    refine j_aload_n C dX6_lookAt_62 rfl ?_
    refine j_aload_n C dX6_lookAt_63 rfl ?_
    refine j_getI C fl_X6_122 dX6_lookAt_64 (X.c (by decide)) rfl ?_
    rw [hN.1.2.2.2]
    refine j_iload_n C dX6_lookAt_67 rfl ?_
    refine j_callV3V C ml_X6_234 dX6_lookAt_68 (cX_lookAtGalley hg (T := 110) (A := 114) (X.c (by decide)) (X.r (by decide)) (X.a (by decide)) (X.g ha) (by omega) _ _) (by rw [X.c (i := 110) (c := 4) (by decide)]; exact ⟨by decide, rfl⟩) ⟨Nat.le_of_ble_eq_true rfl, Nat.le_of_ble_eq_true rfl⟩ (Nat.le_of_ble_eq_true rfl) ⟨rfl, rfl⟩ ⟨Nat.zero_le _, Nat.zero_le _⟩ ?_
    exact j_vret C dX6_lookAt_71 ⟨rfl, rfl⟩
  · skip
    rw [n_nle (by omega) (by omega)] at h12
    have hk2 : k < nG := by omega
    refine j_aload_n C dX6_lookAt_15 rfl ?_
    refine j_getR (j := 105) C fl_X6_25 dX6_lookAt_16 (X.c (by decide)) rfl (X.r (by decide)) ?_
    refine j_iload_n C dX6_lookAt_19 rfl ?_
    refine j_callV1RS (x := 1000 + k) C ml_X6_213 dX6_lookAt_20 (cX_lget hg X.lg hk2) ⟨by rw [X.lg.1.1]; decide, by rw [X.lg.1.1]; rfl⟩ ⟨Nat.le_of_ble_eq_true rfl, Nat.le_of_ble_eq_true rfl⟩ (Nat.le_of_ble_eq_true rfl) ⟨rfl, rfl⟩ ⟨Nat.zero_le _, Nat.zero_le _⟩ ?_
    refine j_cast C cl_X6_77 (X.g hk2) dX6_lookAt_23 ?_
    refine j_astore C dX6_lookAt_26 (by decide) rfl ?_
    refine j_aload C dX6_lookAt_28 rfl ?_
    refine j_getI C fl_X6_166 dX6_lookAt_30 (X.g hk2) rfl ?_
    rw [hN.g hk2 (f := 9) (r := 15) (by decide)]
    refine j_iconst C dX6_lookAt_33 (v := 1) (by decide) ?_
    refine j_icmp_ne (tgt := 52) C dX6_lookAt_34 (by decide) (fun h34 => ?_) (fun h34 => ?_)
    · skip
      refine j_iincN C dX6_lookAt_52 rfl (by decide) rfl ?_
      refine j_goto (tgt := 4) C dX6_lookAt_55 (by decide) ?_
      have z : mInPort T (T 16 a) (k + 1) = mInPort T (T 16 a) k + (if T 15 k = 1 ∧ T 16 k = T 16 a then 1 else 0) := rfl
      rw [if_neg (fun q => h34 q.1), Int32.add_zero] at z
      have y := ih (by omega)
      rw [z] at y
      refine J.le ?_ y
      exact ⟨rfl, rfl, rfl, rfl, trivial⟩
    · replace h34 := Decidable.not_not.mp h34
      refine j_aload C dX6_lookAt_37 rfl ?_
      refine j_getI C fl_X6_180 dX6_lookAt_39 (X.g hk2) rfl ?_
      rw [hN.g hk2 (f := 10) (r := 16) (by decide)]
      refine j_aload_n C dX6_lookAt_42 rfl ?_
      refine j_getI C fl_X6_180 dX6_lookAt_43 (X.g ha) rfl ?_
      rw [hN.g ha (f := 10) (r := 16) (by decide)]
      refine j_icmp_ne (tgt := 52) C dX6_lookAt_46 (by decide) (fun h46 => ?_) (fun h46 => ?_)
      · skip
        refine j_iincN C dX6_lookAt_52 rfl (by decide) rfl ?_
        refine j_goto (tgt := 4) C dX6_lookAt_55 (by decide) ?_
        have z : mInPort T (T 16 a) (k + 1) = mInPort T (T 16 a) k + (if T 15 k = 1 ∧ T 16 k = T 16 a then 1 else 0) := rfl
        rw [if_neg (fun q => h46 q.2), Int32.add_zero] at z
        have y := ih (by omega)
        rw [z] at y
        refine J.le ?_ y
        exact ⟨rfl, rfl, rfl, rfl, trivial⟩
      · replace h46 := Decidable.not_not.mp h46
        refine j_iinc C dX6_lookAt_49 rfl rfl (by decide) rfl ?_
        refine j_iincN C dX6_lookAt_52 rfl (by decide) rfl ?_
        refine j_goto (tgt := 4) C dX6_lookAt_55 (by decide) ?_
        have z : mInPort T (T 16 a) (k + 1) = mInPort T (T 16 a) k + (if T 15 k = 1 ∧ T 16 k = T 16 a then 1 else 0) := rfl
        rw [if_pos ⟨h34, h46⟩] at z
        have y := ih (by omega)
        rw [z] at y
        refine J.le ?_ y
        exact ⟨rfl, rfl, rfl, rfl, trivial⟩

theorem tb_wv : Cond.fieldLink RX6 224 "GalleyConvoy" "WITHOUT_VOTE" "[I" ∈ TBL := tbl_in 710 (by decide +kernel) rfl

theorem cX_workedOut {l : Launch} {g : WGp} (hg : GOK g) {sh : WSh} {N : WNm} {o : Nat → Nat} {nG nB nV kG kB kV : Nat} {ln : Nat → Nat} (X : XH o sh N nG nB nV kG kB kV ln) {nT nP dy : Nat} {T : WNm} (hN : XN N T nG nB nV nT ln) (hI : TI T nG nB nV nP dy) {o1 : Nat → Nat} (hX : HX g o1) {k kv k0 x b : Int32} (hk : 0 ≤ k ∧ k ≤ 2) (hkv : kv = -2 ∨ ∃ v, v < nV ∧ kv = nI v) (hn : NMQ N T k0 x b) : CT l g yX6_workedOut cX6_workedOut 3 (some .int) (RM 5 0 0) [.ref (sh.2.2 100), .int k, .int kv] sh N (QI g (fun r sh1 N1 => sh1 = sh ∧ r = sv T k kv (fun w => mValue T w k0 x b) ∧ ∃ ρ, N1 = sr N 115 ρ)) := by
  refine ent hg (by decide +kernel) (Nat.le_of_ble_eq_true rfl) ?_
  intro p e s m args below meth c C hname
  have hV := X.nV3
  rcases hkv with hkv | ⟨v, hv, hkv⟩
  · skip
    refine j_iload_n C dX6_workedOut_0 rfl ?_
    refine j_iconst C dX6_workedOut_1 (v := 0) (by decide) ?_
    refine j_aload_n C dX6_workedOut_2 rfl ?_
    refine j_getR (j := 107) C fl_X6_32 dX6_workedOut_3 (X.c (by decide)) rfl (X.r (by decide)) ?_
    refine j_callV0I C ml_X6_73 dX6_workedOut_6 (cJ_size hg X.lv.1.1) (⟨by rw [X.lv.1.1]; decide, by rw [X.lv.1.1]; rfl⟩) ⟨Nat.le_of_ble_eq_true rfl, Nat.le_of_ble_eq_true rfl⟩ (Nat.le_of_ble_eq_true rfl) ⟨rfl, rfl⟩ ⟨Nat.zero_le _, Nat.zero_le _⟩ ?_
    rw [X.zV]
    refine j_iconst C dX6_workedOut_9 (v := 1) (by decide) ?_
    refine j_isub C dX6_workedOut_10 ?_
    refine j_callS3I C ml_X6_57 dX6_workedOut_11 (cX_within hg _ _ _) ⟨Nat.le_of_ble_eq_true rfl, Nat.le_of_ble_eq_true rfl⟩ (Nat.le_of_ble_eq_true rfl) ⟨rfl, rfl⟩ ⟨Nat.zero_le _, Nat.zero_le _⟩ ?_
    refine j_if_ne (tgt := 23) C dX6_workedOut_14 (by decide) (fun h14 => ?_) (fun h14 => ?_)
    · replace h14 := b2_ne0.mp h14
      rw [hkv] at h14
      exact absurd h14.1 (by decide)
    · replace h14 := b2_eq0.mp (Decidable.not_not.mp h14)
      obtain ⟨kk, hkk, ek, ek2⟩ := rngC (n := 3) hk rfl (by decide)
      refine j_gets C tb_wv (hX _ _ C.2.2.2.2.2.1.2.1).2.2.1.1 dX6_workedOut_17 ?_
      refine j_iload_n C dX6_workedOut_20 rfl ?_
      rw [ek]
      refine j_ti C (hX _ _ C.2.2.2.2.2.1.2.1).2.2.1.2 (k := kk) (n := 3) hkk (by decide) dX6_workedOut_21 ?_
      refine j_iret C dX6_workedOut_22 rfl ⟨rfl, ?_, N 115, (sr_self _ _).symm⟩
      rw [sv, hkv, if_neg (by decide)]
      rcases (show kk = 0 ∨ kk = 1 ∨ kk = 2 by omega) with z | z | z <;> subst z <;> rfl
  · have eV : tn (nI v) = v := nI_clamp (by omega)
    refine j_iload_n C dX6_workedOut_0 rfl ?_
    refine j_iconst C dX6_workedOut_1 (v := 0) (by decide) ?_
    refine j_aload_n C dX6_workedOut_2 rfl ?_
    refine j_getR (j := 107) C fl_X6_32 dX6_workedOut_3 (X.c (by decide)) rfl (X.r (by decide)) ?_
    refine j_callV0I C ml_X6_73 dX6_workedOut_6 (cJ_size hg X.lv.1.1) (⟨by rw [X.lv.1.1]; decide, by rw [X.lv.1.1]; rfl⟩) ⟨Nat.le_of_ble_eq_true rfl, Nat.le_of_ble_eq_true rfl⟩ (Nat.le_of_ble_eq_true rfl) ⟨rfl, rfl⟩ ⟨Nat.zero_le _, Nat.zero_le _⟩ ?_
    rw [X.zV]
    refine j_iconst C dX6_workedOut_9 (v := 1) (by decide) ?_
    refine j_isub C dX6_workedOut_10 ?_
    refine j_callS3I C ml_X6_57 dX6_workedOut_11 (cX_within hg _ _ _) ⟨Nat.le_of_ble_eq_true rfl, Nat.le_of_ble_eq_true rfl⟩ (Nat.le_of_ble_eq_true rfl) ⟨rfl, rfl⟩ ⟨Nat.zero_le _, Nat.zero_le _⟩ ?_
    refine j_if_ne (tgt := 23) C dX6_workedOut_14 (by decide) (fun h14 => ?_) (fun h14 => ?_)
    · replace h14 := b2_ne0.mp h14
      refine j_aload_n C dX6_workedOut_23 rfl ?_
      refine j_getR (j := 110) C fl_X6_45 dX6_workedOut_24 (X.c (by decide)) rfl (X.r (by decide)) ?_
      refine j_aload_n C dX6_workedOut_27 rfl ?_
      refine j_getR (j := 107) C fl_X6_32 dX6_workedOut_28 (X.c (by decide)) rfl (X.r (by decide)) ?_
      refine j_iload_n C dX6_workedOut_31 rfl ?_
      rw [hkv]
      refine j_callV1RS (x := 3000 + v) C ml_X6_213 dX6_workedOut_32 (cX_lget hg X.lv hv) ⟨by rw [X.lv.1.1]; decide, by rw [X.lv.1.1]; rfl⟩ ⟨Nat.le_of_ble_eq_true rfl, Nat.le_of_ble_eq_true rfl⟩ (Nat.le_of_ble_eq_true rfl) ⟨rfl, rfl⟩ ⟨Nat.zero_le _, Nat.zero_le _⟩ ?_
      refine j_cast C cl_X6_153 (X.v hv) dX6_workedOut_35 ?_
      refine j_getR (j := (3100 + v)) C fl_X6_227 dX6_workedOut_38 (X.v hv) rfl (X.vr hv) ?_
      obtain ⟨x1, x2, s0, x3, x4, x5, x6⟩ := hN.2.2.2.2.2.2.1 v hv
      obtain ⟨a0, b0, ea, eb, hab, hb6, hst⟩ := hI.1.2.2.1.2.2 v hv
      obtain ⟨hst, hfin⟩ := hst (fun w => mValue T w k0 x b)
      have es : a0 = s0 := by
        have z := congrArg (fun q : Int32 => q.toNatClampNeg) (ea.symm.trans x3)
        simp only [nI_clamp (show a0 < 2147483648 by omega), nI_clamp (show s0 < 2147483648 by omega)] at z
        exact z
      have eb2 : b0 = s0 + ln v := by
        have z := congrArg (fun q : Int32 => q.toNatClampNeg) (eb.symm.trans x4)
        simp only [nI_clamp (show b0 < 2147483648 by omega), nI_clamp (show s0 + ln v < 2147483648 by omega)] at z
        exact z
      subst es
      subst eb2
      rw [show a0 + ln v - a0 = ln v by omega] at hst hfin
      have hev := ev_eq (T := T) (nm := N 114) (sp := N (3100 + v)) (val := fun w => mValue T w k0 x b) (s0 := a0) (n := ln v) hn x6 (fun j hj => (hst j hj).1) (ln v) (Nat.le_refl _)
      have eR : sv T k kv (fun w => mValue T w k0 x b) = (mEv T a0 (fun w => mValue T w k0 x b) (ln v)).headD 0 := by
        rw [sv, hkv, if_pos (nI_pos' (by omega)), eV, x3, x4, show tn (nI a0) = a0 from nI_clamp (by omega), show tn (nI (a0 + ln v)) = a0 + ln v from nI_clamp (by omega), show a0 + ln v - a0 = ln v by omega]
      refine j_callV1Ig C ml_X6_230 dX6_workedOut_41 (cX_workOut hg (T := 110) (A := 114) (K := 115) (len := ln v) (X.c (by decide)) (X.r (by decide)) (X.a (by decide)) (X.r (by decide)) (X.a (by decide)) (X.va hv) (by omega) (by decide) (by omega)) (by rw [X.c (i := 110) (c := 4) (by decide)]; exact ⟨by decide, rfl⟩) ⟨Nat.le_of_ble_eq_true rfl, Nat.le_of_ble_eq_true rfl⟩ (Nat.le_of_ble_eq_true rfl) ⟨rfl, rfl⟩ ⟨Nat.zero_le _, Nat.zero_le _⟩ (fun r sh1 N1 hq => ?_)
      obtain ⟨q1, ρ, q2, q3, q4⟩ := hq
      rw [hev] at q4
      rw [hfin] at q4
      have q5 : sv T k kv (fun w => mValue T w k0 x b) = r := by
        rw [eR, ← q4, q3]; rfl
      rw [hkv] at q5
      exact j_iret C dX6_workedOut_44 rfl ⟨q1, q5.symm, ρ, q2⟩
    · replace h14 := b2_eq0.mp (Decidable.not_not.mp h14)
      exfalso
      refine h14 ⟨?_, ?_⟩
      · rw [hkv]; exact nI_pos' (by omega)
      · rw [hkv, show (1 : Int32) = nI 1 from rfl, nI_sub (by omega), n_nle (by omega) (by omega)]; omega
