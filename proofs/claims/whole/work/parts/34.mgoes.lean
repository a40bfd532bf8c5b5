/-! ===== THE REFERENCE: goes ===== -/
def mWish (N : WNm) (a b : Nat) : Int32 := if N 34 b = 0 then (if N 26 b = N 16 a then mSays N 1 (nI a) (nI b) else 0) else 0
def mLoad1 (N : WNm) (nB a j : Nat) : WNm := if N 11 a < mRoomOn N (nI a) nB + N 29 j then N else (if N 12 a < mWeightOn N (nI a) False nB + N 30 j then N else (if N 28 j = 1 then (if N 12 a / 2 < mWeightOn N (nI a) True nB + N 30 j then N else u2 (mBecomes N j 1) 35 j (nI a)) else u2 (mBecomes N j 1) 35 j (nI a)))
def mLoad (ω : Nat → Int32) (nB a : Nat) : Nat → (Nat → Int32) → WNm → WNm
  | 0, _, L => L
  | f + 1, τ, L => match best ω (fun b => τ b = 0) nB with
    | none => L
    | some j => mLoad ω nB a f (fun b => if b = j then 1 else τ b) (mLoad1 L nB a j)
def mGoEnd (L : WNm) (p : Int32) (a : Nat) : WNm := u2 (u2 (u2 (u2 L 15 a 2) 16 a (p + 1)) 17 a (L 0 1)) 18 a 0
def mGo (N : WNm) (nB a : Nat) : WNm := if N 16 a = N 0 5 - 1 then u2 N 15 a 3 else mGoEnd (mLoad (mWish N a) nB a (nB + 1) (fun b => if 0 < mWish N a b then 0 else 1) N) (N 16 a) a
theorem mLoad1_sc (L : WNm) (q : Nat → Nat → Int32) (nB a j : Nat) : mLoad1 (sc L q) nB a j = sc (mLoad1 L nB a j) q := by
  have e : u2 (mBecomes (sc L q) j 1) 35 j (nI a) = sc (u2 (mBecomes L j 1) 35 j (nI a)) q := by
    unfold mBecomes
    rw [sc_out (by decide), sc_out (by decide), sc_out (by decide)]
    rfl
  unfold mLoad1
  by_cases h1 : L 11 a < mRoomOn L (nI a) nB + L 29 j
  · rw [if_pos h1, if_pos (show sc L q 11 a < mRoomOn (sc L q) (nI a) nB + sc L q 29 j from h1)]
  · rw [if_neg h1, if_neg (show ¬ sc L q 11 a < mRoomOn (sc L q) (nI a) nB + sc L q 29 j from h1)]
    by_cases h2 : L 12 a < mWeightOn L (nI a) False nB + L 30 j
    · rw [if_pos h2, if_pos (show sc L q 12 a < mWeightOn (sc L q) (nI a) False nB + sc L q 30 j from h2)]
    · rw [if_neg h2, if_neg (show ¬ sc L q 12 a < mWeightOn (sc L q) (nI a) False nB + sc L q 30 j from h2)]
      by_cases h3 : L 28 j = 1
      · rw [if_pos h3, if_pos (show sc L q 28 j = 1 from h3)]
        by_cases h4 : L 12 a / 2 < mWeightOn L (nI a) True nB + L 30 j
        · rw [if_pos h4, if_pos (show sc L q 12 a / 2 < mWeightOn (sc L q) (nI a) True nB + sc L q 30 j from h4)]
        · rw [if_neg h4, if_neg (show ¬ sc L q 12 a / 2 < mWeightOn (sc L q) (nI a) True nB + sc L q 30 j from h4)]
          exact e
      · rw [if_neg h3, if_neg (show ¬ sc L q 28 j = 1 from h3)]
        exact e
theorem mLoad1_row (L : WNm) (nB a j : Nat) {i : Nat} (h : i ≠ 34 ∧ i ≠ 35 ∧ i ≠ 36) : mLoad1 L nB a j i = L i := by
  have e : u2 (mBecomes L j 1) 35 j (nI a) i = L i := by rw [u2_row h.2.1, mBecomes, u2_row h.2.2, u2_row h.1]
  unfold mLoad1
  repeat' split
  all_goals first | rfl | exact e
theorem best_cong {w w' : Nat → Int32} {ok ok' : Nat → Prop} [DecidablePred ok] [DecidablePred ok'] : ∀ {n : Nat}, (∀ k, k < n → w k = w' k) → (∀ k, k < n → (ok k ↔ ok' k)) → best w ok n = best w' ok' n
  | 0, _, _ => rfl
  | n + 1, hw, ho => by
    have ih := best_cong (n := n) (fun k hk => hw k (by omega)) (fun k hk => ho k (by omega))
    have h1 := ho n (by omega)
    rw [best, best, ih]
    cases hb : best w' ok' n with
    | none => by_cases h : ok' n <;> simp [h, h1]
    | some j =>
      have := (best_lt _ _ n j hb).1
      simp only [h1, hw n (by omega), hw j (by omega)]
theorem mLoad_cong {ω ω' : Nat → Int32} {nB a : Nat} (hω : ∀ k, k < nB → ω k = ω' k) : ∀ (f : Nat) (τ τ' : Nat → Int32) (L : WNm), (∀ k, k < nB → τ k = τ' k) → mLoad ω nB a f τ L = mLoad ω' nB a f τ' L
  | 0, _, _, _, _ => rfl
  | f + 1, τ, τ', L, h => by
    rw [mLoad, mLoad, best_cong hω (fun k hk => by rw [h k hk])]
    cases hb : best ω' (fun b => τ' b = 0) nB with
    | none => rfl
    | some j =>
      simp only
      exact mLoad_cong hω f _ _ _ (fun k hk => by by_cases e : k = j <;> simp [e, h k hk])
def cnt0 (τ : Nat → Int32) : Nat → Nat
  | 0 => 0
  | n + 1 => cnt0 τ n + (if τ n = 0 then 1 else 0)
theorem cnt0_le (τ : Nat → Int32) : ∀ n, cnt0 τ n ≤ n
  | 0 => Nat.le_refl 0
  | n + 1 => by have := cnt0_le τ n; rw [cnt0]; split <;> omega
theorem cnt0_ge {τ : Nat → Int32} {j : Nat} : ∀ {n : Nat}, n ≤ j → cnt0 (fun b => if b = j then 1 else τ b) n = cnt0 τ n
  | 0, _ => rfl
  | n + 1, h => by rw [cnt0, cnt0, cnt0_ge (by omega), if_neg (show ¬ n = j by omega)]
theorem cnt0_set {τ : Nat → Int32} {j : Nat} (h0 : τ j = 0) : ∀ {n : Nat}, j < n → cnt0 (fun b => if b = j then 1 else τ b) n + 1 = cnt0 τ n
  | 0, h => absurd h (Nat.not_lt_zero j)
  | n + 1, h => by
    by_cases e : j = n
    · subst e
      rw [cnt0, cnt0, cnt0_ge (Nat.le_refl _), if_pos rfl, if_pos h0]
      rfl
    · have ih := cnt0_set (τ := τ) h0 (n := n) (by omega)
      rw [cnt0, cnt0, if_neg (show ¬ n = j by omega)]
      omega

theorem cM_goes {l : Launch} {g : WGp} (hg : GOK g) {sh : WSh} {N : WNm} (M : MSh sh) {nG : Nat} (hG : N 0 9 = nI nG) (hG8 : nG ≤ 8) {nB : Nat} (hN : N 0 23 = nI nB) (hN3 : nB ≤ 300) {nV : Nat} (hV : N 0 38 = nI nV) (hV30 : nV ≤ 30) (hvo : ∀ v, v < nV → voteOk N v) {a : Nat} (ha : a < nG) (hp : vp_in (N 16 a) 12) : CT l g yX7_goes cX7_goes 5 none (RM 5 0 0) [.ref (sh.2.2 0), .int (nI a)] sh N (QV g (fun sh1 N1 => sh1 = sh ∧ ∃ q, N1 = sc (mGo N nB a) q)) := by
  refine ent hg (by decide +kernel) (Nat.le_of_ble_eq_true rfl) ?_
  intro p e s m args below meth c C hname
  have eta : tn (nI a) = a := nI_clamp (by omega)
  have key2 : ¬ N 16 a = N 0 5 - 1 → ∀ (f : Nat) (L : WNm) (q : Nat → Nat → Int32), cnt0 (q 55) nB < f → L 0 = N 0 → mLoad (q 54) nB a f (q 55) L = mLoad (mWish N a) nB a (nB + 1) (fun b => if 0 < mWish N a b then 0 else 1) N → J p l e (RM 5 0 0) s m args below meth c (MQ below (QV g (fun sh1 N1 => sh1 = sh ∧ ∃ q, N1 = sc (mGo N nB a) q)) args s 0 0 g.A) g 5 sh (sc L q) 0 0 114 [some (.ref (sh.2.2 0)), some (.int (nI a)), some (.int (N 16 a)), some (.int (oI (best (q 54) (fun b => q 55 b = 0) nB))), none] [] := by
    intro hne f
    induction f with
    | zero => intro L q h; exact absurd h (Nat.not_lt_zero _)
    | succ f ih =>
      intro L q hcnt hL0 hLF
      have hL23 : L 0 23 = nI nB := by rw [hL0]; exact hN
      rcases hb : best (q 54) (fun b => q 55 b = 0) nB with _ | j
      · rw [mLoad, hb] at hLF
        simp only at hLF
        refine j_iload_n C dX7_goes_114 rfl ?_
        refine j_if_lt (tgt := 235) C dX7_goes_115 (by decide) (fun h115 => ?_) (fun h115 => ?_)
        · skip
          refine j_aload_n C dX7_goes_235 rfl ?_
          refine j_getR (j := 15) C fl_X7_34 dX7_goes_236 (M.c) rfl (M.r14) ?_
          refine j_iload_n C dX7_goes_239 rfl ?_
          refine j_iconst C dX7_goes_240 (v := 2) (by decide) ?_
          refine j_iastN C (M.t15) (⟨by omega, by decide⟩) dX7_goes_241 ?_
          refine j_aload_n C dX7_goes_242 rfl ?_
          refine j_getR (j := 16) C fl_X7_37 dX7_goes_243 (M.c) rfl (M.r15) ?_
          refine j_iload_n C dX7_goes_246 rfl ?_
          refine j_iload_n C dX7_goes_247 rfl ?_
          refine j_iconst C dX7_goes_248 (v := 1) (by decide) ?_
          refine j_iadd C dX7_goes_249 ?_
          refine j_iastN C (M.t16) (⟨by omega, by decide⟩) dX7_goes_250 ?_
          refine j_aload_n C dX7_goes_251 rfl ?_
          refine j_getR (j := 17) C fl_X7_40 dX7_goes_252 (M.c) rfl (M.r16) ?_
          refine j_iload_n C dX7_goes_255 rfl ?_
          refine j_aload_n C dX7_goes_256 rfl ?_
          refine j_getI C fl_X7_165 dX7_goes_257 (M.c) rfl ?_
          refine j_iastN C (M.t17) (⟨by omega, by decide⟩) dX7_goes_260 ?_
          refine j_aload_n C dX7_goes_261 rfl ?_
          refine j_getR (j := 18) C fl_X7_43 dX7_goes_262 (M.c) rfl (M.r17) ?_
          refine j_iload_n C dX7_goes_265 rfl ?_
          refine j_iconst C dX7_goes_266 (v := 0) (by decide) ?_
          refine j_iastN C (M.t18) (⟨by omega, by decide⟩) dX7_goes_267 ?_
          refine j_vret C dX7_goes_268 ⟨rfl, q, ?_⟩
          rw [mGo, if_neg hne, ← hLF, mGoEnd, sc_out (by decide), sc_out (by decide), sc_out (by decide), sc_out (by decide)]
          rfl
        · skip
          exact absurd h115 (fun z => z (by decide))
      · have hj := best_lt _ _ nB j hb
        rw [mLoad, hb] at hLF
        simp only at hLF
        have fin2 : ∀ N2, N2 = mLoad1 (sc L (u2 q 55 j 1)) nB a j → J p l e (RM 5 0 0) s m args below meth c (MQ below (QV g (fun sh1 N1 => sh1 = sh ∧ ∃ q, N1 = sc (mGo N nB a) q)) args s 0 0 g.A) g 5 sh N2 0 0 227 [some (.ref (sh.2.2 0)), some (.int (nI a)), some (.int (N 16 a)), some (.int (nI j)), none] [] := by
          intro N2 e2
          subst e2
          rw [mLoad1_sc]
          refine j_aload_n C dX7_goes_227 rfl ?_
          refine j_callV0I C ml_X7_316 dX7_goes_228 (cM_nextBale hg M (N := sc (mLoad1 L nB a j) (u2 q 55 j 1)) (n := nB) (by show mLoad1 L nB a j 0 23 = _; rw [mLoad1_row _ _ _ _ (by decide)]; exact hL23) hN3) ⟨by rw [M.c]; decide, by rw [M.c]; rfl⟩ ⟨Nat.le_of_ble_eq_true rfl, Nat.le_of_ble_eq_true rfl⟩ (Nat.le_of_ble_eq_true rfl) ⟨rfl, rfl⟩ ⟨Nat.zero_le _, Nat.zero_le _⟩ ?_
          refine j_istore_n C dX7_goes_231 (by decide) rfl ?_
          refine j_goto (tgt := 114) C dX7_goes_232 (by decide) ?_
          have e54 : (u2 q 55 j 1) 54 = q 54 := u2_row (by decide)
          have e55 : (u2 q 55 j 1) 55 = fun b => if b = j then 1 else q 55 b := by funext b; by_cases e : b = j <;> simp [u2, e]
          have z := ih (mLoad1 L nB a j) (u2 q 55 j 1) (by rw [e55]; have := cnt0_set hj.2 hj.1; omega) (by rw [mLoad1_row _ _ _ _ (by decide)]; exact hL0) (by rw [e54, e55]; exact hLF)
          exact z
        rw [show oI (some j) = nI j from rfl]
        refine j_iload_n C dX7_goes_114 rfl ?_
        refine j_if_lt (tgt := 235) C dX7_goes_115 (by decide) (fun h115 => ?_) (fun h115 => ?_)
        · skip
          exact absurd h115 (nI_pos (by omega))
        · skip
          refine j_aload_n C dX7_goes_118 rfl ?_
          refine j_getR (j := 55) C fl_X7_126 dX7_goes_119 (M.c) rfl (M.r54) ?_
          refine j_iload_n C dX7_goes_122 rfl ?_
          refine j_iconst C dX7_goes_123 (v := 1) (by decide) ?_
          refine j_zastN C (M.t55) (⟨by omega, by decide⟩) (rfl) dX7_goes_124 ?_
          rw [sc_in (by decide)]
          refine j_aload_n C dX7_goes_125 rfl ?_
          refine j_iload_n C dX7_goes_126 rfl ?_
          refine j_callV1I C ml_X7_319 dX7_goes_127 (cM_roomOn hg M (N := sc L (u2 q 55 j 1)) (n := nB) hL23 hN3 _) ⟨by rw [M.c]; decide, by rw [M.c]; rfl⟩ ⟨Nat.le_of_ble_eq_true rfl, Nat.le_of_ble_eq_true rfl⟩ (Nat.le_of_ble_eq_true rfl) ⟨rfl, rfl⟩ ⟨Nat.zero_le _, Nat.zero_le _⟩ ?_
          refine j_aload_n C dX7_goes_130 rfl ?_
          refine j_getR (j := 29) C fl_X7_74 dX7_goes_131 (M.c) rfl (M.r28) ?_
          refine j_iload_n C dX7_goes_134 rfl ?_
          refine j_ialdN C (M.t29) (⟨by omega, by decide⟩) dX7_goes_135 ?_
          refine j_iadd C dX7_goes_136 ?_
          refine j_aload_n C dX7_goes_137 rfl ?_
          refine j_getR (j := 11) C fl_X7_22 dX7_goes_138 (M.c) rfl (M.r10) ?_
          refine j_iload_n C dX7_goes_141 rfl ?_
          refine j_ialdN C (M.t11) (⟨by omega, by decide⟩) dX7_goes_142 ?_
          refine j_icmp_gt (tgt := 172) C dX7_goes_143 (by decide) (fun h143 => ?_) (fun h143 => ?_)
          · skip
            refine j_iconst C dX7_goes_172 (v := 0) (by decide) ?_
            refine j_istore C dX7_goes_173 (by decide) rfl ?_
            refine j_iload C dX7_goes_175 rfl ?_
            refine j_if_eq (tgt := 227) C dX7_goes_177 (by decide) (fun h177 => ?_) (fun h177 => ?_)
            · skip
              exact J.le (lv1 := [some (.ref (sh.2.2 0)), some (.int (nI a)), some (.int (N 16 a)), some (.int (nI j)), none]) ⟨rfl, rfl, rfl, rfl, trivial⟩ (fin2 _ (by rw [mLoad1, if_pos h143]))
            · exact absurd (by decide) h177
          · skip
            refine j_aload_n C dX7_goes_146 rfl ?_
            refine j_iload_n C dX7_goes_147 rfl ?_
            refine j_iconst C dX7_goes_148 (v := 0) (by decide) ?_
            refine j_callV2I C ml_X7_283 dX7_goes_149 (cM_weightOn hg M (N := sc L (u2 q 55 j 1)) (n := nB) hL23 hN3 _ False) ⟨by rw [M.c]; decide, by rw [M.c]; rfl⟩ ⟨Nat.le_of_ble_eq_true rfl, Nat.le_of_ble_eq_true rfl⟩ (Nat.le_of_ble_eq_true rfl) ⟨rfl, rfl⟩ ⟨Nat.zero_le _, Nat.zero_le _⟩ ?_
            refine j_aload_n C dX7_goes_152 rfl ?_
            refine j_getR (j := 30) C fl_X7_77 dX7_goes_153 (M.c) rfl (M.r29) ?_
            refine j_iload_n C dX7_goes_156 rfl ?_
            refine j_ialdN C (M.t30) (⟨by omega, by decide⟩) dX7_goes_157 ?_
            refine j_iadd C dX7_goes_158 ?_
            refine j_aload_n C dX7_goes_159 rfl ?_
            refine j_getR (j := 12) C fl_X7_25 dX7_goes_160 (M.c) rfl (M.r11) ?_
            refine j_iload_n C dX7_goes_163 rfl ?_
            refine j_ialdN C (M.t12) (⟨by omega, by decide⟩) dX7_goes_164 ?_
            refine j_icmp_gt (tgt := 172) C dX7_goes_165 (by decide) (fun h165 => ?_) (fun h165 => ?_)
            · skip
              refine j_iconst C dX7_goes_172 (v := 0) (by decide) ?_
              refine j_istore C dX7_goes_173 (by decide) rfl ?_
              refine j_iload C dX7_goes_175 rfl ?_
              refine j_if_eq (tgt := 227) C dX7_goes_177 (by decide) (fun h177 => ?_) (fun h177 => ?_)
              · skip
                exact J.le (lv1 := [some (.ref (sh.2.2 0)), some (.int (nI a)), some (.int (N 16 a)), some (.int (nI j)), none]) ⟨rfl, rfl, rfl, rfl, trivial⟩ (fin2 _ (by rw [mLoad1, if_neg h143, if_pos h165]))
              · exact absurd (by decide) h177
            · skip
              refine j_iconst C dX7_goes_168 (v := 1) (by decide) ?_
              refine j_goto (tgt := 173) C dX7_goes_169 (by decide) ?_
              refine j_istore C dX7_goes_173 (by decide) rfl ?_
              refine j_iload C dX7_goes_175 rfl ?_
              refine j_if_eq (tgt := 227) C dX7_goes_177 (by decide) (fun h177 => ?_) (fun h177 => ?_)
              · exact absurd h177 (by decide)
              · skip
                refine j_aload_n C dX7_goes_180 rfl ?_
                refine j_getR (j := 28) C fl_X7_71 dX7_goes_181 (M.c) rfl (M.r27) ?_
                refine j_iload_n C dX7_goes_184 rfl ?_
                refine j_ialdN C (M.t28) (⟨by omega, by decide⟩) dX7_goes_185 ?_
                refine j_iconst C dX7_goes_186 (v := 1) (by decide) ?_
                refine j_icmp_ne (tgt := 214) C dX7_goes_187 (by decide) (fun h187 => ?_) (fun h187 => ?_)
                · skip
                  refine j_aload_n C dX7_goes_214 rfl ?_
                  refine j_iload_n C dX7_goes_215 rfl ?_
                  refine j_iconst C dX7_goes_216 (v := 1) (by decide) ?_
                  refine j_callV2V C ml_X7_313 dX7_goes_217 (cM_becomes hg M (by omega) _) ⟨by rw [M.c]; decide, by rw [M.c]; rfl⟩ ⟨Nat.le_of_ble_eq_true rfl, Nat.le_of_ble_eq_true rfl⟩ (Nat.le_of_ble_eq_true rfl) ⟨rfl, rfl⟩ ⟨Nat.zero_le _, Nat.zero_le _⟩ ?_
                  refine j_aload_n C dX7_goes_220 rfl ?_
                  refine j_getR (j := 35) C fl_X7_92 dX7_goes_221 (M.c) rfl (M.r34) ?_
                  refine j_iload_n C dX7_goes_224 rfl ?_
                  refine j_iload_n C dX7_goes_225 rfl ?_
                  refine j_iastN C (M.t35) (⟨by omega, by decide⟩) dX7_goes_226 ?_
                  exact J.le (lv1 := [some (.ref (sh.2.2 0)), some (.int (nI a)), some (.int (N 16 a)), some (.int (nI j)), none]) ⟨rfl, rfl, rfl, rfl, trivial⟩ (fin2 _ (by rw [mLoad1, if_neg h143, if_neg h165, if_neg h187]))
                · replace h187 := Decidable.not_not.mp h187
                  refine j_aload_n C dX7_goes_190 rfl ?_
                  refine j_iload_n C dX7_goes_191 rfl ?_
                  refine j_iconst C dX7_goes_192 (v := 1) (by decide) ?_
                  refine j_callV2I C ml_X7_283 dX7_goes_193 (cM_weightOn hg M (N := sc L (u2 q 55 j 1)) (n := nB) hL23 hN3 _ True) ⟨by rw [M.c]; decide, by rw [M.c]; rfl⟩ ⟨Nat.le_of_ble_eq_true rfl, Nat.le_of_ble_eq_true rfl⟩ (Nat.le_of_ble_eq_true rfl) ⟨rfl, rfl⟩ ⟨Nat.zero_le _, Nat.zero_le _⟩ ?_
                  refine j_aload_n C dX7_goes_196 rfl ?_
                  refine j_getR (j := 30) C fl_X7_77 dX7_goes_197 (M.c) rfl (M.r29) ?_
                  refine j_iload_n C dX7_goes_200 rfl ?_
                  refine j_ialdN C (M.t30) (⟨by omega, by decide⟩) dX7_goes_201 ?_
                  refine j_iadd C dX7_goes_202 ?_
                  refine j_aload_n C dX7_goes_203 rfl ?_
                  refine j_getR (j := 12) C fl_X7_25 dX7_goes_204 (M.c) rfl (M.r11) ?_
                  refine j_iload_n C dX7_goes_207 rfl ?_
                  refine j_ialdN C (M.t12) (⟨by omega, by decide⟩) dX7_goes_208 ?_
                  refine j_iconst C dX7_goes_209 (v := 2) (by decide) ?_
                  refine j_idiv C dX7_goes_210 (by decide) ?_
                  refine j_icmp_gt (tgt := 227) C dX7_goes_211 (by decide) (fun h211 => ?_) (fun h211 => ?_)
                  · skip
                    exact J.le (lv1 := [some (.ref (sh.2.2 0)), some (.int (nI a)), some (.int (N 16 a)), some (.int (nI j)), none]) ⟨rfl, rfl, rfl, rfl, trivial⟩ (fin2 _ (by rw [mLoad1, if_neg h143, if_neg h165, if_pos h187, if_pos h211]))
                  · skip
                    refine j_aload_n C dX7_goes_214 rfl ?_
                    refine j_iload_n C dX7_goes_215 rfl ?_
                    refine j_iconst C dX7_goes_216 (v := 1) (by decide) ?_
                    refine j_callV2V C ml_X7_313 dX7_goes_217 (cM_becomes hg M (by omega) _) ⟨by rw [M.c]; decide, by rw [M.c]; rfl⟩ ⟨Nat.le_of_ble_eq_true rfl, Nat.le_of_ble_eq_true rfl⟩ (Nat.le_of_ble_eq_true rfl) ⟨rfl, rfl⟩ ⟨Nat.zero_le _, Nat.zero_le _⟩ ?_
                    refine j_aload_n C dX7_goes_220 rfl ?_
                    refine j_getR (j := 35) C fl_X7_92 dX7_goes_221 (M.c) rfl (M.r34) ?_
                    refine j_iload_n C dX7_goes_224 rfl ?_
                    refine j_iload_n C dX7_goes_225 rfl ?_
                    refine j_iastN C (M.t35) (⟨by omega, by decide⟩) dX7_goes_226 ?_
                    exact J.le (lv1 := [some (.ref (sh.2.2 0)), some (.int (nI a)), some (.int (N 16 a)), some (.int (nI j)), none]) ⟨rfl, rfl, rfl, rfl, trivial⟩ (fin2 _ (by rw [mLoad1, if_neg h143, if_neg h165, if_pos h187, if_neg h211]))
  have key1 : ¬ N 16 a = N 0 5 - 1 → ∀ b, b ≤ nB → ∀ q : Nat → Nat → Int32, (∀ j, j < b → q 54 j = mWish N a j ∧ q 55 j = if 0 < mWish N a j then 0 else 1) → J p l e (RM 5 0 0) s m args below meth c (MQ below (QV g (fun sh1 N1 => sh1 = sh ∧ ∃ q, N1 = sc (mGo N nB a) q)) args s 0 0 g.A) g 5 sh (sc N q) 0 0 27 [some (.ref (sh.2.2 0)), some (.int (nI a)), some (.int (N 16 a)), some (.int (nI b)), none] [] := by
    intro hne
    refine up_ind (n := nB) ?_
    intro b hb ih q hall
    have fin1 : b < nB → ∀ (q1 : Nat → Nat → Int32) {v : Int32}, v = mWish N a b → (∀ j, j < b → q1 54 j = mWish N a j ∧ q1 55 j = if 0 < mWish N a j then 0 else 1) → J p l e (RM 5 0 0) s m args below meth c (MQ below (QV g (fun sh1 N1 => sh1 = sh ∧ ∃ q, N1 = sc (mGo N nB a) q)) args s 0 0 g.A) g 5 sh (sc N q1) 0 0 82 [some (.ref (sh.2.2 0)), some (.int (nI a)), some (.int (N 16 a)), some (.int (nI b)), none] [.int v, .int (nI b), .ref (sh.2.2 54)] := by
      intro hbl q1 v ev hall1
      refine j_iastN C (M.t54) (⟨by omega, by decide⟩) dX7_goes_82 ?_
      rw [sc_in (by decide)]
      refine j_aload_n C dX7_goes_83 rfl ?_
      refine j_getR (j := 55) C fl_X7_126 dX7_goes_84 (M.c) rfl (M.r54) ?_
      refine j_iload_n C dX7_goes_87 rfl ?_
      refine j_aload_n C dX7_goes_88 rfl ?_
      refine j_getR (j := 54) C fl_X7_123 dX7_goes_89 (M.c) rfl (M.r53) ?_
      refine j_iload_n C dX7_goes_92 rfl ?_
      refine j_ialdN C (M.t54) (⟨by omega, by decide⟩) dX7_goes_93 ?_
      rw [show sc N (u2 q1 54 b v) 54 b = v from u2_eq q1 54 b v]
      refine j_if_gt (tgt := 101) C dX7_goes_94 (by decide) (fun h94 => ?_) (fun h94 => ?_)
      · skip
        refine j_iconst C dX7_goes_101 (v := 0) (by decide) ?_
        refine j_zastN C (M.t55) (⟨by omega, by decide⟩) (rfl) dX7_goes_102 ?_
        rw [sc_in (by decide)]
        refine j_iincN C dX7_goes_103 rfl (by decide) rfl ?_
        refine j_goto (tgt := 27) C dX7_goes_106 (by decide) ?_
        refine ih hbl _ (fun j hj => ?_)
        rcases Nat.lt_succ_iff_lt_or_eq.mp hj with y | y
        · have z := hall1 j y
          have n1 : ¬ j = b := by omega
          constructor
          · rw [u2_row (by decide), u2_ne (fun y => n1 y.2)]; exact z.1
          · rw [u2_ne (fun y => n1 y.2), u2_row (by decide)]; exact z.2
        · subst y
          constructor
          · rw [u2_row (by decide), u2_eq]; exact ev
          · rw [u2_eq, ← ev]; first | rw [if_pos h94] | rw [if_neg h94]
      · skip
        refine j_iconst C dX7_goes_97 (v := 1) (by decide) ?_
        refine j_goto (tgt := 102) C dX7_goes_98 (by decide) ?_
        refine j_zastN C (M.t55) (⟨by omega, by decide⟩) (rfl) dX7_goes_102 ?_
        rw [sc_in (by decide)]
        refine j_iincN C dX7_goes_103 rfl (by decide) rfl ?_
        refine j_goto (tgt := 27) C dX7_goes_106 (by decide) ?_
        refine ih hbl _ (fun j hj => ?_)
        rcases Nat.lt_succ_iff_lt_or_eq.mp hj with y | y
        · have z := hall1 j y
          have n1 : ¬ j = b := by omega
          constructor
          · rw [u2_row (by decide), u2_ne (fun y => n1 y.2)]; exact z.1
          · rw [u2_ne (fun y => n1 y.2), u2_row (by decide)]; exact z.2
        · subst y
          constructor
          · rw [u2_row (by decide), u2_eq]; exact ev
          · rw [u2_eq, ← ev]; first | rw [if_pos h94] | rw [if_neg h94]
    refine j_iload_n C dX7_goes_27 rfl ?_
    refine j_aload_n C dX7_goes_28 rfl ?_
    refine j_getI C fl_X7_143 dX7_goes_29 (M.c) rfl ?_
    refine j_icmp_ge (tgt := 109) C dX7_goes_32 (by decide) (fun h32 => ?_) (fun h32 => ?_)
    · skip
      have h32 : N 0 23 ≤ nI b := h32
      rw [hN, n_nle (by omega) (by omega)] at h32
      obtain rfl : b = nB := by omega
      refine j_aload_n C dX7_goes_109 rfl ?_
      refine j_callV0I C ml_X7_316 dX7_goes_110 (cM_nextBale hg M (N := sc N q) (n := b) hN hN3) ⟨by rw [M.c]; decide, by rw [M.c]; rfl⟩ ⟨Nat.le_of_ble_eq_true rfl, Nat.le_of_ble_eq_true rfl⟩ (Nat.le_of_ble_eq_true rfl) ⟨rfl, rfl⟩ ⟨Nat.zero_le _, Nat.zero_le _⟩ ?_
      refine j_istore_n C dX7_goes_113 (by decide) rfl ?_
      exact key2 hne (b + 1) N q (by have := cnt0_le (q 55) b; omega) rfl (mLoad_cong (fun k hk => (hall k hk).1) _ _ _ _ (fun k hk => (hall k hk).2))
    · skip
      have h32 : ¬ N 0 23 ≤ nI b := h32
      rw [hN, n_nle (by omega) (by omega)] at h32
      refine j_aload_n C dX7_goes_35 rfl ?_
      refine j_getR (j := 34) C fl_X7_89 dX7_goes_36 (M.c) rfl (M.r33) ?_
      refine j_iload_n C dX7_goes_39 rfl ?_
      refine j_ialdN C (M.t34) (⟨by omega, by decide⟩) dX7_goes_40 ?_
      refine j_if_ne (tgt := 58) C dX7_goes_41 (by decide) (fun h41 => ?_) (fun h41 => ?_)
      · skip
        refine j_iconst C dX7_goes_58 (v := 0) (by decide) ?_
        refine j_istore C dX7_goes_59 (by decide) rfl ?_
        refine j_aload_n C dX7_goes_61 rfl ?_
        refine j_getR (j := 54) C fl_X7_123 dX7_goes_62 (M.c) rfl (M.r53) ?_
        refine j_iload_n C dX7_goes_65 rfl ?_
        refine j_iload C dX7_goes_66 rfl ?_
        refine j_if_eq (tgt := 81) C dX7_goes_68 (by decide) (fun h68 => ?_) (fun h68 => ?_)
        · skip
          refine j_iconst C dX7_goes_81 (v := 0) (by decide) ?_
          exact J.le (lv1 := [some (.ref (sh.2.2 0)), some (.int (nI a)), some (.int (N 16 a)), some (.int (nI b)), none]) ⟨rfl, rfl, rfl, rfl, trivial⟩ (fin1 (by omega) q (by rw [mWish, if_neg (show ¬ N 34 b = 0 from h41)]) hall)
        · exact absurd (by decide) h68
      · replace h41 := Decidable.not_not.mp h41
        refine j_aload_n C dX7_goes_44 rfl ?_
        refine j_getR (j := 26) C fl_X7_65 dX7_goes_45 (M.c) rfl (M.r25) ?_
        refine j_iload_n C dX7_goes_48 rfl ?_
        refine j_ialdN C (M.t26) (⟨by omega, by decide⟩) dX7_goes_49 ?_
        refine j_iload_n C dX7_goes_50 rfl ?_
        refine j_icmp_ne (tgt := 58) C dX7_goes_51 (by decide) (fun h51 => ?_) (fun h51 => ?_)
        · skip
          refine j_iconst C dX7_goes_58 (v := 0) (by decide) ?_
          refine j_istore C dX7_goes_59 (by decide) rfl ?_
          refine j_aload_n C dX7_goes_61 rfl ?_
          refine j_getR (j := 54) C fl_X7_123 dX7_goes_62 (M.c) rfl (M.r53) ?_
          refine j_iload_n C dX7_goes_65 rfl ?_
          refine j_iload C dX7_goes_66 rfl ?_
          refine j_if_eq (tgt := 81) C dX7_goes_68 (by decide) (fun h68 => ?_) (fun h68 => ?_)
          · skip
            refine j_iconst C dX7_goes_81 (v := 0) (by decide) ?_
            exact J.le (lv1 := [some (.ref (sh.2.2 0)), some (.int (nI a)), some (.int (N 16 a)), some (.int (nI b)), none]) ⟨rfl, rfl, rfl, rfl, trivial⟩ (fin1 (by omega) q (by rw [mWish, if_pos (show N 34 b = 0 from h41), if_neg (show ¬ N 26 b = N 16 a from h51)]) hall)
          · exact absurd (by decide) h68
        · replace h51 := Decidable.not_not.mp h51
          refine j_iconst C dX7_goes_54 (v := 1) (by decide) ?_
          refine j_goto (tgt := 59) C dX7_goes_55 (by decide) ?_
          refine j_istore C dX7_goes_59 (by decide) rfl ?_
          refine j_aload_n C dX7_goes_61 rfl ?_
          refine j_getR (j := 54) C fl_X7_123 dX7_goes_62 (M.c) rfl (M.r53) ?_
          refine j_iload_n C dX7_goes_65 rfl ?_
          refine j_iload C dX7_goes_66 rfl ?_
          refine j_if_eq (tgt := 81) C dX7_goes_68 (by decide) (fun h68 => ?_) (fun h68 => ?_)
          · exact absurd h68 (by decide)
          · skip
            refine j_aload_n C dX7_goes_71 rfl ?_
            refine j_iconst C dX7_goes_72 (v := 1) (by decide) ?_
            refine j_iload_n C dX7_goes_73 rfl ?_
            refine j_iload_n C dX7_goes_74 rfl ?_
            refine j_callV3Ig C ml_X7_298 dX7_goes_75 (cM_says0 hg M (N := sc N q) hG hG8 hN hN3 hV hV30 (fun v hv => voteOk_sc (hvo v hv)) (k := 1) (x := nI a) (b := nI b) (vp_inN (by omega) (by decide)) (by rw [eta]; exact hp) (fun _ => vp_inN (by omega) (by decide))) ⟨by rw [M.c]; decide, by rw [M.c]; rfl⟩ ⟨Nat.le_of_ble_eq_true rfl, Nat.le_of_ble_eq_true rfl⟩ (Nat.le_of_ble_eq_true rfl) ⟨rfl, rfl⟩ ⟨Nat.zero_le _, Nat.zero_le _⟩ (fun r sh1 N1 hq => ?_)
            obtain ⟨e1, e2, ρ, e3⟩ := hq
            replace e1 := e1.symm
            subst e1 e2 e3
            rw [mSays_sc, sc_sr]
            refine j_goto (tgt := 82) C dX7_goes_78 (by decide) ?_
            exact J.le (lv1 := [some (.ref (sh.2.2 0)), some (.int (nI a)), some (.int (N 16 a)), some (.int (nI b)), none]) ⟨rfl, rfl, rfl, rfl, trivial⟩ (fin1 (by omega) _ (by rw [mWish, if_pos (show N 34 b = 0 from h41), if_pos (show N 26 b = N 16 a from h51)]) hall)
  refine j_aload_n C dX7_goes_0 rfl ?_
  refine j_getR (j := 16) C fl_X7_37 dX7_goes_1 (M.c) rfl (M.r15) ?_
  refine j_iload_n C dX7_goes_4 rfl ?_
  refine j_ialdN C (M.t16) (⟨by omega, by decide⟩) dX7_goes_5 ?_
  refine j_istore_n C dX7_goes_6 (by decide) rfl ?_
  refine j_iload_n C dX7_goes_7 rfl ?_
  refine j_aload_n C dX7_goes_8 rfl ?_
  refine j_getI C fl_X7_137 dX7_goes_9 (M.c) rfl ?_
  refine j_iconst C dX7_goes_12 (v := 1) (by decide) ?_
  refine j_isub C dX7_goes_13 ?_
  refine j_icmp_ne (tgt := 25) C dX7_goes_14 (by decide) (fun h14 => ?_) (fun h14 => ?_)
  · skip
    refine j_iconst C dX7_goes_25 (v := 0) (by decide) ?_
    refine j_istore_n C dX7_goes_26 (by decide) rfl ?_
    have z := key1 h14 0 (Nat.zero_le _) N (fun j hj => absurd hj (Nat.not_lt_zero j))
    rw [sc_self] at z
    exact z
  · replace h14 := Decidable.not_not.mp h14
    refine j_aload_n C dX7_goes_17 rfl ?_
    refine j_getR (j := 15) C fl_X7_34 dX7_goes_18 (M.c) rfl (M.r14) ?_
    refine j_iload_n C dX7_goes_21 rfl ?_
    refine j_iconst C dX7_goes_22 (v := 3) (by decide) ?_
    refine j_iastN C (M.t15) (⟨by omega, by decide⟩) dX7_goes_23 ?_
    refine j_vret C dX7_goes_24 ⟨rfl, N, ?_⟩
    rw [mGo, if_pos h14, ← sc_out (by decide), sc_self]
