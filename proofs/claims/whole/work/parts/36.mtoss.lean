/-! ===== THE REFERENCE: toss ===== -/
def mAll (N : WNm) (x : Int32) : Nat → Int64
  | 0 => (N 14 (tn x)).toInt64
  | b + 1 => mAll N x b + (if N 34 b = 1 ∧ N 35 b = x then (N 31 b).toInt64 else 0)
def mThrow1 (L : WNm) (j : Nat) : WNm := u2 (mBecomes L j 3) 3 (tn (L 25 j)) (L 3 (tn (L 25 j)) + L 31 j)
def mThrow (x w : Int32) (nB : Nat) : Nat → Int32 → Int32 → WNm → Int32 × WNm
  | 0, ls, _, L => (ls, L)
  | f + 1, ls, gn, L => if w ≤ gn then (ls, L) else (match mHeavy L x nB with
    | none => (ls, L)
    | some j => mThrow x w nB f (ls + L 31 j) (gn + L 30 j) (mThrow1 L j))
def mShN (N : WNm) (x ls : Int32) (al : Int64) (F : WNm) : Nat → WNm
  | 0 => F
  | b + 1 => if N 34 b = 1 ∧ N 35 b = x then u2 (mShN N x ls al F b) 3 (tn (mShN N x ls al F b 25 b)) (mShN N x ls al F b 3 (tn (mShN N x ls al F b 25 b)) - (ls.toInt64 * (mShN N x ls al F b 31 b).toInt64 / al).toInt32) else mShN N x ls al F b
def mShL (N : WNm) (x ls : Int32) (al : Int64) (F : WNm) : Nat → Int32
  | 0 => ls
  | b + 1 => if N 34 b = 1 ∧ N 35 b = x then mShL N x ls al F b - (ls.toInt64 * (mShN N x ls al F b 31 b).toInt64 / al).toInt32 else mShL N x ls al F b
def mTossEnd (N : WNm) (x ls : Int32) (F : WNm) (nB : Nat) : WNm := u2 (mShN N x ls (mAll N x nB) F nB) 0 3 (mShN N x ls (mAll N x nB) F nB 0 3 - mShL N x ls (mAll N x nB) F nB)
def mTossOk (N : WNm) (x w : Int32) (nB : Nat) : Int32 × WNm := ((mThrow x w nB (nB + 1) 0 0 N).1, mTossEnd N x (mThrow x w nB (nB + 1) 0 0 N).1 (mThrow x w nB (nB + 1) 0 0 N).2 nB)
def mToss (N : WNm) (x w : Int32) : Int32 × WNm := if 0 ≤ x ∧ x ≤ N 0 9 - 1 then (if 1 ≤ w ∧ w ≤ 100000 then (if N 15 (tn x) = 2 then (if mBalesOn N x (tn (N 0 23)) = 0 then (-2, N) else mTossOk N x w (tn (N 0 23))) else (-2, N)) else (-1, N)) else (-1, N)
theorem mThrow1_sc (L : WNm) (q : Nat → Nat → Int32) (j : Nat) : mThrow1 (sc L q) j = sc (mThrow1 L j) q := by
  unfold mThrow1 mBecomes
  rw [sc_out (by decide), sc_out (by decide), sc_out (by decide)]
  rfl
theorem mThrow1_row (L : WNm) (j : Nat) {i : Nat} (h : i ≠ 3 ∧ i ≠ 34 ∧ i ≠ 36) : mThrow1 L j i = L i := by
  rw [mThrow1, u2_row h.1, mBecomes, u2_row h.2.2, u2_row h.2.1]
theorem mShN_row (N : WNm) (x ls : Int32) (al : Int64) (F : WNm) {i : Nat} (h : i ≠ 3) : ∀ b, mShN N x ls al F b i = F i
  | 0 => rfl
  | b + 1 => by
    rw [mShN]
    split
    · rw [u2_row h, mShN_row N x ls al F h b]
    · exact mShN_row N x ls al F h b
def offB (L : WNm) (x : Int32) (b : Nat) : Int32 := if L 34 b = 1 ∧ L 35 b = x then 0 else 1
theorem offB_throw (L : WNm) (x : Int32) (j : Nat) : offB (mThrow1 L j) x = fun b => if b = j then 1 else offB L x b := by
  funext b
  unfold offB
  rw [mThrow1_row _ _ (by decide : 35 ≠ 3 ∧ 35 ≠ 34 ∧ 35 ≠ 36)]
  unfold mThrow1 mBecomes
  rw [u2_row (by decide), u2_row (by decide)]
  by_cases e : b = j
  · subst e; simp [u2]
  · simp [u2, e]

theorem cM_toss {l : Launch} {g : WGp} (hg : GOK g) {sh : WSh} {N : WNm} (M : MSh sh) {nG nB : Nat} (hG : N 0 9 = nI nG) (hG8 : nG ≤ 8) (hN : N 0 23 = nI nB) (hN3 : nB ≤ 300) (ho : ∀ k, k < nB → vp_in (N 25 k) 10) (x w : Int32) (hal : 0 ≤ x ∧ x ≤ N 0 9 - 1 → ¬ mAll N x nB = 0) : CT l g yX7_toss cX7_toss 11 (some .int) (RM 4 0 0) [.ref (sh.2.2 0), .int x, .int w] sh N (QI g (fun r sh1 N1 => sh1 = sh ∧ r = (mToss N x w).1 ∧ ∃ q, N1 = sc (mToss N x w).2 q)) := by
  refine ent hg (by decide +kernel) (Nat.le_of_ble_eq_true rfl) ?_
  intro p e s m args below meth c C hname
  have key3 : ¬ mAll N x nB = 0 → ∀ (ls : Int32) (F : WNm), F 0 23 = nI nB → F 25 = N 25 → mToss N x w = (ls, mTossEnd N x ls F nB) → ∀ q, (∀ j, j < nB → q 55 j = b2 (N 34 j = 1 ∧ N 35 j = x)) → ∀ b, b ≤ nB → J p l e (RM 4 0 0) s m args below meth c (MQ below (QI g (fun r sh1 N1 => sh1 = sh ∧ r = (mToss N x w).1 ∧ ∃ q, N1 = sc (mToss N x w).2 q)) args s 0 0 g.A) g 11 sh (sc (mShN N x ls (mAll N x nB) F b) q) 0 0 200 [some (.ref (sh.2.2 0)), some (.int x), some (.int w), some (.long (mAll N x nB)), none, some (.int ls), none, none, some (.int (mShL N x ls (mAll N x nB) F b)), some (.int (nI b)), none] [] := by
    intro hz ls F h23 h25 em q hall
    refine up_ind (n := nB) ?_
    intro b hb ih
    have e23 : mShN N x ls (mAll N x nB) F b 0 23 = nI nB := by rw [mShN_row _ _ _ _ _ (by decide)]; exact h23
    have e25 : b < nB → vp_in (mShN N x ls (mAll N x nB) F b 25 b) 10 := fun hb => by rw [mShN_row _ _ _ _ _ (by decide), h25]; exact ho b hb
    refine j_iload C dX7_toss_200 rfl ?_
    refine j_aload_n C dX7_toss_202 rfl ?_
    refine j_getI C fl_X7_143 dX7_toss_203 (M.c) rfl ?_
    refine j_icmp_ge (tgt := 269) C dX7_toss_206 (by decide) (fun h206 => ?_) (fun h206 => ?_)
    · skip
      have h206 : mShN N x ls (mAll N x nB) F b 0 23 ≤ nI b := h206
      rw [e23, n_nle (by omega) (by omega)] at h206
      obtain rfl : b = nB := by omega
      refine j_aload_n C dX7_toss_269 rfl ?_
      refine j_dup C dX7_toss_270 rfl ?_
      refine j_getI C fl_X7_159 dX7_toss_271 (M.c) rfl ?_
      refine j_iload C dX7_toss_274 rfl ?_
      refine j_isub C dX7_toss_276 ?_
      refine j_putI C fl_X7_159 dX7_toss_277 (M.c) rfl rfl rfl rfl ?_
      refine j_iload C dX7_toss_280 rfl ?_
      refine j_iret C dX7_toss_282 rfl ⟨rfl, by rw [em], q, ?_⟩
      rw [em, mTossEnd, sc_out (by decide)]
      rfl
    · skip
      have h206 : ¬ mShN N x ls (mAll N x nB) F b 0 23 ≤ nI b := h206
      rw [e23, n_nle (by omega) (by omega)] at h206
      refine j_aload_n C dX7_toss_209 rfl ?_
      refine j_getR (j := 55) C fl_X7_126 dX7_toss_210 (M.c) rfl (M.r54) ?_
      refine j_iload C dX7_toss_213 rfl ?_
      refine j_zaldN C (M.t55) (⟨by omega, by decide⟩) dX7_toss_215 ?_
      rw [show sc (mShN N x ls (mAll N x nB) F b) q 55 b = b2 (N 34 b = 1 ∧ N 35 b = x) from hall b (by omega)]
      refine j_if_ne (tgt := 222) C dX7_toss_216 (by decide) (fun h216 => ?_) (fun h216 => ?_)
      · skip
        replace h216 := b2_ne0.mp h216
        refine j_iload C dX7_toss_222 rfl ?_
        refine j_i2l C dX7_toss_224 ?_
        refine j_aload_n C dX7_toss_225 rfl ?_
        refine j_getR (j := 31) C fl_X7_80 dX7_toss_226 (M.c) rfl (M.r30) ?_
        refine j_iload C dX7_toss_229 rfl ?_
        refine j_ialdN C (M.t31) (⟨by omega, by decide⟩) dX7_toss_231 ?_
        refine j_i2l C dX7_toss_232 ?_
        refine j_lmul C dX7_toss_233 ?_
        refine j_lload_n C dX7_toss_234 rfl ?_
        refine j_ldiv C dX7_toss_235 (hz) ?_
        refine j_l2i C dX7_toss_236 ?_
        refine j_istore C dX7_toss_237 (by decide) rfl ?_
        refine j_aload_n C dX7_toss_239 rfl ?_
        refine j_getR (j := 3) C fl_X7_7 dX7_toss_240 (M.c) rfl (M.r2) ?_
        refine j_aload_n C dX7_toss_243 rfl ?_
        refine j_getR (j := 25) C fl_X7_62 dX7_toss_244 (M.c) rfl (M.r24) ?_
        refine j_iload C dX7_toss_247 rfl ?_
        refine j_ialdN C (M.t25) (⟨by omega, by decide⟩) dX7_toss_249 ?_
        refine j_dup2 C dX7_toss_250 rfl rfl ?_
        refine j_iald C (M.t3) (e25 (by omega)) dX7_toss_251 ?_
        refine j_iload C dX7_toss_252 rfl ?_
        refine j_isub C dX7_toss_254 ?_
        refine j_iast C (M.t3) (e25 (by omega)) dX7_toss_255 ?_
        refine j_iload C dX7_toss_256 rfl ?_
        refine j_iload C dX7_toss_258 rfl ?_
        refine j_isub C dX7_toss_260 ?_
        refine j_istore C dX7_toss_261 (by decide) rfl ?_
        refine j_iincN C dX7_toss_263 rfl (by decide) rfl ?_
        refine j_goto (tgt := 200) C dX7_toss_266 (by decide) ?_
        have z := ih (by omega)
        rw [mShN, mShL, if_pos h216, if_pos h216] at z
        rw [sc_out (by decide)]
        exact J.le (lv1 := [some (.ref (sh.2.2 0)), some (.int x), some (.int w), some (.long (mAll N x nB)), none, some (.int ls), none, none, some (.int (mShL N x ls (mAll N x nB) F b - (ls.toInt64 * (mShN N x ls (mAll N x nB) F b 31 b).toInt64 / (mAll N x nB)).toInt32)), some (.int (nI (b + 1))), none]) ⟨rfl, rfl, rfl, rfl, rfl, rfl, rfl, trivial⟩ z
      · replace h216 := Decidable.not_not.mp h216
        replace h216 := b2_eq0.mp h216
        refine j_goto (tgt := 263) C dX7_toss_219 (by decide) ?_
        refine j_iincN C dX7_toss_263 rfl (by decide) rfl ?_
        refine j_goto (tgt := 200) C dX7_toss_266 (by decide) ?_
        have z := ih (by omega)
        rw [mShN, mShL, if_neg h216, if_neg h216] at z
        exact z
  have key2 : ¬ mAll N x nB = 0 → ∀ (f : Nat) (ls gn : Int32) (L : WNm) (q : Nat → Nat → Int32), cnt0 (offB L x) nB < f → L 0 23 = nI nB → L 25 = N 25 → mToss N x w = ((mThrow x w nB f ls gn L).1, mTossEnd N x (mThrow x w nB f ls gn L).1 (mThrow x w nB f ls gn L).2 nB) → (∀ j, j < nB → q 55 j = b2 (N 34 j = 1 ∧ N 35 j = x)) → J p l e (RM 4 0 0) s m args below meth c (MQ below (QI g (fun r sh1 N1 => sh1 = sh ∧ r = (mToss N x w).1 ∧ ∃ q, N1 = sc (mToss N x w).2 q)) args s 0 0 g.A) g 11 sh (sc L q) 0 0 119 [some (.ref (sh.2.2 0)), some (.int x), some (.int w), some (.long (mAll N x nB)), none, some (.int ls), some (.int gn), some (.int (oI (mHeavy L x nB))), none, none, none] [] := by
    intro hz f
    induction f with
    | zero => intro ls gn L q h; exact absurd h (Nat.not_lt_zero _)
    | succ f ih =>
      intro ls gn L q hcnt h23 h25 em hall
      have done : mThrow x w nB (f + 1) ls gn L = (ls, L) → ∀ z : Int32, J p l e (RM 4 0 0) s m args below meth c (MQ below (QI g (fun r sh1 N1 => sh1 = sh ∧ r = (mToss N x w).1 ∧ ∃ q, N1 = sc (mToss N x w).2 q)) args s 0 0 g.A) g 11 sh (sc L q) 0 0 193 [some (.ref (sh.2.2 0)), some (.int x), some (.int w), some (.long (mAll N x nB)), none, some (.int ls), some (.int gn), some (.int z), none, none, none] [] := by
        intro eT z
        rw [eT] at em
        refine j_iload C dX7_toss_193 rfl ?_
        refine j_istore C dX7_toss_195 (by decide) rfl ?_
        refine j_iconst C dX7_toss_197 (v := 0) (by decide) ?_
        refine j_istore C dX7_toss_198 (by decide) rfl ?_
        exact J.le (lv1 := [some (.ref (sh.2.2 0)), some (.int x), some (.int w), some (.long (mAll N x nB)), none, some (.int ls), none, none, some (.int ls), some (.int 0), none]) ⟨rfl, rfl, rfl, rfl, rfl, rfl, rfl, trivial⟩ (key3 hz ls L h23 h25 em q hall 0 (Nat.zero_le _))
      by_cases hw : w ≤ gn
      · skip
        refine j_iload C dX7_toss_119 rfl ?_
        refine j_iload_n C dX7_toss_121 rfl ?_
        refine j_icmp_ge (tgt := 193) C dX7_toss_122 (by decide) (fun h122 => ?_) (fun h122 => ?_)
        · skip
          exact done (by rw [mThrow, if_pos hw]) _
        · skip
          exact absurd hw h122
      · rcases hb : mHeavy L x nB with _ | j
        · skip
          refine j_iload C dX7_toss_119 rfl ?_
          refine j_iload_n C dX7_toss_121 rfl ?_
          refine j_icmp_ge (tgt := 193) C dX7_toss_122 (by decide) (fun h122 => ?_) (fun h122 => ?_)
          · skip
            exact absurd h122 hw
          · skip
            refine j_iload C dX7_toss_125 rfl ?_
            refine j_if_lt (tgt := 193) C dX7_toss_127 (by decide) (fun h127 => ?_) (fun h127 => ?_)
            · skip
              exact done (by rw [mThrow, if_neg hw, hb]) _
            · skip
              exact absurd (show oI none < 0 by decide) h127
        · have hj := best_lt _ _ nB j hb
          rw [show oI (some j) = nI j from rfl]
          rw [mThrow, if_neg hw, hb] at em
          simp only at em
          refine j_iload C dX7_toss_119 rfl ?_
          refine j_iload_n C dX7_toss_121 rfl ?_
          refine j_icmp_ge (tgt := 193) C dX7_toss_122 (by decide) (fun h122 => ?_) (fun h122 => ?_)
          · skip
            exact absurd h122 hw
          · skip
            refine j_iload C dX7_toss_125 rfl ?_
            refine j_if_lt (tgt := 193) C dX7_toss_127 (by decide) (fun h127 => ?_) (fun h127 => ?_)
            · skip
              exact absurd h127 (nI_pos (by omega))
            · skip
              refine j_aload_n C dX7_toss_130 rfl ?_
              refine j_iload C dX7_toss_131 rfl ?_
              refine j_iconst C dX7_toss_133 (v := 3) (by decide) ?_
              refine j_callV2V C ml_X7_313 dX7_toss_134 (cM_becomes hg M (N := sc L q) (by omega) _) ⟨by rw [M.c]; decide, by rw [M.c]; rfl⟩ ⟨Nat.le_of_ble_eq_true rfl, Nat.le_of_ble_eq_true rfl⟩ (Nat.le_of_ble_eq_true rfl) ⟨rfl, rfl⟩ ⟨Nat.zero_le _, Nat.zero_le _⟩ ?_
              refine j_iload C dX7_toss_137 rfl ?_
              refine j_aload_n C dX7_toss_139 rfl ?_
              refine j_getR (j := 31) C fl_X7_80 dX7_toss_140 (M.c) rfl (M.r30) ?_
              refine j_iload C dX7_toss_143 rfl ?_
              refine j_ialdN C (M.t31) (⟨by omega, by decide⟩) dX7_toss_145 ?_
              refine j_iadd C dX7_toss_146 ?_
              refine j_istore C dX7_toss_147 (by decide) rfl ?_
              refine j_iload C dX7_toss_149 rfl ?_
              refine j_aload_n C dX7_toss_151 rfl ?_
              refine j_getR (j := 30) C fl_X7_77 dX7_toss_152 (M.c) rfl (M.r29) ?_
              refine j_iload C dX7_toss_155 rfl ?_
              refine j_ialdN C (M.t30) (⟨by omega, by decide⟩) dX7_toss_157 ?_
              refine j_iadd C dX7_toss_158 ?_
              refine j_istore C dX7_toss_159 (by decide) rfl ?_
              refine j_aload_n C dX7_toss_161 rfl ?_
              refine j_getR (j := 3) C fl_X7_7 dX7_toss_162 (M.c) rfl (M.r2) ?_
              refine j_aload_n C dX7_toss_165 rfl ?_
              refine j_getR (j := 25) C fl_X7_62 dX7_toss_166 (M.c) rfl (M.r24) ?_
              refine j_iload C dX7_toss_169 rfl ?_
              refine j_ialdN C (M.t25) (⟨by omega, by decide⟩) dX7_toss_171 ?_
              refine j_dup2 C dX7_toss_172 rfl rfl ?_
              refine j_iald C (M.t3) (by show vp_in (L 25 j) 10; rw [h25]; exact ho j hj.1) dX7_toss_173 ?_
              refine j_aload_n C dX7_toss_174 rfl ?_
              refine j_getR (j := 31) C fl_X7_80 dX7_toss_175 (M.c) rfl (M.r30) ?_
              refine j_iload C dX7_toss_178 rfl ?_
              refine j_ialdN C (M.t31) (⟨by omega, by decide⟩) dX7_toss_180 ?_
              refine j_iadd C dX7_toss_181 ?_
              refine j_iast C (M.t3) (by show vp_in (L 25 j) 10; rw [h25]; exact ho j hj.1) dX7_toss_182 ?_
              refine j_aload_n C dX7_toss_183 rfl ?_
              refine j_iload_n C dX7_toss_184 rfl ?_
              refine j_callV1I C ml_X7_325 dX7_toss_185 (cM_heaviest hg M (N := mThrow1 (sc L q) j) (n := nB) (by rw [mThrow1_row _ _ (by decide)]; exact h23) hN3 x) ⟨by rw [M.c]; decide, by rw [M.c]; rfl⟩ ⟨Nat.le_of_ble_eq_true rfl, Nat.le_of_ble_eq_true rfl⟩ (Nat.le_of_ble_eq_true rfl) ⟨rfl, rfl⟩ ⟨Nat.zero_le _, Nat.zero_le _⟩ ?_
              rw [mThrow1_sc]
              refine j_istore C dX7_toss_188 (by decide) rfl ?_
              refine j_goto (tgt := 119) C dX7_toss_190 (by decide) ?_
              have eo := offB_throw L x j
              exact ih (ls + L 31 j) (gn + L 30 j) (mThrow1 L j) q (by rw [eo]; have := cnt0_set (τ := offB L x) (j := j) (if_pos hj.2) hj.1; omega) (by rw [mThrow1_row _ _ (by decide)]; exact h23) (by rw [mThrow1_row _ _ (by decide)]; exact h25) em hall
  have key1 : ¬ mAll N x nB = 0 → mToss N x w = mTossOk N x w nB → ∀ b, b ≤ nB → ∀ q : Nat → Nat → Int32, (∀ j, j < b → q 55 j = b2 (N 34 j = 1 ∧ N 35 j = x)) → J p l e (RM 4 0 0) s m args below meth c (MQ below (QI g (fun r sh1 N1 => sh1 = sh ∧ r = (mToss N x w).1 ∧ ∃ q, N1 = sc (mToss N x w).2 q)) args s 0 0 g.A) g 11 sh (sc N q) 0 0 52 [some (.ref (sh.2.2 0)), some (.int x), some (.int w), some (.long (mAll N x b)), none, some (.int (nI b)), none, none, none, none, none] [] := by
    intro hz em
    refine up_ind (n := nB) ?_
    intro b hb ih q hall
    refine j_iload C dX7_toss_52 rfl ?_
    refine j_aload_n C dX7_toss_54 rfl ?_
    refine j_getI C fl_X7_143 dX7_toss_55 (M.c) rfl ?_
    refine j_icmp_ge (tgt := 106) C dX7_toss_58 (by decide) (fun h58 => ?_) (fun h58 => ?_)
    · skip
      have h58 : N 0 23 ≤ nI b := h58
      rw [hN, n_nle (by omega) (by omega)] at h58
      obtain rfl : b = nB := by omega
      refine j_iconst C dX7_toss_106 (v := 0) (by decide) ?_
      refine j_istore C dX7_toss_107 (by decide) rfl ?_
      refine j_iconst C dX7_toss_109 (v := 0) (by decide) ?_
      refine j_istore C dX7_toss_110 (by decide) rfl ?_
      refine j_aload_n C dX7_toss_112 rfl ?_
      refine j_iload_n C dX7_toss_113 rfl ?_
      refine j_callV1I C ml_X7_325 dX7_toss_114 (cM_heaviest hg M (N := sc N q) (n := b) hN hN3 x) ⟨by rw [M.c]; decide, by rw [M.c]; rfl⟩ ⟨Nat.le_of_ble_eq_true rfl, Nat.le_of_ble_eq_true rfl⟩ (Nat.le_of_ble_eq_true rfl) ⟨rfl, rfl⟩ ⟨Nat.zero_le _, Nat.zero_le _⟩ ?_
      refine j_istore C dX7_toss_117 (by decide) rfl ?_
      exact key2 hz (b + 1) 0 0 N q (by have := cnt0_le (offB N x) b; omega) hN rfl em hall
    · skip
      have h58 : ¬ N 0 23 ≤ nI b := h58
      rw [hN, n_nle (by omega) (by omega)] at h58
      refine j_aload_n C dX7_toss_61 rfl ?_
      refine j_getR (j := 55) C fl_X7_126 dX7_toss_62 (M.c) rfl (M.r54) ?_
      refine j_iload C dX7_toss_65 rfl ?_
      refine j_aload_n C dX7_toss_67 rfl ?_
      refine j_iload C dX7_toss_68 rfl ?_
      refine j_iload_n C dX7_toss_70 rfl ?_
      refine j_callV2I C ml_X7_171 dX7_toss_71 (cM_isOn hg M (N := sc N q) (k := b) (by omega) x) ⟨by rw [M.c]; decide, by rw [M.c]; rfl⟩ ⟨Nat.le_of_ble_eq_true rfl, Nat.le_of_ble_eq_true rfl⟩ (Nat.le_of_ble_eq_true rfl) ⟨rfl, rfl⟩ ⟨Nat.zero_le _, Nat.zero_le _⟩ ?_
      rw [show b2 (sc N q 34 b = 1 ∧ sc N q 35 b = x) = b2 (N 34 b = 1 ∧ N 35 b = x) from rfl]
      refine j_zastN C (M.t55) (⟨by omega, by decide⟩) (b2_nar _) dX7_toss_74 ?_
      rw [sc_in (by decide)]
      refine j_lload_n C dX7_toss_75 rfl ?_
      refine j_aload_n C dX7_toss_76 rfl ?_
      refine j_getR (j := 55) C fl_X7_126 dX7_toss_77 (M.c) rfl (M.r54) ?_
      refine j_iload C dX7_toss_80 rfl ?_
      refine j_zaldN C (M.t55) (⟨by omega, by decide⟩) dX7_toss_82 ?_
      rw [show sc N (u2 q 55 b (b2 (N 34 b = 1 ∧ N 35 b = x))) 55 b = (b2 (N 34 b = 1 ∧ N 35 b = x)) from u2_eq q 55 b _]
      refine j_if_eq (tgt := 97) C dX7_toss_83 (by decide) (fun h83 => ?_) (fun h83 => ?_)
      · skip
        replace h83 := b2_eq0.mp h83
        refine j_lconst C dX7_toss_97 (v := 0) (by decide) ?_
        refine j_ladd C dX7_toss_98 ?_
        refine j_lstore_n C dX7_toss_99 (by decide) rfl ?_
        refine j_iincN C dX7_toss_100 rfl (by decide) rfl ?_
        refine j_goto (tgt := 52) C dX7_toss_103 (by decide) ?_
        have z := ih (by omega) (u2 q 55 b (b2 (N 34 b = 1 ∧ N 35 b = x))) (fun j hj => by rcases Nat.lt_succ_iff_lt_or_eq.mp hj with y | y; rw [u2_ne (fun z => by omega)]; exact hall j y; rw [y, u2_eq])
        rw [mAll, if_neg h83] at z
        exact z
      · skip
        replace h83 := b2_ne0.mp h83
        refine j_aload_n C dX7_toss_86 rfl ?_
        refine j_getR (j := 31) C fl_X7_80 dX7_toss_87 (M.c) rfl (M.r30) ?_
        refine j_iload C dX7_toss_90 rfl ?_
        refine j_ialdN C (M.t31) (⟨by omega, by decide⟩) dX7_toss_92 ?_
        refine j_i2l C dX7_toss_93 ?_
        refine j_goto (tgt := 98) C dX7_toss_94 (by decide) ?_
        refine j_ladd C dX7_toss_98 ?_
        refine j_lstore_n C dX7_toss_99 (by decide) rfl ?_
        refine j_iincN C dX7_toss_100 rfl (by decide) rfl ?_
        refine j_goto (tgt := 52) C dX7_toss_103 (by decide) ?_
        have z := ih (by omega) (u2 q 55 b (b2 (N 34 b = 1 ∧ N 35 b = x))) (fun j hj => by rcases Nat.lt_succ_iff_lt_or_eq.mp hj with y | y; rw [u2_ne (fun z => by omega)]; exact hall j y; rw [y, u2_eq])
        rw [mAll, if_pos h83] at z
        exact z
  refine j_aload_n C dX7_toss_0 rfl ?_
  refine j_iload_n C dX7_toss_1 rfl ?_
  refine j_callV1I C ml_X7_155 dX7_toss_2 (cM_isGalley hg M _) ⟨by rw [M.c]; decide, by rw [M.c]; rfl⟩ ⟨Nat.le_of_ble_eq_true rfl, Nat.le_of_ble_eq_true rfl⟩ (Nat.le_of_ble_eq_true rfl) ⟨rfl, rfl⟩ ⟨Nat.zero_le _, Nat.zero_le _⟩ ?_
  refine j_if_eq (tgt := 18) C dX7_toss_5 (by decide) (fun h5 => ?_) (fun h5 => ?_)
  · replace h5 := b2_eq0.mp h5
    refine j_iconst C dX7_toss_18 (v := (-1)) (by decide) ?_
    exact j_iret C dX7_toss_19 rfl ⟨rfl, by rw [mToss, show tn (N 0 23) = nB by rw [hN]; exact nI_clamp (by omega), if_neg h5], N, by rw [mToss, show tn (N 0 23) = nB by rw [hN]; exact nI_clamp (by omega), if_neg h5, sc_self]⟩
  · replace h5 := b2_ne0.mp h5
    refine j_iload_n C dX7_toss_8 rfl ?_
    refine j_iconst C dX7_toss_9 (v := 1) (by decide) ?_
    refine j_ldc C kc_X7_150 dX7_toss_10 ?_
    refine j_callS3I C ml_X7_133 dX7_toss_12 (cM_in hg _ _ _) ⟨Nat.le_of_ble_eq_true rfl, Nat.le_of_ble_eq_true rfl⟩ (Nat.le_of_ble_eq_true rfl) ⟨rfl, rfl⟩ ⟨Nat.zero_le _, Nat.zero_le _⟩ ?_
    refine j_if_ne (tgt := 20) C dX7_toss_15 (by decide) (fun h15 => ?_) (fun h15 => ?_)
    · replace h15 := b2_ne0.mp h15
      refine j_aload_n C dX7_toss_20 rfl ?_
      refine j_getR (j := 15) C fl_X7_34 dX7_toss_21 (M.c) rfl (M.r14) ?_
      refine j_iload_n C dX7_toss_24 rfl ?_
      refine j_iald C (M.t15) (inG h5 hG hG8 (by decide)) dX7_toss_25 ?_
      refine j_iconst C dX7_toss_26 (v := 2) (by decide) ?_
      refine j_icmp_ne (tgt := 38) C dX7_toss_27 (by decide) (fun h27 => ?_) (fun h27 => ?_)
      · skip
        refine j_bipush C dX7_toss_38 (v := (-2)) (by decide) ?_
        exact j_iret C dX7_toss_40 rfl ⟨rfl, by rw [mToss, show tn (N 0 23) = nB by rw [hN]; exact nI_clamp (by omega), if_pos h5, if_pos h15, if_neg h27], N, by rw [mToss, show tn (N 0 23) = nB by rw [hN]; exact nI_clamp (by omega), if_pos h5, if_pos h15, if_neg h27, sc_self]⟩
      · replace h27 := Decidable.not_not.mp h27
        refine j_aload_n C dX7_toss_30 rfl ?_
        refine j_iload_n C dX7_toss_31 rfl ?_
        refine j_callV1I C ml_X7_322 dX7_toss_32 (cM_balesOn hg M hN hN3 x) ⟨by rw [M.c]; decide, by rw [M.c]; rfl⟩ ⟨Nat.le_of_ble_eq_true rfl, Nat.le_of_ble_eq_true rfl⟩ (Nat.le_of_ble_eq_true rfl) ⟨rfl, rfl⟩ ⟨Nat.zero_le _, Nat.zero_le _⟩ ?_
        refine j_if_ne (tgt := 41) C dX7_toss_35 (by decide) (fun h35 => ?_) (fun h35 => ?_)
        · skip
          refine j_aload_n C dX7_toss_41 rfl ?_
          refine j_getR (j := 14) C fl_X7_31 dX7_toss_42 (M.c) rfl (M.r13) ?_
          refine j_iload_n C dX7_toss_45 rfl ?_
          refine j_iald C (M.t14) (inG h5 hG hG8 (by decide)) dX7_toss_46 ?_
          refine j_i2l C dX7_toss_47 ?_
          refine j_lstore_n C dX7_toss_48 (by decide) rfl ?_
          refine j_iconst C dX7_toss_49 (v := 0) (by decide) ?_
          refine j_istore C dX7_toss_50 (by decide) rfl ?_
          have z := key1 (hal h5) (by rw [mToss, show tn (N 0 23) = nB by rw [hN]; exact nI_clamp (by omega), if_pos h5, if_pos h15, if_pos h27, if_neg h35]) 0 (Nat.zero_le _) N (fun j hj => absurd hj (Nat.not_lt_zero j))
          rw [sc_self] at z
          exact z
        · replace h35 := Decidable.not_not.mp h35
          refine j_bipush C dX7_toss_38 (v := (-2)) (by decide) ?_
          exact j_iret C dX7_toss_40 rfl ⟨rfl, by rw [mToss, show tn (N 0 23) = nB by rw [hN]; exact nI_clamp (by omega), if_pos h5, if_pos h15, if_pos h27, if_pos h35], N, by rw [mToss, show tn (N 0 23) = nB by rw [hN]; exact nI_clamp (by omega), if_pos h5, if_pos h15, if_pos h27, if_pos h35, sc_self]⟩
    · replace h15 := b2_eq0.mp (Decidable.not_not.mp h15)
      refine j_iconst C dX7_toss_18 (v := (-1)) (by decide) ?_
      exact j_iret C dX7_toss_19 rfl ⟨rfl, by rw [mToss, show tn (N 0 23) = nB by rw [hN]; exact nI_clamp (by omega), if_pos h5, if_neg h15], N, by rw [mToss, show tn (N 0 23) = nB by rw [hN]; exact nI_clamp (by omega), if_pos h5, if_neg h15, sc_self]⟩
