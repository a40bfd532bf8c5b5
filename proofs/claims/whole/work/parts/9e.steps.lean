/-! ===== THE STEPS OF THE LAW ===== -/
section Rows
variable {p : Program} {l : Launch} {e : Env} {R : Room} {s : State} {m : MethodId} {args : Array Value} {below : List Frame} {meth : Method} {c : Code} {Q : State → Prop} {g : WGp} {nL : Nat} {own : String} {cc : ByteArray} {ret : Option FieldType}
variable {sh : WSh} {N : WNm} {cells slots pc : Nat} {lv : List (Option Value)} {st : List Value}
/-- a number of the script -/
theorem l_arg (C : Cx p s m args meth c g nL own cc ret) {b L i k : Nat} {n : Int} {xs : Nat → Int32} (hT : va_T .int b L (fun j => .int (xs j)) g.A s s.heap) (hk : i + k < L) (hL : L ≤ 2560) (hn : Int32.ofInt n = nI k) (h0 : lv[0]? = some (some (.ref b))) (h3 : lv[3]? = some (some (.int (nI i)))) (d0 : decode cc pc = .ok (.aload_n 0, 1)) (d1 : decode cc (pc + 1) = .ok (.iload_n 3, 1)) (d2 : decode cc (pc + 1 + 1) = .ok (.iconst n, 1)) (d3 : decode cc (pc + 1 + 1 + 1) = .ok (.iadd, 1)) (d4 : decode cc (pc + 1 + 1 + 1 + 1) = .ok (.iaload, 1)) (kk : J p l e R s m args below meth c Q g nL sh N cells slots (pc + 5) lv (.int (xs (i + k)) :: st)) : J p l e R s m args below meth c Q g nL sh N cells slots pc lv st := by
  refine j_aload_n C d0 h0 ?_
  refine j_iload_n C d1 h3 ?_
  refine j_iconst C d2 hn ?_
  refine j_iadd C d3 ?_
  rw [nI_add]
  exact j_ti C hT hk (by omega) d4 kk
end Rows

theorem RIN.mg {Nr N : WNm} {base : Nat} {ws : List Int32} {out : List (Int32 × Int32)} (h : RIN Nr N base ws out) (K : WNm) : RIN (MG Nr K) (MG N K) base ws out := by
  obtain ⟨h1, h2, h3, h4, h5, h6, h7⟩ := h
  refine ⟨h1, h2, h3, (pile2_cong (N := Nr) (N' := MG Nr K) (fun j _ => ⟨rfl, rfl⟩)).trans h4, fun a a0 a1 a2 a3 => ?_, h6, h7⟩
  unfold MG
  split
  · exact h5 a a0 a1 a2 a3
  · rfl
theorem VR.mg {N N2 : WNm} {n base nV : Nat} {k r : Int32} (h : VR N n base nV k r N2) (K : WNm) : VR (MG N K) n base nV k r (MG N2 K) := by
  rcases h with ⟨a, b, c⟩ | ⟨a, b, c, d⟩ | ⟨a, b, ws, out, Nr, hR, hc⟩
  · exact Or.inl ⟨a, b, by rw [c]⟩
  · exact Or.inr (Or.inl ⟨a, b, c, by rw [d]⟩)
  · refine Or.inr (Or.inr ⟨a, b, ws, out, MG Nr K, hR.mg K, ?_⟩)
    rcases hc with ⟨x, y, z⟩ | ⟨x, y, z, w⟩
    · exact Or.inl ⟨x, y, by rw [z, MG_u2 _ _ (by decide)]⟩
    · refine Or.inr ⟨x, y, z, ?_⟩
      rw [w]
      unfold mVoteN
      rw [MG_u2 _ _ (by decide), MG_u2 _ _ (by decide), MG_u2 _ _ (by decide), MG_u2 _ _ (by decide), MG_u2 _ _ (by decide)]
      rfl
theorem VR.hi {N N2 : WNm} {n base nV : Nat} {k r : Int32} (h : VR N n base nV k r N2) : ∀ i, 55 < i → N2 i = N i := fun i hi => by
  rcases h with ⟨a, b, c⟩ | ⟨a, b, c, d⟩ | ⟨a, b, ws, out, Nr, hR, hc⟩
  · rw [c]
  · rw [d]
  · have z := hR.2.2.2.2.1 i (by omega) (by omega) (by omega) (by omega)
    rcases hc with ⟨_, _, w⟩ | ⟨_, _, _, w⟩
    · rw [w, u2_row (by omega)]; exact z
    · rw [w]
      unfold mVoteN
      rw [u2_row (by omega), u2_row (by omega), u2_row (by omega), u2_row (by omega), u2_row (by omega)]
      exact z

theorem ro_known (T : WNm) (x w : Int32) : (mKnownP T x w).2 = T := by
  unfold mKnownP
  simp only [apply_ite Prod.snd, ite_self]

theorem ro_parts (T : WNm) (x w : Int32) : (mParts T x w).2 = T := by
  unfold mParts
  simp only [apply_ite Prod.snd, ite_self]

theorem ro_coins (T : WNm) (w : Int32) : (mCoins T w).2 = T := by
  unfold mCoins
  simp only [apply_ite Prod.snd, ite_self]

theorem ro_about (T : WNm) (x w : Int32) : (mAbout T x w).2 = T := by
  unfold mAbout
  simp only [apply_ite Prod.snd, ite_self]

theorem ro_count (T : WNm) (w : Int32) : (mCount T w).2 = T := by
  unfold mCount
  simp only [apply_ite Prod.snd, ite_self]

theorem ro_ship (T : WNm) (x w : Int32) : (mShip T x w).2 = T := by
  unfold mShip
  simp only [apply_ite Prod.snd, ite_self]

theorem lw_purse {p : Program} {l : Launch} {e : Env} {s : State} {m : MethodId} {args : Array Value} {below : List Frame} {meth : Method} {c : Code} {Q : State → Prop} {g : WGp} {ret : Option FieldType} (C : Cx p s m args meth c g 4 RL cL_law ret) {o : Nat → Nat} (hX : HX g o) (hX2 : HX2 g) {b L i : Nat} {xs : Nat → Int32} (hT : va_T .int b L (fun j => .int (xs j)) g.A s s.heap) (hi : i + 5 ≤ L) (hL : L ≤ 2560) {sh : WSh} {N : WNm} {cells slots : Nat} (hc : cells + 10 ≤ 600000 ∧ slots + 1084 ≤ 7302250) (h : JI o sh N) (kk : ∀ (sh2 : WSh) (N2 : WNm), JI o sh2 N2 → J p l e room_1 s m args below meth c Q g 4 sh2 N2 (cells + 10) (slots + 1084) 798 [some (.ref b), some (.ref (sh2.2.2 100)), some (.ref (sh2.2.2 0)), some (.int (nI i))] []) : J p l e room_1 s m args below meth c Q g 4 sh N cells slots 128 [some (.ref b), some (.ref (sh.2.2 100)), some (.ref (sh.2.2 0)), some (.int (nI i))] [] := by
  have hg := C.2.2.2.2.2.2.1
  have hop := h.op
  obtain ⟨nG, nB, nV, nP, dy, kG, kB, kV, nT, ln, k, rl, hop⟩ := hop
  obtain ⟨X, hN, hI, hK, hrl⟩ := hop
  refine j_aload_n C dL_law_128 rfl ?_
  refine l_arg (k := 1) C hT (by omega) hL (by decide) rfl rfl dL_law_129 dL_law_130 dL_law_131 dL_law_132 dL_law_133 ?_
  refine l_arg (k := 2) C hT (by omega) hL (by decide) rfl rfl dL_law_134 dL_law_135 dL_law_136 dL_law_137 dL_law_138 ?_
  refine j_callV2Ig C ml_L_13 dL_law_139 (cX_purse hg X hN hI  (xs (i + 1)) (xs (i + 2))) ⟨by rw [X.c (i := 100) (c := 6) (by decide)]; decide, by rw [X.c (i := 100) (c := 6) (by decide)]; rfl⟩ ⟨Nat.le_of_ble_eq_true rfl, Nat.le_of_ble_eq_true rfl⟩ (Nat.le_of_ble_eq_true rfl) ⟨rfl, rfl⟩ ⟨by show cells + 0 ≤ 600000; omega, by show slots + 0 ≤ 7302250; omega⟩ (fun r sh1 N1 hq => ?_)
  obtain ⟨e1, er0, hN1, hf1⟩ := hq
  replace e1 := e1.symm
  subst e1
  subst er0
  have ht := k_purse hI (xs (i + 1)) (xs (i + 2))
  have hx := XSt.qx ⟨X, hN, hI, hK, hrl⟩ hN1 hf1 ht
  have hf := hf1.l sh
  have M1 := h.1.keep hf
  have hI1 : TI (MG N1 zz) nG nB nV nP dy := by rw [hf.mg]; exact hI
  refine j_aload_n C dL_law_142 rfl ?_
  refine l_arg (k := 1) C hT (by omega) hL (by decide) rfl rfl dL_law_143 dL_law_144 dL_law_145 dL_law_146 dL_law_147 ?_
  refine l_arg (k := 2) C hT (by omega) hL (by decide) rfl rfl dL_law_148 dL_law_149 dL_law_150 dL_law_151 dL_law_152 ?_
  refine j_callV2I C ml_L_17 dL_law_153 (cM_purse hg M1  (xs (i + 1)) (xs (i + 2))) ⟨by rw [M1.c]; decide, by rw [M1.c]; rfl⟩ ⟨Nat.le_of_ble_eq_true rfl, Nat.le_of_ble_eq_true rfl⟩ (Nat.le_of_ble_eq_true rfl) ⟨rfl, rfl⟩ ⟨by show cells + 0 ≤ 600000; omega, by show slots + 0 ≤ 7302250; omega⟩ ?_
  obtain ⟨hJ, er⟩ := JI.next (mF := fun N => mPurse N (xs (i + 1)) (xs (i + 2))) (fun N K => c_purse N K (xs (i + 1)) (xs (i + 2))) h hx hf ⟨_, _, _, _, _, ht⟩ (sc_ex _)
  refine j_icmp_eq (tgt := 798) C dL_law_156 (by decide) (fun _ => ?_) (fun z => absurd er z)
  refine J.widen (k := cells + 10) (n := slots + 1084) (by show cells + 0 ≤ cells + 10; omega) (by show slots + 0 ≤ slots + 1084; omega) ?_
  exact kk _ _ hJ

theorem lw_port {p : Program} {l : Launch} {e : Env} {s : State} {m : MethodId} {args : Array Value} {below : List Frame} {meth : Method} {c : Code} {Q : State → Prop} {g : WGp} {ret : Option FieldType} (C : Cx p s m args meth c g 4 RL cL_law ret) {o : Nat → Nat} (hX : HX g o) (hX2 : HX2 g) {b L i : Nat} {xs : Nat → Int32} (hT : va_T .int b L (fun j => .int (xs j)) g.A s s.heap) (hi : i + 5 ≤ L) (hL : L ≤ 2560) {sh : WSh} {N : WNm} {cells slots : Nat} (hc : cells + 10 ≤ 600000 ∧ slots + 1084 ≤ 7302250) (h : JI o sh N) (kk : ∀ (sh2 : WSh) (N2 : WNm), JI o sh2 N2 → J p l e room_1 s m args below meth c Q g 4 sh2 N2 (cells + 10) (slots + 1084) 798 [some (.ref b), some (.ref (sh2.2.2 100)), some (.ref (sh2.2.2 0)), some (.int (nI i))] []) : J p l e room_1 s m args below meth c Q g 4 sh N cells slots 161 [some (.ref b), some (.ref (sh.2.2 100)), some (.ref (sh.2.2 0)), some (.int (nI i))] [] := by
  have hg := C.2.2.2.2.2.2.1
  have hop := h.op
  obtain ⟨nG, nB, nV, nP, dy, kG, kB, kV, nT, ln, k, rl, hop⟩ := hop
  obtain ⟨X, hN, hI, hK, hrl⟩ := hop
  refine j_aload_n C dL_law_161 rfl ?_
  refine l_arg (k := 1) C hT (by omega) hL (by decide) rfl rfl dL_law_162 dL_law_163 dL_law_164 dL_law_165 dL_law_166 ?_
  refine j_callV1Ig C ml_L_18 dL_law_167 (cX_port hg X hN hI  (xs (i + 1))) ⟨by rw [X.c (i := 100) (c := 6) (by decide)]; decide, by rw [X.c (i := 100) (c := 6) (by decide)]; rfl⟩ ⟨Nat.le_of_ble_eq_true rfl, Nat.le_of_ble_eq_true rfl⟩ (Nat.le_of_ble_eq_true rfl) ⟨rfl, rfl⟩ ⟨by show cells + 0 ≤ 600000; omega, by show slots + 0 ≤ 7302250; omega⟩ (fun r sh1 N1 hq => ?_)
  obtain ⟨e1, er0, hN1, hf1⟩ := hq
  replace e1 := e1.symm
  subst e1
  subst er0
  obtain ⟨w1, ht⟩ := k_port hI (xs (i + 1))
  have hx := XSt.qx ⟨X, hN, hI, hK, hrl⟩ hN1 hf1 ht
  have hf := hf1.l sh
  have M1 := h.1.keep hf
  have hI1 : TI (MG N1 zz) nG nB nV nP dy := by rw [hf.mg]; exact hI
  refine j_aload_n C dL_law_170 rfl ?_
  refine l_arg (k := 1) C hT (by omega) hL (by decide) rfl rfl dL_law_171 dL_law_172 dL_law_173 dL_law_174 dL_law_175 ?_
  refine j_callV1I C ml_L_22 dL_law_176 (cM_port hg M1 (show N1 0 9 = nI nG from hI1.g9) hI.1.1.2 (show N1 0 5 = nI nP from hI1.p5) hI.1.2.2.2.1.2 (xs (i + 1))) ⟨by rw [M1.c]; decide, by rw [M1.c]; rfl⟩ ⟨Nat.le_of_ble_eq_true rfl, Nat.le_of_ble_eq_true rfl⟩ (Nat.le_of_ble_eq_true rfl) ⟨rfl, rfl⟩ ⟨by show cells + 0 ≤ 600000; omega, by show slots + 0 ≤ 7302250; omega⟩ ?_
  obtain ⟨hJ, er⟩ := JI.next (mF := fun N => mPort N (xs (i + 1))) (fun N K => c_port N K (xs (i + 1))) h hx hf ⟨_, _, _, _, _, ht⟩ (sc_ex _)
  refine j_icmp_eq (tgt := 798) C dL_law_179 (by decide) (fun _ => ?_) (fun z => absurd er z)
  refine J.widen (k := cells + 10) (n := slots + 1084) (by show cells + 0 ≤ cells + 10; omega) (by show slots + 0 ≤ slots + 1084; omega) ?_
  exact kk _ _ hJ

theorem lw_wind {p : Program} {l : Launch} {e : Env} {s : State} {m : MethodId} {args : Array Value} {below : List Frame} {meth : Method} {c : Code} {Q : State → Prop} {g : WGp} {ret : Option FieldType} (C : Cx p s m args meth c g 4 RL cL_law ret) {o : Nat → Nat} (hX : HX g o) (hX2 : HX2 g) {b L i : Nat} {xs : Nat → Int32} (hT : va_T .int b L (fun j => .int (xs j)) g.A s s.heap) (hi : i + 5 ≤ L) (hL : L ≤ 2560) {sh : WSh} {N : WNm} {cells slots : Nat} (hc : cells + 10 ≤ 600000 ∧ slots + 1084 ≤ 7302250) (h : JI o sh N) (kk : ∀ (sh2 : WSh) (N2 : WNm), JI o sh2 N2 → J p l e room_1 s m args below meth c Q g 4 sh2 N2 (cells + 10) (slots + 1084) 798 [some (.ref b), some (.ref (sh2.2.2 100)), some (.ref (sh2.2.2 0)), some (.int (nI i))] []) : J p l e room_1 s m args below meth c Q g 4 sh N cells slots 184 [some (.ref b), some (.ref (sh.2.2 100)), some (.ref (sh.2.2 0)), some (.int (nI i))] [] := by
  have hg := C.2.2.2.2.2.2.1
  have hop := h.op
  obtain ⟨nG, nB, nV, nP, dy, kG, kB, kV, nT, ln, k, rl, hop⟩ := hop
  obtain ⟨X, hN, hI, hK, hrl⟩ := hop
  refine j_aload_n C dL_law_184 rfl ?_
  refine l_arg (k := 1) C hT (by omega) hL (by decide) rfl rfl dL_law_185 dL_law_186 dL_law_187 dL_law_188 dL_law_189 ?_
  refine l_arg (k := 2) C hT (by omega) hL (by decide) rfl rfl dL_law_190 dL_law_191 dL_law_192 dL_law_193 dL_law_194 ?_
  refine j_callV2Ig C ml_L_23 dL_law_195 (cX_wind hg X hN hI  (xs (i + 1)) (xs (i + 2))) ⟨by rw [X.c (i := 100) (c := 6) (by decide)]; decide, by rw [X.c (i := 100) (c := 6) (by decide)]; rfl⟩ ⟨Nat.le_of_ble_eq_true rfl, Nat.le_of_ble_eq_true rfl⟩ (Nat.le_of_ble_eq_true rfl) ⟨rfl, rfl⟩ ⟨by show cells + 0 ≤ 600000; omega, by show slots + 0 ≤ 7302250; omega⟩ (fun r sh1 N1 hq => ?_)
  obtain ⟨e1, er0, hN1, hf1⟩ := hq
  replace e1 := e1.symm
  subst e1
  subst er0
  have ht := k_wind hI (xs (i + 1)) (xs (i + 2))
  have hx := XSt.qx ⟨X, hN, hI, hK, hrl⟩ hN1 hf1 ht
  have hf := hf1.l sh
  have M1 := h.1.keep hf
  have hI1 : TI (MG N1 zz) nG nB nV nP dy := by rw [hf.mg]; exact hI
  refine j_aload_n C dL_law_198 rfl ?_
  refine l_arg (k := 1) C hT (by omega) hL (by decide) rfl rfl dL_law_199 dL_law_200 dL_law_201 dL_law_202 dL_law_203 ?_
  refine l_arg (k := 2) C hT (by omega) hL (by decide) rfl rfl dL_law_204 dL_law_205 dL_law_206 dL_law_207 dL_law_208 ?_
  refine j_callV2I C ml_L_26 dL_law_209 (cM_wind hg M1  (xs (i + 1)) (xs (i + 2))) ⟨by rw [M1.c]; decide, by rw [M1.c]; rfl⟩ ⟨Nat.le_of_ble_eq_true rfl, Nat.le_of_ble_eq_true rfl⟩ (Nat.le_of_ble_eq_true rfl) ⟨rfl, rfl⟩ ⟨by show cells + 0 ≤ 600000; omega, by show slots + 0 ≤ 7302250; omega⟩ ?_
  obtain ⟨hJ, er⟩ := JI.next (mF := fun N => mWind N (xs (i + 1)) (xs (i + 2))) (fun N K => c_wind N K (xs (i + 1)) (xs (i + 2))) h hx hf ⟨_, _, _, _, _, ht⟩ (sc_ex _)
  refine j_icmp_eq (tgt := 798) C dL_law_212 (by decide) (fun _ => ?_) (fun z => absurd er z)
  refine J.widen (k := cells + 10) (n := slots + 1084) (by show cells + 0 ≤ cells + 10; omega) (by show slots + 0 ≤ slots + 1084; omega) ?_
  exact kk _ _ hJ

theorem lw_galley {p : Program} {l : Launch} {e : Env} {s : State} {m : MethodId} {args : Array Value} {below : List Frame} {meth : Method} {c : Code} {Q : State → Prop} {g : WGp} {ret : Option FieldType} (C : Cx p s m args meth c g 4 RL cL_law ret) {o : Nat → Nat} (hX : HX g o) (hX2 : HX2 g) {b L i : Nat} {xs : Nat → Int32} (hT : va_T .int b L (fun j => .int (xs j)) g.A s s.heap) (hi : i + 5 ≤ L) (hL : L ≤ 2560) {sh : WSh} {N : WNm} {cells slots : Nat} (hc : cells + 10 ≤ 600000 ∧ slots + 1084 ≤ 7302250) (h : JI o sh N) (kk : ∀ (sh2 : WSh) (N2 : WNm), JI o sh2 N2 → J p l e room_1 s m args below meth c Q g 4 sh2 N2 (cells + 10) (slots + 1084) 798 [some (.ref b), some (.ref (sh2.2.2 100)), some (.ref (sh2.2.2 0)), some (.int (nI i))] []) : J p l e room_1 s m args below meth c Q g 4 sh N cells slots 217 [some (.ref b), some (.ref (sh.2.2 100)), some (.ref (sh.2.2 0)), some (.int (nI i))] [] := by
  have hg := C.2.2.2.2.2.2.1
  have hop := h.op
  obtain ⟨nG, nB, nV, nP, dy, kG, kB, kV, nT, ln, k, rl, hop⟩ := hop
  obtain ⟨X, hN, hI, hK, hrl⟩ := hop
  refine j_aload_n C dL_law_217 rfl ?_
  refine l_arg (k := 1) C hT (by omega) hL (by decide) rfl rfl dL_law_218 dL_law_219 dL_law_220 dL_law_221 dL_law_222 ?_
  refine l_arg (k := 2) C hT (by omega) hL (by decide) rfl rfl dL_law_223 dL_law_224 dL_law_225 dL_law_226 dL_law_227 ?_
  refine l_arg (k := 3) C hT (by omega) hL (by decide) rfl rfl dL_law_228 dL_law_229 dL_law_230 dL_law_231 dL_law_232 ?_
  refine l_arg (k := 4) C hT (by omega) hL (by decide) rfl rfl dL_law_233 dL_law_234 dL_law_235 dL_law_236 dL_law_237 ?_
  refine j_callV4Ig C ml_L_27 dL_law_238 (cX_galley hg X hN hI hX hX2 hK hrl (xs (i + 1)) (xs (i + 2)) (xs (i + 3)) (xs (i + 4))) ⟨by rw [X.c (i := 100) (c := 6) (by decide)]; decide, by rw [X.c (i := 100) (c := 6) (by decide)]; rfl⟩ ⟨Nat.le_of_ble_eq_true rfl, Nat.le_of_ble_eq_true rfl⟩ (Nat.le_of_ble_eq_true rfl) ⟨rfl, rfl⟩ ⟨by show cells + 3 ≤ 600000; omega, by show slots + 400 ≤ 7302250; omega⟩ (fun r sh1 N1 hq => ?_)
  obtain ⟨er0, hx, hf⟩ := hq
  subst er0
  obtain ⟨w1, ht⟩ := k_galley hI (xs (i + 1)) (xs (i + 2)) (xs (i + 3)) (xs (i + 4))
  have M1 := h.1.keep hf
  have hI1 : TI (MG N1 zz) nG nB nV nP dy := by rw [hf.mg]; exact hI
  rw [← hf.2, ← (hf.1 0 (by decide)).2.2.1]
  refine j_aload_n C dL_law_241 rfl ?_
  refine l_arg (k := 1) C hT (by omega) hL (by decide) rfl rfl dL_law_242 dL_law_243 dL_law_244 dL_law_245 dL_law_246 ?_
  refine l_arg (k := 2) C hT (by omega) hL (by decide) rfl rfl dL_law_247 dL_law_248 dL_law_249 dL_law_250 dL_law_251 ?_
  refine l_arg (k := 3) C hT (by omega) hL (by decide) rfl rfl dL_law_252 dL_law_253 dL_law_254 dL_law_255 dL_law_256 ?_
  refine l_arg (k := 4) C hT (by omega) hL (by decide) rfl rfl dL_law_257 dL_law_258 dL_law_259 dL_law_260 dL_law_261 ?_
  refine j_callV4I C ml_L_31 dL_law_262 (cM_galley hg M1 (show N1 0 9 = nI nG from hI1.g9) hI.1.1.2 (xs (i + 1)) (xs (i + 2)) (xs (i + 3)) (xs (i + 4))) ⟨by rw [M1.c]; decide, by rw [M1.c]; rfl⟩ ⟨Nat.le_of_ble_eq_true rfl, Nat.le_of_ble_eq_true rfl⟩ (Nat.le_of_ble_eq_true rfl) ⟨rfl, rfl⟩ ⟨by show cells + 3 ≤ 600000; omega, by show slots + 400 ≤ 7302250; omega⟩ ?_
  obtain ⟨hJ, er⟩ := JI.next (mF := fun N => mGalley N (xs (i + 1)) (xs (i + 2)) (xs (i + 3)) (xs (i + 4))) (fun N K => c_galley N K (xs (i + 1)) (xs (i + 2)) (xs (i + 3)) (xs (i + 4))) h hx hf ⟨_, _, _, _, _, ht⟩ (sc_ex _)
  refine j_icmp_eq (tgt := 798) C dL_law_265 (by decide) (fun _ => ?_) (fun z => absurd er z)
  refine J.widen (k := cells + 10) (n := slots + 1084) (by show cells + 3 ≤ cells + 10; omega) (by show slots + 400 ≤ slots + 1084; omega) ?_
  exact kk _ _ hJ

theorem lw_bid {p : Program} {l : Launch} {e : Env} {s : State} {m : MethodId} {args : Array Value} {below : List Frame} {meth : Method} {c : Code} {Q : State → Prop} {g : WGp} {ret : Option FieldType} (C : Cx p s m args meth c g 4 RL cL_law ret) {o : Nat → Nat} (hX : HX g o) (hX2 : HX2 g) {b L i : Nat} {xs : Nat → Int32} (hT : va_T .int b L (fun j => .int (xs j)) g.A s s.heap) (hi : i + 5 ≤ L) (hL : L ≤ 2560) {sh : WSh} {N : WNm} {cells slots : Nat} (hc : cells + 10 ≤ 600000 ∧ slots + 1084 ≤ 7302250) (h : JI o sh N) (kk : ∀ (sh2 : WSh) (N2 : WNm), JI o sh2 N2 → J p l e room_1 s m args below meth c Q g 4 sh2 N2 (cells + 10) (slots + 1084) 798 [some (.ref b), some (.ref (sh2.2.2 100)), some (.ref (sh2.2.2 0)), some (.int (nI i))] []) : J p l e room_1 s m args below meth c Q g 4 sh N cells slots 270 [some (.ref b), some (.ref (sh.2.2 100)), some (.ref (sh.2.2 0)), some (.int (nI i))] [] := by
  have hg := C.2.2.2.2.2.2.1
  have hop := h.op
  obtain ⟨nG, nB, nV, nP, dy, kG, kB, kV, nT, ln, k, rl, hop⟩ := hop
  obtain ⟨X, hN, hI, hK, hrl⟩ := hop
  refine j_aload_n C dL_law_270 rfl ?_
  refine l_arg (k := 1) C hT (by omega) hL (by decide) rfl rfl dL_law_271 dL_law_272 dL_law_273 dL_law_274 dL_law_275 ?_
  refine l_arg (k := 2) C hT (by omega) hL (by decide) rfl rfl dL_law_276 dL_law_277 dL_law_278 dL_law_279 dL_law_280 ?_
  refine l_arg (k := 3) C hT (by omega) hL (by decide) rfl rfl dL_law_281 dL_law_282 dL_law_283 dL_law_284 dL_law_285 ?_
  refine j_callV3Ig C ml_L_32 dL_law_286 (cX_bid hg X hN hI  (xs (i + 1)) (xs (i + 2)) (xs (i + 3))) ⟨by rw [X.c (i := 100) (c := 6) (by decide)]; decide, by rw [X.c (i := 100) (c := 6) (by decide)]; rfl⟩ ⟨Nat.le_of_ble_eq_true rfl, Nat.le_of_ble_eq_true rfl⟩ (Nat.le_of_ble_eq_true rfl) ⟨rfl, rfl⟩ ⟨by show cells + 0 ≤ 600000; omega, by show slots + 0 ≤ 7302250; omega⟩ (fun r sh1 N1 hq => ?_)
  obtain ⟨e1, er0, hN1, hf1⟩ := hq
  replace e1 := e1.symm
  subst e1
  subst er0
  have ht := k_bid hI (xs (i + 1)) (xs (i + 2)) (xs (i + 3))
  have hx := XSt.qx ⟨X, hN, hI, hK, hrl⟩ hN1 hf1 ht
  have hf := hf1.l sh
  have M1 := h.1.keep hf
  have hI1 : TI (MG N1 zz) nG nB nV nP dy := by rw [hf.mg]; exact hI
  refine j_aload_n C dL_law_289 rfl ?_
  refine l_arg (k := 1) C hT (by omega) hL (by decide) rfl rfl dL_law_290 dL_law_291 dL_law_292 dL_law_293 dL_law_294 ?_
  refine l_arg (k := 2) C hT (by omega) hL (by decide) rfl rfl dL_law_295 dL_law_296 dL_law_297 dL_law_298 dL_law_299 ?_
  refine l_arg (k := 3) C hT (by omega) hL (by decide) rfl rfl dL_law_300 dL_law_301 dL_law_302 dL_law_303 dL_law_304 ?_
  refine j_callV3I C ml_L_36 dL_law_305 (cM_bid hg M1 (show N1 0 9 = nI nG from hI1.g9) hI.1.1.2 (xs (i + 1)) (xs (i + 2)) (xs (i + 3))) ⟨by rw [M1.c]; decide, by rw [M1.c]; rfl⟩ ⟨Nat.le_of_ble_eq_true rfl, Nat.le_of_ble_eq_true rfl⟩ (Nat.le_of_ble_eq_true rfl) ⟨rfl, rfl⟩ ⟨by show cells + 0 ≤ 600000; omega, by show slots + 0 ≤ 7302250; omega⟩ ?_
  obtain ⟨hJ, er⟩ := JI.next (mF := fun N => mBid N (xs (i + 1)) (xs (i + 2)) (xs (i + 3))) (fun N K => c_bid N K (xs (i + 1)) (xs (i + 2)) (xs (i + 3))) h hx hf ⟨_, _, _, _, _, ht⟩ (sc_ex _)
  refine j_icmp_eq (tgt := 798) C dL_law_308 (by decide) (fun _ => ?_) (fun z => absurd er z)
  refine J.widen (k := cells + 10) (n := slots + 1084) (by show cells + 0 ≤ cells + 10; omega) (by show slots + 0 ≤ slots + 1084; omega) ?_
  exact kk _ _ hJ

theorem lw_let {p : Program} {l : Launch} {e : Env} {s : State} {m : MethodId} {args : Array Value} {below : List Frame} {meth : Method} {c : Code} {Q : State → Prop} {g : WGp} {ret : Option FieldType} (C : Cx p s m args meth c g 4 RL cL_law ret) {o : Nat → Nat} (hX : HX g o) (hX2 : HX2 g) {b L i : Nat} {xs : Nat → Int32} (hT : va_T .int b L (fun j => .int (xs j)) g.A s s.heap) (hi : i + 5 ≤ L) (hL : L ≤ 2560) {sh : WSh} {N : WNm} {cells slots : Nat} (hc : cells + 10 ≤ 600000 ∧ slots + 1084 ≤ 7302250) (h : JI o sh N) (kk : ∀ (sh2 : WSh) (N2 : WNm), JI o sh2 N2 → J p l e room_1 s m args below meth c Q g 4 sh2 N2 (cells + 10) (slots + 1084) 798 [some (.ref b), some (.ref (sh2.2.2 100)), some (.ref (sh2.2.2 0)), some (.int (nI i))] []) : J p l e room_1 s m args below meth c Q g 4 sh N cells slots 313 [some (.ref b), some (.ref (sh.2.2 100)), some (.ref (sh.2.2 0)), some (.int (nI i))] [] := by
  have hg := C.2.2.2.2.2.2.1
  have hop := h.op
  obtain ⟨nG, nB, nV, nP, dy, kG, kB, kV, nT, ln, k, rl, hop⟩ := hop
  obtain ⟨X, hN, hI, hK, hrl⟩ := hop
  refine j_aload_n C dL_law_313 rfl ?_
  refine l_arg (k := 1) C hT (by omega) hL (by decide) rfl rfl dL_law_314 dL_law_315 dL_law_316 dL_law_317 dL_law_318 ?_
  refine j_callV1Ig C ml_L_37 dL_law_319 (cX_let hg X hN hI  (xs (i + 1))) ⟨by rw [X.c (i := 100) (c := 6) (by decide)]; decide, by rw [X.c (i := 100) (c := 6) (by decide)]; rfl⟩ ⟨Nat.le_of_ble_eq_true rfl, Nat.le_of_ble_eq_true rfl⟩ (Nat.le_of_ble_eq_true rfl) ⟨rfl, rfl⟩ ⟨by show cells + 0 ≤ 600000; omega, by show slots + 0 ≤ 7302250; omega⟩ (fun r sh1 N1 hq => ?_)
  obtain ⟨e1, er0, hN1, hf1⟩ := hq
  replace e1 := e1.symm
  subst e1
  subst er0
  have ht := k_let hI (xs (i + 1))
  have hx := XSt.qx ⟨X, hN, hI, hK, hrl⟩ hN1 hf1 ht
  have hf := hf1.l sh
  have M1 := h.1.keep hf
  have hI1 : TI (MG N1 zz) nG nB nV nP dy := by rw [hf.mg]; exact hI
  refine j_aload_n C dL_law_322 rfl ?_
  refine l_arg (k := 1) C hT (by omega) hL (by decide) rfl rfl dL_law_323 dL_law_324 dL_law_325 dL_law_326 dL_law_327 ?_
  refine j_callV1I C ml_L_40 dL_law_328 (cM_let hg M1 (show N1 0 9 = nI nG from hI1.g9) hI.1.1.2 (fun a ha => (show vp_in (N1 21 a) 10 from (hI1.2.1 a ha).1)) (xs (i + 1))) ⟨by rw [M1.c]; decide, by rw [M1.c]; rfl⟩ ⟨Nat.le_of_ble_eq_true rfl, Nat.le_of_ble_eq_true rfl⟩ (Nat.le_of_ble_eq_true rfl) ⟨rfl, rfl⟩ ⟨by show cells + 0 ≤ 600000; omega, by show slots + 0 ≤ 7302250; omega⟩ ?_
  obtain ⟨hJ, er⟩ := JI.next (mF := fun N => mLet N (xs (i + 1))) (fun N K => c_let N K (xs (i + 1))) h hx hf ⟨_, _, _, _, _, ht⟩ (sc_ex _)
  refine j_icmp_eq (tgt := 798) C dL_law_331 (by decide) (fun _ => ?_) (fun z => absurd er z)
  refine J.widen (k := cells + 10) (n := slots + 1084) (by show cells + 0 ≤ cells + 10; omega) (by show slots + 0 ≤ slots + 1084; omega) ?_
  exact kk _ _ hJ

theorem lw_part {p : Program} {l : Launch} {e : Env} {s : State} {m : MethodId} {args : Array Value} {below : List Frame} {meth : Method} {c : Code} {Q : State → Prop} {g : WGp} {ret : Option FieldType} (C : Cx p s m args meth c g 4 RL cL_law ret) {o : Nat → Nat} (hX : HX g o) (hX2 : HX2 g) {b L i : Nat} {xs : Nat → Int32} (hT : va_T .int b L (fun j => .int (xs j)) g.A s s.heap) (hi : i + 5 ≤ L) (hL : L ≤ 2560) {sh : WSh} {N : WNm} {cells slots : Nat} (hc : cells + 10 ≤ 600000 ∧ slots + 1084 ≤ 7302250) (h : JI o sh N) (kk : ∀ (sh2 : WSh) (N2 : WNm), JI o sh2 N2 → J p l e room_1 s m args below meth c Q g 4 sh2 N2 (cells + 10) (slots + 1084) 798 [some (.ref b), some (.ref (sh2.2.2 100)), some (.ref (sh2.2.2 0)), some (.int (nI i))] []) : J p l e room_1 s m args below meth c Q g 4 sh N cells slots 336 [some (.ref b), some (.ref (sh.2.2 100)), some (.ref (sh.2.2 0)), some (.int (nI i))] [] := by
  have hg := C.2.2.2.2.2.2.1
  have hop := h.op
  obtain ⟨nG, nB, nV, nP, dy, kG, kB, kV, nT, ln, k, rl, hop⟩ := hop
  obtain ⟨X, hN, hI, hK, hrl⟩ := hop
  refine j_aload_n C dL_law_336 rfl ?_
  refine l_arg (k := 1) C hT (by omega) hL (by decide) rfl rfl dL_law_337 dL_law_338 dL_law_339 dL_law_340 dL_law_341 ?_
  refine l_arg (k := 2) C hT (by omega) hL (by decide) rfl rfl dL_law_342 dL_law_343 dL_law_344 dL_law_345 dL_law_346 ?_
  refine l_arg (k := 3) C hT (by omega) hL (by decide) rfl rfl dL_law_347 dL_law_348 dL_law_349 dL_law_350 dL_law_351 ?_
  refine l_arg (k := 4) C hT (by omega) hL (by decide) rfl rfl dL_law_352 dL_law_353 dL_law_354 dL_law_355 dL_law_356 ?_
  refine j_callV4Ig C ml_L_41 dL_law_357 (cX_part hg X hN hI  (xs (i + 1)) (xs (i + 2)) (xs (i + 3)) (xs (i + 4))) ⟨by rw [X.c (i := 100) (c := 6) (by decide)]; decide, by rw [X.c (i := 100) (c := 6) (by decide)]; rfl⟩ ⟨Nat.le_of_ble_eq_true rfl, Nat.le_of_ble_eq_true rfl⟩ (Nat.le_of_ble_eq_true rfl) ⟨rfl, rfl⟩ ⟨by show cells + 0 ≤ 600000; omega, by show slots + 0 ≤ 7302250; omega⟩ (fun r sh1 N1 hq => ?_)
  obtain ⟨e1, er0, hN1, hf1⟩ := hq
  replace e1 := e1.symm
  subst e1
  subst er0
  have ht := k_part hI (xs (i + 1)) (xs (i + 2)) (xs (i + 3)) (xs (i + 4))
  have hx := XSt.qx ⟨X, hN, hI, hK, hrl⟩ hN1 hf1 ht
  have hf := hf1.l sh
  have M1 := h.1.keep hf
  have hI1 : TI (MG N1 zz) nG nB nV nP dy := by rw [hf.mg]; exact hI
  refine j_aload_n C dL_law_360 rfl ?_
  refine l_arg (k := 1) C hT (by omega) hL (by decide) rfl rfl dL_law_361 dL_law_362 dL_law_363 dL_law_364 dL_law_365 ?_
  refine l_arg (k := 2) C hT (by omega) hL (by decide) rfl rfl dL_law_366 dL_law_367 dL_law_368 dL_law_369 dL_law_370 ?_
  refine l_arg (k := 3) C hT (by omega) hL (by decide) rfl rfl dL_law_371 dL_law_372 dL_law_373 dL_law_374 dL_law_375 ?_
  refine l_arg (k := 4) C hT (by omega) hL (by decide) rfl rfl dL_law_376 dL_law_377 dL_law_378 dL_law_379 dL_law_380 ?_
  refine j_callV4I C ml_L_44 dL_law_381 (cM_part hg M1 (show N1 0 9 = nI nG from hI1.g9) hI.1.1.2 (xs (i + 1)) (xs (i + 2)) (xs (i + 3)) (xs (i + 4))) ⟨by rw [M1.c]; decide, by rw [M1.c]; rfl⟩ ⟨Nat.le_of_ble_eq_true rfl, Nat.le_of_ble_eq_true rfl⟩ (Nat.le_of_ble_eq_true rfl) ⟨rfl, rfl⟩ ⟨by show cells + 0 ≤ 600000; omega, by show slots + 0 ≤ 7302250; omega⟩ ?_
  obtain ⟨hJ, er⟩ := JI.next (mF := fun N => mPart N (xs (i + 1)) (xs (i + 2)) (xs (i + 3)) (xs (i + 4))) (fun N K => c_part N K (xs (i + 1)) (xs (i + 2)) (xs (i + 3)) (xs (i + 4))) h hx hf ⟨_, _, _, _, _, ht⟩ (sc_ex _)
  refine j_icmp_eq (tgt := 798) C dL_law_384 (by decide) (fun _ => ?_) (fun z => absurd er z)
  refine J.widen (k := cells + 10) (n := slots + 1084) (by show cells + 0 ≤ cells + 10; omega) (by show slots + 0 ≤ slots + 1084; omega) ?_
  exact kk _ _ hJ

theorem lw_parts {p : Program} {l : Launch} {e : Env} {s : State} {m : MethodId} {args : Array Value} {below : List Frame} {meth : Method} {c : Code} {Q : State → Prop} {g : WGp} {ret : Option FieldType} (C : Cx p s m args meth c g 4 RL cL_law ret) {o : Nat → Nat} (hX : HX g o) (hX2 : HX2 g) {b L i : Nat} {xs : Nat → Int32} (hT : va_T .int b L (fun j => .int (xs j)) g.A s s.heap) (hi : i + 5 ≤ L) (hL : L ≤ 2560) {sh : WSh} {N : WNm} {cells slots : Nat} (hc : cells + 10 ≤ 600000 ∧ slots + 1084 ≤ 7302250) (h : JI o sh N) (kk : ∀ (sh2 : WSh) (N2 : WNm), JI o sh2 N2 → J p l e room_1 s m args below meth c Q g 4 sh2 N2 (cells + 10) (slots + 1084) 798 [some (.ref b), some (.ref (sh2.2.2 100)), some (.ref (sh2.2.2 0)), some (.int (nI i))] []) : J p l e room_1 s m args below meth c Q g 4 sh N cells slots 389 [some (.ref b), some (.ref (sh.2.2 100)), some (.ref (sh.2.2 0)), some (.int (nI i))] [] := by
  have hg := C.2.2.2.2.2.2.1
  have hop := h.op
  obtain ⟨nG, nB, nV, nP, dy, kG, kB, kV, nT, ln, k, rl, hop⟩ := hop
  obtain ⟨X, hN, hI, hK, hrl⟩ := hop
  refine j_aload_n C dL_law_389 rfl ?_
  refine l_arg (k := 1) C hT (by omega) hL (by decide) rfl rfl dL_law_390 dL_law_391 dL_law_392 dL_law_393 dL_law_394 ?_
  refine l_arg (k := 2) C hT (by omega) hL (by decide) rfl rfl dL_law_395 dL_law_396 dL_law_397 dL_law_398 dL_law_399 ?_
  refine j_callV2Ig C ml_L_45 dL_law_400 (cX_parts hg X hN hI  (xs (i + 1)) (xs (i + 2))) ⟨by rw [X.c (i := 100) (c := 6) (by decide)]; decide, by rw [X.c (i := 100) (c := 6) (by decide)]; rfl⟩ ⟨Nat.le_of_ble_eq_true rfl, Nat.le_of_ble_eq_true rfl⟩ (Nat.le_of_ble_eq_true rfl) ⟨rfl, rfl⟩ ⟨by show cells + 0 ≤ 600000; omega, by show slots + 0 ≤ 7302250; omega⟩ (fun r sh1 N1 hq => ?_)
  obtain ⟨e1, er0, hN1, hf1⟩ := hq
  replace e1 := e1.symm
  subst e1
  subst er0
  have ht : TI (mParts (MG N zz) (xs (i + 1)) (xs (i + 2))).2 nG nB nV nP dy := by rw [ro_parts]; exact hI
  have hx := XSt.qx ⟨X, hN, hI, hK, hrl⟩ hN1 hf1 ht
  have hf := hf1.l sh
  have M1 := h.1.keep hf
  have hI1 : TI (MG N1 zz) nG nB nV nP dy := by rw [hf.mg]; exact hI
  refine j_aload_n C dL_law_403 rfl ?_
  refine l_arg (k := 1) C hT (by omega) hL (by decide) rfl rfl dL_law_404 dL_law_405 dL_law_406 dL_law_407 dL_law_408 ?_
  refine l_arg (k := 2) C hT (by omega) hL (by decide) rfl rfl dL_law_409 dL_law_410 dL_law_411 dL_law_412 dL_law_413 ?_
  refine j_callV2I C ml_L_48 dL_law_414 (cM_parts hg M1 (show N1 0 9 = nI nG from hI1.g9) hI.1.1.2 (xs (i + 1)) (xs (i + 2))) ⟨by rw [M1.c]; decide, by rw [M1.c]; rfl⟩ ⟨Nat.le_of_ble_eq_true rfl, Nat.le_of_ble_eq_true rfl⟩ (Nat.le_of_ble_eq_true rfl) ⟨rfl, rfl⟩ ⟨by show cells + 0 ≤ 600000; omega, by show slots + 0 ≤ 7302250; omega⟩ ?_
  obtain ⟨hJ, er⟩ := JI.next (mF := fun N => mParts N (xs (i + 1)) (xs (i + 2))) (fun N K => c_parts N K (xs (i + 1)) (xs (i + 2))) h hx hf ⟨_, _, _, _, _, ht⟩ (sc_ex _)
  refine j_icmp_eq (tgt := 798) C dL_law_417 (by decide) (fun _ => ?_) (fun z => absurd er z)
  refine J.widen (k := cells + 10) (n := slots + 1084) (by show cells + 0 ≤ cells + 10; omega) (by show slots + 0 ≤ slots + 1084; omega) ?_
  exact kk _ _ hJ

theorem lw_bale {p : Program} {l : Launch} {e : Env} {s : State} {m : MethodId} {args : Array Value} {below : List Frame} {meth : Method} {c : Code} {Q : State → Prop} {g : WGp} {ret : Option FieldType} (C : Cx p s m args meth c g 4 RL cL_law ret) {o : Nat → Nat} (hX : HX g o) (hX2 : HX2 g) {b L i : Nat} {xs : Nat → Int32} (hT : va_T .int b L (fun j => .int (xs j)) g.A s s.heap) (hi : i + 5 ≤ L) (hL : L ≤ 2560) {sh : WSh} {N : WNm} {cells slots : Nat} (hc : cells + 10 ≤ 600000 ∧ slots + 1084 ≤ 7302250) (h : JI o sh N) (kk : ∀ (sh2 : WSh) (N2 : WNm), JI o sh2 N2 → J p l e room_1 s m args below meth c Q g 4 sh2 N2 (cells + 10) (slots + 1084) 798 [some (.ref b), some (.ref (sh2.2.2 100)), some (.ref (sh2.2.2 0)), some (.int (nI i))] []) : J p l e room_1 s m args below meth c Q g 4 sh N cells slots 422 [some (.ref b), some (.ref (sh.2.2 100)), some (.ref (sh.2.2 0)), some (.int (nI i))] [] := by
  have hg := C.2.2.2.2.2.2.1
  have hop := h.op
  obtain ⟨nG, nB, nV, nP, dy, kG, kB, kV, nT, ln, k, rl, hop⟩ := hop
  obtain ⟨X, hN, hI, hK, hrl⟩ := hop
  refine j_aload_n C dL_law_422 rfl ?_
  refine l_arg (k := 1) C hT (by omega) hL (by decide) rfl rfl dL_law_423 dL_law_424 dL_law_425 dL_law_426 dL_law_427 ?_
  refine l_arg (k := 2) C hT (by omega) hL (by decide) rfl rfl dL_law_428 dL_law_429 dL_law_430 dL_law_431 dL_law_432 ?_
  refine l_arg (k := 3) C hT (by omega) hL (by decide) rfl rfl dL_law_433 dL_law_434 dL_law_435 dL_law_436 dL_law_437 ?_
  refine l_arg (k := 4) C hT (by omega) hL (by decide) rfl rfl dL_law_438 dL_law_439 dL_law_440 dL_law_441 dL_law_442 ?_
  refine j_callV4Ig C ml_L_49 dL_law_443 (cX_bale hg X hN hI hX hX2 hK hrl (xs (i + 1)) (xs (i + 2)) (xs (i + 3)) (xs (i + 4))) ⟨by rw [X.c (i := 100) (c := 6) (by decide)]; decide, by rw [X.c (i := 100) (c := 6) (by decide)]; rfl⟩ ⟨Nat.le_of_ble_eq_true rfl, Nat.le_of_ble_eq_true rfl⟩ (Nat.le_of_ble_eq_true rfl) ⟨rfl, rfl⟩ ⟨by show cells + 2 ≤ 600000; omega, by show slots + 400 ≤ 7302250; omega⟩ (fun r sh1 N1 hq => ?_)
  obtain ⟨er0, hx, hf⟩ := hq
  subst er0
  obtain ⟨w1, ht⟩ := k_bale hI (xs (i + 1)) (xs (i + 2)) (xs (i + 3)) (xs (i + 4))
  have M1 := h.1.keep hf
  have hI1 : TI (MG N1 zz) nG nB nV nP dy := by rw [hf.mg]; exact hI
  rw [← hf.2, ← (hf.1 0 (by decide)).2.2.1]
  refine j_aload_n C dL_law_446 rfl ?_
  refine l_arg (k := 1) C hT (by omega) hL (by decide) rfl rfl dL_law_447 dL_law_448 dL_law_449 dL_law_450 dL_law_451 ?_
  refine l_arg (k := 2) C hT (by omega) hL (by decide) rfl rfl dL_law_452 dL_law_453 dL_law_454 dL_law_455 dL_law_456 ?_
  refine l_arg (k := 3) C hT (by omega) hL (by decide) rfl rfl dL_law_457 dL_law_458 dL_law_459 dL_law_460 dL_law_461 ?_
  refine l_arg (k := 4) C hT (by omega) hL (by decide) rfl rfl dL_law_462 dL_law_463 dL_law_464 dL_law_465 dL_law_466 ?_
  refine j_callV4I C ml_L_52 dL_law_467 (cM_bale hg M1 (show N1 0 23 = nI nB from hI1.b23) hI.1.2.1.2 (xs (i + 1)) (xs (i + 2)) (xs (i + 3)) (xs (i + 4))) ⟨by rw [M1.c]; decide, by rw [M1.c]; rfl⟩ ⟨Nat.le_of_ble_eq_true rfl, Nat.le_of_ble_eq_true rfl⟩ (Nat.le_of_ble_eq_true rfl) ⟨rfl, rfl⟩ ⟨by show cells + 2 ≤ 600000; omega, by show slots + 400 ≤ 7302250; omega⟩ ?_
  obtain ⟨hJ, er⟩ := JI.next (mF := fun N => mBale N (xs (i + 1)) (xs (i + 2)) (xs (i + 3)) (xs (i + 4))) (fun N K => c_bale N K (xs (i + 1)) (xs (i + 2)) (xs (i + 3)) (xs (i + 4))) h hx hf ⟨_, _, _, _, _, ht⟩ (sc_ex _)
  refine j_icmp_eq (tgt := 798) C dL_law_470 (by decide) (fun _ => ?_) (fun z => absurd er z)
  refine J.widen (k := cells + 10) (n := slots + 1084) (by show cells + 2 ≤ cells + 10; omega) (by show slots + 400 ≤ slots + 1084; omega) ?_
  exact kk _ _ hJ

theorem lw_about {p : Program} {l : Launch} {e : Env} {s : State} {m : MethodId} {args : Array Value} {below : List Frame} {meth : Method} {c : Code} {Q : State → Prop} {g : WGp} {ret : Option FieldType} (C : Cx p s m args meth c g 4 RL cL_law ret) {o : Nat → Nat} (hX : HX g o) (hX2 : HX2 g) {b L i : Nat} {xs : Nat → Int32} (hT : va_T .int b L (fun j => .int (xs j)) g.A s s.heap) (hi : i + 5 ≤ L) (hL : L ≤ 2560) {sh : WSh} {N : WNm} {cells slots : Nat} (hc : cells + 10 ≤ 600000 ∧ slots + 1084 ≤ 7302250) (h : JI o sh N) (kk : ∀ (sh2 : WSh) (N2 : WNm), JI o sh2 N2 → J p l e room_1 s m args below meth c Q g 4 sh2 N2 (cells + 10) (slots + 1084) 798 [some (.ref b), some (.ref (sh2.2.2 100)), some (.ref (sh2.2.2 0)), some (.int (nI i))] []) : J p l e room_1 s m args below meth c Q g 4 sh N cells slots 475 [some (.ref b), some (.ref (sh.2.2 100)), some (.ref (sh.2.2 0)), some (.int (nI i))] [] := by
  have hg := C.2.2.2.2.2.2.1
  have hop := h.op
  obtain ⟨nG, nB, nV, nP, dy, kG, kB, kV, nT, ln, k, rl, hop⟩ := hop
  obtain ⟨X, hN, hI, hK, hrl⟩ := hop
  refine j_aload_n C dL_law_475 rfl ?_
  refine l_arg (k := 1) C hT (by omega) hL (by decide) rfl rfl dL_law_476 dL_law_477 dL_law_478 dL_law_479 dL_law_480 ?_
  refine l_arg (k := 2) C hT (by omega) hL (by decide) rfl rfl dL_law_481 dL_law_482 dL_law_483 dL_law_484 dL_law_485 ?_
  refine j_callV2Ig C ml_L_53 dL_law_486 (cX_about hg X hN hI  (xs (i + 1)) (xs (i + 2))) ⟨by rw [X.c (i := 100) (c := 6) (by decide)]; decide, by rw [X.c (i := 100) (c := 6) (by decide)]; rfl⟩ ⟨Nat.le_of_ble_eq_true rfl, Nat.le_of_ble_eq_true rfl⟩ (Nat.le_of_ble_eq_true rfl) ⟨rfl, rfl⟩ ⟨by show cells + 0 ≤ 600000; omega, by show slots + 0 ≤ 7302250; omega⟩ (fun r sh1 N1 hq => ?_)
  obtain ⟨e1, er0, hN1, hf1⟩ := hq
  replace e1 := e1.symm
  subst e1
  subst er0
  have ht : TI (mAbout (MG N zz) (xs (i + 1)) (xs (i + 2))).2 nG nB nV nP dy := by rw [ro_about]; exact hI
  have hx := XSt.qx ⟨X, hN, hI, hK, hrl⟩ hN1 hf1 ht
  have hf := hf1.l sh
  have M1 := h.1.keep hf
  have hI1 : TI (MG N1 zz) nG nB nV nP dy := by rw [hf.mg]; exact hI
  refine j_aload_n C dL_law_489 rfl ?_
  refine l_arg (k := 1) C hT (by omega) hL (by decide) rfl rfl dL_law_490 dL_law_491 dL_law_492 dL_law_493 dL_law_494 ?_
  refine l_arg (k := 2) C hT (by omega) hL (by decide) rfl rfl dL_law_495 dL_law_496 dL_law_497 dL_law_498 dL_law_499 ?_
  refine j_callV2I C ml_L_56 dL_law_500 (cM_about hg M1 (show N1 0 23 = nI nB from hI1.b23) hI.1.2.1.2 (xs (i + 1)) (xs (i + 2))) ⟨by rw [M1.c]; decide, by rw [M1.c]; rfl⟩ ⟨Nat.le_of_ble_eq_true rfl, Nat.le_of_ble_eq_true rfl⟩ (Nat.le_of_ble_eq_true rfl) ⟨rfl, rfl⟩ ⟨by show cells + 0 ≤ 600000; omega, by show slots + 0 ≤ 7302250; omega⟩ ?_
  obtain ⟨hJ, er⟩ := JI.next (mF := fun N => mAbout N (xs (i + 1)) (xs (i + 2))) (fun N K => c_about N K (xs (i + 1)) (xs (i + 2))) h hx hf ⟨_, _, _, _, _, ht⟩ (sc_ex _)
  refine j_icmp_eq (tgt := 798) C dL_law_503 (by decide) (fun _ => ?_) (fun z => absurd er z)
  refine J.widen (k := cells + 10) (n := slots + 1084) (by show cells + 0 ≤ cells + 10; omega) (by show slots + 0 ≤ slots + 1084; omega) ?_
  exact kk _ _ hJ

theorem lw_feed {p : Program} {l : Launch} {e : Env} {s : State} {m : MethodId} {args : Array Value} {below : List Frame} {meth : Method} {c : Code} {Q : State → Prop} {g : WGp} {ret : Option FieldType} (C : Cx p s m args meth c g 4 RL cL_law ret) {o : Nat → Nat} (hX : HX g o) (hX2 : HX2 g) {b L i : Nat} {xs : Nat → Int32} (hT : va_T .int b L (fun j => .int (xs j)) g.A s s.heap) (hi : i + 5 ≤ L) (hL : L ≤ 2560) {sh : WSh} {N : WNm} {cells slots : Nat} (hc : cells + 10 ≤ 600000 ∧ slots + 1084 ≤ 7302250) (h : JI o sh N) (kk : ∀ (sh2 : WSh) (N2 : WNm), JI o sh2 N2 → J p l e room_1 s m args below meth c Q g 4 sh2 N2 (cells + 10) (slots + 1084) 798 [some (.ref b), some (.ref (sh2.2.2 100)), some (.ref (sh2.2.2 0)), some (.int (nI i))] []) : J p l e room_1 s m args below meth c Q g 4 sh N cells slots 508 [some (.ref b), some (.ref (sh.2.2 100)), some (.ref (sh.2.2 0)), some (.int (nI i))] [] := by
  have hg := C.2.2.2.2.2.2.1
  have hop := h.op
  obtain ⟨nG, nB, nV, nP, dy, kG, kB, kV, nT, ln, k, rl, hop⟩ := hop
  obtain ⟨X, hN, hI, hK, hrl⟩ := hop
  refine j_aload_n C dL_law_508 rfl ?_
  refine l_arg (k := 1) C hT (by omega) hL (by decide) rfl rfl dL_law_509 dL_law_510 dL_law_511 dL_law_512 dL_law_513 ?_
  refine l_arg (k := 2) C hT (by omega) hL (by decide) rfl rfl dL_law_514 dL_law_515 dL_law_516 dL_law_517 dL_law_518 ?_
  refine j_callV2Ig C ml_L_57 dL_law_519 (cX_feed hg X hN hI  (xs (i + 1)) (xs (i + 2))) ⟨by rw [X.c (i := 100) (c := 6) (by decide)]; decide, by rw [X.c (i := 100) (c := 6) (by decide)]; rfl⟩ ⟨Nat.le_of_ble_eq_true rfl, Nat.le_of_ble_eq_true rfl⟩ (Nat.le_of_ble_eq_true rfl) ⟨rfl, rfl⟩ ⟨by show cells + 0 ≤ 600000; omega, by show slots + 0 ≤ 7302250; omega⟩ (fun r sh1 N1 hq => ?_)
  obtain ⟨e1, er0, hN1, hf1⟩ := hq
  obtain ⟨nT1, hN1⟩ := hN1
  replace e1 := e1.symm
  subst e1
  subst er0
  have ht := k_feed hI (xs (i + 1)) (xs (i + 2))
  have hx := XSt.qx ⟨X, hN, hI, hK, hrl⟩ hN1 hf1 ht
  have hf := hf1.l sh
  have M1 := h.1.keep hf
  have hI1 : TI (MG N1 zz) nG nB nV nP dy := by rw [hf.mg]; exact hI
  have hT37 : MG N1 zz 0 37 = nI nT := by rw [hf.mg]; exact hN.2.2.2.2.2.2.2.2.2.1
  refine j_aload_n C dL_law_522 rfl ?_
  refine l_arg (k := 1) C hT (by omega) hL (by decide) rfl rfl dL_law_523 dL_law_524 dL_law_525 dL_law_526 dL_law_527 ?_
  refine l_arg (k := 2) C hT (by omega) hL (by decide) rfl rfl dL_law_528 dL_law_529 dL_law_530 dL_law_531 dL_law_532 ?_
  refine j_callV2I C ml_L_60 dL_law_533 (cM_feed hg M1 (show N1 0 37 = nI nT from hT37) hN.2.2.2.2.2.2.2.2.1 (xs (i + 1)) (xs (i + 2))) ⟨by rw [M1.c]; decide, by rw [M1.c]; rfl⟩ ⟨Nat.le_of_ble_eq_true rfl, Nat.le_of_ble_eq_true rfl⟩ (Nat.le_of_ble_eq_true rfl) ⟨rfl, rfl⟩ ⟨by show cells + 0 ≤ 600000; omega, by show slots + 0 ≤ 7302250; omega⟩ ?_
  obtain ⟨hJ, er⟩ := JI.next (mF := fun N => mFeed N (xs (i + 1)) (xs (i + 2))) (fun N K => c_feed N K (xs (i + 1)) (xs (i + 2))) h hx hf ⟨_, _, _, _, _, ht⟩ (sc_ex _)
  refine j_icmp_eq (tgt := 798) C dL_law_536 (by decide) (fun _ => ?_) (fun z => absurd er z)
  refine J.widen (k := cells + 10) (n := slots + 1084) (by show cells + 0 ≤ cells + 10; omega) (by show slots + 0 ≤ slots + 1084; omega) ?_
  exact kk _ _ hJ

theorem lw_vote {p : Program} {l : Launch} {e : Env} {s : State} {m : MethodId} {args : Array Value} {below : List Frame} {meth : Method} {c : Code} {Q : State → Prop} {g : WGp} {ret : Option FieldType} (C : Cx p s m args meth c g 4 RL cL_law ret) {o : Nat → Nat} (hX : HX g o) (hX2 : HX2 g) {b L i : Nat} {xs : Nat → Int32} (hT : va_T .int b L (fun j => .int (xs j)) g.A s s.heap) (hi : i + 5 ≤ L) (hL : L ≤ 2560) {sh : WSh} {N : WNm} {cells slots : Nat} (hc : cells + 10 ≤ 600000 ∧ slots + 1084 ≤ 7302250) (h : JI o sh N) (kk : ∀ (sh2 : WSh) (N2 : WNm), JI o sh2 N2 → J p l e room_1 s m args below meth c Q g 4 sh2 N2 (cells + 10) (slots + 1084) 798 [some (.ref b), some (.ref (sh2.2.2 100)), some (.ref (sh2.2.2 0)), some (.int (nI i))] []) : J p l e room_1 s m args below meth c Q g 4 sh N cells slots 541 [some (.ref b), some (.ref (sh.2.2 100)), some (.ref (sh.2.2 0)), some (.int (nI i))] [] := by
  have hg := C.2.2.2.2.2.2.1
  have hop := h.op
  obtain ⟨nG, nB, nV, nP, dy, kG, kB, kV, nT, ln, k, rl, hop⟩ := hop
  obtain ⟨X, hN, hI, hK, hrl⟩ := hop
  obtain ⟨base, hbase, hb6⟩ := hI.2.2.2.2.1
  refine j_aload_n C dL_law_541 rfl ?_
  refine l_arg (k := 1) C hT (by omega) hL (by decide) rfl rfl dL_law_542 dL_law_543 dL_law_544 dL_law_545 dL_law_546 ?_
  refine j_callV1Ig C ml_L_61 dL_law_547 (cX_vote hg X hN hI hX hX2 hK hrl hbase hb6 (xs (i + 1))) ⟨by rw [X.c (i := 100) (c := 6) (by decide)]; decide, by rw [X.c (i := 100) (c := 6) (by decide)]; rfl⟩ ⟨Nat.le_of_ble_eq_true rfl, Nat.le_of_ble_eq_true rfl⟩ (Nat.le_of_ble_eq_true rfl) ⟨rfl, rfl⟩ ⟨by show cells + 3 ≤ 600000; omega, by show slots + 600 ≤ 7302250; omega⟩ (fun r sh1 N1 hq => ?_)
  obtain ⟨hV, hf⟩ := hq
  have M1 := h.1.keep hf
  have hI1 : TI (MG N1 zz) nG nB nV nP dy := by rw [hf.mg]; exact hI
  have hT37 : MG N1 zz 0 37 = nI nT := by rw [hf.mg]; exact hN.2.2.2.2.2.2.2.2.2.1
  rw [← hf.2, ← (hf.1 0 (by decide)).2.2.1]
  refine j_aload_n C dL_law_550 rfl ?_
  refine l_arg (k := 1) C hT (by omega) hL (by decide) rfl rfl dL_law_551 dL_law_552 dL_law_553 dL_law_554 dL_law_555 ?_
  refine j_callV1Ig C ml_L_64 dL_law_556 (cM_vote hg M1 (show N1 0 37 = nI nT from hT37) hN.2.2.2.2.2.2.2.2.1 (show N1 0 38 = nI nV from hI1.v38) hI.1.2.2.1.2.1 (show N1 42 nV = nI base by
      have z : MG N1 zz 42 nV = nI base := by rw [hf.mg]; exact hbase
      exact z) (fun _ => by have := X.nV3; omega) (xs (i + 1))) ⟨by rw [M1.c]; decide, by rw [M1.c]; rfl⟩ ⟨Nat.le_of_ble_eq_true rfl, Nat.le_of_ble_eq_true rfl⟩ (Nat.le_of_ble_eq_true rfl) ⟨rfl, rfl⟩ ⟨by show cells + 3 ≤ 600000; omega, by show slots + 600 ≤ 7302250; omega⟩ (fun r2 sh2 N2 hq => ?_)
  obtain ⟨e1, hv⟩ := hq
  replace e1 := e1.symm
  subst e1
  replace hv : VR N1 nT base nV (xs (i + 1)) r2 N2 := hv
  have hv2 := hv.mg zz
  rw [hf.mg zz] at hv2
  obtain ⟨er, hx, nV2, ht⟩ := hV _ _ hv2
  have hJ : JI o sh1 N2 := ⟨M1, ⟨_, _, _, _, _, ht⟩, hx.go hv.hi rfl⟩
  refine j_icmp_eq (tgt := 798) C dL_law_559 (by decide) (fun _ => ?_) (fun z => absurd er.symm z)
  refine J.widen (k := cells + 10) (n := slots + 1084) (by show cells + 3 ≤ cells + 10; omega) (by show slots + 600 ≤ slots + 1084; omega) ?_
  exact kk _ _ hJ

theorem lw_known {p : Program} {l : Launch} {e : Env} {s : State} {m : MethodId} {args : Array Value} {below : List Frame} {meth : Method} {c : Code} {Q : State → Prop} {g : WGp} {ret : Option FieldType} (C : Cx p s m args meth c g 4 RL cL_law ret) {o : Nat → Nat} (hX : HX g o) (hX2 : HX2 g) {b L i : Nat} {xs : Nat → Int32} (hT : va_T .int b L (fun j => .int (xs j)) g.A s s.heap) (hi : i + 5 ≤ L) (hL : L ≤ 2560) {sh : WSh} {N : WNm} {cells slots : Nat} (hc : cells + 10 ≤ 600000 ∧ slots + 1084 ≤ 7302250) (h : JI o sh N) (kk : ∀ (sh2 : WSh) (N2 : WNm), JI o sh2 N2 → J p l e room_1 s m args below meth c Q g 4 sh2 N2 (cells + 10) (slots + 1084) 798 [some (.ref b), some (.ref (sh2.2.2 100)), some (.ref (sh2.2.2 0)), some (.int (nI i))] []) : J p l e room_1 s m args below meth c Q g 4 sh N cells slots 564 [some (.ref b), some (.ref (sh.2.2 100)), some (.ref (sh.2.2 0)), some (.int (nI i))] [] := by
  have hg := C.2.2.2.2.2.2.1
  have hop := h.op
  obtain ⟨nG, nB, nV, nP, dy, kG, kB, kV, nT, ln, k, rl, hop⟩ := hop
  obtain ⟨X, hN, hI, hK, hrl⟩ := hop
  refine j_aload_n C dL_law_564 rfl ?_
  refine l_arg (k := 1) C hT (by omega) hL (by decide) rfl rfl dL_law_565 dL_law_566 dL_law_567 dL_law_568 dL_law_569 ?_
  refine l_arg (k := 2) C hT (by omega) hL (by decide) rfl rfl dL_law_570 dL_law_571 dL_law_572 dL_law_573 dL_law_574 ?_
  refine j_callV2Ig C ml_L_65 dL_law_575 (cX_known hg X hN hI  (xs (i + 1)) (xs (i + 2))) ⟨by rw [X.c (i := 100) (c := 6) (by decide)]; decide, by rw [X.c (i := 100) (c := 6) (by decide)]; rfl⟩ ⟨Nat.le_of_ble_eq_true rfl, Nat.le_of_ble_eq_true rfl⟩ (Nat.le_of_ble_eq_true rfl) ⟨rfl, rfl⟩ ⟨by show cells + 0 ≤ 600000; omega, by show slots + 0 ≤ 7302250; omega⟩ (fun r sh1 N1 hq => ?_)
  obtain ⟨e1, er0, hN1, hf1⟩ := hq
  replace e1 := e1.symm
  subst e1
  subst er0
  have ht : TI (mKnownP (MG N zz) (xs (i + 1)) (xs (i + 2))).2 nG nB nV nP dy := by rw [ro_known]; exact hI
  have hx := XSt.qx ⟨X, hN, hI, hK, hrl⟩ hN1 hf1 ht
  have hf := hf1.l sh
  have M1 := h.1.keep hf
  have hI1 : TI (MG N1 zz) nG nB nV nP dy := by rw [hf.mg]; exact hI
  refine j_aload_n C dL_law_578 rfl ?_
  refine l_arg (k := 1) C hT (by omega) hL (by decide) rfl rfl dL_law_579 dL_law_580 dL_law_581 dL_law_582 dL_law_583 ?_
  refine l_arg (k := 2) C hT (by omega) hL (by decide) rfl rfl dL_law_584 dL_law_585 dL_law_586 dL_law_587 dL_law_588 ?_
  refine j_callV2I C ml_L_68 dL_law_589 (cM_known hg M1 (show N1 0 5 = nI nP from hI1.p5) hI.1.2.2.2.1.2 (show N1 0 38 = nI nV from hI1.v38) hI.1.2.2.1.2.1 (xs (i + 1)) (xs (i + 2))) ⟨by rw [M1.c]; decide, by rw [M1.c]; rfl⟩ ⟨Nat.le_of_ble_eq_true rfl, Nat.le_of_ble_eq_true rfl⟩ (Nat.le_of_ble_eq_true rfl) ⟨rfl, rfl⟩ ⟨by show cells + 0 ≤ 600000; omega, by show slots + 0 ≤ 7302250; omega⟩ ?_
  obtain ⟨hJ, er⟩ := JI.next (mF := fun N => mKnownP N (xs (i + 1)) (xs (i + 2))) (fun N K => c_knownP N K (xs (i + 1)) (xs (i + 2))) h hx hf ⟨_, _, _, _, _, ht⟩ (sc_ex _)
  refine j_icmp_eq (tgt := 798) C dL_law_592 (by decide) (fun _ => ?_) (fun z => absurd er z)
  refine J.widen (k := cells + 10) (n := slots + 1084) (by show cells + 0 ≤ cells + 10; omega) (by show slots + 0 ≤ slots + 1084; omega) ?_
  exact kk _ _ hJ

theorem lw_says {p : Program} {l : Launch} {e : Env} {s : State} {m : MethodId} {args : Array Value} {below : List Frame} {meth : Method} {c : Code} {Q : State → Prop} {g : WGp} {ret : Option FieldType} (C : Cx p s m args meth c g 4 RL cL_law ret) {o : Nat → Nat} (hX : HX g o) (hX2 : HX2 g) {b L i : Nat} {xs : Nat → Int32} (hT : va_T .int b L (fun j => .int (xs j)) g.A s s.heap) (hi : i + 5 ≤ L) (hL : L ≤ 2560) {sh : WSh} {N : WNm} {cells slots : Nat} (hc : cells + 10 ≤ 600000 ∧ slots + 1084 ≤ 7302250) (h : JI o sh N) (kk : ∀ (sh2 : WSh) (N2 : WNm), JI o sh2 N2 → J p l e room_1 s m args below meth c Q g 4 sh2 N2 (cells + 10) (slots + 1084) 798 [some (.ref b), some (.ref (sh2.2.2 100)), some (.ref (sh2.2.2 0)), some (.int (nI i))] []) : J p l e room_1 s m args below meth c Q g 4 sh N cells slots 597 [some (.ref b), some (.ref (sh.2.2 100)), some (.ref (sh.2.2 0)), some (.int (nI i))] [] := by
  have hg := C.2.2.2.2.2.2.1
  have hop := h.op
  obtain ⟨nG, nB, nV, nP, dy, kG, kB, kV, nT, ln, k, rl, hop⟩ := hop
  obtain ⟨X, hN, hI, hK, hrl⟩ := hop
  refine j_aload_n C dL_law_597 rfl ?_
  refine l_arg (k := 1) C hT (by omega) hL (by decide) rfl rfl dL_law_598 dL_law_599 dL_law_600 dL_law_601 dL_law_602 ?_
  refine l_arg (k := 2) C hT (by omega) hL (by decide) rfl rfl dL_law_603 dL_law_604 dL_law_605 dL_law_606 dL_law_607 ?_
  refine l_arg (k := 3) C hT (by omega) hL (by decide) rfl rfl dL_law_608 dL_law_609 dL_law_610 dL_law_611 dL_law_612 ?_
  refine j_callV3Ig C ml_L_69 dL_law_613 (cX_says hg X hN hI hX (xs (i + 1)) (xs (i + 2)) (xs (i + 3))) ⟨by rw [X.c (i := 100) (c := 6) (by decide)]; decide, by rw [X.c (i := 100) (c := 6) (by decide)]; rfl⟩ ⟨Nat.le_of_ble_eq_true rfl, Nat.le_of_ble_eq_true rfl⟩ (Nat.le_of_ble_eq_true rfl) ⟨rfl, rfl⟩ ⟨by show cells + 0 ≤ 600000; omega, by show slots + 0 ≤ 7302250; omega⟩ (fun r sh1 N1 hq => ?_)
  obtain ⟨e1, er0, hN1, hf1⟩ := hq
  replace e1 := e1.symm
  subst e1
  subst er0
  have ht := hI
  have hx := XSt.qx ⟨X, hN, hI, hK, hrl⟩ hN1 hf1 ht
  have hf := hf1.l sh
  have M1 := h.1.keep hf
  have hI1 : TI (MG N1 zz) nG nB nV nP dy := by rw [hf.mg]; exact hI
  refine j_aload_n C dL_law_616 rfl ?_
  refine l_arg (k := 1) C hT (by omega) hL (by decide) rfl rfl dL_law_617 dL_law_618 dL_law_619 dL_law_620 dL_law_621 ?_
  refine l_arg (k := 2) C hT (by omega) hL (by decide) rfl rfl dL_law_622 dL_law_623 dL_law_624 dL_law_625 dL_law_626 ?_
  refine l_arg (k := 3) C hT (by omega) hL (by decide) rfl rfl dL_law_627 dL_law_628 dL_law_629 dL_law_630 dL_law_631 ?_
  refine j_callV3Ig C ml_L_72 dL_law_632 (cM_says hg M1 (show N1 0 9 = nI nG from hI1.g9) hI.1.1.2 (show N1 0 23 = nI nB from hI1.b23) hI.1.2.1.2 (show N1 0 38 = nI nV from hI1.v38) hI.1.2.2.1.2.1 (fun v hv => voteOk_of (N := MG N1 zz) rfl rfl rfl (hI1.1.2.2.1.2.2 v hv)) (fun a ha hs => (show vp_in (N1 16 a) 12 from hI1.1.port ha (Or.inl hs))) (xs (i + 1)) (xs (i + 2)) (xs (i + 3))) ⟨by rw [M1.c]; decide, by rw [M1.c]; rfl⟩ ⟨Nat.le_of_ble_eq_true rfl, Nat.le_of_ble_eq_true rfl⟩ (Nat.le_of_ble_eq_true rfl) ⟨rfl, rfl⟩ ⟨by show cells + 0 ≤ 600000; omega, by show slots + 0 ≤ 7302250; omega⟩ (fun r2 sh2 N2 hq => ?_)
  obtain ⟨e1, er0, hq2⟩ := hq
  replace e1 := e1.symm
  subst e1
  subst er0
  obtain ⟨hJ, er⟩ := JI.next (mF := fun N => (mSaysP N (xs (i + 1)) (xs (i + 2)) (xs (i + 3)), N)) (fun N K => (by show (mSaysP (MG N K) (xs (i + 1)) (xs (i + 2)) (xs (i + 3)), MG N K) = _; rw [c_saysP])) h hx hf ⟨_, _, _, _, _, ht⟩ hq2
  refine j_icmp_eq (tgt := 798) C dL_law_635 (by decide) (fun _ => ?_) (fun z => absurd er z)
  refine J.widen (k := cells + 10) (n := slots + 1084) (by show cells + 0 ≤ cells + 10; omega) (by show slots + 0 ≤ slots + 1084; omega) ?_
  exact kk _ _ hJ

theorem lw_start {p : Program} {l : Launch} {e : Env} {s : State} {m : MethodId} {args : Array Value} {below : List Frame} {meth : Method} {c : Code} {Q : State → Prop} {g : WGp} {ret : Option FieldType} (C : Cx p s m args meth c g 4 RL cL_law ret) {o : Nat → Nat} (hX : HX g o) (hX2 : HX2 g) {b L i : Nat} {xs : Nat → Int32} (hT : va_T .int b L (fun j => .int (xs j)) g.A s s.heap) (hi : i + 5 ≤ L) (hL : L ≤ 2560) {sh : WSh} {N : WNm} {cells slots : Nat} (hc : cells + 10 ≤ 600000 ∧ slots + 1084 ≤ 7302250) (h : JI o sh N) (kk : ∀ (sh2 : WSh) (N2 : WNm), JI o sh2 N2 → J p l e room_1 s m args below meth c Q g 4 sh2 N2 (cells + 10) (slots + 1084) 798 [some (.ref b), some (.ref (sh2.2.2 100)), some (.ref (sh2.2.2 0)), some (.int (nI i))] []) : J p l e room_1 s m args below meth c Q g 4 sh N cells slots 640 [some (.ref b), some (.ref (sh.2.2 100)), some (.ref (sh.2.2 0)), some (.int (nI i))] [] := by
  have hg := C.2.2.2.2.2.2.1
  have hop := h.op
  obtain ⟨nG, nB, nV, nP, dy, kG, kB, kV, nT, ln, k, rl, hop⟩ := hop
  obtain ⟨X, hN, hI, hK, hrl⟩ := hop
  refine j_aload_n C dL_law_640 rfl ?_
  refine l_arg (k := 1) C hT (by omega) hL (by decide) rfl rfl dL_law_641 dL_law_642 dL_law_643 dL_law_644 dL_law_645 ?_
  refine j_callV1Ig C ml_L_73 dL_law_646 (cX_start hg X hN hI  (xs (i + 1))) ⟨by rw [X.c (i := 100) (c := 6) (by decide)]; decide, by rw [X.c (i := 100) (c := 6) (by decide)]; rfl⟩ ⟨Nat.le_of_ble_eq_true rfl, Nat.le_of_ble_eq_true rfl⟩ (Nat.le_of_ble_eq_true rfl) ⟨rfl, rfl⟩ ⟨by show cells + 0 ≤ 600000; omega, by show slots + 0 ≤ 7302250; omega⟩ (fun r sh1 N1 hq => ?_)
  obtain ⟨e1, er0, hN1, hf1⟩ := hq
  replace e1 := e1.symm
  subst e1
  subst er0
  have ht := k_start hI (xs (i + 1))
  have hx := XSt.qx ⟨X, hN, hI, hK, hrl⟩ hN1 hf1 ht
  have hf := hf1.l sh
  have M1 := h.1.keep hf
  have hI1 : TI (MG N1 zz) nG nB nV nP dy := by rw [hf.mg]; exact hI
  refine j_aload_n C dL_law_649 rfl ?_
  refine l_arg (k := 1) C hT (by omega) hL (by decide) rfl rfl dL_law_650 dL_law_651 dL_law_652 dL_law_653 dL_law_654 ?_
  refine j_callV1I C ml_L_76 dL_law_655 (cM_start hg M1 (show N1 0 9 = nI nG from hI1.g9) hI.1.1.2 (xs (i + 1))) ⟨by rw [M1.c]; decide, by rw [M1.c]; rfl⟩ ⟨Nat.le_of_ble_eq_true rfl, Nat.le_of_ble_eq_true rfl⟩ (Nat.le_of_ble_eq_true rfl) ⟨rfl, rfl⟩ ⟨by show cells + 0 ≤ 600000; omega, by show slots + 0 ≤ 7302250; omega⟩ ?_
  obtain ⟨hJ, er⟩ := JI.next (mF := fun N => mStart N (xs (i + 1))) (fun N K => c_start N K (xs (i + 1))) h hx hf ⟨_, _, _, _, _, ht⟩ (sc_ex _)
  refine j_icmp_eq (tgt := 798) C dL_law_658 (by decide) (fun _ => ?_) (fun z => absurd er z)
  refine J.widen (k := cells + 10) (n := slots + 1084) (by show cells + 0 ≤ cells + 10; omega) (by show slots + 0 ≤ slots + 1084; omega) ?_
  exact kk _ _ hJ

theorem lw_day {p : Program} {l : Launch} {e : Env} {s : State} {m : MethodId} {args : Array Value} {below : List Frame} {meth : Method} {c : Code} {Q : State → Prop} {g : WGp} {ret : Option FieldType} (C : Cx p s m args meth c g 4 RL cL_law ret) {o : Nat → Nat} (hX : HX g o) (hX2 : HX2 g) {b L i : Nat} {xs : Nat → Int32} (hT : va_T .int b L (fun j => .int (xs j)) g.A s s.heap) (hi : i + 5 ≤ L) (hL : L ≤ 2560) {sh : WSh} {N : WNm} {cells slots : Nat} (hc : cells + 10 ≤ 600000 ∧ slots + 1084 ≤ 7302250) (h : JI o sh N) (kk : ∀ (sh2 : WSh) (N2 : WNm), JI o sh2 N2 → J p l e room_1 s m args below meth c Q g 4 sh2 N2 (cells + 10) (slots + 1084) 798 [some (.ref b), some (.ref (sh2.2.2 100)), some (.ref (sh2.2.2 0)), some (.int (nI i))] []) : J p l e room_1 s m args below meth c Q g 4 sh N cells slots 663 [some (.ref b), some (.ref (sh.2.2 100)), some (.ref (sh.2.2 0)), some (.int (nI i))] [] := by
  have hg := C.2.2.2.2.2.2.1
  have hop := h.op
  obtain ⟨nG, nB, nV, nP, dy, kG, kB, kV, nT, ln, k, rl, hop⟩ := hop
  obtain ⟨X, hN, hI, hK, hrl⟩ := hop
  refine j_aload_n C dL_law_663 rfl ?_
  refine l_arg (k := 1) C hT (by omega) hL (by decide) rfl rfl dL_law_664 dL_law_665 dL_law_666 dL_law_667 dL_law_668 ?_
  refine j_callV1Ig C ml_L_77 dL_law_669 (cX_day hg X hN hI hX hX2 hK hrl (xs (i + 1))) ⟨by rw [X.c (i := 100) (c := 6) (by decide)]; decide, by rw [X.c (i := 100) (c := 6) (by decide)]; rfl⟩ ⟨Nat.le_of_ble_eq_true rfl, Nat.le_of_ble_eq_true rfl⟩ (Nat.le_of_ble_eq_true rfl) ⟨rfl, rfl⟩ ⟨by show cells + 10 ≤ 600000; omega, by show slots + 1084 ≤ 7302250; omega⟩ (fun r sh1 N1 hq => ?_)
  obtain ⟨er0, k1, rl1, hrl1, hK1, X1, hN1, hfk⟩ := hq
  subst er0
  obtain ⟨w1, ht⟩ := k_day hI (xs (i + 1))
  have hf := hfk.l
  have hx : XSt o sh1 N1 (mDay (MG N zz) (xs (i + 1))).2 := ⟨nG, nB, nV, kG, kB, kV, nT, ln, k1, rl1, X1, hN1, hK1, hrl1, ht.g9, ht.b23, ht.v38⟩
  have M1 := h.1.keep hf
  have hI1 : TI (MG N1 zz) nG nB nV nP dy := by rw [hf.mg]; exact hI
  rw [← hf.2, ← (hf.1 0 (by decide)).2.2.1]
  refine j_aload_n C dL_law_672 rfl ?_
  refine l_arg (k := 1) C hT (by omega) hL (by decide) rfl rfl dL_law_673 dL_law_674 dL_law_675 dL_law_676 dL_law_677 ?_
  refine j_callV1Ig C ml_L_80 dL_law_678 (cM_day hg M1 (show MOK N1 nG nB nV nP dy from ⟨hI1.1.1, hI1.1.2.1, ⟨hI1.1.2.2.1.1, hI1.1.2.2.1.2.1, (fun v hv => voteOk_of (N := MG N1 zz) rfl rfl rfl (hI1.1.2.2.1.2.2 v hv))⟩, hI1.1.2.2.2.1, hI1.1.2.2.2.2.1, hI1.1.2.2.2.2.2.1, hI1.1.2.2.2.2.2.2⟩) (xs (i + 1))) ⟨by rw [M1.c]; decide, by rw [M1.c]; rfl⟩ ⟨Nat.le_of_ble_eq_true rfl, Nat.le_of_ble_eq_true rfl⟩ (Nat.le_of_ble_eq_true rfl) ⟨rfl, rfl⟩ ⟨by show cells + 10 ≤ 600000; omega, by show slots + 1084 ≤ 7302250; omega⟩ (fun r2 sh2 N2 hq => ?_)
  obtain ⟨e1, er0, hq2⟩ := hq
  replace e1 := e1.symm
  subst e1
  subst er0
  obtain ⟨hJ, er⟩ := JI.next (mF := fun N => mDay N (xs (i + 1))) (fun N K => c_day N K (xs (i + 1))) h hx hf ⟨_, _, _, _, _, ht⟩ hq2
  refine j_icmp_eq (tgt := 798) C dL_law_681 (by decide) (fun _ => ?_) (fun z => absurd er z)
  refine J.widen (k := cells + 10) (n := slots + 1084) (by show cells + 10 ≤ cells + 10; omega) (by show slots + 1084 ≤ slots + 1084; omega) ?_
  exact kk _ _ hJ

theorem lw_toss {p : Program} {l : Launch} {e : Env} {s : State} {m : MethodId} {args : Array Value} {below : List Frame} {meth : Method} {c : Code} {Q : State → Prop} {g : WGp} {ret : Option FieldType} (C : Cx p s m args meth c g 4 RL cL_law ret) {o : Nat → Nat} (hX : HX g o) (hX2 : HX2 g) {b L i : Nat} {xs : Nat → Int32} (hT : va_T .int b L (fun j => .int (xs j)) g.A s s.heap) (hi : i + 5 ≤ L) (hL : L ≤ 2560) {sh : WSh} {N : WNm} {cells slots : Nat} (hc : cells + 10 ≤ 600000 ∧ slots + 1084 ≤ 7302250) (h : JI o sh N) (kk : ∀ (sh2 : WSh) (N2 : WNm), JI o sh2 N2 → J p l e room_1 s m args below meth c Q g 4 sh2 N2 (cells + 10) (slots + 1084) 798 [some (.ref b), some (.ref (sh2.2.2 100)), some (.ref (sh2.2.2 0)), some (.int (nI i))] []) : J p l e room_1 s m args below meth c Q g 4 sh N cells slots 686 [some (.ref b), some (.ref (sh.2.2 100)), some (.ref (sh.2.2 0)), some (.int (nI i))] [] := by
  have hg := C.2.2.2.2.2.2.1
  have hop := h.op
  obtain ⟨nG, nB, nV, nP, dy, kG, kB, kV, nT, ln, k, rl, hop⟩ := hop
  obtain ⟨X, hN, hI, hK, hrl⟩ := hop
  refine j_aload_n C dL_law_686 rfl ?_
  refine l_arg (k := 1) C hT (by omega) hL (by decide) rfl rfl dL_law_687 dL_law_688 dL_law_689 dL_law_690 dL_law_691 ?_
  refine l_arg (k := 2) C hT (by omega) hL (by decide) rfl rfl dL_law_692 dL_law_693 dL_law_694 dL_law_695 dL_law_696 ?_
  refine j_callV2Ig C ml_L_81 dL_law_697 (cX_toss hg X hN hI hX hX2 hK hrl (xs (i + 1)) (xs (i + 2))) ⟨by rw [X.c (i := 100) (c := 6) (by decide)]; decide, by rw [X.c (i := 100) (c := 6) (by decide)]; rfl⟩ ⟨Nat.le_of_ble_eq_true rfl, Nat.le_of_ble_eq_true rfl⟩ (Nat.le_of_ble_eq_true rfl) ⟨rfl, rfl⟩ ⟨by show cells + 10 ≤ 600000; omega, by show slots + 1084 ≤ 7302250; omega⟩ (fun r sh1 N1 hq => ?_)
  obtain ⟨er0, k1, rl1, hrl1, hK1, X1, hN1, hfk⟩ := hq
  subst er0
  have ht := k_toss hI (xs (i + 1)) (xs (i + 2))
  have hf := hfk.l
  have hx : XSt o sh1 N1 (mToss (MG N zz) (xs (i + 1)) (xs (i + 2))).2 := ⟨nG, nB, nV, kG, kB, kV, nT, ln, k1, rl1, X1, hN1, hK1, hrl1, ht.g9, ht.b23, ht.v38⟩
  have M1 := h.1.keep hf
  have hI1 : TI (MG N1 zz) nG nB nV nP dy := by rw [hf.mg]; exact hI
  rw [← hf.2, ← (hf.1 0 (by decide)).2.2.1]
  refine j_aload_n C dL_law_700 rfl ?_
  refine l_arg (k := 1) C hT (by omega) hL (by decide) rfl rfl dL_law_701 dL_law_702 dL_law_703 dL_law_704 dL_law_705 ?_
  refine l_arg (k := 2) C hT (by omega) hL (by decide) rfl rfl dL_law_706 dL_law_707 dL_law_708 dL_law_709 dL_law_710 ?_
  have hal : 0 ≤ xs (i + 1) ∧ xs (i + 1) ≤ N1 0 9 - 1 → ¬ mAll N1 (xs (i + 1)) nB = 0 := fun hxx => by
    obtain ⟨ha, e1⟩ := rngT (y := N1 0 9) hxx (show N1 0 9 = nI nG from hI1.g9) (Nat.le_trans hI.1.1.2 (by decide))
    have hb := bear_eq hI1 ha hI.1.1.2 hI.1.2.1.2 nB (Nat.le_refl _)
    rw [← c_all N1 zz, e1, ← hb.1]
    intro z
    have z2 := congrArg Int64.toInt z
    rw [Int32.toInt_toInt64] at z2
    have z3 : (0 : Int64).toInt = 0 := rfl
    omega
  refine j_callV2Ig C ml_L_84 dL_law_711 (cM_toss hg M1 (show N1 0 9 = nI nG from hI1.g9) hI.1.1.2 (show N1 0 23 = nI nB from hI1.b23) hI.1.2.1.2 (fun k hk => (show vp_in (N1 25 k) 10 from hI1.1.2.2.2.2.2.1 k hk)) (xs (i + 1)) (xs (i + 2)) hal) ⟨by rw [M1.c]; decide, by rw [M1.c]; rfl⟩ ⟨Nat.le_of_ble_eq_true rfl, Nat.le_of_ble_eq_true rfl⟩ (Nat.le_of_ble_eq_true rfl) ⟨rfl, rfl⟩ ⟨by show cells + 10 ≤ 600000; omega, by show slots + 1084 ≤ 7302250; omega⟩ (fun r2 sh2 N2 hq => ?_)
  obtain ⟨e1, er0, hq2⟩ := hq
  replace e1 := e1.symm
  subst e1
  subst er0
  obtain ⟨hJ, er⟩ := JI.next (mF := fun N => mToss N (xs (i + 1)) (xs (i + 2))) (fun N K => c_toss N K (xs (i + 1)) (xs (i + 2))) h hx hf ⟨_, _, _, _, _, ht⟩ hq2
  refine j_icmp_eq (tgt := 798) C dL_law_714 (by decide) (fun _ => ?_) (fun z => absurd er z)
  refine J.widen (k := cells + 10) (n := slots + 1084) (by show cells + 10 ≤ cells + 10; omega) (by show slots + 1084 ≤ slots + 1084; omega) ?_
  exact kk _ _ hJ

theorem lw_ship {p : Program} {l : Launch} {e : Env} {s : State} {m : MethodId} {args : Array Value} {below : List Frame} {meth : Method} {c : Code} {Q : State → Prop} {g : WGp} {ret : Option FieldType} (C : Cx p s m args meth c g 4 RL cL_law ret) {o : Nat → Nat} (hX : HX g o) (hX2 : HX2 g) {b L i : Nat} {xs : Nat → Int32} (hT : va_T .int b L (fun j => .int (xs j)) g.A s s.heap) (hi : i + 5 ≤ L) (hL : L ≤ 2560) {sh : WSh} {N : WNm} {cells slots : Nat} (hc : cells + 10 ≤ 600000 ∧ slots + 1084 ≤ 7302250) (h : JI o sh N) (kk : ∀ (sh2 : WSh) (N2 : WNm), JI o sh2 N2 → J p l e room_1 s m args below meth c Q g 4 sh2 N2 (cells + 10) (slots + 1084) 798 [some (.ref b), some (.ref (sh2.2.2 100)), some (.ref (sh2.2.2 0)), some (.int (nI i))] []) : J p l e room_1 s m args below meth c Q g 4 sh N cells slots 719 [some (.ref b), some (.ref (sh.2.2 100)), some (.ref (sh.2.2 0)), some (.int (nI i))] [] := by
  have hg := C.2.2.2.2.2.2.1
  have hop := h.op
  obtain ⟨nG, nB, nV, nP, dy, kG, kB, kV, nT, ln, k, rl, hop⟩ := hop
  obtain ⟨X, hN, hI, hK, hrl⟩ := hop
  refine j_aload_n C dL_law_719 rfl ?_
  refine l_arg (k := 1) C hT (by omega) hL (by decide) rfl rfl dL_law_720 dL_law_721 dL_law_722 dL_law_723 dL_law_724 ?_
  refine l_arg (k := 2) C hT (by omega) hL (by decide) rfl rfl dL_law_725 dL_law_726 dL_law_727 dL_law_728 dL_law_729 ?_
  refine j_callV2Ig C ml_L_85 dL_law_730 (cX_ship hg X hN hI  (xs (i + 1)) (xs (i + 2))) ⟨by rw [X.c (i := 100) (c := 6) (by decide)]; decide, by rw [X.c (i := 100) (c := 6) (by decide)]; rfl⟩ ⟨Nat.le_of_ble_eq_true rfl, Nat.le_of_ble_eq_true rfl⟩ (Nat.le_of_ble_eq_true rfl) ⟨rfl, rfl⟩ ⟨by show cells + 0 ≤ 600000; omega, by show slots + 0 ≤ 7302250; omega⟩ (fun r sh1 N1 hq => ?_)
  obtain ⟨e1, er0, hN1, hf1⟩ := hq
  replace e1 := e1.symm
  subst e1
  subst er0
  have ht : TI (mShip (MG N zz) (xs (i + 1)) (xs (i + 2))).2 nG nB nV nP dy := by rw [ro_ship]; exact hI
  have hx := XSt.qx ⟨X, hN, hI, hK, hrl⟩ hN1 hf1 ht
  have hf := hf1.l sh
  have M1 := h.1.keep hf
  have hI1 : TI (MG N1 zz) nG nB nV nP dy := by rw [hf.mg]; exact hI
  refine j_aload_n C dL_law_733 rfl ?_
  refine l_arg (k := 1) C hT (by omega) hL (by decide) rfl rfl dL_law_734 dL_law_735 dL_law_736 dL_law_737 dL_law_738 ?_
  refine l_arg (k := 2) C hT (by omega) hL (by decide) rfl rfl dL_law_739 dL_law_740 dL_law_741 dL_law_742 dL_law_743 ?_
  refine j_callV2I C ml_L_88 dL_law_744 (cM_ship hg M1 (show N1 0 9 = nI nG from hI1.g9) hI.1.1.2 (show N1 0 23 = nI nB from hI1.b23) hI.1.2.1.2 (xs (i + 1)) (xs (i + 2))) ⟨by rw [M1.c]; decide, by rw [M1.c]; rfl⟩ ⟨Nat.le_of_ble_eq_true rfl, Nat.le_of_ble_eq_true rfl⟩ (Nat.le_of_ble_eq_true rfl) ⟨rfl, rfl⟩ ⟨by show cells + 0 ≤ 600000; omega, by show slots + 0 ≤ 7302250; omega⟩ ?_
  obtain ⟨hJ, er⟩ := JI.next (mF := fun N => mShip N (xs (i + 1)) (xs (i + 2))) (fun N K => c_ship N K (xs (i + 1)) (xs (i + 2))) h hx hf ⟨_, _, _, _, _, ht⟩ (sc_ex _)
  refine j_icmp_eq (tgt := 798) C dL_law_747 (by decide) (fun _ => ?_) (fun z => absurd er z)
  refine J.widen (k := cells + 10) (n := slots + 1084) (by show cells + 0 ≤ cells + 10; omega) (by show slots + 0 ≤ slots + 1084; omega) ?_
  exact kk _ _ hJ

theorem lw_count {p : Program} {l : Launch} {e : Env} {s : State} {m : MethodId} {args : Array Value} {below : List Frame} {meth : Method} {c : Code} {Q : State → Prop} {g : WGp} {ret : Option FieldType} (C : Cx p s m args meth c g 4 RL cL_law ret) {o : Nat → Nat} (hX : HX g o) (hX2 : HX2 g) {b L i : Nat} {xs : Nat → Int32} (hT : va_T .int b L (fun j => .int (xs j)) g.A s s.heap) (hi : i + 5 ≤ L) (hL : L ≤ 2560) {sh : WSh} {N : WNm} {cells slots : Nat} (hc : cells + 10 ≤ 600000 ∧ slots + 1084 ≤ 7302250) (h : JI o sh N) (kk : ∀ (sh2 : WSh) (N2 : WNm), JI o sh2 N2 → J p l e room_1 s m args below meth c Q g 4 sh2 N2 (cells + 10) (slots + 1084) 798 [some (.ref b), some (.ref (sh2.2.2 100)), some (.ref (sh2.2.2 0)), some (.int (nI i))] []) : J p l e room_1 s m args below meth c Q g 4 sh N cells slots 752 [some (.ref b), some (.ref (sh.2.2 100)), some (.ref (sh.2.2 0)), some (.int (nI i))] [] := by
  have hg := C.2.2.2.2.2.2.1
  have hop := h.op
  obtain ⟨nG, nB, nV, nP, dy, kG, kB, kV, nT, ln, k, rl, hop⟩ := hop
  obtain ⟨X, hN, hI, hK, hrl⟩ := hop
  refine j_aload_n C dL_law_752 rfl ?_
  refine l_arg (k := 1) C hT (by omega) hL (by decide) rfl rfl dL_law_753 dL_law_754 dL_law_755 dL_law_756 dL_law_757 ?_
  refine j_callV1Ig C ml_L_89 dL_law_758 (cX_count hg X hN hI  (xs (i + 1))) ⟨by rw [X.c (i := 100) (c := 6) (by decide)]; decide, by rw [X.c (i := 100) (c := 6) (by decide)]; rfl⟩ ⟨Nat.le_of_ble_eq_true rfl, Nat.le_of_ble_eq_true rfl⟩ (Nat.le_of_ble_eq_true rfl) ⟨rfl, rfl⟩ ⟨by show cells + 0 ≤ 600000; omega, by show slots + 0 ≤ 7302250; omega⟩ (fun r sh1 N1 hq => ?_)
  obtain ⟨e1, er0, hN1, hf1⟩ := hq
  replace e1 := e1.symm
  subst e1
  subst er0
  have ht : TI (mCount (MG N zz) (xs (i + 1))).2 nG nB nV nP dy := by rw [ro_count]; exact hI
  have hx := XSt.qx ⟨X, hN, hI, hK, hrl⟩ hN1 hf1 ht
  have hf := hf1.l sh
  have M1 := h.1.keep hf
  have hI1 : TI (MG N1 zz) nG nB nV nP dy := by rw [hf.mg]; exact hI
  refine j_aload_n C dL_law_761 rfl ?_
  refine l_arg (k := 1) C hT (by omega) hL (by decide) rfl rfl dL_law_762 dL_law_763 dL_law_764 dL_law_765 dL_law_766 ?_
  refine j_callV1I C ml_L_92 dL_law_767 (cM_count hg M1 (show N1 0 23 = nI nB from hI1.b23) hI.1.2.1.2 (xs (i + 1))) ⟨by rw [M1.c]; decide, by rw [M1.c]; rfl⟩ ⟨Nat.le_of_ble_eq_true rfl, Nat.le_of_ble_eq_true rfl⟩ (Nat.le_of_ble_eq_true rfl) ⟨rfl, rfl⟩ ⟨by show cells + 0 ≤ 600000; omega, by show slots + 0 ≤ 7302250; omega⟩ ?_
  obtain ⟨hJ, er⟩ := JI.next (mF := fun N => mCount N (xs (i + 1))) (fun N K => c_count N K (xs (i + 1))) h hx hf ⟨_, _, _, _, _, ht⟩ (sc_ex _)
  refine j_icmp_eq (tgt := 798) C dL_law_770 (by decide) (fun _ => ?_) (fun z => absurd er z)
  refine J.widen (k := cells + 10) (n := slots + 1084) (by show cells + 0 ≤ cells + 10; omega) (by show slots + 0 ≤ slots + 1084; omega) ?_
  exact kk _ _ hJ

theorem lw_coins {p : Program} {l : Launch} {e : Env} {s : State} {m : MethodId} {args : Array Value} {below : List Frame} {meth : Method} {c : Code} {Q : State → Prop} {g : WGp} {ret : Option FieldType} (C : Cx p s m args meth c g 4 RL cL_law ret) {o : Nat → Nat} (hX : HX g o) (hX2 : HX2 g) {b L i : Nat} {xs : Nat → Int32} (hT : va_T .int b L (fun j => .int (xs j)) g.A s s.heap) (hi : i + 5 ≤ L) (hL : L ≤ 2560) {sh : WSh} {N : WNm} {cells slots : Nat} (hc : cells + 10 ≤ 600000 ∧ slots + 1084 ≤ 7302250) (h : JI o sh N) (kk : ∀ (sh2 : WSh) (N2 : WNm), JI o sh2 N2 → J p l e room_1 s m args below meth c Q g 4 sh2 N2 (cells + 10) (slots + 1084) 798 [some (.ref b), some (.ref (sh2.2.2 100)), some (.ref (sh2.2.2 0)), some (.int (nI i))] []) : J p l e room_1 s m args below meth c Q g 4 sh N cells slots 775 [some (.ref b), some (.ref (sh.2.2 100)), some (.ref (sh.2.2 0)), some (.int (nI i))] [] := by
  have hg := C.2.2.2.2.2.2.1
  have hop := h.op
  obtain ⟨nG, nB, nV, nP, dy, kG, kB, kV, nT, ln, k, rl, hop⟩ := hop
  obtain ⟨X, hN, hI, hK, hrl⟩ := hop
  refine j_aload_n C dL_law_775 rfl ?_
  refine l_arg (k := 1) C hT (by omega) hL (by decide) rfl rfl dL_law_776 dL_law_777 dL_law_778 dL_law_779 dL_law_780 ?_
  refine j_callV1Ig C ml_L_93 dL_law_781 (cX_coins hg X hN hI  (xs (i + 1))) ⟨by rw [X.c (i := 100) (c := 6) (by decide)]; decide, by rw [X.c (i := 100) (c := 6) (by decide)]; rfl⟩ ⟨Nat.le_of_ble_eq_true rfl, Nat.le_of_ble_eq_true rfl⟩ (Nat.le_of_ble_eq_true rfl) ⟨rfl, rfl⟩ ⟨by show cells + 0 ≤ 600000; omega, by show slots + 0 ≤ 7302250; omega⟩ (fun r sh1 N1 hq => ?_)
  obtain ⟨e1, er0, hN1, hf1⟩ := hq
  replace e1 := e1.symm
  subst e1
  subst er0
  have ht : TI (mCoins (MG N zz) (xs (i + 1))).2 nG nB nV nP dy := by rw [ro_coins]; exact hI
  have hx := XSt.qx ⟨X, hN, hI, hK, hrl⟩ hN1 hf1 ht
  have hf := hf1.l sh
  have M1 := h.1.keep hf
  have hI1 : TI (MG N1 zz) nG nB nV nP dy := by rw [hf.mg]; exact hI
  refine j_aload_n C dL_law_784 rfl ?_
  refine l_arg (k := 1) C hT (by omega) hL (by decide) rfl rfl dL_law_785 dL_law_786 dL_law_787 dL_law_788 dL_law_789 ?_
  refine j_callV1I C ml_L_96 dL_law_790 (cM_coins hg M1  (xs (i + 1))) ⟨by rw [M1.c]; decide, by rw [M1.c]; rfl⟩ ⟨Nat.le_of_ble_eq_true rfl, Nat.le_of_ble_eq_true rfl⟩ (Nat.le_of_ble_eq_true rfl) ⟨rfl, rfl⟩ ⟨by show cells + 0 ≤ 600000; omega, by show slots + 0 ≤ 7302250; omega⟩ ?_
  obtain ⟨hJ, er⟩ := JI.next (mF := fun N => mCoins N (xs (i + 1))) (fun N K => c_coins N K (xs (i + 1))) h hx hf ⟨_, _, _, _, _, ht⟩ (sc_ex _)
  refine j_icmp_eq (tgt := 798) C dL_law_793 (by decide) (fun _ => ?_) (fun z => absurd er z)
  refine J.widen (k := cells + 10) (n := slots + 1084) (by show cells + 0 ≤ cells + 10; omega) (by show slots + 0 ≤ slots + 1084; omega) ?_
  exact kk _ _ hJ
