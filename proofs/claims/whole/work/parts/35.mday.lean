/-! ===== THE REFERENCE: day ===== -/
theorem mGiveP_sc (N : WNm) (q : Nat → Nat → Int32) (f : Int32) (a : Nat) : ∀ p, mGiveP (sc N q) f a p = sc (mGiveP N f a p) q
  | 0 => rfl
  | p + 1 => by rw [mGiveP, mGiveP, mGiveP_sc N q f a p, sc_out (by decide)]; rfl
theorem mGiveL_sc (N : WNm) (q : Nat → Nat → Int32) (f : Int32) (a : Nat) : ∀ p, mGiveL (sc N q) f a p = mGiveL N f a p
  | 0 => rfl
  | p + 1 => by rw [mGiveL, mGiveL, mGiveL_sc N q f a p, mGiveP_sc]; rfl
theorem mGive3_sc (N : WNm) (q : Nat → Nat → Int32) (k a : Nat) : mGive3 (sc N q) k a = sc (mGive3 N k a) q := by
  unfold mGive3 mBecomes
  rw [sc_out (by decide), sc_out (by decide), sc_out (by decide), sc_out (by decide)]
  rfl
theorem mGive_sc (N : WNm) (q : Nat → Nat → Int32) (k a : Nat) : mGive (sc N q) k a = sc (mGive N k a) q := by
  unfold mGive
  rw [mGive3_sc, show sc N q 32 k = N 32 k from rfl, mGiveP_sc, mGiveL_sc, sc_out (by decide)]
  rfl
theorem mSailB_sc (N : WNm) (q : Nat → Nat → Int32) (a : Nat) (p : Int32) : ∀ b, mSailB (sc N q) a p b = sc (mSailB N a p b) q
  | 0 => rfl
  | b + 1 => by
    rw [mSailB, mSailB, mSailB_sc N q a p b, mGive_sc]
    by_cases h1 : mSailB N a p b 34 b = 1 ∧ mSailB N a p b 35 b = nI a
    · rw [if_pos h1, if_pos (show sc (mSailB N a p b) q 34 b = 1 ∧ sc (mSailB N a p b) q 35 b = nI a from h1)]
      by_cases h2 : mSailB N a p b 27 b = p
      · rw [if_pos h2, if_pos (show sc (mSailB N a p b) q 27 b = p from h2)]
      · rw [if_neg h2, if_neg (show ¬ sc (mSailB N a p b) q 27 b = p from h2)]
    · rw [if_neg h1, if_neg (show ¬ (sc (mSailB N a p b) q 34 b = 1 ∧ sc (mSailB N a p b) q 35 b = nI a) from h1)]
theorem mSail1_sc (N : WNm) (q : Nat → Nat → Int32) (a : Nat) : mSail1 (sc N q) a = sc (mSail1 N a) q := by
  unfold mSail1
  rw [sc_out (by decide)]
  rfl
theorem mSail2_sc (N : WNm) (q : Nat → Nat → Int32) (a : Nat) : mSail2 (sc N q) a = sc (mSail2 N a) q := by
  unfold mSail2
  rw [mSail1_sc, sc_out (by decide), sc_out (by decide), sc_out (by decide)]
  rfl
theorem mSail_sc (N : WNm) (q : Nat → Nat → Int32) (nB a : Nat) : mSail (sc N q) nB a = sc (mSail N nB a) q := by
  unfold mSail
  rw [mSail1_sc, mSail2_sc, show sc N q 16 a = N 16 a from rfl, mSailB_sc]
  by_cases h : 10 * N 7 (tn (N 16 a)) ≤ mSail1 N a 18 a
  · rw [if_pos h, if_pos (show 10 * sc N q 7 (tn (N 16 a)) ≤ sc (mSail1 N a) q 18 a from h)]
  · rw [if_neg h, if_neg (show ¬ 10 * sc N q 7 (tn (N 16 a)) ≤ sc (mSail1 N a) q 18 a from h)]
theorem mWish_sc (N : WNm) (q : Nat → Nat → Int32) (a : Nat) : mWish (sc N q) a = mWish N a := by
  funext b
  unfold mWish
  rw [mSays_sc]
  rfl
theorem mLoad_sc (ω : Nat → Int32) (nB a : Nat) (q : Nat → Nat → Int32) : ∀ (f : Nat) (τ : Nat → Int32) (L : WNm), mLoad ω nB a f τ (sc L q) = sc (mLoad ω nB a f τ L) q
  | 0, _, _ => rfl
  | f + 1, τ, L => by
    rw [mLoad, mLoad]
    cases hb : best ω (fun b => τ b = 0) nB with
    | none => rfl
    | some j => simp only; rw [mLoad1_sc, mLoad_sc ω nB a q f]
theorem mGoEnd_sc (L : WNm) (q : Nat → Nat → Int32) (p : Int32) (a : Nat) : mGoEnd (sc L q) p a = sc (mGoEnd L p a) q := by
  unfold mGoEnd
  rw [sc_out (by decide), sc_out (by decide), sc_out (by decide), sc_out (by decide)]
  rfl
theorem mGo_sc (N : WNm) (q : Nat → Nat → Int32) (nB a : Nat) : mGo (sc N q) nB a = sc (mGo N nB a) q := by
  unfold mGo
  rw [mWish_sc, mLoad_sc, mGoEnd_sc, sc_out (by decide)]
  by_cases h : N 16 a = N 0 5 - 1
  · rw [if_pos h, if_pos (show sc N q 16 a = sc N q 0 5 - 1 from h)]
  · rw [if_neg h, if_neg (show ¬ sc N q 16 a = sc N q 0 5 - 1 from h)]
    rfl
theorem mHolds_sc (N : WNm) (q : Nat → Nat → Int32) (a b : Nat) : mHolds (sc N q) a b = mHolds N a b := by
  unfold mHolds
  rw [mSays_sc]
  rfl
theorem mStay_sc (N : WNm) (q : Nat → Nat → Int32) (a : Nat) : mStay (sc N q) a = mStay N a := by
  unfold mStay
  rw [mSays_sc]
theorem mLeaves_sc (N : WNm) (q : Nat → Nat → Int32) (nG a : Nat) : mLeaves (sc N q) nG a = mLeaves N nG a := by
  unfold mLeaves
  rw [mStay_sc]
  simp only [mHolds_sc]
  rfl
noncomputable def cif {α : Type} (P : Prop) (x y : α) : α := @ite α P (Classical.propDecidable P) x y
theorem cif_pos {α : Type} {P : Prop} {x y : α} (h : P) : cif P x y = x := if_pos h
theorem cif_neg {α : Type} {P : Prop} {x y : α} (h : ¬ P) : cif P x y = y := if_neg h
noncomputable def mDayG (N : WNm) (nB nG : Nat) : Nat → WNm
  | 0 => N
  | a + 1 => if mDayG N nB nG a 15 a = 2 then mSail (mDayG N nB nG a) nB a else (if mDayG N nB nG a 15 a = 1 then (if mDayG N nB nG a 0 1 ≤ mDayG N nB nG a 17 a then mDayG N nB nG a else cif (mLeaves (mDayG N nB nG a) nG a) (mGo (mDayG N nB nG a) nB a) (mDayG N nB nG a)) else mDayG N nB nG a)
noncomputable def mDays (N : WNm) (nB nG : Nat) : Nat → WNm
  | 0 => N
  | k + 1 => mDayG (u2 (mDays N nB nG k) 0 1 (mDays N nB nG k 0 1 + 1)) nB nG nG
noncomputable def mDay (N : WNm) (n : Int32) : Int32 × WNm := if 1 ≤ n ∧ n ≤ 100 then (if N 0 1 + n ≤ 2000 then (mDays N (tn (N 0 23)) (tn (N 0 9)) (tn n) 0 1, mDays N (tn (N 0 23)) (tn (N 0 9)) (tn n)) else (-1, N)) else (-1, N)
/-! what keeps all indexes within -/
theorem mEv_cong {N N' : WNm} (h3 : N' 43 = N 43) (h4 : N' 44 = N 44) (s0 : Nat) (val : Int32 → Int32) : ∀ j, mEv N' s0 val j = mEv N s0 val j
  | 0 => rfl
  | j + 1 => by rw [mEv, mEv, mEv_cong h3 h4 s0 val j, h3, h4]
theorem voteOk_of {N N' : WNm} {v : Nat} (h2 : N' 42 = N 42) (h3 : N' 43 = N 43) (h4 : N' 44 = N 44) (h : voteOk N v) : voteOk N' v := by
  obtain ⟨a, b, e1, e2, e3, e4, e5⟩ := h
  exact ⟨a, b, by rw [h2]; exact e1, by rw [h2]; exact e2, e3, e4, fun val => by simp only [mEv_cong h3 h4]; rw [h3]; exact e5 val⟩
def portsIn (N : WNm) (nG nP : Nat) : Prop := ∀ a, a < nG → (N 15 a = 1 ∨ N 15 a = 2) → ∃ r, r < nP ∧ N 16 a = nI r
def MOK (N : WNm) (nG nB nV nP dy : Nat) : Prop := (N 0 9 = nI nG ∧ nG ≤ 8) ∧ (N 0 23 = nI nB ∧ nB ≤ 300) ∧ (N 0 38 = nI nV ∧ nV ≤ 30 ∧ ∀ v, v < nV → voteOk N v) ∧ (N 0 5 = nI nP ∧ nP ≤ 12) ∧ (N 0 1 = nI dy ∧ dy ≤ 2000) ∧ (∀ k, k < nB → vp_in (N 25 k) 10) ∧ portsIn N nG nP
theorem MOK.of {N N' : WNm} {nG nB nV nP dy : Nat} (h : MOK N nG nB nV nP dy) (h0 : ∀ j, j ≠ 3 → N' 0 j = N 0 j) (h25 : N' 25 = N 25) (h42 : N' 42 = N 42) (h43 : N' 43 = N 43) (h44 : N' 44 = N 44) (hp : portsIn N' nG nP) : MOK N' nG nB nV nP dy := by
  obtain ⟨⟨a1, a2⟩, ⟨b1, b2⟩, ⟨c1, c2, c3⟩, ⟨d1, d2⟩, ⟨e1, e2⟩, f, -⟩ := h
  exact ⟨⟨by rw [h0 _ (by decide)]; exact a1, a2⟩, ⟨by rw [h0 _ (by decide)]; exact b1, b2⟩, ⟨by rw [h0 _ (by decide)]; exact c1, c2, fun v hv => voteOk_of h42 h43 h44 (c3 v hv)⟩, ⟨by rw [h0 _ (by decide)]; exact d1, d2⟩, ⟨by rw [h0 _ (by decide)]; exact e1, e2⟩, fun k hk => by rw [h25]; exact f k hk, hp⟩
theorem MOK.port {N : WNm} {nG nB nV nP dy a : Nat} (h : MOK N nG nB nV nP dy) (ha : a < nG) (hs : N 15 a = 1 ∨ N 15 a = 2) : vp_in (N 16 a) 12 := by
  obtain ⟨r, hr, e⟩ := h.2.2.2.2.2.2 a ha hs
  have := h.2.2.2.1.2
  rw [e]
  exact vp_inN (by omega) (by decide)
theorem mSail_row (N : WNm) (nB a : Nat) {i : Nat} (h : i ≠ 0 ∧ i ≠ 3 ∧ i ≠ 15 ∧ i ≠ 17 ∧ i ≠ 18 ∧ i ≠ 19 ∧ i ≠ 34 ∧ i ≠ 36) : mSail N nB a i = N i := by
  obtain ⟨h0, h3, h15, h17, h18, h19, h34, h36⟩ := h
  have e1 : mSail1 N a i = N i := by rw [mSail1, u2_row h18]
  unfold mSail
  split
  · rw [mSailB_row _ _ _ ⟨h0, h3, h19, h34, h36⟩, mSail2, u2_row h17, u2_row h18, u2_row h15, e1]
  · exact e1
theorem mSail_0 (N : WNm) (nB a : Nat) {j : Nat} (h : j ≠ 3) : mSail N nB a 0 j = N 0 j := by
  unfold mSail
  split
  · rw [mSailB_0 _ _ _ h]; rfl
  · rfl
theorem mSail_15 (N : WNm) (nB a : Nat) : mSail N nB a 15 = N 15 ∨ mSail N nB a 15 = fun b => if b = a then 1 else N 15 b := by
  unfold mSail
  split
  · right
    rw [mSailB_row _ _ _ (by decide)]
    funext b
    by_cases hb : b = a <;> simp [mSail2, mSail1, u2, hb]
  · left; rfl
theorem mLoad_row (ω : Nat → Int32) (nB a : Nat) {i : Nat} (h : i ≠ 34 ∧ i ≠ 35 ∧ i ≠ 36) : ∀ (f : Nat) (τ : Nat → Int32) (L : WNm), mLoad ω nB a f τ L i = L i
  | 0, _, _ => rfl
  | f + 1, τ, L => by
    rw [mLoad]
    cases hb : best ω (fun b => τ b = 0) nB with
    | none => rfl
    | some j => simp only; rw [mLoad_row ω nB a h f, mLoad1_row _ _ _ _ h]
theorem mGo_row (N : WNm) (nB a : Nat) {i : Nat} (h : i ≠ 15 ∧ i ≠ 16 ∧ i ≠ 17 ∧ i ≠ 18 ∧ i ≠ 34 ∧ i ≠ 35 ∧ i ≠ 36) : mGo N nB a i = N i := by
  obtain ⟨h15, h16, h17, h18, h4⟩ := h
  unfold mGo
  split
  · exact u2_row h15
  · rw [mGoEnd, u2_row h18, u2_row h17, u2_row h16, u2_row h15, mLoad_row _ _ _ h4]
theorem MOK.sail {N : WNm} {nG nB nV nP dy a : Nat} (h : MOK N nG nB nV nP dy) (hs : N 15 a = 2) (ha : a < nG) : MOK (mSail N nB a) nG nB nV nP dy := by
  refine h.of (fun j hj => mSail_0 N nB a hj) (mSail_row _ _ _ (by decide)) (mSail_row _ _ _ (by decide)) (mSail_row _ _ _ (by decide)) (mSail_row _ _ _ (by decide)) ?_
  intro b hb hsb
  rw [mSail_row _ _ _ (by decide)]
  by_cases e : b = a
  · subst e; exact h.2.2.2.2.2.2 b hb (Or.inr hs)
  · refine h.2.2.2.2.2.2 b hb ?_
    rcases mSail_15 N nB a with q | q
    · rw [q] at hsb; exact hsb
    · rw [q] at hsb; simp only [if_neg e] at hsb; exact hsb
theorem MOK.go {N : WNm} {nG nB nV nP dy a : Nat} (h : MOK N nG nB nV nP dy) (hs : N 15 a = 1) (ha : a < nG) : MOK (mGo N nB a) nG nB nV nP dy := by
  refine h.of (fun j _ => by rw [mGo_row _ _ _ (by decide)]) (mGo_row _ _ _ (by decide)) (mGo_row _ _ _ (by decide)) (mGo_row _ _ _ (by decide)) (mGo_row _ _ _ (by decide)) ?_
  intro b hb hsb
  obtain ⟨r, hr, er⟩ := h.2.2.2.2.2.2 a ha (Or.inl hs)
  unfold mGo at hsb ⊢
  by_cases h5 : N 16 a = N 0 5 - 1
  · rw [if_pos h5] at hsb ⊢
    by_cases e : b = a
    · subst e; rw [u2_eq] at hsb; exact absurd hsb (by decide)
    · rw [u2_ne (fun z => e z.2)] at hsb
      rw [u2_row (by decide)]
      exact h.2.2.2.2.2.2 b hb hsb
  · rw [if_neg h5] at hsb ⊢
    unfold mGoEnd at hsb ⊢
    rw [u2_row (by decide), u2_row (by decide), u2_row (by decide)] at hsb
    rw [u2_row (by decide), u2_row (by decide)]
    by_cases e : b = a
    · subst e
      rw [u2_eq]
      refine ⟨r + 1, ?_, by rw [er, nI_1]⟩
      rcases Nat.lt_or_ge (r + 1) nP with q | q
      · exact q
      · exact absurd (by rw [er, h.2.2.2.1.1, show nP = r + 1 by omega, nI_pred]) h5
    · rw [u2_ne (fun z => e z.2), mLoad_row _ _ _ (by decide)] at hsb
      rw [u2_ne (fun z => e z.2), u2_row (by decide), mLoad_row _ _ _ (by decide)]
      exact h.2.2.2.2.2.2 b hb hsb
theorem MOK.sc {N : WNm} {nG nB nV nP dy : Nat} (h : MOK N nG nB nV nP dy) (q : Nat → Nat → Int32) : MOK (sc N q) nG nB nV nP dy := h.of (fun _ _ => rfl) rfl rfl rfl rfl h.2.2.2.2.2.2
theorem MOK.dayG {N : WNm} {nG nB nV nP dy : Nat} (h : MOK N nG nB nV nP dy) : ∀ a, a ≤ nG → MOK (mDayG N nB nG a) nG nB nV nP dy
  | 0, _ => h
  | a + 1, ha => by
    have ih := h.dayG a (by omega)
    rw [mDayG]
    split
    · exact ih.sail ‹_› (by omega)
    · split
      · split
        · exact ih
        · rcases Classical.em (mLeaves (mDayG N nB nG a) nG a) with q | q
          · rw [cif_pos q]; exact ih.go ‹_› (by omega)
          · rw [cif_neg q]; exact ih
      · exact ih
theorem MOK.next {N : WNm} {nG nB nV nP dy : Nat} (h : MOK N nG nB nV nP dy) (hd : dy + 1 ≤ 2000) : MOK (u2 N 0 1 (N 0 1 + 1)) nG nB nV nP (dy + 1) := by
  obtain ⟨a, b, c, d, e, f, k⟩ := h
  exact ⟨a, b, ⟨c.1, c.2.1, fun v hv => voteOk_of (N := N) (u2_row (by decide)) (u2_row (by decide)) (u2_row (by decide)) (c.2.2 v hv)⟩, d, ⟨by rw [u2_eq, e.1, nI_1], hd⟩, f, k⟩
theorem MOK.days {N : WNm} {nG nB nV nP dy : Nat} (h : MOK N nG nB nV nP dy) : ∀ k, dy + k ≤ 2000 → MOK (mDays N nB nG k) nG nB nV nP (dy + k)
  | 0, _ => h
  | k + 1, hk => by
    rw [mDays]
    exact ((h.days k (by omega)).next (by omega)).dayG nG (Nat.le_refl _)

theorem rng100 {n : Int32} (h : 1 ≤ n ∧ n ≤ 100) : ∃ q, q ≤ 100 ∧ n = nI q ∧ tn n = q := by
  have h1 := i_le.mp h.1
  have h2 := i_le.mp h.2
  rw [show (1 : Int32).toInt = 1 from rfl] at h1
  rw [show (100 : Int32).toInt = 100 from rfl] at h2
  obtain ⟨k, hk, rfl⟩ := vp_in_of (n := 101) ((vp_in_iff (x := n)).mpr ⟨by omega, by omega⟩) (by omega)
  exact ⟨k, by omega, rfl, nI_clamp (by omega)⟩

theorem cM_day {l : Launch} {g : WGp} (hg : GOK g) {sh : WSh} {N : WNm} (M : MSh sh) {nG nB nV nP dy : Nat} (hok : MOK N nG nB nV nP dy) (n : Int32) : CT l g yX7_day cX7_day 4 (some .int) (RM 6 0 0) [.ref (sh.2.2 0), .int n] sh N (QI g (fun r sh1 N1 => sh1 = sh ∧ r = (mDay N n).1 ∧ ∃ q, N1 = sc (mDay N n).2 q)) := by
  refine ent hg (by decide +kernel) (Nat.le_of_ble_eq_true rfl) ?_
  intro p e s m args below meth c C hname
  have key : ∀ k0 : Nat, n = nI k0 → tn n = k0 → mDay N n = (mDays N nB nG (tn n) 0 1, mDays N nB nG (tn n)) → dy + k0 ≤ 2000 → ∀ k, k ≤ k0 → ∀ q, J p l e (RM 6 0 0) s m args below meth c (MQ below (QI g (fun r sh1 N1 => sh1 = sh ∧ r = (mDay N n).1 ∧ ∃ q, N1 = sc (mDay N n).2 q)) args s 0 0 g.A) g 4 sh (sc (mDays N nB nG k) q) 0 0 26 [some (.ref (sh.2.2 0)), some (.int n), some (.int (nI k)), none] [] := by
    intro k0 e1 e2 em hd
    refine up_ind (n := k0) ?_
    intro k hk ih q
    have hokk := hok.days k (by omega)
    have hG8 := hok.1.2
    have hB3 := hok.2.1.2
    have hdy := hok.2.2.2.2.1.2
    refine j_iload_n C dX7_day_26 rfl ?_
    refine j_iload_n C dX7_day_27 rfl ?_
    refine j_icmp_ge (tgt := 117) C dX7_day_28 (by decide) (fun h28 => ?_) (fun h28 => ?_)
    · skip
      have h28 : n ≤ nI k := h28
      rw [e1, n_nle (by omega) (by omega)] at h28
      obtain rfl : k = k0 := by omega
      refine j_aload_n C dX7_day_117 rfl ?_
      refine j_getI C fl_X7_165 dX7_day_118 (M.c) rfl ?_
      exact j_iret C dX7_day_121 rfl ⟨rfl, by rw [em, e2]; rfl, q, by rw [em, e2]⟩
    · skip
      have h28 : ¬ n ≤ nI k := h28
      rw [e1, n_nle (by omega) (by omega)] at h28
      refine j_aload_n C dX7_day_31 rfl ?_
      refine j_dup C dX7_day_32 rfl ?_
      refine j_getI C fl_X7_165 dX7_day_33 (M.c) rfl ?_
      refine j_iconst C dX7_day_36 (v := 1) (by decide) ?_
      refine j_iadd C dX7_day_37 ?_
      refine j_putI C fl_X7_165 dX7_day_38 (M.c) rfl rfl rfl rfl ?_
      rw [sc_out (by decide)]
      refine j_iconst C dX7_day_41 (v := 0) (by decide) ?_
      refine j_istore_n C dX7_day_42 (by decide) rfl ?_
      have hokD := hokk.next (by omega)
      suffices key2 : ∀ a, a ≤ nG → ∀ q, J p l e (RM 6 0 0) s m args below meth c (MQ below (QI g (fun r sh1 N1 => sh1 = sh ∧ r = (mDay N n).1 ∧ ∃ q, N1 = sc (mDay N n).2 q)) args s 0 0 g.A) g 4 sh (sc (mDayG (u2 (mDays N nB nG k) 0 1 (mDays N nB nG k 0 1 + 1)) nB nG a) q) 0 0 43 [some (.ref (sh.2.2 0)), some (.int n), some (.int (nI k)), some (.int (nI a))] [] from key2 0 (Nat.zero_le _) q
      refine up_ind (n := nG) ?_
      intro a ha ih2 q
      have hL := hokD.dayG a ha
      refine j_iload_n C dX7_day_43 rfl ?_
      refine j_aload_n C dX7_day_44 rfl ?_
      refine j_getI C fl_X7_140 dX7_day_45 (M.c) rfl ?_
      refine j_icmp_ge (tgt := 111) C dX7_day_48 (by decide) (fun h48 => ?_) (fun h48 => ?_)
      · skip
        have h48 : mDayG (u2 (mDays N nB nG k) 0 1 (mDays N nB nG k 0 1 + 1)) nB nG a 0 9 ≤ nI a := h48
        rw [hL.1.1, n_nle (by omega) (by omega)] at h48
        obtain rfl : a = nG := by omega
        refine j_iincN C dX7_day_111 rfl (by decide) rfl ?_
        refine j_goto (tgt := 26) C dX7_day_114 (by decide) ?_
        have z := ih (by omega) q
        rw [mDays] at z
        exact J.le (lv1 := [some (.ref (sh.2.2 0)), some (.int n), some (.int (nI (k + 1))), none]) ⟨rfl, rfl, rfl, trivial⟩ z
      · skip
        have h48 : ¬ mDayG (u2 (mDays N nB nG k) 0 1 (mDays N nB nG k 0 1 + 1)) nB nG a 0 9 ≤ nI a := h48
        rw [hL.1.1, n_nle (by omega) (by omega)] at h48
        refine j_aload_n C dX7_day_51 rfl ?_
        refine j_getR (j := 15) C fl_X7_34 dX7_day_52 (M.c) rfl (M.r14) ?_
        refine j_iload_n C dX7_day_55 rfl ?_
        refine j_ialdN C (M.t15) (⟨by omega, by decide⟩) dX7_day_56 ?_
        refine j_iconst C dX7_day_57 (v := 2) (by decide) ?_
        refine j_icmp_ne (tgt := 69) C dX7_day_58 (by decide) (fun h58 => ?_) (fun h58 => ?_)
        · skip
          refine j_aload_n C dX7_day_69 rfl ?_
          refine j_getR (j := 15) C fl_X7_34 dX7_day_70 (M.c) rfl (M.r14) ?_
          refine j_iload_n C dX7_day_73 rfl ?_
          refine j_ialdN C (M.t15) (⟨by omega, by decide⟩) dX7_day_74 ?_
          refine j_iconst C dX7_day_75 (v := 1) (by decide) ?_
          refine j_icmp_ne (tgt := 105) C dX7_day_76 (by decide) (fun h76 => ?_) (fun h76 => ?_)
          · skip
            refine j_iincN C dX7_day_105 rfl (by decide) rfl ?_
            refine j_goto (tgt := 43) C dX7_day_108 (by decide) ?_
            have z := ih2 (by omega) q
            rw [mDayG, if_neg (show ¬ mDayG (u2 (mDays N nB nG k) 0 1 (mDays N nB nG k 0 1 + 1)) nB nG a 15 a = 2 from h58), if_neg (show ¬ mDayG (u2 (mDays N nB nG k) 0 1 (mDays N nB nG k 0 1 + 1)) nB nG a 15 a = 1 from h76)] at z
            exact z
          · replace h76 := Decidable.not_not.mp h76
            refine j_aload_n C dX7_day_79 rfl ?_
            refine j_getR (j := 17) C fl_X7_40 dX7_day_80 (M.c) rfl (M.r16) ?_
            refine j_iload_n C dX7_day_83 rfl ?_
            refine j_ialdN C (M.t17) (⟨by omega, by decide⟩) dX7_day_84 ?_
            refine j_aload_n C dX7_day_85 rfl ?_
            refine j_getI C fl_X7_165 dX7_day_86 (M.c) rfl ?_
            refine j_icmp_ge (tgt := 105) C dX7_day_89 (by decide) (fun h89 => ?_) (fun h89 => ?_)
            · skip
              refine j_iincN C dX7_day_105 rfl (by decide) rfl ?_
              refine j_goto (tgt := 43) C dX7_day_108 (by decide) ?_
              have z := ih2 (by omega) q
              rw [mDayG, if_neg (show ¬ mDayG (u2 (mDays N nB nG k) 0 1 (mDays N nB nG k 0 1 + 1)) nB nG a 15 a = 2 from h58), if_pos (show mDayG (u2 (mDays N nB nG k) 0 1 (mDays N nB nG k 0 1 + 1)) nB nG a 15 a = 1 from h76), if_pos (show mDayG (u2 (mDays N nB nG k) 0 1 (mDays N nB nG k 0 1 + 1)) nB nG a 0 1 ≤ mDayG (u2 (mDays N nB nG k) 0 1 (mDays N nB nG k 0 1 + 1)) nB nG a 17 a from h89)] at z
              exact z
            · skip
              refine j_aload_n C dX7_day_92 rfl ?_
              refine j_iload_n C dX7_day_93 rfl ?_
              refine j_callV1Ig C ml_X7_304 dX7_day_94 (cM_leaves hg M (N := sc (mDayG (u2 (mDays N nB nG k) 0 1 (mDays N nB nG k 0 1 + 1)) nB nG a) q) (nG := nG) hL.1.1 hG8 (nB := nB) hL.2.1.1 hB3 (nV := nV) hL.2.2.1.1 hL.2.2.1.2.1 (fun v hv => voteOk_sc (hL.2.2.1.2.2 v hv)) (a := a) (by omega) (hL.port (by omega) (Or.inl h76))) ⟨by rw [M.c]; decide, by rw [M.c]; rfl⟩ ⟨Nat.le_of_ble_eq_true rfl, Nat.le_of_ble_eq_true rfl⟩ (Nat.le_of_ble_eq_true rfl) ⟨rfl, rfl⟩ ⟨Nat.zero_le _, Nat.zero_le _⟩ (fun r sh1 N1 hq => ?_)
              obtain ⟨e3, e4, q1, e5⟩ := hq
              replace e3 := e3.symm
              subst e3 e4 e5
              rw [sc_sc, mLeaves_sc]
              refine j_if_eq (tgt := 105) C dX7_day_97 (by decide) (fun h97 => ?_) (fun h97 => ?_)
              · replace h97 := pb_eq0.mp h97
                refine j_iincN C dX7_day_105 rfl (by decide) rfl ?_
                refine j_goto (tgt := 43) C dX7_day_108 (by decide) ?_
                have z := ih2 (by omega) q1
                rw [mDayG, if_neg (show ¬ mDayG (u2 (mDays N nB nG k) 0 1 (mDays N nB nG k 0 1 + 1)) nB nG a 15 a = 2 from h58), if_pos (show mDayG (u2 (mDays N nB nG k) 0 1 (mDays N nB nG k 0 1 + 1)) nB nG a 15 a = 1 from h76), if_neg (show ¬ mDayG (u2 (mDays N nB nG k) 0 1 (mDays N nB nG k 0 1 + 1)) nB nG a 0 1 ≤ mDayG (u2 (mDays N nB nG k) 0 1 (mDays N nB nG k 0 1 + 1)) nB nG a 17 a from h89), cif_neg h97] at z
                exact z
              · replace h97 := pb_ne0.mp h97
                refine j_aload_n C dX7_day_100 rfl ?_
                refine j_iload_n C dX7_day_101 rfl ?_
                refine j_callV1Vg C ml_X7_307 dX7_day_102 (cM_goes hg M (N := sc (mDayG (u2 (mDays N nB nG k) 0 1 (mDays N nB nG k 0 1 + 1)) nB nG a) q1) (nG := nG) hL.1.1 hG8 (nB := nB) hL.2.1.1 hB3 (nV := nV) hL.2.2.1.1 hL.2.2.1.2.1 (fun v hv => voteOk_sc (hL.2.2.1.2.2 v hv)) (a := a) (by omega) (hL.port (by omega) (Or.inl h76))) ⟨by rw [M.c]; decide, by rw [M.c]; rfl⟩ ⟨Nat.le_of_ble_eq_true rfl, Nat.le_of_ble_eq_true rfl⟩ (Nat.le_of_ble_eq_true rfl) ⟨rfl, rfl⟩ ⟨Nat.zero_le _, Nat.zero_le _⟩ (fun sh1 N1 hq => ?_)
                obtain ⟨e3, q2, e5⟩ := hq
                replace e3 := e3.symm
                subst e3 e5
                rw [mGo_sc, sc_sc]
                refine j_iincN C dX7_day_105 rfl (by decide) rfl ?_
                refine j_goto (tgt := 43) C dX7_day_108 (by decide) ?_
                have z := ih2 (by omega) q2
                rw [mDayG, if_neg (show ¬ mDayG (u2 (mDays N nB nG k) 0 1 (mDays N nB nG k 0 1 + 1)) nB nG a 15 a = 2 from h58), if_pos (show mDayG (u2 (mDays N nB nG k) 0 1 (mDays N nB nG k 0 1 + 1)) nB nG a 15 a = 1 from h76), if_neg (show ¬ mDayG (u2 (mDays N nB nG k) 0 1 (mDays N nB nG k 0 1 + 1)) nB nG a 0 1 ≤ mDayG (u2 (mDays N nB nG k) 0 1 (mDays N nB nG k 0 1 + 1)) nB nG a 17 a from h89), cif_pos h97] at z
                exact z
        · replace h58 := Decidable.not_not.mp h58
          refine j_aload_n C dX7_day_61 rfl ?_
          refine j_iload_n C dX7_day_62 rfl ?_
          refine j_callV1V C ml_X7_301 dX7_day_63 (cM_sails hg M (N := sc (mDayG (u2 (mDays N nB nG k) 0 1 (mDays N nB nG k 0 1 + 1)) nB nG a) q) (nB := nB) hL.2.1.1 hB3 hL.2.2.2.2.1.1 (by omega) (a := a) (by omega) (hL.port (by omega) (Or.inr h58)) hL.2.2.2.2.2.1) ⟨by rw [M.c]; decide, by rw [M.c]; rfl⟩ ⟨Nat.le_of_ble_eq_true rfl, Nat.le_of_ble_eq_true rfl⟩ (Nat.le_of_ble_eq_true rfl) ⟨rfl, rfl⟩ ⟨Nat.zero_le _, Nat.zero_le _⟩ ?_
          rw [mSail_sc]
          refine j_goto (tgt := 105) C dX7_day_66 (by decide) ?_
          refine j_iincN C dX7_day_105 rfl (by decide) rfl ?_
          refine j_goto (tgt := 43) C dX7_day_108 (by decide) ?_
          have z := ih2 (by omega) q
          rw [mDayG, if_pos (show mDayG (u2 (mDays N nB nG k) 0 1 (mDays N nB nG k 0 1 + 1)) nB nG a 15 a = 2 from h58)] at z
          exact z
  refine j_iload_n C dX7_day_0 rfl ?_
  refine j_iconst C dX7_day_1 (v := 1) (by decide) ?_
  refine j_bipush C dX7_day_2 (v := 100) (by decide) ?_
  refine j_callS3I C ml_X7_133 dX7_day_4 (cM_in hg _ _ _) ⟨Nat.le_of_ble_eq_true rfl, Nat.le_of_ble_eq_true rfl⟩ (Nat.le_of_ble_eq_true rfl) ⟨rfl, rfl⟩ ⟨Nat.zero_le _, Nat.zero_le _⟩ ?_
  refine j_if_eq (tgt := 22) C dX7_day_7 (by decide) (fun h7 => ?_) (fun h7 => ?_)
  · replace h7 := b2_eq0.mp h7
    refine j_iconst C dX7_day_22 (v := (-1)) (by decide) ?_
    exact j_iret C dX7_day_23 rfl ⟨rfl, by rw [mDay, if_neg h7], N, by rw [mDay, if_neg h7, sc_self]⟩
  · replace h7 := b2_ne0.mp h7
    refine j_aload_n C dX7_day_10 rfl ?_
    refine j_getI C fl_X7_165 dX7_day_11 (M.c) rfl ?_
    refine j_iload_n C dX7_day_14 rfl ?_
    refine j_iadd C dX7_day_15 ?_
    refine j_sipush C dX7_day_16 (v := 2000) (by decide) ?_
    refine j_icmp_le (tgt := 24) C dX7_day_19 (by decide) (fun h19 => ?_) (fun h19 => ?_)
    · skip
      refine j_iconst C dX7_day_24 (v := 0) (by decide) ?_
      refine j_istore_n C dX7_day_25 (by decide) rfl ?_
      have em : mDay N n = (mDays N nB nG (tn n) 0 1, mDays N nB nG (tn n)) := by
        rw [mDay, if_pos h7, if_pos h19, hok.1.1, hok.2.1.1, show tn (nI nG) = nG from nI_clamp (by have := hok.1.2; omega), show tn (nI nB) = nB from nI_clamp (by have := hok.2.1.2; omega)]
      obtain ⟨k0, hk0, e1, e2⟩ := rng100 h7
      have hd : dy + k0 ≤ 2000 := by
        rw [hok.2.2.2.2.1.1, e1, nI_add, show (2000 : Int32) = nI 2000 from rfl, n_nle (by have := hok.2.2.2.2.1.2; omega) (by omega)] at h19
        exact h19
      have z := key k0 e1 e2 em hd 0 (Nat.zero_le _) N
      rw [mDays, sc_self] at z
      exact z
    · skip
      refine j_iconst C dX7_day_22 (v := (-1)) (by decide) ?_
      exact j_iret C dX7_day_23 rfl ⟨rfl, by rw [mDay, if_pos h7, if_neg h19], N, by rw [mDay, if_pos h7, if_neg h19, sc_self]⟩
