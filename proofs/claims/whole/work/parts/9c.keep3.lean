/-! ===== WHAT HOLDS OF THE REFERENCE STAYS: galley, bale, port ===== -/
section
variable {T : WNm} {nG nB nV nP dy : Nat}
theorem k_galley (h : TI T nG nB nV nP dy) (r b s hh : Int32) : ∃ g, TI (mGalley T r b s hh).2 g nB nV nP dy := by
  unfold mGalley
  have hG := h.1.1.2
  have key : ¬ T 0 9 = 8 → 1 ≤ hh ∧ hh ≤ 9999 → TI (mGalN T nG r b s hh) (nG + 1) nB nV nP dy := fun h8 hu => by
    have hlt : nG < 8 := by
      rcases Nat.lt_or_ge nG 8 with z | z
      · exact z
      · exact absurd (by rw [h.g9, show nG = 8 by omega]; rfl) h8
    have row : ∀ i, ¬ i = 0 → ¬ (11 ≤ i ∧ i ≤ 14) → mGalN T nG r b s hh i = T i := fun i h1 h2 => by
      unfold mGalN
      rw [u2_row h1, u2_row (by omega), u2_row (by omega), u2_row (by omega), u2_row (by omega)]
    have row0 : ∀ j, ¬ j = 9 → mGalN T nG r b s hh 0 j = T 0 j := fun j hj => by
      unfold mGalN
      rw [u2_ne (by omega), u2_row (by decide), u2_row (by decide), u2_row (by decide), u2_row (by decide)]
    have r14 : ∀ a, ¬ a = nG → mGalN T nG r b s hh 14 a = T 14 a := fun a ha => by
      unfold mGalN
      rw [u2_row (by decide), u2_ne (by omega), u2_row (by decide), u2_row (by decide), u2_row (by decide)]
    have k14 : mGalN T nG r b s hh 14 nG = hh := by
      unfold mGalN
      rw [u2_row (by decide), u2_eq]
    have k9 : mGalN T nG r b s hh 0 9 = nI (nG + 1) := by
      unfold mGalN
      rw [u2_eq, h.g9, nI_1]
    obtain ⟨⟨⟨a1, a2⟩, ⟨b1, b2⟩, ⟨c1, c2, c3⟩, ⟨d1, d2⟩, ⟨e1, e2⟩, f, p⟩, c2', c3', c4, c5, c6, c7, c8⟩ := h
    have fr := c3' nG (Nat.le_refl _) hlt
    have e15 := row 15 (by decide) (by decide)
    have e16 := row 16 (by decide) (by decide)
    have e17 := row 17 (by decide) (by decide)
    have e18 := row 18 (by decide) (by decide)
    have e19 := row 19 (by decide) (by decide)
    have e20 := row 20 (by decide) (by decide)
    have e21 := row 21 (by decide) (by decide)
    have e22 := row 22 (by decide) (by decide)
    have e23 := row 23 (by decide) (by decide)
    refine ⟨⟨⟨k9, by omega⟩, ⟨by rw [row0 23 (by decide)]; exact b1, b2⟩, ⟨by rw [row0 38 (by decide)]; exact c1, c2, fun v hv => voteOk_of (row 42 (by decide) (by decide)) (row 43 (by decide) (by decide)) (row 44 (by decide) (by decide)) (c3 v hv)⟩, ⟨by rw [row0 5 (by decide)]; exact d1, d2⟩, ⟨by rw [row0 1 (by decide)]; exact e1, e2⟩, fun k hk => by rw [row 25 (by decide) (by decide)]; exact f k hk, fun a ha hs => ?_⟩, fun a ha => ?_, fun a h1 h2 => ?_, fun b hb => ?_, by rw [row 42 (by decide) (by decide)]; exact c5, by rw [row 8 (by decide) (by decide)]; exact c6, by rw [row 41 (by decide) (by decide)]; exact c7, fun a ha hs => ?_⟩
    · rw [e15] at hs
      rw [e16]
      by_cases e : a = nG
      · rw [e, fr.1.1] at hs
        rcases hs with z | z <;> exact absurd z (by decide)
      · exact p a (by omega) hs
    · rw [e15, e18, e21, e22, e23]
      by_cases e : a = nG
      · rw [e, k14]
        refine ⟨?_, Or.inl fr.1.2.2.2.2.2.2.2, hu, fun _ => fr.2, fun _ => fr.1.2.2.2.1⟩
        rw [fr.1.2.2.2.2.2.2.1]
        exact vp_inN (k := 0) (by decide) (by decide)
      · rw [r14 a e]; exact c2' a (by omega)
    · rw [e15, e16, e17, e18, e19, e20, e21, e22, e23]
      exact c3' a (by omega) h2
    · rw [row 34 (by decide) (by decide), row 35 (by decide) (by decide), row 31 (by decide) (by decide)]
      refine ⟨fun z => ?_, (c4 b hb).2⟩
      obtain ⟨a, q1, q2⟩ := (c4 b hb).1 z
      exact ⟨a, by omega, q2⟩
    · rw [e15] at hs
      rw [e17]
      by_cases e : a = nG
      · rw [e, fr.1.1] at hs; exact absurd hs (by decide)
      · exact c8 a (by omega) hs
  have et : tn (T 0 9) = nG := by rw [h.g9]; exact nI_clamp (by omega)
  rw [et]
  repeat' split
  all_goals first | exact ⟨nG, h⟩ | exact ⟨nG + 1, key (by assumption) (by assumption)⟩
theorem k_bale (h : TI T nG nB nV nP dy) (ow pp sz pr : Int32) : ∃ n, TI (mBale T ow pp sz pr).2 nG n nV nP dy := by
  rw [bale_cond h.p5 h.1.2.2.2.1.2]
  have hB := h.1.2.1.2
  split
  · rename_i hc
    split
    · exact ⟨nB, h⟩
    · rename_i h3
      refine ⟨nB + 1, ?_⟩
      show TI (mBaleN T ow pp sz pr) nG (nB + 1) nV nP dy
      have hlt : nB < 300 := by
        rcases Nat.lt_or_ge nB 300 with z | z
        · exact z
        · exact absurd (by rw [h.b23, show nB = 300 by omega]; rfl) h3
      have en : tn (T 0 23) = nB := by rw [h.b23]; exact nI_clamp (by omega)
      have row : ∀ i, ¬ i = 0 → ¬ (25 ≤ i ∧ i ≤ 36) → mBaleN T ow pp sz pr i = T i := fun i h1 h2 => by
        unfold mBaleN
        rw [u2_row h1]
        iterate 12 rw [u2_row (by omega)]
      have row0 : ∀ j, ¬ j = 23 → mBaleN T ow pp sz pr 0 j = T 0 j := fun j hj => by
        unfold mBaleN
        rw [u2_ne (by omega)]
        iterate 12 rw [u2_row (by decide)]
      have old : ∀ i, 25 ≤ i → i ≤ 36 → ∀ b, ¬ b = nB → mBaleN T ow pp sz pr i b = T i b := fun i h1 h2 b hb => by
        unfold mBaleN
        rw [u2_row (by omega), en]
        iterate 12 rw [u2_ne (by omega)]
      have k34 : mBaleN T ow pp sz pr 34 nB = 0 := by unfold mBaleN; rw [en]; simp [u2]
      have k31 : mBaleN T ow pp sz pr 31 nB = pr / 1000 := by unfold mBaleN; rw [en]; simp [u2]
      have k25 : mBaleN T ow pp sz pr 25 nB = ow := by unfold mBaleN; rw [en]; simp [u2]
      have k23 : mBaleN T ow pp sz pr 0 23 = nI (nB + 1) := by
        rw [← nI_1, ← h.b23]; rfl
      obtain ⟨o1, o2⟩ := tn10 hc.1
      obtain ⟨⟨⟨a1, a2⟩, ⟨b1, b2⟩, ⟨c1, c2, c3⟩, ⟨d1, d2⟩, ⟨e1, e2⟩, f, p⟩, c2', c3', c4, c5, c6, c7, c8⟩ := h
      have r := fun i (h1 : 1 ≤ i ∧ i ≤ 24 ∨ 37 ≤ i) => row i (by omega) (by omega)
      refine ⟨⟨⟨by rw [row0 9 (by decide)]; exact a1, a2⟩, ⟨k23, by omega⟩, ⟨by rw [row0 38 (by decide)]; exact c1, c2, fun v hv => voteOk_of (r 42 (by decide)) (r 43 (by decide)) (r 44 (by decide)) (c3 v hv)⟩, ⟨by rw [row0 5 (by decide)]; exact d1, d2⟩, ⟨by rw [row0 1 (by decide)]; exact e1, e2⟩, fun k hk => ?_, fun a ha => by rw [r 15 (by decide), r 16 (by decide)]; exact p a ha⟩, ?_, ?_, fun b hb => ?_, by rw [r 42 (by decide)]; exact c5, by rw [r 8 (by decide)]; exact c6, by rw [r 41 (by decide)]; exact c7, ?_⟩
      · by_cases e : k = nB
        · rw [e, k25, o2]; exact vp_inN o1 (by decide)
        · rw [old 25 (by decide) (by decide) k e]; exact f k (by omega)
      · rw [r 21 (by decide), r 22 (by decide), r 14 (by decide), r 23 (by decide), r 15 (by decide), r 18 (by decide)]; exact c2'
      · rw [r 15 (by decide), r 16 (by decide), r 17 (by decide), r 18 (by decide), r 19 (by decide), r 20 (by decide), r 21 (by decide), r 22 (by decide), r 23 (by decide)]; exact c3'
      · by_cases e : b = nB
        · rw [e, k34, k31]
          exact ⟨fun z => absurd z (by decide), hc.2.2.2.2⟩
        · rw [old 34 (by decide) (by decide) b e, old 35 (by decide) (by decide) b e, old 31 (by decide) (by decide) b e]
          exact c4 b (by omega)
      · rw [r 15 (by decide), r 17 (by decide)]; exact c8
  · exact ⟨nB, h⟩
theorem k_port (h : TI T nG nB nV nP dy) (x : Int32) : ∃ n, TI (mPort T x).2 nG nB nV n dy := by
  have hP := h.1.2.2.2.1.2
  have key : ¬ T 0 5 = 12 → (T 0 5 = 0 ∧ x = 0 ∨ ¬ T 0 5 = 0 ∧ 1 ≤ x ∧ x ≤ 9) → TI (mPort3 T x) nG nB nV (nP + 1) dy := fun h12 hx => by
    have hlt : nP < 12 := by
      rcases Nat.lt_or_ge nP 12 with z | z
      · exact z
      · exact absurd (by rw [h.p5, show nP = 12 by omega]; rfl) h12
    have en : tn (T 0 5) = nP := by rw [h.p5]; exact nI_clamp (by omega)
    have row : ∀ i, ¬ i = 0 → ¬ i = 7 → ¬ i = 8 → mPort3 T x i = T i := fun i h0 h7 h8 => by
      unfold mPort3 mPort2 mPort1
      rw [u2_row h0, u2_row h8, u2_row h7]
    have row0 : ∀ j, ¬ j = 5 → mPort3 T x 0 j = T 0 j := fun j hj => by
      unfold mPort3 mPort2 mPort1
      rw [u2_ne (by omega), u2_row (by decide), u2_row (by decide)]
    have k5 : mPort3 T x 0 5 = nI (nP + 1) := by
      unfold mPort3
      rw [u2_eq, h.p5, nI_1]
    have o8 : ∀ p, ¬ p = nP → mPort3 T x 8 p = T 8 p := fun p hp => by
      unfold mPort3 mPort2 mPort1
      rw [u2_row (by decide), en, u2_ne (by omega), u2_row (by decide)]
    have k8 : mPort3 T x 8 nP = if T 0 5 = 0 then 0 else T 8 (tn (T 0 5 - 1)) + x := by
      unfold mPort3 mPort2 mPort1
      rw [u2_row (by decide), en, u2_eq, u2_row (by decide)]
    obtain ⟨⟨⟨a1, a2⟩, ⟨b1, b2⟩, ⟨c1, c2, c3⟩, ⟨d1, d2⟩, ⟨e1, e2⟩, f, p⟩, c2', c3', c4, c5, c6, c7, c8⟩ := h
    have r := fun i (h1 : 9 ≤ i) => row i (by omega) (by omega) (by omega)
    refine ⟨⟨⟨by rw [row0 9 (by decide)]; exact a1, a2⟩, ⟨by rw [row0 23 (by decide)]; exact b1, b2⟩, ⟨by rw [row0 38 (by decide)]; exact c1, c2, fun v hv => voteOk_of (r 42 (by decide)) (r 43 (by decide)) (r 44 (by decide)) (c3 v hv)⟩, ⟨k5, by omega⟩, ⟨by rw [row0 1 (by decide)]; exact e1, e2⟩, by rw [r 25 (by decide)]; exact f, fun a ha hs => ?_⟩, ?_, ?_, ?_, by rw [r 42 (by decide)]; exact c5, fun q hq => ?_, by rw [r 41 (by decide)]; exact c7, ?_⟩
    · rw [r 15 (by decide)] at hs
      rw [r 16 (by decide)]
      obtain ⟨q, q1, q2⟩ := p a ha hs
      exact ⟨q, by omega, q2⟩
    · rw [r 21 (by decide), r 22 (by decide), r 14 (by decide), r 23 (by decide), r 15 (by decide), r 18 (by decide)]; exact c2'
    · rw [r 15 (by decide), r 16 (by decide), r 17 (by decide), r 18 (by decide), r 19 (by decide), r 20 (by decide), r 21 (by decide), r 22 (by decide), r 23 (by decide)]; exact c3'
    · rw [r 34 (by decide), r 35 (by decide), r 31 (by decide)]; exact c4
    · by_cases e : q = nP
      · rw [e, k8]
        rcases hx with ⟨z, _⟩ | ⟨z, z1⟩
        · rw [if_pos z]; exact ⟨0, Nat.zero_le _, rfl⟩
        · rw [if_neg z]
          have hp0 : 0 < nP := by
            rcases Nat.eq_zero_or_pos nP with y | y
            · exact absurd (by rw [d1, y]; rfl) z
            · exact y
          have e3 : tn (T 0 5 - 1) = nP - 1 := by rw [d1, show (1 : Int32) = nI 1 from rfl, nI_sub (by omega)]; exact nI_clamp (by omega)
          obtain ⟨fa, q1, q2⟩ := c6 (nP - 1) (by omega)
          obtain ⟨y, hy, ey⟩ := nI_ofNN (Int32.le_trans (by decide) z1.1)
          have hy9 : y ≤ 9 := by
            have w := z1.2
            rw [ey, show (9 : Int32) = nI 9 from rfl, n_nle (by omega) (by decide)] at w
            exact w
          refine ⟨fa + y, by omega, ?_⟩
          rw [e3, q2, ey, nI_add]
      · rw [o8 q e]; exact c6 q (by omega)
    · rw [r 15 (by decide), r 17 (by decide)]; exact c8
  unfold mPort mPortOk
  by_cases h5 : T 0 5 = 0
  · rw [if_pos h5]
    by_cases hx : x = 0
    · rw [if_pos hx]
      repeat' split
      all_goals first | exact ⟨nP, h⟩ | exact ⟨nP + 1, key (by assumption) (Or.inl ⟨h5, hx⟩)⟩
    · rw [if_neg hx]; exact ⟨nP, h⟩
  · rw [if_neg h5]
    by_cases hx : 1 ≤ x ∧ x ≤ 9
    · rw [if_pos hx]
      repeat' split
      all_goals first | exact ⟨nP, h⟩ | exact ⟨nP + 1, key (by assumption) (Or.inr ⟨h5, hx⟩)⟩
    · rw [if_neg hx]; exact ⟨nP, h⟩
end
