/-! ===== THE LOOP OF THE LAW ===== -/
theorem and31 (x : Int32) : ∃ k, k < 32 ∧ x &&& 31 = nI k := by
  refine ⟨x.toBitVec.toNat % 32, Nat.mod_lt _ (by decide), ?_⟩
  apply Int32.toBitVec_inj.mp
  apply BitVec.eq_of_toNat_eq
  rw [Int32.toBitVec_and, BitVec.toNat_and]
  have e1 : (31 : Int32).toBitVec.toNat = 2 ^ 5 - 1 := rfl
  rw [e1, Nat.and_two_pow_sub_one_eq_mod]
  have e2 : (nI (x.toBitVec.toNat % 32)).toBitVec = BitVec.ofNat 32 (x.toBitVec.toNat % 32) := rfl
  rw [e2, BitVec.toNat_ofNat, Nat.mod_eq_of_lt (a := x.toBitVec.toNat % 32)]
  have : x.toBitVec.toNat % 32 < 32 := Nat.mod_lt _ (by decide)
  omega
theorem lw_loop {p : Program} {l : Launch} {e : Env} {s : State} {m : MethodId} {below : List Frame} {meth : Method} {c : Code} {g : WGp} {b L : Nat} {xs : Nat → Int32} (C : Cx p s m #[Value.ref b] meth c g 4 RL cL_law ret) (hz : g.z = s.heap.size) {o : Nat → Nat} (hX : HX g o) (hX2 : HX2 g) (hT : va_T .int b L (fun j => .int (xs j)) g.A s s.heap) (hL : L ≤ 2560) :
    ∀ (n t : Nat) (sh : WSh) (N : WNm), L + 1 ≤ 5 * t + n → 5 * t ≤ L → JI o sh N → J p l e room_1 s m #[Value.ref b] below meth c (lw_Z below #[Value.ref b] s) g 4 sh N (100 + 10 * t) (20000 + 1084 * t) 18 [some (.ref b), some (.ref (sh.2.2 100)), some (.ref (sh.2.2 0)), some (.int (nI (5 * t)))] []
  | 0, t, sh, N, h1, h2, _ => absurd h1 (by omega)
  | n + 1, t, sh, N, h1, h2, hJ => by
    have kk : 5 * t + 5 ≤ L → ∀ (sh2 : WSh) (N2 : WNm), JI o sh2 N2 → J p l e room_1 s m #[Value.ref b] below meth c (lw_Z below #[Value.ref b] s) g 4 sh2 N2 (100 + 10 * t + 10) (20000 + 1084 * t + 1084) 798 [some (.ref b), some (.ref (sh2.2.2 100)), some (.ref (sh2.2.2 0)), some (.int (nI (5 * t)))] [] := fun hi sh2 N2 h2 => by
      refine j_iinc C dL_law_798 rfl (v := nI (5 * (t + 1))) (by rw [show Int32.ofInt 5 = nI 5 from by decide, nI_add]; rfl) (by decide) rfl ?_
      refine j_goto (tgt := 18) C dL_law_801 (by decide) ?_
      have z := lw_loop (l := l) (e := e) (below := below) C hz hX hX2 hT hL n (t + 1) sh2 N2 (by omega) (by omega) h2
      rw [show 100 + 10 * t + 10 = 100 + 10 * (t + 1) by omega, show 20000 + 1084 * t + 1084 = 20000 + 1084 * (t + 1) by omega]
      exact z
    refine j_iload_n C dL_law_18 rfl ?_
    refine j_aload_n C dL_law_19 rfl ?_
    refine j_tlen C hT dL_law_20 ?_
    refine j_iconst C dL_law_21 (v := 5) (by decide) ?_
    refine j_isub C dL_law_22 ?_
    refine j_icmp_gt (tgt := 804) C dL_law_23 (by decide) (fun h23 => ?_) (fun h23 => ?_)
    · refine j_iconst C dL_law_804 (v := 1) (by decide) ?_
      intro H locs ls a b' d
      refine va_forget (fun q hq => by have z := b'.2.2 q hq; rw [← hz]; exact z) ?_
      refine W.widen (k := 600000) (n := 7302250) (by omega) (by omega) ?_
      exact lw_ret C.1 C.2.1 C.2.2.2.2.2.2.2.1 C.2.2.2.2.2.2.2.2 dL_law_805
    · have hi : 5 * t + 5 ≤ L := by
        rcases Nat.lt_or_ge L 5 with z | z
        · exfalso
          apply h23
          have hneg : nI L - 5 < 0 := by
            have : ∀ L, L < 5 → nI L - 5 < 0 := by decide
            exact this L z
          exact Int32.lt_of_lt_of_le hneg (nI_pos' (by omega))
        · rw [show (5 : Int32) = nI 5 from rfl, nI_sub (by omega), n_nlt (by omega) (by omega)] at h23
          omega
      replace kk := kk hi
      have hcs : 100 + 10 * t + 10 ≤ 600000 ∧ 20000 + 1084 * t + 1084 ≤ 7302250 := by omega
      refine j_aload_n C dL_law_26 rfl ?_
      refine j_iload_n C dL_law_27 rfl ?_
      refine j_ti C hT (by omega) (by omega) dL_law_28 ?_
      refine j_bipush C dL_law_29 (v := 31) (by decide) ?_
      refine j_iand C dL_law_31 ?_
      obtain ⟨k, hk, ek⟩ := and31 (xs (5 * t))
      rw [ek]
      rcases (show k = 0 ∨ k = 1 ∨ k = 2 ∨ k = 3 ∨ k = 4 ∨ k = 5 ∨ k = 6 ∨ k = 7 ∨ k = 8 ∨ k = 9 ∨ k = 10 ∨ k = 11 ∨ k = 12 ∨ k = 13 ∨ k = 14 ∨ k = 15 ∨ k = 16 ∨ k = 17 ∨ k = 18 ∨ k = 19 ∨ 20 ≤ k by omega) with z | z | z | z | z | z | z | z | z | z | z | z | z | z | z | z | z | z | z | z | z <;> first | subst z | skip
      · refine j_tabIn (off := 96) (tgt := 128) C dL_law_32 (by decide) (by decide) (by decide) (by decide) ?_
        exact lw_purse C hX hX2 hT hi hL hcs hJ kk
      · refine j_tabIn (off := 129) (tgt := 161) C dL_law_32 (by decide) (by decide) (by decide) (by decide) ?_
        exact lw_port C hX hX2 hT hi hL hcs hJ kk
      · refine j_tabIn (off := 152) (tgt := 184) C dL_law_32 (by decide) (by decide) (by decide) (by decide) ?_
        exact lw_wind C hX hX2 hT hi hL hcs hJ kk
      · refine j_tabIn (off := 185) (tgt := 217) C dL_law_32 (by decide) (by decide) (by decide) (by decide) ?_
        exact lw_galley C hX hX2 hT hi hL hcs hJ kk
      · refine j_tabIn (off := 238) (tgt := 270) C dL_law_32 (by decide) (by decide) (by decide) (by decide) ?_
        exact lw_bid C hX hX2 hT hi hL hcs hJ kk
      · refine j_tabIn (off := 281) (tgt := 313) C dL_law_32 (by decide) (by decide) (by decide) (by decide) ?_
        exact lw_let C hX hX2 hT hi hL hcs hJ kk
      · refine j_tabIn (off := 304) (tgt := 336) C dL_law_32 (by decide) (by decide) (by decide) (by decide) ?_
        exact lw_part C hX hX2 hT hi hL hcs hJ kk
      · refine j_tabIn (off := 357) (tgt := 389) C dL_law_32 (by decide) (by decide) (by decide) (by decide) ?_
        exact lw_parts C hX hX2 hT hi hL hcs hJ kk
      · refine j_tabIn (off := 390) (tgt := 422) C dL_law_32 (by decide) (by decide) (by decide) (by decide) ?_
        exact lw_bale C hX hX2 hT hi hL hcs hJ kk
      · refine j_tabIn (off := 443) (tgt := 475) C dL_law_32 (by decide) (by decide) (by decide) (by decide) ?_
        exact lw_about C hX hX2 hT hi hL hcs hJ kk
      · refine j_tabIn (off := 476) (tgt := 508) C dL_law_32 (by decide) (by decide) (by decide) (by decide) ?_
        exact lw_feed C hX hX2 hT hi hL hcs hJ kk
      · refine j_tabIn (off := 509) (tgt := 541) C dL_law_32 (by decide) (by decide) (by decide) (by decide) ?_
        exact lw_vote C hX hX2 hT hi hL hcs hJ kk
      · refine j_tabIn (off := 532) (tgt := 564) C dL_law_32 (by decide) (by decide) (by decide) (by decide) ?_
        exact lw_known C hX hX2 hT hi hL hcs hJ kk
      · refine j_tabIn (off := 565) (tgt := 597) C dL_law_32 (by decide) (by decide) (by decide) (by decide) ?_
        exact lw_says C hX hX2 hT hi hL hcs hJ kk
      · refine j_tabIn (off := 608) (tgt := 640) C dL_law_32 (by decide) (by decide) (by decide) (by decide) ?_
        exact lw_start C hX hX2 hT hi hL hcs hJ kk
      · refine j_tabIn (off := 631) (tgt := 663) C dL_law_32 (by decide) (by decide) (by decide) (by decide) ?_
        exact lw_day C hX hX2 hT hi hL hcs hJ kk
      · refine j_tabIn (off := 654) (tgt := 686) C dL_law_32 (by decide) (by decide) (by decide) (by decide) ?_
        exact lw_toss C hX hX2 hT hi hL hcs hJ kk
      · refine j_tabIn (off := 687) (tgt := 719) C dL_law_32 (by decide) (by decide) (by decide) (by decide) ?_
        exact lw_ship C hX hX2 hT hi hL hcs hJ kk
      · refine j_tabIn (off := 720) (tgt := 752) C dL_law_32 (by decide) (by decide) (by decide) (by decide) ?_
        exact lw_count C hX hX2 hT hi hL hcs hJ kk
      · refine j_tabIn (off := 743) (tgt := 775) C dL_law_32 (by decide) (by decide) (by decide) (by decide) ?_
        exact lw_coins C hX hX2 hT hi hL hcs hJ kk
      · refine j_tabOut (tgt := 798) C dL_law_32 (Or.inr ?_) (by decide) ?_
        · rw [nI_toInt (by omega)]
          omega
        · refine J.widen (k := 100 + 10 * t + 10) (n := 20000 + 1084 * t + 1084) (by omega) (by omega) ?_
          exact kk sh N hJ
