/-! ===== THE CLASS: ranks ===== -/
/-- what a call that ranks leaves as it was -/
def FRK (sh : WSh) (N : WNm) (sh1 : WSh) (N1 : WNm) : Prop := (∀ i, ¬ (480 < i ∧ i ≤ 490) → sh1.1 i = sh.1 i ∧ sh1.2.2 i = sh.2.2 i) ∧ ∀ i, i ≤ 55 → sh1.2.1 i = sh.2.1 i ∧ N1 i = N i
theorem FRK.rfl (sh : WSh) (N : WNm) : FRK sh N sh N := ⟨fun _ _ => ⟨Eq.refl _, Eq.refl _⟩, fun _ _ => ⟨Eq.refl _, Eq.refl _⟩⟩
theorem FRK.trans {sh sh1 sh2 : WSh} {N N1 N2 : WNm} (h : FRK sh N sh1 N1) (k : FRK sh1 N1 sh2 N2) : FRK sh N sh2 N2 := ⟨fun i hi => ⟨(k.1 i hi).1.trans (h.1 i hi).1, (k.1 i hi).2.trans (h.1 i hi).2⟩, fun i hi => ⟨(k.2 i hi).1.trans (h.2 i hi).1, (k.2 i hi).2.trans (h.2 i hi).2⟩⟩
theorem FRX.k {sh sh1 : WSh} {N N1 : WNm} (h : FRX sh N 108 480 sh1 N1) : FRK sh N sh1 N1 := ⟨fun i hi => h.1 i hi, fun i hi => h.2 i (by omega) (by omega)⟩
theorem FRN.k {N N1 : WNm} (h : FRN N N1) (sh : WSh) : FRK sh N sh N1 := ⟨fun _ _ => ⟨Eq.refl _, Eq.refl _⟩, fun i hi => ⟨Eq.refl _, h.1 i hi⟩⟩
theorem LST.frx {sh sh1 : WSh} {N N1 : WNm} {o2 L b k : Nat} {xs : List Nat} (h : LST sh N o2 L b k xs) (f : FRX sh N 108 480 sh1 N1) (hL : L < 108) (hb0 : 200 ≤ b) (hb : b + 10 < 480) : LST sh1 N1 o2 L b k xs := by
  obtain ⟨⟨a1, a2, a3, a4, a5⟩, a6, a7, a8, a9⟩ := h
  have f1 := f.1
  have f2 := f.2
  refine ⟨⟨by rw [(f1 L (by omega)).1]; exact a1, a2, by rw [(f2 L (by omega) (by omega)).1]; exact a3, by rw [(f2 L (by omega) (by omega)).2]; exact a4, a5⟩, fun e => by rw [(f1 b (by omega)).2]; exact a6 e, fun e => by rw [(f1 (b + k) (by omega)).1]; exact a7 e, fun j hj => ?_, fun k' h1 h2 => by rw [(f1 (b + k') (by omega)).1]; exact a9 k' h1 h2⟩
  rw [(f2 (b + k) (by omega) (by omega)).1]
  exact a8 j hj
theorem tabs_le : (∀ q ∈ xCls, q.1 < 200) ∧ (∀ q ∈ xRef, q.1 < 200 ∧ ¬ q.1 = 108) ∧ ∀ q ∈ xArr, q.1 < 200 := by decide
theorem XH.frx {o : Nat → Nat} {sh sh1 : WSh} {N N1 : WNm} {nG nB nV kG kB kV : Nat} {ln : Nat → Nat} (h : XH o sh N nG nB nV kG kB kV ln) (f : FRX sh N 108 480 sh1 N1) (hR : RF sh1) : XH o sh1 N1 nG nB nV kG kB kV ln := by
  obtain ⟨⟨a1, a2, a3⟩, ⟨l1, l2, l3, l4, l5, l6⟩, ⟨g1, g2, g3⟩, ⟨f1, f2, f3⟩, -⟩ := h
  have z1 := f.1
  have z2 := f.2
  obtain ⟨t1, t2, t3⟩ := tabs_le
  refine ⟨⟨fun q hq => ?_, fun q hq => ?_, fun q hq => ?_⟩, ⟨l1.frx f (by decide) (by decide) (by decide), l2.frx f (by decide) (by decide) (by decide), l3.frx f (by decide) (by decide) (by decide), l4, l5, l6⟩, ⟨fun a ha => ?_, fun b hb => ?_, fun v hv => ?_⟩, ⟨fun a h1 h2 => ?_, fun b h1 h2 => ?_, fun v h1 h2 => ?_⟩, hR⟩
  · have := t1 q hq; rw [(z1 q.1 (by omega)).1]; exact a1 q hq
  · have := t2 q hq; rw [(z2 q.1 (by omega) (by omega)).1]; exact a2 q hq
  · have := t3 q hq; rw [(z1 q.1 (by omega)).1]; exact a3 q hq
  · rw [(z1 (1000 + a) (by omega)).1, (z1 (1100 + a) (by omega)).1, (z2 (1000 + a) (by omega) (by omega)).1]; exact g1 a ha
  · rw [(z1 (2000 + b) (by omega)).1]; exact g2 b hb
  · rw [(z1 (3000 + v) (by omega)).1, (z1 (3100 + v) (by omega)).1, (z2 (3000 + v) (by omega) (by omega)).1]; exact g3 v hv
  · rw [(z1 (1000 + a) (by omega)).1, (z1 (1100 + a) (by omega)).1]; exact f1 a h1 h2
  · rw [(z1 (2000 + b) (by omega)).1]; exact f2 b h1 h2
  · rw [(z1 (3000 + v) (by omega)).1, (z1 (3100 + v) (by omega)).1]; exact f3 v h1 h2
theorem FRX.eqn {sh sh1 : WSh} {N N1 : WNm} (f : FRX sh N 108 480 sh1 N1) : EQN N N1 := ⟨fun i a b => (f.2 i (by omega) (by omega)).2, ⟨(f.2 111 (by decide) (by decide)).2, (f.2 112 (by decide) (by decide)).2⟩, fun i a b => (f.2 i (by omega) (by omega)).2, fun i a b k _ => by rw [(f.2 i (by omega) (by omega)).2], fun i a b => (f.2 i (by omega) (by omega)).2⟩
/-- the numbers of bales -/
def bn (rl : List Nat) : List Nat := rl.map (fun b => 2000 + b)
theorem bn_len (rl : List Nat) : (bn rl).length = rl.length := by simp [bn]
theorem bn_get {rl : List Nat} {i : Nat} (h : i < rl.length) : (bn rl).getD i 0 = 2000 + rl.getD i 0 := by
  rw [gD_lt (by rw [bn_len]; exact h), gD_lt h]
  simp [bn]
theorem bn_mem {rl : List Nat} {x : Nat} (h : x ∈ bn rl) : ∃ b, b ∈ rl ∧ x = 2000 + b := by
  simp [bn] at h
  obtain ⟨b, h1, h2⟩ := h
  exact ⟨b, h1, h2.symm⟩
theorem bn_ins (rl : List Nat) (j b : Nat) : bn (rl.take j ++ b :: rl.drop j) = (bn rl).take j ++ (2000 + b) :: (bn rl).drop j := by simp [bn, List.map_take, List.map_drop]
/-- an element of the ranked list -/
theorem cX_rget {l : Launch} {g : WGp} (hg : GOK g) {sh : WSh} {N : WNm} {o2 k i : Nat} {rl : List Nat} (h : LST sh N o2 108 480 k (bn rl)) (hi : i < rl.length) : CT l g yJx4a65c_get_915e3 cJx4a65c_get_915e3 2 (some (.object "java/lang/Object")) (RM 3 0 0) [.ref (sh.2.2 108), .int (nI i)] sh N (QFr g sh N (some (2000 + rl.getD i 0))) := by
  have hle := h.1.2.2.2.2
  rw [bn_len] at hle
  have hk : 0 < k := by
    rcases Nat.eq_zero_or_pos k with e | e
    · exfalso; subst e; have z : cap 0 = 0 := rfl; omega
    · exact e
  have hcl := cap_le k (by have := h.1.2.1; omega)
  have hz := h.1.2.2.2.1
  rw [bn_len] at hz
  have hx := h.2.2.2.1 i (by rw [bn_len]; exact hi)
  rw [bn_get hi] at hx
  exact cJ_get hg h.1.1 h.1.2.2.1 (h.2.2.1 hk) hz hi hle (by omega) hx
theorem gd_mem {rl : List Nat} {i : Nat} (h : i < rl.length) : rl.getD i 0 ∈ rl := by rw [gD_lt h]; exact List.getElem_mem _

theorem cX_rank {l : Launch} {g : WGp} (hg : GOK g) {sh : WSh} {N : WNm} {o : Nat → Nat} {nG nB nV kG kB kV : Nat} {ln : Nat → Nat} (X : XH o sh N nG nB nV kG kB kV ln) (hX : HX g o) (hX2 : HX2 g) {k : Nat} {rl : List Nat} (hK : LST sh N (o 2) 108 480 k (bn rl)) (hlen : rl.length < 366) (hrl : ∀ x ∈ rl, x < nB) {b : Nat} (hb : b < nB) (hnb : ¬ b ∈ rl) (w : Int32) : CT l g yX6_rank cX6_rank 5 none (RM 7 (kUp k rl.length - k) (sUp k rl.length)) [.ref (sh.2.2 100), .ref (sh.2.2 (2000 + b)), .int w] sh N (QV g (fun sh1 N1 => ∃ j, j ≤ rl.length ∧ (∀ i, j ≤ i → i < rl.length → N (2000 + rl.getD i 0) 12 < w) ∧ (0 < j → w ≤ N (2000 + rl.getD (j - 1) 0) 12) ∧ LST sh1 N1 (o 2) 108 480 (kUp k rl.length) (bn (rl.take j ++ b :: rl.drop j)) ∧ FRX sh (u2 N (2000 + b) 12 w) 108 480 sh1 N1 ∧ RF sh1)) := by
  refine ent hg (by decide +kernel) (Nat.le_of_ble_eq_true rfl) ?_
  intro p e s m args below meth c C hname
  have hB := X.nB3
  have hci : ∀ U H, g.X U H → CO 0 U := fun U H h => ⟨by decide, (hX2 U H h).1.1⟩
  refine j_aload_n C dX6_rank_0 rfl ?_
  refine j_iload_n C dX6_rank_1 rfl ?_
  refine j_putI C fl_X6_322 dX6_rank_2 (X.b hb) rfl rfl rfl rfl ?_
  replace hK := hK.cong (N1 := u2 N (2000 + b) 12 w) (by rw [u2_row (by omega)])
  have X0 := X.fr (FRN.u (N := N) (i := 2000 + b) (k := 12) (v := w) ⟨by omega, by omega⟩)
  have eo : ∀ x, x ∈ rl → u2 N (2000 + b) 12 w (2000 + x) 12 = N (2000 + x) 12 := fun x hx => u2_ne (fun z => hnb ((show x = b by omega) ▸ hx))
  obtain ⟨N0, eN⟩ : ∃ N0, N0 = u2 N (2000 + b) 12 w := ⟨_, rfl⟩
  rw [← eN] at hK X0 eo
  rw [← eN]
  refine j_aload_n C dX6_rank_5 rfl ?_
  refine j_getR (j := 108) C fl_X6_49 dX6_rank_6 (X.c (by decide)) rfl (X.r (by decide)) ?_
  refine j_callV0I C ml_X6_73 dX6_rank_9 (cJ_size hg hK.1.1) (⟨by rw [hK.1.1]; decide, by rw [hK.1.1]; rfl⟩) ⟨Nat.le_of_ble_eq_true rfl, Nat.le_of_ble_eq_true rfl⟩ (Nat.le_of_ble_eq_true rfl) ⟨rfl, rfl⟩ ⟨Nat.zero_le _, Nat.zero_le _⟩ ?_
  rw [hK.1.2.2.2.1, bn_len]
  refine j_istore_n C dX6_rank_12 (by decide) rfl ?_
  refine j_aload_n C dX6_rank_13 rfl ?_
  refine j_getR (j := 108) C fl_X6_49 dX6_rank_14 (X.c (by decide)) rfl (X.r (by decide)) ?_
  refine j_callV0I C ml_X6_73 dX6_rank_17 (cJ_size hg hK.1.1) (⟨by rw [hK.1.1]; decide, by rw [hK.1.1]; rfl⟩) ⟨Nat.le_of_ble_eq_true rfl, Nat.le_of_ble_eq_true rfl⟩ (Nat.le_of_ble_eq_true rfl) ⟨rfl, rfl⟩ ⟨Nat.zero_le _, Nat.zero_le _⟩ ?_
  rw [hK.1.2.2.2.1, bn_len]
  refine j_iconst C dX6_rank_20 (v := 1) (by decide) ?_
  refine j_isub C dX6_rank_21 ?_
  refine j_istore C dX6_rank_22 (by decide) rfl ?_
  suffices key : ∀ j, j ≤ rl.length → (∀ i, j ≤ i → i < rl.length → N (2000 + rl.getD i 0) 12 < w) → J p l e (RM 7 (kUp k rl.length - k) (sUp k rl.length)) s m args below meth c (MQ below (QV g (fun sh1 N1 => ∃ j, j ≤ rl.length ∧ (∀ i, j ≤ i → i < rl.length → N (2000 + rl.getD i 0) 12 < w) ∧ (0 < j → w ≤ N (2000 + rl.getD (j - 1) 0) 12) ∧ LST sh1 N1 (o 2) 108 480 (kUp k rl.length) (bn (rl.take j ++ b :: rl.drop j)) ∧ FRX sh (N0) 108 480 sh1 N1 ∧ RF sh1)) args s (kUp k rl.length - k) (sUp k rl.length) g.A) g 5 sh N0 0 0 24 [some (.ref (sh.2.2 100)), some (.ref (sh.2.2 (2000 + b))), some (.int w), some (.int (nI j)), some (.int (nI j - 1))] [] from key rl.length (Nat.le_refl _) (fun i h1 h2 => absurd h1 (by omega))
  intro j
  induction j with
  | zero =>
    intro _ hall
    refine j_iload C dX6_rank_24 rfl ?_
    refine j_if_lt (tgt := 57) C dX6_rank_26 (by decide) (fun h26 => ?_) (fun h26 => ?_)
    · skip
      refine j_aload_n C dX6_rank_57 rfl ?_
      refine j_getR (j := 108) C fl_X6_49 dX6_rank_58 (X0.c (by decide)) rfl (X0.r (by decide)) ?_
      refine j_iload_n C dX6_rank_61 rfl ?_
      refine j_aload_n C dX6_rank_62 rfl ?_
      refine j_callV2Vg C ml_X6_324 dX6_rank_63 (cJ_addAt hg hX hX2 hK (Or.inl (by decide)) X0.rf (ci := 0) hci (fun x hx => ?_) (by rw [bn_len]; exact hlen) (x := 2000 + b) (X0.b hb) (by omega) (i := 0) (by rw [bn_len]; omega) (fun y hy => ?_)) ⟨by rw [hK.1.1]; decide, by rw [hK.1.1]; rfl⟩ ⟨Nat.le_of_ble_eq_true rfl, Nat.le_of_ble_eq_true rfl⟩ (Nat.le_of_ble_eq_true rfl) ⟨by rw [bn_len]; exact Nat.zero_add _, by rw [bn_len]; exact Nat.zero_add _⟩ ⟨Nat.le_refl _, Nat.le_refl _⟩ (fun sh1 N1 hq => ?_)
      · obtain ⟨y, hy, rfl⟩ := bn_mem hx
        exact X0.b (hrl y hy)
      · obtain ⟨z, hz, rfl⟩ := bn_mem hy
        have := hrl z hz
        omega
      rw [bn_len, ← bn_ins] at hq
      exact j_vret C dX6_rank_66 ⟨0, Nat.zero_le _, hall, fun z => absurd z (Nat.lt_irrefl 0), hq⟩
    · skip
      exact absurd (by decide) h26
  | succ j ih =>
    intro hj hall
    rw [nI_pred]
    refine j_iload C dX6_rank_24 rfl ?_
    refine j_if_lt (tgt := 57) C dX6_rank_26 (by decide) (fun h26 => ?_) (fun h26 => ?_)
    · skip
      exact absurd h26 (nI_pos (by omega))
    · skip
      have hj2 : j < rl.length := by omega
      refine j_aload_n C dX6_rank_29 rfl ?_
      refine j_getR (j := 108) C fl_X6_49 dX6_rank_30 (X0.c (by decide)) rfl (X0.r (by decide)) ?_
      refine j_iload C dX6_rank_33 rfl ?_
      refine j_callV1RS (x := 2000 + rl.getD j 0) C ml_X6_213 dX6_rank_35 (cX_rget hg hK hj2) ⟨by rw [hK.1.1]; decide, by rw [hK.1.1]; rfl⟩ ⟨Nat.le_of_ble_eq_true rfl, Nat.le_of_ble_eq_true rfl⟩ (Nat.le_of_ble_eq_true rfl) ⟨rfl, rfl⟩ ⟨Nat.zero_le _, Nat.zero_le _⟩ ?_
      refine j_cast C cl_X6_120 (X0.b (hrl _ (gd_mem hj2))) dX6_rank_38 ?_
      refine j_getI C fl_X6_322 dX6_rank_41 (X0.b (hrl _ (gd_mem hj2))) rfl ?_
      rw [eo _ (gd_mem hj2)]
      refine j_iload_n C dX6_rank_44 rfl ?_
      refine j_icmp_ge (tgt := 57) C dX6_rank_45 (by decide) (fun h45 => ?_) (fun h45 => ?_)
      · skip
        refine j_aload_n C dX6_rank_57 rfl ?_
        refine j_getR (j := 108) C fl_X6_49 dX6_rank_58 (X0.c (by decide)) rfl (X0.r (by decide)) ?_
        refine j_iload_n C dX6_rank_61 rfl ?_
        refine j_aload_n C dX6_rank_62 rfl ?_
        refine j_callV2Vg C ml_X6_324 dX6_rank_63 (cJ_addAt hg hX hX2 hK (Or.inl (by decide)) X0.rf (ci := 0) hci (fun x hx => ?_) (by rw [bn_len]; exact hlen) (x := 2000 + b) (X0.b hb) (by omega) (i := j + 1) (by rw [bn_len]; omega) (fun y hy => ?_)) ⟨by rw [hK.1.1]; decide, by rw [hK.1.1]; rfl⟩ ⟨Nat.le_of_ble_eq_true rfl, Nat.le_of_ble_eq_true rfl⟩ (Nat.le_of_ble_eq_true rfl) ⟨by rw [bn_len]; exact Nat.zero_add _, by rw [bn_len]; exact Nat.zero_add _⟩ ⟨Nat.le_refl _, Nat.le_refl _⟩ (fun sh1 N1 hq => ?_)
        · obtain ⟨y, hy, rfl⟩ := bn_mem hx
          exact X0.b (hrl y hy)
        · obtain ⟨z, hz, rfl⟩ := bn_mem hy
          have := hrl z hz
          omega
        rw [bn_len, ← bn_ins] at hq
        exact j_vret C dX6_rank_66 ⟨j + 1, hj, hall, fun _ => h45, hq⟩
      · skip
        refine j_iload C dX6_rank_48 rfl ?_
        refine j_istore_n C dX6_rank_50 (by decide) rfl ?_
        refine j_iinc C dX6_rank_51 rfl (dec1 _) (by decide) rfl ?_
        refine j_goto (tgt := 24) C dX6_rank_54 (by decide) ?_
        refine ih (by omega) (fun i h1 h2 => ?_)
        rcases Nat.lt_or_ge j i with z | z
        · exact hall i (by omega) h2
        · obtain rfl : i = j := by omega
          exact Int32.not_le.mp h45
