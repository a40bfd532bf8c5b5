/-! ===== THE CLASS: Reader's grammar ===== -/
theorem rmle {d1 d2 mx c1 s1 c2 s2 : Nat} (h : d1 + 1 ≤ d2) (hm : mx ≤ 21) : (RM d1 c1 s1).frames + 1 ≤ (RM d2 c2 s2).frames ∧ 8 + (mx + 11) + (RM d1 c1 s1).locals ≤ (RM d2 c2 s2).locals := ⟨h, by show 8 + (mx + 11) + 40 * d1 ≤ 40 * d2; omega⟩
theorem nar_bI : ∀ b : Bool, narrow .boolean (.int (bI b)) = .int (bI b)
  | false => (rfl : narrow .boolean (.int (0 : Int32)) = .int (0 : Int32))
  | true => (rfl : narrow .boolean (.int (1 : Int32)) = .int (1 : Int32))
theorem one_ne : ¬ (1 : Int32) = 0 := by decide
def xPutG (N : WNm) (R S t : Nat) (v : Int32) : WNm := if t < 200 then xPutS N R S t v else N

theorem cX_putG {l : Launch} {g : WGp} (hg : GOK g) {sh : WSh} {N : WNm} {R Z Y S : Nat} (RS : RSh sh R Z Y S) {t : Nat} (hL : N R 6 = nI t) (ht : t ≤ 200) (v : Int32) : CT l g yX2_putStep cX2_putStep 2 none (RM 1 0 0) [.ref (sh.2.2 R), .int v] sh N (QFv g sh (xPutG N R S t v)) := by
  refine ent hg (by decide +kernel) (Nat.le_of_ble_eq_true rfl) ?_
  intro p e s m args below meth c C hname
  refine j_aload_n C dX2_putStep_0 rfl ?_
  refine j_getI C fl_X2_26 dX2_putStep_1 (RS.r) rfl ?_
  rw [hL]
  refine j_aload_n C dX2_putStep_4 rfl ?_
  refine j_getR (j := S) C fl_X2_18 dX2_putStep_5 (RS.r) rfl (RS.s) ?_
  refine j_alen C (RS.sa) (by decide) dX2_putStep_8 ?_
  refine j_icmp_ge (tgt := 32) C dX2_putStep_9 (by decide) (fun h9 => ?_) (fun h9 => ?_)
  · skip
    rw [n_nle (by omega) (by omega)] at h9
    exact j_vret C dX2_putStep_32 ⟨rfl, (if_neg (by omega)).symm⟩
  · skip
    rw [n_nle (by omega) (by omega)] at h9
    refine j_aload_n C dX2_putStep_12 rfl ?_
    refine j_getR (j := S) C fl_X2_18 dX2_putStep_13 (RS.r) rfl (RS.s) ?_
    refine j_aload_n C dX2_putStep_16 rfl ?_
    refine j_getI C fl_X2_26 dX2_putStep_17 (RS.r) rfl ?_
    rw [hL]
    refine j_iload_n C dX2_putStep_20 rfl ?_
    refine j_iastN C (RS.sa) (⟨by omega, by decide⟩) dX2_putStep_21 ?_
    refine j_aload_n C dX2_putStep_22 rfl ?_
    refine j_dup C dX2_putStep_23 rfl ?_
    refine j_getI C fl_X2_26 dX2_putStep_24 (RS.r) rfl ?_
    rw [show u2 N S t v R 6 = nI t from (u2_ne (fun z => RS.rs z.1.symm)).trans hL]
    refine j_iconst C dX2_putStep_27 (v := 1) (by decide) ?_
    refine j_iadd C dX2_putStep_28 ?_
    rw [nI_1]
    refine j_putI C fl_X2_26 dX2_putStep_29 (RS.r) rfl rfl rfl rfl ?_
    exact j_vret C dX2_putStep_32 ⟨rfl, (if_pos (by omega)).symm⟩

/-- the reader's state: token, its start, the place, the value, the steps (the newest first) -/
abbrev XS : Type := Int32 × Nat × Nat × Int32 × List Int32
abbrev XF : Type := XS → Bool × XS
noncomputable def xNx (tp : Nat → Int32) (n : Nat) (σ : XS) : XS := ((xTok tp n σ.2.2.1 σ.2.2.2.1).1, (xTok tp n σ.2.2.1 σ.2.2.2.1).2.1, (xTok tp n σ.2.2.1 σ.2.2.2.1).2.2.1, (xTok tp n σ.2.2.1 σ.2.2.2.1).2.2.2, σ.2.2.2.2)
def xPu (w : Int32) (σ : XS) : XS := (σ.1, σ.2.1, σ.2.2.1, σ.2.2.2.1, if σ.2.2.2.2.length < 200 then w :: σ.2.2.2.2 else σ.2.2.2.2)
/-- the numbers hold the reader's state -/
def RD (N N0 : WNm) (R S n : Nat) (σ : XS) : Prop := N R 2 = σ.1 ∧ N R 3 = nI σ.2.1 ∧ N R 1 = nI σ.2.2.1 ∧ N R 4 = σ.2.2.2.1 ∧ N R 6 = nI σ.2.2.2.2.length ∧ pileOf (N S) σ.2.2.2.2.length = σ.2.2.2.2 ∧ σ.2.2.2.2.length ≤ 200 ∧ σ.2.2.1 ≤ n ∧ (∀ a, ¬ a = R → ¬ a = S → N a = N0 a) ∧ ∀ k, ¬ k = 1 → ¬ k = 2 → ¬ k = 3 → ¬ k = 4 → ¬ k = 6 → N R k = N0 R k
theorem xTok_at (tp : Nat → Int32) (n i : Nat) (v : Int32) (hi : i ≤ n) : (xTok tp n i v).2.2.1 ≤ n := by
  have hq : pBl tp n i ≤ n := by have := scan_le (fun j => tp j = 32) (n - i) i; unfold pBl; omega
  unfold xTok
  split
  · exact Nat.le_refl _
  · split
    · have := scan_le (fun j => 48 ≤ tp j ∧ tp j ≤ 57) (n - pBl tp n i) (pBl tp n i)
      show eDg tp n (pBl tp n i) ≤ n
      unfold eDg; omega
    · split
      · have := scan_le (fun j => 97 ≤ tp j ∧ tp j ≤ 122) (n - pBl tp n i) (pBl tp n i)
        show eLt tp n (pBl tp n i) ≤ n
        unfold eLt; omega
      · show pBl tp n i + 1 ≤ n
        omega
theorem RD.nx {sh : WSh} {N N0 : WNm} {R Z Y S n : Nat} {σ : XS} (RS : RSh sh R Z Y S) (h : RD N N0 R S n σ) : RD (xAdv N R Y n σ.2.2.1) N0 R S n (xNx (N0 Y) n σ) := by
  obtain ⟨h1, h2, h3, h4, h5, h6, h7, h8, h9, h10⟩ := h
  have eY : N Y = N0 Y := h9 Y RS.ry RS.ys
  unfold xAdv xTokN
  rw [eY, h4]
  refine ⟨xT_g2 _ _ _ _ _ _, xT_g3 _ _ _ _ _ _, xT_g1 _ _ _ _ _ _, xT_g4 _ _ _ _ _ _, (xT_g6 _ _ _ _ _ _).trans h5, ?_, h7, xTok_at _ _ _ _ h8, fun a ha hb => (xT_row ha).trans (h9 a ha hb), fun k k1 k2 k3 k4 k6 => ?_⟩
  · rw [xT_row RS.rs]; exact h6
  · rw [← h10 k k1 k2 k3 k4 k6]; simp [xT, u2, k1, k2, k3, k4]
theorem u2_at (N : WNm) (i k : Nat) (v : Int32) : u2 N i k v i = fun j => if j = k then v else N i j := by
  funext j
  by_cases h : j = k <;> simp [u2, h]
theorem RD.pu {sh : WSh} {N N0 : WNm} {R Z Y S n : Nat} {σ : XS} (RS : RSh sh R Z Y S) (h : RD N N0 R S n σ) (w : Int32) : RD (xPutG N R S σ.2.2.2.2.length w) N0 R S n (xPu w σ) := by
  obtain ⟨h1, h2, h3, h4, h5, h6, h7, h8, h9, h10⟩ := h
  unfold xPutG xPu
  by_cases hl : σ.2.2.2.2.length < 200
  · rw [if_pos hl, if_pos hl, xPutS]
    have rs : ¬ R = S := fun z => RS.rs z.symm
    refine ⟨?_, ?_, ?_, ?_, u2_eq _ _ _ _, ?_, ?_, h8, ?_, ?_⟩
    · rw [u2_ne (by omega), u2_ne (by omega)]; exact h1
    · rw [u2_ne (by omega), u2_ne (by omega)]; exact h2
    · rw [u2_ne (by omega), u2_ne (by omega)]; exact h3
    · rw [u2_ne (by omega), u2_ne (by omega)]; exact h4
    · show pileOf (u2 (u2 N S _ w) R 6 _ S) (σ.2.2.2.2.length + 1) = w :: σ.2.2.2.2
      rw [u2_row RS.rs, u2_at, pile_push, h6]
    · show σ.2.2.2.2.length + 1 ≤ 200
      omega
    · intro a ha hb
      rw [u2_row ha, u2_row hb]; exact h9 a ha hb
    · intro k k1 k2 k3 k4 k6
      rw [u2_ne (by omega), u2_ne (by omega)]; exact h10 k k1 k2 k3 k4 k6
  · rw [if_neg hl, if_neg hl]
    exact ⟨h1, h2, h3, h4, h5, h6, h7, h8, h9, h10⟩
/-- P's tokens join what the body reads, at most f times -/
noncomputable def xLoop (tp : Nat → Int32) (n : Nat) (P : Int32 → Prop) [DecidablePred P] (body : XF) : Nat → XF
  | 0, σ => (true, σ)
  | f + 1, σ => if P σ.1 then (if (body (xNx tp n σ)).1 = true then xLoop tp n P body f (xPu (-σ.1) (body (xNx tp n σ)).2) else (false, (body (xNx tp n σ)).2)) else (true, σ)
noncomputable def xRep (tp : Nat → Int32) (n : Nat) (P : Int32 → Prop) [DecidablePred P] (body : XF) : XF := fun σ => if (body σ).1 = true then xLoop tp n P body 200 (body σ).2 else (false, (body σ).2)
noncomputable def xComp (tp : Nat → Int32) (n : Nat) (S : XF) : XF := fun σ => if (S σ).1 = true then (if (S σ).2.1 = 60 ∨ (S σ).2.1 = 61 ∨ (S σ).2.1 = 62 then (if (S (xNx tp n (S σ).2)).1 = true then (true, xPu (-(S σ).2.1) (S (xNx tp n (S σ).2)).2) else (false, (S (xNx tp n (S σ).2)).2)) else (true, (S σ).2)) else (false, (S σ).2)
noncomputable def xDen (tp : Nat → Int32) (n d : Nat) (K D : XF) : XF := fun σ => if σ.1 = 262 then (if d = 0 then (false, σ) else (if (D (xNx tp n σ)).1 = true then (true, xPu (-262) (D (xNx tp n σ)).2) else (false, (D (xNx tp n σ)).2))) else K σ
noncomputable def xBr (tp : Nat → Int32) (n : Nat) (E : XF) : XF := fun σ => if (E σ).1 = true then (if (E σ).2.1 = 41 then (true, xNx tp n (E σ).2) else (false, (E σ).2)) else (false, (E σ).2)
noncomputable def xNg (O : XF) : XF := fun σ => if (O σ).1 = true then (true, xPu (-263) (O σ).2) else (false, (O σ).2)
noncomputable def xOpnd (tp : Nat → Int32) (n d : Nat) (E O : XF) : XF := fun σ => if σ.1 = 257 ∨ σ.1 = 258 then (true, xNx tp n (xPu (if σ.1 = 257 then σ.2.2.2.1 else -1 - σ.2.2.2.1) σ)) else (if (σ.1 = 45 ∨ σ.1 = 40) ∧ ¬ d = 0 then (if σ.1 = 40 then xBr tp n E (xNx tp n σ) else xNg O (xNx tp n σ)) else (false, σ))
abbrev pOr (t : Int32) : Prop := t = 261
abbrev pAnd (t : Int32) : Prop := t = 260
abbrev pSum (t : Int32) : Prop := t = 43 ∨ t = 45
abbrev pMul (t : Int32) : Prop := t = 42
/-- at depth d: what is read as an either, as a denied, as an operand; from those of the depth below -/
noncomputable def xTop (tp : Nat → Int32) (n d : Nat) (p : XF × XF × XF) : XF × XF × XF :=
  (xRep tp n pOr (xRep tp n pAnd (xDen tp n d (xComp tp n (xRep tp n pSum (xRep tp n pMul (xOpnd tp n d p.1 p.2.2)))) p.2.1)), xDen tp n d (xComp tp n (xRep tp n pSum (xRep tp n pMul (xOpnd tp n d p.1 p.2.2)))) p.2.1, xOpnd tp n d p.1 p.2.2)
noncomputable def xLv (tp : Nat → Int32) (n : Nat) : Nat → XF × XF × XF
  | 0 => xTop tp n 0 (fun σ => (false, σ), fun σ => (false, σ), fun σ => (false, σ))
  | d + 1 => xTop tp n (d + 1) (xLv tp n d)
theorem xLoop_no {tp : Nat → Int32} {n : Nat} {P : Int32 → Prop} [DecidablePred P] {body : XF} {f : Nat} {σ : XS} (h : ¬ P σ.1) : xLoop tp n P body (f + 1) σ = (true, σ) := by rw [xLoop, if_neg h]
theorem xLoop_ok {tp : Nat → Int32} {n : Nat} {P : Int32 → Prop} [DecidablePred P] {body : XF} {f : Nat} {σ σ1 : XS} (h : P σ.1) (hb : body (xNx tp n σ) = (true, σ1)) : xLoop tp n P body (f + 1) σ = xLoop tp n P body f (xPu (-σ.1) σ1) := by rw [xLoop, if_pos h, hb]; rfl
theorem xLoop_bad {tp : Nat → Int32} {n : Nat} {P : Int32 → Prop} [DecidablePred P] {body : XF} {f : Nat} {σ σ1 : XS} (h : P σ.1) (hb : body (xNx tp n σ) = (false, σ1)) : xLoop tp n P body (f + 1) σ = (false, σ1) := by rw [xLoop, if_pos h, hb]; rfl
theorem xRep_ok {tp : Nat → Int32} {n : Nat} {P : Int32 → Prop} [DecidablePred P] {body : XF} {σ σ1 : XS} (hb : body σ = (true, σ1)) : xRep tp n P body σ = xLoop tp n P body 200 σ1 := by rw [xRep, hb]; rfl
theorem xRep_bad {tp : Nat → Int32} {n : Nat} {P : Int32 → Prop} [DecidablePred P] {body : XF} {σ σ1 : XS} (hb : body σ = (false, σ1)) : xRep tp n P body σ = (false, σ1) := by rw [xRep, hb]; rfl
/-- a method reads as fn says -/
def RDO (l : Launch) (g : WGp) (sh : WSh) (N0 : WNm) (R S n : Nat) (y : MethodName) (cc : ByteArray) (maxL op d : Nat) (fn : XF) : Prop := ∀ (N : WNm) (σ : XS), RD N N0 R S n σ → CT l g y cc maxL (some .boolean) (RM d 0 0) [.ref (sh.2.2 R), .int (nI op)] sh N (QI g (fun r sh1 N1 => sh1 = sh ∧ r = bI (fn σ).1 ∧ RD N1 N0 R S n (fn σ).2))

theorem rX_prod {l : Launch} {g : WGp} (hg : GOK g) {sh : WSh} {N0 : WNm} {R Z Y S : Nat} (RS : RSh sh R Z Y S) {o : Nat → Nat} (hX : HX g o) {n : Nat} (hL : N0 Z 1 = nI n) (hn : n ≤ 200) {op d : Nat} {B : XF} (hB : RDO l g sh N0 R S n yX2_readOperand cX2_readOperand 3 op d B) (hd : 7 ≤ d) : RDO l g sh N0 R S n yX2_readProduct cX2_readProduct 3 op (d + 1) (xRep (N0 Y) n pMul B) := by
  intro N σ hR
  refine ent hg (by decide +kernel) (Nat.le_of_ble_eq_true rfl) ?_
  intro p e s m args below meth c C hname
  generalize hRES : (xRep (N0 Y) n pMul B) σ = RES
  have key : ∀ (f k : Nat), k + f = 200 → ∀ (N1 : WNm) (σ1 : XS), RD N1 N0 R S n σ1 → xLoop (N0 Y) n pMul B f σ1 = RES → J p l e (RM (d + 1) 0 0) s m args below meth c (MQ below (QI g (fun r sh1 N1 => sh1 = sh ∧ r = bI RES.1 ∧ RD N1 N0 R S n RES.2)) args s 0 0 g.A) g 3 sh N1 0 0 12 [some (.ref (sh.2.2 R)), some (.int (nI op)), some (.int (nI k))] [] := by
    intro f
    induction f with
    | zero =>
      intro k hk N1 σ1 hR1 hRES
      obtain rfl : k = 200 := by omega
      refine j_iload_n C dX2_readProduct_12 rfl ?_
      refine j_sipush C dX2_readProduct_13 (v := 200) (by decide) ?_
      refine j_icmp_ge (tgt := 54) C dX2_readProduct_16 (by decide) (fun h16 => ?_) (fun h16 => ?_)
      · skip
        refine j_iconst C dX2_readProduct_54 (v := 1) (by decide) ?_
        exact j_iret C dX2_readProduct_55 rfl ⟨rfl, by rw [← hRES]; rfl, by rw [← hRES]; exact hR1⟩
      · skip
        exact absurd (by decide) h16
    | succ f ih =>
      intro k hk N1 σ1 hR1 hRES
      refine j_iload_n C dX2_readProduct_12 rfl ?_
      refine j_sipush C dX2_readProduct_13 (v := 200) (by decide) ?_
      refine j_icmp_ge (tgt := 54) C dX2_readProduct_16 (by decide) (fun h16 => ?_) (fun h16 => ?_)
      · skip
        rw [show (200 : Int32) = nI 200 from rfl, n_nle (by omega) (by omega)] at h16
        omega
      · skip
        rw [show (200 : Int32) = nI 200 from rfl, n_nle (by omega) (by omega)] at h16
        refine j_aload_n C dX2_readProduct_19 rfl ?_
        refine j_getI C fl_X2_36 dX2_readProduct_20 (RS.r) rfl ?_
        rw [hR1.1]
        refine j_bipush C dX2_readProduct_23 (v := 42) (by decide) ?_
        refine j_icmp_ne (tgt := 54) C dX2_readProduct_25 (by decide) (fun h25 => ?_) (fun h25 => ?_)
        · skip
          have hr2 := (xLoop_no (P := pMul) (f := f) h25).symm.trans hRES
          refine j_iconst C dX2_readProduct_54 (v := 1) (by decide) ?_
          exact j_iret C dX2_readProduct_55 rfl ⟨rfl, by rw [← hr2]; rfl, by rw [← hr2]; exact hR1⟩
        · replace h25 := Decidable.not_not.mp h25
          refine j_aload_n C dX2_readProduct_28 rfl ?_
          refine j_callV0V C ml_X2_29 dX2_readProduct_29 (cX_nextToken hg RS hX (N := N1) (n := n) (i0 := σ1.2.2.1) (by rw [hR1.2.2.2.2.2.2.2.2.1 Z RS.rz RS.zs]; exact hL) hn hR1.2.2.1 hR1.2.2.2.2.2.2.2.1) ⟨by rw [RS.r]; decide, by rw [RS.r]; rfl⟩ (rmle (by omega) (by decide)) (Nat.le_of_ble_eq_true rfl) ⟨rfl, rfl⟩ ⟨Nat.zero_le _, Nat.zero_le _⟩ ?_
          have hR2 := hR1.nx RS
          obtain ⟨N2, eN2⟩ : ∃ N2, N2 = xAdv N1 R Y n σ1.2.2.1 := ⟨_, rfl⟩
          rw [← eN2] at hR2
          rw [← eN2]
          clear eN2
          refine j_aload_n C dX2_readProduct_32 rfl ?_
          refine j_iload_n C dX2_readProduct_33 rfl ?_
          refine j_callV1Ig C ml_X2_67 dX2_readProduct_34 (hB N2 (xNx (N0 Y) n σ1) hR2) ⟨by rw [RS.r]; decide, by rw [RS.r]; rfl⟩ (rmle (by omega) (by decide)) (Nat.le_of_ble_eq_true rfl) ⟨rfl, rfl⟩ ⟨Nat.zero_le _, Nat.zero_le _⟩ (fun r sh1 N3 hq => ?_)
          obtain ⟨e1, e2, hR3⟩ := hq
          replace e1 := e1.symm
          subst e1
          subst e2
          rcases hb : B (xNx (N0 Y) n σ1) with ⟨b, σ2⟩
          rw [hb] at hR3
          replace hR3 : RD N3 N0 R S n σ2 := hR3
          rcases b with _ | _
          · skip
            refine j_if_ne (tgt := 42) C dX2_readProduct_37 (by decide) (fun h37 => ?_) (fun h37 => ?_)
            · skip
              exact absurd rfl h37
            · replace h37 := Decidable.not_not.mp h37
              refine j_iconst C dX2_readProduct_40 (v := 0) (by decide) ?_
              have hr2 := (xLoop_bad (P := pMul) h25 hb).symm.trans hRES
              exact j_iret C dX2_readProduct_41 rfl ⟨rfl, by rw [← hr2]; rfl, by rw [← hr2]; exact hR3⟩
          · skip
            refine j_if_ne (tgt := 42) C dX2_readProduct_37 (by decide) (fun h37 => ?_) (fun h37 => ?_)
            · skip
              refine j_aload_n C dX2_readProduct_42 rfl ?_
              refine j_bipush C dX2_readProduct_43 (v := (-42)) (by decide) ?_
              refine j_callV1V C ml_X2_51 dX2_readProduct_45 (cX_putG hg RS (N := N3) (t := σ2.2.2.2.2.length) hR3.2.2.2.2.1 hR3.2.2.2.2.2.2.1 (-42)) ⟨by rw [RS.r]; decide, by rw [RS.r]; rfl⟩ (rmle (by omega) (by decide)) (Nat.le_of_ble_eq_true rfl) ⟨rfl, rfl⟩ ⟨Nat.zero_le _, Nat.zero_le _⟩ ?_
              have hR4 := hR3.pu RS (-42)
              obtain ⟨N4, eN4⟩ : ∃ N4, N4 = xPutG N3 R S σ2.2.2.2.2.length (-42) := ⟨_, rfl⟩
              rw [← eN4] at hR4
              rw [← eN4]
              clear eN4
              refine j_iincN C dX2_readProduct_48 rfl (by decide) rfl ?_
              refine j_goto (tgt := 12) C dX2_readProduct_51 (by decide) ?_
              rw [show (-42 : Int32) = -σ1.1 by rw [h25]] at hR4
              exact ih (k + 1) (by omega) _ _ hR4 ((xLoop_ok (P := pMul) h25 hb).symm.trans hRES)
            · replace h37 := Decidable.not_not.mp h37
              exact absurd h37 one_ne
  refine j_aload_n C dX2_readProduct_0 rfl ?_
  refine j_iload_n C dX2_readProduct_1 rfl ?_
  refine j_callV1Ig C ml_X2_67 dX2_readProduct_2 (hB N σ hR) ⟨by rw [RS.r]; decide, by rw [RS.r]; rfl⟩ (rmle (by omega) (by decide)) (Nat.le_of_ble_eq_true rfl) ⟨rfl, rfl⟩ ⟨Nat.zero_le _, Nat.zero_le _⟩ (fun r sh1 N1 hq => ?_)
  obtain ⟨e1, e2, hR1⟩ := hq
  replace e1 := e1.symm
  subst e1
  subst e2
  rcases hb : B σ with ⟨b, σ1⟩
  rw [hb] at hR1
  replace hR1 : RD N1 N0 R S n σ1 := hR1
  rcases b with _ | _
  · skip
    refine j_if_ne (tgt := 10) C dX2_readProduct_5 (by decide) (fun h5 => ?_) (fun h5 => ?_)
    · skip
      exact absurd rfl h5
    · replace h5 := Decidable.not_not.mp h5
      refine j_iconst C dX2_readProduct_8 (v := 0) (by decide) ?_
      have hr2 := (xRep_bad (P := pMul) hb).symm.trans hRES
      exact j_iret C dX2_readProduct_9 rfl ⟨rfl, by rw [← hr2]; rfl, by rw [← hr2]; exact hR1⟩
  · skip
    refine j_if_ne (tgt := 10) C dX2_readProduct_5 (by decide) (fun h5 => ?_) (fun h5 => ?_)
    · skip
      refine j_iconst C dX2_readProduct_10 (v := 0) (by decide) ?_
      refine j_istore_n C dX2_readProduct_11 (by decide) rfl ?_
      exact key 200 0 rfl N1 σ1 hR1 ((xRep_ok (P := pMul) hb).symm.trans hRES)
    · replace h5 := Decidable.not_not.mp h5
      exact absurd h5 one_ne

theorem rX_sum {l : Launch} {g : WGp} (hg : GOK g) {sh : WSh} {N0 : WNm} {R Z Y S : Nat} (RS : RSh sh R Z Y S) {o : Nat → Nat} (hX : HX g o) {n : Nat} (hL : N0 Z 1 = nI n) (hn : n ≤ 200) {op d : Nat} {B : XF} (hB : RDO l g sh N0 R S n yX2_readProduct cX2_readProduct 3 op d B) (hd : 7 ≤ d) : RDO l g sh N0 R S n yX2_readSum cX2_readSum 4 op (d + 1) (xRep (N0 Y) n pSum B) := by
  intro N σ hR
  refine ent hg (by decide +kernel) (Nat.le_of_ble_eq_true rfl) ?_
  intro p e s m args below meth c C hname
  generalize hRES : (xRep (N0 Y) n pSum B) σ = RES
  have key : ∀ (f k : Nat), k + f = 200 → ∀ (N1 : WNm) (σ1 : XS), RD N1 N0 R S n σ1 → xLoop (N0 Y) n pSum B f σ1 = RES → J p l e (RM (d + 1) 0 0) s m args below meth c (MQ below (QI g (fun r sh1 N1 => sh1 = sh ∧ r = bI RES.1 ∧ RD N1 N0 R S n RES.2)) args s 0 0 g.A) g 4 sh N1 0 0 12 [some (.ref (sh.2.2 R)), some (.int (nI op)), some (.int (nI k)), none] [] := by
    intro f
    induction f with
    | zero =>
      intro k hk N1 σ1 hR1 hRES
      obtain rfl : k = 200 := by omega
      refine j_iload_n C dX2_readSum_12 rfl ?_
      refine j_sipush C dX2_readSum_13 (v := 200) (by decide) ?_
      refine j_icmp_ge (tgt := 68) C dX2_readSum_16 (by decide) (fun h16 => ?_) (fun h16 => ?_)
      · skip
        refine j_iconst C dX2_readSum_68 (v := 1) (by decide) ?_
        exact j_iret C dX2_readSum_69 rfl ⟨rfl, by rw [← hRES]; rfl, by rw [← hRES]; exact hR1⟩
      · skip
        exact absurd (by decide) h16
    | succ f ih =>
      intro k hk N1 σ1 hR1 hRES
      refine j_iload_n C dX2_readSum_12 rfl ?_
      refine j_sipush C dX2_readSum_13 (v := 200) (by decide) ?_
      refine j_icmp_ge (tgt := 68) C dX2_readSum_16 (by decide) (fun h16 => ?_) (fun h16 => ?_)
      · skip
        rw [show (200 : Int32) = nI 200 from rfl, n_nle (by omega) (by omega)] at h16
        omega
      · skip
        rw [show (200 : Int32) = nI 200 from rfl, n_nle (by omega) (by omega)] at h16
        refine j_aload_n C dX2_readSum_19 rfl ?_
        refine j_getI C fl_X2_36 dX2_readSum_20 (RS.r) rfl ?_
        rw [hR1.1]
        refine j_bipush C dX2_readSum_23 (v := 43) (by decide) ?_
        refine j_icmp_eq (tgt := 37) C dX2_readSum_25 (by decide) (fun h25 => ?_) (fun h25 => ?_)
        · skip
          refine j_aload_n C dX2_readSum_37 rfl ?_
          refine j_getI C fl_X2_36 dX2_readSum_38 (RS.r) rfl ?_
          rw [hR1.1]
          refine j_istore_n C dX2_readSum_41 (by decide) rfl ?_
          refine j_aload_n C dX2_readSum_42 rfl ?_
          refine j_callV0V C ml_X2_29 dX2_readSum_43 (cX_nextToken hg RS hX (N := N1) (n := n) (i0 := σ1.2.2.1) (by rw [hR1.2.2.2.2.2.2.2.2.1 Z RS.rz RS.zs]; exact hL) hn hR1.2.2.1 hR1.2.2.2.2.2.2.2.1) ⟨by rw [RS.r]; decide, by rw [RS.r]; rfl⟩ (rmle (by omega) (by decide)) (Nat.le_of_ble_eq_true rfl) ⟨rfl, rfl⟩ ⟨Nat.zero_le _, Nat.zero_le _⟩ ?_
          have hR2 := hR1.nx RS
          obtain ⟨N2, eN2⟩ : ∃ N2, N2 = xAdv N1 R Y n σ1.2.2.1 := ⟨_, rfl⟩
          rw [← eN2] at hR2
          rw [← eN2]
          clear eN2
          refine j_aload_n C dX2_readSum_46 rfl ?_
          refine j_iload_n C dX2_readSum_47 rfl ?_
          refine j_callV1Ig C ml_X2_64 dX2_readSum_48 (hB N2 (xNx (N0 Y) n σ1) hR2) ⟨by rw [RS.r]; decide, by rw [RS.r]; rfl⟩ (rmle (by omega) (by decide)) (Nat.le_of_ble_eq_true rfl) ⟨rfl, rfl⟩ ⟨Nat.zero_le _, Nat.zero_le _⟩ (fun r sh1 N3 hq => ?_)
          obtain ⟨e1, e2, hR3⟩ := hq
          replace e1 := e1.symm
          subst e1
          subst e2
          rcases hb : B (xNx (N0 Y) n σ1) with ⟨b, σ2⟩
          rw [hb] at hR3
          replace hR3 : RD N3 N0 R S n σ2 := hR3
          rcases b with _ | _
          · skip
            refine j_if_ne (tgt := 56) C dX2_readSum_51 (by decide) (fun h51 => ?_) (fun h51 => ?_)
            · skip
              exact absurd rfl h51
            · replace h51 := Decidable.not_not.mp h51
              refine j_iconst C dX2_readSum_54 (v := 0) (by decide) ?_
              have hr2 := (xLoop_bad (P := pSum) (by first | exact Or.inl h25 | exact Or.inr h34) hb).symm.trans hRES
              exact j_iret C dX2_readSum_55 rfl ⟨rfl, by rw [← hr2]; rfl, by rw [← hr2]; exact hR3⟩
          · skip
            refine j_if_ne (tgt := 56) C dX2_readSum_51 (by decide) (fun h51 => ?_) (fun h51 => ?_)
            · skip
              refine j_aload_n C dX2_readSum_56 rfl ?_
              refine j_iload_n C dX2_readSum_57 rfl ?_
              refine j_ineg C dX2_readSum_58 ?_
              refine j_callV1V C ml_X2_51 dX2_readSum_59 (cX_putG hg RS (N := N3) (t := σ2.2.2.2.2.length) hR3.2.2.2.2.1 hR3.2.2.2.2.2.2.1 (-σ1.1)) ⟨by rw [RS.r]; decide, by rw [RS.r]; rfl⟩ (rmle (by omega) (by decide)) (Nat.le_of_ble_eq_true rfl) ⟨rfl, rfl⟩ ⟨Nat.zero_le _, Nat.zero_le _⟩ ?_
              have hR4 := hR3.pu RS (-σ1.1)
              obtain ⟨N4, eN4⟩ : ∃ N4, N4 = xPutG N3 R S σ2.2.2.2.2.length (-σ1.1) := ⟨_, rfl⟩
              rw [← eN4] at hR4
              rw [← eN4]
              clear eN4
              refine j_iincN C dX2_readSum_62 rfl (by decide) rfl ?_
              refine j_goto (tgt := 12) C dX2_readSum_65 (by decide) ?_
              exact J.le (lv1 := [some (.ref (sh.2.2 R)), some (.int (nI op)), some (.int (nI (k + 1))), none]) ⟨rfl, rfl, rfl, trivial⟩ (ih (k + 1) (by omega) _ _ hR4 ((xLoop_ok (P := pSum) (by first | exact Or.inl h25 | exact Or.inr h34) hb).symm.trans hRES))
            · replace h51 := Decidable.not_not.mp h51
              exact absurd h51 one_ne
        · skip
          refine j_aload_n C dX2_readSum_28 rfl ?_
          refine j_getI C fl_X2_36 dX2_readSum_29 (RS.r) rfl ?_
          rw [hR1.1]
          refine j_bipush C dX2_readSum_32 (v := 45) (by decide) ?_
          refine j_icmp_ne (tgt := 68) C dX2_readSum_34 (by decide) (fun h34 => ?_) (fun h34 => ?_)
          · skip
            have hr2 := (xLoop_no (P := pSum) (f := f) (fun z => z.elim h25 h34)).symm.trans hRES
            refine j_iconst C dX2_readSum_68 (v := 1) (by decide) ?_
            exact j_iret C dX2_readSum_69 rfl ⟨rfl, by rw [← hr2]; rfl, by rw [← hr2]; exact hR1⟩
          · replace h34 := Decidable.not_not.mp h34
            refine j_aload_n C dX2_readSum_37 rfl ?_
            refine j_getI C fl_X2_36 dX2_readSum_38 (RS.r) rfl ?_
            rw [hR1.1]
            refine j_istore_n C dX2_readSum_41 (by decide) rfl ?_
            refine j_aload_n C dX2_readSum_42 rfl ?_
            refine j_callV0V C ml_X2_29 dX2_readSum_43 (cX_nextToken hg RS hX (N := N1) (n := n) (i0 := σ1.2.2.1) (by rw [hR1.2.2.2.2.2.2.2.2.1 Z RS.rz RS.zs]; exact hL) hn hR1.2.2.1 hR1.2.2.2.2.2.2.2.1) ⟨by rw [RS.r]; decide, by rw [RS.r]; rfl⟩ (rmle (by omega) (by decide)) (Nat.le_of_ble_eq_true rfl) ⟨rfl, rfl⟩ ⟨Nat.zero_le _, Nat.zero_le _⟩ ?_
            have hR2 := hR1.nx RS
            obtain ⟨N2, eN2⟩ : ∃ N2, N2 = xAdv N1 R Y n σ1.2.2.1 := ⟨_, rfl⟩
            rw [← eN2] at hR2
            rw [← eN2]
            clear eN2
            refine j_aload_n C dX2_readSum_46 rfl ?_
            refine j_iload_n C dX2_readSum_47 rfl ?_
            refine j_callV1Ig C ml_X2_64 dX2_readSum_48 (hB N2 (xNx (N0 Y) n σ1) hR2) ⟨by rw [RS.r]; decide, by rw [RS.r]; rfl⟩ (rmle (by omega) (by decide)) (Nat.le_of_ble_eq_true rfl) ⟨rfl, rfl⟩ ⟨Nat.zero_le _, Nat.zero_le _⟩ (fun r sh1 N3 hq => ?_)
            obtain ⟨e1, e2, hR3⟩ := hq
            replace e1 := e1.symm
            subst e1
            subst e2
            rcases hb : B (xNx (N0 Y) n σ1) with ⟨b, σ2⟩
            rw [hb] at hR3
            replace hR3 : RD N3 N0 R S n σ2 := hR3
            rcases b with _ | _
            · skip
              refine j_if_ne (tgt := 56) C dX2_readSum_51 (by decide) (fun h51 => ?_) (fun h51 => ?_)
              · skip
                exact absurd rfl h51
              · replace h51 := Decidable.not_not.mp h51
                refine j_iconst C dX2_readSum_54 (v := 0) (by decide) ?_
                have hr2 := (xLoop_bad (P := pSum) (by first | exact Or.inl h25 | exact Or.inr h34) hb).symm.trans hRES
                exact j_iret C dX2_readSum_55 rfl ⟨rfl, by rw [← hr2]; rfl, by rw [← hr2]; exact hR3⟩
            · skip
              refine j_if_ne (tgt := 56) C dX2_readSum_51 (by decide) (fun h51 => ?_) (fun h51 => ?_)
              · skip
                refine j_aload_n C dX2_readSum_56 rfl ?_
                refine j_iload_n C dX2_readSum_57 rfl ?_
                refine j_ineg C dX2_readSum_58 ?_
                refine j_callV1V C ml_X2_51 dX2_readSum_59 (cX_putG hg RS (N := N3) (t := σ2.2.2.2.2.length) hR3.2.2.2.2.1 hR3.2.2.2.2.2.2.1 (-σ1.1)) ⟨by rw [RS.r]; decide, by rw [RS.r]; rfl⟩ (rmle (by omega) (by decide)) (Nat.le_of_ble_eq_true rfl) ⟨rfl, rfl⟩ ⟨Nat.zero_le _, Nat.zero_le _⟩ ?_
                have hR4 := hR3.pu RS (-σ1.1)
                obtain ⟨N4, eN4⟩ : ∃ N4, N4 = xPutG N3 R S σ2.2.2.2.2.length (-σ1.1) := ⟨_, rfl⟩
                rw [← eN4] at hR4
                rw [← eN4]
                clear eN4
                refine j_iincN C dX2_readSum_62 rfl (by decide) rfl ?_
                refine j_goto (tgt := 12) C dX2_readSum_65 (by decide) ?_
                exact J.le (lv1 := [some (.ref (sh.2.2 R)), some (.int (nI op)), some (.int (nI (k + 1))), none]) ⟨rfl, rfl, rfl, trivial⟩ (ih (k + 1) (by omega) _ _ hR4 ((xLoop_ok (P := pSum) (by first | exact Or.inl h25 | exact Or.inr h34) hb).symm.trans hRES))
              · replace h51 := Decidable.not_not.mp h51
                exact absurd h51 one_ne
  refine j_aload_n C dX2_readSum_0 rfl ?_
  refine j_iload_n C dX2_readSum_1 rfl ?_
  refine j_callV1Ig C ml_X2_64 dX2_readSum_2 (hB N σ hR) ⟨by rw [RS.r]; decide, by rw [RS.r]; rfl⟩ (rmle (by omega) (by decide)) (Nat.le_of_ble_eq_true rfl) ⟨rfl, rfl⟩ ⟨Nat.zero_le _, Nat.zero_le _⟩ (fun r sh1 N1 hq => ?_)
  obtain ⟨e1, e2, hR1⟩ := hq
  replace e1 := e1.symm
  subst e1
  subst e2
  rcases hb : B σ with ⟨b, σ1⟩
  rw [hb] at hR1
  replace hR1 : RD N1 N0 R S n σ1 := hR1
  rcases b with _ | _
  · skip
    refine j_if_ne (tgt := 10) C dX2_readSum_5 (by decide) (fun h5 => ?_) (fun h5 => ?_)
    · skip
      exact absurd rfl h5
    · replace h5 := Decidable.not_not.mp h5
      refine j_iconst C dX2_readSum_8 (v := 0) (by decide) ?_
      have hr2 := (xRep_bad (P := pSum) hb).symm.trans hRES
      exact j_iret C dX2_readSum_9 rfl ⟨rfl, by rw [← hr2]; rfl, by rw [← hr2]; exact hR1⟩
  · skip
    refine j_if_ne (tgt := 10) C dX2_readSum_5 (by decide) (fun h5 => ?_) (fun h5 => ?_)
    · skip
      refine j_iconst C dX2_readSum_10 (v := 0) (by decide) ?_
      refine j_istore_n C dX2_readSum_11 (by decide) rfl ?_
      exact key 200 0 rfl N1 σ1 hR1 ((xRep_ok (P := pSum) hb).symm.trans hRES)
    · replace h5 := Decidable.not_not.mp h5
      exact absurd h5 one_ne

theorem rX_both {l : Launch} {g : WGp} (hg : GOK g) {sh : WSh} {N0 : WNm} {R Z Y S : Nat} (RS : RSh sh R Z Y S) {o : Nat → Nat} (hX : HX g o) {n : Nat} (hL : N0 Z 1 = nI n) (hn : n ≤ 200) {op d : Nat} {B : XF} (hB : RDO l g sh N0 R S n yX2_readDenied cX2_readDenied 2 op d B) (hd : 7 ≤ d) : RDO l g sh N0 R S n yX2_readBoth cX2_readBoth 3 op (d + 1) (xRep (N0 Y) n pAnd B) := by
  intro N σ hR
  refine ent hg (by decide +kernel) (Nat.le_of_ble_eq_true rfl) ?_
  intro p e s m args below meth c C hname
  generalize hRES : (xRep (N0 Y) n pAnd B) σ = RES
  have key : ∀ (f k : Nat), k + f = 200 → ∀ (N1 : WNm) (σ1 : XS), RD N1 N0 R S n σ1 → xLoop (N0 Y) n pAnd B f σ1 = RES → J p l e (RM (d + 1) 0 0) s m args below meth c (MQ below (QI g (fun r sh1 N1 => sh1 = sh ∧ r = bI RES.1 ∧ RD N1 N0 R S n RES.2)) args s 0 0 g.A) g 3 sh N1 0 0 12 [some (.ref (sh.2.2 R)), some (.int (nI op)), some (.int (nI k))] [] := by
    intro f
    induction f with
    | zero =>
      intro k hk N1 σ1 hR1 hRES
      obtain rfl : k = 200 := by omega
      refine j_iload_n C dX2_readBoth_12 rfl ?_
      refine j_sipush C dX2_readBoth_13 (v := 200) (by decide) ?_
      refine j_icmp_ge (tgt := 56) C dX2_readBoth_16 (by decide) (fun h16 => ?_) (fun h16 => ?_)
      · skip
        refine j_iconst C dX2_readBoth_56 (v := 1) (by decide) ?_
        exact j_iret C dX2_readBoth_57 rfl ⟨rfl, by rw [← hRES]; rfl, by rw [← hRES]; exact hR1⟩
      · skip
        exact absurd (by decide) h16
    | succ f ih =>
      intro k hk N1 σ1 hR1 hRES
      refine j_iload_n C dX2_readBoth_12 rfl ?_
      refine j_sipush C dX2_readBoth_13 (v := 200) (by decide) ?_
      refine j_icmp_ge (tgt := 56) C dX2_readBoth_16 (by decide) (fun h16 => ?_) (fun h16 => ?_)
      · skip
        rw [show (200 : Int32) = nI 200 from rfl, n_nle (by omega) (by omega)] at h16
        omega
      · skip
        rw [show (200 : Int32) = nI 200 from rfl, n_nle (by omega) (by omega)] at h16
        refine j_aload_n C dX2_readBoth_19 rfl ?_
        refine j_getI C fl_X2_36 dX2_readBoth_20 (RS.r) rfl ?_
        rw [hR1.1]
        refine j_sipush C dX2_readBoth_23 (v := 260) (by decide) ?_
        refine j_icmp_ne (tgt := 56) C dX2_readBoth_26 (by decide) (fun h26 => ?_) (fun h26 => ?_)
        · skip
          have hr2 := (xLoop_no (P := pAnd) (f := f) h26).symm.trans hRES
          refine j_iconst C dX2_readBoth_56 (v := 1) (by decide) ?_
          exact j_iret C dX2_readBoth_57 rfl ⟨rfl, by rw [← hr2]; rfl, by rw [← hr2]; exact hR1⟩
        · replace h26 := Decidable.not_not.mp h26
          refine j_aload_n C dX2_readBoth_29 rfl ?_
          refine j_callV0V C ml_X2_29 dX2_readBoth_30 (cX_nextToken hg RS hX (N := N1) (n := n) (i0 := σ1.2.2.1) (by rw [hR1.2.2.2.2.2.2.2.2.1 Z RS.rz RS.zs]; exact hL) hn hR1.2.2.1 hR1.2.2.2.2.2.2.2.1) ⟨by rw [RS.r]; decide, by rw [RS.r]; rfl⟩ (rmle (by omega) (by decide)) (Nat.le_of_ble_eq_true rfl) ⟨rfl, rfl⟩ ⟨Nat.zero_le _, Nat.zero_le _⟩ ?_
          have hR2 := hR1.nx RS
          obtain ⟨N2, eN2⟩ : ∃ N2, N2 = xAdv N1 R Y n σ1.2.2.1 := ⟨_, rfl⟩
          rw [← eN2] at hR2
          rw [← eN2]
          clear eN2
          refine j_aload_n C dX2_readBoth_33 rfl ?_
          refine j_iload_n C dX2_readBoth_34 rfl ?_
          refine j_callV1Ig C ml_X2_55 dX2_readBoth_35 (hB N2 (xNx (N0 Y) n σ1) hR2) ⟨by rw [RS.r]; decide, by rw [RS.r]; rfl⟩ (rmle (by omega) (by decide)) (Nat.le_of_ble_eq_true rfl) ⟨rfl, rfl⟩ ⟨Nat.zero_le _, Nat.zero_le _⟩ (fun r sh1 N3 hq => ?_)
          obtain ⟨e1, e2, hR3⟩ := hq
          replace e1 := e1.symm
          subst e1
          subst e2
          rcases hb : B (xNx (N0 Y) n σ1) with ⟨b, σ2⟩
          rw [hb] at hR3
          replace hR3 : RD N3 N0 R S n σ2 := hR3
          rcases b with _ | _
          · skip
            refine j_if_ne (tgt := 43) C dX2_readBoth_38 (by decide) (fun h38 => ?_) (fun h38 => ?_)
            · skip
              exact absurd rfl h38
            · replace h38 := Decidable.not_not.mp h38
              refine j_iconst C dX2_readBoth_41 (v := 0) (by decide) ?_
              have hr2 := (xLoop_bad (P := pAnd) h26 hb).symm.trans hRES
              exact j_iret C dX2_readBoth_42 rfl ⟨rfl, by rw [← hr2]; rfl, by rw [← hr2]; exact hR3⟩
          · skip
            refine j_if_ne (tgt := 43) C dX2_readBoth_38 (by decide) (fun h38 => ?_) (fun h38 => ?_)
            · skip
              refine j_aload_n C dX2_readBoth_43 rfl ?_
              refine j_sipush C dX2_readBoth_44 (v := (-260)) (by decide) ?_
              refine j_callV1V C ml_X2_51 dX2_readBoth_47 (cX_putG hg RS (N := N3) (t := σ2.2.2.2.2.length) hR3.2.2.2.2.1 hR3.2.2.2.2.2.2.1 (-260)) ⟨by rw [RS.r]; decide, by rw [RS.r]; rfl⟩ (rmle (by omega) (by decide)) (Nat.le_of_ble_eq_true rfl) ⟨rfl, rfl⟩ ⟨Nat.zero_le _, Nat.zero_le _⟩ ?_
              have hR4 := hR3.pu RS (-260)
              obtain ⟨N4, eN4⟩ : ∃ N4, N4 = xPutG N3 R S σ2.2.2.2.2.length (-260) := ⟨_, rfl⟩
              rw [← eN4] at hR4
              rw [← eN4]
              clear eN4
              refine j_iincN C dX2_readBoth_50 rfl (by decide) rfl ?_
              refine j_goto (tgt := 12) C dX2_readBoth_53 (by decide) ?_
              rw [show (-260 : Int32) = -σ1.1 by rw [h26]] at hR4
              exact ih (k + 1) (by omega) _ _ hR4 ((xLoop_ok (P := pAnd) h26 hb).symm.trans hRES)
            · replace h38 := Decidable.not_not.mp h38
              exact absurd h38 one_ne
  refine j_aload_n C dX2_readBoth_0 rfl ?_
  refine j_iload_n C dX2_readBoth_1 rfl ?_
  refine j_callV1Ig C ml_X2_55 dX2_readBoth_2 (hB N σ hR) ⟨by rw [RS.r]; decide, by rw [RS.r]; rfl⟩ (rmle (by omega) (by decide)) (Nat.le_of_ble_eq_true rfl) ⟨rfl, rfl⟩ ⟨Nat.zero_le _, Nat.zero_le _⟩ (fun r sh1 N1 hq => ?_)
  obtain ⟨e1, e2, hR1⟩ := hq
  replace e1 := e1.symm
  subst e1
  subst e2
  rcases hb : B σ with ⟨b, σ1⟩
  rw [hb] at hR1
  replace hR1 : RD N1 N0 R S n σ1 := hR1
  rcases b with _ | _
  · skip
    refine j_if_ne (tgt := 10) C dX2_readBoth_5 (by decide) (fun h5 => ?_) (fun h5 => ?_)
    · skip
      exact absurd rfl h5
    · replace h5 := Decidable.not_not.mp h5
      refine j_iconst C dX2_readBoth_8 (v := 0) (by decide) ?_
      have hr2 := (xRep_bad (P := pAnd) hb).symm.trans hRES
      exact j_iret C dX2_readBoth_9 rfl ⟨rfl, by rw [← hr2]; rfl, by rw [← hr2]; exact hR1⟩
  · skip
    refine j_if_ne (tgt := 10) C dX2_readBoth_5 (by decide) (fun h5 => ?_) (fun h5 => ?_)
    · skip
      refine j_iconst C dX2_readBoth_10 (v := 0) (by decide) ?_
      refine j_istore_n C dX2_readBoth_11 (by decide) rfl ?_
      exact key 200 0 rfl N1 σ1 hR1 ((xRep_ok (P := pAnd) hb).symm.trans hRES)
    · replace h5 := Decidable.not_not.mp h5
      exact absurd h5 one_ne

theorem rX_either {l : Launch} {g : WGp} (hg : GOK g) {sh : WSh} {N0 : WNm} {R Z Y S : Nat} (RS : RSh sh R Z Y S) {o : Nat → Nat} (hX : HX g o) {n : Nat} (hL : N0 Z 1 = nI n) (hn : n ≤ 200) {op d : Nat} {B : XF} (hB : RDO l g sh N0 R S n yX2_readBoth cX2_readBoth 3 op d B) (hd : 7 ≤ d) : RDO l g sh N0 R S n yX2_readEither cX2_readEither 3 op (d + 1) (xRep (N0 Y) n pOr B) := by
  intro N σ hR
  refine ent hg (by decide +kernel) (Nat.le_of_ble_eq_true rfl) ?_
  intro p e s m args below meth c C hname
  generalize hRES : (xRep (N0 Y) n pOr B) σ = RES
  have key : ∀ (f k : Nat), k + f = 200 → ∀ (N1 : WNm) (σ1 : XS), RD N1 N0 R S n σ1 → xLoop (N0 Y) n pOr B f σ1 = RES → J p l e (RM (d + 1) 0 0) s m args below meth c (MQ below (QI g (fun r sh1 N1 => sh1 = sh ∧ r = bI RES.1 ∧ RD N1 N0 R S n RES.2)) args s 0 0 g.A) g 3 sh N1 0 0 12 [some (.ref (sh.2.2 R)), some (.int (nI op)), some (.int (nI k))] [] := by
    intro f
    induction f with
    | zero =>
      intro k hk N1 σ1 hR1 hRES
      obtain rfl : k = 200 := by omega
      refine j_iload_n C dX2_readEither_12 rfl ?_
      refine j_sipush C dX2_readEither_13 (v := 200) (by decide) ?_
      refine j_icmp_ge (tgt := 56) C dX2_readEither_16 (by decide) (fun h16 => ?_) (fun h16 => ?_)
      · skip
        refine j_iconst C dX2_readEither_56 (v := 1) (by decide) ?_
        exact j_iret C dX2_readEither_57 rfl ⟨rfl, by rw [← hRES]; rfl, by rw [← hRES]; exact hR1⟩
      · skip
        exact absurd (by decide) h16
    | succ f ih =>
      intro k hk N1 σ1 hR1 hRES
      refine j_iload_n C dX2_readEither_12 rfl ?_
      refine j_sipush C dX2_readEither_13 (v := 200) (by decide) ?_
      refine j_icmp_ge (tgt := 56) C dX2_readEither_16 (by decide) (fun h16 => ?_) (fun h16 => ?_)
      · skip
        rw [show (200 : Int32) = nI 200 from rfl, n_nle (by omega) (by omega)] at h16
        omega
      · skip
        rw [show (200 : Int32) = nI 200 from rfl, n_nle (by omega) (by omega)] at h16
        refine j_aload_n C dX2_readEither_19 rfl ?_
        refine j_getI C fl_X2_36 dX2_readEither_20 (RS.r) rfl ?_
        rw [hR1.1]
        refine j_sipush C dX2_readEither_23 (v := 261) (by decide) ?_
        refine j_icmp_ne (tgt := 56) C dX2_readEither_26 (by decide) (fun h26 => ?_) (fun h26 => ?_)
        · skip
          have hr2 := (xLoop_no (P := pOr) (f := f) h26).symm.trans hRES
          refine j_iconst C dX2_readEither_56 (v := 1) (by decide) ?_
          exact j_iret C dX2_readEither_57 rfl ⟨rfl, by rw [← hr2]; rfl, by rw [← hr2]; exact hR1⟩
        · replace h26 := Decidable.not_not.mp h26
          refine j_aload_n C dX2_readEither_29 rfl ?_
          refine j_callV0V C ml_X2_29 dX2_readEither_30 (cX_nextToken hg RS hX (N := N1) (n := n) (i0 := σ1.2.2.1) (by rw [hR1.2.2.2.2.2.2.2.2.1 Z RS.rz RS.zs]; exact hL) hn hR1.2.2.1 hR1.2.2.2.2.2.2.2.1) ⟨by rw [RS.r]; decide, by rw [RS.r]; rfl⟩ (rmle (by omega) (by decide)) (Nat.le_of_ble_eq_true rfl) ⟨rfl, rfl⟩ ⟨Nat.zero_le _, Nat.zero_le _⟩ ?_
          have hR2 := hR1.nx RS
          obtain ⟨N2, eN2⟩ : ∃ N2, N2 = xAdv N1 R Y n σ1.2.2.1 := ⟨_, rfl⟩
          rw [← eN2] at hR2
          rw [← eN2]
          clear eN2
          refine j_aload_n C dX2_readEither_33 rfl ?_
          refine j_iload_n C dX2_readEither_34 rfl ?_
          refine j_callV1Ig C ml_X2_48 dX2_readEither_35 (hB N2 (xNx (N0 Y) n σ1) hR2) ⟨by rw [RS.r]; decide, by rw [RS.r]; rfl⟩ (rmle (by omega) (by decide)) (Nat.le_of_ble_eq_true rfl) ⟨rfl, rfl⟩ ⟨Nat.zero_le _, Nat.zero_le _⟩ (fun r sh1 N3 hq => ?_)
          obtain ⟨e1, e2, hR3⟩ := hq
          replace e1 := e1.symm
          subst e1
          subst e2
          rcases hb : B (xNx (N0 Y) n σ1) with ⟨b, σ2⟩
          rw [hb] at hR3
          replace hR3 : RD N3 N0 R S n σ2 := hR3
          rcases b with _ | _
          · skip
            refine j_if_ne (tgt := 43) C dX2_readEither_38 (by decide) (fun h38 => ?_) (fun h38 => ?_)
            · skip
              exact absurd rfl h38
            · replace h38 := Decidable.not_not.mp h38
              refine j_iconst C dX2_readEither_41 (v := 0) (by decide) ?_
              have hr2 := (xLoop_bad (P := pOr) h26 hb).symm.trans hRES
              exact j_iret C dX2_readEither_42 rfl ⟨rfl, by rw [← hr2]; rfl, by rw [← hr2]; exact hR3⟩
          · skip
            refine j_if_ne (tgt := 43) C dX2_readEither_38 (by decide) (fun h38 => ?_) (fun h38 => ?_)
            · skip
              refine j_aload_n C dX2_readEither_43 rfl ?_
              refine j_sipush C dX2_readEither_44 (v := (-261)) (by decide) ?_
              refine j_callV1V C ml_X2_51 dX2_readEither_47 (cX_putG hg RS (N := N3) (t := σ2.2.2.2.2.length) hR3.2.2.2.2.1 hR3.2.2.2.2.2.2.1 (-261)) ⟨by rw [RS.r]; decide, by rw [RS.r]; rfl⟩ (rmle (by omega) (by decide)) (Nat.le_of_ble_eq_true rfl) ⟨rfl, rfl⟩ ⟨Nat.zero_le _, Nat.zero_le _⟩ ?_
              have hR4 := hR3.pu RS (-261)
              obtain ⟨N4, eN4⟩ : ∃ N4, N4 = xPutG N3 R S σ2.2.2.2.2.length (-261) := ⟨_, rfl⟩
              rw [← eN4] at hR4
              rw [← eN4]
              clear eN4
              refine j_iincN C dX2_readEither_50 rfl (by decide) rfl ?_
              refine j_goto (tgt := 12) C dX2_readEither_53 (by decide) ?_
              rw [show (-261 : Int32) = -σ1.1 by rw [h26]] at hR4
              exact ih (k + 1) (by omega) _ _ hR4 ((xLoop_ok (P := pOr) h26 hb).symm.trans hRES)
            · replace h38 := Decidable.not_not.mp h38
              exact absurd h38 one_ne
  refine j_aload_n C dX2_readEither_0 rfl ?_
  refine j_iload_n C dX2_readEither_1 rfl ?_
  refine j_callV1Ig C ml_X2_48 dX2_readEither_2 (hB N σ hR) ⟨by rw [RS.r]; decide, by rw [RS.r]; rfl⟩ (rmle (by omega) (by decide)) (Nat.le_of_ble_eq_true rfl) ⟨rfl, rfl⟩ ⟨Nat.zero_le _, Nat.zero_le _⟩ (fun r sh1 N1 hq => ?_)
  obtain ⟨e1, e2, hR1⟩ := hq
  replace e1 := e1.symm
  subst e1
  subst e2
  rcases hb : B σ with ⟨b, σ1⟩
  rw [hb] at hR1
  replace hR1 : RD N1 N0 R S n σ1 := hR1
  rcases b with _ | _
  · skip
    refine j_if_ne (tgt := 10) C dX2_readEither_5 (by decide) (fun h5 => ?_) (fun h5 => ?_)
    · skip
      exact absurd rfl h5
    · replace h5 := Decidable.not_not.mp h5
      refine j_iconst C dX2_readEither_8 (v := 0) (by decide) ?_
      have hr2 := (xRep_bad (P := pOr) hb).symm.trans hRES
      exact j_iret C dX2_readEither_9 rfl ⟨rfl, by rw [← hr2]; rfl, by rw [← hr2]; exact hR1⟩
  · skip
    refine j_if_ne (tgt := 10) C dX2_readEither_5 (by decide) (fun h5 => ?_) (fun h5 => ?_)
    · skip
      refine j_iconst C dX2_readEither_10 (v := 0) (by decide) ?_
      refine j_istore_n C dX2_readEither_11 (by decide) rfl ?_
      exact key 200 0 rfl N1 σ1 hR1 ((xRep_ok (P := pOr) hb).symm.trans hRES)
    · replace h5 := Decidable.not_not.mp h5
      exact absurd h5 one_ne

theorem rX_comp {l : Launch} {g : WGp} (hg : GOK g) {sh : WSh} {N0 : WNm} {R Z Y S : Nat} (RS : RSh sh R Z Y S) {o : Nat → Nat} (hX : HX g o) {n : Nat} (hL : N0 Z 1 = nI n) (hn : n ≤ 200) {op d : Nat} {F : XF} (hS : RDO l g sh N0 R S n yX2_readSum cX2_readSum 4 op d F) (hd : 7 ≤ d) : RDO l g sh N0 R S n yX2_readCompared cX2_readCompared 3 op (d + 1) (xComp (N0 Y) n F) := by
  intro N σ hR
  refine ent hg (by decide +kernel) (Nat.le_of_ble_eq_true rfl) ?_
  intro p e s m args below meth c C hname
  generalize hRES : (xComp (N0 Y) n F) σ = RES
  unfold xComp at hRES
  try simp only at hRES
  refine j_aload_n C dX2_readCompared_0 rfl ?_
  refine j_iload_n C dX2_readCompared_1 rfl ?_
  refine j_callV1Ig C ml_X2_61 dX2_readCompared_2 (hS N σ hR) ⟨by rw [RS.r]; decide, by rw [RS.r]; rfl⟩ (rmle (by omega) (by decide)) (Nat.le_of_ble_eq_true rfl) ⟨rfl, rfl⟩ ⟨Nat.zero_le _, Nat.zero_le _⟩ (fun r sh1 N1 hq => ?_)
  obtain ⟨e1, e2, hR1⟩ := hq
  replace e1 := e1.symm
  subst e1
  subst e2
  rcases hb : F σ with ⟨b, σ1⟩
  rw [hb] at hR1
  replace hR1 : RD N1 N0 R S n σ1 := hR1
  rcases b with _ | _
  · rw [hb] at hRES
    simp only at hRES
    refine j_if_ne (tgt := 10) C dX2_readCompared_5 (by decide) (fun h5 => ?_) (fun h5 => ?_)
    · skip
      exact absurd rfl h5
    · replace h5 := Decidable.not_not.mp h5
      refine j_iconst C dX2_readCompared_8 (v := 0) (by decide) ?_
      have hr2 := (if_neg (by decide)).symm.trans hRES
      exact j_iret C dX2_readCompared_9 rfl ⟨rfl, by rw [← hr2]; rfl, by rw [← hr2]; exact hR1⟩
  · rw [hb] at hRES
    simp only at hRES
    refine j_if_ne (tgt := 10) C dX2_readCompared_5 (by decide) (fun h5 => ?_) (fun h5 => ?_)
    · skip
      refine j_aload_n C dX2_readCompared_10 rfl ?_
      refine j_getI C fl_X2_36 dX2_readCompared_11 (RS.r) rfl ?_
      rw [hR1.1]
      replace hRES := (if_pos (by first | trivial | rfl)).symm.trans hRES
      refine j_istore_n C dX2_readCompared_14 (by decide) rfl ?_
      refine j_iload_n C dX2_readCompared_15 rfl ?_
      refine j_bipush C dX2_readCompared_16 (v := 60) (by decide) ?_
      refine j_icmp_eq (tgt := 35) C dX2_readCompared_18 (by decide) (fun h18 => ?_) (fun h18 => ?_)
      · skip
        replace hRES := (if_pos (by first | exact Or.inl h18 | exact Or.inr (Or.inl h24) | exact Or.inr (Or.inr h30))).symm.trans hRES
        refine j_aload_n C dX2_readCompared_35 rfl ?_
        refine j_callV0V C ml_X2_29 dX2_readCompared_36 (cX_nextToken hg RS hX (N := N1) (n := n) (i0 := σ1.2.2.1) (by rw [hR1.2.2.2.2.2.2.2.2.1 Z RS.rz RS.zs]; exact hL) hn hR1.2.2.1 hR1.2.2.2.2.2.2.2.1) ⟨by rw [RS.r]; decide, by rw [RS.r]; rfl⟩ (rmle (by omega) (by decide)) (Nat.le_of_ble_eq_true rfl) ⟨rfl, rfl⟩ ⟨Nat.zero_le _, Nat.zero_le _⟩ ?_
        have hR2 := hR1.nx RS
        obtain ⟨N2, eN2⟩ : ∃ N2, N2 = xAdv N1 R Y n σ1.2.2.1 := ⟨_, rfl⟩
        rw [← eN2] at hR2
        rw [← eN2]
        clear eN2
        refine j_aload_n C dX2_readCompared_39 rfl ?_
        refine j_iload_n C dX2_readCompared_40 rfl ?_
        refine j_callV1Ig C ml_X2_61 dX2_readCompared_41 (hS N2 (xNx (N0 Y) n σ1) hR2) ⟨by rw [RS.r]; decide, by rw [RS.r]; rfl⟩ (rmle (by omega) (by decide)) (Nat.le_of_ble_eq_true rfl) ⟨rfl, rfl⟩ ⟨Nat.zero_le _, Nat.zero_le _⟩ (fun r sh1 N3 hq => ?_)
        obtain ⟨e1, e2, hR3⟩ := hq
        replace e1 := e1.symm
        subst e1
        subst e2
        rcases hb2 : F (xNx (N0 Y) n σ1) with ⟨b2, σ2⟩
        rw [hb2] at hR3
        replace hR3 : RD N3 N0 R S n σ2 := hR3
        rcases b2 with _ | _
        · rw [hb2] at hRES
          simp only at hRES
          refine j_if_ne (tgt := 49) C dX2_readCompared_44 (by decide) (fun h44 => ?_) (fun h44 => ?_)
          · skip
            exact absurd rfl h44
          · replace h44 := Decidable.not_not.mp h44
            refine j_iconst C dX2_readCompared_47 (v := 0) (by decide) ?_
            have hr2 := (if_neg (by decide)).symm.trans hRES
            exact j_iret C dX2_readCompared_48 rfl ⟨rfl, by rw [← hr2]; rfl, by rw [← hr2]; exact hR3⟩
        · rw [hb2] at hRES
          simp only at hRES
          refine j_if_ne (tgt := 49) C dX2_readCompared_44 (by decide) (fun h44 => ?_) (fun h44 => ?_)
          · skip
            refine j_aload_n C dX2_readCompared_49 rfl ?_
            refine j_iload_n C dX2_readCompared_50 rfl ?_
            refine j_ineg C dX2_readCompared_51 ?_
            refine j_callV1V C ml_X2_51 dX2_readCompared_52 (cX_putG hg RS (N := N3) (t := σ2.2.2.2.2.length) hR3.2.2.2.2.1 hR3.2.2.2.2.2.2.1 (-σ1.1)) ⟨by rw [RS.r]; decide, by rw [RS.r]; rfl⟩ (rmle (by omega) (by decide)) (Nat.le_of_ble_eq_true rfl) ⟨rfl, rfl⟩ ⟨Nat.zero_le _, Nat.zero_le _⟩ ?_
            have hR4 := hR3.pu RS (-σ1.1)
            obtain ⟨N4, eN4⟩ : ∃ N4, N4 = xPutG N3 R S σ2.2.2.2.2.length (-σ1.1) := ⟨_, rfl⟩
            rw [← eN4] at hR4
            rw [← eN4]
            clear eN4
            refine j_iconst C dX2_readCompared_55 (v := 1) (by decide) ?_
            have hr2 := (if_pos (by first | trivial | rfl)).symm.trans hRES
            exact j_iret C dX2_readCompared_56 rfl ⟨rfl, by rw [← hr2]; rfl, by rw [← hr2]; exact hR4⟩
          · replace h44 := Decidable.not_not.mp h44
            exact absurd h44 one_ne
      · skip
        refine j_iload_n C dX2_readCompared_21 rfl ?_
        refine j_bipush C dX2_readCompared_22 (v := 61) (by decide) ?_
        refine j_icmp_eq (tgt := 35) C dX2_readCompared_24 (by decide) (fun h24 => ?_) (fun h24 => ?_)
        · skip
          replace hRES := (if_pos (by first | exact Or.inl h18 | exact Or.inr (Or.inl h24) | exact Or.inr (Or.inr h30))).symm.trans hRES
          refine j_aload_n C dX2_readCompared_35 rfl ?_
          refine j_callV0V C ml_X2_29 dX2_readCompared_36 (cX_nextToken hg RS hX (N := N1) (n := n) (i0 := σ1.2.2.1) (by rw [hR1.2.2.2.2.2.2.2.2.1 Z RS.rz RS.zs]; exact hL) hn hR1.2.2.1 hR1.2.2.2.2.2.2.2.1) ⟨by rw [RS.r]; decide, by rw [RS.r]; rfl⟩ (rmle (by omega) (by decide)) (Nat.le_of_ble_eq_true rfl) ⟨rfl, rfl⟩ ⟨Nat.zero_le _, Nat.zero_le _⟩ ?_
          have hR2 := hR1.nx RS
          obtain ⟨N2, eN2⟩ : ∃ N2, N2 = xAdv N1 R Y n σ1.2.2.1 := ⟨_, rfl⟩
          rw [← eN2] at hR2
          rw [← eN2]
          clear eN2
          refine j_aload_n C dX2_readCompared_39 rfl ?_
          refine j_iload_n C dX2_readCompared_40 rfl ?_
          refine j_callV1Ig C ml_X2_61 dX2_readCompared_41 (hS N2 (xNx (N0 Y) n σ1) hR2) ⟨by rw [RS.r]; decide, by rw [RS.r]; rfl⟩ (rmle (by omega) (by decide)) (Nat.le_of_ble_eq_true rfl) ⟨rfl, rfl⟩ ⟨Nat.zero_le _, Nat.zero_le _⟩ (fun r sh1 N3 hq => ?_)
          obtain ⟨e1, e2, hR3⟩ := hq
          replace e1 := e1.symm
          subst e1
          subst e2
          rcases hb2 : F (xNx (N0 Y) n σ1) with ⟨b2, σ2⟩
          rw [hb2] at hR3
          replace hR3 : RD N3 N0 R S n σ2 := hR3
          rcases b2 with _ | _
          · rw [hb2] at hRES
            simp only at hRES
            refine j_if_ne (tgt := 49) C dX2_readCompared_44 (by decide) (fun h44 => ?_) (fun h44 => ?_)
            · skip
              exact absurd rfl h44
            · replace h44 := Decidable.not_not.mp h44
              refine j_iconst C dX2_readCompared_47 (v := 0) (by decide) ?_
              have hr2 := (if_neg (by decide)).symm.trans hRES
              exact j_iret C dX2_readCompared_48 rfl ⟨rfl, by rw [← hr2]; rfl, by rw [← hr2]; exact hR3⟩
          · rw [hb2] at hRES
            simp only at hRES
            refine j_if_ne (tgt := 49) C dX2_readCompared_44 (by decide) (fun h44 => ?_) (fun h44 => ?_)
            · skip
              refine j_aload_n C dX2_readCompared_49 rfl ?_
              refine j_iload_n C dX2_readCompared_50 rfl ?_
              refine j_ineg C dX2_readCompared_51 ?_
              refine j_callV1V C ml_X2_51 dX2_readCompared_52 (cX_putG hg RS (N := N3) (t := σ2.2.2.2.2.length) hR3.2.2.2.2.1 hR3.2.2.2.2.2.2.1 (-σ1.1)) ⟨by rw [RS.r]; decide, by rw [RS.r]; rfl⟩ (rmle (by omega) (by decide)) (Nat.le_of_ble_eq_true rfl) ⟨rfl, rfl⟩ ⟨Nat.zero_le _, Nat.zero_le _⟩ ?_
              have hR4 := hR3.pu RS (-σ1.1)
              obtain ⟨N4, eN4⟩ : ∃ N4, N4 = xPutG N3 R S σ2.2.2.2.2.length (-σ1.1) := ⟨_, rfl⟩
              rw [← eN4] at hR4
              rw [← eN4]
              clear eN4
              refine j_iconst C dX2_readCompared_55 (v := 1) (by decide) ?_
              have hr2 := (if_pos (by first | trivial | rfl)).symm.trans hRES
              exact j_iret C dX2_readCompared_56 rfl ⟨rfl, by rw [← hr2]; rfl, by rw [← hr2]; exact hR4⟩
            · replace h44 := Decidable.not_not.mp h44
              exact absurd h44 one_ne
        · skip
          refine j_iload_n C dX2_readCompared_27 rfl ?_
          refine j_bipush C dX2_readCompared_28 (v := 62) (by decide) ?_
          refine j_icmp_eq (tgt := 35) C dX2_readCompared_30 (by decide) (fun h30 => ?_) (fun h30 => ?_)
          · skip
            replace hRES := (if_pos (by first | exact Or.inl h18 | exact Or.inr (Or.inl h24) | exact Or.inr (Or.inr h30))).symm.trans hRES
            refine j_aload_n C dX2_readCompared_35 rfl ?_
            refine j_callV0V C ml_X2_29 dX2_readCompared_36 (cX_nextToken hg RS hX (N := N1) (n := n) (i0 := σ1.2.2.1) (by rw [hR1.2.2.2.2.2.2.2.2.1 Z RS.rz RS.zs]; exact hL) hn hR1.2.2.1 hR1.2.2.2.2.2.2.2.1) ⟨by rw [RS.r]; decide, by rw [RS.r]; rfl⟩ (rmle (by omega) (by decide)) (Nat.le_of_ble_eq_true rfl) ⟨rfl, rfl⟩ ⟨Nat.zero_le _, Nat.zero_le _⟩ ?_
            have hR2 := hR1.nx RS
            obtain ⟨N2, eN2⟩ : ∃ N2, N2 = xAdv N1 R Y n σ1.2.2.1 := ⟨_, rfl⟩
            rw [← eN2] at hR2
            rw [← eN2]
            clear eN2
            refine j_aload_n C dX2_readCompared_39 rfl ?_
            refine j_iload_n C dX2_readCompared_40 rfl ?_
            refine j_callV1Ig C ml_X2_61 dX2_readCompared_41 (hS N2 (xNx (N0 Y) n σ1) hR2) ⟨by rw [RS.r]; decide, by rw [RS.r]; rfl⟩ (rmle (by omega) (by decide)) (Nat.le_of_ble_eq_true rfl) ⟨rfl, rfl⟩ ⟨Nat.zero_le _, Nat.zero_le _⟩ (fun r sh1 N3 hq => ?_)
            obtain ⟨e1, e2, hR3⟩ := hq
            replace e1 := e1.symm
            subst e1
            subst e2
            rcases hb2 : F (xNx (N0 Y) n σ1) with ⟨b2, σ2⟩
            rw [hb2] at hR3
            replace hR3 : RD N3 N0 R S n σ2 := hR3
            rcases b2 with _ | _
            · rw [hb2] at hRES
              simp only at hRES
              refine j_if_ne (tgt := 49) C dX2_readCompared_44 (by decide) (fun h44 => ?_) (fun h44 => ?_)
              · skip
                exact absurd rfl h44
              · replace h44 := Decidable.not_not.mp h44
                refine j_iconst C dX2_readCompared_47 (v := 0) (by decide) ?_
                have hr2 := (if_neg (by decide)).symm.trans hRES
                exact j_iret C dX2_readCompared_48 rfl ⟨rfl, by rw [← hr2]; rfl, by rw [← hr2]; exact hR3⟩
            · rw [hb2] at hRES
              simp only at hRES
              refine j_if_ne (tgt := 49) C dX2_readCompared_44 (by decide) (fun h44 => ?_) (fun h44 => ?_)
              · skip
                refine j_aload_n C dX2_readCompared_49 rfl ?_
                refine j_iload_n C dX2_readCompared_50 rfl ?_
                refine j_ineg C dX2_readCompared_51 ?_
                refine j_callV1V C ml_X2_51 dX2_readCompared_52 (cX_putG hg RS (N := N3) (t := σ2.2.2.2.2.length) hR3.2.2.2.2.1 hR3.2.2.2.2.2.2.1 (-σ1.1)) ⟨by rw [RS.r]; decide, by rw [RS.r]; rfl⟩ (rmle (by omega) (by decide)) (Nat.le_of_ble_eq_true rfl) ⟨rfl, rfl⟩ ⟨Nat.zero_le _, Nat.zero_le _⟩ ?_
                have hR4 := hR3.pu RS (-σ1.1)
                obtain ⟨N4, eN4⟩ : ∃ N4, N4 = xPutG N3 R S σ2.2.2.2.2.length (-σ1.1) := ⟨_, rfl⟩
                rw [← eN4] at hR4
                rw [← eN4]
                clear eN4
                refine j_iconst C dX2_readCompared_55 (v := 1) (by decide) ?_
                have hr2 := (if_pos (by first | trivial | rfl)).symm.trans hRES
                exact j_iret C dX2_readCompared_56 rfl ⟨rfl, by rw [← hr2]; rfl, by rw [← hr2]; exact hR4⟩
              · replace h44 := Decidable.not_not.mp h44
                exact absurd h44 one_ne
          · skip
            replace hRES := (if_neg (fun z => z.elim h18 (fun z => z.elim h24 h30))).symm.trans hRES
            refine j_iconst C dX2_readCompared_33 (v := 1) (by decide) ?_
            have hr2 := hRES
            exact j_iret C dX2_readCompared_34 rfl ⟨rfl, by rw [← hr2]; rfl, by rw [← hr2]; exact hR1⟩
    · replace h5 := Decidable.not_not.mp h5
      exact absurd h5 one_ne

theorem rX_den0 {l : Launch} {g : WGp} (hg : GOK g) {sh : WSh} {N0 : WNm} {R Z Y S : Nat} (RS : RSh sh R Z Y S) {o : Nat → Nat} (hX : HX g o) {n : Nat} (hL : N0 Z 1 = nI n) (hn : n ≤ 200) {d : Nat} {K D : XF} (hK : RDO l g sh N0 R S n yX2_readCompared cX2_readCompared 3 12 d K) (hd : 7 ≤ d) : RDO l g sh N0 R S n yX2_readDenied cX2_readDenied 2 12 (d + 1) (xDen (N0 Y) n 0 K D) := by
  intro N σ hR
  refine ent hg (by decide +kernel) (Nat.le_of_ble_eq_true rfl) ?_
  intro p e s m args below meth c C hname
  generalize hRES : (xDen (N0 Y) n 0 K D) σ = RES
  unfold xDen at hRES
  try simp only at hRES
  refine j_aload_n C dX2_readDenied_0 rfl ?_
  refine j_getI C fl_X2_36 dX2_readDenied_1 (RS.r) rfl ?_
  rw [hR.1]
  refine j_sipush C dX2_readDenied_4 (v := 262) (by decide) ?_
  refine j_icmp_eq (tgt := 16) C dX2_readDenied_7 (by decide) (fun h7 => ?_) (fun h7 => ?_)
  · skip
    replace hRES := (if_pos h7).symm.trans hRES
    refine j_iload_n C dX2_readDenied_16 rfl ?_
    refine j_bipush C dX2_readDenied_17 (v := 12) (by decide) ?_
    refine j_icmp_lt (tgt := 24) C dX2_readDenied_19 (by decide) (fun h19 => ?_) (fun h19 => ?_)
    · skip
      exact absurd h19 (by decide)
    · skip
      refine j_iconst C dX2_readDenied_22 (v := 0) (by decide) ?_
      have hr2 := (if_pos (by first | trivial | rfl)).symm.trans hRES
      exact j_iret C dX2_readDenied_23 rfl ⟨rfl, by rw [← hr2]; rfl, by rw [← hr2]; exact hR⟩
  · skip
    replace hRES := (if_neg h7).symm.trans hRES
    refine j_aload_n C dX2_readDenied_10 rfl ?_
    refine j_iload_n C dX2_readDenied_11 rfl ?_
    refine j_callV1Ig C ml_X2_58 dX2_readDenied_12 (hK N σ hR) ⟨by rw [RS.r]; decide, by rw [RS.r]; rfl⟩ (rmle (by omega) (by decide)) (Nat.le_of_ble_eq_true rfl) ⟨rfl, rfl⟩ ⟨Nat.zero_le _, Nat.zero_le _⟩ (fun r sh1 N1 hq => ?_)
    obtain ⟨e1, e2, hR1⟩ := hq
    replace e1 := e1.symm
    subst e1
    subst e2
    rcases hb : K σ with ⟨b, σ1⟩
    rw [hb] at hR1
    replace hR1 : RD N1 N0 R S n σ1 := hR1
    rw [hb] at hRES
    subst hRES
    exact j_iret C dX2_readDenied_15 (nar_bI b) ⟨rfl, rfl, hR1⟩

theorem rX_den {l : Launch} {g : WGp} (hg : GOK g) {sh : WSh} {N0 : WNm} {R Z Y S : Nat} (RS : RSh sh R Z Y S) {o : Nat → Nat} (hX : HX g o) {n : Nat} (hL : N0 Z 1 = nI n) (hn : n ≤ 200) {op d d2 dd : Nat} {K D : XF} (hK : RDO l g sh N0 R S n yX2_readCompared cX2_readCompared 3 op d K) (hD : RDO l g sh N0 R S n yX2_readDenied cX2_readDenied 2 (op + 1) d2 D) (h2 : d2 ≤ d) (hd : 7 ≤ d) (hop : op < 12) : RDO l g sh N0 R S n yX2_readDenied cX2_readDenied 2 op (d + 1) (xDen (N0 Y) n (dd + 1) K D) := by
  intro N σ hR
  refine ent hg (by decide +kernel) (Nat.le_of_ble_eq_true rfl) ?_
  intro p e s m args below meth c C hname
  generalize hRES : (xDen (N0 Y) n (dd + 1) K D) σ = RES
  unfold xDen at hRES
  try simp only at hRES
  refine j_aload_n C dX2_readDenied_0 rfl ?_
  refine j_getI C fl_X2_36 dX2_readDenied_1 (RS.r) rfl ?_
  rw [hR.1]
  refine j_sipush C dX2_readDenied_4 (v := 262) (by decide) ?_
  refine j_icmp_eq (tgt := 16) C dX2_readDenied_7 (by decide) (fun h7 => ?_) (fun h7 => ?_)
  · skip
    replace hRES := (if_pos h7).symm.trans hRES
    refine j_iload_n C dX2_readDenied_16 rfl ?_
    refine j_bipush C dX2_readDenied_17 (v := 12) (by decide) ?_
    refine j_icmp_lt (tgt := 24) C dX2_readDenied_19 (by decide) (fun h19 => ?_) (fun h19 => ?_)
    · skip
      replace hRES := (if_neg (Nat.succ_ne_zero dd)).symm.trans hRES
      refine j_aload_n C dX2_readDenied_24 rfl ?_
      refine j_callV0V C ml_X2_29 dX2_readDenied_25 (cX_nextToken hg RS hX (N := N) (n := n) (i0 := σ.2.2.1) (by rw [hR.2.2.2.2.2.2.2.2.1 Z RS.rz RS.zs]; exact hL) hn hR.2.2.1 hR.2.2.2.2.2.2.2.1) ⟨by rw [RS.r]; decide, by rw [RS.r]; rfl⟩ (rmle (by omega) (by decide)) (Nat.le_of_ble_eq_true rfl) ⟨rfl, rfl⟩ ⟨Nat.zero_le _, Nat.zero_le _⟩ ?_
      have hR2 := hR.nx RS
      obtain ⟨N2, eN2⟩ : ∃ N2, N2 = xAdv N R Y n σ.2.2.1 := ⟨_, rfl⟩
      rw [← eN2] at hR2
      rw [← eN2]
      clear eN2
      refine j_aload_n C dX2_readDenied_28 rfl ?_
      refine j_iload_n C dX2_readDenied_29 rfl ?_
      refine j_iconst C dX2_readDenied_30 (v := 1) (by decide) ?_
      refine j_iadd C dX2_readDenied_31 ?_
      rw [nI_1]
      refine j_callV1Ig C ml_X2_55 dX2_readDenied_32 (hD N2 (xNx (N0 Y) n σ) hR2) ⟨by rw [RS.r]; decide, by rw [RS.r]; rfl⟩ (rmle (by omega) (by decide)) (Nat.le_of_ble_eq_true rfl) ⟨rfl, rfl⟩ ⟨Nat.zero_le _, Nat.zero_le _⟩ (fun r sh1 N1 hq => ?_)
      obtain ⟨e1, e2, hR1⟩ := hq
      replace e1 := e1.symm
      subst e1
      subst e2
      rcases hb : D (xNx (N0 Y) n σ) with ⟨b, σ1⟩
      rw [hb] at hR1
      replace hR1 : RD N1 N0 R S n σ1 := hR1
      rcases b with _ | _
      · rw [hb] at hRES
        simp only at hRES
        refine j_if_ne (tgt := 40) C dX2_readDenied_35 (by decide) (fun h35 => ?_) (fun h35 => ?_)
        · skip
          exact absurd rfl h35
        · replace h35 := Decidable.not_not.mp h35
          refine j_iconst C dX2_readDenied_38 (v := 0) (by decide) ?_
          have hr2 := (if_neg (by decide)).symm.trans hRES
          exact j_iret C dX2_readDenied_39 rfl ⟨rfl, by rw [← hr2]; rfl, by rw [← hr2]; exact hR1⟩
      · rw [hb] at hRES
        simp only at hRES
        refine j_if_ne (tgt := 40) C dX2_readDenied_35 (by decide) (fun h35 => ?_) (fun h35 => ?_)
        · skip
          refine j_aload_n C dX2_readDenied_40 rfl ?_
          refine j_sipush C dX2_readDenied_41 (v := (-262)) (by decide) ?_
          refine j_callV1V C ml_X2_51 dX2_readDenied_44 (cX_putG hg RS (N := N1) (t := σ1.2.2.2.2.length) hR1.2.2.2.2.1 hR1.2.2.2.2.2.2.1 (-262)) ⟨by rw [RS.r]; decide, by rw [RS.r]; rfl⟩ (rmle (by omega) (by decide)) (Nat.le_of_ble_eq_true rfl) ⟨rfl, rfl⟩ ⟨Nat.zero_le _, Nat.zero_le _⟩ ?_
          have hR4 := hR1.pu RS (-262)
          obtain ⟨N4, eN4⟩ : ∃ N4, N4 = xPutG N1 R S σ1.2.2.2.2.length (-262) := ⟨_, rfl⟩
          rw [← eN4] at hR4
          rw [← eN4]
          clear eN4
          refine j_iconst C dX2_readDenied_47 (v := 1) (by decide) ?_
          have hr2 := (if_pos (by first | trivial | rfl)).symm.trans hRES
          exact j_iret C dX2_readDenied_48 rfl ⟨rfl, by rw [← hr2]; rfl, by rw [← hr2]; exact hR4⟩
        · replace h35 := Decidable.not_not.mp h35
          exact absurd h35 one_ne
    · skip
      exact absurd (show nI op < 12 by rw [show (12 : Int32) = nI 12 from rfl, n_nlt (by omega) (by omega)]; exact hop) h19
  · skip
    replace hRES := (if_neg h7).symm.trans hRES
    refine j_aload_n C dX2_readDenied_10 rfl ?_
    refine j_iload_n C dX2_readDenied_11 rfl ?_
    refine j_callV1Ig C ml_X2_58 dX2_readDenied_12 (hK N σ hR) ⟨by rw [RS.r]; decide, by rw [RS.r]; rfl⟩ (rmle (by omega) (by decide)) (Nat.le_of_ble_eq_true rfl) ⟨rfl, rfl⟩ ⟨Nat.zero_le _, Nat.zero_le _⟩ (fun r sh1 N1 hq => ?_)
    obtain ⟨e1, e2, hR1⟩ := hq
    replace e1 := e1.symm
    subst e1
    subst e2
    rcases hb : K σ with ⟨b, σ1⟩
    rw [hb] at hR1
    replace hR1 : RD N1 N0 R S n σ1 := hR1
    rw [hb] at hRES
    subst hRES
    exact j_iret C dX2_readDenied_15 (nar_bI b) ⟨rfl, rfl, hR1⟩

theorem rX_br {l : Launch} {g : WGp} (hg : GOK g) {sh : WSh} {N0 : WNm} {R Z Y S : Nat} (RS : RSh sh R Z Y S) {o : Nat → Nat} (hX : HX g o) {n : Nat} (hL : N0 Z 1 = nI n) (hn : n ≤ 200) {op d : Nat} {E : XF} (hE : RDO l g sh N0 R S n yX2_readEither cX2_readEither 3 op d E) (hd : 7 ≤ d) : RDO l g sh N0 R S n yX2_readBracket cX2_readBracket 2 op (d + 1) (xBr (N0 Y) n E) := by
  intro N σ hR
  refine ent hg (by decide +kernel) (Nat.le_of_ble_eq_true rfl) ?_
  intro p e s m args below meth c C hname
  generalize hRES : (xBr (N0 Y) n E) σ = RES
  unfold xBr at hRES
  try simp only at hRES
  refine j_aload_n C dX2_readBracket_0 rfl ?_
  refine j_iload_n C dX2_readBracket_1 rfl ?_
  refine j_callV1Ig C ml_X2_32 dX2_readBracket_2 (hE N σ hR) ⟨by rw [RS.r]; decide, by rw [RS.r]; rfl⟩ (rmle (by omega) (by decide)) (Nat.le_of_ble_eq_true rfl) ⟨rfl, rfl⟩ ⟨Nat.zero_le _, Nat.zero_le _⟩ (fun r sh1 N1 hq => ?_)
  obtain ⟨e1, e2, hR1⟩ := hq
  replace e1 := e1.symm
  subst e1
  subst e2
  rcases hb : E σ with ⟨b, σ1⟩
  rw [hb] at hR1
  replace hR1 : RD N1 N0 R S n σ1 := hR1
  rcases b with _ | _
  · rw [hb] at hRES
    simp only at hRES
    replace hRES := (if_neg (by decide)).symm.trans hRES
    refine j_if_eq (tgt := 17) C dX2_readBracket_5 (by decide) (fun h5 => ?_) (fun h5 => ?_)
    · skip
      refine j_iconst C dX2_readBracket_17 (v := 0) (by decide) ?_
      first | exact j_iret C dX2_readBracket_18 rfl ⟨rfl, by rw [← hRES]; rfl, by rw [← hRES]; exact hR1⟩ | (have hr2 := (if_neg h14).symm.trans hRES; exact j_iret C dX2_readBracket_18 rfl ⟨rfl, by rw [← hr2]; rfl, by rw [← hr2]; exact hR1⟩)
    · skip
      exact absurd rfl h5
  · rw [hb] at hRES
    simp only at hRES
    replace hRES := (if_pos (by first | trivial | rfl)).symm.trans hRES
    refine j_if_eq (tgt := 17) C dX2_readBracket_5 (by decide) (fun h5 => ?_) (fun h5 => ?_)
    · skip
      exact absurd h5 one_ne
    · skip
      refine j_aload_n C dX2_readBracket_8 rfl ?_
      refine j_getI C fl_X2_36 dX2_readBracket_9 (RS.r) rfl ?_
      rw [hR1.1]
      refine j_bipush C dX2_readBracket_12 (v := 41) (by decide) ?_
      refine j_icmp_eq (tgt := 19) C dX2_readBracket_14 (by decide) (fun h14 => ?_) (fun h14 => ?_)
      · skip
        replace hRES := (if_pos h14).symm.trans hRES
        refine j_aload_n C dX2_readBracket_19 rfl ?_
        refine j_callV0V C ml_X2_29 dX2_readBracket_20 (cX_nextToken hg RS hX (N := N1) (n := n) (i0 := σ1.2.2.1) (by rw [hR1.2.2.2.2.2.2.2.2.1 Z RS.rz RS.zs]; exact hL) hn hR1.2.2.1 hR1.2.2.2.2.2.2.2.1) ⟨by rw [RS.r]; decide, by rw [RS.r]; rfl⟩ (rmle (by omega) (by decide)) (Nat.le_of_ble_eq_true rfl) ⟨rfl, rfl⟩ ⟨Nat.zero_le _, Nat.zero_le _⟩ ?_
        have hR2 := hR1.nx RS
        obtain ⟨N2, eN2⟩ : ∃ N2, N2 = xAdv N1 R Y n σ1.2.2.1 := ⟨_, rfl⟩
        rw [← eN2] at hR2
        rw [← eN2]
        clear eN2
        refine j_iconst C dX2_readBracket_23 (v := 1) (by decide) ?_
        have hr2 := hRES
        exact j_iret C dX2_readBracket_24 rfl ⟨rfl, by rw [← hr2]; rfl, by rw [← hr2]; exact hR2⟩
      · skip
        refine j_iconst C dX2_readBracket_17 (v := 0) (by decide) ?_
        first | exact j_iret C dX2_readBracket_18 rfl ⟨rfl, by rw [← hRES]; rfl, by rw [← hRES]; exact hR1⟩ | (have hr2 := (if_neg h14).symm.trans hRES; exact j_iret C dX2_readBracket_18 rfl ⟨rfl, by rw [← hr2]; rfl, by rw [← hr2]; exact hR1⟩)

theorem rX_ng {l : Launch} {g : WGp} (hg : GOK g) {sh : WSh} {N0 : WNm} {R Z Y S : Nat} (RS : RSh sh R Z Y S) {o : Nat → Nat} (hX : HX g o) {n : Nat} (hL : N0 Z 1 = nI n) (hn : n ≤ 200) {op d : Nat} {F : XF} (hO : RDO l g sh N0 R S n yX2_readOperand cX2_readOperand 3 op d F) (hd : 7 ≤ d) : RDO l g sh N0 R S n yX2_readNegated cX2_readNegated 2 op (d + 1) (xNg F) := by
  intro N σ hR
  refine ent hg (by decide +kernel) (Nat.le_of_ble_eq_true rfl) ?_
  intro p e s m args below meth c C hname
  generalize hRES : (xNg F) σ = RES
  unfold xNg at hRES
  try simp only at hRES
  refine j_aload_n C dX2_readNegated_0 rfl ?_
  refine j_iload_n C dX2_readNegated_1 rfl ?_
  refine j_callV1Ig C ml_X2_67 dX2_readNegated_2 (hO N σ hR) ⟨by rw [RS.r]; decide, by rw [RS.r]; rfl⟩ (rmle (by omega) (by decide)) (Nat.le_of_ble_eq_true rfl) ⟨rfl, rfl⟩ ⟨Nat.zero_le _, Nat.zero_le _⟩ (fun r sh1 N1 hq => ?_)
  obtain ⟨e1, e2, hR1⟩ := hq
  replace e1 := e1.symm
  subst e1
  subst e2
  rcases hb : F σ with ⟨b, σ1⟩
  rw [hb] at hR1
  replace hR1 : RD N1 N0 R S n σ1 := hR1
  rcases b with _ | _
  · rw [hb] at hRES
    simp only at hRES
    refine j_if_ne (tgt := 10) C dX2_readNegated_5 (by decide) (fun h5 => ?_) (fun h5 => ?_)
    · skip
      exact absurd rfl h5
    · replace h5 := Decidable.not_not.mp h5
      refine j_iconst C dX2_readNegated_8 (v := 0) (by decide) ?_
      have hr2 := (if_neg (by decide)).symm.trans hRES
      exact j_iret C dX2_readNegated_9 rfl ⟨rfl, by rw [← hr2]; rfl, by rw [← hr2]; exact hR1⟩
  · rw [hb] at hRES
    simp only at hRES
    refine j_if_ne (tgt := 10) C dX2_readNegated_5 (by decide) (fun h5 => ?_) (fun h5 => ?_)
    · skip
      refine j_aload_n C dX2_readNegated_10 rfl ?_
      refine j_sipush C dX2_readNegated_11 (v := (-263)) (by decide) ?_
      refine j_callV1V C ml_X2_51 dX2_readNegated_14 (cX_putG hg RS (N := N1) (t := σ1.2.2.2.2.length) hR1.2.2.2.2.1 hR1.2.2.2.2.2.2.1 (-263)) ⟨by rw [RS.r]; decide, by rw [RS.r]; rfl⟩ (rmle (by omega) (by decide)) (Nat.le_of_ble_eq_true rfl) ⟨rfl, rfl⟩ ⟨Nat.zero_le _, Nat.zero_le _⟩ ?_
      have hR2 := hR1.pu RS (-263)
      obtain ⟨N2, eN2⟩ : ∃ N2, N2 = xPutG N1 R S σ1.2.2.2.2.length (-263) := ⟨_, rfl⟩
      rw [← eN2] at hR2
      rw [← eN2]
      clear eN2
      refine j_iconst C dX2_readNegated_17 (v := 1) (by decide) ?_
      have hr2 := (if_pos (by first | trivial | rfl)).symm.trans hRES
      exact j_iret C dX2_readNegated_18 rfl ⟨rfl, by rw [← hr2]; rfl, by rw [← hr2]; exact hR2⟩
    · replace h5 := Decidable.not_not.mp h5
      exact absurd h5 one_ne

theorem rX_op0 {l : Launch} {g : WGp} (hg : GOK g) {sh : WSh} {N0 : WNm} {R Z Y S : Nat} (RS : RSh sh R Z Y S) {o : Nat → Nat} (hX : HX g o) {n : Nat} (hL : N0 Z 1 = nI n) (hn : n ≤ 200) {d : Nat} {E F : XF} (hd : 8 ≤ d) : RDO l g sh N0 R S n yX2_readOperand cX2_readOperand 3 12 (d + 1) (xOpnd (N0 Y) n 0 E F) := by
  intro N σ hR
  refine ent hg (by decide +kernel) (Nat.le_of_ble_eq_true rfl) ?_
  intro p e s m args below meth c C hname
  generalize hRES : (xOpnd (N0 Y) n 0 E F) σ = RES
  unfold xOpnd at hRES
  try simp only at hRES
  refine j_aload_n C dX2_readOperand_0 rfl ?_
  refine j_getI C fl_X2_36 dX2_readOperand_1 (RS.r) rfl ?_
  rw [hR.1]
  refine j_sipush C dX2_readOperand_4 (v := 257) (by decide) ?_
  refine j_icmp_eq (tgt := 20) C dX2_readOperand_7 (by decide) (fun h7 => ?_) (fun h7 => ?_)
  · skip
    replace hRES := (if_pos (by first | exact Or.inl h7 | exact Or.inr h17)).symm.trans hRES
    refine j_aload_n C dX2_readOperand_20 rfl ?_
    refine j_aload_n C dX2_readOperand_21 rfl ?_
    refine j_getI C fl_X2_36 dX2_readOperand_22 (RS.r) rfl ?_
    rw [hR.1]
    refine j_sipush C dX2_readOperand_25 (v := 257) (by decide) ?_
    refine j_icmp_ne (tgt := 38) C dX2_readOperand_28 (by decide) (fun h28 => ?_) (fun h28 => ?_)
    · skip
      refine j_iconst C dX2_readOperand_38 (v := (-1)) (by decide) ?_
      refine j_aload_n C dX2_readOperand_39 rfl ?_
      refine j_getI C fl_X2_70 dX2_readOperand_40 (RS.r) rfl ?_
      rw [hR.2.2.2.1]
      refine j_isub C dX2_readOperand_43 ?_
      obtain ⟨wv, ewv⟩ : ∃ wv, wv = (if σ.1 = 257 then σ.2.2.2.1 else -1 - σ.2.2.2.1) := ⟨_, rfl⟩
      rw [← ewv] at hRES
      first | rw [show σ.2.2.2.1 = wv by rw [ewv, if_pos h28]] | rw [show -1 - σ.2.2.2.1 = wv by rw [ewv, if_neg h28]]
      refine j_callV1V C ml_X2_51 dX2_readOperand_44 (cX_putG hg RS (N := N) (t := σ.2.2.2.2.length) hR.2.2.2.2.1 hR.2.2.2.2.2.2.1 wv) ⟨by rw [RS.r]; decide, by rw [RS.r]; rfl⟩ (rmle (by omega) (by decide)) (Nat.le_of_ble_eq_true rfl) ⟨rfl, rfl⟩ ⟨Nat.zero_le _, Nat.zero_le _⟩ ?_
      have hR1 := hR.pu RS wv
      obtain ⟨N1, eN1⟩ : ∃ N1, N1 = xPutG N R S σ.2.2.2.2.length wv := ⟨_, rfl⟩
      rw [← eN1] at hR1
      rw [← eN1]
      clear eN1
      refine j_aload_n C dX2_readOperand_47 rfl ?_
      refine j_callV0V C ml_X2_29 dX2_readOperand_48 (cX_nextToken hg RS hX (N := N1) (n := n) (i0 := (xPu wv σ).2.2.1) (by rw [hR1.2.2.2.2.2.2.2.2.1 Z RS.rz RS.zs]; exact hL) hn hR1.2.2.1 hR1.2.2.2.2.2.2.2.1) ⟨by rw [RS.r]; decide, by rw [RS.r]; rfl⟩ (rmle (by omega) (by decide)) (Nat.le_of_ble_eq_true rfl) ⟨rfl, rfl⟩ ⟨Nat.zero_le _, Nat.zero_le _⟩ ?_
      have hR2 := hR1.nx RS
      obtain ⟨N2, eN2⟩ : ∃ N2, N2 = xAdv N1 R Y n (xPu wv σ).2.2.1 := ⟨_, rfl⟩
      rw [← eN2] at hR2
      rw [← eN2]
      clear eN2
      refine j_iconst C dX2_readOperand_51 (v := 1) (by decide) ?_
      have hr2 := hRES
      exact j_iret C dX2_readOperand_52 rfl ⟨rfl, by rw [← hr2]; rfl, by rw [← hr2]; exact hR2⟩
    · replace h28 := Decidable.not_not.mp h28
      refine j_aload_n C dX2_readOperand_31 rfl ?_
      refine j_getI C fl_X2_70 dX2_readOperand_32 (RS.r) rfl ?_
      rw [hR.2.2.2.1]
      refine j_goto (tgt := 44) C dX2_readOperand_35 (by decide) ?_
      obtain ⟨wv, ewv⟩ : ∃ wv, wv = (if σ.1 = 257 then σ.2.2.2.1 else -1 - σ.2.2.2.1) := ⟨_, rfl⟩
      rw [← ewv] at hRES
      first | rw [show σ.2.2.2.1 = wv by rw [ewv, if_pos h28]] | rw [show -1 - σ.2.2.2.1 = wv by rw [ewv, if_neg h28]]
      refine j_callV1V C ml_X2_51 dX2_readOperand_44 (cX_putG hg RS (N := N) (t := σ.2.2.2.2.length) hR.2.2.2.2.1 hR.2.2.2.2.2.2.1 wv) ⟨by rw [RS.r]; decide, by rw [RS.r]; rfl⟩ (rmle (by omega) (by decide)) (Nat.le_of_ble_eq_true rfl) ⟨rfl, rfl⟩ ⟨Nat.zero_le _, Nat.zero_le _⟩ ?_
      have hR1 := hR.pu RS wv
      obtain ⟨N1, eN1⟩ : ∃ N1, N1 = xPutG N R S σ.2.2.2.2.length wv := ⟨_, rfl⟩
      rw [← eN1] at hR1
      rw [← eN1]
      clear eN1
      refine j_aload_n C dX2_readOperand_47 rfl ?_
      refine j_callV0V C ml_X2_29 dX2_readOperand_48 (cX_nextToken hg RS hX (N := N1) (n := n) (i0 := (xPu wv σ).2.2.1) (by rw [hR1.2.2.2.2.2.2.2.2.1 Z RS.rz RS.zs]; exact hL) hn hR1.2.2.1 hR1.2.2.2.2.2.2.2.1) ⟨by rw [RS.r]; decide, by rw [RS.r]; rfl⟩ (rmle (by omega) (by decide)) (Nat.le_of_ble_eq_true rfl) ⟨rfl, rfl⟩ ⟨Nat.zero_le _, Nat.zero_le _⟩ ?_
      have hR2 := hR1.nx RS
      obtain ⟨N2, eN2⟩ : ∃ N2, N2 = xAdv N1 R Y n (xPu wv σ).2.2.1 := ⟨_, rfl⟩
      rw [← eN2] at hR2
      rw [← eN2]
      clear eN2
      refine j_iconst C dX2_readOperand_51 (v := 1) (by decide) ?_
      have hr2 := hRES
      exact j_iret C dX2_readOperand_52 rfl ⟨rfl, by rw [← hr2]; rfl, by rw [← hr2]; exact hR2⟩
  · skip
    refine j_aload_n C dX2_readOperand_10 rfl ?_
    refine j_getI C fl_X2_36 dX2_readOperand_11 (RS.r) rfl ?_
    rw [hR.1]
    refine j_sipush C dX2_readOperand_14 (v := 258) (by decide) ?_
    refine j_icmp_ne (tgt := 53) C dX2_readOperand_17 (by decide) (fun h17 => ?_) (fun h17 => ?_)
    · skip
      replace hRES := (if_neg (fun z => z.elim h7 h17)).symm.trans hRES
      refine j_aload_n C dX2_readOperand_53 rfl ?_
      refine j_getI C fl_X2_36 dX2_readOperand_54 (RS.r) rfl ?_
      rw [hR.1]
      refine j_bipush C dX2_readOperand_57 (v := 45) (by decide) ?_
      refine j_icmp_eq (tgt := 71) C dX2_readOperand_59 (by decide) (fun h59 => ?_) (fun h59 => ?_)
      · skip
        refine j_iload_n C dX2_readOperand_71 rfl ?_
        refine j_bipush C dX2_readOperand_72 (v := 12) (by decide) ?_
        refine j_icmp_lt (tgt := 79) C dX2_readOperand_74 (by decide) (fun h74 => ?_) (fun h74 => ?_)
        · skip
          exact absurd h74 (by decide)
        · skip
          refine j_iconst C dX2_readOperand_77 (v := 0) (by decide) ?_
          have hr2 := (if_neg (fun z => z.2 (by first | trivial | rfl))).symm.trans hRES
          exact j_iret C dX2_readOperand_78 rfl ⟨rfl, by rw [← hr2]; rfl, by rw [← hr2]; exact hR⟩
      · skip
        refine j_aload_n C dX2_readOperand_62 rfl ?_
        refine j_getI C fl_X2_36 dX2_readOperand_63 (RS.r) rfl ?_
        rw [hR.1]
        refine j_bipush C dX2_readOperand_66 (v := 40) (by decide) ?_
        refine j_icmp_ne (tgt := 77) C dX2_readOperand_68 (by decide) (fun h68 => ?_) (fun h68 => ?_)
        · skip
          refine j_iconst C dX2_readOperand_77 (v := 0) (by decide) ?_
          have hr2 := (if_neg (fun z => z.2 (by first | trivial | rfl))).symm.trans hRES
          exact j_iret C dX2_readOperand_78 rfl ⟨rfl, by rw [← hr2]; rfl, by rw [← hr2]; exact hR⟩
        · replace h68 := Decidable.not_not.mp h68
          refine j_iload_n C dX2_readOperand_71 rfl ?_
          refine j_bipush C dX2_readOperand_72 (v := 12) (by decide) ?_
          refine j_icmp_lt (tgt := 79) C dX2_readOperand_74 (by decide) (fun h74 => ?_) (fun h74 => ?_)
          · skip
            exact absurd h74 (by decide)
          · skip
            refine j_iconst C dX2_readOperand_77 (v := 0) (by decide) ?_
            have hr2 := (if_neg (fun z => z.2 (by first | trivial | rfl))).symm.trans hRES
            exact j_iret C dX2_readOperand_78 rfl ⟨rfl, by rw [← hr2]; rfl, by rw [← hr2]; exact hR⟩
    · replace h17 := Decidable.not_not.mp h17
      replace hRES := (if_pos (by first | exact Or.inl h7 | exact Or.inr h17)).symm.trans hRES
      refine j_aload_n C dX2_readOperand_20 rfl ?_
      refine j_aload_n C dX2_readOperand_21 rfl ?_
      refine j_getI C fl_X2_36 dX2_readOperand_22 (RS.r) rfl ?_
      rw [hR.1]
      refine j_sipush C dX2_readOperand_25 (v := 257) (by decide) ?_
      refine j_icmp_ne (tgt := 38) C dX2_readOperand_28 (by decide) (fun h28 => ?_) (fun h28 => ?_)
      · skip
        refine j_iconst C dX2_readOperand_38 (v := (-1)) (by decide) ?_
        refine j_aload_n C dX2_readOperand_39 rfl ?_
        refine j_getI C fl_X2_70 dX2_readOperand_40 (RS.r) rfl ?_
        rw [hR.2.2.2.1]
        refine j_isub C dX2_readOperand_43 ?_
        obtain ⟨wv, ewv⟩ : ∃ wv, wv = (if σ.1 = 257 then σ.2.2.2.1 else -1 - σ.2.2.2.1) := ⟨_, rfl⟩
        rw [← ewv] at hRES
        first | rw [show σ.2.2.2.1 = wv by rw [ewv, if_pos h28]] | rw [show -1 - σ.2.2.2.1 = wv by rw [ewv, if_neg h28]]
        refine j_callV1V C ml_X2_51 dX2_readOperand_44 (cX_putG hg RS (N := N) (t := σ.2.2.2.2.length) hR.2.2.2.2.1 hR.2.2.2.2.2.2.1 wv) ⟨by rw [RS.r]; decide, by rw [RS.r]; rfl⟩ (rmle (by omega) (by decide)) (Nat.le_of_ble_eq_true rfl) ⟨rfl, rfl⟩ ⟨Nat.zero_le _, Nat.zero_le _⟩ ?_
        have hR1 := hR.pu RS wv
        obtain ⟨N1, eN1⟩ : ∃ N1, N1 = xPutG N R S σ.2.2.2.2.length wv := ⟨_, rfl⟩
        rw [← eN1] at hR1
        rw [← eN1]
        clear eN1
        refine j_aload_n C dX2_readOperand_47 rfl ?_
        refine j_callV0V C ml_X2_29 dX2_readOperand_48 (cX_nextToken hg RS hX (N := N1) (n := n) (i0 := (xPu wv σ).2.2.1) (by rw [hR1.2.2.2.2.2.2.2.2.1 Z RS.rz RS.zs]; exact hL) hn hR1.2.2.1 hR1.2.2.2.2.2.2.2.1) ⟨by rw [RS.r]; decide, by rw [RS.r]; rfl⟩ (rmle (by omega) (by decide)) (Nat.le_of_ble_eq_true rfl) ⟨rfl, rfl⟩ ⟨Nat.zero_le _, Nat.zero_le _⟩ ?_
        have hR2 := hR1.nx RS
        obtain ⟨N2, eN2⟩ : ∃ N2, N2 = xAdv N1 R Y n (xPu wv σ).2.2.1 := ⟨_, rfl⟩
        rw [← eN2] at hR2
        rw [← eN2]
        clear eN2
        refine j_iconst C dX2_readOperand_51 (v := 1) (by decide) ?_
        have hr2 := hRES
        exact j_iret C dX2_readOperand_52 rfl ⟨rfl, by rw [← hr2]; rfl, by rw [← hr2]; exact hR2⟩
      · replace h28 := Decidable.not_not.mp h28
        refine j_aload_n C dX2_readOperand_31 rfl ?_
        refine j_getI C fl_X2_70 dX2_readOperand_32 (RS.r) rfl ?_
        rw [hR.2.2.2.1]
        refine j_goto (tgt := 44) C dX2_readOperand_35 (by decide) ?_
        obtain ⟨wv, ewv⟩ : ∃ wv, wv = (if σ.1 = 257 then σ.2.2.2.1 else -1 - σ.2.2.2.1) := ⟨_, rfl⟩
        rw [← ewv] at hRES
        first | rw [show σ.2.2.2.1 = wv by rw [ewv, if_pos h28]] | rw [show -1 - σ.2.2.2.1 = wv by rw [ewv, if_neg h28]]
        refine j_callV1V C ml_X2_51 dX2_readOperand_44 (cX_putG hg RS (N := N) (t := σ.2.2.2.2.length) hR.2.2.2.2.1 hR.2.2.2.2.2.2.1 wv) ⟨by rw [RS.r]; decide, by rw [RS.r]; rfl⟩ (rmle (by omega) (by decide)) (Nat.le_of_ble_eq_true rfl) ⟨rfl, rfl⟩ ⟨Nat.zero_le _, Nat.zero_le _⟩ ?_
        have hR1 := hR.pu RS wv
        obtain ⟨N1, eN1⟩ : ∃ N1, N1 = xPutG N R S σ.2.2.2.2.length wv := ⟨_, rfl⟩
        rw [← eN1] at hR1
        rw [← eN1]
        clear eN1
        refine j_aload_n C dX2_readOperand_47 rfl ?_
        refine j_callV0V C ml_X2_29 dX2_readOperand_48 (cX_nextToken hg RS hX (N := N1) (n := n) (i0 := (xPu wv σ).2.2.1) (by rw [hR1.2.2.2.2.2.2.2.2.1 Z RS.rz RS.zs]; exact hL) hn hR1.2.2.1 hR1.2.2.2.2.2.2.2.1) ⟨by rw [RS.r]; decide, by rw [RS.r]; rfl⟩ (rmle (by omega) (by decide)) (Nat.le_of_ble_eq_true rfl) ⟨rfl, rfl⟩ ⟨Nat.zero_le _, Nat.zero_le _⟩ ?_
        have hR2 := hR1.nx RS
        obtain ⟨N2, eN2⟩ : ∃ N2, N2 = xAdv N1 R Y n (xPu wv σ).2.2.1 := ⟨_, rfl⟩
        rw [← eN2] at hR2
        rw [← eN2]
        clear eN2
        refine j_iconst C dX2_readOperand_51 (v := 1) (by decide) ?_
        have hr2 := hRES
        exact j_iret C dX2_readOperand_52 rfl ⟨rfl, by rw [← hr2]; rfl, by rw [← hr2]; exact hR2⟩

theorem rX_op {l : Launch} {g : WGp} (hg : GOK g) {sh : WSh} {N0 : WNm} {R Z Y S : Nat} (RS : RSh sh R Z Y S) {o : Nat → Nat} (hX : HX g o) {n : Nat} (hL : N0 Z 1 = nI n) (hn : n ≤ 200) {op d d1 d2 dd : Nat} {E F : XF} (hB : RDO l g sh N0 R S n yX2_readBracket cX2_readBracket 2 (op + 1) d1 (xBr (N0 Y) n E)) (hN : RDO l g sh N0 R S n yX2_readNegated cX2_readNegated 2 (op + 1) d2 (xNg F)) (h1 : d1 ≤ d) (h2 : d2 ≤ d) (hd : 8 ≤ d) (hop : op < 12) : RDO l g sh N0 R S n yX2_readOperand cX2_readOperand 3 op (d + 1) (xOpnd (N0 Y) n (dd + 1) E F) := by
  intro N σ hR
  refine ent hg (by decide +kernel) (Nat.le_of_ble_eq_true rfl) ?_
  intro p e s m args below meth c C hname
  generalize hRES : (xOpnd (N0 Y) n (dd + 1) E F) σ = RES
  unfold xOpnd at hRES
  try simp only at hRES
  refine j_aload_n C dX2_readOperand_0 rfl ?_
  refine j_getI C fl_X2_36 dX2_readOperand_1 (RS.r) rfl ?_
  rw [hR.1]
  refine j_sipush C dX2_readOperand_4 (v := 257) (by decide) ?_
  refine j_icmp_eq (tgt := 20) C dX2_readOperand_7 (by decide) (fun h7 => ?_) (fun h7 => ?_)
  · skip
    replace hRES := (if_pos (by first | exact Or.inl h7 | exact Or.inr h17)).symm.trans hRES
    refine j_aload_n C dX2_readOperand_20 rfl ?_
    refine j_aload_n C dX2_readOperand_21 rfl ?_
    refine j_getI C fl_X2_36 dX2_readOperand_22 (RS.r) rfl ?_
    rw [hR.1]
    refine j_sipush C dX2_readOperand_25 (v := 257) (by decide) ?_
    refine j_icmp_ne (tgt := 38) C dX2_readOperand_28 (by decide) (fun h28 => ?_) (fun h28 => ?_)
    · skip
      refine j_iconst C dX2_readOperand_38 (v := (-1)) (by decide) ?_
      refine j_aload_n C dX2_readOperand_39 rfl ?_
      refine j_getI C fl_X2_70 dX2_readOperand_40 (RS.r) rfl ?_
      rw [hR.2.2.2.1]
      refine j_isub C dX2_readOperand_43 ?_
      obtain ⟨wv, ewv⟩ : ∃ wv, wv = (if σ.1 = 257 then σ.2.2.2.1 else -1 - σ.2.2.2.1) := ⟨_, rfl⟩
      rw [← ewv] at hRES
      first | rw [show σ.2.2.2.1 = wv by rw [ewv, if_pos h28]] | rw [show -1 - σ.2.2.2.1 = wv by rw [ewv, if_neg h28]]
      refine j_callV1V C ml_X2_51 dX2_readOperand_44 (cX_putG hg RS (N := N) (t := σ.2.2.2.2.length) hR.2.2.2.2.1 hR.2.2.2.2.2.2.1 wv) ⟨by rw [RS.r]; decide, by rw [RS.r]; rfl⟩ (rmle (by omega) (by decide)) (Nat.le_of_ble_eq_true rfl) ⟨rfl, rfl⟩ ⟨Nat.zero_le _, Nat.zero_le _⟩ ?_
      have hR1 := hR.pu RS wv
      obtain ⟨N1, eN1⟩ : ∃ N1, N1 = xPutG N R S σ.2.2.2.2.length wv := ⟨_, rfl⟩
      rw [← eN1] at hR1
      rw [← eN1]
      clear eN1
      refine j_aload_n C dX2_readOperand_47 rfl ?_
      refine j_callV0V C ml_X2_29 dX2_readOperand_48 (cX_nextToken hg RS hX (N := N1) (n := n) (i0 := (xPu wv σ).2.2.1) (by rw [hR1.2.2.2.2.2.2.2.2.1 Z RS.rz RS.zs]; exact hL) hn hR1.2.2.1 hR1.2.2.2.2.2.2.2.1) ⟨by rw [RS.r]; decide, by rw [RS.r]; rfl⟩ (rmle (by omega) (by decide)) (Nat.le_of_ble_eq_true rfl) ⟨rfl, rfl⟩ ⟨Nat.zero_le _, Nat.zero_le _⟩ ?_
      have hR2 := hR1.nx RS
      obtain ⟨N2, eN2⟩ : ∃ N2, N2 = xAdv N1 R Y n (xPu wv σ).2.2.1 := ⟨_, rfl⟩
      rw [← eN2] at hR2
      rw [← eN2]
      clear eN2
      refine j_iconst C dX2_readOperand_51 (v := 1) (by decide) ?_
      have hr2 := hRES
      exact j_iret C dX2_readOperand_52 rfl ⟨rfl, by rw [← hr2]; rfl, by rw [← hr2]; exact hR2⟩
    · replace h28 := Decidable.not_not.mp h28
      refine j_aload_n C dX2_readOperand_31 rfl ?_
      refine j_getI C fl_X2_70 dX2_readOperand_32 (RS.r) rfl ?_
      rw [hR.2.2.2.1]
      refine j_goto (tgt := 44) C dX2_readOperand_35 (by decide) ?_
      obtain ⟨wv, ewv⟩ : ∃ wv, wv = (if σ.1 = 257 then σ.2.2.2.1 else -1 - σ.2.2.2.1) := ⟨_, rfl⟩
      rw [← ewv] at hRES
      first | rw [show σ.2.2.2.1 = wv by rw [ewv, if_pos h28]] | rw [show -1 - σ.2.2.2.1 = wv by rw [ewv, if_neg h28]]
      refine j_callV1V C ml_X2_51 dX2_readOperand_44 (cX_putG hg RS (N := N) (t := σ.2.2.2.2.length) hR.2.2.2.2.1 hR.2.2.2.2.2.2.1 wv) ⟨by rw [RS.r]; decide, by rw [RS.r]; rfl⟩ (rmle (by omega) (by decide)) (Nat.le_of_ble_eq_true rfl) ⟨rfl, rfl⟩ ⟨Nat.zero_le _, Nat.zero_le _⟩ ?_
      have hR1 := hR.pu RS wv
      obtain ⟨N1, eN1⟩ : ∃ N1, N1 = xPutG N R S σ.2.2.2.2.length wv := ⟨_, rfl⟩
      rw [← eN1] at hR1
      rw [← eN1]
      clear eN1
      refine j_aload_n C dX2_readOperand_47 rfl ?_
      refine j_callV0V C ml_X2_29 dX2_readOperand_48 (cX_nextToken hg RS hX (N := N1) (n := n) (i0 := (xPu wv σ).2.2.1) (by rw [hR1.2.2.2.2.2.2.2.2.1 Z RS.rz RS.zs]; exact hL) hn hR1.2.2.1 hR1.2.2.2.2.2.2.2.1) ⟨by rw [RS.r]; decide, by rw [RS.r]; rfl⟩ (rmle (by omega) (by decide)) (Nat.le_of_ble_eq_true rfl) ⟨rfl, rfl⟩ ⟨Nat.zero_le _, Nat.zero_le _⟩ ?_
      have hR2 := hR1.nx RS
      obtain ⟨N2, eN2⟩ : ∃ N2, N2 = xAdv N1 R Y n (xPu wv σ).2.2.1 := ⟨_, rfl⟩
      rw [← eN2] at hR2
      rw [← eN2]
      clear eN2
      refine j_iconst C dX2_readOperand_51 (v := 1) (by decide) ?_
      have hr2 := hRES
      exact j_iret C dX2_readOperand_52 rfl ⟨rfl, by rw [← hr2]; rfl, by rw [← hr2]; exact hR2⟩
  · skip
    refine j_aload_n C dX2_readOperand_10 rfl ?_
    refine j_getI C fl_X2_36 dX2_readOperand_11 (RS.r) rfl ?_
    rw [hR.1]
    refine j_sipush C dX2_readOperand_14 (v := 258) (by decide) ?_
    refine j_icmp_ne (tgt := 53) C dX2_readOperand_17 (by decide) (fun h17 => ?_) (fun h17 => ?_)
    · skip
      replace hRES := (if_neg (fun z => z.elim h7 h17)).symm.trans hRES
      refine j_aload_n C dX2_readOperand_53 rfl ?_
      refine j_getI C fl_X2_36 dX2_readOperand_54 (RS.r) rfl ?_
      rw [hR.1]
      refine j_bipush C dX2_readOperand_57 (v := 45) (by decide) ?_
      refine j_icmp_eq (tgt := 71) C dX2_readOperand_59 (by decide) (fun h59 => ?_) (fun h59 => ?_)
      · skip
        refine j_iload_n C dX2_readOperand_71 rfl ?_
        refine j_bipush C dX2_readOperand_72 (v := 12) (by decide) ?_
        refine j_icmp_lt (tgt := 79) C dX2_readOperand_74 (by decide) (fun h74 => ?_) (fun h74 => ?_)
        · skip
          replace hRES := (if_pos ⟨by first | exact Or.inl h59 | exact Or.inr h68, Nat.succ_ne_zero dd⟩).symm.trans hRES
          refine j_aload_n C dX2_readOperand_79 rfl ?_
          refine j_getI C fl_X2_36 dX2_readOperand_80 (RS.r) rfl ?_
          rw [hR.1]
          refine j_bipush C dX2_readOperand_83 (v := 40) (by decide) ?_
          refine j_icmp_ne (tgt := 92) C dX2_readOperand_85 (by decide) (fun h85 => ?_) (fun h85 => ?_)
          · skip
            replace hRES := (if_neg h85).symm.trans hRES
            refine j_iconst C dX2_readOperand_92 (v := 0) (by decide) ?_
            refine j_istore_n C dX2_readOperand_93 (by decide) rfl ?_
            refine j_aload_n C dX2_readOperand_94 rfl ?_
            refine j_callV0V C ml_X2_29 dX2_readOperand_95 (cX_nextToken hg RS hX (N := N) (n := n) (i0 := σ.2.2.1) (by rw [hR.2.2.2.2.2.2.2.2.1 Z RS.rz RS.zs]; exact hL) hn hR.2.2.1 hR.2.2.2.2.2.2.2.1) ⟨by rw [RS.r]; decide, by rw [RS.r]; rfl⟩ (rmle (by omega) (by decide)) (Nat.le_of_ble_eq_true rfl) ⟨rfl, rfl⟩ ⟨Nat.zero_le _, Nat.zero_le _⟩ ?_
            have hR2 := hR.nx RS
            obtain ⟨N2, eN2⟩ : ∃ N2, N2 = xAdv N R Y n σ.2.2.1 := ⟨_, rfl⟩
            rw [← eN2] at hR2
            rw [← eN2]
            clear eN2
            refine j_iload_n C dX2_readOperand_98 rfl ?_
            refine j_if_eq (tgt := 112) C dX2_readOperand_99 (by decide) (fun h99 => ?_) (fun h99 => ?_)
            · skip
              refine j_aload_n C dX2_readOperand_112 rfl ?_
              refine j_iload_n C dX2_readOperand_113 rfl ?_
              refine j_iconst C dX2_readOperand_114 (v := 1) (by decide) ?_
              refine j_iadd C dX2_readOperand_115 ?_
              rw [nI_1]
              refine j_callV1Ig C ml_X2_76 dX2_readOperand_116 (hN N2 (xNx (N0 Y) n σ) hR2) ⟨by rw [RS.r]; decide, by rw [RS.r]; rfl⟩ (rmle (by omega) (by decide)) (Nat.le_of_ble_eq_true rfl) ⟨rfl, rfl⟩ ⟨Nat.zero_le _, Nat.zero_le _⟩ (fun r sh1 N1 hq => ?_)
              obtain ⟨e1, e2, hR1⟩ := hq
              replace e1 := e1.symm
              subst e1
              subst e2
              rcases hb : (xNg F) (xNx (N0 Y) n σ) with ⟨b, σ1⟩
              rw [hb] at hR1
              replace hR1 : RD N1 N0 R S n σ1 := hR1
              rw [hb] at hRES
              subst hRES
              exact j_iret C dX2_readOperand_119 (nar_bI b) ⟨rfl, rfl, hR1⟩
            · exact absurd (by decide) h99
          · replace h85 := Decidable.not_not.mp h85
            replace hRES := (if_pos h85).symm.trans hRES
            refine j_iconst C dX2_readOperand_88 (v := 1) (by decide) ?_
            refine j_goto (tgt := 93) C dX2_readOperand_89 (by decide) ?_
            refine j_istore_n C dX2_readOperand_93 (by decide) rfl ?_
            refine j_aload_n C dX2_readOperand_94 rfl ?_
            refine j_callV0V C ml_X2_29 dX2_readOperand_95 (cX_nextToken hg RS hX (N := N) (n := n) (i0 := σ.2.2.1) (by rw [hR.2.2.2.2.2.2.2.2.1 Z RS.rz RS.zs]; exact hL) hn hR.2.2.1 hR.2.2.2.2.2.2.2.1) ⟨by rw [RS.r]; decide, by rw [RS.r]; rfl⟩ (rmle (by omega) (by decide)) (Nat.le_of_ble_eq_true rfl) ⟨rfl, rfl⟩ ⟨Nat.zero_le _, Nat.zero_le _⟩ ?_
            have hR2 := hR.nx RS
            obtain ⟨N2, eN2⟩ : ∃ N2, N2 = xAdv N R Y n σ.2.2.1 := ⟨_, rfl⟩
            rw [← eN2] at hR2
            rw [← eN2]
            clear eN2
            refine j_iload_n C dX2_readOperand_98 rfl ?_
            refine j_if_eq (tgt := 112) C dX2_readOperand_99 (by decide) (fun h99 => ?_) (fun h99 => ?_)
            · exact absurd h99 (by decide)
            · skip
              refine j_aload_n C dX2_readOperand_102 rfl ?_
              refine j_iload_n C dX2_readOperand_103 rfl ?_
              refine j_iconst C dX2_readOperand_104 (v := 1) (by decide) ?_
              refine j_iadd C dX2_readOperand_105 ?_
              rw [nI_1]
              refine j_callV1Ig C ml_X2_73 dX2_readOperand_106 (hB N2 (xNx (N0 Y) n σ) hR2) ⟨by rw [RS.r]; decide, by rw [RS.r]; rfl⟩ (rmle (by omega) (by decide)) (Nat.le_of_ble_eq_true rfl) ⟨rfl, rfl⟩ ⟨Nat.zero_le _, Nat.zero_le _⟩ (fun r sh1 N1 hq => ?_)
              obtain ⟨e1, e2, hR1⟩ := hq
              replace e1 := e1.symm
              subst e1
              subst e2
              rcases hb : (xBr (N0 Y) n E) (xNx (N0 Y) n σ) with ⟨b, σ1⟩
              rw [hb] at hR1
              replace hR1 : RD N1 N0 R S n σ1 := hR1
              refine j_goto (tgt := 119) C dX2_readOperand_109 (by decide) ?_
              rw [hb] at hRES
              subst hRES
              exact j_iret C dX2_readOperand_119 (nar_bI b) ⟨rfl, rfl, hR1⟩
        · skip
          exact absurd (show nI op < 12 by rw [show (12 : Int32) = nI 12 from rfl, n_nlt (by omega) (by omega)]; exact hop) h74
      · skip
        refine j_aload_n C dX2_readOperand_62 rfl ?_
        refine j_getI C fl_X2_36 dX2_readOperand_63 (RS.r) rfl ?_
        rw [hR.1]
        refine j_bipush C dX2_readOperand_66 (v := 40) (by decide) ?_
        refine j_icmp_ne (tgt := 77) C dX2_readOperand_68 (by decide) (fun h68 => ?_) (fun h68 => ?_)
        · skip
          refine j_iconst C dX2_readOperand_77 (v := 0) (by decide) ?_
          have hr2 := (if_neg (fun z => z.1.elim h59 h68)).symm.trans hRES
          exact j_iret C dX2_readOperand_78 rfl ⟨rfl, by rw [← hr2]; rfl, by rw [← hr2]; exact hR⟩
        · replace h68 := Decidable.not_not.mp h68
          refine j_iload_n C dX2_readOperand_71 rfl ?_
          refine j_bipush C dX2_readOperand_72 (v := 12) (by decide) ?_
          refine j_icmp_lt (tgt := 79) C dX2_readOperand_74 (by decide) (fun h74 => ?_) (fun h74 => ?_)
          · skip
            replace hRES := (if_pos ⟨by first | exact Or.inl h59 | exact Or.inr h68, Nat.succ_ne_zero dd⟩).symm.trans hRES
            refine j_aload_n C dX2_readOperand_79 rfl ?_
            refine j_getI C fl_X2_36 dX2_readOperand_80 (RS.r) rfl ?_
            rw [hR.1]
            refine j_bipush C dX2_readOperand_83 (v := 40) (by decide) ?_
            refine j_icmp_ne (tgt := 92) C dX2_readOperand_85 (by decide) (fun h85 => ?_) (fun h85 => ?_)
            · skip
              replace hRES := (if_neg h85).symm.trans hRES
              refine j_iconst C dX2_readOperand_92 (v := 0) (by decide) ?_
              refine j_istore_n C dX2_readOperand_93 (by decide) rfl ?_
              refine j_aload_n C dX2_readOperand_94 rfl ?_
              refine j_callV0V C ml_X2_29 dX2_readOperand_95 (cX_nextToken hg RS hX (N := N) (n := n) (i0 := σ.2.2.1) (by rw [hR.2.2.2.2.2.2.2.2.1 Z RS.rz RS.zs]; exact hL) hn hR.2.2.1 hR.2.2.2.2.2.2.2.1) ⟨by rw [RS.r]; decide, by rw [RS.r]; rfl⟩ (rmle (by omega) (by decide)) (Nat.le_of_ble_eq_true rfl) ⟨rfl, rfl⟩ ⟨Nat.zero_le _, Nat.zero_le _⟩ ?_
              have hR2 := hR.nx RS
              obtain ⟨N2, eN2⟩ : ∃ N2, N2 = xAdv N R Y n σ.2.2.1 := ⟨_, rfl⟩
              rw [← eN2] at hR2
              rw [← eN2]
              clear eN2
              refine j_iload_n C dX2_readOperand_98 rfl ?_
              refine j_if_eq (tgt := 112) C dX2_readOperand_99 (by decide) (fun h99 => ?_) (fun h99 => ?_)
              · skip
                refine j_aload_n C dX2_readOperand_112 rfl ?_
                refine j_iload_n C dX2_readOperand_113 rfl ?_
                refine j_iconst C dX2_readOperand_114 (v := 1) (by decide) ?_
                refine j_iadd C dX2_readOperand_115 ?_
                rw [nI_1]
                refine j_callV1Ig C ml_X2_76 dX2_readOperand_116 (hN N2 (xNx (N0 Y) n σ) hR2) ⟨by rw [RS.r]; decide, by rw [RS.r]; rfl⟩ (rmle (by omega) (by decide)) (Nat.le_of_ble_eq_true rfl) ⟨rfl, rfl⟩ ⟨Nat.zero_le _, Nat.zero_le _⟩ (fun r sh1 N1 hq => ?_)
                obtain ⟨e1, e2, hR1⟩ := hq
                replace e1 := e1.symm
                subst e1
                subst e2
                rcases hb : (xNg F) (xNx (N0 Y) n σ) with ⟨b, σ1⟩
                rw [hb] at hR1
                replace hR1 : RD N1 N0 R S n σ1 := hR1
                rw [hb] at hRES
                subst hRES
                exact j_iret C dX2_readOperand_119 (nar_bI b) ⟨rfl, rfl, hR1⟩
              · exact absurd (by decide) h99
            · replace h85 := Decidable.not_not.mp h85
              replace hRES := (if_pos h85).symm.trans hRES
              refine j_iconst C dX2_readOperand_88 (v := 1) (by decide) ?_
              refine j_goto (tgt := 93) C dX2_readOperand_89 (by decide) ?_
              refine j_istore_n C dX2_readOperand_93 (by decide) rfl ?_
              refine j_aload_n C dX2_readOperand_94 rfl ?_
              refine j_callV0V C ml_X2_29 dX2_readOperand_95 (cX_nextToken hg RS hX (N := N) (n := n) (i0 := σ.2.2.1) (by rw [hR.2.2.2.2.2.2.2.2.1 Z RS.rz RS.zs]; exact hL) hn hR.2.2.1 hR.2.2.2.2.2.2.2.1) ⟨by rw [RS.r]; decide, by rw [RS.r]; rfl⟩ (rmle (by omega) (by decide)) (Nat.le_of_ble_eq_true rfl) ⟨rfl, rfl⟩ ⟨Nat.zero_le _, Nat.zero_le _⟩ ?_
              have hR2 := hR.nx RS
              obtain ⟨N2, eN2⟩ : ∃ N2, N2 = xAdv N R Y n σ.2.2.1 := ⟨_, rfl⟩
              rw [← eN2] at hR2
              rw [← eN2]
              clear eN2
              refine j_iload_n C dX2_readOperand_98 rfl ?_
              refine j_if_eq (tgt := 112) C dX2_readOperand_99 (by decide) (fun h99 => ?_) (fun h99 => ?_)
              · exact absurd h99 (by decide)
              · skip
                refine j_aload_n C dX2_readOperand_102 rfl ?_
                refine j_iload_n C dX2_readOperand_103 rfl ?_
                refine j_iconst C dX2_readOperand_104 (v := 1) (by decide) ?_
                refine j_iadd C dX2_readOperand_105 ?_
                rw [nI_1]
                refine j_callV1Ig C ml_X2_73 dX2_readOperand_106 (hB N2 (xNx (N0 Y) n σ) hR2) ⟨by rw [RS.r]; decide, by rw [RS.r]; rfl⟩ (rmle (by omega) (by decide)) (Nat.le_of_ble_eq_true rfl) ⟨rfl, rfl⟩ ⟨Nat.zero_le _, Nat.zero_le _⟩ (fun r sh1 N1 hq => ?_)
                obtain ⟨e1, e2, hR1⟩ := hq
                replace e1 := e1.symm
                subst e1
                subst e2
                rcases hb : (xBr (N0 Y) n E) (xNx (N0 Y) n σ) with ⟨b, σ1⟩
                rw [hb] at hR1
                replace hR1 : RD N1 N0 R S n σ1 := hR1
                refine j_goto (tgt := 119) C dX2_readOperand_109 (by decide) ?_
                rw [hb] at hRES
                subst hRES
                exact j_iret C dX2_readOperand_119 (nar_bI b) ⟨rfl, rfl, hR1⟩
          · skip
            exact absurd (show nI op < 12 by rw [show (12 : Int32) = nI 12 from rfl, n_nlt (by omega) (by omega)]; exact hop) h74
    · replace h17 := Decidable.not_not.mp h17
      replace hRES := (if_pos (by first | exact Or.inl h7 | exact Or.inr h17)).symm.trans hRES
      refine j_aload_n C dX2_readOperand_20 rfl ?_
      refine j_aload_n C dX2_readOperand_21 rfl ?_
      refine j_getI C fl_X2_36 dX2_readOperand_22 (RS.r) rfl ?_
      rw [hR.1]
      refine j_sipush C dX2_readOperand_25 (v := 257) (by decide) ?_
      refine j_icmp_ne (tgt := 38) C dX2_readOperand_28 (by decide) (fun h28 => ?_) (fun h28 => ?_)
      · skip
        refine j_iconst C dX2_readOperand_38 (v := (-1)) (by decide) ?_
        refine j_aload_n C dX2_readOperand_39 rfl ?_
        refine j_getI C fl_X2_70 dX2_readOperand_40 (RS.r) rfl ?_
        rw [hR.2.2.2.1]
        refine j_isub C dX2_readOperand_43 ?_
        obtain ⟨wv, ewv⟩ : ∃ wv, wv = (if σ.1 = 257 then σ.2.2.2.1 else -1 - σ.2.2.2.1) := ⟨_, rfl⟩
        rw [← ewv] at hRES
        first | rw [show σ.2.2.2.1 = wv by rw [ewv, if_pos h28]] | rw [show -1 - σ.2.2.2.1 = wv by rw [ewv, if_neg h28]]
        refine j_callV1V C ml_X2_51 dX2_readOperand_44 (cX_putG hg RS (N := N) (t := σ.2.2.2.2.length) hR.2.2.2.2.1 hR.2.2.2.2.2.2.1 wv) ⟨by rw [RS.r]; decide, by rw [RS.r]; rfl⟩ (rmle (by omega) (by decide)) (Nat.le_of_ble_eq_true rfl) ⟨rfl, rfl⟩ ⟨Nat.zero_le _, Nat.zero_le _⟩ ?_
        have hR1 := hR.pu RS wv
        obtain ⟨N1, eN1⟩ : ∃ N1, N1 = xPutG N R S σ.2.2.2.2.length wv := ⟨_, rfl⟩
        rw [← eN1] at hR1
        rw [← eN1]
        clear eN1
        refine j_aload_n C dX2_readOperand_47 rfl ?_
        refine j_callV0V C ml_X2_29 dX2_readOperand_48 (cX_nextToken hg RS hX (N := N1) (n := n) (i0 := (xPu wv σ).2.2.1) (by rw [hR1.2.2.2.2.2.2.2.2.1 Z RS.rz RS.zs]; exact hL) hn hR1.2.2.1 hR1.2.2.2.2.2.2.2.1) ⟨by rw [RS.r]; decide, by rw [RS.r]; rfl⟩ (rmle (by omega) (by decide)) (Nat.le_of_ble_eq_true rfl) ⟨rfl, rfl⟩ ⟨Nat.zero_le _, Nat.zero_le _⟩ ?_
        have hR2 := hR1.nx RS
        obtain ⟨N2, eN2⟩ : ∃ N2, N2 = xAdv N1 R Y n (xPu wv σ).2.2.1 := ⟨_, rfl⟩
        rw [← eN2] at hR2
        rw [← eN2]
        clear eN2
        refine j_iconst C dX2_readOperand_51 (v := 1) (by decide) ?_
        have hr2 := hRES
        exact j_iret C dX2_readOperand_52 rfl ⟨rfl, by rw [← hr2]; rfl, by rw [← hr2]; exact hR2⟩
      · replace h28 := Decidable.not_not.mp h28
        refine j_aload_n C dX2_readOperand_31 rfl ?_
        refine j_getI C fl_X2_70 dX2_readOperand_32 (RS.r) rfl ?_
        rw [hR.2.2.2.1]
        refine j_goto (tgt := 44) C dX2_readOperand_35 (by decide) ?_
        obtain ⟨wv, ewv⟩ : ∃ wv, wv = (if σ.1 = 257 then σ.2.2.2.1 else -1 - σ.2.2.2.1) := ⟨_, rfl⟩
        rw [← ewv] at hRES
        first | rw [show σ.2.2.2.1 = wv by rw [ewv, if_pos h28]] | rw [show -1 - σ.2.2.2.1 = wv by rw [ewv, if_neg h28]]
        refine j_callV1V C ml_X2_51 dX2_readOperand_44 (cX_putG hg RS (N := N) (t := σ.2.2.2.2.length) hR.2.2.2.2.1 hR.2.2.2.2.2.2.1 wv) ⟨by rw [RS.r]; decide, by rw [RS.r]; rfl⟩ (rmle (by omega) (by decide)) (Nat.le_of_ble_eq_true rfl) ⟨rfl, rfl⟩ ⟨Nat.zero_le _, Nat.zero_le _⟩ ?_
        have hR1 := hR.pu RS wv
        obtain ⟨N1, eN1⟩ : ∃ N1, N1 = xPutG N R S σ.2.2.2.2.length wv := ⟨_, rfl⟩
        rw [← eN1] at hR1
        rw [← eN1]
        clear eN1
        refine j_aload_n C dX2_readOperand_47 rfl ?_
        refine j_callV0V C ml_X2_29 dX2_readOperand_48 (cX_nextToken hg RS hX (N := N1) (n := n) (i0 := (xPu wv σ).2.2.1) (by rw [hR1.2.2.2.2.2.2.2.2.1 Z RS.rz RS.zs]; exact hL) hn hR1.2.2.1 hR1.2.2.2.2.2.2.2.1) ⟨by rw [RS.r]; decide, by rw [RS.r]; rfl⟩ (rmle (by omega) (by decide)) (Nat.le_of_ble_eq_true rfl) ⟨rfl, rfl⟩ ⟨Nat.zero_le _, Nat.zero_le _⟩ ?_
        have hR2 := hR1.nx RS
        obtain ⟨N2, eN2⟩ : ∃ N2, N2 = xAdv N1 R Y n (xPu wv σ).2.2.1 := ⟨_, rfl⟩
        rw [← eN2] at hR2
        rw [← eN2]
        clear eN2
        refine j_iconst C dX2_readOperand_51 (v := 1) (by decide) ?_
        have hr2 := hRES
        exact j_iret C dX2_readOperand_52 rfl ⟨rfl, by rw [← hr2]; rfl, by rw [← hr2]; exact hR2⟩

/-- all of the grammar, by how many may still be opened -/
theorem rX_all {l : Launch} {g : WGp} (hg : GOK g) {sh : WSh} {N0 : WNm} {R Z Y S : Nat} (RS : RSh sh R Z Y S) {o : Nat → Nat} (hX : HX g o) {n : Nat} (hL : N0 Z 1 = nI n) (hn : n ≤ 200) : ∀ d, d ≤ 12 → RDO l g sh N0 R S n yX2_readEither cX2_readEither 3 (12 - d) (15 + 8 * d) (xLv (N0 Y) n d).1 ∧ RDO l g sh N0 R S n yX2_readDenied cX2_readDenied 2 (12 - d) (13 + 8 * d) (xLv (N0 Y) n d).2.1 ∧ RDO l g sh N0 R S n yX2_readOperand cX2_readOperand 3 (12 - d) (9 + 8 * d) (xLv (N0 Y) n d).2.2
  | 0, _ => by
    have h1 := rX_op0 (l := l) hg RS hX hL hn (d := 8) (E := fun σ => (false, σ)) (F := fun σ => (false, σ)) (by omega)
    have h2 := rX_prod hg RS hX hL hn h1 (by omega)
    have h3 := rX_sum hg RS hX hL hn h2 (by omega)
    have h4 := rX_comp hg RS hX hL hn h3 (by omega)
    have h5 := rX_den0 hg RS hX hL hn (D := fun σ => (false, σ)) h4 (by omega)
    have h6 := rX_both hg RS hX hL hn h5 (by omega)
    have h7 := rX_either hg RS hX hL hn h6 (by omega)
    exact ⟨h7, h5, h1⟩
  | d + 1, hd => by
    obtain ⟨a1, a2, a3⟩ := rX_all hg RS hX hL hn d (by omega)
    rw [show 12 - d = (12 - (d + 1)) + 1 by omega] at a1 a2 a3
    have b1 := rX_br hg RS hX hL hn a1 (by omega)
    have b2 := rX_ng hg RS hX hL hn a3 (by omega)
    have h1 := rX_op hg RS hX hL hn (op := 12 - (d + 1)) (d := 16 + 8 * d) (dd := d) b1 b2 (by omega) (by omega) (by omega) (by omega)
    have h2 := rX_prod hg RS hX hL hn h1 (by omega)
    have h3 := rX_sum hg RS hX hL hn h2 (by omega)
    have h4 := rX_comp hg RS hX hL hn h3 (by omega)
    have h5 := rX_den hg RS hX hL hn (dd := d) h4 a2 (by omega) (by omega) (by omega)
    have h6 := rX_both hg RS hX hL hn h5 (by omega)
    have h7 := rX_either hg RS hX hL hn h6 (by omega)
    rw [show 15 + 8 * (d + 1) = 16 + 8 * d + 1 + 1 + 1 + 1 + 1 + 1 + 1 by omega, show 13 + 8 * (d + 1) = 16 + 8 * d + 1 + 1 + 1 + 1 + 1 by omega, show 9 + 8 * (d + 1) = 16 + 8 * d + 1 by omega]
    exact ⟨h7, h5, h1⟩
/-- what is read of a tape: whether it is a text, and where the reader stands -/
noncomputable def xRd (tp : Nat → Int32) (n : Nat) (v : Int32) : Bool × XS := (xLv tp n 12).1 (xNx tp n (0, 0, 0, v, []))
noncomputable def xRdF (tp : Nat → Int32) (n : Nat) (v : Int32) : Int32 := if (xRd tp n v).1 = true then (if (xRd tp n v).2.1 = 256 then -1 else nI (xRd tp n v).2.2.1) else nI (xRd tp n v).2.2.1
theorem RD.first {sh : WSh} {N N0 : WNm} {R Z Y S n : Nat} (RS : RSh sh R Z Y S) (h3 : N R 1 = 0) (h5 : N R 6 = 0) (h9 : ∀ a, ¬ a = R → ¬ a = S → N a = N0 a) (h10 : ∀ k, ¬ k = 1 → ¬ k = 2 → ¬ k = 3 → ¬ k = 4 → ¬ k = 6 → N R k = N0 R k) (h4 : N R 4 = N0 R 4) : RD (xAdv N R Y n 0) N0 R S n (xNx (N0 Y) n (0, 0, 0, N0 R 4, [])) := by
  have eY : N Y = N0 Y := h9 Y RS.ry RS.ys
  unfold xAdv xTokN
  rw [eY, h4]
  refine ⟨xT_g2 _ _ _ _ _ _, xT_g3 _ _ _ _ _ _, xT_g1 _ _ _ _ _ _, xT_g4 _ _ _ _ _ _, (xT_g6 _ _ _ _ _ _).trans h5, rfl, Nat.zero_le _, xTok_at _ _ _ _ (Nat.zero_le _), fun a ha hb => (xT_row ha).trans (h9 a ha hb), fun k k1 k2 k3 k4 k6 => ?_⟩
  rw [← h10 k k1 k2 k3 k4 k6]; simp [xT, u2, k1, k2, k3, k4]

theorem cX_read {l : Launch} {g : WGp} (hg : GOK g) {sh : WSh} {N0 : WNm} {R Z Y S : Nat} (RS : RSh sh R Z Y S) {o : Nat → Nat} (hX : HX g o) {n : Nat} (hL : N0 Z 1 = nI n) (hn : n ≤ 200) : CT l g yX2_read cX2_read 1 (some .int) (RM 120 0 0) [.ref (sh.2.2 R)] sh N0 (QI g (fun r sh1 N1 => sh1 = sh ∧ r = xRdF (N0 Y) n (N0 R 4) ∧ RD N1 N0 R S n (xRd (N0 Y) n (N0 R 4)).2)) := by
  refine ent hg (by decide +kernel) (Nat.le_of_ble_eq_true rfl) ?_
  intro p e s m args below meth c C hname
  generalize hRES : xRdF (N0 Y) n (N0 R 4) = RES
  unfold xRdF at hRES
  refine j_aload_n C dX2_read_0 rfl ?_
  refine j_iconst C dX2_read_1 (v := 0) (by decide) ?_
  refine j_putI C fl_X2_22 dX2_read_2 (RS.r) rfl rfl rfl rfl ?_
  refine j_aload_n C dX2_read_5 rfl ?_
  refine j_iconst C dX2_read_6 (v := 0) (by decide) ?_
  refine j_putI C fl_X2_26 dX2_read_7 (RS.r) rfl rfl rfl rfl ?_
  obtain ⟨N1, eN1⟩ : ∃ N1, N1 = u2 (u2 N0 R 1 0) R 6 0 := ⟨_, rfl⟩
  have g3 : N1 R 1 = 0 := by rw [eN1]; simp [u2]
  have g5 : N1 R 6 = 0 := by rw [eN1]; simp [u2]
  have g4 : N1 R 4 = N0 R 4 := by rw [eN1]; simp [u2]
  have g9 : ∀ a, ¬ a = R → ¬ a = S → N1 a = N0 a := fun a ha _ => by rw [eN1, u2_row ha, u2_row ha]
  have g10 : ∀ k, ¬ k = 1 → ¬ k = 2 → ¬ k = 3 → ¬ k = 4 → ¬ k = 6 → N1 R k = N0 R k := fun k k1 _ _ _ k6 => by rw [eN1, u2_ne (fun z => k6 z.2), u2_ne (fun z => k1 z.2)]
  rw [← eN1]
  clear eN1
  refine j_aload_n C dX2_read_10 rfl ?_
  refine j_callV0V C ml_X2_29 dX2_read_11 (cX_nextToken hg RS hX (N := N1) (n := n) (i0 := 0) (by rw [g9 Z RS.rz RS.zs]; exact hL) hn g3 (Nat.zero_le _)) ⟨by rw [RS.r]; decide, by rw [RS.r]; rfl⟩ (rmle (by omega) (by decide)) (Nat.le_of_ble_eq_true rfl) ⟨rfl, rfl⟩ ⟨Nat.zero_le _, Nat.zero_le _⟩ ?_
  have hR := RD.first (n := n) RS g3 g5 g9 g10 g4
  obtain ⟨N2, eN2⟩ : ∃ N2, N2 = xAdv N1 R Y n 0 := ⟨_, rfl⟩
  rw [← eN2] at hR
  rw [← eN2]
  clear eN2
  refine j_aload_n C dX2_read_14 rfl ?_
  refine j_iconst C dX2_read_15 (v := 0) (by decide) ?_
  refine j_callV1Ig C ml_X2_32 dX2_read_16 ((rX_all hg RS hX hL hn 12 (by omega)).1 N2 _ hR) ⟨by rw [RS.r]; decide, by rw [RS.r]; rfl⟩ (rmle (by omega) (by decide)) (Nat.le_of_ble_eq_true rfl) ⟨rfl, rfl⟩ ⟨Nat.zero_le _, Nat.zero_le _⟩ (fun r sh1 N3 hq => ?_)
  obtain ⟨e1, e2, hR3⟩ := hq
  replace e1 := e1.symm
  subst e1
  subst e2
  change RD N3 N0 R S n (xRd (N0 Y) n (N0 R 4)).2 at hR3
  change J _ _ _ _ _ _ _ _ _ _ _ _ _ _ _ _ _ _ _ (.int (bI (xRd (N0 Y) n (N0 R 4)).1) :: _)
  generalize xRd (N0 Y) n (N0 R 4) = rd at hR3 hRES
  obtain ⟨b, σ⟩ := rd
  rcases b with _ | _
  · replace hRES := (if_neg Bool.false_ne_true).symm.trans hRES
    refine j_if_eq (tgt := 36) C dX2_read_19 (by decide) (fun h19 => ?_) (fun h19 => ?_)
    · skip
      refine j_aload_n C dX2_read_36 rfl ?_
      refine j_getI C fl_X2_39 dX2_read_37 (RS.r) rfl ?_
      first | (refine j_iret C dX2_read_40 rfl ⟨rfl, ?_, hR3⟩; exact hRES) | (rw [hR3.2.1]; refine j_iret C dX2_read_40 rfl ⟨rfl, ?_, hR3⟩; exact hRES) | (rw [hR3.2.1]; refine j_iret C dX2_read_40 rfl ⟨rfl, ?_, hR3⟩; exact (if_neg h29).symm.trans hRES)
    · skip
      exact absurd rfl h19
  · replace hRES := (if_pos rfl).symm.trans hRES
    refine j_if_eq (tgt := 36) C dX2_read_19 (by decide) (fun h19 => ?_) (fun h19 => ?_)
    · skip
      exact absurd h19 one_ne
    · skip
      refine j_aload_n C dX2_read_22 rfl ?_
      refine j_getI C fl_X2_36 dX2_read_23 (RS.r) rfl ?_
      rw [hR3.1]
      refine j_sipush C dX2_read_26 (v := 256) (by decide) ?_
      refine j_icmp_ne (tgt := 36) C dX2_read_29 (by decide) (fun h29 => ?_) (fun h29 => ?_)
      · skip
        refine j_aload_n C dX2_read_36 rfl ?_
        refine j_getI C fl_X2_39 dX2_read_37 (RS.r) rfl ?_
        first | (refine j_iret C dX2_read_40 rfl ⟨rfl, ?_, hR3⟩; exact hRES) | (rw [hR3.2.1]; refine j_iret C dX2_read_40 rfl ⟨rfl, ?_, hR3⟩; exact hRES) | (rw [hR3.2.1]; refine j_iret C dX2_read_40 rfl ⟨rfl, ?_, hR3⟩; exact (if_neg h29).symm.trans hRES)
      · replace h29 := Decidable.not_not.mp h29
        replace hRES := (if_pos h29).symm.trans hRES
        refine j_iconst C dX2_read_32 (v := (-1)) (by decide) ?_
        refine j_goto (tgt := 40) C dX2_read_33 (by decide) ?_
        first | (refine j_iret C dX2_read_40 rfl ⟨rfl, ?_, hR3⟩; exact hRES) | (rw [hR3.2.1]; refine j_iret C dX2_read_40 rfl ⟨rfl, ?_, hR3⟩; exact hRES) | (rw [hR3.2.1]; refine j_iret C dX2_read_40 rfl ⟨rfl, ?_, hR3⟩; exact (if_neg h29).symm.trans hRES)
