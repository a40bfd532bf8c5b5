/-! ===== CLASS AND REFERENCE SIDE BY SIDE ===== -/
def zz : WNm := fun _ _ => 0
/-- between two steps of the law -/
def JI (o : Nat → Nat) (sh : WSh) (N : WNm) : Prop := MSh sh ∧ (∃ nG nB nV nP dy, TI (MG N zz) nG nB nV nP dy) ∧ XSt o sh N (MG N zz)
theorem mTab_le : ∀ q ∈ mTab, q.1 + 1 ≤ 55 := by decide
theorem MSh.keep {sh sh1 : WSh} {N N1 : WNm} (h : MSh sh) (f : FRL sh N sh1 N1) : MSh sh1 := by
  refine ⟨by rw [(f.1 0 (by decide)).1]; exact h.1, fun q hq => ?_⟩
  rw [(f.1 (q.1 + 1) (mTab_le q hq)).1, (f.1 0 (by decide)).2.1]
  exact h.2 q hq
theorem FRL.mg {sh sh1 : WSh} {N N1 : WNm} (f : FRL sh N sh1 N1) (K : WNm) : MG N1 K = MG N K := by
  funext i
  unfold MG
  split
  · exact (f.1 i (by omega)).2.2.2
  · rfl
/-- the class beside T, all opened -/
def OP (o : Nat → Nat) (sh : WSh) (N T : WNm) (nG nB nV nP dy kG kB kV nT : Nat) (ln : Nat → Nat) (k : Nat) (rl : List Nat) : Prop := XH o sh N nG nB nV kG kB kV ln ∧ XN N T nG nB nV nT ln ∧ TI T nG nB nV nP dy ∧ LST sh N (o 2) 108 480 k (bn rl) ∧ ∀ x ∈ rl, x < nB
theorem JI.op {o : Nat → Nat} {sh : WSh} {N : WNm} (h : JI o sh N) : ∃ nG nB nV nP dy kG kB kV nT ln k rl, OP o sh N (MG N zz) nG nB nV nP dy kG kB kV nT ln k rl := by
  obtain ⟨-, ⟨nG, nB, nV, nP, dy, hI⟩, nG', nB', nV', kG, kB, kV, nT, ln, k, rl, X, hN, hK, hrl, e1, e2, e3⟩ := h
  have z1 : nG' = nG := nI_inj (by have := X.nG8; omega) (by have := hI.1.1.2; omega) (e1.symm.trans hI.g9)
  have z2 : nB' = nB := nI_inj (by have := X.nB3; omega) (by have := hI.1.2.1.2; omega) (e2.symm.trans hI.b23)
  have z3 : nV' = nV := nI_inj (by have := X.nV3; omega) (by have := hI.1.2.2.1.2.1; omega) (e3.symm.trans hI.v38)
  subst z1; subst z2; subst z3
  exact ⟨nG', nB', nV', nP, dy, kG, kB, kV, nT, ln, k, rl, X, hN, hI, hK, hrl⟩
theorem XSt.go {o : Nat → Nat} {sh : WSh} {N1 N2 T1 : WNm} (h : XSt o sh N1 T1) (e : ∀ i, 55 < i → N2 i = N1 i) (hT : MG N2 zz = T1) : XSt o sh N2 (MG N2 zz) := by
  obtain ⟨nG, nB, nV, kG, kB, kV, nT, ln, k, rl, X, hN, hK, hrl, e1, e2, e3⟩ := h
  refine ⟨nG, nB, nV, kG, kB, kV, nT, ln, k, rl, X.cong (by rw [e 105 (by decide)]) (by rw [e 106 (by decide)]) (by rw [e 107 (by decide)]), hN.cg X.nG8 X.nB3 X.nV3 ⟨fun i a _ => e i (by omega), ⟨e 111 (by decide), e 112 (by decide)⟩, fun i a _ => e i (by omega), fun i a _ k _ => by rw [e i (by omega)], fun i a _ => e i (by omega)⟩ (fun i _ => by rw [hT]), hK.keep (fun i hi => ⟨rfl, rfl, rfl, e i (by omega)⟩), hrl, by rw [hT]; exact e1, by rw [hT]; exact e2, by rw [hT]; exact e3⟩
/-- a step of both -/
theorem JI.next {o : Nat → Nat} {mF : WNm → Int32 × WNm} (hc : ∀ N K, mF (MG N K) = MP (mF N) K) {sh sh1 : WSh} {N N1 N2 : WNm} (h : JI o sh N) (hx : XSt o sh1 N1 (mF (MG N zz)).2) (hf : FRL sh N sh1 N1) (ht : ∃ nG nB nV nP dy, TI (mF (MG N zz)).2 nG nB nV nP dy) (hN2 : ∃ q, N2 = sc (mF N1).2 q) : JI o sh1 N2 ∧ (mF (MG N zz)).1 = (mF N1).1 := by
  obtain ⟨q, e⟩ := hN2
  have c1 : mF (MG N zz) = MP (mF N1) zz := by rw [← hf.mg zz]; exact hc N1 zz
  have c2 : (mF N1).2 = MG (mF N1).2 N1 := by
    have z := hc N1 N1
    rw [MG_self] at z
    exact congrArg Prod.snd z
  have c3 : MG N2 zz = (mF (MG N zz)).2 := by
    rw [c1, e]
    funext i
    show MG (sc (mF N1).2 q) zz i = MG (mF N1).2 zz i
    unfold MG
    split
    · rw [sc, if_neg (by omega)]
    · rfl
  have c4 : ∀ i, 55 < i → N2 i = N1 i := fun i hi => by
    rw [e, sc, if_neg (by omega), c2]
    exact if_neg (by omega)
  refine ⟨⟨h.1.keep hf, by rw [c3]; exact ht, hx.go c4 c3⟩, by rw [c1]⟩
theorem sc_ex (N : WNm) : ∃ q, N = sc N q := ⟨N, by funext a; unfold sc; split <;> rfl⟩
theorem LST.nm {sh : WSh} {N N1 : WNm} {o2 L b k : Nat} {xs : List Nat} (h : LST sh N o2 L b k xs) (e : N1 L 2 = N L 2) : LST sh N1 o2 L b k xs := by
  obtain ⟨⟨a1, a2, a3, a4, a5⟩, r⟩ := h
  exact ⟨⟨a1, a2, a3, by rw [e]; exact a4, a5⟩, r⟩
/-- out of what most methods of the class leave -/
theorem XSt.qx {o : Nat → Nat} {sh : WSh} {N N1 T T1 : WNm} {nG nB nV nP dy kG kB kV nT nT1 : Nat} {ln : Nat → Nat} {k : Nat} {rl : List Nat} (h : OP o sh N T nG nB nV nP dy kG kB kV nT ln k rl) (hN : XN N1 T1 nG nB nV nT1 ln) (hf : FRN N N1) {nP1 dy1 : Nat} (h1 : TI T1 nG nB nV nP1 dy1) : XSt o sh N1 T1 :=
  ⟨nG, nB, nV, kG, kB, kV, nT1, ln, k, rl, h.1.fr hf, hN, h.2.2.2.1.nm (by rw [hf.2 108 (by decide) (by decide)]), h.2.2.2.2, h1.g9, h1.b23, h1.v38⟩
