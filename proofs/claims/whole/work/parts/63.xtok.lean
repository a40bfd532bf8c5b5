/-! ===== THE CLASS: Reader's tokens ===== -/
/-- the reader's cells: itself, its tape, the tape's bytes, the steps -/
def RSh (sh : WSh) (R Z Y S : Nat) : Prop := (sh.1 R).1 = 2 ∧ sh.2.1 R 0 = some Z ∧ (sh.1 Z).1 = 3 ∧ sh.2.1 Z 0 = some Y ∧ sh.1 Y = (9, 200) ∧ sh.2.1 R 5 = some S ∧ sh.1 S = (9, 200) ∧ ¬ Z = R ∧ ¬ Y = R ∧ ¬ S = R ∧ ¬ Z = Y ∧ ¬ Z = S ∧ ¬ Y = S
theorem RSh.r {sh : WSh} {R Z Y S : Nat} (h : RSh sh R Z Y S) : (sh.1 R).1 = 2 := h.1
theorem RSh.t {sh : WSh} {R Z Y S : Nat} (h : RSh sh R Z Y S) : sh.2.1 R 0 = some Z := h.2.1
theorem RSh.z {sh : WSh} {R Z Y S : Nat} (h : RSh sh R Z Y S) : (sh.1 Z).1 = 3 := h.2.2.1
theorem RSh.y {sh : WSh} {R Z Y S : Nat} (h : RSh sh R Z Y S) : sh.2.1 Z 0 = some Y := h.2.2.2.1
theorem RSh.ya {sh : WSh} {R Z Y S : Nat} (h : RSh sh R Z Y S) : sh.1 Y = (9, 200) := h.2.2.2.2.1
theorem RSh.s {sh : WSh} {R Z Y S : Nat} (h : RSh sh R Z Y S) : sh.2.1 R 5 = some S := h.2.2.2.2.2.1
theorem RSh.sa {sh : WSh} {R Z Y S : Nat} (h : RSh sh R Z Y S) : sh.1 S = (9, 200) := h.2.2.2.2.2.2.1
theorem RSh.rz {sh : WSh} {R Z Y S : Nat} (h : RSh sh R Z Y S) : ¬ Z = R := h.2.2.2.2.2.2.2.1
theorem RSh.ry {sh : WSh} {R Z Y S : Nat} (h : RSh sh R Z Y S) : ¬ Y = R := h.2.2.2.2.2.2.2.2.1
theorem RSh.rs {sh : WSh} {R Z Y S : Nat} (h : RSh sh R Z Y S) : ¬ S = R := h.2.2.2.2.2.2.2.2.2.1
theorem RSh.zy {sh : WSh} {R Z Y S : Nat} (h : RSh sh R Z Y S) : ¬ Z = Y := h.2.2.2.2.2.2.2.2.2.2.1
theorem RSh.zs {sh : WSh} {R Z Y S : Nat} (h : RSh sh R Z Y S) : ¬ Z = S := h.2.2.2.2.2.2.2.2.2.2.2.1
theorem RSh.ys {sh : WSh} {R Z Y S : Nat} (h : RSh sh R Z Y S) : ¬ Y = S := h.2.2.2.2.2.2.2.2.2.2.2.2
def tAt (tp : Nat → Int32) (n j : Nat) : Int32 := if j < n then tp j else 32
theorem nI_sub {a b : Nat} (h : b ≤ a) : nI a - nI b = nI (a - b) := by
  have e : nI a = nI (a - b) + nI b := by rw [nI_add]; congr 1; omega
  rw [e]
  exact Int32.add_sub_cancel _ _
theorem cX_atj {l : Launch} {g : WGp} (hg : GOK g) {sh : WSh} {N : WNm} {R Z Y S : Nat} (RS : RSh sh R Z Y S) {o : Nat → Nat} (hX : HX g o) {n j : Nat} (hL : N Z 1 = nI n) (hn : n ≤ 200) (hj : j < 2147483648) : CT l g yX3_at cX3_at 2 (some .int) (RM 2 0 0) [.ref (sh.2.2 Z), .int (nI j)] sh N (QF g sh N (tAt (N Y) n j)) := by
  have z := cX_at (l := l) hg (N := N) RS.z RS.y RS.ya hX.n3 hL hn (nI j)
  have e : xAt N Z Y (nI j) = tAt (N Y) n j := by
    unfold xAt tAt
    by_cases h : j < n
    · have h2 : nI j ≤ N Z 1 - 1 := by
        rw [hL, show (1 : Int32) = nI 1 from rfl, nI_sub (by omega)]
        exact (n_nle (by omega) (by omega)).mpr (by omega)
      rw [if_pos h, if_pos ⟨nI_pos' (by omega), h2⟩]
      show N Y (nI j).toNatClampNeg = _
      rw [nI_clamp (by omega)]
    · rw [if_neg h, if_neg]
      rintro ⟨-, h2⟩
      rw [hL] at h2
      rcases Nat.eq_zero_or_pos n with h0 | h0
      · subst h0
        have h3 : (0 : Int32) ≤ nI j := nI_pos' (by omega)
        have h4 : nI 0 - 1 = -1 := by decide
        rw [h4] at h2
        exact absurd (Int32.le_trans h3 h2) (by decide)
      · rw [show (1 : Int32) = nI 1 from rfl, nI_sub (by omega), n_nle (by omega) (by omega)] at h2
        omega
  rw [e] at z
  exact z
/-- the reader's four numbers -/
def xT (N : WNm) (R : Nat) (t s p v : Int32) : WNm := u2 (u2 (u2 (u2 N R 1 p) R 2 t) R 3 s) R 4 v
theorem xT_row {N : WNm} {R a : Nat} {t s p v : Int32} (h : ¬ a = R) : xT N R t s p v a = N a := by unfold xT; rw [u2_row h, u2_row h, u2_row h, u2_row h]
theorem xT_g1 (N : WNm) (R : Nat) (t s p v : Int32) : xT N R t s p v R 1 = p := by simp [xT, u2]
theorem xT_g2 (N : WNm) (R : Nat) (t s p v : Int32) : xT N R t s p v R 2 = t := by simp [xT, u2]
theorem xT_g3 (N : WNm) (R : Nat) (t s p v : Int32) : xT N R t s p v R 3 = s := by simp [xT, u2]
theorem xT_g4 (N : WNm) (R : Nat) (t s p v : Int32) : xT N R t s p v R 4 = v := by simp [xT, u2]
theorem xT_g6 (N : WNm) (R : Nat) (t s p v : Int32) : xT N R t s p v R 6 = N R 6 := by simp [xT, u2]
theorem xT_ext {N M : WNm} {R : Nat} {t s p v : Int32} (h1 : M R 1 = p) (h2 : M R 2 = t) (h3 : M R 3 = s) (h4 : M R 4 = v) (ho : ∀ a b, ¬ (a = R ∧ (b = 1 ∨ b = 2 ∨ b = 3 ∨ b = 4)) → M a b = N a b) : M = xT N R t s p v := by
  funext a b
  by_cases ha : a = R
  · subst ha
    by_cases b1 : b = 1
    · subst b1; rw [h1, xT_g1]
    · by_cases b2 : b = 2
      · subst b2; rw [h2, xT_g2]
      · by_cases b3 : b = 3
        · subst b3; rw [h3, xT_g3]
        · by_cases b4 : b = 4
          · subst b4; rw [h4, xT_g4]
          · rw [ho a b (by simp [b1, b2, b3, b4])]; simp [xT, u2, b1, b2, b3, b4]
  · rw [ho a b (by simp [ha]), xT_row ha]
theorem xT_self (N : WNm) (R : Nat) : xT N R (N R 2) (N R 3) (N R 1) (N R 4) = N := (xT_ext rfl rfl rfl rfl (fun _ _ _ => rfl)).symm
theorem xT_p1 (N : WNm) (R : Nat) (t s p v x : Int32) : u2 (xT N R t s p v) R 1 x = xT N R t s x v := xT_ext (by simp [u2]) (by simp [u2, xT_g2]) (by simp [u2, xT_g3]) (by simp [u2, xT_g4]) (fun a b h => by simp only [xT, u2]; by_cases ha : a = R <;> simp_all)
theorem xT_p2 (N : WNm) (R : Nat) (t s p v x : Int32) : u2 (xT N R t s p v) R 2 x = xT N R x s p v := xT_ext (by simp [u2, xT_g1]) (by simp [u2]) (by simp [u2, xT_g3]) (by simp [u2, xT_g4]) (fun a b h => by simp only [xT, u2]; by_cases ha : a = R <;> simp_all)
theorem xT_p3 (N : WNm) (R : Nat) (t s p v x : Int32) : u2 (xT N R t s p v) R 3 x = xT N R t x p v := xT_ext (by simp [u2, xT_g1]) (by simp [u2, xT_g2]) (by simp [u2]) (by simp [u2, xT_g4]) (fun a b h => by simp only [xT, u2]; by_cases ha : a = R <;> simp_all)
theorem xT_p4 (N : WNm) (R : Nat) (t s p v x : Int32) : u2 (xT N R t s p v) R 4 x = xT N R t s p x := xT_ext (by simp [u2, xT_g1]) (by simp [u2, xT_g2]) (by simp [u2, xT_g3]) (by simp [u2]) (fun a b h => by simp only [xT, u2]; by_cases ha : a = R <;> simp_all)
theorem xT_xT (N : WNm) (R : Nat) (t s p v t1 s1 p1 v1 : Int32) : xT (xT N R t s p v) R t1 s1 p1 v1 = xT N R t1 s1 p1 v1 := by rw [xT, xT_p1, xT_p2, xT_p3, xT_p4]
/-- the letters from q to e are the word w and no more -/
def xIsW (tp : Nat → Int32) (q e w : Nat) : Prop := ∀ j, j < 8 → (if q + j < e then tp (q + j) else 32) = wch (w * 8 + j)
/-- the first word from k on, of f: token and value -/
noncomputable def xWd (tp : Nat → Int32) (q e : Nat) (v : Int32) : Nat → Nat → Int32 × Int32
  | 0, _ => (259, v)
  | f + 1, k => @ite _ (xIsW tp q e k) (Classical.propDecidable _) (if k < 13 then 258 else nI (247 + k), nI k) (xWd tp q e v f (k + 1))
def xNum (tp : Nat → Int32) (q : Nat) : Nat → Int32
  | 0 => 0
  | k + 1 => xNum tp q k * 10 + tp (q + k) - 48

theorem nI_mul (a b : Nat) : nI a * nI b = nI (a * b) := (Int32.ofNat_mul a b).symm

theorem cX_isWord {l : Launch} {g : WGp} (hg : GOK g) {sh : WSh} {N : WNm} {R Z Y S : Nat} (RS : RSh sh R Z Y S) {o : Nat → Nat} (hX : HX g o) {n : Nat} (hL : N Z 1 = nI n) (hn : n ≤ 200) {q e w : Nat} (hq : N R 3 = nI q) (he : N R 1 = nI e) (hqe : q ≤ e) (hen : e ≤ n) (hw : w < 16) : CT l g yX2_isWord cX2_isWord 4 (some .boolean) (RM 5 0 0) [.ref (sh.2.2 R), .int (nI w)] sh N (QF g sh N (pb (xIsW (N Y) q e w))) := by
  refine ent hg (by decide +kernel) (Nat.le_of_ble_eq_true rfl) ?_
  intro p e0 s m args below meth c C hname
  refine j_iconst C dX2_isWord_0 (v := 0) (by decide) ?_
  refine j_istore_n C dX2_isWord_1 (by decide) rfl ?_
  suffices key : ∀ k, k ≤ 8 → (∀ j, j < k → (if q + j < e then N Y (q + j) else 32) = wch (w * 8 + j)) → J p l e0 (RM 5 0 0) s m args below meth c (MQ below (QF g sh N (pb (xIsW (N Y) q e w))) args s 0 0 g.A) g 4 sh N 0 0 2 [some (.ref (sh.2.2 R)), some (.int (nI w)), some (.int (nI k)), none] [] from key 0 (by omega) (fun j h => absurd h (by omega))
  refine up_ind (n := 8) ?_
  intro k hk ih hall
  refine j_iload_n C dX2_isWord_2 rfl ?_
  refine j_bipush C dX2_isWord_3 (v := 8) (by decide) ?_
  refine j_icmp_ge (tgt := 63) C dX2_isWord_5 (by decide) (fun h5 => ?_) (fun h5 => ?_)
  · skip
    refine j_iconst C dX2_isWord_63 (v := 1) (by decide) ?_
    rw [show (8 : Int32) = nI 8 from rfl, n_nle (by omega) (by omega)] at h5
    obtain rfl : k = 8 := by omega
    exact j_iret C dX2_isWord_64 rfl ⟨rfl, rfl, (pb_t hall).symm⟩
  · skip
    rw [show (8 : Int32) = nI 8 from rfl, n_nle (by omega) (by omega)] at h5
    refine j_aload_n C dX2_isWord_8 rfl ?_
    refine j_getI C fl_X2_39 dX2_isWord_9 (RS.r) rfl ?_
    rw [hq]
    refine j_iload_n C dX2_isWord_12 rfl ?_
    refine j_iadd C dX2_isWord_13 ?_
    rw [nI_add]
    refine j_aload_n C dX2_isWord_14 rfl ?_
    refine j_getI C fl_X2_22 dX2_isWord_15 (RS.r) rfl ?_
    rw [he]
    refine j_icmp_ge (tgt := 37) C dX2_isWord_18 (by decide) (fun h18 => ?_) (fun h18 => ?_)
    · skip
      rw [n_nle (by omega) (by omega)] at h18
      refine j_bipush C dX2_isWord_37 (v := 32) (by decide) ?_
      refine j_istore_n C dX2_isWord_39 (by decide) rfl ?_
      refine j_iload_n C dX2_isWord_40 rfl ?_
      skip
      refine j_ldcS C (hX _ _ C.2.2.2.2.2.1.2.1).1.1 dX2_isWord_41 ?_
      refine j_iload_n C dX2_isWord_43 rfl ?_
      refine j_bipush C dX2_isWord_44 (v := 8) (by decide) ?_
      refine j_imul C dX2_isWord_46 ?_
      rw [show nI w * 8 = nI (w * 8) from nI_mul _ _]
      refine j_iload_n C dX2_isWord_47 rfl ?_
      refine j_iadd C dX2_isWord_48 ?_
      rw [nI_add]
      refine j_callO1I C ml_X2_105 dX2_isWord_49 (cJ_charAt hg hX (k := w * 8 + k) (by omega)) ((hX _ _ C.2.2.2.2.2.1.2.1).1.2.1.1 0 (by decide)).1 ⟨Nat.le_of_ble_eq_true rfl, Nat.le_of_ble_eq_true rfl⟩ (Nat.le_of_ble_eq_true rfl) ⟨rfl, rfl⟩ ⟨Nat.zero_le _, Nat.zero_le _⟩ ?_
      refine j_icmp_eq (tgt := 57) C dX2_isWord_52 (by decide) (fun h52 => ?_) (fun h52 => ?_)
      · skip
        skip
        refine j_iincN C dX2_isWord_57 rfl (by decide) rfl ?_
        refine j_goto (tgt := 2) C dX2_isWord_60 (by decide) ?_
        have hnew : (if q + k < e then N Y (q + k) else 32) = wch (w * 8 + k) := by rw [if_neg (by omega)]; exact h52
        exact J.le (lv1 := [some (.ref (sh.2.2 R)), some (.int (nI w)), some (.int (nI (k + 1))), none]) ⟨rfl, rfl, rfl, trivial⟩ (ih (by omega) (fun j hj => by
          rcases Nat.lt_or_ge j k with h | h
          · exact hall j h
          · obtain rfl : j = k := by omega
            exact hnew))
      · skip
        refine j_iconst C dX2_isWord_55 (v := 0) (by decide) ?_
        refine j_iret C dX2_isWord_56 rfl ⟨rfl, rfl, (pb_f (fun z => h52 ?_)).symm⟩
        have z1 := z k (by omega)
        first | (rw [if_pos (by omega)] at z1; exact z1) | (rw [if_neg (by omega)] at z1; exact z1)
    · skip
      rw [n_nle (by omega) (by omega)] at h18
      refine j_aload_n C dX2_isWord_21 rfl ?_
      refine j_getR (j := Z) C fl_X2_12 dX2_isWord_22 (RS.r) rfl (RS.t) ?_
      refine j_aload_n C dX2_isWord_25 rfl ?_
      refine j_getI C fl_X2_39 dX2_isWord_26 (RS.r) rfl ?_
      rw [hq]
      refine j_iload_n C dX2_isWord_29 rfl ?_
      refine j_iadd C dX2_isWord_30 ?_
      rw [nI_add]
      refine j_callV1I C ml_X2_82 dX2_isWord_31 (cX_atj hg RS hX (N := N) (n := n) (j := q + k) (hL) hn (by omega)) ⟨by rw [RS.z]; decide, by rw [RS.z]; rfl⟩ ⟨Nat.le_of_ble_eq_true rfl, Nat.le_of_ble_eq_true rfl⟩ (Nat.le_of_ble_eq_true rfl) ⟨rfl, rfl⟩ ⟨Nat.zero_le _, Nat.zero_le _⟩ ?_
      rw [show tAt (N Y) n (q + k) = N Y (q + k) from if_pos (by omega)]
      refine j_goto (tgt := 39) C dX2_isWord_34 (by decide) ?_
      refine j_istore_n C dX2_isWord_39 (by decide) rfl ?_
      refine j_iload_n C dX2_isWord_40 rfl ?_
      skip
      refine j_ldcS C (hX _ _ C.2.2.2.2.2.1.2.1).1.1 dX2_isWord_41 ?_
      refine j_iload_n C dX2_isWord_43 rfl ?_
      refine j_bipush C dX2_isWord_44 (v := 8) (by decide) ?_
      refine j_imul C dX2_isWord_46 ?_
      rw [show nI w * 8 = nI (w * 8) from nI_mul _ _]
      refine j_iload_n C dX2_isWord_47 rfl ?_
      refine j_iadd C dX2_isWord_48 ?_
      rw [nI_add]
      refine j_callO1I C ml_X2_105 dX2_isWord_49 (cJ_charAt hg hX (k := w * 8 + k) (by omega)) ((hX _ _ C.2.2.2.2.2.1.2.1).1.2.1.1 0 (by decide)).1 ⟨Nat.le_of_ble_eq_true rfl, Nat.le_of_ble_eq_true rfl⟩ (Nat.le_of_ble_eq_true rfl) ⟨rfl, rfl⟩ ⟨Nat.zero_le _, Nat.zero_le _⟩ ?_
      refine j_icmp_eq (tgt := 57) C dX2_isWord_52 (by decide) (fun h52 => ?_) (fun h52 => ?_)
      · skip
        skip
        refine j_iincN C dX2_isWord_57 rfl (by decide) rfl ?_
        refine j_goto (tgt := 2) C dX2_isWord_60 (by decide) ?_
        have hnew : (if q + k < e then N Y (q + k) else 32) = wch (w * 8 + k) := by rw [if_pos (by omega)]; exact h52
        exact J.le (lv1 := [some (.ref (sh.2.2 R)), some (.int (nI w)), some (.int (nI (k + 1))), none]) ⟨rfl, rfl, rfl, trivial⟩ (ih (by omega) (fun j hj => by
          rcases Nat.lt_or_ge j k with h | h
          · exact hall j h
          · obtain rfl : j = k := by omega
            exact hnew))
      · skip
        refine j_iconst C dX2_isWord_55 (v := 0) (by decide) ?_
        refine j_iret C dX2_isWord_56 rfl ⟨rfl, rfl, (pb_f (fun z => h52 ?_)).symm⟩
        have z1 := z k (by omega)
        first | (rw [if_pos (by omega)] at z1; exact z1) | (rw [if_neg (by omega)] at z1; exact z1)

theorem cX_takeNumber {l : Launch} {g : WGp} (hg : GOK g) {sh : WSh} {N : WNm} {R Z Y S : Nat} (RS : RSh sh R Z Y S) {o : Nat → Nat} (hX : HX g o) {n : Nat} (hL : N Z 1 = nI n) (hn : n ≤ 200) {q : Nat} (hq : N R 3 = nI q) (he : N R 1 = nI q) (hqn : q ≤ n) : CT l g yX2_takeNumber cX2_takeNumber 2 none (RM 3 0 0) [.ref (sh.2.2 R)] sh N (QFv g sh (xT N R (if eDg (N Y) n q - q ≤ 5 then 257 else 259) (nI q) (nI (eDg (N Y) n q)) (xNum (N Y) q (eDg (N Y) n q - q)))) := by
  refine ent hg (by decide +kernel) (Nat.le_of_ble_eq_true rfl) ?_
  intro p e s m args below meth c C hname
  have e0 : u2 N R 4 0 = xT N R (N R 2) (nI q) (nI (q + 0)) (xNum (N Y) q 0) := xT_ext (by simp [u2, he]) (by simp [u2]) (by simp [u2, hq]) (by simp [u2, xNum]) (fun a b h => u2_ne (fun z => h ⟨z.1, by omega⟩))
  have fin : ∀ k, eDg (N Y) n q = q + k → J p l e (RM 3 0 0) s m args below meth c (MQ below (QFv g sh (xT N R (if eDg (N Y) n q - q ≤ 5 then 257 else 259) (nI q) (nI (eDg (N Y) n q)) (xNum (N Y) q (eDg (N Y) n q - q)))) args s 0 0 g.A) g 2 sh (xT N R (N R 2) (nI q) (nI (q + k)) (xNum (N Y) q k)) 0 0 73 [some (.ref (sh.2.2 R)), some (.int (nI k))] [] := by
    intro k hE
    have hk2 : q + k ≤ n := by have := scan_le (fun j => 48 ≤ N Y j ∧ N Y j ≤ 57) (n - q) q; rw [eDg] at hE; omega
    have em : ∀ tk, (if k ≤ 5 then 257 else 259) = tk → xT N R tk (nI q) (nI (q + k)) (xNum (N Y) q k) = (xT N R (if eDg (N Y) n q - q ≤ 5 then 257 else 259) (nI q) (nI (eDg (N Y) n q)) (xNum (N Y) q (eDg (N Y) n q - q))) := by
      intro tk et
      rw [hE, show q + k - q = k by omega, et]
    refine j_aload_n C dX2_takeNumber_73 rfl ?_
    refine j_aload_n C dX2_takeNumber_74 rfl ?_
    refine j_getI C fl_X2_22 dX2_takeNumber_75 (RS.r) rfl ?_
    rw [xT_g1]
    refine j_aload_n C dX2_takeNumber_78 rfl ?_
    refine j_getI C fl_X2_39 dX2_takeNumber_79 (RS.r) rfl ?_
    rw [xT_g3]
    refine j_isub C dX2_takeNumber_82 ?_
    rw [nI_sub (by omega), show q + k - q = k by omega]
    refine j_iconst C dX2_takeNumber_83 (v := 5) (by decide) ?_
    refine j_icmp_gt (tgt := 93) C dX2_takeNumber_84 (by decide) (fun h84 => ?_) (fun h84 => ?_)
    · skip
      rw [show (5 : Int32) = nI 5 from rfl, n_nlt (by omega) (by omega)] at h84
      refine j_sipush C dX2_takeNumber_93 (v := 259) (by decide) ?_
      refine j_putI C fl_X2_36 dX2_takeNumber_96 (RS.r) rfl rfl rfl rfl ?_
      rw [xT_p2]
      refine j_vret C dX2_takeNumber_99 ⟨rfl, ?_⟩
      first | exact em _ (if_pos (by omega)) | exact em _ (if_neg (by omega))
    · skip
      rw [show (5 : Int32) = nI 5 from rfl, n_nlt (by omega) (by omega)] at h84
      refine j_sipush C dX2_takeNumber_87 (v := 257) (by decide) ?_
      refine j_goto (tgt := 96) C dX2_takeNumber_90 (by decide) ?_
      refine j_putI C fl_X2_36 dX2_takeNumber_96 (RS.r) rfl rfl rfl rfl ?_
      rw [xT_p2]
      refine j_vret C dX2_takeNumber_99 ⟨rfl, ?_⟩
      first | exact em _ (if_pos (by omega)) | exact em _ (if_neg (by omega))
  refine j_aload_n C dX2_takeNumber_0 rfl ?_
  refine j_iconst C dX2_takeNumber_1 (v := 0) (by decide) ?_
  refine j_putI C fl_X2_70 dX2_takeNumber_2 (RS.r) rfl rfl rfl rfl ?_
  refine j_iconst C dX2_takeNumber_5 (v := 0) (by decide) ?_
  refine j_istore_n C dX2_takeNumber_6 (by decide) rfl ?_
  rw [e0]
  suffices key : ∀ (d k : Nat), n - (q + k) = d → q + k ≤ n → eDg (N Y) n q = scan (fun j => 48 ≤ N Y j ∧ N Y j ≤ 57) (n - (q + k)) (q + k) → J p l e (RM 3 0 0) s m args below meth c (MQ below (QFv g sh (xT N R (if eDg (N Y) n q - q ≤ 5 then 257 else 259) (nI q) (nI (eDg (N Y) n q)) (xNum (N Y) q (eDg (N Y) n q - q)))) args s 0 0 g.A) g 2 sh (xT N R (N R 2) (nI q) (nI (q + k)) (xNum (N Y) q k)) 0 0 7 [some (.ref (sh.2.2 R)), some (.int (nI k))] [] from key (n - (q + 0)) 0 rfl hqn rfl
  intro d
  induction d with
  | zero =>
    intro k hd hk he2
    refine j_iload_n C dX2_takeNumber_7 rfl ?_
    refine j_sipush C dX2_takeNumber_8 (v := 200) (by decide) ?_
    refine j_icmp_ge (tgt := 73) C dX2_takeNumber_11 (by decide) (fun h11 => ?_) (fun h11 => ?_)
    · skip
      rw [show (200 : Int32) = nI 200 from rfl, n_nle (by omega) (by omega)] at h11
      exact fin k (he2.trans (scan_no (fun hlt => absurd hlt (by omega)) hk))
    · skip
      refine j_aload_n C dX2_takeNumber_14 rfl ?_
      refine j_getR (j := Z) C fl_X2_12 dX2_takeNumber_15 (RS.r) rfl (RS.t) ?_
      refine j_aload_n C dX2_takeNumber_18 rfl ?_
      skip
      refine j_getI C fl_X2_22 dX2_takeNumber_19 (RS.r) rfl ?_
      rw [xT_g1]
      refine j_callV1I C ml_X2_82 dX2_takeNumber_22 (cX_atj hg RS hX (N := (xT N R (N R 2) (nI q) (nI (q + k)) (xNum (N Y) q k))) (n := n) (j := q + k) (by rw [xT_row RS.rz]; exact hL) hn (by omega)) ⟨by rw [RS.z]; decide, by rw [RS.z]; rfl⟩ ⟨Nat.le_of_ble_eq_true rfl, Nat.le_of_ble_eq_true rfl⟩ (Nat.le_of_ble_eq_true rfl) ⟨rfl, rfl⟩ ⟨Nat.zero_le _, Nat.zero_le _⟩ ?_
      rw [xT_row RS.ry]
      refine j_callS1I C ml_X2_86 dX2_takeNumber_25 (cX_isDigit hg hX.n2 _) ⟨Nat.le_of_ble_eq_true rfl, Nat.le_of_ble_eq_true rfl⟩ (Nat.le_of_ble_eq_true rfl) ⟨rfl, rfl⟩ ⟨Nat.zero_le _, Nat.zero_le _⟩ ?_
      refine j_if_eq (tgt := 73) C dX2_takeNumber_28 (by decide) (fun h28 => ?_) (fun h28 => ?_)
      · replace h28 := b2_eq0.mp h28
        exact fin k (he2.trans (scan_no (fun hlt => by rw [show tAt (N Y) n (q + k) = N Y (q + k) from if_pos hlt] at h28; exact h28) hk))
      · replace h28 := b2_ne0.mp h28
        have hlt : q + k < n := by
          refine Nat.not_le.mp (fun hge => ?_)
          rw [show tAt (N Y) n (q + k) = 32 from if_neg (by omega)] at h28
          exact absurd h28 (by decide)
        omega
  | succ d ih =>
    intro k hd hk he2
    refine j_iload_n C dX2_takeNumber_7 rfl ?_
    refine j_sipush C dX2_takeNumber_8 (v := 200) (by decide) ?_
    refine j_icmp_ge (tgt := 73) C dX2_takeNumber_11 (by decide) (fun h11 => ?_) (fun h11 => ?_)
    · skip
      rw [show (200 : Int32) = nI 200 from rfl, n_nle (by omega) (by omega)] at h11
      exact fin k (he2.trans (scan_no (fun hlt => absurd hlt (by omega)) hk))
    · skip
      refine j_aload_n C dX2_takeNumber_14 rfl ?_
      refine j_getR (j := Z) C fl_X2_12 dX2_takeNumber_15 (RS.r) rfl (RS.t) ?_
      refine j_aload_n C dX2_takeNumber_18 rfl ?_
      skip
      refine j_getI C fl_X2_22 dX2_takeNumber_19 (RS.r) rfl ?_
      rw [xT_g1]
      refine j_callV1I C ml_X2_82 dX2_takeNumber_22 (cX_atj hg RS hX (N := (xT N R (N R 2) (nI q) (nI (q + k)) (xNum (N Y) q k))) (n := n) (j := q + k) (by rw [xT_row RS.rz]; exact hL) hn (by omega)) ⟨by rw [RS.z]; decide, by rw [RS.z]; rfl⟩ ⟨Nat.le_of_ble_eq_true rfl, Nat.le_of_ble_eq_true rfl⟩ (Nat.le_of_ble_eq_true rfl) ⟨rfl, rfl⟩ ⟨Nat.zero_le _, Nat.zero_le _⟩ ?_
      rw [xT_row RS.ry]
      refine j_callS1I C ml_X2_86 dX2_takeNumber_25 (cX_isDigit hg hX.n2 _) ⟨Nat.le_of_ble_eq_true rfl, Nat.le_of_ble_eq_true rfl⟩ (Nat.le_of_ble_eq_true rfl) ⟨rfl, rfl⟩ ⟨Nat.zero_le _, Nat.zero_le _⟩ ?_
      refine j_if_eq (tgt := 73) C dX2_takeNumber_28 (by decide) (fun h28 => ?_) (fun h28 => ?_)
      · replace h28 := b2_eq0.mp h28
        exact fin k (he2.trans (scan_no (fun hlt => by rw [show tAt (N Y) n (q + k) = N Y (q + k) from if_pos hlt] at h28; exact h28) hk))
      · replace h28 := b2_ne0.mp h28
        have hlt : q + k < n := by
          refine Nat.not_le.mp (fun hge => ?_)
          rw [show tAt (N Y) n (q + k) = 32 from if_neg (by omega)] at h28
          exact absurd h28 (by decide)
        rw [show tAt (N Y) n (q + k) = N Y (q + k) from if_pos hlt] at h28
        refine j_aload_n C dX2_takeNumber_31 rfl ?_
        refine j_aload_n C dX2_takeNumber_32 rfl ?_
        refine j_getI C fl_X2_70 dX2_takeNumber_33 (RS.r) rfl ?_
        rw [xT_g4]
        refine j_bipush C dX2_takeNumber_36 (v := 10) (by decide) ?_
        refine j_imul C dX2_takeNumber_38 ?_
        refine j_aload_n C dX2_takeNumber_39 rfl ?_
        refine j_getR (j := Z) C fl_X2_12 dX2_takeNumber_40 (RS.r) rfl (RS.t) ?_
        refine j_aload_n C dX2_takeNumber_43 rfl ?_
        refine j_getI C fl_X2_22 dX2_takeNumber_44 (RS.r) rfl ?_
        rw [xT_g1]
        refine j_callV1I C ml_X2_82 dX2_takeNumber_47 (cX_atj hg RS hX (N := (xT N R (N R 2) (nI q) (nI (q + k)) (xNum (N Y) q k))) (n := n) (j := q + k) (by rw [xT_row RS.rz]; exact hL) hn (by omega)) ⟨by rw [RS.z]; decide, by rw [RS.z]; rfl⟩ ⟨Nat.le_of_ble_eq_true rfl, Nat.le_of_ble_eq_true rfl⟩ (Nat.le_of_ble_eq_true rfl) ⟨rfl, rfl⟩ ⟨Nat.zero_le _, Nat.zero_le _⟩ ?_
        rw [xT_row RS.ry, show tAt (N Y) n (q + k) = N Y (q + k) from if_pos hlt]
        skip
        refine j_iadd C dX2_takeNumber_50 ?_
        refine j_bipush C dX2_takeNumber_51 (v := 48) (by decide) ?_
        refine j_isub C dX2_takeNumber_53 ?_
        refine j_putI C fl_X2_70 dX2_takeNumber_54 (RS.r) rfl rfl rfl rfl ?_
        rw [xT_p4]
        refine j_aload_n C dX2_takeNumber_57 rfl ?_
        refine j_dup C dX2_takeNumber_58 rfl ?_
        refine j_getI C fl_X2_22 dX2_takeNumber_59 (RS.r) rfl ?_
        rw [show (xT N R (N R 2) (nI q) (nI (q + k)) _) R 1 = nI (q + k) from xT_g1 _ _ _ _ _ _]
        refine j_iconst C dX2_takeNumber_62 (v := 1) (by decide) ?_
        skip
        refine j_iadd C dX2_takeNumber_63 ?_
        rw [nI_1]
        refine j_putI C fl_X2_22 dX2_takeNumber_64 (RS.r) rfl rfl rfl rfl ?_
        rw [xT_p1]
        refine j_iincN C dX2_takeNumber_67 rfl (by decide) rfl ?_
        refine j_goto (tgt := 7) C dX2_takeNumber_70 (by decide) ?_
        exact ih (k + 1) (by omega) (by omega) (he2.trans (scan_go hlt h28))

theorem cX_takeWord {l : Launch} {g : WGp} (hg : GOK g) {sh : WSh} {N : WNm} {R Z Y S : Nat} (RS : RSh sh R Z Y S) {o : Nat → Nat} (hX : HX g o) {n : Nat} (hL : N Z 1 = nI n) (hn : n ≤ 200) {q : Nat} (hq : N R 3 = nI q) (he : N R 1 = nI q) (hqn : q ≤ n) : CT l g yX2_takeWord cX2_takeWord 2 none (RM 6 0 0) [.ref (sh.2.2 R)] sh N (QFv g sh (xT N R (xWd (N Y) q (eLt (N Y) n q) (N R 4) 16 0).1 (nI q) (nI (eLt (N Y) n q)) (xWd (N Y) q (eLt (N Y) n q) (N R 4) 16 0).2)) := by
  refine ent hg (by decide +kernel) (Nat.le_of_ble_eq_true rfl) ?_
  intro p e s m args below meth c C hname
  have e0 : N = xT N R (N R 2) (nI q) (nI (q + 0)) (N R 4) := xT_ext he rfl hq rfl (fun _ _ _ => rfl)
  have fin : ∀ k, eLt (N Y) n q = q + k → ∀ i, J p l e (RM 6 0 0) s m args below meth c (MQ below (QFv g sh (xT N R (xWd (N Y) q (eLt (N Y) n q) (N R 4) 16 0).1 (nI q) (nI (eLt (N Y) n q)) (xWd (N Y) q (eLt (N Y) n q) (N R 4) 16 0).2)) args s 0 0 g.A) g 2 sh (xT N R (N R 2) (nI q) (nI (q + k)) (N R 4)) 0 0 42 [some (.ref (sh.2.2 R)), some (.int i)] [] := by
    intro k hE i
    have hk2 : q + k ≤ n := by have := scan_le (fun j => 97 ≤ N Y j ∧ N Y j ≤ 122) (n - q) q; rw [eLt] at hE; omega
    have done : ∀ (tk v i : Int32), xT N R tk (nI q) (nI (q + k)) v = (xT N R (xWd (N Y) q (eLt (N Y) n q) (N R 4) 16 0).1 (nI q) (nI (eLt (N Y) n q)) (xWd (N Y) q (eLt (N Y) n q) (N R 4) 16 0).2) → J p l e (RM 6 0 0) s m args below meth c (MQ below (QFv g sh (xT N R (xWd (N Y) q (eLt (N Y) n q) (N R 4) 16 0).1 (nI q) (nI (eLt (N Y) n q)) (xWd (N Y) q (eLt (N Y) n q) (N R 4) 16 0).2)) args s 0 0 g.A) g 2 sh (xT N R tk (nI q) (nI (q + k)) v) 0 0 110 [some (.ref (sh.2.2 R)), some (.int i)] [] := by
      intro tk v i h
      exact j_vret C dX2_takeWord_110 ⟨rfl, h⟩
    suffices key : ∀ f w, w + f = 16 → xWd (N Y) q (q + k) (N R 4) f w = xWd (N Y) q (q + k) (N R 4) 16 0 → J p l e (RM 6 0 0) s m args below meth c (MQ below (QFv g sh (xT N R (xWd (N Y) q (eLt (N Y) n q) (N R 4) 16 0).1 (nI q) (nI (eLt (N Y) n q)) (xWd (N Y) q (eLt (N Y) n q) (N R 4) 16 0).2)) args s 0 0 g.A) g 2 sh (xT N R 259 (nI q) (nI (q + k)) (N R 4)) 0 0 51 [some (.ref (sh.2.2 R)), some (.int (nI w))] [] from by
      refine j_aload_n C dX2_takeWord_42 rfl ?_
      refine j_sipush C dX2_takeWord_43 (v := 259) (by decide) ?_
      refine j_putI C fl_X2_36 dX2_takeWord_46 (RS.r) rfl rfl rfl rfl ?_
      rw [xT_p2]
      refine j_iconst C dX2_takeWord_49 (v := 0) (by decide) ?_
      refine j_istore_n C dX2_takeWord_50 (by decide) rfl ?_
      exact key 16 0 rfl rfl
    intro f
    induction f with
    | zero =>
      intro w hw hx
      refine j_iload_n C dX2_takeWord_51 rfl ?_
      refine j_bipush C dX2_takeWord_52 (v := 16) (by decide) ?_
      refine j_icmp_ge (tgt := 110) C dX2_takeWord_54 (by decide) (fun h54 => ?_) (fun h54 => ?_)
      · skip
        refine done _ _ _ ?_
        rw [hE, ← hx, xWd]
      · skip
        exact absurd (show (16 : Int32) ≤ nI w by rw [show w = 16 by omega]; decide) h54
    | succ f ih =>
      intro w hw hx
      refine j_iload_n C dX2_takeWord_51 rfl ?_
      refine j_bipush C dX2_takeWord_52 (v := 16) (by decide) ?_
      refine j_icmp_ge (tgt := 110) C dX2_takeWord_54 (by decide) (fun h54 => ?_) (fun h54 => ?_)
      · skip
        rw [show (16 : Int32) = nI 16 from rfl, n_nle (by omega) (by omega)] at h54
        omega
      · skip
        refine j_aload_n C dX2_takeWord_57 rfl ?_
        refine j_getI C fl_X2_36 dX2_takeWord_58 (RS.r) rfl ?_
        rw [xT_g2]
        refine j_sipush C dX2_takeWord_61 (v := 259) (by decide) ?_
        refine j_icmp_ne (tgt := 110) C dX2_takeWord_64 (by decide) (fun h64 => ?_) (fun h64 => ?_)
        · skip
          exact absurd rfl h64
        · replace h64 := Decidable.not_not.mp h64
          skip
          refine j_aload_n C dX2_takeWord_67 rfl ?_
          refine j_iload_n C dX2_takeWord_68 rfl ?_
          refine j_callV1I C ml_X2_98 dX2_takeWord_69 (cX_isWord hg RS hX (N := (xT N R 259 (nI q) (nI (q + k)) (N R 4))) (n := n) (q := q) (e := q + k) (w := w) (by rw [xT_row RS.rz]; exact hL) hn (xT_g3 _ _ _ _ _ _) (xT_g1 _ _ _ _ _ _) (by omega) hk2 (by omega)) ⟨by rw [RS.r]; decide, by rw [RS.r]; rfl⟩ ⟨Nat.le_of_ble_eq_true rfl, Nat.le_of_ble_eq_true rfl⟩ (Nat.le_of_ble_eq_true rfl) ⟨rfl, rfl⟩ ⟨Nat.zero_le _, Nat.zero_le _⟩ ?_
          rw [xT_row RS.ry]
          refine j_if_eq (tgt := 104) C dX2_takeWord_72 (by decide) (fun h72 => ?_) (fun h72 => ?_)
          · replace h72 := pb_eq0.mp h72
            refine j_iincN C dX2_takeWord_104 rfl (by decide) rfl ?_
            refine j_goto (tgt := 51) C dX2_takeWord_107 (by decide) ?_
            exact ih (w + 1) (by omega) (by rw [← hx, xWd, if_neg h72])
          · replace h72 := pb_ne0.mp h72
            have hx1 : xWd (N Y) q (q + k) (N R 4) 16 0 = (if w < 13 then 258 else nI (247 + w), nI w) := by rw [← hx, xWd, if_pos h72]
            have after : ∀ tk : Int32, ¬ tk = 259 → (if w < 13 then 258 else nI (247 + w)) = tk → J p l e (RM 6 0 0) s m args below meth c (MQ below (QFv g sh (xT N R (xWd (N Y) q (eLt (N Y) n q) (N R 4) 16 0).1 (nI q) (nI (eLt (N Y) n q)) (xWd (N Y) q (eLt (N Y) n q) (N R 4) 16 0).2)) args s 0 0 g.A) g 2 sh (xT N R tk (nI q) (nI (q + k)) (nI w)) 0 0 104 [some (.ref (sh.2.2 R)), some (.int (nI w))] [] := by
              intro tk hne het
              refine j_iincN C dX2_takeWord_104 rfl (by decide) rfl ?_
              refine j_goto (tgt := 51) C dX2_takeWord_107 (by decide) ?_
              have hd : xT N R tk (nI q) (nI (q + k)) (nI w) = (xT N R (xWd (N Y) q (eLt (N Y) n q) (N R 4) 16 0).1 (nI q) (nI (eLt (N Y) n q)) (xWd (N Y) q (eLt (N Y) n q) (N R 4) 16 0).2) := by rw [hE, hx1, het]
              refine j_iload_n C dX2_takeWord_51 rfl ?_
              refine j_bipush C dX2_takeWord_52 (v := 16) (by decide) ?_
              refine j_icmp_ge (tgt := 110) C dX2_takeWord_54 (by decide) (fun h54 => ?_) (fun h54 => ?_)
              · skip
                exact done _ _ _ hd
              · skip
                refine j_aload_n C dX2_takeWord_57 rfl ?_
                refine j_getI C fl_X2_36 dX2_takeWord_58 (RS.r) rfl ?_
                rw [xT_g2]
                refine j_sipush C dX2_takeWord_61 (v := 259) (by decide) ?_
                refine j_icmp_ne (tgt := 110) C dX2_takeWord_64 (by decide) (fun h64 => ?_) (fun h64 => ?_)
                · skip
                  exact done _ _ _ hd
                · replace h64 := Decidable.not_not.mp h64
                  exact absurd h64 hne
            refine j_aload_n C dX2_takeWord_75 rfl ?_
            refine j_iload_n C dX2_takeWord_76 rfl ?_
            refine j_putI C fl_X2_70 dX2_takeWord_77 (RS.r) rfl rfl rfl rfl ?_
            rw [xT_p4]
            refine j_aload_n C dX2_takeWord_80 rfl ?_
            refine j_iload_n C dX2_takeWord_81 rfl ?_
            refine j_bipush C dX2_takeWord_82 (v := 13) (by decide) ?_
            refine j_icmp_ge (tgt := 93) C dX2_takeWord_84 (by decide) (fun h84 => ?_) (fun h84 => ?_)
            · skip
              rw [show (13 : Int32) = nI 13 from rfl, n_nle (by omega) (by omega)] at h84
              refine j_sipush C dX2_takeWord_93 (v := 260) (by decide) ?_
              refine j_iload_n C dX2_takeWord_96 rfl ?_
              refine j_iadd C dX2_takeWord_97 ?_
              skip
              refine j_bipush C dX2_takeWord_98 (v := 13) (by decide) ?_
              refine j_isub C dX2_takeWord_100 ?_
              skip
              refine j_putI C fl_X2_36 dX2_takeWord_101 (RS.r) rfl rfl rfl rfl ?_
              rw [xT_p2]
              exact after _ (by rw [show (260 : Int32) + nI w - 13 = nI (247 + w) from by rw [show (260 : Int32) = nI 260 from rfl, nI_add, show (13 : Int32) = nI 13 from rfl, nI_sub (by omega)]; congr 1; omega, show (259 : Int32) = nI 259 from rfl, nI_eq (by omega) (by omega)]; omega) (by rw [if_neg (by omega), show (260 : Int32) + nI w - 13 = nI (247 + w) from by rw [show (260 : Int32) = nI 260 from rfl, nI_add, show (13 : Int32) = nI 13 from rfl, nI_sub (by omega)]; congr 1; omega])
            · skip
              rw [show (13 : Int32) = nI 13 from rfl, n_nle (by omega) (by omega)] at h84
              refine j_sipush C dX2_takeWord_87 (v := 258) (by decide) ?_
              refine j_goto (tgt := 101) C dX2_takeWord_90 (by decide) ?_
              skip
              refine j_putI C fl_X2_36 dX2_takeWord_101 (RS.r) rfl rfl rfl rfl ?_
              rw [xT_p2]
              exact after _ (by decide) (by rw [if_pos (by omega)])
  refine j_iconst C dX2_takeWord_0 (v := 0) (by decide) ?_
  refine j_istore_n C dX2_takeWord_1 (by decide) rfl ?_
  suffices key : ∀ (d k : Nat), n - (q + k) = d → q + k ≤ n → eLt (N Y) n q = scan (fun j => 97 ≤ N Y j ∧ N Y j ≤ 122) (n - (q + k)) (q + k) → J p l e (RM 6 0 0) s m args below meth c (MQ below (QFv g sh (xT N R (xWd (N Y) q (eLt (N Y) n q) (N R 4) 16 0).1 (nI q) (nI (eLt (N Y) n q)) (xWd (N Y) q (eLt (N Y) n q) (N R 4) 16 0).2)) args s 0 0 g.A) g 2 sh (xT N R (N R 2) (nI q) (nI (q + k)) (N R 4)) 0 0 2 [some (.ref (sh.2.2 R)), some (.int (nI k))] [] from by have z := key (n - (q + 0)) 0 rfl hqn rfl; rw [← e0] at z; exact z
  intro d
  induction d with
  | zero =>
    intro k hd hk he2
    refine j_iload_n C dX2_takeWord_2 rfl ?_
    refine j_sipush C dX2_takeWord_3 (v := 200) (by decide) ?_
    refine j_icmp_ge (tgt := 42) C dX2_takeWord_6 (by decide) (fun h6 => ?_) (fun h6 => ?_)
    · skip
      rw [show (200 : Int32) = nI 200 from rfl, n_nle (by omega) (by omega)] at h6
      exact fin k (he2.trans (scan_no (fun hlt => absurd hlt (by omega)) hk)) _
    · skip
      refine j_aload_n C dX2_takeWord_9 rfl ?_
      refine j_getR (j := Z) C fl_X2_12 dX2_takeWord_10 (RS.r) rfl (RS.t) ?_
      refine j_aload_n C dX2_takeWord_13 rfl ?_
      refine j_getI C fl_X2_22 dX2_takeWord_14 (RS.r) rfl ?_
      rw [xT_g1]
      refine j_callV1I C ml_X2_82 dX2_takeWord_17 (cX_atj hg RS hX (N := (xT N R (N R 2) (nI q) (nI (q + k)) (N R 4))) (n := n) (j := q + k) (by rw [xT_row RS.rz]; exact hL) hn (by omega)) ⟨by rw [RS.z]; decide, by rw [RS.z]; rfl⟩ ⟨Nat.le_of_ble_eq_true rfl, Nat.le_of_ble_eq_true rfl⟩ (Nat.le_of_ble_eq_true rfl) ⟨rfl, rfl⟩ ⟨Nat.zero_le _, Nat.zero_le _⟩ ?_
      rw [xT_row RS.ry]
      refine j_callS1I C ml_X2_92 dX2_takeWord_20 (cX_isLetter hg hX.n2 _) ⟨Nat.le_of_ble_eq_true rfl, Nat.le_of_ble_eq_true rfl⟩ (Nat.le_of_ble_eq_true rfl) ⟨rfl, rfl⟩ ⟨Nat.zero_le _, Nat.zero_le _⟩ ?_
      refine j_if_eq (tgt := 42) C dX2_takeWord_23 (by decide) (fun h23 => ?_) (fun h23 => ?_)
      · replace h23 := b2_eq0.mp h23
        exact fin k (he2.trans (scan_no (fun hlt => by rw [show tAt (N Y) n (q + k) = N Y (q + k) from if_pos hlt] at h23; exact h23) hk)) _
      · replace h23 := b2_ne0.mp h23
        have hlt : q + k < n := by
          refine Nat.not_le.mp (fun hge => ?_)
          rw [show tAt (N Y) n (q + k) = 32 from if_neg (by omega)] at h23
          exact absurd h23 (by decide)
        omega
  | succ d ih =>
    intro k hd hk he2
    refine j_iload_n C dX2_takeWord_2 rfl ?_
    refine j_sipush C dX2_takeWord_3 (v := 200) (by decide) ?_
    refine j_icmp_ge (tgt := 42) C dX2_takeWord_6 (by decide) (fun h6 => ?_) (fun h6 => ?_)
    · skip
      rw [show (200 : Int32) = nI 200 from rfl, n_nle (by omega) (by omega)] at h6
      exact fin k (he2.trans (scan_no (fun hlt => absurd hlt (by omega)) hk)) _
    · skip
      refine j_aload_n C dX2_takeWord_9 rfl ?_
      refine j_getR (j := Z) C fl_X2_12 dX2_takeWord_10 (RS.r) rfl (RS.t) ?_
      refine j_aload_n C dX2_takeWord_13 rfl ?_
      refine j_getI C fl_X2_22 dX2_takeWord_14 (RS.r) rfl ?_
      rw [xT_g1]
      refine j_callV1I C ml_X2_82 dX2_takeWord_17 (cX_atj hg RS hX (N := (xT N R (N R 2) (nI q) (nI (q + k)) (N R 4))) (n := n) (j := q + k) (by rw [xT_row RS.rz]; exact hL) hn (by omega)) ⟨by rw [RS.z]; decide, by rw [RS.z]; rfl⟩ ⟨Nat.le_of_ble_eq_true rfl, Nat.le_of_ble_eq_true rfl⟩ (Nat.le_of_ble_eq_true rfl) ⟨rfl, rfl⟩ ⟨Nat.zero_le _, Nat.zero_le _⟩ ?_
      rw [xT_row RS.ry]
      refine j_callS1I C ml_X2_92 dX2_takeWord_20 (cX_isLetter hg hX.n2 _) ⟨Nat.le_of_ble_eq_true rfl, Nat.le_of_ble_eq_true rfl⟩ (Nat.le_of_ble_eq_true rfl) ⟨rfl, rfl⟩ ⟨Nat.zero_le _, Nat.zero_le _⟩ ?_
      refine j_if_eq (tgt := 42) C dX2_takeWord_23 (by decide) (fun h23 => ?_) (fun h23 => ?_)
      · replace h23 := b2_eq0.mp h23
        exact fin k (he2.trans (scan_no (fun hlt => by rw [show tAt (N Y) n (q + k) = N Y (q + k) from if_pos hlt] at h23; exact h23) hk)) _
      · replace h23 := b2_ne0.mp h23
        have hlt : q + k < n := by
          refine Nat.not_le.mp (fun hge => ?_)
          rw [show tAt (N Y) n (q + k) = 32 from if_neg (by omega)] at h23
          exact absurd h23 (by decide)
        rw [show tAt (N Y) n (q + k) = N Y (q + k) from if_pos hlt] at h23
        refine j_aload_n C dX2_takeWord_26 rfl ?_
        refine j_dup C dX2_takeWord_27 rfl ?_
        refine j_getI C fl_X2_22 dX2_takeWord_28 (RS.r) rfl ?_
        rw [xT_g1]
        refine j_iconst C dX2_takeWord_31 (v := 1) (by decide) ?_
        refine j_iadd C dX2_takeWord_32 ?_
        rw [nI_1]
        refine j_putI C fl_X2_22 dX2_takeWord_33 (RS.r) rfl rfl rfl rfl ?_
        rw [xT_p1]
        refine j_iincN C dX2_takeWord_36 rfl (by decide) rfl ?_
        refine j_goto (tgt := 2) C dX2_takeWord_39 (by decide) ?_
        exact ih (k + 1) (by omega) (by omega) (he2.trans (scan_go hlt h23))

/-- the class's token from place i on: what it is, where it begins, where it ends, its value -/
noncomputable def xTok (tp : Nat → Int32) (n i : Nat) (v : Int32) : Int32 × Nat × Nat × Int32 :=
  if pBl tp n i = n then (256, n, n, v) else (if 48 ≤ tp (pBl tp n i) ∧ tp (pBl tp n i) ≤ 57 then (if eDg tp n (pBl tp n i) - pBl tp n i ≤ 5 then 257 else 259, pBl tp n i, eDg tp n (pBl tp n i), xNum tp (pBl tp n i) (eDg tp n (pBl tp n i) - pBl tp n i))
  else (if 97 ≤ tp (pBl tp n i) ∧ tp (pBl tp n i) ≤ 122 then ((xWd tp (pBl tp n i) (eLt tp n (pBl tp n i)) v 16 0).1, pBl tp n i, eLt tp n (pBl tp n i), (xWd tp (pBl tp n i) (eLt tp n (pBl tp n i)) v 16 0).2) else (tp (pBl tp n i), pBl tp n i, pBl tp n i + 1, v)))
def xTokN (N : WNm) (R : Nat) (t : Int32 × Nat × Nat × Int32) : WNm := xT N R t.1 (nI t.2.1) (nI t.2.2.1) t.2.2.2
noncomputable def xAdv (N : WNm) (R Y n i : Nat) : WNm := xTokN N R (xTok (N Y) n i (N R 4))

theorem cX_nextToken {l : Launch} {g : WGp} (hg : GOK g) {sh : WSh} {N : WNm} {R Z Y S : Nat} (RS : RSh sh R Z Y S) {o : Nat → Nat} (hX : HX g o) {n : Nat} (hL : N Z 1 = nI n) (hn : n ≤ 200) {i0 : Nat} (he : N R 1 = nI i0) (hqn : i0 ≤ n) : CT l g yX2_nextToken cX2_nextToken 2 none (RM 7 0 0) [.ref (sh.2.2 R)] sh N (QFv g sh (xAdv N R Y n i0)) := by
  refine ent hg (by decide +kernel) (Nat.le_of_ble_eq_true rfl) ?_
  intro p e s m args below meth c C hname
  have e0 : N = xT N R (N R 2) (N R 3) (nI (i0 + 0)) (N R 4) := xT_ext he rfl rfl rfl (fun _ _ _ => rfl)
  obtain ⟨q, eq⟩ : ∃ q, q = pBl (N Y) n i0 := ⟨_, rfl⟩
  have hqn2 : q ≤ n := by have := scan_le (fun j => N Y j = 32) (n - i0) i0; rw [eq, pBl]; omega
  have fin : ∀ i, J p l e (RM 7 0 0) s m args below meth c (MQ below (QFv g sh (xAdv N R Y n i0)) args s 0 0 g.A) g 2 sh (xT N R (N R 2) (N R 3) (nI q) (N R 4)) 0 0 55 [some (.ref (sh.2.2 R)), some (.int i)] [] := by
    intro i
    refine j_aload_n C dX2_nextToken_55 rfl ?_
    refine j_aload_n C dX2_nextToken_56 rfl ?_
    refine j_getI C fl_X2_22 dX2_nextToken_57 (RS.r) rfl ?_
    rw [xT_g1]
    refine j_putI C fl_X2_39 dX2_nextToken_60 (RS.r) rfl rfl rfl rfl ?_
    rw [xT_p3]
    refine j_aload_n C dX2_nextToken_63 rfl ?_
    refine j_getI C fl_X2_22 dX2_nextToken_64 (RS.r) rfl ?_
    rw [xT_g1]
    refine j_aload_n C dX2_nextToken_67 rfl ?_
    refine j_getR (j := Z) C fl_X2_12 dX2_nextToken_68 (RS.r) rfl (RS.t) ?_
    refine j_getI C fl_X2_79 dX2_nextToken_71 (RS.z) rfl ?_
    rw [show (xT N R (N R 2) (nI q) (nI q) (N R 4)) Z 1 = nI n by rw [xT_row RS.rz]; exact hL]
    refine j_icmp_lt (tgt := 87) C dX2_nextToken_74 (by decide) (fun h74 => ?_) (fun h74 => ?_)
    · skip
      have hlt : q < n := by
        rw [n_nlt (by omega) (by omega)] at h74; exact h74
      have hqne : ¬ q = n := by omega
      have tA : tAt (N Y) n q = N Y q := if_pos hlt
      refine j_aload_n C dX2_nextToken_87 rfl ?_
      refine j_getR (j := Z) C fl_X2_12 dX2_nextToken_88 (RS.r) rfl (RS.t) ?_
      refine j_aload_n C dX2_nextToken_91 rfl ?_
      refine j_getI C fl_X2_22 dX2_nextToken_92 (RS.r) rfl ?_
      rw [xT_g1]
      refine j_callV1I C ml_X2_82 dX2_nextToken_95 (cX_atj hg RS hX (N := (xT N R (N R 2) (nI q) (nI q) (N R 4))) (n := n) (j := q) (by rw [xT_row RS.rz]; exact hL) hn (by omega)) ⟨by rw [RS.z]; decide, by rw [RS.z]; rfl⟩ ⟨Nat.le_of_ble_eq_true rfl, Nat.le_of_ble_eq_true rfl⟩ (Nat.le_of_ble_eq_true rfl) ⟨rfl, rfl⟩ ⟨Nat.zero_le _, Nat.zero_le _⟩ ?_
      rw [xT_row RS.ry, tA]
      refine j_callS1I C ml_X2_86 dX2_nextToken_98 (cX_isDigit hg hX.n2 _) ⟨Nat.le_of_ble_eq_true rfl, Nat.le_of_ble_eq_true rfl⟩ (Nat.le_of_ble_eq_true rfl) ⟨rfl, rfl⟩ ⟨Nat.zero_le _, Nat.zero_le _⟩ ?_
      refine j_if_eq (tgt := 111) C dX2_nextToken_101 (by decide) (fun h101 => ?_) (fun h101 => ?_)
      · replace h101 := b2_eq0.mp h101
        refine j_aload_n C dX2_nextToken_111 rfl ?_
        refine j_getR (j := Z) C fl_X2_12 dX2_nextToken_112 (RS.r) rfl (RS.t) ?_
        refine j_aload_n C dX2_nextToken_115 rfl ?_
        refine j_getI C fl_X2_22 dX2_nextToken_116 (RS.r) rfl ?_
        rw [xT_g1]
        refine j_callV1I C ml_X2_82 dX2_nextToken_119 (cX_atj hg RS hX (N := (xT N R (N R 2) (nI q) (nI q) (N R 4))) (n := n) (j := q) (by rw [xT_row RS.rz]; exact hL) hn (by omega)) ⟨by rw [RS.z]; decide, by rw [RS.z]; rfl⟩ ⟨Nat.le_of_ble_eq_true rfl, Nat.le_of_ble_eq_true rfl⟩ (Nat.le_of_ble_eq_true rfl) ⟨rfl, rfl⟩ ⟨Nat.zero_le _, Nat.zero_le _⟩ ?_
        rw [xT_row RS.ry, tA]
        refine j_callS1I C ml_X2_92 dX2_nextToken_122 (cX_isLetter hg hX.n2 _) ⟨Nat.le_of_ble_eq_true rfl, Nat.le_of_ble_eq_true rfl⟩ (Nat.le_of_ble_eq_true rfl) ⟨rfl, rfl⟩ ⟨Nat.zero_le _, Nat.zero_le _⟩ ?_
        refine j_if_eq (tgt := 135) C dX2_nextToken_125 (by decide) (fun h125 => ?_) (fun h125 => ?_)
        · replace h125 := b2_eq0.mp h125
          refine j_aload_n C dX2_nextToken_135 rfl ?_
          refine j_aload_n C dX2_nextToken_136 rfl ?_
          refine j_getR (j := Z) C fl_X2_12 dX2_nextToken_137 (RS.r) rfl (RS.t) ?_
          refine j_aload_n C dX2_nextToken_140 rfl ?_
          refine j_getI C fl_X2_22 dX2_nextToken_141 (RS.r) rfl ?_
          rw [xT_g1]
          refine j_callV1I C ml_X2_82 dX2_nextToken_144 (cX_atj hg RS hX (N := (xT N R (N R 2) (nI q) (nI q) (N R 4))) (n := n) (j := q) (by rw [xT_row RS.rz]; exact hL) hn (by omega)) ⟨by rw [RS.z]; decide, by rw [RS.z]; rfl⟩ ⟨Nat.le_of_ble_eq_true rfl, Nat.le_of_ble_eq_true rfl⟩ (Nat.le_of_ble_eq_true rfl) ⟨rfl, rfl⟩ ⟨Nat.zero_le _, Nat.zero_le _⟩ ?_
          rw [xT_row RS.ry, tA]
          refine j_putI C fl_X2_36 dX2_nextToken_147 (RS.r) rfl rfl rfl rfl ?_
          rw [xT_p2]
          refine j_aload_n C dX2_nextToken_150 rfl ?_
          refine j_dup C dX2_nextToken_151 rfl ?_
          refine j_getI C fl_X2_22 dX2_nextToken_152 (RS.r) rfl ?_
          rw [xT_g1]
          refine j_iconst C dX2_nextToken_155 (v := 1) (by decide) ?_
          refine j_iadd C dX2_nextToken_156 ?_
          rw [nI_1]
          refine j_putI C fl_X2_22 dX2_nextToken_157 (RS.r) rfl rfl rfl rfl ?_
          rw [xT_p1]
          refine j_vret C dX2_nextToken_160 ⟨rfl, ?_⟩
          rw [xAdv, xTok, ← eq, if_neg hqne, if_neg h101, if_neg h125]
          rfl
        · replace h125 := b2_ne0.mp h125
          refine j_aload_n C dX2_nextToken_128 rfl ?_
          refine j_callV0V C ml_X2_95 dX2_nextToken_129 (cX_takeWord hg RS hX (N := (xT N R (N R 2) (nI q) (nI q) (N R 4))) (n := n) (q := q) (by rw [xT_row RS.rz]; exact hL) hn (xT_g3 _ _ _ _ _ _) (xT_g1 _ _ _ _ _ _) hqn2) ⟨by rw [RS.r]; decide, by rw [RS.r]; rfl⟩ ⟨Nat.le_of_ble_eq_true rfl, Nat.le_of_ble_eq_true rfl⟩ (Nat.le_of_ble_eq_true rfl) ⟨rfl, rfl⟩ ⟨Nat.zero_le _, Nat.zero_le _⟩ ?_
          rw [xT_row RS.ry, xT_xT, xT_g4]
          refine j_goto (tgt := 160) C dX2_nextToken_132 (by decide) ?_
          refine j_vret C dX2_nextToken_160 ⟨rfl, ?_⟩
          rw [xAdv, xTok, ← eq, if_neg hqne, if_neg h101, if_pos h125]
          rfl
      · replace h101 := b2_ne0.mp h101
        refine j_aload_n C dX2_nextToken_104 rfl ?_
        refine j_callV0V C ml_X2_89 dX2_nextToken_105 (cX_takeNumber hg RS hX (N := (xT N R (N R 2) (nI q) (nI q) (N R 4))) (n := n) (q := q) (by rw [xT_row RS.rz]; exact hL) hn (xT_g3 _ _ _ _ _ _) (xT_g1 _ _ _ _ _ _) hqn2) ⟨by rw [RS.r]; decide, by rw [RS.r]; rfl⟩ ⟨Nat.le_of_ble_eq_true rfl, Nat.le_of_ble_eq_true rfl⟩ (Nat.le_of_ble_eq_true rfl) ⟨rfl, rfl⟩ ⟨Nat.zero_le _, Nat.zero_le _⟩ ?_
        rw [xT_row RS.ry, xT_xT]
        refine j_goto (tgt := 160) C dX2_nextToken_108 (by decide) ?_
        refine j_vret C dX2_nextToken_160 ⟨rfl, ?_⟩
        rw [xAdv, xTok, ← eq, if_neg hqne, if_pos h101]
        rfl
    · skip
      have hqe : q = n := by
        rw [n_nlt (by omega) (by omega)] at h74; omega
      refine j_aload_n C dX2_nextToken_77 rfl ?_
      refine j_sipush C dX2_nextToken_78 (v := 256) (by decide) ?_
      refine j_putI C fl_X2_36 dX2_nextToken_81 (RS.r) rfl rfl rfl rfl ?_
      rw [xT_p2]
      refine j_goto (tgt := 160) C dX2_nextToken_84 (by decide) ?_
      refine j_vret C dX2_nextToken_160 ⟨rfl, ?_⟩
      rw [xAdv, xTok, ← eq, if_pos hqe, hqe]
      rfl
  refine j_iconst C dX2_nextToken_0 (v := 0) (by decide) ?_
  refine j_istore_n C dX2_nextToken_1 (by decide) rfl ?_
  suffices key : ∀ (d k : Nat), n - (i0 + k) = d → i0 + k ≤ n → pBl (N Y) n i0 = scan (fun j => N Y j = 32) (n - (i0 + k)) (i0 + k) → J p l e (RM 7 0 0) s m args below meth c (MQ below (QFv g sh (xAdv N R Y n i0)) args s 0 0 g.A) g 2 sh (xT N R (N R 2) (N R 3) (nI (i0 + k)) (N R 4)) 0 0 2 [some (.ref (sh.2.2 R)), some (.int (nI k))] [] from by have z := key (n - (i0 + 0)) 0 rfl hqn rfl; rw [← e0] at z; exact z
  intro d
  induction d with
  | zero =>
    intro k hd hk he2
    refine j_iload_n C dX2_nextToken_2 rfl ?_
    refine j_sipush C dX2_nextToken_3 (v := 200) (by decide) ?_
    refine j_icmp_ge (tgt := 55) C dX2_nextToken_6 (by decide) (fun h6 => ?_) (fun h6 => ?_)
    · skip
      rw [show (200 : Int32) = nI 200 from rfl, n_nle (by omega) (by omega)] at h6
      have hE : q = i0 + k := by rw [eq]; exact he2.trans (scan_no (fun hlt => absurd hlt (by omega)) hk)
      have z := fin (nI k)
      rw [hE] at z
      exact z
    · skip
      refine j_aload_n C dX2_nextToken_9 rfl ?_
      refine j_getI C fl_X2_22 dX2_nextToken_10 (RS.r) rfl ?_
      rw [xT_g1]
      refine j_aload_n C dX2_nextToken_13 rfl ?_
      refine j_getR (j := Z) C fl_X2_12 dX2_nextToken_14 (RS.r) rfl (RS.t) ?_
      refine j_getI C fl_X2_79 dX2_nextToken_17 (RS.z) rfl ?_
      rw [show (xT N R (N R 2) (N R 3) (nI (i0 + k)) (N R 4)) Z 1 = nI n by rw [xT_row RS.rz]; exact hL]
      refine j_icmp_ge (tgt := 55) C dX2_nextToken_20 (by decide) (fun h20 => ?_) (fun h20 => ?_)
      · skip
        rw [n_nle (by omega) (by omega)] at h20
        have hE : q = i0 + k := by rw [eq]; exact he2.trans (scan_no (fun hlt => absurd hlt (by omega)) hk)
        have z := fin (nI k)
        rw [hE] at z
        exact z
      · skip
        rw [n_nle (by omega) (by omega)] at h20
        omega
  | succ d ih =>
    intro k hd hk he2
    refine j_iload_n C dX2_nextToken_2 rfl ?_
    refine j_sipush C dX2_nextToken_3 (v := 200) (by decide) ?_
    refine j_icmp_ge (tgt := 55) C dX2_nextToken_6 (by decide) (fun h6 => ?_) (fun h6 => ?_)
    · skip
      rw [show (200 : Int32) = nI 200 from rfl, n_nle (by omega) (by omega)] at h6
      have hE : q = i0 + k := by rw [eq]; exact he2.trans (scan_no (fun hlt => absurd hlt (by omega)) hk)
      have z := fin (nI k)
      rw [hE] at z
      exact z
    · skip
      refine j_aload_n C dX2_nextToken_9 rfl ?_
      refine j_getI C fl_X2_22 dX2_nextToken_10 (RS.r) rfl ?_
      rw [xT_g1]
      refine j_aload_n C dX2_nextToken_13 rfl ?_
      refine j_getR (j := Z) C fl_X2_12 dX2_nextToken_14 (RS.r) rfl (RS.t) ?_
      refine j_getI C fl_X2_79 dX2_nextToken_17 (RS.z) rfl ?_
      rw [show (xT N R (N R 2) (N R 3) (nI (i0 + k)) (N R 4)) Z 1 = nI n by rw [xT_row RS.rz]; exact hL]
      refine j_icmp_ge (tgt := 55) C dX2_nextToken_20 (by decide) (fun h20 => ?_) (fun h20 => ?_)
      · skip
        rw [n_nle (by omega) (by omega)] at h20
        have hE : q = i0 + k := by rw [eq]; exact he2.trans (scan_no (fun hlt => absurd hlt (by omega)) hk)
        have z := fin (nI k)
        rw [hE] at z
        exact z
      · skip
        rw [n_nle (by omega) (by omega)] at h20
        refine j_aload_n C dX2_nextToken_23 rfl ?_
        refine j_getR (j := Z) C fl_X2_12 dX2_nextToken_24 (RS.r) rfl (RS.t) ?_
        refine j_aload_n C dX2_nextToken_27 rfl ?_
        refine j_getI C fl_X2_22 dX2_nextToken_28 (RS.r) rfl ?_
        rw [xT_g1]
        refine j_callV1I C ml_X2_82 dX2_nextToken_31 (cX_atj hg RS hX (N := (xT N R (N R 2) (N R 3) (nI (i0 + k)) (N R 4))) (n := n) (j := i0 + k) (by rw [xT_row RS.rz]; exact hL) hn (by omega)) ⟨by rw [RS.z]; decide, by rw [RS.z]; rfl⟩ ⟨Nat.le_of_ble_eq_true rfl, Nat.le_of_ble_eq_true rfl⟩ (Nat.le_of_ble_eq_true rfl) ⟨rfl, rfl⟩ ⟨Nat.zero_le _, Nat.zero_le _⟩ ?_
        rw [xT_row RS.ry, show tAt (N Y) n (i0 + k) = N Y (i0 + k) from if_pos (by omega)]
        refine j_bipush C dX2_nextToken_34 (v := 32) (by decide) ?_
        refine j_icmp_ne (tgt := 55) C dX2_nextToken_36 (by decide) (fun h36 => ?_) (fun h36 => ?_)
        · skip
          have hE : q = i0 + k := by rw [eq]; exact he2.trans (scan_no (fun hlt => h36) hk)
          have z := fin (nI k)
          rw [hE] at z
          exact z
        · replace h36 := Decidable.not_not.mp h36
          refine j_aload_n C dX2_nextToken_39 rfl ?_
          refine j_dup C dX2_nextToken_40 rfl ?_
          refine j_getI C fl_X2_22 dX2_nextToken_41 (RS.r) rfl ?_
          rw [xT_g1]
          refine j_iconst C dX2_nextToken_44 (v := 1) (by decide) ?_
          refine j_iadd C dX2_nextToken_45 ?_
          rw [nI_1]
          refine j_putI C fl_X2_22 dX2_nextToken_46 (RS.r) rfl rfl rfl rfl ?_
          rw [xT_p1]
          refine j_iincN C dX2_nextToken_49 rfl (by decide) rfl ?_
          refine j_goto (tgt := 2) C dX2_nextToken_52 (by decide) ?_
          exact ih (k + 1) (by omega) (by omega) (he2.trans (scan_go (by omega) h36))
