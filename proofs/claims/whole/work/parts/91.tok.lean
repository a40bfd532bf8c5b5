/-! ===== TOKENS: the class's beside the reference's ===== -/
theorem TB.c {x t : Int32} (h : TB x t) {c : Int32} (h0 : 0 ≤ c) (h1 : c ≤ 127) : x = c ↔ t = c := by
  obtain ⟨⟨a1, a2⟩, a3, a4⟩ := h
  by_cases hx : x ≤ 127
  · rw [a3 hx]
  · have hx2 := i_nle.mp hx
    constructor
    · intro z; rw [z] at hx; exact absurd h1 hx
    · intro z; have := a4 hx2; rw [z] at this; exact absurd h0 (i_nle.mpr this)
theorem TB.r {x t : Int32} (h : TB x t) {a b : Int32} (h0 : 0 ≤ a) (h1 : b ≤ 127) : (a ≤ x ∧ x ≤ b) ↔ (a ≤ t ∧ t ≤ b) := by
  obtain ⟨⟨a1, a2⟩, a3, a4⟩ := h
  by_cases hx : x ≤ 127
  · rw [a3 hx]
  · have hx2 := i_nle.mp hx
    constructor
    · intro z; exact absurd (Int32.le_trans z.2 h1) hx
    · intro z; exact absurd (Int32.le_trans h0 z.1) (i_nle.mpr (a4 hx2))
theorem TB.s {x t : Int32} (h : TB x t) {b : Int32} (h1 : b ≤ 127) (hx : x ≤ b) : t = x := h.2.1 (Int32.le_trans hx h1)
theorem scan_cong {P Q : Nat → Prop} [DecidablePred P] [DecidablePred Q] : ∀ (f i : Nat), (∀ j, i ≤ j → j < i + f → (P j ↔ Q j)) → scan P f i = scan Q f i
  | 0, _, _ => rfl
  | f + 1, i, h => by
    rw [scan, scan]
    by_cases hp : P i
    · rw [if_pos hp, if_pos ((h i (Nat.le_refl _) (by omega)).mp hp)]
      exact scan_cong f (i + 1) (fun j h1 h2 => h j (by omega) (by omega))
    · rw [if_neg hp, if_neg (fun z => hp ((h i (Nat.le_refl _) (by omega)).mpr z))]
theorem scan_all {P : Nat → Prop} [DecidablePred P] : ∀ (f i j : Nat), i ≤ j → j < scan P f i → P j
  | 0, i, j, h1, h2 => absurd h1 (by rw [scan] at h2; omega)
  | f + 1, i, j, h1, h2 => by
    rw [scan] at h2
    by_cases hp : P i
    · rw [if_pos hp] at h2
      by_cases e : j = i
      · rw [e]; exact hp
      · exact scan_all f (i + 1) j (by omega) h2
    · rw [if_neg hp] at h2
      omega
/-- digits of letters, the last one first -/
def dig (x : Int32) : Nat := x.toNatClampNeg - 96
def rdl (tp : Nat → Int32) (q : Nat) : Nat → List Nat
  | 0 => []
  | k + 1 => dig (tp (q + k)) :: rdl tp q k
def rval : List Nat → Nat
  | [] => 0
  | d :: ds => rval ds * 27 + d
theorem rval_inj : ∀ (xs ys : List Nat), (∀ x ∈ xs, 1 ≤ x ∧ x ≤ 26) → (∀ y ∈ ys, 1 ≤ y ∧ y ≤ 26) → rval xs = rval ys → xs = ys
  | [], [], _, _, _ => rfl
  | [], y :: ys, _, hy, h => by
    have := hy y List.mem_cons_self
    rw [rval, rval] at h
    omega
  | x :: xs, [], hx, _, h => by
    have := hx x List.mem_cons_self
    rw [rval, rval] at h
    omega
  | x :: xs, y :: ys, hx, hy, h => by
    have h1 := hx x List.mem_cons_self
    have h2 := hy y List.mem_cons_self
    rw [rval, rval] at h
    have e : x = y := by omega
    rw [e, rval_inj xs ys (fun z hz => hx z (List.mem_cons_of_mem _ hz)) (fun z hz => hy z (List.mem_cons_of_mem _ hz)) (by omega)]
def wLen (w : Nat) : Nat := ([4, 3, 4, 4, 4, 6, 4, 4, 4, 6, 5, 7, 5, 3, 2, 3] : List Nat).getD w 0
def wCode (w : Nat) : Nat := ([326369, 2968, 380068, 161600, 237470, 283296100, 133743, 223456, 365647, 332864552, 12532058, 2585642951, 12249946, 1111, 423, 10631] : List Nat).getD w 0
def wTok (w : Nat) : Int32 := ([100, 101, 102, 103, 104, 105, 106, 107, 108, 109, 110, 111, 112, 20, 10, 30] : List Int32).getD w 0
theorem wtab : ∀ w, w < 16 → 1 ≤ wLen w ∧ wLen w ≤ 7 ∧ (∀ j, j < 8 → (j < wLen w → 97 ≤ wch (w * 8 + j) ∧ wch (w * 8 + j) ≤ 122) ∧ (wLen w ≤ j → wch (w * 8 + j) = 32)) ∧ rval (rdl (fun j => wch (w * 8 + j)) 0 (wLen w)) = wCode w ∧ mWordOf (Int64.ofNat (wCode w)) = wTok w := by decide +kernel
theorem wCode_inj : ∀ w, w < 16 → ∀ v, v < 16 → wCode w = wCode v → w = v := by decide
theorem dig_let {x : Int32} (h : 97 ≤ x ∧ x ≤ 122) : 1 ≤ dig x ∧ dig x ≤ 26 ∧ x = nI (dig x + 96) := by
  have h1 := i_le.mp h.1
  have h2 := i_le.mp h.2
  rw [show (97 : Int32).toInt = 97 from rfl] at h1
  rw [show (122 : Int32).toInt = 122 from rfl] at h2
  obtain ⟨k, hk, e⟩ := vp_in_of (n := 123) ((vp_in_iff (x := x)).mpr ⟨by omega, by omega⟩) (by omega)
  have e2 : x.toInt = k := by rw [e]; exact nI_toInt (by omega)
  unfold dig
  rw [show x.toNatClampNeg = k by rw [e]; exact nI_clamp (by omega)]
  exact ⟨by omega, by omega, by rw [show k - 96 + 96 = k by omega]; exact e⟩
theorem rdl_dig {tp : Nat → Int32} {q : Nat} : ∀ k, (∀ j, j < k → 97 ≤ tp (q + j) ∧ tp (q + j) ≤ 122) → ∀ x ∈ rdl tp q k, 1 ≤ x ∧ x ≤ 26
  | 0, _, x, hx => by cases hx
  | k + 1, h, x, hx => by
    rw [rdl] at hx
    rcases List.mem_cons.mp hx with z | z
    · rw [z]; have := dig_let (h k (by omega)); omega
    · exact rdl_dig k (fun j hj => h j (by omega)) x z
theorem rdl_len (tp : Nat → Int32) (q : Nat) : ∀ k, (rdl tp q k).length = k
  | 0 => rfl
  | k + 1 => by rw [rdl, List.length_cons, rdl_len tp q k]
theorem rdl_eq {tp tp' : Nat → Int32} {q q' : Nat} : ∀ k, (∀ j, j < k → 97 ≤ tp (q + j) ∧ tp (q + j) ≤ 122) → (∀ j, j < k → 97 ≤ tp' (q' + j) ∧ tp' (q' + j) ≤ 122) → (rdl tp q k = rdl tp' q' k ↔ ∀ j, j < k → tp (q + j) = tp' (q' + j))
  | 0, _, _ => ⟨fun _ j hj => absurd hj (Nat.not_lt_zero _), fun _ => rfl⟩
  | k + 1, h1, h2 => by
    have ih := rdl_eq k (fun j hj => h1 j (by omega)) (fun j hj => h2 j (by omega))
    rw [rdl, rdl, List.cons.injEq, ih]
    constructor
    · rintro ⟨a, b⟩ j hj
      by_cases e : j = k
      · rw [e, (dig_let (h1 k (by omega))).2.2, (dig_let (h2 k (by omega))).2.2, a]
      · exact b j (by omega)
    · intro a
      exact ⟨by rw [a k (by omega)], fun j hj => a j (by omega)⟩
theorem rval_lt : ∀ (ds : List Nat), (∀ x ∈ ds, 1 ≤ x ∧ x ≤ 26) → rval ds < 27 ^ ds.length
  | [], _ => by decide
  | d :: ds, h => by
    have ih := rval_lt ds (fun x hx => h x (List.mem_cons_of_mem _ hx))
    have := h d List.mem_cons_self
    rw [rval, List.length_cons, Nat.pow_succ]
    omega
theorem pow27 : ∀ k, k < 8 → 27 ^ k ≤ 10460353203 := by decide
theorem wAcc_val {tp : Nat → Int32} {q : Nat} : ∀ k, k ≤ 7 → (∀ j, j < k → 97 ≤ tp (q + j) ∧ tp (q + j) ≤ 122) → wAcc tp q k = Int64.ofNat (rval (rdl tp q k))
  | 0, _, _ => rfl
  | k + 1, hk, h => by
    have ih := wAcc_val k (by omega) (fun j hj => h j (by omega))
    have hd := dig_let (h k (by omega))
    rw [wAcc, if_pos (by omega), ih, rdl, rval]
    have e : (tp (q + k)).toInt64 = Int64.ofNat (dig (tp (q + k)) + 96) := by
      apply Int64.toInt_inj.mp
      have z := congrArg Int32.toInt hd.2.2
      rw [nI_toInt (by omega)] at z
      rw [Int32.toInt_toInt64, z, Int64.toInt_ofNat_of_lt (by omega)]
    rw [e, Int64.ofNat_add (dig (tp (q + k))) 96, Int64.ofNat_add (rval (rdl tp q k) * 27) (dig (tp (q + k))), Int64.ofNat_mul (rval (rdl tp q k)) 27, ← Int64.add_assoc]
    exact Int64.add_sub_cancel _ _
/-- the letters are the word w, or not -/
theorem isW_iff {tp : Nat → Int32} {q e w : Nat} (hw : w < 16) (hl : ∀ j, q ≤ j → j < e → 97 ≤ tp j ∧ tp j ≤ 122) (hqe : q < e) : xIsW tp q e w ↔ (e - q ≤ 7 ∧ rval (rdl tp q (e - q)) = wCode w) := by
  obtain ⟨t1, t2, t3, t4, -⟩ := wtab w hw
  have hlet : ∀ j, j < e - q → 97 ≤ tp (q + j) ∧ tp (q + j) ≤ 122 := fun j hj => hl (q + j) (by omega) (by omega)
  have no32 : ∀ {x : Int32}, (97 ≤ x ∧ x ≤ 122) → ¬ x = 32 := fun hx z => by rw [z] at hx; exact absurd hx.1 (by decide)
  constructor
  · intro h
    have hL : e - q = wLen w := by
      rcases Nat.lt_trichotomy (e - q) (wLen w) with z | z | z
      · exfalso
        have z1 := h (e - q) (by omega)
        rw [if_neg (by omega)] at z1
        exact no32 ((t3 (e - q) (by omega)).1 z) z1.symm
      · exact z
      · exfalso
        have z1 := h (wLen w) (by omega)
        rw [if_pos (by omega), (t3 (wLen w) (by omega)).2 (Nat.le_refl _)] at z1
        exact no32 (hlet (wLen w) z) z1
    refine ⟨by omega, ?_⟩
    rw [← t4, hL]
    congr 1
    refine (rdl_eq (wLen w) (fun j hj => hlet j (by omega)) (fun j hj => by rw [Nat.zero_add]; exact (t3 j (by omega)).1 hj)).mpr (fun j hj => ?_)
    have z1 := h j (by omega)
    rw [if_pos (by omega)] at z1
    rw [Nat.zero_add]
    exact z1
  · rintro ⟨h7, hv⟩ j hj
    have hll := rval_inj _ _ (rdl_dig _ hlet) (rdl_dig (tp := fun j => wch (w * 8 + j)) (q := 0) (wLen w) (fun j hj => by rw [Nat.zero_add]; exact (t3 j (by omega)).1 hj)) (hv.trans t4.symm)
    have hL : e - q = wLen w := by
      have z := congrArg List.length hll
      rw [rdl_len, rdl_len] at z
      exact z
    rw [hL] at hll
    have ha := (rdl_eq (wLen w) (fun j hj => hlet j (by omega)) (fun j hj => by rw [Nat.zero_add]; exact (t3 j (by omega)).1 hj)).mp hll
    by_cases c : j < wLen w
    · rw [if_pos (by omega)]
      have z := ha j c
      rw [Nat.zero_add] at z
      exact z
    · rw [if_neg (by omega), (t3 j hj).2 (by omega)]
theorem xWd_no {tp : Nat → Int32} {q e : Nat} {v : Int32} : ∀ f k, (∀ w, k ≤ w → w < k + f → ¬ xIsW tp q e w) → xWd tp q e v f k = (259, v)
  | 0, _, _ => rfl
  | f + 1, k, h => by
    rw [xWd, if_neg (h k (Nat.le_refl _) (by omega))]
    exact xWd_no f (k + 1) (fun w h1 h2 => h w (by omega) (by omega))
theorem xWd_yes {tp : Nat → Int32} {q e w : Nat} {v : Int32} (hw : xIsW tp q e w) : ∀ f k, k ≤ w → w < k + f → (∀ w', k ≤ w' → w' < w → ¬ xIsW tp q e w') → xWd tp q e v f k = (if w < 13 then 258 else nI (247 + w), nI w)
  | 0, _, h1, h2, _ => absurd h2 (by omega)
  | f + 1, k, h1, h2, h => by
    rw [xWd]
    by_cases c : k = w
    · rw [c, if_pos hw]
    · rw [if_neg (h k (Nat.le_refl _) (by omega))]
      exact xWd_yes hw f (k + 1) (by omega) (by omega) (fun w' z1 z2 => h w' (by omega) z2)
/-- a token on both sides -/
def TK (t v tk num : Int32) : Prop :=
  (t = 256 ∧ tk = 0) ∨ (t = 257 ∧ tk = 1 ∧ num = v ∧ 0 ≤ v) ∨ (∃ k, k < 13 ∧ t = 258 ∧ v = nI k ∧ tk = nI (100 + k)) ∨ (t, tk) ∈ ([(260, 20), (261, 10), (262, 30), (40, 5), (41, 6), (42, 60), (43, 50), (45, 51), (60, 40), (61, 41), (62, 42)] : List (Int32 × Int32)) ∨
  (tk = 2 ∧ ¬ t ∈ ([256, 257, 258, 260, 261, 262, 40, 41, 42, 43, 45, 60, 61, 62] : List Int32))
theorem i64_ne {a b : Nat} (ha : a < 9223372036854775808) (hb : b < 9223372036854775808) (h : ¬ a = b) : ¬ Int64.ofNat a = Int64.ofNat b := fun z => by
  have z2 := congrArg Int64.toInt z
  rw [Int64.toInt_ofNat_of_lt ha, Int64.toInt_ofNat_of_lt hb] at z2
  omega
theorem word_no {V : Nat} (hV : V < 10460353203) (h : ∀ w, w < 16 → ¬ V = wCode w) : mWordOf (Int64.ofNat V) = 2 := by
  unfold mWordOf
  rw [if_neg (show ¬ Int64.ofNat V = 423 from i64_ne (b := 423) (by omega) (by decide) (h 14 (by decide)))]
  rw [if_neg (show ¬ Int64.ofNat V = 1111 from i64_ne (b := 1111) (by omega) (by decide) (h 13 (by decide)))]
  rw [if_neg (show ¬ Int64.ofNat V = 10631 from i64_ne (b := 10631) (by omega) (by decide) (h 15 (by decide)))]
  rw [if_neg (show ¬ Int64.ofNat V = 326369 from i64_ne (b := 326369) (by omega) (by decide) (h 0 (by decide)))]
  rw [if_neg (show ¬ Int64.ofNat V = 2968 from i64_ne (b := 2968) (by omega) (by decide) (h 1 (by decide)))]
  rw [if_neg (show ¬ Int64.ofNat V = 380068 from i64_ne (b := 380068) (by omega) (by decide) (h 2 (by decide)))]
  rw [if_neg (show ¬ Int64.ofNat V = 161600 from i64_ne (b := 161600) (by omega) (by decide) (h 3 (by decide)))]
  rw [if_neg (show ¬ Int64.ofNat V = 237470 from i64_ne (b := 237470) (by omega) (by decide) (h 4 (by decide)))]
  rw [if_neg (show ¬ Int64.ofNat V = 283296100 from i64_ne (b := 283296100) (by omega) (by decide) (h 5 (by decide)))]
  rw [if_neg (show ¬ Int64.ofNat V = 133743 from i64_ne (b := 133743) (by omega) (by decide) (h 6 (by decide)))]
  rw [if_neg (show ¬ Int64.ofNat V = 223456 from i64_ne (b := 223456) (by omega) (by decide) (h 7 (by decide)))]
  rw [if_neg (show ¬ Int64.ofNat V = 365647 from i64_ne (b := 365647) (by omega) (by decide) (h 8 (by decide)))]
  rw [if_neg (show ¬ Int64.ofNat V = 332864552 from i64_ne (b := 332864552) (by omega) (by decide) (h 9 (by decide)))]
  rw [if_neg (show ¬ Int64.ofNat V = 12532058 from i64_ne (b := 12532058) (by omega) (by decide) (h 10 (by decide)))]
  rw [if_neg (show ¬ Int64.ofNat V = 2585642951 from i64_ne (b := 2585642951) (by omega) (by decide) (h 11 (by decide)))]
  rw [if_neg (show ¬ Int64.ofNat V = 12249946 from i64_ne (b := 12249946) (by omega) (by decide) (h 12 (by decide)))]
