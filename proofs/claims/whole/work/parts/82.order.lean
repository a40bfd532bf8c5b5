/-! ===== THE ORDER OF LADING AND THROWING ===== -/
/-- the first is taken ahead of the second -/
def RB (W : Nat → Int32) (x y : Nat) : Prop := W y < W x ∨ (W x = W y ∧ x < y)
theorem RB.irr {W : Nat → Int32} {x : Nat} (h : RB W x x) : False := h.elim (fun z => Int32.lt_irrefl z) (fun z => Nat.lt_irrefl _ z.2)
theorem best_is {W : Nat → Int32} {ok : Nat → Prop} [DecidablePred ok] {j : Nat} (hok : ok j) : ∀ {n : Nat}, j < n → (∀ b, b < n → ok b → ¬ b = j → RB W j b) → best W ok n = some j
  | 0, h, _ => absurd h (Nat.not_lt_zero _)
  | n + 1, h, hall => by
    by_cases e : j = n
    · subst e
      cases hb : best W ok j with
      | none => exact best_none hb hok
      | some i =>
        have hi := best_lt _ _ j i hb
        rcases hall i (by omega) hi.2 (by omega) with z | z
        · exact best_gt hb hok z
        · omega
    · have ih := best_is hok (n := n) (by omega) (fun b hb => hall b (by omega))
      by_cases hn : ok n
      · refine best_le ih (fun z => ?_)
        rcases hall n (by omega) hn (fun q => e q.symm) with q | q
        · exact Int32.lt_irrefl (Int32.lt_trans z q)
        · rw [q.1] at z; exact Int32.lt_irrefl z
      · rw [best_no hn]; exact ih
theorem best_nil {W : Nat → Int32} {ok : Nat → Prop} [DecidablePred ok] : ∀ {n : Nat}, (∀ b, b < n → ¬ ok b) → best W ok n = none
  | 0, _ => rfl
  | n + 1, h => by rw [best_no (h n (by omega))]; exact best_nil (fun b hb => h b (by omega))
theorem load_eq {ω : Nat → Int32} {nB a : Nat} : ∀ (rl : List Nat) (f : Nat) (τ : Nat → Int32) (L : WNm), rl.Pairwise (RB ω) → (∀ b, b < nB → (τ b = 0 ↔ b ∈ rl)) → (∀ x ∈ rl, x < nB) → rl.length < f → mLoad ω nB a f τ L = rl.foldl (fun L j => mLoad1 L nB a j) L
  | [], 0, _, _, _, _, _, hf => absurd hf (Nat.not_lt_zero _)
  | [], f + 1, τ, L, _, ht, _, _ => by
    rw [mLoad, best_nil (fun b hb z => by have := (ht b hb).mp z; cases this)]
    rfl
  | _ :: _, 0, _, _, _, _, _, hf => absurd hf (Nat.not_lt_zero _)
  | j :: rl, f + 1, τ, L, hp, ht, hx, hf => by
    obtain ⟨h1, h2⟩ := List.pairwise_cons.mp hp
    have hj : j < nB := hx j List.mem_cons_self
    have hb : best ω (fun b => τ b = 0) nB = some j := best_is (ok := fun b => τ b = 0) ((ht j hj).mpr List.mem_cons_self) hj (fun b hb hok hne => by
      rcases List.mem_cons.mp ((ht b hb).mp hok) with z | z
      · exact absurd z hne
      · exact h1 b z)
    rw [mLoad, hb]
    simp only [List.foldl_cons]
    refine load_eq rl f _ _ h2 (fun b hb => ?_) (fun x hxm => hx x (List.mem_cons_of_mem _ hxm)) (by rw [List.length_cons] at hf; omega)
    by_cases e : b = j
    · rw [if_pos e, e]
      exact ⟨fun z => absurd z (by decide), fun z => absurd (h1 j z) RB.irr⟩
    · rw [if_neg e, ht b hb]
      exact ⟨fun z => (List.mem_cons.mp z).elim (fun q => absurd q e) id, fun z => List.mem_cons_of_mem _ z⟩
/-- an element put where it belongs keeps the order -/
theorem srt_ins {W : Nat → Int32} {rl : List Nat} {b j : Nat} (hp : rl.Pairwise (RB W)) (hlt : ∀ x ∈ rl, x < b) (hj : j ≤ rl.length) (h1 : ∀ i, j ≤ i → i < rl.length → W (rl.getD i 0) < W b) (h2 : 0 < j → W b ≤ W (rl.getD (j - 1) 0)) : (rl.take j ++ b :: rl.drop j).Pairwise (RB W) := by
  have ht : ∀ x ∈ rl.take j, W b ≤ W x := by
    intro x hx
    obtain ⟨i, hi, e⟩ := List.getElem_of_mem hx
    rw [List.length_take] at hi
    have e2 : x = rl.getD i 0 := by rw [gD_lt (by omega), ← e, List.getElem_take]
    have hz := h2 (by omega)
    rcases Nat.lt_or_ge i (j - 1) with z | z
    · have hr := List.pairwise_iff_getElem.mp hp i (j - 1) (by omega) (by omega) z
      rw [e2, gD_lt (by omega)]
      rw [gD_lt (by omega)] at hz
      rcases hr with q | q
      · exact Int32.le_trans hz (Int32.le_of_lt q)
      · rw [q.1]; exact hz
    · obtain rfl : i = j - 1 := by omega
      rw [e2]; exact hz
  have hd : ∀ y ∈ rl.drop j, W y < W b := by
    intro y hy
    obtain ⟨i, hi, e⟩ := List.getElem_of_mem hy
    rw [List.length_drop] at hi
    have e2 : y = rl.getD (j + i) 0 := by rw [gD_lt (by omega), ← e, List.getElem_drop]
    rw [e2]
    exact h1 (j + i) (by omega) (by omega)
  rw [List.pairwise_append]
  refine ⟨hp.sublist (List.take_sublist _ _), List.pairwise_cons.mpr ⟨fun y hy => Or.inl (hd y hy), hp.sublist (List.drop_sublist _ _)⟩, fun x hx y hy => ?_⟩
  rcases List.mem_cons.mp hy with z | z
  · rw [z]
    have hxb := hlt x (List.mem_of_mem_take hx)
    rcases Int32.lt_or_eq_of_le (ht x hx) with q | q
    · exact Or.inl q
    · exact Or.inr ⟨q.symm, hxb⟩
  · exact Or.inl (Int32.lt_of_lt_of_le (hd y z) (ht x hx))
theorem ins_mem {rl : List Nat} {b j x : Nat} : x ∈ rl.take j ++ b :: rl.drop j ↔ x = b ∨ x ∈ rl := by
  rw [List.mem_append, List.mem_cons]
  constructor
  · rintro (h | h | h)
    · exact Or.inr (List.mem_of_mem_take h)
    · exact Or.inl h
    · exact Or.inr (List.mem_of_mem_drop h)
  · rintro (h | h)
    · exact Or.inr (Or.inl h)
    · rw [← List.take_append_drop j rl, List.mem_append] at h
      exact h.elim Or.inl (fun z => Or.inr (Or.inr z))
theorem ins_len {rl : List Nat} {b j : Nat} (hj : j ≤ rl.length) : (rl.take j ++ b :: rl.drop j).length = rl.length + 1 := by rw [List.length_append, List.length_cons, List.length_take, List.length_drop]; omega
/-- how the list's row grows while m elements come into the empty list -/
def kTo (k : Nat) : Nat → Nat
  | 0 => k
  | m + 1 => kUp (kTo k m) m
def sTo (k : Nat) : Nat → Nat
  | 0 => 0
  | m + 1 => sTo k m + sUp (kTo k m) m
theorem kUp_ge (k n : Nat) : k ≤ kUp k n := by unfold kUp; split <;> omega
theorem kTo_mono (k : Nat) {m n : Nat} (h : m ≤ n) : kTo k m ≤ kTo k n ∧ sTo k m ≤ sTo k n := by
  induction h with
  | refl => exact ⟨Nat.le_refl _, Nat.le_refl _⟩
  | step h ih => exact ⟨Nat.le_trans ih.1 (kUp_ge _ _), Nat.le_trans ih.2 (Nat.le_add_right _ _)⟩
/-- all that a row may still cost -/
def pot : Nat → Nat
  | 0 => 1084
  | k + 1 => pot k - cap (k + 1)
theorem pot_up : ∀ k, k < 10 → pot (k + 1) + cap (k + 1) = pot k := by decide
theorem pot_10 : pot 10 = 0 := by decide
theorem sTo_pot {k : Nat} (hk : k ≤ 10) : ∀ m, m ≤ 366 → kTo k m ≤ 10 → sTo k m + pot (kTo k m) = pot k
  | 0, _, _ => Nat.zero_add _
  | m + 1, hm, hle => by
    have h1 := kUp_ge (kTo k m) m
    have ih := sTo_pot hk m (by omega) (Nat.le_trans h1 hle)
    show sTo k m + sUp (kTo k m) m + pot (kUp (kTo k m) m) = pot k
    by_cases e : m = cap (kTo k m)
    · have e1 : kUp (kTo k m) m = kTo k m + 1 := if_pos e
      have e2 : sUp (kTo k m) m = cap (kTo k m + 1) := if_pos e
      have h10 : kTo k m < 10 := by have : kTo k (m + 1) = kUp (kTo k m) m := rfl; omega
      rw [e1, e2]
      have := pot_up (kTo k m) h10
      omega
    · have e1 : kUp (kTo k m) m = kTo k m := if_neg e
      have e2 : sUp (kTo k m) m = 0 := if_neg e
      rw [e1, e2]
      omega
theorem kTo_le {k : Nat} (hk : k ≤ 10) : ∀ m, m ≤ 366 → kTo k m ≤ 10
  | 0, _ => hk
  | m + 1, hm => by
    have ih := kTo_le hk m (by omega)
    show kUp (kTo k m) m ≤ 10
    unfold kUp
    split
    · next e =>
      rcases Nat.lt_or_ge (kTo k m) 10 with z | z
      · omega
      · exfalso
        have : kTo k m = 10 := by omega
        rw [this] at e
        have : cap 10 = 366 := by decide
        omega
    · exact ih
/-- how many of the first n are wished for -/
def cW (W : Nat → Int32) : Nat → Nat
  | 0 => 0
  | n + 1 => if 0 < W n then cW W n + 1 else cW W n
theorem cW_le (W : Nat → Int32) : ∀ n, cW W n ≤ n
  | 0 => Nat.le_refl _
  | n + 1 => by rw [cW]; have := cW_le W n; split <;> omega
theorem cW_mono (W : Nat → Int32) {m n : Nat} (h : m ≤ n) : cW W m ≤ cW W n := by
  induction h with
  | refl => exact Nat.le_refl _
  | step h ih => rw [cW]; split <;> omega
