/-! ===== THE WORLD BY LOGICAL NUMBERS =====
A world is a shape (what stands under each number: class or kind of array, with its length; which number each reference names; the address of each number)
and the whole numbers in it: N i k is field k of the object i, or element k of the array i.
Kinds: 0 .. 8 an object of the class of that number (CL); 9 int[], 10 byte[], 11 boolean[], 12 Object[]; above: nothing. -/
abbrev WSh : Type := (Nat → Nat × Nat) × (Nat → Nat → Option Nat) × (Nat → Nat)
abbrev WNm : Type := Nat → Nat → Int32
/-- the machine's numbers: classes and slots, array classes, the first own address, what is said of the outside -/
abbrev WGp : Type := va_G × (Nat → ClassId) × Nat × (State → Heap → Prop)
abbrev WGp.D (g : WGp) : va_G := g.1
abbrev WGp.tc (g : WGp) : Nat → ClassId := g.2.1
abbrev WGp.z (g : WGp) : Nat := g.2.2.1
abbrev WGp.X (g : WGp) : State → Heap → Prop := g.2.2.2
abbrev WGp.A (g : WGp) : Nat → Prop := fun q => g.2.2.1 ≤ q
def u2 {α : Type} (f : Nat → Nat → α) (i k : Nat) (v : α) : Nat → Nat → α := fun a b => if a = i ∧ b = k then v else f a b
theorem u2_eq {α : Type} (f : Nat → Nat → α) (i k : Nat) (v : α) : u2 f i k v i k = v := by simp [u2]
theorem u2_ne {α : Type} {f : Nat → Nat → α} {i k a b : Nat} {v : α} (h : ¬ (a = i ∧ b = k)) : u2 f i k v a b = f a b := by simp [u2, h]
theorem u2_row {α : Type} {f : Nat → Nat → α} {i k a : Nat} {v : α} (h : ¬ a = i) : u2 f i k v a = f a := by funext b; simp [u2, h]
def WV (sh : WSh) (N : WNm) (i : Nat) : Nat → Value := fun k => if isI (sh.1 i).1 k = true then .int (N i k) else va_rf ((sh.2.1 i k).map sh.2.2)
def WC (g : WGp) (sh : WSh) (N : WNm) (H : Heap) (i : Nat) : Prop :=
  ((sh.1 i).1 < 9 → t_OB (sh.2.2 i) (g.D.1 (sh.1 i).1) (nF (sh.1 i).1) (g.D.2 (sh.1 i).1) H (WV sh N i)) ∧
  ((sh.1 i).1 = 9 → H[sh.2.2 i]? = some (arrV (g.tc 0) (sh.1 i).2 (fun j => .int (N i j)))) ∧
  ((sh.1 i).1 = 10 → H[sh.2.2 i]? = some (arrV (g.tc 1) (sh.1 i).2 (fun j => .int (N i j)))) ∧
  ((sh.1 i).1 = 11 → H[sh.2.2 i]? = some (arrV (g.tc 2) (sh.1 i).2 (fun j => .int (N i j)))) ∧
  ((sh.1 i).1 = 12 → H[sh.2.2 i]? = some (arrV (g.tc 3) (sh.1 i).2 (fun j => va_rf ((sh.2.1 i j).map sh.2.2))))
def PIC (g : WGp) (sh : WSh) (N : WNm) (H : Heap) : Prop :=
  (∀ i, WC g sh N H i) ∧ (∀ i j, (sh.1 i).1 ≤ 12 → (sh.1 j).1 ≤ 12 → sh.2.2 i = sh.2.2 j → i = j) ∧ ∀ i, (sh.1 i).1 ≤ 12 → g.z ≤ sh.2.2 i ∧ sh.2.2 i < H.size
abbrev TYS (tc : Nat → ClassId) : List (ClassId × FieldType) := [(tc 0, .int), (tc 1, .byte), (tc 2, .boolean), (tc 3, .object "java/lang/Object")]
def KX (g : WGp) (U : State) : Prop := va_K g.D CL (TYS g.tc) U ∧ g.X U U.heap ∧ g.z ≤ U.heap.size
/-- what is said of the outside stays true while nothing of it is written -/
def GOK (g : WGp) : Prop := ∀ (s U : State) (H H1 : Heap), s.WarmedH U.vm → H.size ≤ H1.size → (∀ q : Nat, q < H.size → ¬ g.z ≤ q → H1[q]? = H[q]?) → g.X s H → g.X U H1
theorem WC.kept {g : WGp} {sh sh' : WSh} {N N' : WNm} {H H1 : Heap} {i : Nat} (h : WC g sh N H i) (h1 : sh'.1 i = sh.1 i) (h2 : sh'.2.1 i = sh.2.1 i) (h3 : sh'.2.2 = sh.2.2) (hN : N' i = N i) (hq : (sh.1 i).1 ≤ 12 → H1[sh.2.2 i]? = H[sh.2.2 i]?) : WC g sh' N' H1 i := by
  have hV : WV sh' N' i = WV sh N i := by funext k; simp only [WV, h1, h2, h3, hN]
  unfold WC at h ⊢
  rw [h1, h3, h2, hN, hV]
  refine ⟨fun t => (h.1 t).kept (hq (by omega)), fun t => ?_, fun t => ?_, fun t => ?_, fun t => ?_⟩
  · rw [hq (by omega)]; exact h.2.1 t
  · rw [hq (by omega)]; exact h.2.2.1 t
  · rw [hq (by omega)]; exact h.2.2.2.1 t
  · rw [hq (by omega)]; exact h.2.2.2.2 t
/-- one cell is written -/
theorem PIC.put {g : WGp} {sh sh' : WSh} {N N' : WNm} {H H1 : Heap} {i : Nat} (h : PIC g sh N H) (ht : (sh.1 i).1 ≤ 12) (h1 : sh'.1 = sh.1) (h3 : sh'.2.2 = sh.2.2) (h2 : ∀ a, a ≠ i → sh'.2.1 a = sh.2.1 a) (hN : ∀ a, a ≠ i → N' a = N a)
    (hz : H1.size = H.size) (oq : ∀ q : Nat, q ≠ sh.2.2 i → H1[q]? = H[q]?) (hc : WC g sh' N' H1 i) : PIC g sh' N' H1 := by
  refine ⟨fun a => ?_, ?_, ?_⟩
  · by_cases ha : a = i
    · subst ha; exact hc
    · exact (h.1 a).kept (by rw [h1]) (h2 a ha) h3 (hN a ha) (fun t => oq _ (fun e => ha (h.2.1 a i t ht e)))
  · rw [h1, h3]; exact h.2.1
  · rw [h1, h3, hz]; exact h.2.2
/-- one cell is made: at the free number i -/
theorem PIC.new {g : WGp} {sh sh' : WSh} {N N' : WNm} {H H1 : Heap} {i : Nat} (h : PIC g sh N H) (hf : 12 < (sh.1 i).1) (h1 : ∀ a, a ≠ i → sh'.1 a = sh.1 a) (h3 : ∀ a, a ≠ i → sh'.2.2 a = sh.2.2 a) (h2 : ∀ a, a ≠ i → sh'.2.1 a = sh.2.1 a) (hN : ∀ a, a ≠ i → N' a = N a)
    (hr : ∀ a k j, a ≠ i → sh.2.1 a k = some j → j ≠ i) (hi : sh'.2.2 i = H.size) (hg : g.z ≤ H.size) (hz : H1.size = H.size + 1) (oq : ∀ q : Nat, q < H.size → H1[q]? = H[q]?) (hc : WC g sh' N' H1 i) : PIC g sh' N' H1 := by
  have hm : ∀ a k, a ≠ i → (sh'.2.1 a k).map sh'.2.2 = (sh.2.1 a k).map sh.2.2 := by
    intro a k ha
    rw [h2 a ha]
    cases hc : sh.2.1 a k with
    | none => rfl
    | some j => simp only [Option.map_some]; rw [h3 j (hr a k j ha hc)]
  refine ⟨fun a => ?_, ?_, ?_⟩
  · by_cases ha : a = i
    · subst ha; exact hc
    · have h0 := h.1 a
      have hV : WV sh' N' a = WV sh N a := by funext k; simp only [WV, h1 a ha, hm a k ha, hN a ha]
      have hA : (fun j => va_rf ((sh'.2.1 a j).map sh'.2.2)) = (fun j => va_rf ((sh.2.1 a j).map sh.2.2)) := by funext k; rw [hm a k ha]
      have hq : (sh.1 a).1 ≤ 12 → H1[sh.2.2 a]? = H[sh.2.2 a]? := fun t => oq _ (h.2.2 a t).2
      unfold WC at h0 ⊢
      rw [h1 a ha, h3 a ha, hN a ha, hV, hA]
      refine ⟨fun t => (h0.1 t).kept (hq (by omega)), fun t => ?_, fun t => ?_, fun t => ?_, fun t => ?_⟩
      · rw [hq (by omega)]; exact h0.2.1 t
      · rw [hq (by omega)]; exact h0.2.2.1 t
      · rw [hq (by omega)]; exact h0.2.2.2.1 t
      · rw [hq (by omega)]; exact h0.2.2.2.2 t
  · intro a b ta tb e
    by_cases ha : a = i <;> by_cases hb : b = i
    · rw [ha, hb]
    · subst ha; rw [hi, h3 b hb] at e; rw [h1 b hb] at tb; have := (h.2.2 b tb).2; omega
    · subst hb; rw [hi, h3 a ha] at e; rw [h1 a ha] at ta; have := (h.2.2 a ta).2; omega
    · rw [h3 a ha, h3 b hb] at e; rw [h1 a ha] at ta; rw [h1 b hb] at tb; exact h.2.1 a b ta tb e
  · intro a ta
    by_cases ha : a = i
    · subst ha; rw [hi]; omega
    · rw [h3 a ha]; rw [h1 a ha] at ta; have := h.2.2 a ta; omega
theorem KX.moved {g : WGp} (hg : GOK g) {s U : State} {H : Heap} {locs : List Loc} (hW : s.WarmedH U.vm) (hU : U.heap = H) (hS : va_S g.A s.heap H locs) (h : KX g s) : KX g U :=
  ⟨va_K.moved hW.alike h.1, hg s U s.heap U.heap hW (by rw [hU]; exact hS.1) (fun q h1 h2 => by rw [hU]; exact hS.2.1 q h1 h2) h.2.1, by rw [hU]; exact Nat.le_trans h.2.2 hS.1⟩
/-! locals, by their places -/
def LV (ls : Array Slot) (nL : Nat) (lv : List (Option Value)) : Prop := ls.size = nL ∧ lv_wf ls ∧ ∀ (k : Nat) (v : Value), lv[k]? = some (some v) → ls[k]? = some (.val v)
theorem LV.at {ls : Array Slot} {nL : Nat} {lv : List (Option Value)} (h : LV ls nL lv) {k : Nat} {v : Value} (hk : lv[k]? = some (some v)) : ls[k]? = some (.val v) := h.2.2 k v hk
/-- the listed values, for the kit's rows -/
def lvL (lv : List (Option Value)) : List (Nat × Value) := (List.range lv.length).filterMap fun k => match lv[k]? with
  | some (some v) => some (k, v)
  | _ => none
theorem lvL_mem {lv : List (Option Value)} {k : Nat} {v : Value} : (k, v) ∈ lvL lv ↔ lv[k]? = some (some v) := by
  unfold lvL
  rw [List.mem_filterMap]
  constructor
  · rintro ⟨a, -, h⟩
    split at h
    · next w hw => cases h; exact hw
    · cases h
  · intro h
    refine ⟨k, List.mem_range.mpr (List.getElem?_eq_some_iff.mp h).1, ?_⟩
    rw [h]
theorem LV.has {ls : Array Slot} {nL : Nat} {lv : List (Option Value)} (h : LV ls nL lv) : lv_has ls nL (lvL lv) := ⟨h.1, h.2.1, fun q hq => h.2.2 q.1 q.2 (lvL_mem.mp hq)⟩
/-- no long, and no double, stands just ahead of a place -/
def lvok (lv : List (Option Value)) (i : Nat) : Bool := match i with
  | 0 => true
  | k + 1 => match lv[k]? with
    | some (some v) => v.category != 2
    | _ => true
theorem LV.set1 {ls' : Array Slot} {nL i : Nat} {lv : List (Option Value)} {v : Value} (hok : lvok lv i = true) (h : lv_has ls' nL ((i, v) :: (lvL lv).filter (fun q => !(q.1 == i) && !(q.1 + 1 == i && q.2.category == 2)))) : LV ls' nL (lv.set i (some v)) := by
  refine ⟨h.1, h.2.1, fun k w hk => ?_⟩
  by_cases hki : i = k
  · subst hki
    rw [List.getElem?_set] at hk
    rw [if_pos rfl] at hk
    split at hk
    · cases hk
      exact h.2.2 _ List.mem_cons_self
    · cases hk
  · rw [List.getElem?_set_ne hki] at hk
    refine h.2.2 (k, w) (List.mem_cons_of_mem _ (List.mem_filter.mpr ⟨lvL_mem.mpr hk, ?_⟩))
    have e1 : (k == i) = false := by simp; exact fun e => hki e.symm
    by_cases hk1 : k + 1 = i
    · subst hk1
      have hc : (w.category != 2) = true := by simpa [lvok, hk] using hok
      have hc' : (w.category == 2) = false := by simpa using hc
      simp [hc']
    · have e2 : (k + 1 == i) = false := by simpa using hk1
      simp [e1, e2]
theorem LV.set2 {ls' : Array Slot} {nL i : Nat} {lv : List (Option Value)} {v : Value} (hok : lvok lv i = true) (h : lv_has ls' nL ((i, v) :: (lvL lv).filter (fun q => !(q.1 == i) && (!(q.1 == i + 1) && !(q.1 + 1 == i && q.2.category == 2))))) : LV ls' nL ((lv.set i (some v)).set (i + 1) none) := by
  refine ⟨h.1, h.2.1, fun k w hk => ?_⟩
  by_cases hk2 : i + 1 = k
  · subst hk2
    rw [List.getElem?_set] at hk
    rw [if_pos rfl] at hk
    split at hk
    · cases hk
    · cases hk
  · rw [List.getElem?_set_ne hk2] at hk
    by_cases hki : i = k
    · subst hki
      rw [List.getElem?_set] at hk
      rw [if_pos rfl] at hk
      split at hk
      · cases hk
        exact h.2.2 _ List.mem_cons_self
      · cases hk
    · rw [List.getElem?_set_ne hki] at hk
      refine h.2.2 (k, w) (List.mem_cons_of_mem _ (List.mem_filter.mpr ⟨lvL_mem.mpr hk, ?_⟩))
      have e1 : (k == i) = false := by simp; exact fun e => hki e.symm
      have e3 : (k == i + 1) = false := by simp; exact fun e => hk2 e.symm
      by_cases hk1 : k + 1 = i
      · subst hk1
        have hc : (w.category != 2) = true := by simpa [lvok, hk] using hok
        have hc' : (w.category == 2) = false := by simpa using hc
        simp [hc']
        omega
      · have e2 : (k + 1 == i) = false := by simpa using hk1
        simp [e1, e2, e3]
/-- where a method stands: in any heap that holds the world, the machine comes to Q -/
def J (p : Program) (l : Launch) (e : Env) (R : Room) (s : State) (m : MethodId) (args : Array Value) (below : List Frame) (meth : Method) (c : Code) (Q : State → Prop) (g : WGp) (nL : Nat) (sh : WSh) (N : WNm) (cells slots pc : Nat) (lv : List (Option Value)) (st : List Value) : Prop :=
  ∀ (H : Heap) (locs : List Loc) (ls : Array Slot), PIC g sh N H → va_S g.A s.heap H locs → LV ls nL lv → W p l e R s m args below meth c H locs cells slots Q (F0 m pc ls st)
/-- what holds all through a method's body -/
def Cx (p : Program) (s : State) (m : MethodId) (args : Array Value) (meth : Method) (c : Code) (g : WGp) (nL : Nat) (own : String) (cc : ByteArray) (ret : Option FieldType) : Prop :=
  p.tables.exec = Jvm.exec ∧ c.code = cc ∧ c.maxLocals = nL ∧ s.vm.findClass own = some m.cls ∧ (∀ w ∈ TBL, w.before args s = true) ∧ KX g s ∧ GOK g ∧ meth.sig.returnType = ret ∧ meth.locks = false
section Rows
variable {p : Program} {l : Launch} {e : Env} {R : Room} {s : State} {m : MethodId} {args : Array Value} {below : List Frame} {meth : Method} {c : Code} {Q : State → Prop} {g : WGp} {nL : Nat} {own : String} {cc : ByteArray} {ret : Option FieldType}
variable {sh : WSh} {N : WNm} {cells slots pc : Nat} {lv : List (Option Value)} {st : List Value}
theorem J.widen {k n : Nat} (h1 : cells ≤ k) (h2 : slots ≤ n) (kk : J p l e R s m args below meth c Q g nL sh N k n pc lv st) : J p l e R s m args below meth c Q g nL sh N cells slots pc lv st := fun H locs ls a b d => W.widen h1 h2 (kk H locs ls a b d)
theorem J.sub {lv' : List (Option Value)} (h : ∀ (k : Nat) (v : Value), lv'[k]? = some (some v) → lv[k]? = some (some v)) (kk : J p l e R s m args below meth c Q g nL sh N cells slots pc lv' st) : J p l e R s m args below meth c Q g nL sh N cells slots pc lv st := fun H locs ls a b d => kk H locs ls a b ⟨d.1, d.2.1, fun k v hk => d.2.2 k v (h k v hk)⟩
end Rows
