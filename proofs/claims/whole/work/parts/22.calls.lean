abbrev RM (d c n : Nat) : Room := { frames := d, cells := c, slots := n, locals := 40 * d }
/-- a method's contract at one world: Qc says what comes of it -/
def CT (l : Launch) (g : WGp) (y : MethodName) (cc : ByteArray) (maxL : Nat) (ret : Option FieldType) (rm : Room) (av : List Value) (sh : WSh) (N : WNm) (Qc : Array Value → State → Outcome → State → Prop) : Prop :=
  Met l y (.code y cc maxL ret :: TBL) rm (va_Pc av (fun U => PIC g sh N U.heap ∧ KX g U)) Qc rm.cells rm.slots g.A
def QI (g : WGp) (post : Int32 → WSh → WNm → Prop) : Array Value → State → Outcome → State → Prop := va_Qi (fun r (u : WSh × WNm) => post r u.1 u.2) (fun u t => PIC g u.1 u.2 t.heap) g.A
def QV (g : WGp) (post : WSh → WNm → Prop) : Array Value → State → Outcome → State → Prop := va_Qv (fun (u : WSh × WNm) => post u.1 u.2) (fun u t => PIC g u.1 u.2 t.heap) g.A
def QR (g : WGp) (post : Option Nat → WSh → WNm → Prop) : Array Value → State → Outcome → State → Prop := va_Qq (fun r (u : WSh × WNm) => ∃ o : Option Nat, r = o.map u.1.2.2 ∧ post o u.1 u.2) (fun u t => PIC g u.1 u.2 t.heap) g.A
/-- the shape stays, the numbers become F, the answer is f -/
abbrev QF (g : WGp) (sh : WSh) (F : WNm) (f : Int32) : Array Value → State → Outcome → State → Prop := QI g (fun r sh1 N1 => sh1 = sh ∧ N1 = F ∧ r = f)
abbrev QFv (g : WGp) (sh : WSh) (F : WNm) : Array Value → State → Outcome → State → Prop := QV g (fun sh1 N1 => sh1 = sh ∧ N1 = F)
abbrev QFr (g : WGp) (sh : WSh) (F : WNm) (o : Option Nat) : Array Value → State → Outcome → State → Prop := QR g (fun o1 sh1 N1 => sh1 = sh ∧ N1 = F ∧ o1 = o)
def lvE0 : List Value → List (Option Value)
  | [] => []
  | v :: vs => if v.category = 2 then some v :: none :: lvE0 vs else some v :: lvE0 vs
def lvE (av : List Value) (n : Nat) : List (Option Value) := lvE0 av ++ List.replicate (n - (lvE0 av).length) none
theorem lvE0_args : ∀ (av : List Value) (i k : Nat) (v : Value), (lvE0 av)[k]? = some (some v) → (i + k, v) ∈ lv_args i av
  | [], i, k, v, h => by simp [lvE0] at h
  | w :: vs, i, k, v, h => by
    by_cases hc : w.category = 2
    · simp only [lvE0, hc, if_true] at h
      cases k with
      | zero => simp at h; subst h; simp [lv_args]
      | succ k =>
        cases k with
        | zero => simp at h
        | succ k =>
          simp only [List.getElem?_cons_succ] at h
          have := lvE0_args vs (i + 2) k v h
          simp only [lv_args, hc, if_true]
          refine List.mem_cons_of_mem _ ?_
          rw [show i + (k + 1 + 1) = i + 2 + k by omega]
          exact this
    · simp only [lvE0, hc, if_false] at h
      cases k with
      | zero => simp at h; subst h; simp [lv_args]
      | succ k =>
        simp only [List.getElem?_cons_succ] at h
        have := lvE0_args vs (i + 1) k v h
        simp only [lv_args, hc, if_false]
        refine List.mem_cons_of_mem _ ?_
        rw [show i + (k + 1) = i + 1 + k by omega]
        exact this
theorem lvE0_len : ∀ (av : List Value), (lvE0 av).length = (lg_sl av).length
  | [] => rfl
  | v :: vs => by
    have ih := lvE0_len vs
    by_cases hc : v.category = 2
    · simp [lvE0, lg_sl, hc] at ih ⊢; omega
    · simp [lvE0, lg_sl, hc] at ih ⊢; omega
theorem ent {l : Launch} {g : WGp} {y : MethodName} {cc : ByteArray} {maxL : Nat} {ret : Option FieldType} {rm : Room} {av : List Value} {sh : WSh} {N : WNm} {Qc : Array Value → State → Outcome → State → Prop} (hg : GOK g) (hy : plainName y.cls = true) (hlen : (lvE0 av).length ≤ maxL)
    (body : ∀ (p : Program) (e : Env) (s : State) (m : MethodId) (args : Array Value) (below : List Frame) (meth : Method) (c : Code), Cx p s m args meth c g maxL y.cls cc ret → meth.name = y.name → J p l e rm s m args below meth c (MQ below Qc args s rm.cells rm.slots g.A) g maxL sh N 0 0 0 (lvE av maxL) []) : CT l g y cc maxL ret rm av sh N Qc := by
  refine Met.ofW (cc := cc) (maxL := maxL) (ret := ret) hy rfl ?_
  intro p e s m args below meth c s₁ B hml hv
  obtain ⟨rfl, hP, hK⟩ := hv
  have hts := atoms_spec (ws := .code y cc maxL ret :: TBL) B.pre
  have hC : Cx p s m av.toArray meth c g maxL y.cls cc ret := ⟨B.exec, B.bytes, hml, findClass_of_methodNamed B.named, fun w hw => hts w (List.mem_cons_of_mem _ hw), hK, hg, B.returns, B.notSynchronized⟩
  have hl := lv_entry av (n := maxL) (by rw [← lvE0_len]; exact hlen)
  rw [lg_entry_eq]
  refine body p e s m av.toArray below meth c hC (name_of_methodNamed B.named B.method).1 s.heap [] _ hP va_S.rf ⟨hl.1, hl.2.1, fun k v hk => ?_⟩
  refine hl.2.2 (k, v) ?_
  have h2 : (lvE0 av)[k]? = some (some v) := by
    unfold lvE at hk
    by_cases hkl : k < (lvE0 av).length
    · rwa [List.getElem?_append_left hkl] at hk
    · rw [List.getElem?_append_right (by omega), List.getElem?_replicate] at hk
      split at hk
      · cases hk
      · cases hk
  have := lvE0_args av 0 k v h2
  rwa [Nat.zero_add] at this
theorem good_in {y : MethodName} {cc : ByteArray} {maxL : Nat} {ret : Option FieldType} (h : Cond.code y cc maxL ret ∈ TBL) : GoodIn TBL (.code y cc maxL ret :: TBL) := fun w hw => (List.mem_cons.mp hw).elim (fun e => by subst e; exact ⟨h, tbl_good h⟩) (fun h => ⟨h, tbl_good h⟩)
abbrev NoMH (y : MethodName) (n : Nat) : Prop := y.cls ≠ "java/lang/invoke/MethodHandle" ∧ y.cls ≠ "java/lang/invoke/VarHandle" ∧ (parseMethodDescriptor y.desc).map (fun d => d.parameters.length) = some n
/-- what links a call: of an instance's method, of a static one, of a constructor -/
def MV (own : String) (idx : Nat) (y : MethodName) (cc : ByteArray) (maxL : Nat) (ret : Option FieldType) (n : Nat) : Prop := Cond.methodLink own idx y ∈ TBL ∧ Cond.instanceMethod y ∈ TBL ∧ Cond.selects y.cls y y ∈ TBL ∧ Cond.initialized y.cls ∈ TBL ∧ Cond.code y cc maxL ret ∈ TBL ∧ NoMH y n
def MS (own : String) (idx : Nat) (y : MethodName) (cc : ByteArray) (maxL : Nat) (ret : Option FieldType) (n : Nat) : Prop := Cond.methodLink own idx y ∈ TBL ∧ Cond.static y ∈ TBL ∧ Cond.initialized y.cls ∈ TBL ∧ Cond.code y cc maxL ret ∈ TBL ∧ NoMH y n
def MI (own : String) (idx : Nat) (y : MethodName) (cc : ByteArray) (maxL : Nat) (n : Nat) : Prop := Cond.methodLink own idx y ∈ TBL ∧ Cond.instanceMethod y ∈ TBL ∧ Cond.initialized y.cls ∈ TBL ∧ Cond.code y cc maxL none ∈ TBL ∧ y.name = "<init>" ∧ NoMH y n
def MSN (host own : String) (idx : Nat) (y : MethodName) (cc : ByteArray) (maxL : Nat) (ret : Option FieldType) (n : Nat) (g : WGp) : Prop := (∀ U H, g.X U H → va_Nw (.methodLinkNest own idx y host) U) ∧ Cond.static y ∈ TBL ∧ Cond.initialized y.cls ∈ TBL ∧ Cond.code y cc maxL ret ∈ TBL ∧ NoMH y n
def MIN (host own : String) (idx : Nat) (y : MethodName) (cc : ByteArray) (maxL : Nat) (n : Nat) (g : WGp) : Prop := (∀ U H, g.X U H → va_Nw (.methodLinkNest own idx y host) U) ∧ Cond.instanceMethod y ∈ TBL ∧ Cond.initialized y.cls ∈ TBL ∧ Cond.code y cc maxL none ∈ TBL ∧ y.name = "<init>" ∧ NoMH y n
theorem MV.of {own : String} {idx : Nat} {y : MethodName} {cc : ByteArray} {maxL : Nat} {ret : Option FieldType} {n : Nat} (a b d f h : Nat) (h1 : lw_tbl[a]? = some (Cond.methodLink own idx y)) (h2 : lw_tbl[b]? = some (Cond.instanceMethod y)) (h3 : lw_tbl[d]? = some (Cond.selects y.cls y y)) (h4 : lw_tbl[f]? = some (Cond.initialized y.cls)) (h5 : lw_tbl[h]? = some (Cond.code y cc maxL ret)) (h6 : NoMH y n) : MV own idx y cc maxL ret n := ⟨tbl_in a h1 rfl, tbl_in b h2 rfl, tbl_in d h3 rfl, tbl_in f h4 rfl, tbl_in h h5 rfl, h6⟩
theorem MS.of {own : String} {idx : Nat} {y : MethodName} {cc : ByteArray} {maxL : Nat} {ret : Option FieldType} {n : Nat} (a b f h : Nat) (h1 : lw_tbl[a]? = some (Cond.methodLink own idx y)) (h2 : lw_tbl[b]? = some (Cond.static y)) (h4 : lw_tbl[f]? = some (Cond.initialized y.cls)) (h5 : lw_tbl[h]? = some (Cond.code y cc maxL ret)) (h6 : NoMH y n) : MS own idx y cc maxL ret n := ⟨tbl_in a h1 rfl, tbl_in b h2 rfl, tbl_in f h4 rfl, tbl_in h h5 rfl, h6⟩
theorem MI.of {own : String} {idx : Nat} {y : MethodName} {cc : ByteArray} {maxL : Nat} {n : Nat} (a b f h : Nat) (h1 : lw_tbl[a]? = some (Cond.methodLink own idx y)) (h2 : lw_tbl[b]? = some (Cond.instanceMethod y)) (h4 : lw_tbl[f]? = some (Cond.initialized y.cls)) (h5 : lw_tbl[h]? = some (Cond.code y cc maxL none)) (h7 : y.name = "<init>") (h6 : NoMH y n) : MI own idx y cc maxL n := ⟨tbl_in a h1 rfl, tbl_in b h2 rfl, tbl_in f h4 rfl, tbl_in h h5 rfl, h7, h6⟩
theorem MSN.of {host own : String} {idx : Nat} {y : MethodName} {cc : ByteArray} {maxL : Nat} {ret : Option FieldType} {n : Nat} {g : WGp} (b f h : Nat) (h2 : lw_tbl[b]? = some (Cond.static y)) (h4 : lw_tbl[f]? = some (Cond.initialized y.cls)) (h5 : lw_tbl[h]? = some (Cond.code y cc maxL ret)) (h6 : NoMH y n) (h1 : ∀ U H, g.X U H → va_Nw (.methodLinkNest own idx y host) U) : MSN host own idx y cc maxL ret n g := ⟨h1, tbl_in b h2 rfl, tbl_in f h4 rfl, tbl_in h h5 rfl, h6⟩
theorem MIN.of {host own : String} {idx : Nat} {y : MethodName} {cc : ByteArray} {maxL : Nat} {n : Nat} {g : WGp} (b f h : Nat) (h2 : lw_tbl[b]? = some (Cond.instanceMethod y)) (h4 : lw_tbl[f]? = some (Cond.initialized y.cls)) (h5 : lw_tbl[h]? = some (Cond.code y cc maxL none)) (h7 : y.name = "<init>") (h6 : NoMH y n) (h1 : ∀ U H, g.X U H → va_Nw (.methodLinkNest own idx y host) U) : MIN host own idx y cc maxL n g := ⟨h1, tbl_in b h2 rfl, tbl_in f h4 rfl, tbl_in h h5 rfl, h7, h6⟩
section Calls
variable {p : Program} {l : Launch} {e : Env} {R : Room} {s : State} {m : MethodId} {args : Array Value} {below : List Frame} {meth : Method} {c : Code} {Q : State → Prop} {g : WGp} {nL : Nat} {own : String} {cc : ByteArray} {ret : Option FieldType}
variable {sh : WSh} {N : WNm} {cells slots pc : Nat} {lv : List (Option Value)} {st : List Value}
theorem j_iret {ty : FieldType} {post : Int32 → WSh → WNm → Prop} {v : Int32} (C : Cx p s m args meth c g nL own cc (some ty)) (hd : decode cc pc = .ok (.ireturn, 1)) (hn : narrow ty (.int v) = .int v) (hq : post v sh N) : J p l e R s m args below meth c (MQ below (QI g post) args s cells slots g.A) g nL sh N cells slots pc lv [.int v] := fun H locs ls a b d => W.zret C.1 C.2.1 C.2.2.2.2.2.2.2.1 hn (fun t ht _ => ⟨⟨v, (sh, N), rfl, hq, (show PIC g sh N t.heap by rw [ht]; exact a)⟩, b.F ht⟩) b.2.2 hd (hlocks := C.2.2.2.2.2.2.2.2)
theorem j_vret {post : WSh → WNm → Prop} (C : Cx p s m args meth c g nL own cc none) (hd : decode cc pc = .ok (.return_, 1)) (hq : post sh N) : J p l e R s m args below meth c (MQ below (QV g post) args s cells slots g.A) g nL sh N cells slots pc lv [] := fun H locs ls a b d => W.vret C.1 C.2.1 C.2.2.2.2.2.2.2.1 (fun t ht _ => ⟨⟨(sh, N), rfl, hq, (show PIC g sh N t.heap by rw [ht]; exact a)⟩, b.F ht⟩) b.2.2 hd (hlocks := C.2.2.2.2.2.2.2.2)
theorem j_aret {ty : FieldType} {post : Option Nat → WSh → WNm → Prop} {i : Nat} (C : Cx p s m args meth c g nL own cc (some ty)) (hd : decode cc pc = .ok (.areturn, 1)) (hty : (∃ n, ty = .object n) ∨ ∃ t, ty = .array t) (hq : post (some i) sh N) : J p l e R s m args below meth c (MQ below (QR g post) args s cells slots g.A) g nL sh N cells slots pc lv [.ref (sh.2.2 i)] := fun H locs ls a b d => W.aret C.1 C.2.1 C.2.2.2.2.2.2.2.1 hty (Or.inr ⟨_, rfl⟩) (fun t ht _ => ⟨⟨some (sh.2.2 i), (sh, N), rfl, ⟨some i, rfl, hq⟩, (show PIC g sh N t.heap by rw [ht]; exact a)⟩, b.F ht⟩) b.2.2 hd (hlocks := C.2.2.2.2.2.2.2.2)
theorem j_aretN {ty : FieldType} {post : Option Nat → WSh → WNm → Prop} (C : Cx p s m args meth c g nL own cc (some ty)) (hd : decode cc pc = .ok (.areturn, 1)) (hty : (∃ n, ty = .object n) ∨ ∃ t, ty = .array t) (hq : post none sh N) : J p l e R s m args below meth c (MQ below (QR g post) args s cells slots g.A) g nL sh N cells slots pc lv [.null] := fun H locs ls a b d => W.aret C.1 C.2.1 C.2.2.2.2.2.2.2.1 hty (Or.inl rfl) (fun t ht _ => ⟨⟨none, (sh, N), rfl, ⟨none, rfl, hq⟩, (show PIC g sh N t.heap by rw [ht]; exact a)⟩, b.F ht⟩) b.2.2 hd (hlocks := C.2.2.2.2.2.2.2.2)
theorem pic_recv (C : Cx p s m args meth c g nL own cc ret) {H : Heap} {i : Nat} {K : String} (a : PIC g sh N H) (ht : (sh.1 i).1 < 9 ∧ RR (sh.1 i).1 = K) : ∃ cell : Cell, H[sh.2.2 i]? = some cell ∧ cell.vm.isStatics = false ∧ s.vm.findClass K = some cell.cls := by
  obtain ⟨cell, q1, q2, q3, q4⟩ := (a.1 i).1 ht.1
  obtain ⟨hS, hfc, -⟩ := C.2.2.2.2.2.1.1.1 _ _ (CL_at ht.1)
  exact ⟨cell, q1, by rw [q3]; rfl, by rw [q2, ← ht.2]; exact hfc⟩
theorem pc_blind (hg : GOK g) (av : List Value) (sh : WSh) (N : WNm) : FrameBlind (va_Pc av (fun U => PIC g sh N U.heap ∧ KX g U)) := fun a U g1 mk q => ⟨q.1, q.2.1, va_K.moved (u := U) (U := U.calling g1 mk a) (Vm.Alike.refl U.vm) q.2.2.1, hg U (U.calling g1 mk a) U.heap _ (State.WarmedH.refl U) (Nat.le_refl _) (fun _ _ _ => rfl) q.2.2.2.1, q.2.2.2.2⟩
theorem run_V (C : Cx p s m args meth c g nL own cc ret) {idx n maxL1 : Nat} {b : Addr}  {y : MethodName} {cc1 : ByteArray} {ret1 : Option FieldType} {rm1 : Room} {As rest : List Value} {Qc : Array Value → State → Outcome → State → Prop} {H : Heap} {locs : List Loc} {ls : Array Slot} (hl : MV own idx y cc1 maxL1 ret1 n) (hd : decode cc pc = .ok (.invokevirtual idx, 3)) (hM : CT l g y cc1 maxL1 ret1 rm1 (.ref b :: As) sh N Qc) (hn : As.length = n) (hR : rm1.frames + 1 ≤ R.frames ∧ 8 + (maxL1 + 11) + rm1.locals ≤ R.locals) (hcat : (rest.map fun v => v.category).sum ≤ 8) (hf : cells + rm1.cells ≤ R.cells ∧ slots + rm1.slots ≤ R.slots) (a : PIC g sh N H) (hS : va_S g.A s.heap H locs) (hls : ls.size = nL) (hr : ∃ cell : Cell, H[b]? = some cell ∧ cell.vm.isStatics = false ∧ s.vm.findClass y.cls = some cell.cls) : va_Run p l e R s m args below meth c H locs cells slots rm1.cells rm1.slots (F0 m pc ls (As.reverse ++ .ref b :: rest)) rest (Qc (.ref b :: As).toArray) g.A := by
  have hts := C.2.2.2.2.1
  have hpre : ∀ U : State, U.heap = H → s.WarmedH U.vm → va_Pc (.ref b :: As) (fun U => PIC g sh N U.heap ∧ KX g U) (.ref b :: As).toArray U := fun U hU hW => ⟨rfl, by rw [hU]; exact a, C.2.2.2.2.2.1.moved C.2.2.2.2.2.2.1 hW hU hS⟩
  have hbl := pc_blind C.2.2.2.2.2.2.1 (.ref b :: As) sh N
  obtain ⟨h1, h2, h3, h4, h5, h6⟩ := hl
  exact va_runV ⟨C.1, C.2.1, C.2.2.1, C.2.2.2.1, hts⟩ hM ⟨callB_of n hts (good_in h5) rfl rfl rfl (hts _ h4) (hts _ h1) h6 hR, hts _ h2, hts _ h3⟩ ⟨hbl, hr, hpre⟩ rfl hn hls rfl (lv_room hcat) hd hf
theorem run_S (C : Cx p s m args meth c g nL own cc ret) {idx n maxL1 : Nat}   {y : MethodName} {cc1 : ByteArray} {ret1 : Option FieldType} {rm1 : Room} {As rest : List Value} {Qc : Array Value → State → Outcome → State → Prop} {H : Heap} {locs : List Loc} {ls : Array Slot} (hl : MS own idx y cc1 maxL1 ret1 n) (hd : decode cc pc = .ok (.invokestatic idx, 3)) (hM : CT l g y cc1 maxL1 ret1 rm1 As sh N Qc) (hn : As.length = n) (hR : rm1.frames + 1 ≤ R.frames ∧ 8 + (maxL1 + 11) + rm1.locals ≤ R.locals) (hcat : (rest.map fun v => v.category).sum ≤ 8) (hf : cells + rm1.cells ≤ R.cells ∧ slots + rm1.slots ≤ R.slots) (a : PIC g sh N H) (hS : va_S g.A s.heap H locs) (hls : ls.size = nL)  : va_Run p l e R s m args below meth c H locs cells slots rm1.cells rm1.slots (F0 m pc ls (As.reverse ++ rest)) rest (Qc As.toArray) g.A := by
  have hts := C.2.2.2.2.1
  have hpre : ∀ U : State, U.heap = H → s.WarmedH U.vm → va_Pc As (fun U => PIC g sh N U.heap ∧ KX g U) As.toArray U := fun U hU hW => ⟨rfl, by rw [hU]; exact a, C.2.2.2.2.2.1.moved C.2.2.2.2.2.2.1 hW hU hS⟩
  have hbl := pc_blind C.2.2.2.2.2.2.1 As sh N
  obtain ⟨h1, h2, h4, h5, h6⟩ := hl
  exact va_runS ⟨C.1, C.2.1, C.2.2.1, C.2.2.2.1, hts⟩ hM ⟨callB_of n hts (good_in h5) rfl rfl rfl (hts _ h4) (hts _ h1) h6 hR, hts _ h2⟩ ⟨hbl, hpre⟩ rfl hn hls rfl (lv_room hcat) hd hf
theorem run_I (C : Cx p s m args meth c g nL own cc ret) {idx n maxL1 : Nat} {b : Addr}  {y : MethodName} {cc1 : ByteArray}  {rm1 : Room} {As rest : List Value} {Qc : Array Value → State → Outcome → State → Prop} {H : Heap} {locs : List Loc} {ls : Array Slot} (hl : MI own idx y cc1 maxL1 n) (hd : decode cc pc = .ok (.invokespecial idx, 3)) (hM : CT l g y cc1 maxL1 none rm1 (.ref b :: As) sh N Qc) (hn : As.length = n) (hR : rm1.frames + 1 ≤ R.frames ∧ 8 + (maxL1 + 11) + rm1.locals ≤ R.locals) (hcat : (rest.map fun v => v.category).sum ≤ 8) (hf : cells + rm1.cells ≤ R.cells ∧ slots + rm1.slots ≤ R.slots) (a : PIC g sh N H) (hS : va_S g.A s.heap H locs) (hls : ls.size = nL)  : va_Run p l e R s m args below meth c H locs cells slots rm1.cells rm1.slots (F0 m pc ls (As.reverse ++ .ref b :: rest)) rest (Qc (.ref b :: As).toArray) g.A := by
  have hts := C.2.2.2.2.1
  have hpre : ∀ U : State, U.heap = H → s.WarmedH U.vm → va_Pc (.ref b :: As) (fun U => PIC g sh N U.heap ∧ KX g U) (.ref b :: As).toArray U := fun U hU hW => ⟨rfl, by rw [hU]; exact a, C.2.2.2.2.2.1.moved C.2.2.2.2.2.2.1 hW hU hS⟩
  have hbl := pc_blind C.2.2.2.2.2.2.1 (.ref b :: As) sh N
  obtain ⟨h1, h2, h4, h5, h7, h6⟩ := hl
  exact va_runI ⟨C.1, C.2.1, C.2.2.1, C.2.2.2.1, hts⟩ hM ⟨callB_of n hts (good_in h5) rfl rfl rfl (hts _ h4) (hts _ h1) h6 hR, h7, hts _ h2⟩ ⟨hbl, hpre⟩ rfl hn hls rfl (lv_room hcat) hd hf
theorem run_SN (C : Cx p s m args meth c g nL own cc ret) {idx n maxL1 : Nat}  {host : String} {y : MethodName} {cc1 : ByteArray} {ret1 : Option FieldType} {rm1 : Room} {As rest : List Value} {Qc : Array Value → State → Outcome → State → Prop} {H : Heap} {locs : List Loc} {ls : Array Slot} (hl : MSN host own idx y cc1 maxL1 ret1 n g) (hd : decode cc pc = .ok (.invokestatic idx, 3)) (hM : CT l g y cc1 maxL1 ret1 rm1 As sh N Qc) (hn : As.length = n) (hR : rm1.frames + 1 ≤ R.frames ∧ 8 + (maxL1 + 11) + rm1.locals ≤ R.locals) (hcat : (rest.map fun v => v.category).sum ≤ 8) (hf : cells + rm1.cells ≤ R.cells ∧ slots + rm1.slots ≤ R.slots) (a : PIC g sh N H) (hS : va_S g.A s.heap H locs) (hls : ls.size = nL)  : va_Run p l e R s m args below meth c H locs cells slots rm1.cells rm1.slots (F0 m pc ls (As.reverse ++ rest)) rest (Qc As.toArray) g.A := by
  have hts := C.2.2.2.2.1
  have hpre : ∀ U : State, U.heap = H → s.WarmedH U.vm → va_Pc As (fun U => PIC g sh N U.heap ∧ KX g U) As.toArray U := fun U hU hW => ⟨rfl, by rw [hU]; exact a, C.2.2.2.2.2.1.moved C.2.2.2.2.2.2.1 hW hU hS⟩
  have hbl := pc_blind C.2.2.2.2.2.2.1 As sh N
  obtain ⟨h1, h2, h4, h5, h6⟩ := hl
  exact va_runSN (host := host) ⟨C.1, C.2.1, C.2.2.1, C.2.2.2.1, hts⟩ hM ⟨va_cnB n hts (good_in h5) rfl rfl rfl (h1 _ _ C.2.2.2.2.2.1.2.1) (hts _ h4) h6 hR, hts _ h2, trivial⟩ ⟨hbl, hpre⟩ rfl hn hls rfl (lv_room hcat) hd hf
theorem run_IN (C : Cx p s m args meth c g nL own cc ret) {idx n maxL1 : Nat} {b : Addr} {host : String} {y : MethodName} {cc1 : ByteArray}  {rm1 : Room} {As rest : List Value} {Qc : Array Value → State → Outcome → State → Prop} {H : Heap} {locs : List Loc} {ls : Array Slot} (hl : MIN host own idx y cc1 maxL1 n g) (hd : decode cc pc = .ok (.invokespecial idx, 3)) (hM : CT l g y cc1 maxL1 none rm1 (.ref b :: As) sh N Qc) (hn : As.length = n) (hR : rm1.frames + 1 ≤ R.frames ∧ 8 + (maxL1 + 11) + rm1.locals ≤ R.locals) (hcat : (rest.map fun v => v.category).sum ≤ 8) (hf : cells + rm1.cells ≤ R.cells ∧ slots + rm1.slots ≤ R.slots) (a : PIC g sh N H) (hS : va_S g.A s.heap H locs) (hls : ls.size = nL)  : va_Run p l e R s m args below meth c H locs cells slots rm1.cells rm1.slots (F0 m pc ls (As.reverse ++ .ref b :: rest)) rest (Qc (.ref b :: As).toArray) g.A := by
  have hts := C.2.2.2.2.1
  have hpre : ∀ U : State, U.heap = H → s.WarmedH U.vm → va_Pc (.ref b :: As) (fun U => PIC g sh N U.heap ∧ KX g U) (.ref b :: As).toArray U := fun U hU hW => ⟨rfl, by rw [hU]; exact a, C.2.2.2.2.2.1.moved C.2.2.2.2.2.2.1 hW hU hS⟩
  have hbl := pc_blind C.2.2.2.2.2.2.1 (.ref b :: As) sh N
  obtain ⟨h1, h2, h4, h5, h7, h6⟩ := hl
  exact va_runIN (host := host) ⟨C.1, C.2.1, C.2.2.1, C.2.2.2.1, hts⟩ hM ⟨va_cnB n hts (good_in h5) rfl rfl rfl (h1 _ _ C.2.2.2.2.2.1.2.1) (hts _ h4) h6 hR, h7, hts _ h2⟩ ⟨hbl, hpre⟩ rfl hn hls rfl (lv_room hcat) hd hf
theorem j_callV0I (C : Cx p s m args meth c g nL own cc ret) {idx maxL1 : Nat} {i : Nat}  {y : MethodName} {cc1 : ByteArray} {ret1 : Option FieldType} {rm1 : Room}  {rest : List Value} {F : WNm} {f : Int32} (hl : MV own idx y cc1 maxL1 ret1 0) (hd : decode cc pc = .ok (.invokevirtual idx, 3)) (hM : CT l g y cc1 maxL1 ret1 rm1 (.ref (sh.2.2 i) :: []) sh N (QF g sh F f)) (ht : (sh.1 i).1 < 9 ∧ RR (sh.1 i).1 = y.cls) (hR : rm1.frames + 1 ≤ R.frames ∧ 8 + (maxL1 + 11) + rm1.locals ≤ R.locals) (hcat : (rest.map fun v => v.category).sum ≤ 8) (h0 : rm1.cells = 0 ∧ rm1.slots = 0) (hf : cells ≤ R.cells ∧ slots ≤ R.slots) (kk : J p l e R s m args below meth c Q g nL sh F cells slots (pc + 3) lv (.int f :: rest)) : J p l e R s m args below meth c Q g nL sh N cells slots pc lv (.ref (sh.2.2 i) :: rest) := by
  intro H locs ls a b d
  refine va_calli (run_V (As := []) (rest := rest) C hl hd hM rfl hR hcat (by rw [h0.1, h0.2]; exact hf) a b d.1 (pic_recv C a ht)) b (fun _ _ h => h) (fun _ h => h) (fun r u t H1 locs1 e1 _ hp hb _ _ hS => ?_)
  obtain ⟨z1, z2, z3⟩ := hp
  rw [h0.1, h0.2, z3]
  rw [z1, z2, e1] at hb
  exact kk H1 locs1 ls hb hS d
theorem j_callV0Ig (C : Cx p s m args meth c g nL own cc ret) {idx maxL1 : Nat} {i : Nat}  {y : MethodName} {cc1 : ByteArray} {ret1 : Option FieldType} {rm1 : Room}  {rest : List Value} {post : Int32 → WSh → WNm → Prop} {c1 s1 : Nat} (hl : MV own idx y cc1 maxL1 ret1 0) (hd : decode cc pc = .ok (.invokevirtual idx, 3)) (hM : CT l g y cc1 maxL1 ret1 rm1 (.ref (sh.2.2 i) :: []) sh N (QI g post)) (ht : (sh.1 i).1 < 9 ∧ RR (sh.1 i).1 = y.cls) (hR : rm1.frames + 1 ≤ R.frames ∧ 8 + (maxL1 + 11) + rm1.locals ≤ R.locals) (hcat : (rest.map fun v => v.category).sum ≤ 8) (h0 : cells + rm1.cells = c1 ∧ slots + rm1.slots = s1) (hf : c1 ≤ R.cells ∧ s1 ≤ R.slots) (kk : ∀ (r : Int32) (sh1 : WSh) (N1 : WNm), post r sh1 N1 → J p l e R s m args below meth c Q g nL sh1 N1 c1 s1 (pc + 3) lv (.int r :: rest)) : J p l e R s m args below meth c Q g nL sh N cells slots pc lv (.ref (sh.2.2 i) :: rest) := by
  intro H locs ls a b d
  refine va_calli (run_V (As := []) (rest := rest) C hl hd hM rfl hR hcat (by rw [h0.1, h0.2]; exact hf) a b d.1 (pic_recv C a ht)) b (fun _ _ h => h) (fun _ h => h) (fun r u t H1 locs1 e1 _ hp hb _ _ hS => ?_)
  rw [h0.1, h0.2]
  rw [e1] at hb
  exact kk r u.1 u.2 hp H1 locs1 ls hb hS d
theorem j_callV0Rg (C : Cx p s m args meth c g nL own cc ret) {idx maxL1 : Nat} {i : Nat}  {y : MethodName} {cc1 : ByteArray} {ret1 : Option FieldType} {rm1 : Room}  {rest : List Value} {post : Option Nat → WSh → WNm → Prop} {c1 s1 : Nat} (hl : MV own idx y cc1 maxL1 ret1 0) (hd : decode cc pc = .ok (.invokevirtual idx, 3)) (hM : CT l g y cc1 maxL1 ret1 rm1 (.ref (sh.2.2 i) :: []) sh N (QR g post)) (ht : (sh.1 i).1 < 9 ∧ RR (sh.1 i).1 = y.cls) (hR : rm1.frames + 1 ≤ R.frames ∧ 8 + (maxL1 + 11) + rm1.locals ≤ R.locals) (hcat : (rest.map fun v => v.category).sum ≤ 8) (h0 : cells + rm1.cells = c1 ∧ slots + rm1.slots = s1) (hf : c1 ≤ R.cells ∧ s1 ≤ R.slots) (kk : ∀ (o : Option Nat) (sh1 : WSh) (N1 : WNm), post o sh1 N1 → J p l e R s m args below meth c Q g nL sh1 N1 c1 s1 (pc + 3) lv (va_rf (o.map sh1.2.2) :: rest)) : J p l e R s m args below meth c Q g nL sh N cells slots pc lv (.ref (sh.2.2 i) :: rest) := by
  intro H locs ls a b d
  refine va_callq (run_V (As := []) (rest := rest) C hl hd hM rfl hR hcat (by rw [h0.1, h0.2]; exact hf) a b d.1 (pic_recv C a ht)) b (fun _ _ h => h) (fun _ h => h) (fun r u t H1 locs1 e1 _ hp hb _ _ hS => ?_)
  obtain ⟨o1, z1, z2⟩ := hp
  rw [h0.1, h0.2, z1]
  rw [e1] at hb
  exact kk o1 u.1 u.2 z2 H1 locs1 ls hb hS d
theorem j_callV0V (C : Cx p s m args meth c g nL own cc ret) {idx maxL1 : Nat} {i : Nat}  {y : MethodName} {cc1 : ByteArray} {ret1 : Option FieldType} {rm1 : Room}  {rest : List Value} {F : WNm} (hl : MV own idx y cc1 maxL1 ret1 0) (hd : decode cc pc = .ok (.invokevirtual idx, 3)) (hM : CT l g y cc1 maxL1 ret1 rm1 (.ref (sh.2.2 i) :: []) sh N (QFv g sh F)) (ht : (sh.1 i).1 < 9 ∧ RR (sh.1 i).1 = y.cls) (hR : rm1.frames + 1 ≤ R.frames ∧ 8 + (maxL1 + 11) + rm1.locals ≤ R.locals) (hcat : (rest.map fun v => v.category).sum ≤ 8) (h0 : rm1.cells = 0 ∧ rm1.slots = 0) (hf : cells ≤ R.cells ∧ slots ≤ R.slots) (kk : J p l e R s m args below meth c Q g nL sh F cells slots (pc + 3) lv rest) : J p l e R s m args below meth c Q g nL sh N cells slots pc lv (.ref (sh.2.2 i) :: rest) := by
  intro H locs ls a b d
  refine va_callv (run_V (As := []) (rest := rest) C hl hd hM rfl hR hcat (by rw [h0.1, h0.2]; exact hf) a b d.1 (pic_recv C a ht)) b (fun _ _ h => h) (fun _ h => h) (fun u t H1 locs1 e1 _ hp hb _ _ hS => ?_)
  obtain ⟨z1, z2⟩ := hp
  rw [h0.1, h0.2]
  rw [z1, z2, e1] at hb
  exact kk H1 locs1 ls hb hS d
theorem j_callV0Vg (C : Cx p s m args meth c g nL own cc ret) {idx maxL1 : Nat} {i : Nat}  {y : MethodName} {cc1 : ByteArray} {ret1 : Option FieldType} {rm1 : Room}  {rest : List Value} {post : WSh → WNm → Prop} {c1 s1 : Nat} (hl : MV own idx y cc1 maxL1 ret1 0) (hd : decode cc pc = .ok (.invokevirtual idx, 3)) (hM : CT l g y cc1 maxL1 ret1 rm1 (.ref (sh.2.2 i) :: []) sh N (QV g post)) (ht : (sh.1 i).1 < 9 ∧ RR (sh.1 i).1 = y.cls) (hR : rm1.frames + 1 ≤ R.frames ∧ 8 + (maxL1 + 11) + rm1.locals ≤ R.locals) (hcat : (rest.map fun v => v.category).sum ≤ 8) (h0 : cells + rm1.cells = c1 ∧ slots + rm1.slots = s1) (hf : c1 ≤ R.cells ∧ s1 ≤ R.slots) (kk : ∀ (sh1 : WSh) (N1 : WNm), post sh1 N1 → J p l e R s m args below meth c Q g nL sh1 N1 c1 s1 (pc + 3) lv rest) : J p l e R s m args below meth c Q g nL sh N cells slots pc lv (.ref (sh.2.2 i) :: rest) := by
  intro H locs ls a b d
  refine va_callv (run_V (As := []) (rest := rest) C hl hd hM rfl hR hcat (by rw [h0.1, h0.2]; exact hf) a b d.1 (pic_recv C a ht)) b (fun _ _ h => h) (fun _ h => h) (fun u t H1 locs1 e1 _ hp hb _ _ hS => ?_)
  rw [h0.1, h0.2]
  rw [e1] at hb
  exact kk u.1 u.2 hp H1 locs1 ls hb hS d
theorem j_callV1I (C : Cx p s m args meth c g nL own cc ret) {idx maxL1 : Nat} {i : Nat}  {y : MethodName} {cc1 : ByteArray} {ret1 : Option FieldType} {rm1 : Room} {a1 : Value} {rest : List Value} {F : WNm} {f : Int32} (hl : MV own idx y cc1 maxL1 ret1 1) (hd : decode cc pc = .ok (.invokevirtual idx, 3)) (hM : CT l g y cc1 maxL1 ret1 rm1 (.ref (sh.2.2 i) :: [a1]) sh N (QF g sh F f)) (ht : (sh.1 i).1 < 9 ∧ RR (sh.1 i).1 = y.cls) (hR : rm1.frames + 1 ≤ R.frames ∧ 8 + (maxL1 + 11) + rm1.locals ≤ R.locals) (hcat : (rest.map fun v => v.category).sum ≤ 8) (h0 : rm1.cells = 0 ∧ rm1.slots = 0) (hf : cells ≤ R.cells ∧ slots ≤ R.slots) (kk : J p l e R s m args below meth c Q g nL sh F cells slots (pc + 3) lv (.int f :: rest)) : J p l e R s m args below meth c Q g nL sh N cells slots pc lv (a1 :: .ref (sh.2.2 i) :: rest) := by
  intro H locs ls a b d
  refine va_calli (run_V (As := [a1]) (rest := rest) C hl hd hM rfl hR hcat (by rw [h0.1, h0.2]; exact hf) a b d.1 (pic_recv C a ht)) b (fun _ _ h => h) (fun _ h => h) (fun r u t H1 locs1 e1 _ hp hb _ _ hS => ?_)
  obtain ⟨z1, z2, z3⟩ := hp
  rw [h0.1, h0.2, z3]
  rw [z1, z2, e1] at hb
  exact kk H1 locs1 ls hb hS d
theorem j_callV1Ig (C : Cx p s m args meth c g nL own cc ret) {idx maxL1 : Nat} {i : Nat}  {y : MethodName} {cc1 : ByteArray} {ret1 : Option FieldType} {rm1 : Room} {a1 : Value} {rest : List Value} {post : Int32 → WSh → WNm → Prop} {c1 s1 : Nat} (hl : MV own idx y cc1 maxL1 ret1 1) (hd : decode cc pc = .ok (.invokevirtual idx, 3)) (hM : CT l g y cc1 maxL1 ret1 rm1 (.ref (sh.2.2 i) :: [a1]) sh N (QI g post)) (ht : (sh.1 i).1 < 9 ∧ RR (sh.1 i).1 = y.cls) (hR : rm1.frames + 1 ≤ R.frames ∧ 8 + (maxL1 + 11) + rm1.locals ≤ R.locals) (hcat : (rest.map fun v => v.category).sum ≤ 8) (h0 : cells + rm1.cells = c1 ∧ slots + rm1.slots = s1) (hf : c1 ≤ R.cells ∧ s1 ≤ R.slots) (kk : ∀ (r : Int32) (sh1 : WSh) (N1 : WNm), post r sh1 N1 → J p l e R s m args below meth c Q g nL sh1 N1 c1 s1 (pc + 3) lv (.int r :: rest)) : J p l e R s m args below meth c Q g nL sh N cells slots pc lv (a1 :: .ref (sh.2.2 i) :: rest) := by
  intro H locs ls a b d
  refine va_calli (run_V (As := [a1]) (rest := rest) C hl hd hM rfl hR hcat (by rw [h0.1, h0.2]; exact hf) a b d.1 (pic_recv C a ht)) b (fun _ _ h => h) (fun _ h => h) (fun r u t H1 locs1 e1 _ hp hb _ _ hS => ?_)
  rw [h0.1, h0.2]
  rw [e1] at hb
  exact kk r u.1 u.2 hp H1 locs1 ls hb hS d
theorem j_callV1Rg (C : Cx p s m args meth c g nL own cc ret) {idx maxL1 : Nat} {i : Nat}  {y : MethodName} {cc1 : ByteArray} {ret1 : Option FieldType} {rm1 : Room} {a1 : Value} {rest : List Value} {post : Option Nat → WSh → WNm → Prop} {c1 s1 : Nat} (hl : MV own idx y cc1 maxL1 ret1 1) (hd : decode cc pc = .ok (.invokevirtual idx, 3)) (hM : CT l g y cc1 maxL1 ret1 rm1 (.ref (sh.2.2 i) :: [a1]) sh N (QR g post)) (ht : (sh.1 i).1 < 9 ∧ RR (sh.1 i).1 = y.cls) (hR : rm1.frames + 1 ≤ R.frames ∧ 8 + (maxL1 + 11) + rm1.locals ≤ R.locals) (hcat : (rest.map fun v => v.category).sum ≤ 8) (h0 : cells + rm1.cells = c1 ∧ slots + rm1.slots = s1) (hf : c1 ≤ R.cells ∧ s1 ≤ R.slots) (kk : ∀ (o : Option Nat) (sh1 : WSh) (N1 : WNm), post o sh1 N1 → J p l e R s m args below meth c Q g nL sh1 N1 c1 s1 (pc + 3) lv (va_rf (o.map sh1.2.2) :: rest)) : J p l e R s m args below meth c Q g nL sh N cells slots pc lv (a1 :: .ref (sh.2.2 i) :: rest) := by
  intro H locs ls a b d
  refine va_callq (run_V (As := [a1]) (rest := rest) C hl hd hM rfl hR hcat (by rw [h0.1, h0.2]; exact hf) a b d.1 (pic_recv C a ht)) b (fun _ _ h => h) (fun _ h => h) (fun r u t H1 locs1 e1 _ hp hb _ _ hS => ?_)
  obtain ⟨o1, z1, z2⟩ := hp
  rw [h0.1, h0.2, z1]
  rw [e1] at hb
  exact kk o1 u.1 u.2 z2 H1 locs1 ls hb hS d
theorem j_callV1V (C : Cx p s m args meth c g nL own cc ret) {idx maxL1 : Nat} {i : Nat}  {y : MethodName} {cc1 : ByteArray} {ret1 : Option FieldType} {rm1 : Room} {a1 : Value} {rest : List Value} {F : WNm} (hl : MV own idx y cc1 maxL1 ret1 1) (hd : decode cc pc = .ok (.invokevirtual idx, 3)) (hM : CT l g y cc1 maxL1 ret1 rm1 (.ref (sh.2.2 i) :: [a1]) sh N (QFv g sh F)) (ht : (sh.1 i).1 < 9 ∧ RR (sh.1 i).1 = y.cls) (hR : rm1.frames + 1 ≤ R.frames ∧ 8 + (maxL1 + 11) + rm1.locals ≤ R.locals) (hcat : (rest.map fun v => v.category).sum ≤ 8) (h0 : rm1.cells = 0 ∧ rm1.slots = 0) (hf : cells ≤ R.cells ∧ slots ≤ R.slots) (kk : J p l e R s m args below meth c Q g nL sh F cells slots (pc + 3) lv rest) : J p l e R s m args below meth c Q g nL sh N cells slots pc lv (a1 :: .ref (sh.2.2 i) :: rest) := by
  intro H locs ls a b d
  refine va_callv (run_V (As := [a1]) (rest := rest) C hl hd hM rfl hR hcat (by rw [h0.1, h0.2]; exact hf) a b d.1 (pic_recv C a ht)) b (fun _ _ h => h) (fun _ h => h) (fun u t H1 locs1 e1 _ hp hb _ _ hS => ?_)
  obtain ⟨z1, z2⟩ := hp
  rw [h0.1, h0.2]
  rw [z1, z2, e1] at hb
  exact kk H1 locs1 ls hb hS d
theorem j_callV1Vg (C : Cx p s m args meth c g nL own cc ret) {idx maxL1 : Nat} {i : Nat}  {y : MethodName} {cc1 : ByteArray} {ret1 : Option FieldType} {rm1 : Room} {a1 : Value} {rest : List Value} {post : WSh → WNm → Prop} {c1 s1 : Nat} (hl : MV own idx y cc1 maxL1 ret1 1) (hd : decode cc pc = .ok (.invokevirtual idx, 3)) (hM : CT l g y cc1 maxL1 ret1 rm1 (.ref (sh.2.2 i) :: [a1]) sh N (QV g post)) (ht : (sh.1 i).1 < 9 ∧ RR (sh.1 i).1 = y.cls) (hR : rm1.frames + 1 ≤ R.frames ∧ 8 + (maxL1 + 11) + rm1.locals ≤ R.locals) (hcat : (rest.map fun v => v.category).sum ≤ 8) (h0 : cells + rm1.cells = c1 ∧ slots + rm1.slots = s1) (hf : c1 ≤ R.cells ∧ s1 ≤ R.slots) (kk : ∀ (sh1 : WSh) (N1 : WNm), post sh1 N1 → J p l e R s m args below meth c Q g nL sh1 N1 c1 s1 (pc + 3) lv rest) : J p l e R s m args below meth c Q g nL sh N cells slots pc lv (a1 :: .ref (sh.2.2 i) :: rest) := by
  intro H locs ls a b d
  refine va_callv (run_V (As := [a1]) (rest := rest) C hl hd hM rfl hR hcat (by rw [h0.1, h0.2]; exact hf) a b d.1 (pic_recv C a ht)) b (fun _ _ h => h) (fun _ h => h) (fun u t H1 locs1 e1 _ hp hb _ _ hS => ?_)
  rw [h0.1, h0.2]
  rw [e1] at hb
  exact kk u.1 u.2 hp H1 locs1 ls hb hS d
theorem j_callV2I (C : Cx p s m args meth c g nL own cc ret) {idx maxL1 : Nat} {i : Nat}  {y : MethodName} {cc1 : ByteArray} {ret1 : Option FieldType} {rm1 : Room} {a1 a2 : Value} {rest : List Value} {F : WNm} {f : Int32} (hl : MV own idx y cc1 maxL1 ret1 2) (hd : decode cc pc = .ok (.invokevirtual idx, 3)) (hM : CT l g y cc1 maxL1 ret1 rm1 (.ref (sh.2.2 i) :: [a1, a2]) sh N (QF g sh F f)) (ht : (sh.1 i).1 < 9 ∧ RR (sh.1 i).1 = y.cls) (hR : rm1.frames + 1 ≤ R.frames ∧ 8 + (maxL1 + 11) + rm1.locals ≤ R.locals) (hcat : (rest.map fun v => v.category).sum ≤ 8) (h0 : rm1.cells = 0 ∧ rm1.slots = 0) (hf : cells ≤ R.cells ∧ slots ≤ R.slots) (kk : J p l e R s m args below meth c Q g nL sh F cells slots (pc + 3) lv (.int f :: rest)) : J p l e R s m args below meth c Q g nL sh N cells slots pc lv (a2 :: a1 :: .ref (sh.2.2 i) :: rest) := by
  intro H locs ls a b d
  refine va_calli (run_V (As := [a1, a2]) (rest := rest) C hl hd hM rfl hR hcat (by rw [h0.1, h0.2]; exact hf) a b d.1 (pic_recv C a ht)) b (fun _ _ h => h) (fun _ h => h) (fun r u t H1 locs1 e1 _ hp hb _ _ hS => ?_)
  obtain ⟨z1, z2, z3⟩ := hp
  rw [h0.1, h0.2, z3]
  rw [z1, z2, e1] at hb
  exact kk H1 locs1 ls hb hS d
theorem j_callV2Ig (C : Cx p s m args meth c g nL own cc ret) {idx maxL1 : Nat} {i : Nat}  {y : MethodName} {cc1 : ByteArray} {ret1 : Option FieldType} {rm1 : Room} {a1 a2 : Value} {rest : List Value} {post : Int32 → WSh → WNm → Prop} {c1 s1 : Nat} (hl : MV own idx y cc1 maxL1 ret1 2) (hd : decode cc pc = .ok (.invokevirtual idx, 3)) (hM : CT l g y cc1 maxL1 ret1 rm1 (.ref (sh.2.2 i) :: [a1, a2]) sh N (QI g post)) (ht : (sh.1 i).1 < 9 ∧ RR (sh.1 i).1 = y.cls) (hR : rm1.frames + 1 ≤ R.frames ∧ 8 + (maxL1 + 11) + rm1.locals ≤ R.locals) (hcat : (rest.map fun v => v.category).sum ≤ 8) (h0 : cells + rm1.cells = c1 ∧ slots + rm1.slots = s1) (hf : c1 ≤ R.cells ∧ s1 ≤ R.slots) (kk : ∀ (r : Int32) (sh1 : WSh) (N1 : WNm), post r sh1 N1 → J p l e R s m args below meth c Q g nL sh1 N1 c1 s1 (pc + 3) lv (.int r :: rest)) : J p l e R s m args below meth c Q g nL sh N cells slots pc lv (a2 :: a1 :: .ref (sh.2.2 i) :: rest) := by
  intro H locs ls a b d
  refine va_calli (run_V (As := [a1, a2]) (rest := rest) C hl hd hM rfl hR hcat (by rw [h0.1, h0.2]; exact hf) a b d.1 (pic_recv C a ht)) b (fun _ _ h => h) (fun _ h => h) (fun r u t H1 locs1 e1 _ hp hb _ _ hS => ?_)
  rw [h0.1, h0.2]
  rw [e1] at hb
  exact kk r u.1 u.2 hp H1 locs1 ls hb hS d
theorem j_callV2Rg (C : Cx p s m args meth c g nL own cc ret) {idx maxL1 : Nat} {i : Nat}  {y : MethodName} {cc1 : ByteArray} {ret1 : Option FieldType} {rm1 : Room} {a1 a2 : Value} {rest : List Value} {post : Option Nat → WSh → WNm → Prop} {c1 s1 : Nat} (hl : MV own idx y cc1 maxL1 ret1 2) (hd : decode cc pc = .ok (.invokevirtual idx, 3)) (hM : CT l g y cc1 maxL1 ret1 rm1 (.ref (sh.2.2 i) :: [a1, a2]) sh N (QR g post)) (ht : (sh.1 i).1 < 9 ∧ RR (sh.1 i).1 = y.cls) (hR : rm1.frames + 1 ≤ R.frames ∧ 8 + (maxL1 + 11) + rm1.locals ≤ R.locals) (hcat : (rest.map fun v => v.category).sum ≤ 8) (h0 : cells + rm1.cells = c1 ∧ slots + rm1.slots = s1) (hf : c1 ≤ R.cells ∧ s1 ≤ R.slots) (kk : ∀ (o : Option Nat) (sh1 : WSh) (N1 : WNm), post o sh1 N1 → J p l e R s m args below meth c Q g nL sh1 N1 c1 s1 (pc + 3) lv (va_rf (o.map sh1.2.2) :: rest)) : J p l e R s m args below meth c Q g nL sh N cells slots pc lv (a2 :: a1 :: .ref (sh.2.2 i) :: rest) := by
  intro H locs ls a b d
  refine va_callq (run_V (As := [a1, a2]) (rest := rest) C hl hd hM rfl hR hcat (by rw [h0.1, h0.2]; exact hf) a b d.1 (pic_recv C a ht)) b (fun _ _ h => h) (fun _ h => h) (fun r u t H1 locs1 e1 _ hp hb _ _ hS => ?_)
  obtain ⟨o1, z1, z2⟩ := hp
  rw [h0.1, h0.2, z1]
  rw [e1] at hb
  exact kk o1 u.1 u.2 z2 H1 locs1 ls hb hS d
theorem j_callV2V (C : Cx p s m args meth c g nL own cc ret) {idx maxL1 : Nat} {i : Nat}  {y : MethodName} {cc1 : ByteArray} {ret1 : Option FieldType} {rm1 : Room} {a1 a2 : Value} {rest : List Value} {F : WNm} (hl : MV own idx y cc1 maxL1 ret1 2) (hd : decode cc pc = .ok (.invokevirtual idx, 3)) (hM : CT l g y cc1 maxL1 ret1 rm1 (.ref (sh.2.2 i) :: [a1, a2]) sh N (QFv g sh F)) (ht : (sh.1 i).1 < 9 ∧ RR (sh.1 i).1 = y.cls) (hR : rm1.frames + 1 ≤ R.frames ∧ 8 + (maxL1 + 11) + rm1.locals ≤ R.locals) (hcat : (rest.map fun v => v.category).sum ≤ 8) (h0 : rm1.cells = 0 ∧ rm1.slots = 0) (hf : cells ≤ R.cells ∧ slots ≤ R.slots) (kk : J p l e R s m args below meth c Q g nL sh F cells slots (pc + 3) lv rest) : J p l e R s m args below meth c Q g nL sh N cells slots pc lv (a2 :: a1 :: .ref (sh.2.2 i) :: rest) := by
  intro H locs ls a b d
  refine va_callv (run_V (As := [a1, a2]) (rest := rest) C hl hd hM rfl hR hcat (by rw [h0.1, h0.2]; exact hf) a b d.1 (pic_recv C a ht)) b (fun _ _ h => h) (fun _ h => h) (fun u t H1 locs1 e1 _ hp hb _ _ hS => ?_)
  obtain ⟨z1, z2⟩ := hp
  rw [h0.1, h0.2]
  rw [z1, z2, e1] at hb
  exact kk H1 locs1 ls hb hS d
theorem j_callV2Vg (C : Cx p s m args meth c g nL own cc ret) {idx maxL1 : Nat} {i : Nat}  {y : MethodName} {cc1 : ByteArray} {ret1 : Option FieldType} {rm1 : Room} {a1 a2 : Value} {rest : List Value} {post : WSh → WNm → Prop} {c1 s1 : Nat} (hl : MV own idx y cc1 maxL1 ret1 2) (hd : decode cc pc = .ok (.invokevirtual idx, 3)) (hM : CT l g y cc1 maxL1 ret1 rm1 (.ref (sh.2.2 i) :: [a1, a2]) sh N (QV g post)) (ht : (sh.1 i).1 < 9 ∧ RR (sh.1 i).1 = y.cls) (hR : rm1.frames + 1 ≤ R.frames ∧ 8 + (maxL1 + 11) + rm1.locals ≤ R.locals) (hcat : (rest.map fun v => v.category).sum ≤ 8) (h0 : cells + rm1.cells = c1 ∧ slots + rm1.slots = s1) (hf : c1 ≤ R.cells ∧ s1 ≤ R.slots) (kk : ∀ (sh1 : WSh) (N1 : WNm), post sh1 N1 → J p l e R s m args below meth c Q g nL sh1 N1 c1 s1 (pc + 3) lv rest) : J p l e R s m args below meth c Q g nL sh N cells slots pc lv (a2 :: a1 :: .ref (sh.2.2 i) :: rest) := by
  intro H locs ls a b d
  refine va_callv (run_V (As := [a1, a2]) (rest := rest) C hl hd hM rfl hR hcat (by rw [h0.1, h0.2]; exact hf) a b d.1 (pic_recv C a ht)) b (fun _ _ h => h) (fun _ h => h) (fun u t H1 locs1 e1 _ hp hb _ _ hS => ?_)
  rw [h0.1, h0.2]
  rw [e1] at hb
  exact kk u.1 u.2 hp H1 locs1 ls hb hS d
theorem j_callV3I (C : Cx p s m args meth c g nL own cc ret) {idx maxL1 : Nat} {i : Nat}  {y : MethodName} {cc1 : ByteArray} {ret1 : Option FieldType} {rm1 : Room} {a1 a2 a3 : Value} {rest : List Value} {F : WNm} {f : Int32} (hl : MV own idx y cc1 maxL1 ret1 3) (hd : decode cc pc = .ok (.invokevirtual idx, 3)) (hM : CT l g y cc1 maxL1 ret1 rm1 (.ref (sh.2.2 i) :: [a1, a2, a3]) sh N (QF g sh F f)) (ht : (sh.1 i).1 < 9 ∧ RR (sh.1 i).1 = y.cls) (hR : rm1.frames + 1 ≤ R.frames ∧ 8 + (maxL1 + 11) + rm1.locals ≤ R.locals) (hcat : (rest.map fun v => v.category).sum ≤ 8) (h0 : rm1.cells = 0 ∧ rm1.slots = 0) (hf : cells ≤ R.cells ∧ slots ≤ R.slots) (kk : J p l e R s m args below meth c Q g nL sh F cells slots (pc + 3) lv (.int f :: rest)) : J p l e R s m args below meth c Q g nL sh N cells slots pc lv (a3 :: a2 :: a1 :: .ref (sh.2.2 i) :: rest) := by
  intro H locs ls a b d
  refine va_calli (run_V (As := [a1, a2, a3]) (rest := rest) C hl hd hM rfl hR hcat (by rw [h0.1, h0.2]; exact hf) a b d.1 (pic_recv C a ht)) b (fun _ _ h => h) (fun _ h => h) (fun r u t H1 locs1 e1 _ hp hb _ _ hS => ?_)
  obtain ⟨z1, z2, z3⟩ := hp
  rw [h0.1, h0.2, z3]
  rw [z1, z2, e1] at hb
  exact kk H1 locs1 ls hb hS d
theorem j_callV3Ig (C : Cx p s m args meth c g nL own cc ret) {idx maxL1 : Nat} {i : Nat}  {y : MethodName} {cc1 : ByteArray} {ret1 : Option FieldType} {rm1 : Room} {a1 a2 a3 : Value} {rest : List Value} {post : Int32 → WSh → WNm → Prop} {c1 s1 : Nat} (hl : MV own idx y cc1 maxL1 ret1 3) (hd : decode cc pc = .ok (.invokevirtual idx, 3)) (hM : CT l g y cc1 maxL1 ret1 rm1 (.ref (sh.2.2 i) :: [a1, a2, a3]) sh N (QI g post)) (ht : (sh.1 i).1 < 9 ∧ RR (sh.1 i).1 = y.cls) (hR : rm1.frames + 1 ≤ R.frames ∧ 8 + (maxL1 + 11) + rm1.locals ≤ R.locals) (hcat : (rest.map fun v => v.category).sum ≤ 8) (h0 : cells + rm1.cells = c1 ∧ slots + rm1.slots = s1) (hf : c1 ≤ R.cells ∧ s1 ≤ R.slots) (kk : ∀ (r : Int32) (sh1 : WSh) (N1 : WNm), post r sh1 N1 → J p l e R s m args below meth c Q g nL sh1 N1 c1 s1 (pc + 3) lv (.int r :: rest)) : J p l e R s m args below meth c Q g nL sh N cells slots pc lv (a3 :: a2 :: a1 :: .ref (sh.2.2 i) :: rest) := by
  intro H locs ls a b d
  refine va_calli (run_V (As := [a1, a2, a3]) (rest := rest) C hl hd hM rfl hR hcat (by rw [h0.1, h0.2]; exact hf) a b d.1 (pic_recv C a ht)) b (fun _ _ h => h) (fun _ h => h) (fun r u t H1 locs1 e1 _ hp hb _ _ hS => ?_)
  rw [h0.1, h0.2]
  rw [e1] at hb
  exact kk r u.1 u.2 hp H1 locs1 ls hb hS d
theorem j_callV3Rg (C : Cx p s m args meth c g nL own cc ret) {idx maxL1 : Nat} {i : Nat}  {y : MethodName} {cc1 : ByteArray} {ret1 : Option FieldType} {rm1 : Room} {a1 a2 a3 : Value} {rest : List Value} {post : Option Nat → WSh → WNm → Prop} {c1 s1 : Nat} (hl : MV own idx y cc1 maxL1 ret1 3) (hd : decode cc pc = .ok (.invokevirtual idx, 3)) (hM : CT l g y cc1 maxL1 ret1 rm1 (.ref (sh.2.2 i) :: [a1, a2, a3]) sh N (QR g post)) (ht : (sh.1 i).1 < 9 ∧ RR (sh.1 i).1 = y.cls) (hR : rm1.frames + 1 ≤ R.frames ∧ 8 + (maxL1 + 11) + rm1.locals ≤ R.locals) (hcat : (rest.map fun v => v.category).sum ≤ 8) (h0 : cells + rm1.cells = c1 ∧ slots + rm1.slots = s1) (hf : c1 ≤ R.cells ∧ s1 ≤ R.slots) (kk : ∀ (o : Option Nat) (sh1 : WSh) (N1 : WNm), post o sh1 N1 → J p l e R s m args below meth c Q g nL sh1 N1 c1 s1 (pc + 3) lv (va_rf (o.map sh1.2.2) :: rest)) : J p l e R s m args below meth c Q g nL sh N cells slots pc lv (a3 :: a2 :: a1 :: .ref (sh.2.2 i) :: rest) := by
  intro H locs ls a b d
  refine va_callq (run_V (As := [a1, a2, a3]) (rest := rest) C hl hd hM rfl hR hcat (by rw [h0.1, h0.2]; exact hf) a b d.1 (pic_recv C a ht)) b (fun _ _ h => h) (fun _ h => h) (fun r u t H1 locs1 e1 _ hp hb _ _ hS => ?_)
  obtain ⟨o1, z1, z2⟩ := hp
  rw [h0.1, h0.2, z1]
  rw [e1] at hb
  exact kk o1 u.1 u.2 z2 H1 locs1 ls hb hS d
theorem j_callV3V (C : Cx p s m args meth c g nL own cc ret) {idx maxL1 : Nat} {i : Nat}  {y : MethodName} {cc1 : ByteArray} {ret1 : Option FieldType} {rm1 : Room} {a1 a2 a3 : Value} {rest : List Value} {F : WNm} (hl : MV own idx y cc1 maxL1 ret1 3) (hd : decode cc pc = .ok (.invokevirtual idx, 3)) (hM : CT l g y cc1 maxL1 ret1 rm1 (.ref (sh.2.2 i) :: [a1, a2, a3]) sh N (QFv g sh F)) (ht : (sh.1 i).1 < 9 ∧ RR (sh.1 i).1 = y.cls) (hR : rm1.frames + 1 ≤ R.frames ∧ 8 + (maxL1 + 11) + rm1.locals ≤ R.locals) (hcat : (rest.map fun v => v.category).sum ≤ 8) (h0 : rm1.cells = 0 ∧ rm1.slots = 0) (hf : cells ≤ R.cells ∧ slots ≤ R.slots) (kk : J p l e R s m args below meth c Q g nL sh F cells slots (pc + 3) lv rest) : J p l e R s m args below meth c Q g nL sh N cells slots pc lv (a3 :: a2 :: a1 :: .ref (sh.2.2 i) :: rest) := by
  intro H locs ls a b d
  refine va_callv (run_V (As := [a1, a2, a3]) (rest := rest) C hl hd hM rfl hR hcat (by rw [h0.1, h0.2]; exact hf) a b d.1 (pic_recv C a ht)) b (fun _ _ h => h) (fun _ h => h) (fun u t H1 locs1 e1 _ hp hb _ _ hS => ?_)
  obtain ⟨z1, z2⟩ := hp
  rw [h0.1, h0.2]
  rw [z1, z2, e1] at hb
  exact kk H1 locs1 ls hb hS d
theorem j_callV3Vg (C : Cx p s m args meth c g nL own cc ret) {idx maxL1 : Nat} {i : Nat}  {y : MethodName} {cc1 : ByteArray} {ret1 : Option FieldType} {rm1 : Room} {a1 a2 a3 : Value} {rest : List Value} {post : WSh → WNm → Prop} {c1 s1 : Nat} (hl : MV own idx y cc1 maxL1 ret1 3) (hd : decode cc pc = .ok (.invokevirtual idx, 3)) (hM : CT l g y cc1 maxL1 ret1 rm1 (.ref (sh.2.2 i) :: [a1, a2, a3]) sh N (QV g post)) (ht : (sh.1 i).1 < 9 ∧ RR (sh.1 i).1 = y.cls) (hR : rm1.frames + 1 ≤ R.frames ∧ 8 + (maxL1 + 11) + rm1.locals ≤ R.locals) (hcat : (rest.map fun v => v.category).sum ≤ 8) (h0 : cells + rm1.cells = c1 ∧ slots + rm1.slots = s1) (hf : c1 ≤ R.cells ∧ s1 ≤ R.slots) (kk : ∀ (sh1 : WSh) (N1 : WNm), post sh1 N1 → J p l e R s m args below meth c Q g nL sh1 N1 c1 s1 (pc + 3) lv rest) : J p l e R s m args below meth c Q g nL sh N cells slots pc lv (a3 :: a2 :: a1 :: .ref (sh.2.2 i) :: rest) := by
  intro H locs ls a b d
  refine va_callv (run_V (As := [a1, a2, a3]) (rest := rest) C hl hd hM rfl hR hcat (by rw [h0.1, h0.2]; exact hf) a b d.1 (pic_recv C a ht)) b (fun _ _ h => h) (fun _ h => h) (fun u t H1 locs1 e1 _ hp hb _ _ hS => ?_)
  rw [h0.1, h0.2]
  rw [e1] at hb
  exact kk u.1 u.2 hp H1 locs1 ls hb hS d
theorem j_callV4I (C : Cx p s m args meth c g nL own cc ret) {idx maxL1 : Nat} {i : Nat}  {y : MethodName} {cc1 : ByteArray} {ret1 : Option FieldType} {rm1 : Room} {a1 a2 a3 a4 : Value} {rest : List Value} {F : WNm} {f : Int32} (hl : MV own idx y cc1 maxL1 ret1 4) (hd : decode cc pc = .ok (.invokevirtual idx, 3)) (hM : CT l g y cc1 maxL1 ret1 rm1 (.ref (sh.2.2 i) :: [a1, a2, a3, a4]) sh N (QF g sh F f)) (ht : (sh.1 i).1 < 9 ∧ RR (sh.1 i).1 = y.cls) (hR : rm1.frames + 1 ≤ R.frames ∧ 8 + (maxL1 + 11) + rm1.locals ≤ R.locals) (hcat : (rest.map fun v => v.category).sum ≤ 8) (h0 : rm1.cells = 0 ∧ rm1.slots = 0) (hf : cells ≤ R.cells ∧ slots ≤ R.slots) (kk : J p l e R s m args below meth c Q g nL sh F cells slots (pc + 3) lv (.int f :: rest)) : J p l e R s m args below meth c Q g nL sh N cells slots pc lv (a4 :: a3 :: a2 :: a1 :: .ref (sh.2.2 i) :: rest) := by
  intro H locs ls a b d
  refine va_calli (run_V (As := [a1, a2, a3, a4]) (rest := rest) C hl hd hM rfl hR hcat (by rw [h0.1, h0.2]; exact hf) a b d.1 (pic_recv C a ht)) b (fun _ _ h => h) (fun _ h => h) (fun r u t H1 locs1 e1 _ hp hb _ _ hS => ?_)
  obtain ⟨z1, z2, z3⟩ := hp
  rw [h0.1, h0.2, z3]
  rw [z1, z2, e1] at hb
  exact kk H1 locs1 ls hb hS d
theorem j_callV4Ig (C : Cx p s m args meth c g nL own cc ret) {idx maxL1 : Nat} {i : Nat}  {y : MethodName} {cc1 : ByteArray} {ret1 : Option FieldType} {rm1 : Room} {a1 a2 a3 a4 : Value} {rest : List Value} {post : Int32 → WSh → WNm → Prop} {c1 s1 : Nat} (hl : MV own idx y cc1 maxL1 ret1 4) (hd : decode cc pc = .ok (.invokevirtual idx, 3)) (hM : CT l g y cc1 maxL1 ret1 rm1 (.ref (sh.2.2 i) :: [a1, a2, a3, a4]) sh N (QI g post)) (ht : (sh.1 i).1 < 9 ∧ RR (sh.1 i).1 = y.cls) (hR : rm1.frames + 1 ≤ R.frames ∧ 8 + (maxL1 + 11) + rm1.locals ≤ R.locals) (hcat : (rest.map fun v => v.category).sum ≤ 8) (h0 : cells + rm1.cells = c1 ∧ slots + rm1.slots = s1) (hf : c1 ≤ R.cells ∧ s1 ≤ R.slots) (kk : ∀ (r : Int32) (sh1 : WSh) (N1 : WNm), post r sh1 N1 → J p l e R s m args below meth c Q g nL sh1 N1 c1 s1 (pc + 3) lv (.int r :: rest)) : J p l e R s m args below meth c Q g nL sh N cells slots pc lv (a4 :: a3 :: a2 :: a1 :: .ref (sh.2.2 i) :: rest) := by
  intro H locs ls a b d
  refine va_calli (run_V (As := [a1, a2, a3, a4]) (rest := rest) C hl hd hM rfl hR hcat (by rw [h0.1, h0.2]; exact hf) a b d.1 (pic_recv C a ht)) b (fun _ _ h => h) (fun _ h => h) (fun r u t H1 locs1 e1 _ hp hb _ _ hS => ?_)
  rw [h0.1, h0.2]
  rw [e1] at hb
  exact kk r u.1 u.2 hp H1 locs1 ls hb hS d
theorem j_callV4V (C : Cx p s m args meth c g nL own cc ret) {idx maxL1 : Nat} {i : Nat}  {y : MethodName} {cc1 : ByteArray} {ret1 : Option FieldType} {rm1 : Room} {a1 a2 a3 a4 : Value} {rest : List Value} {F : WNm} (hl : MV own idx y cc1 maxL1 ret1 4) (hd : decode cc pc = .ok (.invokevirtual idx, 3)) (hM : CT l g y cc1 maxL1 ret1 rm1 (.ref (sh.2.2 i) :: [a1, a2, a3, a4]) sh N (QFv g sh F)) (ht : (sh.1 i).1 < 9 ∧ RR (sh.1 i).1 = y.cls) (hR : rm1.frames + 1 ≤ R.frames ∧ 8 + (maxL1 + 11) + rm1.locals ≤ R.locals) (hcat : (rest.map fun v => v.category).sum ≤ 8) (h0 : rm1.cells = 0 ∧ rm1.slots = 0) (hf : cells ≤ R.cells ∧ slots ≤ R.slots) (kk : J p l e R s m args below meth c Q g nL sh F cells slots (pc + 3) lv rest) : J p l e R s m args below meth c Q g nL sh N cells slots pc lv (a4 :: a3 :: a2 :: a1 :: .ref (sh.2.2 i) :: rest) := by
  intro H locs ls a b d
  refine va_callv (run_V (As := [a1, a2, a3, a4]) (rest := rest) C hl hd hM rfl hR hcat (by rw [h0.1, h0.2]; exact hf) a b d.1 (pic_recv C a ht)) b (fun _ _ h => h) (fun _ h => h) (fun u t H1 locs1 e1 _ hp hb _ _ hS => ?_)
  obtain ⟨z1, z2⟩ := hp
  rw [h0.1, h0.2]
  rw [z1, z2, e1] at hb
  exact kk H1 locs1 ls hb hS d
theorem j_callV4Vg (C : Cx p s m args meth c g nL own cc ret) {idx maxL1 : Nat} {i : Nat}  {y : MethodName} {cc1 : ByteArray} {ret1 : Option FieldType} {rm1 : Room} {a1 a2 a3 a4 : Value} {rest : List Value} {post : WSh → WNm → Prop} {c1 s1 : Nat} (hl : MV own idx y cc1 maxL1 ret1 4) (hd : decode cc pc = .ok (.invokevirtual idx, 3)) (hM : CT l g y cc1 maxL1 ret1 rm1 (.ref (sh.2.2 i) :: [a1, a2, a3, a4]) sh N (QV g post)) (ht : (sh.1 i).1 < 9 ∧ RR (sh.1 i).1 = y.cls) (hR : rm1.frames + 1 ≤ R.frames ∧ 8 + (maxL1 + 11) + rm1.locals ≤ R.locals) (hcat : (rest.map fun v => v.category).sum ≤ 8) (h0 : cells + rm1.cells = c1 ∧ slots + rm1.slots = s1) (hf : c1 ≤ R.cells ∧ s1 ≤ R.slots) (kk : ∀ (sh1 : WSh) (N1 : WNm), post sh1 N1 → J p l e R s m args below meth c Q g nL sh1 N1 c1 s1 (pc + 3) lv rest) : J p l e R s m args below meth c Q g nL sh N cells slots pc lv (a4 :: a3 :: a2 :: a1 :: .ref (sh.2.2 i) :: rest) := by
  intro H locs ls a b d
  refine va_callv (run_V (As := [a1, a2, a3, a4]) (rest := rest) C hl hd hM rfl hR hcat (by rw [h0.1, h0.2]; exact hf) a b d.1 (pic_recv C a ht)) b (fun _ _ h => h) (fun _ h => h) (fun u t H1 locs1 e1 _ hp hb _ _ hS => ?_)
  rw [h0.1, h0.2]
  rw [e1] at hb
  exact kk u.1 u.2 hp H1 locs1 ls hb hS d
theorem j_callV5I (C : Cx p s m args meth c g nL own cc ret) {idx maxL1 : Nat} {i : Nat}  {y : MethodName} {cc1 : ByteArray} {ret1 : Option FieldType} {rm1 : Room} {a1 a2 a3 a4 a5 : Value} {rest : List Value} {F : WNm} {f : Int32} (hl : MV own idx y cc1 maxL1 ret1 5) (hd : decode cc pc = .ok (.invokevirtual idx, 3)) (hM : CT l g y cc1 maxL1 ret1 rm1 (.ref (sh.2.2 i) :: [a1, a2, a3, a4, a5]) sh N (QF g sh F f)) (ht : (sh.1 i).1 < 9 ∧ RR (sh.1 i).1 = y.cls) (hR : rm1.frames + 1 ≤ R.frames ∧ 8 + (maxL1 + 11) + rm1.locals ≤ R.locals) (hcat : (rest.map fun v => v.category).sum ≤ 8) (h0 : rm1.cells = 0 ∧ rm1.slots = 0) (hf : cells ≤ R.cells ∧ slots ≤ R.slots) (kk : J p l e R s m args below meth c Q g nL sh F cells slots (pc + 3) lv (.int f :: rest)) : J p l e R s m args below meth c Q g nL sh N cells slots pc lv (a5 :: a4 :: a3 :: a2 :: a1 :: .ref (sh.2.2 i) :: rest) := by
  intro H locs ls a b d
  refine va_calli (run_V (As := [a1, a2, a3, a4, a5]) (rest := rest) C hl hd hM rfl hR hcat (by rw [h0.1, h0.2]; exact hf) a b d.1 (pic_recv C a ht)) b (fun _ _ h => h) (fun _ h => h) (fun r u t H1 locs1 e1 _ hp hb _ _ hS => ?_)
  obtain ⟨z1, z2, z3⟩ := hp
  rw [h0.1, h0.2, z3]
  rw [z1, z2, e1] at hb
  exact kk H1 locs1 ls hb hS d
theorem j_callV5Ig (C : Cx p s m args meth c g nL own cc ret) {idx maxL1 : Nat} {i : Nat}  {y : MethodName} {cc1 : ByteArray} {ret1 : Option FieldType} {rm1 : Room} {a1 a2 a3 a4 a5 : Value} {rest : List Value} {post : Int32 → WSh → WNm → Prop} {c1 s1 : Nat} (hl : MV own idx y cc1 maxL1 ret1 5) (hd : decode cc pc = .ok (.invokevirtual idx, 3)) (hM : CT l g y cc1 maxL1 ret1 rm1 (.ref (sh.2.2 i) :: [a1, a2, a3, a4, a5]) sh N (QI g post)) (ht : (sh.1 i).1 < 9 ∧ RR (sh.1 i).1 = y.cls) (hR : rm1.frames + 1 ≤ R.frames ∧ 8 + (maxL1 + 11) + rm1.locals ≤ R.locals) (hcat : (rest.map fun v => v.category).sum ≤ 8) (h0 : cells + rm1.cells = c1 ∧ slots + rm1.slots = s1) (hf : c1 ≤ R.cells ∧ s1 ≤ R.slots) (kk : ∀ (r : Int32) (sh1 : WSh) (N1 : WNm), post r sh1 N1 → J p l e R s m args below meth c Q g nL sh1 N1 c1 s1 (pc + 3) lv (.int r :: rest)) : J p l e R s m args below meth c Q g nL sh N cells slots pc lv (a5 :: a4 :: a3 :: a2 :: a1 :: .ref (sh.2.2 i) :: rest) := by
  intro H locs ls a b d
  refine va_calli (run_V (As := [a1, a2, a3, a4, a5]) (rest := rest) C hl hd hM rfl hR hcat (by rw [h0.1, h0.2]; exact hf) a b d.1 (pic_recv C a ht)) b (fun _ _ h => h) (fun _ h => h) (fun r u t H1 locs1 e1 _ hp hb _ _ hS => ?_)
  rw [h0.1, h0.2]
  rw [e1] at hb
  exact kk r u.1 u.2 hp H1 locs1 ls hb hS d
theorem j_callV5V (C : Cx p s m args meth c g nL own cc ret) {idx maxL1 : Nat} {i : Nat}  {y : MethodName} {cc1 : ByteArray} {ret1 : Option FieldType} {rm1 : Room} {a1 a2 a3 a4 a5 : Value} {rest : List Value} {F : WNm} (hl : MV own idx y cc1 maxL1 ret1 5) (hd : decode cc pc = .ok (.invokevirtual idx, 3)) (hM : CT l g y cc1 maxL1 ret1 rm1 (.ref (sh.2.2 i) :: [a1, a2, a3, a4, a5]) sh N (QFv g sh F)) (ht : (sh.1 i).1 < 9 ∧ RR (sh.1 i).1 = y.cls) (hR : rm1.frames + 1 ≤ R.frames ∧ 8 + (maxL1 + 11) + rm1.locals ≤ R.locals) (hcat : (rest.map fun v => v.category).sum ≤ 8) (h0 : rm1.cells = 0 ∧ rm1.slots = 0) (hf : cells ≤ R.cells ∧ slots ≤ R.slots) (kk : J p l e R s m args below meth c Q g nL sh F cells slots (pc + 3) lv rest) : J p l e R s m args below meth c Q g nL sh N cells slots pc lv (a5 :: a4 :: a3 :: a2 :: a1 :: .ref (sh.2.2 i) :: rest) := by
  intro H locs ls a b d
  refine va_callv (run_V (As := [a1, a2, a3, a4, a5]) (rest := rest) C hl hd hM rfl hR hcat (by rw [h0.1, h0.2]; exact hf) a b d.1 (pic_recv C a ht)) b (fun _ _ h => h) (fun _ h => h) (fun u t H1 locs1 e1 _ hp hb _ _ hS => ?_)
  obtain ⟨z1, z2⟩ := hp
  rw [h0.1, h0.2]
  rw [z1, z2, e1] at hb
  exact kk H1 locs1 ls hb hS d
theorem j_callV5Vg (C : Cx p s m args meth c g nL own cc ret) {idx maxL1 : Nat} {i : Nat}  {y : MethodName} {cc1 : ByteArray} {ret1 : Option FieldType} {rm1 : Room} {a1 a2 a3 a4 a5 : Value} {rest : List Value} {post : WSh → WNm → Prop} {c1 s1 : Nat} (hl : MV own idx y cc1 maxL1 ret1 5) (hd : decode cc pc = .ok (.invokevirtual idx, 3)) (hM : CT l g y cc1 maxL1 ret1 rm1 (.ref (sh.2.2 i) :: [a1, a2, a3, a4, a5]) sh N (QV g post)) (ht : (sh.1 i).1 < 9 ∧ RR (sh.1 i).1 = y.cls) (hR : rm1.frames + 1 ≤ R.frames ∧ 8 + (maxL1 + 11) + rm1.locals ≤ R.locals) (hcat : (rest.map fun v => v.category).sum ≤ 8) (h0 : cells + rm1.cells = c1 ∧ slots + rm1.slots = s1) (hf : c1 ≤ R.cells ∧ s1 ≤ R.slots) (kk : ∀ (sh1 : WSh) (N1 : WNm), post sh1 N1 → J p l e R s m args below meth c Q g nL sh1 N1 c1 s1 (pc + 3) lv rest) : J p l e R s m args below meth c Q g nL sh N cells slots pc lv (a5 :: a4 :: a3 :: a2 :: a1 :: .ref (sh.2.2 i) :: rest) := by
  intro H locs ls a b d
  refine va_callv (run_V (As := [a1, a2, a3, a4, a5]) (rest := rest) C hl hd hM rfl hR hcat (by rw [h0.1, h0.2]; exact hf) a b d.1 (pic_recv C a ht)) b (fun _ _ h => h) (fun _ h => h) (fun u t H1 locs1 e1 _ hp hb _ _ hS => ?_)
  rw [h0.1, h0.2]
  rw [e1] at hb
  exact kk u.1 u.2 hp H1 locs1 ls hb hS d
theorem j_callS0I (C : Cx p s m args meth c g nL own cc ret) {idx maxL1 : Nat}   {y : MethodName} {cc1 : ByteArray} {ret1 : Option FieldType} {rm1 : Room}  {rest : List Value} {F : WNm} {f : Int32} (hl : MS own idx y cc1 maxL1 ret1 0) (hd : decode cc pc = .ok (.invokestatic idx, 3)) (hM : CT l g y cc1 maxL1 ret1 rm1 [] sh N (QF g sh F f))  (hR : rm1.frames + 1 ≤ R.frames ∧ 8 + (maxL1 + 11) + rm1.locals ≤ R.locals) (hcat : (rest.map fun v => v.category).sum ≤ 8) (h0 : rm1.cells = 0 ∧ rm1.slots = 0) (hf : cells ≤ R.cells ∧ slots ≤ R.slots) (kk : J p l e R s m args below meth c Q g nL sh F cells slots (pc + 3) lv (.int f :: rest)) : J p l e R s m args below meth c Q g nL sh N cells slots pc lv (rest) := by
  intro H locs ls a b d
  refine va_calli (run_S (As := []) (rest := rest) C hl hd hM rfl hR hcat (by rw [h0.1, h0.2]; exact hf) a b d.1 ) b (fun _ _ h => h) (fun _ h => h) (fun r u t H1 locs1 e1 _ hp hb _ _ hS => ?_)
  obtain ⟨z1, z2, z3⟩ := hp
  rw [h0.1, h0.2, z3]
  rw [z1, z2, e1] at hb
  exact kk H1 locs1 ls hb hS d
theorem j_callS0Ig (C : Cx p s m args meth c g nL own cc ret) {idx maxL1 : Nat}   {y : MethodName} {cc1 : ByteArray} {ret1 : Option FieldType} {rm1 : Room}  {rest : List Value} {post : Int32 → WSh → WNm → Prop} {c1 s1 : Nat} (hl : MS own idx y cc1 maxL1 ret1 0) (hd : decode cc pc = .ok (.invokestatic idx, 3)) (hM : CT l g y cc1 maxL1 ret1 rm1 [] sh N (QI g post))  (hR : rm1.frames + 1 ≤ R.frames ∧ 8 + (maxL1 + 11) + rm1.locals ≤ R.locals) (hcat : (rest.map fun v => v.category).sum ≤ 8) (h0 : cells + rm1.cells = c1 ∧ slots + rm1.slots = s1) (hf : c1 ≤ R.cells ∧ s1 ≤ R.slots) (kk : ∀ (r : Int32) (sh1 : WSh) (N1 : WNm), post r sh1 N1 → J p l e R s m args below meth c Q g nL sh1 N1 c1 s1 (pc + 3) lv (.int r :: rest)) : J p l e R s m args below meth c Q g nL sh N cells slots pc lv (rest) := by
  intro H locs ls a b d
  refine va_calli (run_S (As := []) (rest := rest) C hl hd hM rfl hR hcat (by rw [h0.1, h0.2]; exact hf) a b d.1 ) b (fun _ _ h => h) (fun _ h => h) (fun r u t H1 locs1 e1 _ hp hb _ _ hS => ?_)
  rw [h0.1, h0.2]
  rw [e1] at hb
  exact kk r u.1 u.2 hp H1 locs1 ls hb hS d
theorem j_callS0Rg (C : Cx p s m args meth c g nL own cc ret) {idx maxL1 : Nat}   {y : MethodName} {cc1 : ByteArray} {ret1 : Option FieldType} {rm1 : Room}  {rest : List Value} {post : Option Nat → WSh → WNm → Prop} {c1 s1 : Nat} (hl : MS own idx y cc1 maxL1 ret1 0) (hd : decode cc pc = .ok (.invokestatic idx, 3)) (hM : CT l g y cc1 maxL1 ret1 rm1 [] sh N (QR g post))  (hR : rm1.frames + 1 ≤ R.frames ∧ 8 + (maxL1 + 11) + rm1.locals ≤ R.locals) (hcat : (rest.map fun v => v.category).sum ≤ 8) (h0 : cells + rm1.cells = c1 ∧ slots + rm1.slots = s1) (hf : c1 ≤ R.cells ∧ s1 ≤ R.slots) (kk : ∀ (o : Option Nat) (sh1 : WSh) (N1 : WNm), post o sh1 N1 → J p l e R s m args below meth c Q g nL sh1 N1 c1 s1 (pc + 3) lv (va_rf (o.map sh1.2.2) :: rest)) : J p l e R s m args below meth c Q g nL sh N cells slots pc lv (rest) := by
  intro H locs ls a b d
  refine va_callq (run_S (As := []) (rest := rest) C hl hd hM rfl hR hcat (by rw [h0.1, h0.2]; exact hf) a b d.1 ) b (fun _ _ h => h) (fun _ h => h) (fun r u t H1 locs1 e1 _ hp hb _ _ hS => ?_)
  obtain ⟨o1, z1, z2⟩ := hp
  rw [h0.1, h0.2, z1]
  rw [e1] at hb
  exact kk o1 u.1 u.2 z2 H1 locs1 ls hb hS d
theorem j_callS0V (C : Cx p s m args meth c g nL own cc ret) {idx maxL1 : Nat}   {y : MethodName} {cc1 : ByteArray} {ret1 : Option FieldType} {rm1 : Room}  {rest : List Value} {F : WNm} (hl : MS own idx y cc1 maxL1 ret1 0) (hd : decode cc pc = .ok (.invokestatic idx, 3)) (hM : CT l g y cc1 maxL1 ret1 rm1 [] sh N (QFv g sh F))  (hR : rm1.frames + 1 ≤ R.frames ∧ 8 + (maxL1 + 11) + rm1.locals ≤ R.locals) (hcat : (rest.map fun v => v.category).sum ≤ 8) (h0 : rm1.cells = 0 ∧ rm1.slots = 0) (hf : cells ≤ R.cells ∧ slots ≤ R.slots) (kk : J p l e R s m args below meth c Q g nL sh F cells slots (pc + 3) lv rest) : J p l e R s m args below meth c Q g nL sh N cells slots pc lv (rest) := by
  intro H locs ls a b d
  refine va_callv (run_S (As := []) (rest := rest) C hl hd hM rfl hR hcat (by rw [h0.1, h0.2]; exact hf) a b d.1 ) b (fun _ _ h => h) (fun _ h => h) (fun u t H1 locs1 e1 _ hp hb _ _ hS => ?_)
  obtain ⟨z1, z2⟩ := hp
  rw [h0.1, h0.2]
  rw [z1, z2, e1] at hb
  exact kk H1 locs1 ls hb hS d
theorem j_callS0Vg (C : Cx p s m args meth c g nL own cc ret) {idx maxL1 : Nat}   {y : MethodName} {cc1 : ByteArray} {ret1 : Option FieldType} {rm1 : Room}  {rest : List Value} {post : WSh → WNm → Prop} {c1 s1 : Nat} (hl : MS own idx y cc1 maxL1 ret1 0) (hd : decode cc pc = .ok (.invokestatic idx, 3)) (hM : CT l g y cc1 maxL1 ret1 rm1 [] sh N (QV g post))  (hR : rm1.frames + 1 ≤ R.frames ∧ 8 + (maxL1 + 11) + rm1.locals ≤ R.locals) (hcat : (rest.map fun v => v.category).sum ≤ 8) (h0 : cells + rm1.cells = c1 ∧ slots + rm1.slots = s1) (hf : c1 ≤ R.cells ∧ s1 ≤ R.slots) (kk : ∀ (sh1 : WSh) (N1 : WNm), post sh1 N1 → J p l e R s m args below meth c Q g nL sh1 N1 c1 s1 (pc + 3) lv rest) : J p l e R s m args below meth c Q g nL sh N cells slots pc lv (rest) := by
  intro H locs ls a b d
  refine va_callv (run_S (As := []) (rest := rest) C hl hd hM rfl hR hcat (by rw [h0.1, h0.2]; exact hf) a b d.1 ) b (fun _ _ h => h) (fun _ h => h) (fun u t H1 locs1 e1 _ hp hb _ _ hS => ?_)
  rw [h0.1, h0.2]
  rw [e1] at hb
  exact kk u.1 u.2 hp H1 locs1 ls hb hS d
theorem j_callS1I (C : Cx p s m args meth c g nL own cc ret) {idx maxL1 : Nat}   {y : MethodName} {cc1 : ByteArray} {ret1 : Option FieldType} {rm1 : Room} {a1 : Value} {rest : List Value} {F : WNm} {f : Int32} (hl : MS own idx y cc1 maxL1 ret1 1) (hd : decode cc pc = .ok (.invokestatic idx, 3)) (hM : CT l g y cc1 maxL1 ret1 rm1 [a1] sh N (QF g sh F f))  (hR : rm1.frames + 1 ≤ R.frames ∧ 8 + (maxL1 + 11) + rm1.locals ≤ R.locals) (hcat : (rest.map fun v => v.category).sum ≤ 8) (h0 : rm1.cells = 0 ∧ rm1.slots = 0) (hf : cells ≤ R.cells ∧ slots ≤ R.slots) (kk : J p l e R s m args below meth c Q g nL sh F cells slots (pc + 3) lv (.int f :: rest)) : J p l e R s m args below meth c Q g nL sh N cells slots pc lv (a1 :: rest) := by
  intro H locs ls a b d
  refine va_calli (run_S (As := [a1]) (rest := rest) C hl hd hM rfl hR hcat (by rw [h0.1, h0.2]; exact hf) a b d.1 ) b (fun _ _ h => h) (fun _ h => h) (fun r u t H1 locs1 e1 _ hp hb _ _ hS => ?_)
  obtain ⟨z1, z2, z3⟩ := hp
  rw [h0.1, h0.2, z3]
  rw [z1, z2, e1] at hb
  exact kk H1 locs1 ls hb hS d
theorem j_callS1Ig (C : Cx p s m args meth c g nL own cc ret) {idx maxL1 : Nat}   {y : MethodName} {cc1 : ByteArray} {ret1 : Option FieldType} {rm1 : Room} {a1 : Value} {rest : List Value} {post : Int32 → WSh → WNm → Prop} {c1 s1 : Nat} (hl : MS own idx y cc1 maxL1 ret1 1) (hd : decode cc pc = .ok (.invokestatic idx, 3)) (hM : CT l g y cc1 maxL1 ret1 rm1 [a1] sh N (QI g post))  (hR : rm1.frames + 1 ≤ R.frames ∧ 8 + (maxL1 + 11) + rm1.locals ≤ R.locals) (hcat : (rest.map fun v => v.category).sum ≤ 8) (h0 : cells + rm1.cells = c1 ∧ slots + rm1.slots = s1) (hf : c1 ≤ R.cells ∧ s1 ≤ R.slots) (kk : ∀ (r : Int32) (sh1 : WSh) (N1 : WNm), post r sh1 N1 → J p l e R s m args below meth c Q g nL sh1 N1 c1 s1 (pc + 3) lv (.int r :: rest)) : J p l e R s m args below meth c Q g nL sh N cells slots pc lv (a1 :: rest) := by
  intro H locs ls a b d
  refine va_calli (run_S (As := [a1]) (rest := rest) C hl hd hM rfl hR hcat (by rw [h0.1, h0.2]; exact hf) a b d.1 ) b (fun _ _ h => h) (fun _ h => h) (fun r u t H1 locs1 e1 _ hp hb _ _ hS => ?_)
  rw [h0.1, h0.2]
  rw [e1] at hb
  exact kk r u.1 u.2 hp H1 locs1 ls hb hS d
theorem j_callS1Rg (C : Cx p s m args meth c g nL own cc ret) {idx maxL1 : Nat}   {y : MethodName} {cc1 : ByteArray} {ret1 : Option FieldType} {rm1 : Room} {a1 : Value} {rest : List Value} {post : Option Nat → WSh → WNm → Prop} {c1 s1 : Nat} (hl : MS own idx y cc1 maxL1 ret1 1) (hd : decode cc pc = .ok (.invokestatic idx, 3)) (hM : CT l g y cc1 maxL1 ret1 rm1 [a1] sh N (QR g post))  (hR : rm1.frames + 1 ≤ R.frames ∧ 8 + (maxL1 + 11) + rm1.locals ≤ R.locals) (hcat : (rest.map fun v => v.category).sum ≤ 8) (h0 : cells + rm1.cells = c1 ∧ slots + rm1.slots = s1) (hf : c1 ≤ R.cells ∧ s1 ≤ R.slots) (kk : ∀ (o : Option Nat) (sh1 : WSh) (N1 : WNm), post o sh1 N1 → J p l e R s m args below meth c Q g nL sh1 N1 c1 s1 (pc + 3) lv (va_rf (o.map sh1.2.2) :: rest)) : J p l e R s m args below meth c Q g nL sh N cells slots pc lv (a1 :: rest) := by
  intro H locs ls a b d
  refine va_callq (run_S (As := [a1]) (rest := rest) C hl hd hM rfl hR hcat (by rw [h0.1, h0.2]; exact hf) a b d.1 ) b (fun _ _ h => h) (fun _ h => h) (fun r u t H1 locs1 e1 _ hp hb _ _ hS => ?_)
  obtain ⟨o1, z1, z2⟩ := hp
  rw [h0.1, h0.2, z1]
  rw [e1] at hb
  exact kk o1 u.1 u.2 z2 H1 locs1 ls hb hS d
theorem j_callS1V (C : Cx p s m args meth c g nL own cc ret) {idx maxL1 : Nat}   {y : MethodName} {cc1 : ByteArray} {ret1 : Option FieldType} {rm1 : Room} {a1 : Value} {rest : List Value} {F : WNm} (hl : MS own idx y cc1 maxL1 ret1 1) (hd : decode cc pc = .ok (.invokestatic idx, 3)) (hM : CT l g y cc1 maxL1 ret1 rm1 [a1] sh N (QFv g sh F))  (hR : rm1.frames + 1 ≤ R.frames ∧ 8 + (maxL1 + 11) + rm1.locals ≤ R.locals) (hcat : (rest.map fun v => v.category).sum ≤ 8) (h0 : rm1.cells = 0 ∧ rm1.slots = 0) (hf : cells ≤ R.cells ∧ slots ≤ R.slots) (kk : J p l e R s m args below meth c Q g nL sh F cells slots (pc + 3) lv rest) : J p l e R s m args below meth c Q g nL sh N cells slots pc lv (a1 :: rest) := by
  intro H locs ls a b d
  refine va_callv (run_S (As := [a1]) (rest := rest) C hl hd hM rfl hR hcat (by rw [h0.1, h0.2]; exact hf) a b d.1 ) b (fun _ _ h => h) (fun _ h => h) (fun u t H1 locs1 e1 _ hp hb _ _ hS => ?_)
  obtain ⟨z1, z2⟩ := hp
  rw [h0.1, h0.2]
  rw [z1, z2, e1] at hb
  exact kk H1 locs1 ls hb hS d
theorem j_callS1Vg (C : Cx p s m args meth c g nL own cc ret) {idx maxL1 : Nat}   {y : MethodName} {cc1 : ByteArray} {ret1 : Option FieldType} {rm1 : Room} {a1 : Value} {rest : List Value} {post : WSh → WNm → Prop} {c1 s1 : Nat} (hl : MS own idx y cc1 maxL1 ret1 1) (hd : decode cc pc = .ok (.invokestatic idx, 3)) (hM : CT l g y cc1 maxL1 ret1 rm1 [a1] sh N (QV g post))  (hR : rm1.frames + 1 ≤ R.frames ∧ 8 + (maxL1 + 11) + rm1.locals ≤ R.locals) (hcat : (rest.map fun v => v.category).sum ≤ 8) (h0 : cells + rm1.cells = c1 ∧ slots + rm1.slots = s1) (hf : c1 ≤ R.cells ∧ s1 ≤ R.slots) (kk : ∀ (sh1 : WSh) (N1 : WNm), post sh1 N1 → J p l e R s m args below meth c Q g nL sh1 N1 c1 s1 (pc + 3) lv rest) : J p l e R s m args below meth c Q g nL sh N cells slots pc lv (a1 :: rest) := by
  intro H locs ls a b d
  refine va_callv (run_S (As := [a1]) (rest := rest) C hl hd hM rfl hR hcat (by rw [h0.1, h0.2]; exact hf) a b d.1 ) b (fun _ _ h => h) (fun _ h => h) (fun u t H1 locs1 e1 _ hp hb _ _ hS => ?_)
  rw [h0.1, h0.2]
  rw [e1] at hb
  exact kk u.1 u.2 hp H1 locs1 ls hb hS d
theorem j_callS2I (C : Cx p s m args meth c g nL own cc ret) {idx maxL1 : Nat}   {y : MethodName} {cc1 : ByteArray} {ret1 : Option FieldType} {rm1 : Room} {a1 a2 : Value} {rest : List Value} {F : WNm} {f : Int32} (hl : MS own idx y cc1 maxL1 ret1 2) (hd : decode cc pc = .ok (.invokestatic idx, 3)) (hM : CT l g y cc1 maxL1 ret1 rm1 [a1, a2] sh N (QF g sh F f))  (hR : rm1.frames + 1 ≤ R.frames ∧ 8 + (maxL1 + 11) + rm1.locals ≤ R.locals) (hcat : (rest.map fun v => v.category).sum ≤ 8) (h0 : rm1.cells = 0 ∧ rm1.slots = 0) (hf : cells ≤ R.cells ∧ slots ≤ R.slots) (kk : J p l e R s m args below meth c Q g nL sh F cells slots (pc + 3) lv (.int f :: rest)) : J p l e R s m args below meth c Q g nL sh N cells slots pc lv (a2 :: a1 :: rest) := by
  intro H locs ls a b d
  refine va_calli (run_S (As := [a1, a2]) (rest := rest) C hl hd hM rfl hR hcat (by rw [h0.1, h0.2]; exact hf) a b d.1 ) b (fun _ _ h => h) (fun _ h => h) (fun r u t H1 locs1 e1 _ hp hb _ _ hS => ?_)
  obtain ⟨z1, z2, z3⟩ := hp
  rw [h0.1, h0.2, z3]
  rw [z1, z2, e1] at hb
  exact kk H1 locs1 ls hb hS d
theorem j_callS2Ig (C : Cx p s m args meth c g nL own cc ret) {idx maxL1 : Nat}   {y : MethodName} {cc1 : ByteArray} {ret1 : Option FieldType} {rm1 : Room} {a1 a2 : Value} {rest : List Value} {post : Int32 → WSh → WNm → Prop} {c1 s1 : Nat} (hl : MS own idx y cc1 maxL1 ret1 2) (hd : decode cc pc = .ok (.invokestatic idx, 3)) (hM : CT l g y cc1 maxL1 ret1 rm1 [a1, a2] sh N (QI g post))  (hR : rm1.frames + 1 ≤ R.frames ∧ 8 + (maxL1 + 11) + rm1.locals ≤ R.locals) (hcat : (rest.map fun v => v.category).sum ≤ 8) (h0 : cells + rm1.cells = c1 ∧ slots + rm1.slots = s1) (hf : c1 ≤ R.cells ∧ s1 ≤ R.slots) (kk : ∀ (r : Int32) (sh1 : WSh) (N1 : WNm), post r sh1 N1 → J p l e R s m args below meth c Q g nL sh1 N1 c1 s1 (pc + 3) lv (.int r :: rest)) : J p l e R s m args below meth c Q g nL sh N cells slots pc lv (a2 :: a1 :: rest) := by
  intro H locs ls a b d
  refine va_calli (run_S (As := [a1, a2]) (rest := rest) C hl hd hM rfl hR hcat (by rw [h0.1, h0.2]; exact hf) a b d.1 ) b (fun _ _ h => h) (fun _ h => h) (fun r u t H1 locs1 e1 _ hp hb _ _ hS => ?_)
  rw [h0.1, h0.2]
  rw [e1] at hb
  exact kk r u.1 u.2 hp H1 locs1 ls hb hS d
theorem j_callS2Rg (C : Cx p s m args meth c g nL own cc ret) {idx maxL1 : Nat}   {y : MethodName} {cc1 : ByteArray} {ret1 : Option FieldType} {rm1 : Room} {a1 a2 : Value} {rest : List Value} {post : Option Nat → WSh → WNm → Prop} {c1 s1 : Nat} (hl : MS own idx y cc1 maxL1 ret1 2) (hd : decode cc pc = .ok (.invokestatic idx, 3)) (hM : CT l g y cc1 maxL1 ret1 rm1 [a1, a2] sh N (QR g post))  (hR : rm1.frames + 1 ≤ R.frames ∧ 8 + (maxL1 + 11) + rm1.locals ≤ R.locals) (hcat : (rest.map fun v => v.category).sum ≤ 8) (h0 : cells + rm1.cells = c1 ∧ slots + rm1.slots = s1) (hf : c1 ≤ R.cells ∧ s1 ≤ R.slots) (kk : ∀ (o : Option Nat) (sh1 : WSh) (N1 : WNm), post o sh1 N1 → J p l e R s m args below meth c Q g nL sh1 N1 c1 s1 (pc + 3) lv (va_rf (o.map sh1.2.2) :: rest)) : J p l e R s m args below meth c Q g nL sh N cells slots pc lv (a2 :: a1 :: rest) := by
  intro H locs ls a b d
  refine va_callq (run_S (As := [a1, a2]) (rest := rest) C hl hd hM rfl hR hcat (by rw [h0.1, h0.2]; exact hf) a b d.1 ) b (fun _ _ h => h) (fun _ h => h) (fun r u t H1 locs1 e1 _ hp hb _ _ hS => ?_)
  obtain ⟨o1, z1, z2⟩ := hp
  rw [h0.1, h0.2, z1]
  rw [e1] at hb
  exact kk o1 u.1 u.2 z2 H1 locs1 ls hb hS d
theorem j_callS2V (C : Cx p s m args meth c g nL own cc ret) {idx maxL1 : Nat}   {y : MethodName} {cc1 : ByteArray} {ret1 : Option FieldType} {rm1 : Room} {a1 a2 : Value} {rest : List Value} {F : WNm} (hl : MS own idx y cc1 maxL1 ret1 2) (hd : decode cc pc = .ok (.invokestatic idx, 3)) (hM : CT l g y cc1 maxL1 ret1 rm1 [a1, a2] sh N (QFv g sh F))  (hR : rm1.frames + 1 ≤ R.frames ∧ 8 + (maxL1 + 11) + rm1.locals ≤ R.locals) (hcat : (rest.map fun v => v.category).sum ≤ 8) (h0 : rm1.cells = 0 ∧ rm1.slots = 0) (hf : cells ≤ R.cells ∧ slots ≤ R.slots) (kk : J p l e R s m args below meth c Q g nL sh F cells slots (pc + 3) lv rest) : J p l e R s m args below meth c Q g nL sh N cells slots pc lv (a2 :: a1 :: rest) := by
  intro H locs ls a b d
  refine va_callv (run_S (As := [a1, a2]) (rest := rest) C hl hd hM rfl hR hcat (by rw [h0.1, h0.2]; exact hf) a b d.1 ) b (fun _ _ h => h) (fun _ h => h) (fun u t H1 locs1 e1 _ hp hb _ _ hS => ?_)
  obtain ⟨z1, z2⟩ := hp
  rw [h0.1, h0.2]
  rw [z1, z2, e1] at hb
  exact kk H1 locs1 ls hb hS d
theorem j_callS2Vg (C : Cx p s m args meth c g nL own cc ret) {idx maxL1 : Nat}   {y : MethodName} {cc1 : ByteArray} {ret1 : Option FieldType} {rm1 : Room} {a1 a2 : Value} {rest : List Value} {post : WSh → WNm → Prop} {c1 s1 : Nat} (hl : MS own idx y cc1 maxL1 ret1 2) (hd : decode cc pc = .ok (.invokestatic idx, 3)) (hM : CT l g y cc1 maxL1 ret1 rm1 [a1, a2] sh N (QV g post))  (hR : rm1.frames + 1 ≤ R.frames ∧ 8 + (maxL1 + 11) + rm1.locals ≤ R.locals) (hcat : (rest.map fun v => v.category).sum ≤ 8) (h0 : cells + rm1.cells = c1 ∧ slots + rm1.slots = s1) (hf : c1 ≤ R.cells ∧ s1 ≤ R.slots) (kk : ∀ (sh1 : WSh) (N1 : WNm), post sh1 N1 → J p l e R s m args below meth c Q g nL sh1 N1 c1 s1 (pc + 3) lv rest) : J p l e R s m args below meth c Q g nL sh N cells slots pc lv (a2 :: a1 :: rest) := by
  intro H locs ls a b d
  refine va_callv (run_S (As := [a1, a2]) (rest := rest) C hl hd hM rfl hR hcat (by rw [h0.1, h0.2]; exact hf) a b d.1 ) b (fun _ _ h => h) (fun _ h => h) (fun u t H1 locs1 e1 _ hp hb _ _ hS => ?_)
  rw [h0.1, h0.2]
  rw [e1] at hb
  exact kk u.1 u.2 hp H1 locs1 ls hb hS d
theorem j_callS3I (C : Cx p s m args meth c g nL own cc ret) {idx maxL1 : Nat}   {y : MethodName} {cc1 : ByteArray} {ret1 : Option FieldType} {rm1 : Room} {a1 a2 a3 : Value} {rest : List Value} {F : WNm} {f : Int32} (hl : MS own idx y cc1 maxL1 ret1 3) (hd : decode cc pc = .ok (.invokestatic idx, 3)) (hM : CT l g y cc1 maxL1 ret1 rm1 [a1, a2, a3] sh N (QF g sh F f))  (hR : rm1.frames + 1 ≤ R.frames ∧ 8 + (maxL1 + 11) + rm1.locals ≤ R.locals) (hcat : (rest.map fun v => v.category).sum ≤ 8) (h0 : rm1.cells = 0 ∧ rm1.slots = 0) (hf : cells ≤ R.cells ∧ slots ≤ R.slots) (kk : J p l e R s m args below meth c Q g nL sh F cells slots (pc + 3) lv (.int f :: rest)) : J p l e R s m args below meth c Q g nL sh N cells slots pc lv (a3 :: a2 :: a1 :: rest) := by
  intro H locs ls a b d
  refine va_calli (run_S (As := [a1, a2, a3]) (rest := rest) C hl hd hM rfl hR hcat (by rw [h0.1, h0.2]; exact hf) a b d.1 ) b (fun _ _ h => h) (fun _ h => h) (fun r u t H1 locs1 e1 _ hp hb _ _ hS => ?_)
  obtain ⟨z1, z2, z3⟩ := hp
  rw [h0.1, h0.2, z3]
  rw [z1, z2, e1] at hb
  exact kk H1 locs1 ls hb hS d
theorem j_callS3Ig (C : Cx p s m args meth c g nL own cc ret) {idx maxL1 : Nat}   {y : MethodName} {cc1 : ByteArray} {ret1 : Option FieldType} {rm1 : Room} {a1 a2 a3 : Value} {rest : List Value} {post : Int32 → WSh → WNm → Prop} {c1 s1 : Nat} (hl : MS own idx y cc1 maxL1 ret1 3) (hd : decode cc pc = .ok (.invokestatic idx, 3)) (hM : CT l g y cc1 maxL1 ret1 rm1 [a1, a2, a3] sh N (QI g post))  (hR : rm1.frames + 1 ≤ R.frames ∧ 8 + (maxL1 + 11) + rm1.locals ≤ R.locals) (hcat : (rest.map fun v => v.category).sum ≤ 8) (h0 : cells + rm1.cells = c1 ∧ slots + rm1.slots = s1) (hf : c1 ≤ R.cells ∧ s1 ≤ R.slots) (kk : ∀ (r : Int32) (sh1 : WSh) (N1 : WNm), post r sh1 N1 → J p l e R s m args below meth c Q g nL sh1 N1 c1 s1 (pc + 3) lv (.int r :: rest)) : J p l e R s m args below meth c Q g nL sh N cells slots pc lv (a3 :: a2 :: a1 :: rest) := by
  intro H locs ls a b d
  refine va_calli (run_S (As := [a1, a2, a3]) (rest := rest) C hl hd hM rfl hR hcat (by rw [h0.1, h0.2]; exact hf) a b d.1 ) b (fun _ _ h => h) (fun _ h => h) (fun r u t H1 locs1 e1 _ hp hb _ _ hS => ?_)
  rw [h0.1, h0.2]
  rw [e1] at hb
  exact kk r u.1 u.2 hp H1 locs1 ls hb hS d
theorem j_callS3Rg (C : Cx p s m args meth c g nL own cc ret) {idx maxL1 : Nat}   {y : MethodName} {cc1 : ByteArray} {ret1 : Option FieldType} {rm1 : Room} {a1 a2 a3 : Value} {rest : List Value} {post : Option Nat → WSh → WNm → Prop} {c1 s1 : Nat} (hl : MS own idx y cc1 maxL1 ret1 3) (hd : decode cc pc = .ok (.invokestatic idx, 3)) (hM : CT l g y cc1 maxL1 ret1 rm1 [a1, a2, a3] sh N (QR g post))  (hR : rm1.frames + 1 ≤ R.frames ∧ 8 + (maxL1 + 11) + rm1.locals ≤ R.locals) (hcat : (rest.map fun v => v.category).sum ≤ 8) (h0 : cells + rm1.cells = c1 ∧ slots + rm1.slots = s1) (hf : c1 ≤ R.cells ∧ s1 ≤ R.slots) (kk : ∀ (o : Option Nat) (sh1 : WSh) (N1 : WNm), post o sh1 N1 → J p l e R s m args below meth c Q g nL sh1 N1 c1 s1 (pc + 3) lv (va_rf (o.map sh1.2.2) :: rest)) : J p l e R s m args below meth c Q g nL sh N cells slots pc lv (a3 :: a2 :: a1 :: rest) := by
  intro H locs ls a b d
  refine va_callq (run_S (As := [a1, a2, a3]) (rest := rest) C hl hd hM rfl hR hcat (by rw [h0.1, h0.2]; exact hf) a b d.1 ) b (fun _ _ h => h) (fun _ h => h) (fun r u t H1 locs1 e1 _ hp hb _ _ hS => ?_)
  obtain ⟨o1, z1, z2⟩ := hp
  rw [h0.1, h0.2, z1]
  rw [e1] at hb
  exact kk o1 u.1 u.2 z2 H1 locs1 ls hb hS d
theorem j_callS3V (C : Cx p s m args meth c g nL own cc ret) {idx maxL1 : Nat}   {y : MethodName} {cc1 : ByteArray} {ret1 : Option FieldType} {rm1 : Room} {a1 a2 a3 : Value} {rest : List Value} {F : WNm} (hl : MS own idx y cc1 maxL1 ret1 3) (hd : decode cc pc = .ok (.invokestatic idx, 3)) (hM : CT l g y cc1 maxL1 ret1 rm1 [a1, a2, a3] sh N (QFv g sh F))  (hR : rm1.frames + 1 ≤ R.frames ∧ 8 + (maxL1 + 11) + rm1.locals ≤ R.locals) (hcat : (rest.map fun v => v.category).sum ≤ 8) (h0 : rm1.cells = 0 ∧ rm1.slots = 0) (hf : cells ≤ R.cells ∧ slots ≤ R.slots) (kk : J p l e R s m args below meth c Q g nL sh F cells slots (pc + 3) lv rest) : J p l e R s m args below meth c Q g nL sh N cells slots pc lv (a3 :: a2 :: a1 :: rest) := by
  intro H locs ls a b d
  refine va_callv (run_S (As := [a1, a2, a3]) (rest := rest) C hl hd hM rfl hR hcat (by rw [h0.1, h0.2]; exact hf) a b d.1 ) b (fun _ _ h => h) (fun _ h => h) (fun u t H1 locs1 e1 _ hp hb _ _ hS => ?_)
  obtain ⟨z1, z2⟩ := hp
  rw [h0.1, h0.2]
  rw [z1, z2, e1] at hb
  exact kk H1 locs1 ls hb hS d
theorem j_callS3Vg (C : Cx p s m args meth c g nL own cc ret) {idx maxL1 : Nat}   {y : MethodName} {cc1 : ByteArray} {ret1 : Option FieldType} {rm1 : Room} {a1 a2 a3 : Value} {rest : List Value} {post : WSh → WNm → Prop} {c1 s1 : Nat} (hl : MS own idx y cc1 maxL1 ret1 3) (hd : decode cc pc = .ok (.invokestatic idx, 3)) (hM : CT l g y cc1 maxL1 ret1 rm1 [a1, a2, a3] sh N (QV g post))  (hR : rm1.frames + 1 ≤ R.frames ∧ 8 + (maxL1 + 11) + rm1.locals ≤ R.locals) (hcat : (rest.map fun v => v.category).sum ≤ 8) (h0 : cells + rm1.cells = c1 ∧ slots + rm1.slots = s1) (hf : c1 ≤ R.cells ∧ s1 ≤ R.slots) (kk : ∀ (sh1 : WSh) (N1 : WNm), post sh1 N1 → J p l e R s m args below meth c Q g nL sh1 N1 c1 s1 (pc + 3) lv rest) : J p l e R s m args below meth c Q g nL sh N cells slots pc lv (a3 :: a2 :: a1 :: rest) := by
  intro H locs ls a b d
  refine va_callv (run_S (As := [a1, a2, a3]) (rest := rest) C hl hd hM rfl hR hcat (by rw [h0.1, h0.2]; exact hf) a b d.1 ) b (fun _ _ h => h) (fun _ h => h) (fun u t H1 locs1 e1 _ hp hb _ _ hS => ?_)
  rw [h0.1, h0.2]
  rw [e1] at hb
  exact kk u.1 u.2 hp H1 locs1 ls hb hS d
theorem j_callS4I (C : Cx p s m args meth c g nL own cc ret) {idx maxL1 : Nat}   {y : MethodName} {cc1 : ByteArray} {ret1 : Option FieldType} {rm1 : Room} {a1 a2 a3 a4 : Value} {rest : List Value} {F : WNm} {f : Int32} (hl : MS own idx y cc1 maxL1 ret1 4) (hd : decode cc pc = .ok (.invokestatic idx, 3)) (hM : CT l g y cc1 maxL1 ret1 rm1 [a1, a2, a3, a4] sh N (QF g sh F f))  (hR : rm1.frames + 1 ≤ R.frames ∧ 8 + (maxL1 + 11) + rm1.locals ≤ R.locals) (hcat : (rest.map fun v => v.category).sum ≤ 8) (h0 : rm1.cells = 0 ∧ rm1.slots = 0) (hf : cells ≤ R.cells ∧ slots ≤ R.slots) (kk : J p l e R s m args below meth c Q g nL sh F cells slots (pc + 3) lv (.int f :: rest)) : J p l e R s m args below meth c Q g nL sh N cells slots pc lv (a4 :: a3 :: a2 :: a1 :: rest) := by
  intro H locs ls a b d
  refine va_calli (run_S (As := [a1, a2, a3, a4]) (rest := rest) C hl hd hM rfl hR hcat (by rw [h0.1, h0.2]; exact hf) a b d.1 ) b (fun _ _ h => h) (fun _ h => h) (fun r u t H1 locs1 e1 _ hp hb _ _ hS => ?_)
  obtain ⟨z1, z2, z3⟩ := hp
  rw [h0.1, h0.2, z3]
  rw [z1, z2, e1] at hb
  exact kk H1 locs1 ls hb hS d
theorem j_callS4Ig (C : Cx p s m args meth c g nL own cc ret) {idx maxL1 : Nat}   {y : MethodName} {cc1 : ByteArray} {ret1 : Option FieldType} {rm1 : Room} {a1 a2 a3 a4 : Value} {rest : List Value} {post : Int32 → WSh → WNm → Prop} {c1 s1 : Nat} (hl : MS own idx y cc1 maxL1 ret1 4) (hd : decode cc pc = .ok (.invokestatic idx, 3)) (hM : CT l g y cc1 maxL1 ret1 rm1 [a1, a2, a3, a4] sh N (QI g post))  (hR : rm1.frames + 1 ≤ R.frames ∧ 8 + (maxL1 + 11) + rm1.locals ≤ R.locals) (hcat : (rest.map fun v => v.category).sum ≤ 8) (h0 : cells + rm1.cells = c1 ∧ slots + rm1.slots = s1) (hf : c1 ≤ R.cells ∧ s1 ≤ R.slots) (kk : ∀ (r : Int32) (sh1 : WSh) (N1 : WNm), post r sh1 N1 → J p l e R s m args below meth c Q g nL sh1 N1 c1 s1 (pc + 3) lv (.int r :: rest)) : J p l e R s m args below meth c Q g nL sh N cells slots pc lv (a4 :: a3 :: a2 :: a1 :: rest) := by
  intro H locs ls a b d
  refine va_calli (run_S (As := [a1, a2, a3, a4]) (rest := rest) C hl hd hM rfl hR hcat (by rw [h0.1, h0.2]; exact hf) a b d.1 ) b (fun _ _ h => h) (fun _ h => h) (fun r u t H1 locs1 e1 _ hp hb _ _ hS => ?_)
  rw [h0.1, h0.2]
  rw [e1] at hb
  exact kk r u.1 u.2 hp H1 locs1 ls hb hS d
theorem j_callS4V (C : Cx p s m args meth c g nL own cc ret) {idx maxL1 : Nat}   {y : MethodName} {cc1 : ByteArray} {ret1 : Option FieldType} {rm1 : Room} {a1 a2 a3 a4 : Value} {rest : List Value} {F : WNm} (hl : MS own idx y cc1 maxL1 ret1 4) (hd : decode cc pc = .ok (.invokestatic idx, 3)) (hM : CT l g y cc1 maxL1 ret1 rm1 [a1, a2, a3, a4] sh N (QFv g sh F))  (hR : rm1.frames + 1 ≤ R.frames ∧ 8 + (maxL1 + 11) + rm1.locals ≤ R.locals) (hcat : (rest.map fun v => v.category).sum ≤ 8) (h0 : rm1.cells = 0 ∧ rm1.slots = 0) (hf : cells ≤ R.cells ∧ slots ≤ R.slots) (kk : J p l e R s m args below meth c Q g nL sh F cells slots (pc + 3) lv rest) : J p l e R s m args below meth c Q g nL sh N cells slots pc lv (a4 :: a3 :: a2 :: a1 :: rest) := by
  intro H locs ls a b d
  refine va_callv (run_S (As := [a1, a2, a3, a4]) (rest := rest) C hl hd hM rfl hR hcat (by rw [h0.1, h0.2]; exact hf) a b d.1 ) b (fun _ _ h => h) (fun _ h => h) (fun u t H1 locs1 e1 _ hp hb _ _ hS => ?_)
  obtain ⟨z1, z2⟩ := hp
  rw [h0.1, h0.2]
  rw [z1, z2, e1] at hb
  exact kk H1 locs1 ls hb hS d
theorem j_callS4Vg (C : Cx p s m args meth c g nL own cc ret) {idx maxL1 : Nat}   {y : MethodName} {cc1 : ByteArray} {ret1 : Option FieldType} {rm1 : Room} {a1 a2 a3 a4 : Value} {rest : List Value} {post : WSh → WNm → Prop} {c1 s1 : Nat} (hl : MS own idx y cc1 maxL1 ret1 4) (hd : decode cc pc = .ok (.invokestatic idx, 3)) (hM : CT l g y cc1 maxL1 ret1 rm1 [a1, a2, a3, a4] sh N (QV g post))  (hR : rm1.frames + 1 ≤ R.frames ∧ 8 + (maxL1 + 11) + rm1.locals ≤ R.locals) (hcat : (rest.map fun v => v.category).sum ≤ 8) (h0 : cells + rm1.cells = c1 ∧ slots + rm1.slots = s1) (hf : c1 ≤ R.cells ∧ s1 ≤ R.slots) (kk : ∀ (sh1 : WSh) (N1 : WNm), post sh1 N1 → J p l e R s m args below meth c Q g nL sh1 N1 c1 s1 (pc + 3) lv rest) : J p l e R s m args below meth c Q g nL sh N cells slots pc lv (a4 :: a3 :: a2 :: a1 :: rest) := by
  intro H locs ls a b d
  refine va_callv (run_S (As := [a1, a2, a3, a4]) (rest := rest) C hl hd hM rfl hR hcat (by rw [h0.1, h0.2]; exact hf) a b d.1 ) b (fun _ _ h => h) (fun _ h => h) (fun u t H1 locs1 e1 _ hp hb _ _ hS => ?_)
  rw [h0.1, h0.2]
  rw [e1] at hb
  exact kk u.1 u.2 hp H1 locs1 ls hb hS d
theorem j_callS5I (C : Cx p s m args meth c g nL own cc ret) {idx maxL1 : Nat}   {y : MethodName} {cc1 : ByteArray} {ret1 : Option FieldType} {rm1 : Room} {a1 a2 a3 a4 a5 : Value} {rest : List Value} {F : WNm} {f : Int32} (hl : MS own idx y cc1 maxL1 ret1 5) (hd : decode cc pc = .ok (.invokestatic idx, 3)) (hM : CT l g y cc1 maxL1 ret1 rm1 [a1, a2, a3, a4, a5] sh N (QF g sh F f))  (hR : rm1.frames + 1 ≤ R.frames ∧ 8 + (maxL1 + 11) + rm1.locals ≤ R.locals) (hcat : (rest.map fun v => v.category).sum ≤ 8) (h0 : rm1.cells = 0 ∧ rm1.slots = 0) (hf : cells ≤ R.cells ∧ slots ≤ R.slots) (kk : J p l e R s m args below meth c Q g nL sh F cells slots (pc + 3) lv (.int f :: rest)) : J p l e R s m args below meth c Q g nL sh N cells slots pc lv (a5 :: a4 :: a3 :: a2 :: a1 :: rest) := by
  intro H locs ls a b d
  refine va_calli (run_S (As := [a1, a2, a3, a4, a5]) (rest := rest) C hl hd hM rfl hR hcat (by rw [h0.1, h0.2]; exact hf) a b d.1 ) b (fun _ _ h => h) (fun _ h => h) (fun r u t H1 locs1 e1 _ hp hb _ _ hS => ?_)
  obtain ⟨z1, z2, z3⟩ := hp
  rw [h0.1, h0.2, z3]
  rw [z1, z2, e1] at hb
  exact kk H1 locs1 ls hb hS d
theorem j_callS5Ig (C : Cx p s m args meth c g nL own cc ret) {idx maxL1 : Nat}   {y : MethodName} {cc1 : ByteArray} {ret1 : Option FieldType} {rm1 : Room} {a1 a2 a3 a4 a5 : Value} {rest : List Value} {post : Int32 → WSh → WNm → Prop} {c1 s1 : Nat} (hl : MS own idx y cc1 maxL1 ret1 5) (hd : decode cc pc = .ok (.invokestatic idx, 3)) (hM : CT l g y cc1 maxL1 ret1 rm1 [a1, a2, a3, a4, a5] sh N (QI g post))  (hR : rm1.frames + 1 ≤ R.frames ∧ 8 + (maxL1 + 11) + rm1.locals ≤ R.locals) (hcat : (rest.map fun v => v.category).sum ≤ 8) (h0 : cells + rm1.cells = c1 ∧ slots + rm1.slots = s1) (hf : c1 ≤ R.cells ∧ s1 ≤ R.slots) (kk : ∀ (r : Int32) (sh1 : WSh) (N1 : WNm), post r sh1 N1 → J p l e R s m args below meth c Q g nL sh1 N1 c1 s1 (pc + 3) lv (.int r :: rest)) : J p l e R s m args below meth c Q g nL sh N cells slots pc lv (a5 :: a4 :: a3 :: a2 :: a1 :: rest) := by
  intro H locs ls a b d
  refine va_calli (run_S (As := [a1, a2, a3, a4, a5]) (rest := rest) C hl hd hM rfl hR hcat (by rw [h0.1, h0.2]; exact hf) a b d.1 ) b (fun _ _ h => h) (fun _ h => h) (fun r u t H1 locs1 e1 _ hp hb _ _ hS => ?_)
  rw [h0.1, h0.2]
  rw [e1] at hb
  exact kk r u.1 u.2 hp H1 locs1 ls hb hS d
theorem j_callS5V (C : Cx p s m args meth c g nL own cc ret) {idx maxL1 : Nat}   {y : MethodName} {cc1 : ByteArray} {ret1 : Option FieldType} {rm1 : Room} {a1 a2 a3 a4 a5 : Value} {rest : List Value} {F : WNm} (hl : MS own idx y cc1 maxL1 ret1 5) (hd : decode cc pc = .ok (.invokestatic idx, 3)) (hM : CT l g y cc1 maxL1 ret1 rm1 [a1, a2, a3, a4, a5] sh N (QFv g sh F))  (hR : rm1.frames + 1 ≤ R.frames ∧ 8 + (maxL1 + 11) + rm1.locals ≤ R.locals) (hcat : (rest.map fun v => v.category).sum ≤ 8) (h0 : rm1.cells = 0 ∧ rm1.slots = 0) (hf : cells ≤ R.cells ∧ slots ≤ R.slots) (kk : J p l e R s m args below meth c Q g nL sh F cells slots (pc + 3) lv rest) : J p l e R s m args below meth c Q g nL sh N cells slots pc lv (a5 :: a4 :: a3 :: a2 :: a1 :: rest) := by
  intro H locs ls a b d
  refine va_callv (run_S (As := [a1, a2, a3, a4, a5]) (rest := rest) C hl hd hM rfl hR hcat (by rw [h0.1, h0.2]; exact hf) a b d.1 ) b (fun _ _ h => h) (fun _ h => h) (fun u t H1 locs1 e1 _ hp hb _ _ hS => ?_)
  obtain ⟨z1, z2⟩ := hp
  rw [h0.1, h0.2]
  rw [z1, z2, e1] at hb
  exact kk H1 locs1 ls hb hS d
theorem j_callS5Vg (C : Cx p s m args meth c g nL own cc ret) {idx maxL1 : Nat}   {y : MethodName} {cc1 : ByteArray} {ret1 : Option FieldType} {rm1 : Room} {a1 a2 a3 a4 a5 : Value} {rest : List Value} {post : WSh → WNm → Prop} {c1 s1 : Nat} (hl : MS own idx y cc1 maxL1 ret1 5) (hd : decode cc pc = .ok (.invokestatic idx, 3)) (hM : CT l g y cc1 maxL1 ret1 rm1 [a1, a2, a3, a4, a5] sh N (QV g post))  (hR : rm1.frames + 1 ≤ R.frames ∧ 8 + (maxL1 + 11) + rm1.locals ≤ R.locals) (hcat : (rest.map fun v => v.category).sum ≤ 8) (h0 : cells + rm1.cells = c1 ∧ slots + rm1.slots = s1) (hf : c1 ≤ R.cells ∧ s1 ≤ R.slots) (kk : ∀ (sh1 : WSh) (N1 : WNm), post sh1 N1 → J p l e R s m args below meth c Q g nL sh1 N1 c1 s1 (pc + 3) lv rest) : J p l e R s m args below meth c Q g nL sh N cells slots pc lv (a5 :: a4 :: a3 :: a2 :: a1 :: rest) := by
  intro H locs ls a b d
  refine va_callv (run_S (As := [a1, a2, a3, a4, a5]) (rest := rest) C hl hd hM rfl hR hcat (by rw [h0.1, h0.2]; exact hf) a b d.1 ) b (fun _ _ h => h) (fun _ h => h) (fun u t H1 locs1 e1 _ hp hb _ _ hS => ?_)
  rw [h0.1, h0.2]
  rw [e1] at hb
  exact kk u.1 u.2 hp H1 locs1 ls hb hS d
theorem j_callI0V (C : Cx p s m args meth c g nL own cc ret) {idx maxL1 : Nat} {i : Nat}  {y : MethodName} {cc1 : ByteArray}  {rm1 : Room}  {rest : List Value} {F : WNm} (hl : MI own idx y cc1 maxL1 0) (hd : decode cc pc = .ok (.invokespecial idx, 3)) (hM : CT l g y cc1 maxL1 none rm1 (.ref (sh.2.2 i) :: []) sh N (QFv g sh F))  (hR : rm1.frames + 1 ≤ R.frames ∧ 8 + (maxL1 + 11) + rm1.locals ≤ R.locals) (hcat : (rest.map fun v => v.category).sum ≤ 8) (h0 : rm1.cells = 0 ∧ rm1.slots = 0) (hf : cells ≤ R.cells ∧ slots ≤ R.slots) (kk : J p l e R s m args below meth c Q g nL sh F cells slots (pc + 3) lv rest) : J p l e R s m args below meth c Q g nL sh N cells slots pc lv (.ref (sh.2.2 i) :: rest) := by
  intro H locs ls a b d
  refine va_callv (run_I (As := []) (rest := rest) C hl hd hM rfl hR hcat (by rw [h0.1, h0.2]; exact hf) a b d.1 ) b (fun _ _ h => h) (fun _ h => h) (fun u t H1 locs1 e1 _ hp hb _ _ hS => ?_)
  obtain ⟨z1, z2⟩ := hp
  rw [h0.1, h0.2]
  rw [z1, z2, e1] at hb
  exact kk H1 locs1 ls hb hS d
theorem j_callI0Vg (C : Cx p s m args meth c g nL own cc ret) {idx maxL1 : Nat} {i : Nat}  {y : MethodName} {cc1 : ByteArray}  {rm1 : Room}  {rest : List Value} {post : WSh → WNm → Prop} {c1 s1 : Nat} (hl : MI own idx y cc1 maxL1 0) (hd : decode cc pc = .ok (.invokespecial idx, 3)) (hM : CT l g y cc1 maxL1 none rm1 (.ref (sh.2.2 i) :: []) sh N (QV g post))  (hR : rm1.frames + 1 ≤ R.frames ∧ 8 + (maxL1 + 11) + rm1.locals ≤ R.locals) (hcat : (rest.map fun v => v.category).sum ≤ 8) (h0 : cells + rm1.cells = c1 ∧ slots + rm1.slots = s1) (hf : c1 ≤ R.cells ∧ s1 ≤ R.slots) (kk : ∀ (sh1 : WSh) (N1 : WNm), post sh1 N1 → J p l e R s m args below meth c Q g nL sh1 N1 c1 s1 (pc + 3) lv rest) : J p l e R s m args below meth c Q g nL sh N cells slots pc lv (.ref (sh.2.2 i) :: rest) := by
  intro H locs ls a b d
  refine va_callv (run_I (As := []) (rest := rest) C hl hd hM rfl hR hcat (by rw [h0.1, h0.2]; exact hf) a b d.1 ) b (fun _ _ h => h) (fun _ h => h) (fun u t H1 locs1 e1 _ hp hb _ _ hS => ?_)
  rw [h0.1, h0.2]
  rw [e1] at hb
  exact kk u.1 u.2 hp H1 locs1 ls hb hS d
theorem j_callI1V (C : Cx p s m args meth c g nL own cc ret) {idx maxL1 : Nat} {i : Nat}  {y : MethodName} {cc1 : ByteArray}  {rm1 : Room} {a1 : Value} {rest : List Value} {F : WNm} (hl : MI own idx y cc1 maxL1 1) (hd : decode cc pc = .ok (.invokespecial idx, 3)) (hM : CT l g y cc1 maxL1 none rm1 (.ref (sh.2.2 i) :: [a1]) sh N (QFv g sh F))  (hR : rm1.frames + 1 ≤ R.frames ∧ 8 + (maxL1 + 11) + rm1.locals ≤ R.locals) (hcat : (rest.map fun v => v.category).sum ≤ 8) (h0 : rm1.cells = 0 ∧ rm1.slots = 0) (hf : cells ≤ R.cells ∧ slots ≤ R.slots) (kk : J p l e R s m args below meth c Q g nL sh F cells slots (pc + 3) lv rest) : J p l e R s m args below meth c Q g nL sh N cells slots pc lv (a1 :: .ref (sh.2.2 i) :: rest) := by
  intro H locs ls a b d
  refine va_callv (run_I (As := [a1]) (rest := rest) C hl hd hM rfl hR hcat (by rw [h0.1, h0.2]; exact hf) a b d.1 ) b (fun _ _ h => h) (fun _ h => h) (fun u t H1 locs1 e1 _ hp hb _ _ hS => ?_)
  obtain ⟨z1, z2⟩ := hp
  rw [h0.1, h0.2]
  rw [z1, z2, e1] at hb
  exact kk H1 locs1 ls hb hS d
theorem j_callI1Vg (C : Cx p s m args meth c g nL own cc ret) {idx maxL1 : Nat} {i : Nat}  {y : MethodName} {cc1 : ByteArray}  {rm1 : Room} {a1 : Value} {rest : List Value} {post : WSh → WNm → Prop} {c1 s1 : Nat} (hl : MI own idx y cc1 maxL1 1) (hd : decode cc pc = .ok (.invokespecial idx, 3)) (hM : CT l g y cc1 maxL1 none rm1 (.ref (sh.2.2 i) :: [a1]) sh N (QV g post))  (hR : rm1.frames + 1 ≤ R.frames ∧ 8 + (maxL1 + 11) + rm1.locals ≤ R.locals) (hcat : (rest.map fun v => v.category).sum ≤ 8) (h0 : cells + rm1.cells = c1 ∧ slots + rm1.slots = s1) (hf : c1 ≤ R.cells ∧ s1 ≤ R.slots) (kk : ∀ (sh1 : WSh) (N1 : WNm), post sh1 N1 → J p l e R s m args below meth c Q g nL sh1 N1 c1 s1 (pc + 3) lv rest) : J p l e R s m args below meth c Q g nL sh N cells slots pc lv (a1 :: .ref (sh.2.2 i) :: rest) := by
  intro H locs ls a b d
  refine va_callv (run_I (As := [a1]) (rest := rest) C hl hd hM rfl hR hcat (by rw [h0.1, h0.2]; exact hf) a b d.1 ) b (fun _ _ h => h) (fun _ h => h) (fun u t H1 locs1 e1 _ hp hb _ _ hS => ?_)
  rw [h0.1, h0.2]
  rw [e1] at hb
  exact kk u.1 u.2 hp H1 locs1 ls hb hS d
theorem j_callI2V (C : Cx p s m args meth c g nL own cc ret) {idx maxL1 : Nat} {i : Nat}  {y : MethodName} {cc1 : ByteArray}  {rm1 : Room} {a1 a2 : Value} {rest : List Value} {F : WNm} (hl : MI own idx y cc1 maxL1 2) (hd : decode cc pc = .ok (.invokespecial idx, 3)) (hM : CT l g y cc1 maxL1 none rm1 (.ref (sh.2.2 i) :: [a1, a2]) sh N (QFv g sh F))  (hR : rm1.frames + 1 ≤ R.frames ∧ 8 + (maxL1 + 11) + rm1.locals ≤ R.locals) (hcat : (rest.map fun v => v.category).sum ≤ 8) (h0 : rm1.cells = 0 ∧ rm1.slots = 0) (hf : cells ≤ R.cells ∧ slots ≤ R.slots) (kk : J p l e R s m args below meth c Q g nL sh F cells slots (pc + 3) lv rest) : J p l e R s m args below meth c Q g nL sh N cells slots pc lv (a2 :: a1 :: .ref (sh.2.2 i) :: rest) := by
  intro H locs ls a b d
  refine va_callv (run_I (As := [a1, a2]) (rest := rest) C hl hd hM rfl hR hcat (by rw [h0.1, h0.2]; exact hf) a b d.1 ) b (fun _ _ h => h) (fun _ h => h) (fun u t H1 locs1 e1 _ hp hb _ _ hS => ?_)
  obtain ⟨z1, z2⟩ := hp
  rw [h0.1, h0.2]
  rw [z1, z2, e1] at hb
  exact kk H1 locs1 ls hb hS d
theorem j_callI2Vg (C : Cx p s m args meth c g nL own cc ret) {idx maxL1 : Nat} {i : Nat}  {y : MethodName} {cc1 : ByteArray}  {rm1 : Room} {a1 a2 : Value} {rest : List Value} {post : WSh → WNm → Prop} {c1 s1 : Nat} (hl : MI own idx y cc1 maxL1 2) (hd : decode cc pc = .ok (.invokespecial idx, 3)) (hM : CT l g y cc1 maxL1 none rm1 (.ref (sh.2.2 i) :: [a1, a2]) sh N (QV g post))  (hR : rm1.frames + 1 ≤ R.frames ∧ 8 + (maxL1 + 11) + rm1.locals ≤ R.locals) (hcat : (rest.map fun v => v.category).sum ≤ 8) (h0 : cells + rm1.cells = c1 ∧ slots + rm1.slots = s1) (hf : c1 ≤ R.cells ∧ s1 ≤ R.slots) (kk : ∀ (sh1 : WSh) (N1 : WNm), post sh1 N1 → J p l e R s m args below meth c Q g nL sh1 N1 c1 s1 (pc + 3) lv rest) : J p l e R s m args below meth c Q g nL sh N cells slots pc lv (a2 :: a1 :: .ref (sh.2.2 i) :: rest) := by
  intro H locs ls a b d
  refine va_callv (run_I (As := [a1, a2]) (rest := rest) C hl hd hM rfl hR hcat (by rw [h0.1, h0.2]; exact hf) a b d.1 ) b (fun _ _ h => h) (fun _ h => h) (fun u t H1 locs1 e1 _ hp hb _ _ hS => ?_)
  rw [h0.1, h0.2]
  rw [e1] at hb
  exact kk u.1 u.2 hp H1 locs1 ls hb hS d
theorem j_callI3V (C : Cx p s m args meth c g nL own cc ret) {idx maxL1 : Nat} {i : Nat}  {y : MethodName} {cc1 : ByteArray}  {rm1 : Room} {a1 a2 a3 : Value} {rest : List Value} {F : WNm} (hl : MI own idx y cc1 maxL1 3) (hd : decode cc pc = .ok (.invokespecial idx, 3)) (hM : CT l g y cc1 maxL1 none rm1 (.ref (sh.2.2 i) :: [a1, a2, a3]) sh N (QFv g sh F))  (hR : rm1.frames + 1 ≤ R.frames ∧ 8 + (maxL1 + 11) + rm1.locals ≤ R.locals) (hcat : (rest.map fun v => v.category).sum ≤ 8) (h0 : rm1.cells = 0 ∧ rm1.slots = 0) (hf : cells ≤ R.cells ∧ slots ≤ R.slots) (kk : J p l e R s m args below meth c Q g nL sh F cells slots (pc + 3) lv rest) : J p l e R s m args below meth c Q g nL sh N cells slots pc lv (a3 :: a2 :: a1 :: .ref (sh.2.2 i) :: rest) := by
  intro H locs ls a b d
  refine va_callv (run_I (As := [a1, a2, a3]) (rest := rest) C hl hd hM rfl hR hcat (by rw [h0.1, h0.2]; exact hf) a b d.1 ) b (fun _ _ h => h) (fun _ h => h) (fun u t H1 locs1 e1 _ hp hb _ _ hS => ?_)
  obtain ⟨z1, z2⟩ := hp
  rw [h0.1, h0.2]
  rw [z1, z2, e1] at hb
  exact kk H1 locs1 ls hb hS d
theorem j_callI3Vg (C : Cx p s m args meth c g nL own cc ret) {idx maxL1 : Nat} {i : Nat}  {y : MethodName} {cc1 : ByteArray}  {rm1 : Room} {a1 a2 a3 : Value} {rest : List Value} {post : WSh → WNm → Prop} {c1 s1 : Nat} (hl : MI own idx y cc1 maxL1 3) (hd : decode cc pc = .ok (.invokespecial idx, 3)) (hM : CT l g y cc1 maxL1 none rm1 (.ref (sh.2.2 i) :: [a1, a2, a3]) sh N (QV g post))  (hR : rm1.frames + 1 ≤ R.frames ∧ 8 + (maxL1 + 11) + rm1.locals ≤ R.locals) (hcat : (rest.map fun v => v.category).sum ≤ 8) (h0 : cells + rm1.cells = c1 ∧ slots + rm1.slots = s1) (hf : c1 ≤ R.cells ∧ s1 ≤ R.slots) (kk : ∀ (sh1 : WSh) (N1 : WNm), post sh1 N1 → J p l e R s m args below meth c Q g nL sh1 N1 c1 s1 (pc + 3) lv rest) : J p l e R s m args below meth c Q g nL sh N cells slots pc lv (a3 :: a2 :: a1 :: .ref (sh.2.2 i) :: rest) := by
  intro H locs ls a b d
  refine va_callv (run_I (As := [a1, a2, a3]) (rest := rest) C hl hd hM rfl hR hcat (by rw [h0.1, h0.2]; exact hf) a b d.1 ) b (fun _ _ h => h) (fun _ h => h) (fun u t H1 locs1 e1 _ hp hb _ _ hS => ?_)
  rw [h0.1, h0.2]
  rw [e1] at hb
  exact kk u.1 u.2 hp H1 locs1 ls hb hS d
theorem j_callI4V (C : Cx p s m args meth c g nL own cc ret) {idx maxL1 : Nat} {i : Nat}  {y : MethodName} {cc1 : ByteArray}  {rm1 : Room} {a1 a2 a3 a4 : Value} {rest : List Value} {F : WNm} (hl : MI own idx y cc1 maxL1 4) (hd : decode cc pc = .ok (.invokespecial idx, 3)) (hM : CT l g y cc1 maxL1 none rm1 (.ref (sh.2.2 i) :: [a1, a2, a3, a4]) sh N (QFv g sh F))  (hR : rm1.frames + 1 ≤ R.frames ∧ 8 + (maxL1 + 11) + rm1.locals ≤ R.locals) (hcat : (rest.map fun v => v.category).sum ≤ 8) (h0 : rm1.cells = 0 ∧ rm1.slots = 0) (hf : cells ≤ R.cells ∧ slots ≤ R.slots) (kk : J p l e R s m args below meth c Q g nL sh F cells slots (pc + 3) lv rest) : J p l e R s m args below meth c Q g nL sh N cells slots pc lv (a4 :: a3 :: a2 :: a1 :: .ref (sh.2.2 i) :: rest) := by
  intro H locs ls a b d
  refine va_callv (run_I (As := [a1, a2, a3, a4]) (rest := rest) C hl hd hM rfl hR hcat (by rw [h0.1, h0.2]; exact hf) a b d.1 ) b (fun _ _ h => h) (fun _ h => h) (fun u t H1 locs1 e1 _ hp hb _ _ hS => ?_)
  obtain ⟨z1, z2⟩ := hp
  rw [h0.1, h0.2]
  rw [z1, z2, e1] at hb
  exact kk H1 locs1 ls hb hS d
theorem j_callI4Vg (C : Cx p s m args meth c g nL own cc ret) {idx maxL1 : Nat} {i : Nat}  {y : MethodName} {cc1 : ByteArray}  {rm1 : Room} {a1 a2 a3 a4 : Value} {rest : List Value} {post : WSh → WNm → Prop} {c1 s1 : Nat} (hl : MI own idx y cc1 maxL1 4) (hd : decode cc pc = .ok (.invokespecial idx, 3)) (hM : CT l g y cc1 maxL1 none rm1 (.ref (sh.2.2 i) :: [a1, a2, a3, a4]) sh N (QV g post))  (hR : rm1.frames + 1 ≤ R.frames ∧ 8 + (maxL1 + 11) + rm1.locals ≤ R.locals) (hcat : (rest.map fun v => v.category).sum ≤ 8) (h0 : cells + rm1.cells = c1 ∧ slots + rm1.slots = s1) (hf : c1 ≤ R.cells ∧ s1 ≤ R.slots) (kk : ∀ (sh1 : WSh) (N1 : WNm), post sh1 N1 → J p l e R s m args below meth c Q g nL sh1 N1 c1 s1 (pc + 3) lv rest) : J p l e R s m args below meth c Q g nL sh N cells slots pc lv (a4 :: a3 :: a2 :: a1 :: .ref (sh.2.2 i) :: rest) := by
  intro H locs ls a b d
  refine va_callv (run_I (As := [a1, a2, a3, a4]) (rest := rest) C hl hd hM rfl hR hcat (by rw [h0.1, h0.2]; exact hf) a b d.1 ) b (fun _ _ h => h) (fun _ h => h) (fun u t H1 locs1 e1 _ hp hb _ _ hS => ?_)
  rw [h0.1, h0.2]
  rw [e1] at hb
  exact kk u.1 u.2 hp H1 locs1 ls hb hS d
theorem j_callI5V (C : Cx p s m args meth c g nL own cc ret) {idx maxL1 : Nat} {i : Nat}  {y : MethodName} {cc1 : ByteArray}  {rm1 : Room} {a1 a2 a3 a4 a5 : Value} {rest : List Value} {F : WNm} (hl : MI own idx y cc1 maxL1 5) (hd : decode cc pc = .ok (.invokespecial idx, 3)) (hM : CT l g y cc1 maxL1 none rm1 (.ref (sh.2.2 i) :: [a1, a2, a3, a4, a5]) sh N (QFv g sh F))  (hR : rm1.frames + 1 ≤ R.frames ∧ 8 + (maxL1 + 11) + rm1.locals ≤ R.locals) (hcat : (rest.map fun v => v.category).sum ≤ 8) (h0 : rm1.cells = 0 ∧ rm1.slots = 0) (hf : cells ≤ R.cells ∧ slots ≤ R.slots) (kk : J p l e R s m args below meth c Q g nL sh F cells slots (pc + 3) lv rest) : J p l e R s m args below meth c Q g nL sh N cells slots pc lv (a5 :: a4 :: a3 :: a2 :: a1 :: .ref (sh.2.2 i) :: rest) := by
  intro H locs ls a b d
  refine va_callv (run_I (As := [a1, a2, a3, a4, a5]) (rest := rest) C hl hd hM rfl hR hcat (by rw [h0.1, h0.2]; exact hf) a b d.1 ) b (fun _ _ h => h) (fun _ h => h) (fun u t H1 locs1 e1 _ hp hb _ _ hS => ?_)
  obtain ⟨z1, z2⟩ := hp
  rw [h0.1, h0.2]
  rw [z1, z2, e1] at hb
  exact kk H1 locs1 ls hb hS d
theorem j_callI5Vg (C : Cx p s m args meth c g nL own cc ret) {idx maxL1 : Nat} {i : Nat}  {y : MethodName} {cc1 : ByteArray}  {rm1 : Room} {a1 a2 a3 a4 a5 : Value} {rest : List Value} {post : WSh → WNm → Prop} {c1 s1 : Nat} (hl : MI own idx y cc1 maxL1 5) (hd : decode cc pc = .ok (.invokespecial idx, 3)) (hM : CT l g y cc1 maxL1 none rm1 (.ref (sh.2.2 i) :: [a1, a2, a3, a4, a5]) sh N (QV g post))  (hR : rm1.frames + 1 ≤ R.frames ∧ 8 + (maxL1 + 11) + rm1.locals ≤ R.locals) (hcat : (rest.map fun v => v.category).sum ≤ 8) (h0 : cells + rm1.cells = c1 ∧ slots + rm1.slots = s1) (hf : c1 ≤ R.cells ∧ s1 ≤ R.slots) (kk : ∀ (sh1 : WSh) (N1 : WNm), post sh1 N1 → J p l e R s m args below meth c Q g nL sh1 N1 c1 s1 (pc + 3) lv rest) : J p l e R s m args below meth c Q g nL sh N cells slots pc lv (a5 :: a4 :: a3 :: a2 :: a1 :: .ref (sh.2.2 i) :: rest) := by
  intro H locs ls a b d
  refine va_callv (run_I (As := [a1, a2, a3, a4, a5]) (rest := rest) C hl hd hM rfl hR hcat (by rw [h0.1, h0.2]; exact hf) a b d.1 ) b (fun _ _ h => h) (fun _ h => h) (fun u t H1 locs1 e1 _ hp hb _ _ hS => ?_)
  rw [h0.1, h0.2]
  rw [e1] at hb
  exact kk u.1 u.2 hp H1 locs1 ls hb hS d
theorem j_callSN0I (C : Cx p s m args meth c g nL own cc ret) {idx maxL1 : Nat}  {host : String} {y : MethodName} {cc1 : ByteArray} {ret1 : Option FieldType} {rm1 : Room}  {rest : List Value} {F : WNm} {f : Int32} (hl : MSN host own idx y cc1 maxL1 ret1 0 g) (hd : decode cc pc = .ok (.invokestatic idx, 3)) (hM : CT l g y cc1 maxL1 ret1 rm1 [] sh N (QF g sh F f))  (hR : rm1.frames + 1 ≤ R.frames ∧ 8 + (maxL1 + 11) + rm1.locals ≤ R.locals) (hcat : (rest.map fun v => v.category).sum ≤ 8) (h0 : rm1.cells = 0 ∧ rm1.slots = 0) (hf : cells ≤ R.cells ∧ slots ≤ R.slots) (kk : J p l e R s m args below meth c Q g nL sh F cells slots (pc + 3) lv (.int f :: rest)) : J p l e R s m args below meth c Q g nL sh N cells slots pc lv (rest) := by
  intro H locs ls a b d
  refine va_calli (run_SN (As := []) (rest := rest) C hl hd hM rfl hR hcat (by rw [h0.1, h0.2]; exact hf) a b d.1 ) b (fun _ _ h => h) (fun _ h => h) (fun r u t H1 locs1 e1 _ hp hb _ _ hS => ?_)
  obtain ⟨z1, z2, z3⟩ := hp
  rw [h0.1, h0.2, z3]
  rw [z1, z2, e1] at hb
  exact kk H1 locs1 ls hb hS d
theorem j_callSN0Ig (C : Cx p s m args meth c g nL own cc ret) {idx maxL1 : Nat}  {host : String} {y : MethodName} {cc1 : ByteArray} {ret1 : Option FieldType} {rm1 : Room}  {rest : List Value} {post : Int32 → WSh → WNm → Prop} {c1 s1 : Nat} (hl : MSN host own idx y cc1 maxL1 ret1 0 g) (hd : decode cc pc = .ok (.invokestatic idx, 3)) (hM : CT l g y cc1 maxL1 ret1 rm1 [] sh N (QI g post))  (hR : rm1.frames + 1 ≤ R.frames ∧ 8 + (maxL1 + 11) + rm1.locals ≤ R.locals) (hcat : (rest.map fun v => v.category).sum ≤ 8) (h0 : cells + rm1.cells = c1 ∧ slots + rm1.slots = s1) (hf : c1 ≤ R.cells ∧ s1 ≤ R.slots) (kk : ∀ (r : Int32) (sh1 : WSh) (N1 : WNm), post r sh1 N1 → J p l e R s m args below meth c Q g nL sh1 N1 c1 s1 (pc + 3) lv (.int r :: rest)) : J p l e R s m args below meth c Q g nL sh N cells slots pc lv (rest) := by
  intro H locs ls a b d
  refine va_calli (run_SN (As := []) (rest := rest) C hl hd hM rfl hR hcat (by rw [h0.1, h0.2]; exact hf) a b d.1 ) b (fun _ _ h => h) (fun _ h => h) (fun r u t H1 locs1 e1 _ hp hb _ _ hS => ?_)
  rw [h0.1, h0.2]
  rw [e1] at hb
  exact kk r u.1 u.2 hp H1 locs1 ls hb hS d
theorem j_callSN0Rg (C : Cx p s m args meth c g nL own cc ret) {idx maxL1 : Nat}  {host : String} {y : MethodName} {cc1 : ByteArray} {ret1 : Option FieldType} {rm1 : Room}  {rest : List Value} {post : Option Nat → WSh → WNm → Prop} {c1 s1 : Nat} (hl : MSN host own idx y cc1 maxL1 ret1 0 g) (hd : decode cc pc = .ok (.invokestatic idx, 3)) (hM : CT l g y cc1 maxL1 ret1 rm1 [] sh N (QR g post))  (hR : rm1.frames + 1 ≤ R.frames ∧ 8 + (maxL1 + 11) + rm1.locals ≤ R.locals) (hcat : (rest.map fun v => v.category).sum ≤ 8) (h0 : cells + rm1.cells = c1 ∧ slots + rm1.slots = s1) (hf : c1 ≤ R.cells ∧ s1 ≤ R.slots) (kk : ∀ (o : Option Nat) (sh1 : WSh) (N1 : WNm), post o sh1 N1 → J p l e R s m args below meth c Q g nL sh1 N1 c1 s1 (pc + 3) lv (va_rf (o.map sh1.2.2) :: rest)) : J p l e R s m args below meth c Q g nL sh N cells slots pc lv (rest) := by
  intro H locs ls a b d
  refine va_callq (run_SN (As := []) (rest := rest) C hl hd hM rfl hR hcat (by rw [h0.1, h0.2]; exact hf) a b d.1 ) b (fun _ _ h => h) (fun _ h => h) (fun r u t H1 locs1 e1 _ hp hb _ _ hS => ?_)
  obtain ⟨o1, z1, z2⟩ := hp
  rw [h0.1, h0.2, z1]
  rw [e1] at hb
  exact kk o1 u.1 u.2 z2 H1 locs1 ls hb hS d
theorem j_callSN0V (C : Cx p s m args meth c g nL own cc ret) {idx maxL1 : Nat}  {host : String} {y : MethodName} {cc1 : ByteArray} {ret1 : Option FieldType} {rm1 : Room}  {rest : List Value} {F : WNm} (hl : MSN host own idx y cc1 maxL1 ret1 0 g) (hd : decode cc pc = .ok (.invokestatic idx, 3)) (hM : CT l g y cc1 maxL1 ret1 rm1 [] sh N (QFv g sh F))  (hR : rm1.frames + 1 ≤ R.frames ∧ 8 + (maxL1 + 11) + rm1.locals ≤ R.locals) (hcat : (rest.map fun v => v.category).sum ≤ 8) (h0 : rm1.cells = 0 ∧ rm1.slots = 0) (hf : cells ≤ R.cells ∧ slots ≤ R.slots) (kk : J p l e R s m args below meth c Q g nL sh F cells slots (pc + 3) lv rest) : J p l e R s m args below meth c Q g nL sh N cells slots pc lv (rest) := by
  intro H locs ls a b d
  refine va_callv (run_SN (As := []) (rest := rest) C hl hd hM rfl hR hcat (by rw [h0.1, h0.2]; exact hf) a b d.1 ) b (fun _ _ h => h) (fun _ h => h) (fun u t H1 locs1 e1 _ hp hb _ _ hS => ?_)
  obtain ⟨z1, z2⟩ := hp
  rw [h0.1, h0.2]
  rw [z1, z2, e1] at hb
  exact kk H1 locs1 ls hb hS d
theorem j_callSN0Vg (C : Cx p s m args meth c g nL own cc ret) {idx maxL1 : Nat}  {host : String} {y : MethodName} {cc1 : ByteArray} {ret1 : Option FieldType} {rm1 : Room}  {rest : List Value} {post : WSh → WNm → Prop} {c1 s1 : Nat} (hl : MSN host own idx y cc1 maxL1 ret1 0 g) (hd : decode cc pc = .ok (.invokestatic idx, 3)) (hM : CT l g y cc1 maxL1 ret1 rm1 [] sh N (QV g post))  (hR : rm1.frames + 1 ≤ R.frames ∧ 8 + (maxL1 + 11) + rm1.locals ≤ R.locals) (hcat : (rest.map fun v => v.category).sum ≤ 8) (h0 : cells + rm1.cells = c1 ∧ slots + rm1.slots = s1) (hf : c1 ≤ R.cells ∧ s1 ≤ R.slots) (kk : ∀ (sh1 : WSh) (N1 : WNm), post sh1 N1 → J p l e R s m args below meth c Q g nL sh1 N1 c1 s1 (pc + 3) lv rest) : J p l e R s m args below meth c Q g nL sh N cells slots pc lv (rest) := by
  intro H locs ls a b d
  refine va_callv (run_SN (As := []) (rest := rest) C hl hd hM rfl hR hcat (by rw [h0.1, h0.2]; exact hf) a b d.1 ) b (fun _ _ h => h) (fun _ h => h) (fun u t H1 locs1 e1 _ hp hb _ _ hS => ?_)
  rw [h0.1, h0.2]
  rw [e1] at hb
  exact kk u.1 u.2 hp H1 locs1 ls hb hS d
theorem j_callSN1I (C : Cx p s m args meth c g nL own cc ret) {idx maxL1 : Nat}  {host : String} {y : MethodName} {cc1 : ByteArray} {ret1 : Option FieldType} {rm1 : Room} {a1 : Value} {rest : List Value} {F : WNm} {f : Int32} (hl : MSN host own idx y cc1 maxL1 ret1 1 g) (hd : decode cc pc = .ok (.invokestatic idx, 3)) (hM : CT l g y cc1 maxL1 ret1 rm1 [a1] sh N (QF g sh F f))  (hR : rm1.frames + 1 ≤ R.frames ∧ 8 + (maxL1 + 11) + rm1.locals ≤ R.locals) (hcat : (rest.map fun v => v.category).sum ≤ 8) (h0 : rm1.cells = 0 ∧ rm1.slots = 0) (hf : cells ≤ R.cells ∧ slots ≤ R.slots) (kk : J p l e R s m args below meth c Q g nL sh F cells slots (pc + 3) lv (.int f :: rest)) : J p l e R s m args below meth c Q g nL sh N cells slots pc lv (a1 :: rest) := by
  intro H locs ls a b d
  refine va_calli (run_SN (As := [a1]) (rest := rest) C hl hd hM rfl hR hcat (by rw [h0.1, h0.2]; exact hf) a b d.1 ) b (fun _ _ h => h) (fun _ h => h) (fun r u t H1 locs1 e1 _ hp hb _ _ hS => ?_)
  obtain ⟨z1, z2, z3⟩ := hp
  rw [h0.1, h0.2, z3]
  rw [z1, z2, e1] at hb
  exact kk H1 locs1 ls hb hS d
theorem j_callSN1Ig (C : Cx p s m args meth c g nL own cc ret) {idx maxL1 : Nat}  {host : String} {y : MethodName} {cc1 : ByteArray} {ret1 : Option FieldType} {rm1 : Room} {a1 : Value} {rest : List Value} {post : Int32 → WSh → WNm → Prop} {c1 s1 : Nat} (hl : MSN host own idx y cc1 maxL1 ret1 1 g) (hd : decode cc pc = .ok (.invokestatic idx, 3)) (hM : CT l g y cc1 maxL1 ret1 rm1 [a1] sh N (QI g post))  (hR : rm1.frames + 1 ≤ R.frames ∧ 8 + (maxL1 + 11) + rm1.locals ≤ R.locals) (hcat : (rest.map fun v => v.category).sum ≤ 8) (h0 : cells + rm1.cells = c1 ∧ slots + rm1.slots = s1) (hf : c1 ≤ R.cells ∧ s1 ≤ R.slots) (kk : ∀ (r : Int32) (sh1 : WSh) (N1 : WNm), post r sh1 N1 → J p l e R s m args below meth c Q g nL sh1 N1 c1 s1 (pc + 3) lv (.int r :: rest)) : J p l e R s m args below meth c Q g nL sh N cells slots pc lv (a1 :: rest) := by
  intro H locs ls a b d
  refine va_calli (run_SN (As := [a1]) (rest := rest) C hl hd hM rfl hR hcat (by rw [h0.1, h0.2]; exact hf) a b d.1 ) b (fun _ _ h => h) (fun _ h => h) (fun r u t H1 locs1 e1 _ hp hb _ _ hS => ?_)
  rw [h0.1, h0.2]
  rw [e1] at hb
  exact kk r u.1 u.2 hp H1 locs1 ls hb hS d
theorem j_callSN1Rg (C : Cx p s m args meth c g nL own cc ret) {idx maxL1 : Nat}  {host : String} {y : MethodName} {cc1 : ByteArray} {ret1 : Option FieldType} {rm1 : Room} {a1 : Value} {rest : List Value} {post : Option Nat → WSh → WNm → Prop} {c1 s1 : Nat} (hl : MSN host own idx y cc1 maxL1 ret1 1 g) (hd : decode cc pc = .ok (.invokestatic idx, 3)) (hM : CT l g y cc1 maxL1 ret1 rm1 [a1] sh N (QR g post))  (hR : rm1.frames + 1 ≤ R.frames ∧ 8 + (maxL1 + 11) + rm1.locals ≤ R.locals) (hcat : (rest.map fun v => v.category).sum ≤ 8) (h0 : cells + rm1.cells = c1 ∧ slots + rm1.slots = s1) (hf : c1 ≤ R.cells ∧ s1 ≤ R.slots) (kk : ∀ (o : Option Nat) (sh1 : WSh) (N1 : WNm), post o sh1 N1 → J p l e R s m args below meth c Q g nL sh1 N1 c1 s1 (pc + 3) lv (va_rf (o.map sh1.2.2) :: rest)) : J p l e R s m args below meth c Q g nL sh N cells slots pc lv (a1 :: rest) := by
  intro H locs ls a b d
  refine va_callq (run_SN (As := [a1]) (rest := rest) C hl hd hM rfl hR hcat (by rw [h0.1, h0.2]; exact hf) a b d.1 ) b (fun _ _ h => h) (fun _ h => h) (fun r u t H1 locs1 e1 _ hp hb _ _ hS => ?_)
  obtain ⟨o1, z1, z2⟩ := hp
  rw [h0.1, h0.2, z1]
  rw [e1] at hb
  exact kk o1 u.1 u.2 z2 H1 locs1 ls hb hS d
theorem j_callSN1V (C : Cx p s m args meth c g nL own cc ret) {idx maxL1 : Nat}  {host : String} {y : MethodName} {cc1 : ByteArray} {ret1 : Option FieldType} {rm1 : Room} {a1 : Value} {rest : List Value} {F : WNm} (hl : MSN host own idx y cc1 maxL1 ret1 1 g) (hd : decode cc pc = .ok (.invokestatic idx, 3)) (hM : CT l g y cc1 maxL1 ret1 rm1 [a1] sh N (QFv g sh F))  (hR : rm1.frames + 1 ≤ R.frames ∧ 8 + (maxL1 + 11) + rm1.locals ≤ R.locals) (hcat : (rest.map fun v => v.category).sum ≤ 8) (h0 : rm1.cells = 0 ∧ rm1.slots = 0) (hf : cells ≤ R.cells ∧ slots ≤ R.slots) (kk : J p l e R s m args below meth c Q g nL sh F cells slots (pc + 3) lv rest) : J p l e R s m args below meth c Q g nL sh N cells slots pc lv (a1 :: rest) := by
  intro H locs ls a b d
  refine va_callv (run_SN (As := [a1]) (rest := rest) C hl hd hM rfl hR hcat (by rw [h0.1, h0.2]; exact hf) a b d.1 ) b (fun _ _ h => h) (fun _ h => h) (fun u t H1 locs1 e1 _ hp hb _ _ hS => ?_)
  obtain ⟨z1, z2⟩ := hp
  rw [h0.1, h0.2]
  rw [z1, z2, e1] at hb
  exact kk H1 locs1 ls hb hS d
theorem j_callSN1Vg (C : Cx p s m args meth c g nL own cc ret) {idx maxL1 : Nat}  {host : String} {y : MethodName} {cc1 : ByteArray} {ret1 : Option FieldType} {rm1 : Room} {a1 : Value} {rest : List Value} {post : WSh → WNm → Prop} {c1 s1 : Nat} (hl : MSN host own idx y cc1 maxL1 ret1 1 g) (hd : decode cc pc = .ok (.invokestatic idx, 3)) (hM : CT l g y cc1 maxL1 ret1 rm1 [a1] sh N (QV g post))  (hR : rm1.frames + 1 ≤ R.frames ∧ 8 + (maxL1 + 11) + rm1.locals ≤ R.locals) (hcat : (rest.map fun v => v.category).sum ≤ 8) (h0 : cells + rm1.cells = c1 ∧ slots + rm1.slots = s1) (hf : c1 ≤ R.cells ∧ s1 ≤ R.slots) (kk : ∀ (sh1 : WSh) (N1 : WNm), post sh1 N1 → J p l e R s m args below meth c Q g nL sh1 N1 c1 s1 (pc + 3) lv rest) : J p l e R s m args below meth c Q g nL sh N cells slots pc lv (a1 :: rest) := by
  intro H locs ls a b d
  refine va_callv (run_SN (As := [a1]) (rest := rest) C hl hd hM rfl hR hcat (by rw [h0.1, h0.2]; exact hf) a b d.1 ) b (fun _ _ h => h) (fun _ h => h) (fun u t H1 locs1 e1 _ hp hb _ _ hS => ?_)
  rw [h0.1, h0.2]
  rw [e1] at hb
  exact kk u.1 u.2 hp H1 locs1 ls hb hS d
theorem j_callSN2I (C : Cx p s m args meth c g nL own cc ret) {idx maxL1 : Nat}  {host : String} {y : MethodName} {cc1 : ByteArray} {ret1 : Option FieldType} {rm1 : Room} {a1 a2 : Value} {rest : List Value} {F : WNm} {f : Int32} (hl : MSN host own idx y cc1 maxL1 ret1 2 g) (hd : decode cc pc = .ok (.invokestatic idx, 3)) (hM : CT l g y cc1 maxL1 ret1 rm1 [a1, a2] sh N (QF g sh F f))  (hR : rm1.frames + 1 ≤ R.frames ∧ 8 + (maxL1 + 11) + rm1.locals ≤ R.locals) (hcat : (rest.map fun v => v.category).sum ≤ 8) (h0 : rm1.cells = 0 ∧ rm1.slots = 0) (hf : cells ≤ R.cells ∧ slots ≤ R.slots) (kk : J p l e R s m args below meth c Q g nL sh F cells slots (pc + 3) lv (.int f :: rest)) : J p l e R s m args below meth c Q g nL sh N cells slots pc lv (a2 :: a1 :: rest) := by
  intro H locs ls a b d
  refine va_calli (run_SN (As := [a1, a2]) (rest := rest) C hl hd hM rfl hR hcat (by rw [h0.1, h0.2]; exact hf) a b d.1 ) b (fun _ _ h => h) (fun _ h => h) (fun r u t H1 locs1 e1 _ hp hb _ _ hS => ?_)
  obtain ⟨z1, z2, z3⟩ := hp
  rw [h0.1, h0.2, z3]
  rw [z1, z2, e1] at hb
  exact kk H1 locs1 ls hb hS d
theorem j_callSN2Ig (C : Cx p s m args meth c g nL own cc ret) {idx maxL1 : Nat}  {host : String} {y : MethodName} {cc1 : ByteArray} {ret1 : Option FieldType} {rm1 : Room} {a1 a2 : Value} {rest : List Value} {post : Int32 → WSh → WNm → Prop} {c1 s1 : Nat} (hl : MSN host own idx y cc1 maxL1 ret1 2 g) (hd : decode cc pc = .ok (.invokestatic idx, 3)) (hM : CT l g y cc1 maxL1 ret1 rm1 [a1, a2] sh N (QI g post))  (hR : rm1.frames + 1 ≤ R.frames ∧ 8 + (maxL1 + 11) + rm1.locals ≤ R.locals) (hcat : (rest.map fun v => v.category).sum ≤ 8) (h0 : cells + rm1.cells = c1 ∧ slots + rm1.slots = s1) (hf : c1 ≤ R.cells ∧ s1 ≤ R.slots) (kk : ∀ (r : Int32) (sh1 : WSh) (N1 : WNm), post r sh1 N1 → J p l e R s m args below meth c Q g nL sh1 N1 c1 s1 (pc + 3) lv (.int r :: rest)) : J p l e R s m args below meth c Q g nL sh N cells slots pc lv (a2 :: a1 :: rest) := by
  intro H locs ls a b d
  refine va_calli (run_SN (As := [a1, a2]) (rest := rest) C hl hd hM rfl hR hcat (by rw [h0.1, h0.2]; exact hf) a b d.1 ) b (fun _ _ h => h) (fun _ h => h) (fun r u t H1 locs1 e1 _ hp hb _ _ hS => ?_)
  rw [h0.1, h0.2]
  rw [e1] at hb
  exact kk r u.1 u.2 hp H1 locs1 ls hb hS d
theorem j_callSN2Rg (C : Cx p s m args meth c g nL own cc ret) {idx maxL1 : Nat}  {host : String} {y : MethodName} {cc1 : ByteArray} {ret1 : Option FieldType} {rm1 : Room} {a1 a2 : Value} {rest : List Value} {post : Option Nat → WSh → WNm → Prop} {c1 s1 : Nat} (hl : MSN host own idx y cc1 maxL1 ret1 2 g) (hd : decode cc pc = .ok (.invokestatic idx, 3)) (hM : CT l g y cc1 maxL1 ret1 rm1 [a1, a2] sh N (QR g post))  (hR : rm1.frames + 1 ≤ R.frames ∧ 8 + (maxL1 + 11) + rm1.locals ≤ R.locals) (hcat : (rest.map fun v => v.category).sum ≤ 8) (h0 : cells + rm1.cells = c1 ∧ slots + rm1.slots = s1) (hf : c1 ≤ R.cells ∧ s1 ≤ R.slots) (kk : ∀ (o : Option Nat) (sh1 : WSh) (N1 : WNm), post o sh1 N1 → J p l e R s m args below meth c Q g nL sh1 N1 c1 s1 (pc + 3) lv (va_rf (o.map sh1.2.2) :: rest)) : J p l e R s m args below meth c Q g nL sh N cells slots pc lv (a2 :: a1 :: rest) := by
  intro H locs ls a b d
  refine va_callq (run_SN (As := [a1, a2]) (rest := rest) C hl hd hM rfl hR hcat (by rw [h0.1, h0.2]; exact hf) a b d.1 ) b (fun _ _ h => h) (fun _ h => h) (fun r u t H1 locs1 e1 _ hp hb _ _ hS => ?_)
  obtain ⟨o1, z1, z2⟩ := hp
  rw [h0.1, h0.2, z1]
  rw [e1] at hb
  exact kk o1 u.1 u.2 z2 H1 locs1 ls hb hS d
theorem j_callSN2V (C : Cx p s m args meth c g nL own cc ret) {idx maxL1 : Nat}  {host : String} {y : MethodName} {cc1 : ByteArray} {ret1 : Option FieldType} {rm1 : Room} {a1 a2 : Value} {rest : List Value} {F : WNm} (hl : MSN host own idx y cc1 maxL1 ret1 2 g) (hd : decode cc pc = .ok (.invokestatic idx, 3)) (hM : CT l g y cc1 maxL1 ret1 rm1 [a1, a2] sh N (QFv g sh F))  (hR : rm1.frames + 1 ≤ R.frames ∧ 8 + (maxL1 + 11) + rm1.locals ≤ R.locals) (hcat : (rest.map fun v => v.category).sum ≤ 8) (h0 : rm1.cells = 0 ∧ rm1.slots = 0) (hf : cells ≤ R.cells ∧ slots ≤ R.slots) (kk : J p l e R s m args below meth c Q g nL sh F cells slots (pc + 3) lv rest) : J p l e R s m args below meth c Q g nL sh N cells slots pc lv (a2 :: a1 :: rest) := by
  intro H locs ls a b d
  refine va_callv (run_SN (As := [a1, a2]) (rest := rest) C hl hd hM rfl hR hcat (by rw [h0.1, h0.2]; exact hf) a b d.1 ) b (fun _ _ h => h) (fun _ h => h) (fun u t H1 locs1 e1 _ hp hb _ _ hS => ?_)
  obtain ⟨z1, z2⟩ := hp
  rw [h0.1, h0.2]
  rw [z1, z2, e1] at hb
  exact kk H1 locs1 ls hb hS d
theorem j_callSN2Vg (C : Cx p s m args meth c g nL own cc ret) {idx maxL1 : Nat}  {host : String} {y : MethodName} {cc1 : ByteArray} {ret1 : Option FieldType} {rm1 : Room} {a1 a2 : Value} {rest : List Value} {post : WSh → WNm → Prop} {c1 s1 : Nat} (hl : MSN host own idx y cc1 maxL1 ret1 2 g) (hd : decode cc pc = .ok (.invokestatic idx, 3)) (hM : CT l g y cc1 maxL1 ret1 rm1 [a1, a2] sh N (QV g post))  (hR : rm1.frames + 1 ≤ R.frames ∧ 8 + (maxL1 + 11) + rm1.locals ≤ R.locals) (hcat : (rest.map fun v => v.category).sum ≤ 8) (h0 : cells + rm1.cells = c1 ∧ slots + rm1.slots = s1) (hf : c1 ≤ R.cells ∧ s1 ≤ R.slots) (kk : ∀ (sh1 : WSh) (N1 : WNm), post sh1 N1 → J p l e R s m args below meth c Q g nL sh1 N1 c1 s1 (pc + 3) lv rest) : J p l e R s m args below meth c Q g nL sh N cells slots pc lv (a2 :: a1 :: rest) := by
  intro H locs ls a b d
  refine va_callv (run_SN (As := [a1, a2]) (rest := rest) C hl hd hM rfl hR hcat (by rw [h0.1, h0.2]; exact hf) a b d.1 ) b (fun _ _ h => h) (fun _ h => h) (fun u t H1 locs1 e1 _ hp hb _ _ hS => ?_)
  rw [h0.1, h0.2]
  rw [e1] at hb
  exact kk u.1 u.2 hp H1 locs1 ls hb hS d
theorem j_callSN3I (C : Cx p s m args meth c g nL own cc ret) {idx maxL1 : Nat}  {host : String} {y : MethodName} {cc1 : ByteArray} {ret1 : Option FieldType} {rm1 : Room} {a1 a2 a3 : Value} {rest : List Value} {F : WNm} {f : Int32} (hl : MSN host own idx y cc1 maxL1 ret1 3 g) (hd : decode cc pc = .ok (.invokestatic idx, 3)) (hM : CT l g y cc1 maxL1 ret1 rm1 [a1, a2, a3] sh N (QF g sh F f))  (hR : rm1.frames + 1 ≤ R.frames ∧ 8 + (maxL1 + 11) + rm1.locals ≤ R.locals) (hcat : (rest.map fun v => v.category).sum ≤ 8) (h0 : rm1.cells = 0 ∧ rm1.slots = 0) (hf : cells ≤ R.cells ∧ slots ≤ R.slots) (kk : J p l e R s m args below meth c Q g nL sh F cells slots (pc + 3) lv (.int f :: rest)) : J p l e R s m args below meth c Q g nL sh N cells slots pc lv (a3 :: a2 :: a1 :: rest) := by
  intro H locs ls a b d
  refine va_calli (run_SN (As := [a1, a2, a3]) (rest := rest) C hl hd hM rfl hR hcat (by rw [h0.1, h0.2]; exact hf) a b d.1 ) b (fun _ _ h => h) (fun _ h => h) (fun r u t H1 locs1 e1 _ hp hb _ _ hS => ?_)
  obtain ⟨z1, z2, z3⟩ := hp
  rw [h0.1, h0.2, z3]
  rw [z1, z2, e1] at hb
  exact kk H1 locs1 ls hb hS d
theorem j_callSN3Ig (C : Cx p s m args meth c g nL own cc ret) {idx maxL1 : Nat}  {host : String} {y : MethodName} {cc1 : ByteArray} {ret1 : Option FieldType} {rm1 : Room} {a1 a2 a3 : Value} {rest : List Value} {post : Int32 → WSh → WNm → Prop} {c1 s1 : Nat} (hl : MSN host own idx y cc1 maxL1 ret1 3 g) (hd : decode cc pc = .ok (.invokestatic idx, 3)) (hM : CT l g y cc1 maxL1 ret1 rm1 [a1, a2, a3] sh N (QI g post))  (hR : rm1.frames + 1 ≤ R.frames ∧ 8 + (maxL1 + 11) + rm1.locals ≤ R.locals) (hcat : (rest.map fun v => v.category).sum ≤ 8) (h0 : cells + rm1.cells = c1 ∧ slots + rm1.slots = s1) (hf : c1 ≤ R.cells ∧ s1 ≤ R.slots) (kk : ∀ (r : Int32) (sh1 : WSh) (N1 : WNm), post r sh1 N1 → J p l e R s m args below meth c Q g nL sh1 N1 c1 s1 (pc + 3) lv (.int r :: rest)) : J p l e R s m args below meth c Q g nL sh N cells slots pc lv (a3 :: a2 :: a1 :: rest) := by
  intro H locs ls a b d
  refine va_calli (run_SN (As := [a1, a2, a3]) (rest := rest) C hl hd hM rfl hR hcat (by rw [h0.1, h0.2]; exact hf) a b d.1 ) b (fun _ _ h => h) (fun _ h => h) (fun r u t H1 locs1 e1 _ hp hb _ _ hS => ?_)
  rw [h0.1, h0.2]
  rw [e1] at hb
  exact kk r u.1 u.2 hp H1 locs1 ls hb hS d
theorem j_callSN3Rg (C : Cx p s m args meth c g nL own cc ret) {idx maxL1 : Nat}  {host : String} {y : MethodName} {cc1 : ByteArray} {ret1 : Option FieldType} {rm1 : Room} {a1 a2 a3 : Value} {rest : List Value} {post : Option Nat → WSh → WNm → Prop} {c1 s1 : Nat} (hl : MSN host own idx y cc1 maxL1 ret1 3 g) (hd : decode cc pc = .ok (.invokestatic idx, 3)) (hM : CT l g y cc1 maxL1 ret1 rm1 [a1, a2, a3] sh N (QR g post))  (hR : rm1.frames + 1 ≤ R.frames ∧ 8 + (maxL1 + 11) + rm1.locals ≤ R.locals) (hcat : (rest.map fun v => v.category).sum ≤ 8) (h0 : cells + rm1.cells = c1 ∧ slots + rm1.slots = s1) (hf : c1 ≤ R.cells ∧ s1 ≤ R.slots) (kk : ∀ (o : Option Nat) (sh1 : WSh) (N1 : WNm), post o sh1 N1 → J p l e R s m args below meth c Q g nL sh1 N1 c1 s1 (pc + 3) lv (va_rf (o.map sh1.2.2) :: rest)) : J p l e R s m args below meth c Q g nL sh N cells slots pc lv (a3 :: a2 :: a1 :: rest) := by
  intro H locs ls a b d
  refine va_callq (run_SN (As := [a1, a2, a3]) (rest := rest) C hl hd hM rfl hR hcat (by rw [h0.1, h0.2]; exact hf) a b d.1 ) b (fun _ _ h => h) (fun _ h => h) (fun r u t H1 locs1 e1 _ hp hb _ _ hS => ?_)
  obtain ⟨o1, z1, z2⟩ := hp
  rw [h0.1, h0.2, z1]
  rw [e1] at hb
  exact kk o1 u.1 u.2 z2 H1 locs1 ls hb hS d
theorem j_callSN3V (C : Cx p s m args meth c g nL own cc ret) {idx maxL1 : Nat}  {host : String} {y : MethodName} {cc1 : ByteArray} {ret1 : Option FieldType} {rm1 : Room} {a1 a2 a3 : Value} {rest : List Value} {F : WNm} (hl : MSN host own idx y cc1 maxL1 ret1 3 g) (hd : decode cc pc = .ok (.invokestatic idx, 3)) (hM : CT l g y cc1 maxL1 ret1 rm1 [a1, a2, a3] sh N (QFv g sh F))  (hR : rm1.frames + 1 ≤ R.frames ∧ 8 + (maxL1 + 11) + rm1.locals ≤ R.locals) (hcat : (rest.map fun v => v.category).sum ≤ 8) (h0 : rm1.cells = 0 ∧ rm1.slots = 0) (hf : cells ≤ R.cells ∧ slots ≤ R.slots) (kk : J p l e R s m args below meth c Q g nL sh F cells slots (pc + 3) lv rest) : J p l e R s m args below meth c Q g nL sh N cells slots pc lv (a3 :: a2 :: a1 :: rest) := by
  intro H locs ls a b d
  refine va_callv (run_SN (As := [a1, a2, a3]) (rest := rest) C hl hd hM rfl hR hcat (by rw [h0.1, h0.2]; exact hf) a b d.1 ) b (fun _ _ h => h) (fun _ h => h) (fun u t H1 locs1 e1 _ hp hb _ _ hS => ?_)
  obtain ⟨z1, z2⟩ := hp
  rw [h0.1, h0.2]
  rw [z1, z2, e1] at hb
  exact kk H1 locs1 ls hb hS d
theorem j_callSN3Vg (C : Cx p s m args meth c g nL own cc ret) {idx maxL1 : Nat}  {host : String} {y : MethodName} {cc1 : ByteArray} {ret1 : Option FieldType} {rm1 : Room} {a1 a2 a3 : Value} {rest : List Value} {post : WSh → WNm → Prop} {c1 s1 : Nat} (hl : MSN host own idx y cc1 maxL1 ret1 3 g) (hd : decode cc pc = .ok (.invokestatic idx, 3)) (hM : CT l g y cc1 maxL1 ret1 rm1 [a1, a2, a3] sh N (QV g post))  (hR : rm1.frames + 1 ≤ R.frames ∧ 8 + (maxL1 + 11) + rm1.locals ≤ R.locals) (hcat : (rest.map fun v => v.category).sum ≤ 8) (h0 : cells + rm1.cells = c1 ∧ slots + rm1.slots = s1) (hf : c1 ≤ R.cells ∧ s1 ≤ R.slots) (kk : ∀ (sh1 : WSh) (N1 : WNm), post sh1 N1 → J p l e R s m args below meth c Q g nL sh1 N1 c1 s1 (pc + 3) lv rest) : J p l e R s m args below meth c Q g nL sh N cells slots pc lv (a3 :: a2 :: a1 :: rest) := by
  intro H locs ls a b d
  refine va_callv (run_SN (As := [a1, a2, a3]) (rest := rest) C hl hd hM rfl hR hcat (by rw [h0.1, h0.2]; exact hf) a b d.1 ) b (fun _ _ h => h) (fun _ h => h) (fun u t H1 locs1 e1 _ hp hb _ _ hS => ?_)
  rw [h0.1, h0.2]
  rw [e1] at hb
  exact kk u.1 u.2 hp H1 locs1 ls hb hS d
theorem j_callSN4I (C : Cx p s m args meth c g nL own cc ret) {idx maxL1 : Nat}  {host : String} {y : MethodName} {cc1 : ByteArray} {ret1 : Option FieldType} {rm1 : Room} {a1 a2 a3 a4 : Value} {rest : List Value} {F : WNm} {f : Int32} (hl : MSN host own idx y cc1 maxL1 ret1 4 g) (hd : decode cc pc = .ok (.invokestatic idx, 3)) (hM : CT l g y cc1 maxL1 ret1 rm1 [a1, a2, a3, a4] sh N (QF g sh F f))  (hR : rm1.frames + 1 ≤ R.frames ∧ 8 + (maxL1 + 11) + rm1.locals ≤ R.locals) (hcat : (rest.map fun v => v.category).sum ≤ 8) (h0 : rm1.cells = 0 ∧ rm1.slots = 0) (hf : cells ≤ R.cells ∧ slots ≤ R.slots) (kk : J p l e R s m args below meth c Q g nL sh F cells slots (pc + 3) lv (.int f :: rest)) : J p l e R s m args below meth c Q g nL sh N cells slots pc lv (a4 :: a3 :: a2 :: a1 :: rest) := by
  intro H locs ls a b d
  refine va_calli (run_SN (As := [a1, a2, a3, a4]) (rest := rest) C hl hd hM rfl hR hcat (by rw [h0.1, h0.2]; exact hf) a b d.1 ) b (fun _ _ h => h) (fun _ h => h) (fun r u t H1 locs1 e1 _ hp hb _ _ hS => ?_)
  obtain ⟨z1, z2, z3⟩ := hp
  rw [h0.1, h0.2, z3]
  rw [z1, z2, e1] at hb
  exact kk H1 locs1 ls hb hS d
theorem j_callSN4Ig (C : Cx p s m args meth c g nL own cc ret) {idx maxL1 : Nat}  {host : String} {y : MethodName} {cc1 : ByteArray} {ret1 : Option FieldType} {rm1 : Room} {a1 a2 a3 a4 : Value} {rest : List Value} {post : Int32 → WSh → WNm → Prop} {c1 s1 : Nat} (hl : MSN host own idx y cc1 maxL1 ret1 4 g) (hd : decode cc pc = .ok (.invokestatic idx, 3)) (hM : CT l g y cc1 maxL1 ret1 rm1 [a1, a2, a3, a4] sh N (QI g post))  (hR : rm1.frames + 1 ≤ R.frames ∧ 8 + (maxL1 + 11) + rm1.locals ≤ R.locals) (hcat : (rest.map fun v => v.category).sum ≤ 8) (h0 : cells + rm1.cells = c1 ∧ slots + rm1.slots = s1) (hf : c1 ≤ R.cells ∧ s1 ≤ R.slots) (kk : ∀ (r : Int32) (sh1 : WSh) (N1 : WNm), post r sh1 N1 → J p l e R s m args below meth c Q g nL sh1 N1 c1 s1 (pc + 3) lv (.int r :: rest)) : J p l e R s m args below meth c Q g nL sh N cells slots pc lv (a4 :: a3 :: a2 :: a1 :: rest) := by
  intro H locs ls a b d
  refine va_calli (run_SN (As := [a1, a2, a3, a4]) (rest := rest) C hl hd hM rfl hR hcat (by rw [h0.1, h0.2]; exact hf) a b d.1 ) b (fun _ _ h => h) (fun _ h => h) (fun r u t H1 locs1 e1 _ hp hb _ _ hS => ?_)
  rw [h0.1, h0.2]
  rw [e1] at hb
  exact kk r u.1 u.2 hp H1 locs1 ls hb hS d
theorem j_callSN4V (C : Cx p s m args meth c g nL own cc ret) {idx maxL1 : Nat}  {host : String} {y : MethodName} {cc1 : ByteArray} {ret1 : Option FieldType} {rm1 : Room} {a1 a2 a3 a4 : Value} {rest : List Value} {F : WNm} (hl : MSN host own idx y cc1 maxL1 ret1 4 g) (hd : decode cc pc = .ok (.invokestatic idx, 3)) (hM : CT l g y cc1 maxL1 ret1 rm1 [a1, a2, a3, a4] sh N (QFv g sh F))  (hR : rm1.frames + 1 ≤ R.frames ∧ 8 + (maxL1 + 11) + rm1.locals ≤ R.locals) (hcat : (rest.map fun v => v.category).sum ≤ 8) (h0 : rm1.cells = 0 ∧ rm1.slots = 0) (hf : cells ≤ R.cells ∧ slots ≤ R.slots) (kk : J p l e R s m args below meth c Q g nL sh F cells slots (pc + 3) lv rest) : J p l e R s m args below meth c Q g nL sh N cells slots pc lv (a4 :: a3 :: a2 :: a1 :: rest) := by
  intro H locs ls a b d
  refine va_callv (run_SN (As := [a1, a2, a3, a4]) (rest := rest) C hl hd hM rfl hR hcat (by rw [h0.1, h0.2]; exact hf) a b d.1 ) b (fun _ _ h => h) (fun _ h => h) (fun u t H1 locs1 e1 _ hp hb _ _ hS => ?_)
  obtain ⟨z1, z2⟩ := hp
  rw [h0.1, h0.2]
  rw [z1, z2, e1] at hb
  exact kk H1 locs1 ls hb hS d
theorem j_callSN4Vg (C : Cx p s m args meth c g nL own cc ret) {idx maxL1 : Nat}  {host : String} {y : MethodName} {cc1 : ByteArray} {ret1 : Option FieldType} {rm1 : Room} {a1 a2 a3 a4 : Value} {rest : List Value} {post : WSh → WNm → Prop} {c1 s1 : Nat} (hl : MSN host own idx y cc1 maxL1 ret1 4 g) (hd : decode cc pc = .ok (.invokestatic idx, 3)) (hM : CT l g y cc1 maxL1 ret1 rm1 [a1, a2, a3, a4] sh N (QV g post))  (hR : rm1.frames + 1 ≤ R.frames ∧ 8 + (maxL1 + 11) + rm1.locals ≤ R.locals) (hcat : (rest.map fun v => v.category).sum ≤ 8) (h0 : cells + rm1.cells = c1 ∧ slots + rm1.slots = s1) (hf : c1 ≤ R.cells ∧ s1 ≤ R.slots) (kk : ∀ (sh1 : WSh) (N1 : WNm), post sh1 N1 → J p l e R s m args below meth c Q g nL sh1 N1 c1 s1 (pc + 3) lv rest) : J p l e R s m args below meth c Q g nL sh N cells slots pc lv (a4 :: a3 :: a2 :: a1 :: rest) := by
  intro H locs ls a b d
  refine va_callv (run_SN (As := [a1, a2, a3, a4]) (rest := rest) C hl hd hM rfl hR hcat (by rw [h0.1, h0.2]; exact hf) a b d.1 ) b (fun _ _ h => h) (fun _ h => h) (fun u t H1 locs1 e1 _ hp hb _ _ hS => ?_)
  rw [h0.1, h0.2]
  rw [e1] at hb
  exact kk u.1 u.2 hp H1 locs1 ls hb hS d
theorem j_callSN5I (C : Cx p s m args meth c g nL own cc ret) {idx maxL1 : Nat}  {host : String} {y : MethodName} {cc1 : ByteArray} {ret1 : Option FieldType} {rm1 : Room} {a1 a2 a3 a4 a5 : Value} {rest : List Value} {F : WNm} {f : Int32} (hl : MSN host own idx y cc1 maxL1 ret1 5 g) (hd : decode cc pc = .ok (.invokestatic idx, 3)) (hM : CT l g y cc1 maxL1 ret1 rm1 [a1, a2, a3, a4, a5] sh N (QF g sh F f))  (hR : rm1.frames + 1 ≤ R.frames ∧ 8 + (maxL1 + 11) + rm1.locals ≤ R.locals) (hcat : (rest.map fun v => v.category).sum ≤ 8) (h0 : rm1.cells = 0 ∧ rm1.slots = 0) (hf : cells ≤ R.cells ∧ slots ≤ R.slots) (kk : J p l e R s m args below meth c Q g nL sh F cells slots (pc + 3) lv (.int f :: rest)) : J p l e R s m args below meth c Q g nL sh N cells slots pc lv (a5 :: a4 :: a3 :: a2 :: a1 :: rest) := by
  intro H locs ls a b d
  refine va_calli (run_SN (As := [a1, a2, a3, a4, a5]) (rest := rest) C hl hd hM rfl hR hcat (by rw [h0.1, h0.2]; exact hf) a b d.1 ) b (fun _ _ h => h) (fun _ h => h) (fun r u t H1 locs1 e1 _ hp hb _ _ hS => ?_)
  obtain ⟨z1, z2, z3⟩ := hp
  rw [h0.1, h0.2, z3]
  rw [z1, z2, e1] at hb
  exact kk H1 locs1 ls hb hS d
theorem j_callSN5Ig (C : Cx p s m args meth c g nL own cc ret) {idx maxL1 : Nat}  {host : String} {y : MethodName} {cc1 : ByteArray} {ret1 : Option FieldType} {rm1 : Room} {a1 a2 a3 a4 a5 : Value} {rest : List Value} {post : Int32 → WSh → WNm → Prop} {c1 s1 : Nat} (hl : MSN host own idx y cc1 maxL1 ret1 5 g) (hd : decode cc pc = .ok (.invokestatic idx, 3)) (hM : CT l g y cc1 maxL1 ret1 rm1 [a1, a2, a3, a4, a5] sh N (QI g post))  (hR : rm1.frames + 1 ≤ R.frames ∧ 8 + (maxL1 + 11) + rm1.locals ≤ R.locals) (hcat : (rest.map fun v => v.category).sum ≤ 8) (h0 : cells + rm1.cells = c1 ∧ slots + rm1.slots = s1) (hf : c1 ≤ R.cells ∧ s1 ≤ R.slots) (kk : ∀ (r : Int32) (sh1 : WSh) (N1 : WNm), post r sh1 N1 → J p l e R s m args below meth c Q g nL sh1 N1 c1 s1 (pc + 3) lv (.int r :: rest)) : J p l e R s m args below meth c Q g nL sh N cells slots pc lv (a5 :: a4 :: a3 :: a2 :: a1 :: rest) := by
  intro H locs ls a b d
  refine va_calli (run_SN (As := [a1, a2, a3, a4, a5]) (rest := rest) C hl hd hM rfl hR hcat (by rw [h0.1, h0.2]; exact hf) a b d.1 ) b (fun _ _ h => h) (fun _ h => h) (fun r u t H1 locs1 e1 _ hp hb _ _ hS => ?_)
  rw [h0.1, h0.2]
  rw [e1] at hb
  exact kk r u.1 u.2 hp H1 locs1 ls hb hS d
theorem j_callSN5V (C : Cx p s m args meth c g nL own cc ret) {idx maxL1 : Nat}  {host : String} {y : MethodName} {cc1 : ByteArray} {ret1 : Option FieldType} {rm1 : Room} {a1 a2 a3 a4 a5 : Value} {rest : List Value} {F : WNm} (hl : MSN host own idx y cc1 maxL1 ret1 5 g) (hd : decode cc pc = .ok (.invokestatic idx, 3)) (hM : CT l g y cc1 maxL1 ret1 rm1 [a1, a2, a3, a4, a5] sh N (QFv g sh F))  (hR : rm1.frames + 1 ≤ R.frames ∧ 8 + (maxL1 + 11) + rm1.locals ≤ R.locals) (hcat : (rest.map fun v => v.category).sum ≤ 8) (h0 : rm1.cells = 0 ∧ rm1.slots = 0) (hf : cells ≤ R.cells ∧ slots ≤ R.slots) (kk : J p l e R s m args below meth c Q g nL sh F cells slots (pc + 3) lv rest) : J p l e R s m args below meth c Q g nL sh N cells slots pc lv (a5 :: a4 :: a3 :: a2 :: a1 :: rest) := by
  intro H locs ls a b d
  refine va_callv (run_SN (As := [a1, a2, a3, a4, a5]) (rest := rest) C hl hd hM rfl hR hcat (by rw [h0.1, h0.2]; exact hf) a b d.1 ) b (fun _ _ h => h) (fun _ h => h) (fun u t H1 locs1 e1 _ hp hb _ _ hS => ?_)
  obtain ⟨z1, z2⟩ := hp
  rw [h0.1, h0.2]
  rw [z1, z2, e1] at hb
  exact kk H1 locs1 ls hb hS d
theorem j_callSN5Vg (C : Cx p s m args meth c g nL own cc ret) {idx maxL1 : Nat}  {host : String} {y : MethodName} {cc1 : ByteArray} {ret1 : Option FieldType} {rm1 : Room} {a1 a2 a3 a4 a5 : Value} {rest : List Value} {post : WSh → WNm → Prop} {c1 s1 : Nat} (hl : MSN host own idx y cc1 maxL1 ret1 5 g) (hd : decode cc pc = .ok (.invokestatic idx, 3)) (hM : CT l g y cc1 maxL1 ret1 rm1 [a1, a2, a3, a4, a5] sh N (QV g post))  (hR : rm1.frames + 1 ≤ R.frames ∧ 8 + (maxL1 + 11) + rm1.locals ≤ R.locals) (hcat : (rest.map fun v => v.category).sum ≤ 8) (h0 : cells + rm1.cells = c1 ∧ slots + rm1.slots = s1) (hf : c1 ≤ R.cells ∧ s1 ≤ R.slots) (kk : ∀ (sh1 : WSh) (N1 : WNm), post sh1 N1 → J p l e R s m args below meth c Q g nL sh1 N1 c1 s1 (pc + 3) lv rest) : J p l e R s m args below meth c Q g nL sh N cells slots pc lv (a5 :: a4 :: a3 :: a2 :: a1 :: rest) := by
  intro H locs ls a b d
  refine va_callv (run_SN (As := [a1, a2, a3, a4, a5]) (rest := rest) C hl hd hM rfl hR hcat (by rw [h0.1, h0.2]; exact hf) a b d.1 ) b (fun _ _ h => h) (fun _ h => h) (fun u t H1 locs1 e1 _ hp hb _ _ hS => ?_)
  rw [h0.1, h0.2]
  rw [e1] at hb
  exact kk u.1 u.2 hp H1 locs1 ls hb hS d
theorem j_callIN0V (C : Cx p s m args meth c g nL own cc ret) {idx maxL1 : Nat} {i : Nat} {host : String} {y : MethodName} {cc1 : ByteArray}  {rm1 : Room}  {rest : List Value} {F : WNm} (hl : MIN host own idx y cc1 maxL1 0 g) (hd : decode cc pc = .ok (.invokespecial idx, 3)) (hM : CT l g y cc1 maxL1 none rm1 (.ref (sh.2.2 i) :: []) sh N (QFv g sh F))  (hR : rm1.frames + 1 ≤ R.frames ∧ 8 + (maxL1 + 11) + rm1.locals ≤ R.locals) (hcat : (rest.map fun v => v.category).sum ≤ 8) (h0 : rm1.cells = 0 ∧ rm1.slots = 0) (hf : cells ≤ R.cells ∧ slots ≤ R.slots) (kk : J p l e R s m args below meth c Q g nL sh F cells slots (pc + 3) lv rest) : J p l e R s m args below meth c Q g nL sh N cells slots pc lv (.ref (sh.2.2 i) :: rest) := by
  intro H locs ls a b d
  refine va_callv (run_IN (As := []) (rest := rest) C hl hd hM rfl hR hcat (by rw [h0.1, h0.2]; exact hf) a b d.1 ) b (fun _ _ h => h) (fun _ h => h) (fun u t H1 locs1 e1 _ hp hb _ _ hS => ?_)
  obtain ⟨z1, z2⟩ := hp
  rw [h0.1, h0.2]
  rw [z1, z2, e1] at hb
  exact kk H1 locs1 ls hb hS d
theorem j_callIN0Vg (C : Cx p s m args meth c g nL own cc ret) {idx maxL1 : Nat} {i : Nat} {host : String} {y : MethodName} {cc1 : ByteArray}  {rm1 : Room}  {rest : List Value} {post : WSh → WNm → Prop} {c1 s1 : Nat} (hl : MIN host own idx y cc1 maxL1 0 g) (hd : decode cc pc = .ok (.invokespecial idx, 3)) (hM : CT l g y cc1 maxL1 none rm1 (.ref (sh.2.2 i) :: []) sh N (QV g post))  (hR : rm1.frames + 1 ≤ R.frames ∧ 8 + (maxL1 + 11) + rm1.locals ≤ R.locals) (hcat : (rest.map fun v => v.category).sum ≤ 8) (h0 : cells + rm1.cells = c1 ∧ slots + rm1.slots = s1) (hf : c1 ≤ R.cells ∧ s1 ≤ R.slots) (kk : ∀ (sh1 : WSh) (N1 : WNm), post sh1 N1 → J p l e R s m args below meth c Q g nL sh1 N1 c1 s1 (pc + 3) lv rest) : J p l e R s m args below meth c Q g nL sh N cells slots pc lv (.ref (sh.2.2 i) :: rest) := by
  intro H locs ls a b d
  refine va_callv (run_IN (As := []) (rest := rest) C hl hd hM rfl hR hcat (by rw [h0.1, h0.2]; exact hf) a b d.1 ) b (fun _ _ h => h) (fun _ h => h) (fun u t H1 locs1 e1 _ hp hb _ _ hS => ?_)
  rw [h0.1, h0.2]
  rw [e1] at hb
  exact kk u.1 u.2 hp H1 locs1 ls hb hS d
theorem j_callIN1V (C : Cx p s m args meth c g nL own cc ret) {idx maxL1 : Nat} {i : Nat} {host : String} {y : MethodName} {cc1 : ByteArray}  {rm1 : Room} {a1 : Value} {rest : List Value} {F : WNm} (hl : MIN host own idx y cc1 maxL1 1 g) (hd : decode cc pc = .ok (.invokespecial idx, 3)) (hM : CT l g y cc1 maxL1 none rm1 (.ref (sh.2.2 i) :: [a1]) sh N (QFv g sh F))  (hR : rm1.frames + 1 ≤ R.frames ∧ 8 + (maxL1 + 11) + rm1.locals ≤ R.locals) (hcat : (rest.map fun v => v.category).sum ≤ 8) (h0 : rm1.cells = 0 ∧ rm1.slots = 0) (hf : cells ≤ R.cells ∧ slots ≤ R.slots) (kk : J p l e R s m args below meth c Q g nL sh F cells slots (pc + 3) lv rest) : J p l e R s m args below meth c Q g nL sh N cells slots pc lv (a1 :: .ref (sh.2.2 i) :: rest) := by
  intro H locs ls a b d
  refine va_callv (run_IN (As := [a1]) (rest := rest) C hl hd hM rfl hR hcat (by rw [h0.1, h0.2]; exact hf) a b d.1 ) b (fun _ _ h => h) (fun _ h => h) (fun u t H1 locs1 e1 _ hp hb _ _ hS => ?_)
  obtain ⟨z1, z2⟩ := hp
  rw [h0.1, h0.2]
  rw [z1, z2, e1] at hb
  exact kk H1 locs1 ls hb hS d
theorem j_callIN1Vg (C : Cx p s m args meth c g nL own cc ret) {idx maxL1 : Nat} {i : Nat} {host : String} {y : MethodName} {cc1 : ByteArray}  {rm1 : Room} {a1 : Value} {rest : List Value} {post : WSh → WNm → Prop} {c1 s1 : Nat} (hl : MIN host own idx y cc1 maxL1 1 g) (hd : decode cc pc = .ok (.invokespecial idx, 3)) (hM : CT l g y cc1 maxL1 none rm1 (.ref (sh.2.2 i) :: [a1]) sh N (QV g post))  (hR : rm1.frames + 1 ≤ R.frames ∧ 8 + (maxL1 + 11) + rm1.locals ≤ R.locals) (hcat : (rest.map fun v => v.category).sum ≤ 8) (h0 : cells + rm1.cells = c1 ∧ slots + rm1.slots = s1) (hf : c1 ≤ R.cells ∧ s1 ≤ R.slots) (kk : ∀ (sh1 : WSh) (N1 : WNm), post sh1 N1 → J p l e R s m args below meth c Q g nL sh1 N1 c1 s1 (pc + 3) lv rest) : J p l e R s m args below meth c Q g nL sh N cells slots pc lv (a1 :: .ref (sh.2.2 i) :: rest) := by
  intro H locs ls a b d
  refine va_callv (run_IN (As := [a1]) (rest := rest) C hl hd hM rfl hR hcat (by rw [h0.1, h0.2]; exact hf) a b d.1 ) b (fun _ _ h => h) (fun _ h => h) (fun u t H1 locs1 e1 _ hp hb _ _ hS => ?_)
  rw [h0.1, h0.2]
  rw [e1] at hb
  exact kk u.1 u.2 hp H1 locs1 ls hb hS d
theorem j_callIN2V (C : Cx p s m args meth c g nL own cc ret) {idx maxL1 : Nat} {i : Nat} {host : String} {y : MethodName} {cc1 : ByteArray}  {rm1 : Room} {a1 a2 : Value} {rest : List Value} {F : WNm} (hl : MIN host own idx y cc1 maxL1 2 g) (hd : decode cc pc = .ok (.invokespecial idx, 3)) (hM : CT l g y cc1 maxL1 none rm1 (.ref (sh.2.2 i) :: [a1, a2]) sh N (QFv g sh F))  (hR : rm1.frames + 1 ≤ R.frames ∧ 8 + (maxL1 + 11) + rm1.locals ≤ R.locals) (hcat : (rest.map fun v => v.category).sum ≤ 8) (h0 : rm1.cells = 0 ∧ rm1.slots = 0) (hf : cells ≤ R.cells ∧ slots ≤ R.slots) (kk : J p l e R s m args below meth c Q g nL sh F cells slots (pc + 3) lv rest) : J p l e R s m args below meth c Q g nL sh N cells slots pc lv (a2 :: a1 :: .ref (sh.2.2 i) :: rest) := by
  intro H locs ls a b d
  refine va_callv (run_IN (As := [a1, a2]) (rest := rest) C hl hd hM rfl hR hcat (by rw [h0.1, h0.2]; exact hf) a b d.1 ) b (fun _ _ h => h) (fun _ h => h) (fun u t H1 locs1 e1 _ hp hb _ _ hS => ?_)
  obtain ⟨z1, z2⟩ := hp
  rw [h0.1, h0.2]
  rw [z1, z2, e1] at hb
  exact kk H1 locs1 ls hb hS d
theorem j_callIN2Vg (C : Cx p s m args meth c g nL own cc ret) {idx maxL1 : Nat} {i : Nat} {host : String} {y : MethodName} {cc1 : ByteArray}  {rm1 : Room} {a1 a2 : Value} {rest : List Value} {post : WSh → WNm → Prop} {c1 s1 : Nat} (hl : MIN host own idx y cc1 maxL1 2 g) (hd : decode cc pc = .ok (.invokespecial idx, 3)) (hM : CT l g y cc1 maxL1 none rm1 (.ref (sh.2.2 i) :: [a1, a2]) sh N (QV g post))  (hR : rm1.frames + 1 ≤ R.frames ∧ 8 + (maxL1 + 11) + rm1.locals ≤ R.locals) (hcat : (rest.map fun v => v.category).sum ≤ 8) (h0 : cells + rm1.cells = c1 ∧ slots + rm1.slots = s1) (hf : c1 ≤ R.cells ∧ s1 ≤ R.slots) (kk : ∀ (sh1 : WSh) (N1 : WNm), post sh1 N1 → J p l e R s m args below meth c Q g nL sh1 N1 c1 s1 (pc + 3) lv rest) : J p l e R s m args below meth c Q g nL sh N cells slots pc lv (a2 :: a1 :: .ref (sh.2.2 i) :: rest) := by
  intro H locs ls a b d
  refine va_callv (run_IN (As := [a1, a2]) (rest := rest) C hl hd hM rfl hR hcat (by rw [h0.1, h0.2]; exact hf) a b d.1 ) b (fun _ _ h => h) (fun _ h => h) (fun u t H1 locs1 e1 _ hp hb _ _ hS => ?_)
  rw [h0.1, h0.2]
  rw [e1] at hb
  exact kk u.1 u.2 hp H1 locs1 ls hb hS d
theorem j_callIN3V (C : Cx p s m args meth c g nL own cc ret) {idx maxL1 : Nat} {i : Nat} {host : String} {y : MethodName} {cc1 : ByteArray}  {rm1 : Room} {a1 a2 a3 : Value} {rest : List Value} {F : WNm} (hl : MIN host own idx y cc1 maxL1 3 g) (hd : decode cc pc = .ok (.invokespecial idx, 3)) (hM : CT l g y cc1 maxL1 none rm1 (.ref (sh.2.2 i) :: [a1, a2, a3]) sh N (QFv g sh F))  (hR : rm1.frames + 1 ≤ R.frames ∧ 8 + (maxL1 + 11) + rm1.locals ≤ R.locals) (hcat : (rest.map fun v => v.category).sum ≤ 8) (h0 : rm1.cells = 0 ∧ rm1.slots = 0) (hf : cells ≤ R.cells ∧ slots ≤ R.slots) (kk : J p l e R s m args below meth c Q g nL sh F cells slots (pc + 3) lv rest) : J p l e R s m args below meth c Q g nL sh N cells slots pc lv (a3 :: a2 :: a1 :: .ref (sh.2.2 i) :: rest) := by
  intro H locs ls a b d
  refine va_callv (run_IN (As := [a1, a2, a3]) (rest := rest) C hl hd hM rfl hR hcat (by rw [h0.1, h0.2]; exact hf) a b d.1 ) b (fun _ _ h => h) (fun _ h => h) (fun u t H1 locs1 e1 _ hp hb _ _ hS => ?_)
  obtain ⟨z1, z2⟩ := hp
  rw [h0.1, h0.2]
  rw [z1, z2, e1] at hb
  exact kk H1 locs1 ls hb hS d
theorem j_callIN3Vg (C : Cx p s m args meth c g nL own cc ret) {idx maxL1 : Nat} {i : Nat} {host : String} {y : MethodName} {cc1 : ByteArray}  {rm1 : Room} {a1 a2 a3 : Value} {rest : List Value} {post : WSh → WNm → Prop} {c1 s1 : Nat} (hl : MIN host own idx y cc1 maxL1 3 g) (hd : decode cc pc = .ok (.invokespecial idx, 3)) (hM : CT l g y cc1 maxL1 none rm1 (.ref (sh.2.2 i) :: [a1, a2, a3]) sh N (QV g post))  (hR : rm1.frames + 1 ≤ R.frames ∧ 8 + (maxL1 + 11) + rm1.locals ≤ R.locals) (hcat : (rest.map fun v => v.category).sum ≤ 8) (h0 : cells + rm1.cells = c1 ∧ slots + rm1.slots = s1) (hf : c1 ≤ R.cells ∧ s1 ≤ R.slots) (kk : ∀ (sh1 : WSh) (N1 : WNm), post sh1 N1 → J p l e R s m args below meth c Q g nL sh1 N1 c1 s1 (pc + 3) lv rest) : J p l e R s m args below meth c Q g nL sh N cells slots pc lv (a3 :: a2 :: a1 :: .ref (sh.2.2 i) :: rest) := by
  intro H locs ls a b d
  refine va_callv (run_IN (As := [a1, a2, a3]) (rest := rest) C hl hd hM rfl hR hcat (by rw [h0.1, h0.2]; exact hf) a b d.1 ) b (fun _ _ h => h) (fun _ h => h) (fun u t H1 locs1 e1 _ hp hb _ _ hS => ?_)
  rw [h0.1, h0.2]
  rw [e1] at hb
  exact kk u.1 u.2 hp H1 locs1 ls hb hS d
theorem j_callIN4V (C : Cx p s m args meth c g nL own cc ret) {idx maxL1 : Nat} {i : Nat} {host : String} {y : MethodName} {cc1 : ByteArray}  {rm1 : Room} {a1 a2 a3 a4 : Value} {rest : List Value} {F : WNm} (hl : MIN host own idx y cc1 maxL1 4 g) (hd : decode cc pc = .ok (.invokespecial idx, 3)) (hM : CT l g y cc1 maxL1 none rm1 (.ref (sh.2.2 i) :: [a1, a2, a3, a4]) sh N (QFv g sh F))  (hR : rm1.frames + 1 ≤ R.frames ∧ 8 + (maxL1 + 11) + rm1.locals ≤ R.locals) (hcat : (rest.map fun v => v.category).sum ≤ 8) (h0 : rm1.cells = 0 ∧ rm1.slots = 0) (hf : cells ≤ R.cells ∧ slots ≤ R.slots) (kk : J p l e R s m args below meth c Q g nL sh F cells slots (pc + 3) lv rest) : J p l e R s m args below meth c Q g nL sh N cells slots pc lv (a4 :: a3 :: a2 :: a1 :: .ref (sh.2.2 i) :: rest) := by
  intro H locs ls a b d
  refine va_callv (run_IN (As := [a1, a2, a3, a4]) (rest := rest) C hl hd hM rfl hR hcat (by rw [h0.1, h0.2]; exact hf) a b d.1 ) b (fun _ _ h => h) (fun _ h => h) (fun u t H1 locs1 e1 _ hp hb _ _ hS => ?_)
  obtain ⟨z1, z2⟩ := hp
  rw [h0.1, h0.2]
  rw [z1, z2, e1] at hb
  exact kk H1 locs1 ls hb hS d
theorem j_callIN4Vg (C : Cx p s m args meth c g nL own cc ret) {idx maxL1 : Nat} {i : Nat} {host : String} {y : MethodName} {cc1 : ByteArray}  {rm1 : Room} {a1 a2 a3 a4 : Value} {rest : List Value} {post : WSh → WNm → Prop} {c1 s1 : Nat} (hl : MIN host own idx y cc1 maxL1 4 g) (hd : decode cc pc = .ok (.invokespecial idx, 3)) (hM : CT l g y cc1 maxL1 none rm1 (.ref (sh.2.2 i) :: [a1, a2, a3, a4]) sh N (QV g post))  (hR : rm1.frames + 1 ≤ R.frames ∧ 8 + (maxL1 + 11) + rm1.locals ≤ R.locals) (hcat : (rest.map fun v => v.category).sum ≤ 8) (h0 : cells + rm1.cells = c1 ∧ slots + rm1.slots = s1) (hf : c1 ≤ R.cells ∧ s1 ≤ R.slots) (kk : ∀ (sh1 : WSh) (N1 : WNm), post sh1 N1 → J p l e R s m args below meth c Q g nL sh1 N1 c1 s1 (pc + 3) lv rest) : J p l e R s m args below meth c Q g nL sh N cells slots pc lv (a4 :: a3 :: a2 :: a1 :: .ref (sh.2.2 i) :: rest) := by
  intro H locs ls a b d
  refine va_callv (run_IN (As := [a1, a2, a3, a4]) (rest := rest) C hl hd hM rfl hR hcat (by rw [h0.1, h0.2]; exact hf) a b d.1 ) b (fun _ _ h => h) (fun _ h => h) (fun u t H1 locs1 e1 _ hp hb _ _ hS => ?_)
  rw [h0.1, h0.2]
  rw [e1] at hb
  exact kk u.1 u.2 hp H1 locs1 ls hb hS d
theorem j_callIN5V (C : Cx p s m args meth c g nL own cc ret) {idx maxL1 : Nat} {i : Nat} {host : String} {y : MethodName} {cc1 : ByteArray}  {rm1 : Room} {a1 a2 a3 a4 a5 : Value} {rest : List Value} {F : WNm} (hl : MIN host own idx y cc1 maxL1 5 g) (hd : decode cc pc = .ok (.invokespecial idx, 3)) (hM : CT l g y cc1 maxL1 none rm1 (.ref (sh.2.2 i) :: [a1, a2, a3, a4, a5]) sh N (QFv g sh F))  (hR : rm1.frames + 1 ≤ R.frames ∧ 8 + (maxL1 + 11) + rm1.locals ≤ R.locals) (hcat : (rest.map fun v => v.category).sum ≤ 8) (h0 : rm1.cells = 0 ∧ rm1.slots = 0) (hf : cells ≤ R.cells ∧ slots ≤ R.slots) (kk : J p l e R s m args below meth c Q g nL sh F cells slots (pc + 3) lv rest) : J p l e R s m args below meth c Q g nL sh N cells slots pc lv (a5 :: a4 :: a3 :: a2 :: a1 :: .ref (sh.2.2 i) :: rest) := by
  intro H locs ls a b d
  refine va_callv (run_IN (As := [a1, a2, a3, a4, a5]) (rest := rest) C hl hd hM rfl hR hcat (by rw [h0.1, h0.2]; exact hf) a b d.1 ) b (fun _ _ h => h) (fun _ h => h) (fun u t H1 locs1 e1 _ hp hb _ _ hS => ?_)
  obtain ⟨z1, z2⟩ := hp
  rw [h0.1, h0.2]
  rw [z1, z2, e1] at hb
  exact kk H1 locs1 ls hb hS d
theorem j_callIN5Vg (C : Cx p s m args meth c g nL own cc ret) {idx maxL1 : Nat} {i : Nat} {host : String} {y : MethodName} {cc1 : ByteArray}  {rm1 : Room} {a1 a2 a3 a4 a5 : Value} {rest : List Value} {post : WSh → WNm → Prop} {c1 s1 : Nat} (hl : MIN host own idx y cc1 maxL1 5 g) (hd : decode cc pc = .ok (.invokespecial idx, 3)) (hM : CT l g y cc1 maxL1 none rm1 (.ref (sh.2.2 i) :: [a1, a2, a3, a4, a5]) sh N (QV g post))  (hR : rm1.frames + 1 ≤ R.frames ∧ 8 + (maxL1 + 11) + rm1.locals ≤ R.locals) (hcat : (rest.map fun v => v.category).sum ≤ 8) (h0 : cells + rm1.cells = c1 ∧ slots + rm1.slots = s1) (hf : c1 ≤ R.cells ∧ s1 ≤ R.slots) (kk : ∀ (sh1 : WSh) (N1 : WNm), post sh1 N1 → J p l e R s m args below meth c Q g nL sh1 N1 c1 s1 (pc + 3) lv rest) : J p l e R s m args below meth c Q g nL sh N cells slots pc lv (a5 :: a4 :: a3 :: a2 :: a1 :: .ref (sh.2.2 i) :: rest) := by
  intro H locs ls a b d
  refine va_callv (run_IN (As := [a1, a2, a3, a4, a5]) (rest := rest) C hl hd hM rfl hR hcat (by rw [h0.1, h0.2]; exact hf) a b d.1 ) b (fun _ _ h => h) (fun _ h => h) (fun u t H1 locs1 e1 _ hp hb _ _ hS => ?_)
  rw [h0.1, h0.2]
  rw [e1] at hb
  exact kk u.1 u.2 hp H1 locs1 ls hb hS d
end Calls
