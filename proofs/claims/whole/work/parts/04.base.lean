/-! ===== generic rows over the kit: one list of words, one form of contract ===== -/
/-- the tables' words that every state of the run keeps -/
def kG : List Cond := lw_tbl.filter goodWord
theorem kG_in {w : Cond} (h : w ∈ lw_tbl) (g : goodWord w = true) : w ∈ kG := List.mem_filter.mpr ⟨h, g⟩
theorem kG_tbl {w : Cond} (h : w ∈ kG) : w ∈ lw_tbl := (List.mem_filter.mp h).1
theorem kG_good {w : Cond} (h : w ∈ kG) : goodWord w = true := (List.mem_filter.mp h).2
theorem kG_at {w : Cond} (i : Nat) (h : lw_tbl[i]? = some w) (g : goodWord w = true) : w ∈ kG := kG_in (List.mem_of_getElem? h) g
theorem gG {c c' : Cond} (h : c' ∈ kG) : GoodIn (c :: kG) (c' :: kG) := fun w hw => (List.mem_cons.mp hw).elim (fun e => by subst e; exact ⟨List.mem_cons_of_mem _ h, good_of_word (kG_good h)⟩) (fun hw => ⟨List.mem_cons_of_mem _ hw, good_of_word (kG_good hw)⟩)
theorem gGL {c' : Cond} (h : c' ∈ kG) : GoodIn lw_tbl (c' :: kG) := fun w hw => (List.mem_cons.mp hw).elim (fun e => by subst e; exact ⟨kG_tbl h, good_of_word (kG_good h)⟩) (fun hw => ⟨kG_tbl hw, good_of_word (kG_good hw)⟩)
/-- the words on private members of nest mates -/
def kNest (w : Cond) : Bool := match w with
  | .methodLinkNest _ _ _ _ => true
  | _ => false
def kN : List Cond := lw_tbl.filter kNest
theorem kN_at {w : Cond} (i : Nat) (h : lw_tbl[i]? = some w) (g : kNest w = true) : w ∈ kN := List.mem_filter.mpr ⟨List.mem_of_getElem? h, g⟩
def dm_N (U : State) : Prop := ∀ w ∈ kN, va_Nw w U
theorem dm_N.same {u U : State} (h : u.vm = U.vm) (hN : dm_N u) : dm_N U := by
  intro w hw
  have h1 := (List.mem_filter.mp hw).2
  cases w with
  | methodLinkNest a i x hh => exact va_Nw.same rfl h (hN _ hw)
  | _ => cases h1
theorem dm_N.warm {s U : State} (hW : s.WarmedH U.vm) (hN : dm_N s) : dm_N U := by
  intro w hw
  have h1 := (List.mem_filter.mp hw).2
  cases w with
  | methodLinkNest a i x hh => exact va_Nw.warmM hW (hN _ hw)
  | _ => cases h1
theorem dm_N.of {s : State} {args : Array Value} (h : ∀ w ∈ lw_tbl, w.before args s = true) : dm_N s := by
  intro w hw
  have h1 := List.mem_filter.mp hw
  cases w with
  | methodLinkNest a i x hh => exact va_Nw.of rfl (h _ h1.1)
  | _ => cases h1.2
/-- a method's room, by the depth of its calls -/
def rmd (d : Nat) : Room := { frames := d, cells := 0, slots := 0, locals := 40 * d }
/-- the array classes of the worlds -/
abbrev TY (cB cI cC : ClassId) : List (ClassId × FieldType) := [(cB, .byte), (cI, .int), (cC, .char)]
def dm_Pre (D : va_G) (tys : List (ClassId × FieldType)) (wc : va_W) (sz : Nat) (U : State) : Prop := U.heap.size = sz ∧ va_P D vwCl wc U.heap ∧ va_K D vwCl tys U ∧ va_D (fun _ => True) wc ∧ dm_N U
def dm_B {S : Type} (D : va_G) (tys : List (ClassId × FieldType)) (w1 : S → va_W) (A : Nat → Prop) (u : S) (t : State) : Prop := va_P D vwCl (w1 u) t.heap ∧ va_K D vwCl tys t ∧ va_D A (w1 u)
/-- contracts: an int (a boolean), a long, nothing comes back; the cells wc become w1 u -/
def MI (l : Launch) (y : MethodName) (cw : Cond) (d : Nat) (D : va_G) (tys : List (ClassId × FieldType)) (av : List Value) (wc : va_W) {S : Type} (post : Int32 → S → Prop) (w1 : S → va_W) : Prop :=
  ∀ sz, Met l y (cw :: kG) (rmd d) (va_Pc av (dm_Pre D tys wc sz)) (va_Qi post (dm_B D tys w1 (va_A wc sz)) (va_A wc sz)) 0 0 (va_A wc sz)
def ML (l : Launch) (y : MethodName) (cw : Cond) (d : Nat) (D : va_G) (tys : List (ClassId × FieldType)) (av : List Value) (wc : va_W) {S : Type} (post : Int64 → S → Prop) (w1 : S → va_W) : Prop :=
  ∀ sz, Met l y (cw :: kG) (rmd d) (va_Pc av (dm_Pre D tys wc sz)) (va_Ql post (dm_B D tys w1 (va_A wc sz)) (va_A wc sz)) 0 0 (va_A wc sz)
def MV (l : Launch) (y : MethodName) (cw : Cond) (d : Nat) (D : va_G) (tys : List (ClassId × FieldType)) (av : List Value) (wc : va_W) {S : Type} (post : S → Prop) (w1 : S → va_W) : Prop :=
  ∀ sz, Met l y (cw :: kG) (rmd d) (va_Pc av (dm_Pre D tys wc sz)) (va_Qv post (dm_B D tys w1 (va_A wc sz)) (va_A wc sz)) 0 0 (va_A wc sz)
/-- contracts of methods that change nothing -/
def ROi (l : Launch) (y : MethodName) (cw : Cond) (d : Nat) (D : va_G) (tys : List (ClassId × FieldType)) (av : List Value) (wc : va_W) (post : Int32 → Prop) : Prop :=
  ∀ sz, Met l y (cw :: kG) (rmd d) (va_Pc av (dm_Pre D tys wc sz)) (vp_Si post) 0 0 (fun _ => False)
def ROl (l : Launch) (y : MethodName) (cw : Cond) (d : Nat) (D : va_G) (tys : List (ClassId × FieldType)) (av : List Value) (wc : va_W) (post : Int64 → Prop) : Prop :=
  ∀ sz, Met l y (cw :: kG) (rmd d) (va_Pc av (dm_Pre D tys wc sz)) (vp_Sl post) 0 0 (fun _ => False)
theorem dm_blind {D : va_G} {tys : List (ClassId × FieldType)} {av : List Value} {wc : va_W} {sz : Nat} : FrameBlind (va_Pc av (dm_Pre D tys wc sz)) := fun a U g mk q => by
  obtain ⟨q0, q1, qP, qK, qD, qN⟩ := q
  exact ⟨q0, q1, qP, va_K.moved (u := U) (U := U.calling g mk a) (Vm.Alike.refl U.vm) qK, qD, dm_N.same (u := U) (U := U.calling g mk a) rfl qN⟩
theorem dm_preU {D : va_G} {tys : List (ClassId × FieldType)} {av : List Value} {ws wc : va_W} {s : State} {H : Heap} {A : Nat → Prop} (hK : va_K D vwCl tys s) (hP : va_P D vwCl ws H) (hD : va_D A ws) (hN : dm_N s) (isC : List Nat) (hn : va_nd isC = true) (hC : isC.map (fun i => ws[i]?) = wc.map some) :
    ∀ U : State, U.heap = H → s.WarmedH U.vm → va_Pc av (dm_Pre D tys wc H.size) av.toArray U := by
  intro U hU hW
  have hD' := hD.sub isC hn hC
  have hP' : va_P D vwCl wc H := by
    intro k q hq
    have h1 : (isC.map (fun i => ws[i]?))[k]? = some (some q) := by rw [hC, List.getElem?_map, hq]; rfl
    rw [List.getElem?_map] at h1
    cases hi : isC[k]? with
    | none => rw [hi] at h1; cases h1
    | some i => rw [hi] at h1; exact hP i q (Option.some.inj h1)
  exact ⟨rfl, by rw [hU], by rw [hU]; exact hP', va_K.moved hW.alike hK, hD'.weaken (fun _ _ _ _ => trivial), dm_N.warm hW hN⟩
/-- what stands at a method's body -/
def dm_C (p : Program) (s : State) (m : MethodId) (args : Array Value) (meth : Method) (c : Code) (cc : ByteArray) (nL : Nat) (ret : Option FieldType) (own : String) : Prop :=
  p.tables.exec = Jvm.exec ∧ c.code = cc ∧ meth.sig.returnType = ret ∧ c.maxLocals = nL ∧ s.vm.findClass own = some m.cls ∧ (∀ w ∈ kG, w.before args s = true) ∧ meth.locks = false ∧ dm_N s
theorem gG' {c' : Cond} (h : c' ∈ kG) : GoodIn kG (c' :: kG) := fun w hw => (List.mem_cons.mp hw).elim (fun e => by subst e; exact ⟨h, good_of_word (kG_good h)⟩) (fun hw => ⟨hw, good_of_word (kG_good hw)⟩)
section DMW
variable {p : Program} {l : Launch} {e : Env} {R : Room} {s : State} {m : MethodId} {args : Array Value} {below : List Frame} {meth : Method} {c : Code} {H : Heap} {locs : List Loc} {cells slots : Nat} {Q : State → Prop}
variable {pc : Nat} {ls : Array Slot} {rest st0 : List Value} {D : va_G} {tys : List (ClassId × FieldType)} {A : Nat → Prop} {ws wc wr : va_W} {cc : ByteArray} {nL : Nat} {own : String} {ret0 : Option FieldType}
theorem dm_start {y : MethodName} {maxL : Nat} {ret : Option FieldType} {rm : Room} {av : List Value} {Qc : Array Value → State → Outcome → State → Prop} {free : Addr → Prop} {mc ms sz : Nat} (hy : plainName y.cls = true) (hlen : (lg_sl av).length ≤ maxL)
    (body : ∀ (p : Program) (e : Env) (s : State) (m : MethodId) (below : List Frame) (meth : Method) (c : Code) (ls : Array Slot), dm_C p s m av.toArray meth c cc maxL ret y.cls → s.heap.size = sz → va_P D vwCl wc s.heap → va_K D vwCl tys s → va_D (va_A wc sz) wc → (meth.name = y.name) → lv_has ls maxL (lv_args 0 av) →
      W p l e rm s m av.toArray below meth c s.heap [] 0 0 (MQ below Qc av.toArray s mc ms free) (F0 m 0 ls [])) : Met l y (Cond.code y cc maxL ret :: kG) rm (va_Pc av (dm_Pre D tys wc sz)) Qc mc ms free := by
  refine Met.ofW (cc := cc) (maxL := maxL) (ret := ret) hy rfl ?_
  intro p e s m args below meth c s₁ B hml hv
  obtain ⟨rfl, hsz, hP, hK, hD0, hN⟩ := hv
  have hts := atoms_spec (ws := Cond.code y cc maxL ret :: kG) B.pre
  have hl := lv_entry av (n := maxL) hlen
  rw [lg_entry_eq]
  generalize (lg_sl av ++ List.replicate (maxL - (lg_sl av).length) Slot.unset).toArray = ls at hl ⊢
  exact body p e s m below meth c ls ⟨B.exec, B.bytes, B.returns, hml, findClass_of_methodNamed B.named, fun w h => hts w (List.mem_cons_of_mem _ h), B.notSynchronized, hN⟩ hsz hP hK (hD0.self (sz := sz)) (name_of_methodNamed B.named B.method).1 hl
theorem MI.of {y : MethodName} {maxL d : Nat} {ret : Option FieldType} {av : List Value} {S : Type} {post : Int32 → S → Prop} {w1 : S → va_W} (hy : plainName y.cls = true) (hlen : (lg_sl av).length ≤ maxL)
    (body : ∀ (p : Program) (e : Env) (s : State) (m : MethodId) (below : List Frame) (meth : Method) (c : Code) (ls : Array Slot) (A : Nat → Prop), dm_C p s m av.toArray meth c cc maxL ret y.cls → (∀ q : Nat, s.heap.size ≤ q → A q) → va_P D vwCl wc s.heap → va_K D vwCl tys s → va_D A wc → va_S A s.heap s.heap [] → lv_has ls maxL (lv_args 0 av) →
      W p l e (rmd d) s m av.toArray below meth c s.heap [] 0 0 (MQ below (va_Qi post (dm_B D tys w1 A) A) av.toArray s 0 0 A) (F0 m 0 ls [])) : MI l y (Cond.code y cc maxL ret) d D tys av wc post w1 := fun sz =>
  dm_start hy hlen (fun p e s m below meth c ls hC hsz hP hK hD _ hl => by subst hsz; exact body p e s m below meth c ls _ hC (fun _ h => Or.inr h) hP hK hD va_S.rf hl)
theorem ML.of {y : MethodName} {maxL d : Nat} {ret : Option FieldType} {av : List Value} {S : Type} {post : Int64 → S → Prop} {w1 : S → va_W} (hy : plainName y.cls = true) (hlen : (lg_sl av).length ≤ maxL)
    (body : ∀ (p : Program) (e : Env) (s : State) (m : MethodId) (below : List Frame) (meth : Method) (c : Code) (ls : Array Slot) (A : Nat → Prop), dm_C p s m av.toArray meth c cc maxL ret y.cls → (∀ q : Nat, s.heap.size ≤ q → A q) → va_P D vwCl wc s.heap → va_K D vwCl tys s → va_D A wc → va_S A s.heap s.heap [] → lv_has ls maxL (lv_args 0 av) →
      W p l e (rmd d) s m av.toArray below meth c s.heap [] 0 0 (MQ below (va_Ql post (dm_B D tys w1 A) A) av.toArray s 0 0 A) (F0 m 0 ls [])) : ML l y (Cond.code y cc maxL ret) d D tys av wc post w1 := fun sz =>
  dm_start hy hlen (fun p e s m below meth c ls hC hsz hP hK hD _ hl => by subst hsz; exact body p e s m below meth c ls _ hC (fun _ h => Or.inr h) hP hK hD va_S.rf hl)
theorem MV.of {y : MethodName} {maxL d : Nat} {ret : Option FieldType} {av : List Value} {S : Type} {post : S → Prop} {w1 : S → va_W} (hy : plainName y.cls = true) (hlen : (lg_sl av).length ≤ maxL)
    (body : ∀ (p : Program) (e : Env) (s : State) (m : MethodId) (below : List Frame) (meth : Method) (c : Code) (ls : Array Slot) (A : Nat → Prop), dm_C p s m av.toArray meth c cc maxL ret y.cls → (∀ q : Nat, s.heap.size ≤ q → A q) → va_P D vwCl wc s.heap → va_K D vwCl tys s → va_D A wc → va_S A s.heap s.heap [] → lv_has ls maxL (lv_args 0 av) →
      W p l e (rmd d) s m av.toArray below meth c s.heap [] 0 0 (MQ below (va_Qv post (dm_B D tys w1 A) A) av.toArray s 0 0 A) (F0 m 0 ls [])) : MV l y (Cond.code y cc maxL ret) d D tys av wc post w1 := fun sz =>
  dm_start hy hlen (fun p e s m below meth c ls hC hsz hP hK hD _ hl => by subst hsz; exact body p e s m below meth c ls _ hC (fun _ h => Or.inr h) hP hK hD va_S.rf hl)
theorem ROi.of {y : MethodName} {maxL d : Nat} {ret : Option FieldType} {av : List Value} {post : Int32 → Prop} (hy : plainName y.cls = true) (hlen : (lg_sl av).length ≤ maxL)
    (body : ∀ (p : Program) (e : Env) (s : State) (m : MethodId) (below : List Frame) (meth : Method) (c : Code) (ls : Array Slot) (A : Nat → Prop), dm_C p s m av.toArray meth c cc maxL ret y.cls → (∀ q : Nat, s.heap.size ≤ q → A q) → va_P D vwCl wc s.heap → va_K D vwCl tys s → va_D A wc → va_S A s.heap s.heap [] → lv_has ls maxL (lv_args 0 av) →
      W p l e (rmd d) s m av.toArray below meth c s.heap [] 0 0 (MQ below (vp_Si post) av.toArray s 0 0 (fun _ => False)) (F0 m 0 ls [])) : ROi l y (Cond.code y cc maxL ret) d D tys av wc post := fun sz =>
  dm_start hy hlen (fun p e s m below meth c ls hC hsz hP hK hD _ hl => by subst hsz; exact body p e s m below meth c ls _ hC (fun _ h => Or.inr h) hP hK hD va_S.rf hl)
theorem ROl.of {y : MethodName} {maxL d : Nat} {ret : Option FieldType} {av : List Value} {post : Int64 → Prop} (hy : plainName y.cls = true) (hlen : (lg_sl av).length ≤ maxL)
    (body : ∀ (p : Program) (e : Env) (s : State) (m : MethodId) (below : List Frame) (meth : Method) (c : Code) (ls : Array Slot) (A : Nat → Prop), dm_C p s m av.toArray meth c cc maxL ret y.cls → (∀ q : Nat, s.heap.size ≤ q → A q) → va_P D vwCl wc s.heap → va_K D vwCl tys s → va_D A wc → va_S A s.heap s.heap [] → lv_has ls maxL (lv_args 0 av) →
      W p l e (rmd d) s m av.toArray below meth c s.heap [] 0 0 (MQ below (vp_Sl post) av.toArray s 0 0 (fun _ => False)) (F0 m 0 ls [])) : ROl l y (Cond.code y cc maxL ret) d D tys av wc post := fun sz =>
  dm_start hy hlen (fun p e s m below meth c ls hC hsz hP hK hD _ hl => by subst hsz; exact body p e s m below meth c ls _ hC (fun _ h => Or.inr h) hP hK hD va_S.rf hl)
/-- returns -/
theorem dm_iret {S : Type} {post : Int32 → S → Prop} {w1 : S → va_W} {v : Int32} (hC : dm_C p s m args meth c cc nL (some .int) own) (hK : va_K D vwCl tys s) (u : S) (hp : post v u) (hP : va_P D vwCl (w1 u) H) (hD : va_D A (w1 u)) (hS : va_S A s.heap H locs) (hdg : decode cc pc = .ok (.ireturn, 1)) :
    W p l e R s m args below meth c H locs cells slots (MQ below (va_Qi post (dm_B D tys w1 A) A) args s cells slots A) (F0 m pc ls [.int v]) :=
  W.iret hC.1 hC.2.1 hC.2.2.1 (fun t ht hW => ⟨⟨v, u, rfl, hp, by rw [ht]; exact hP, va_K.moved hW.alike hK, hD⟩, hS.F ht⟩) hS.2.2 hdg hC.2.2.2.2.2.2.1
theorem dm_zret {S : Type} {post : Int32 → S → Prop} {w1 : S → va_W} {v : Int32} (hC : dm_C p s m args meth c cc nL (some .boolean) own) (hz : v = 0 ∨ v = 1) (hK : va_K D vwCl tys s) (u : S) (hp : post v u) (hP : va_P D vwCl (w1 u) H) (hD : va_D A (w1 u)) (hS : va_S A s.heap H locs) (hdg : decode cc pc = .ok (.ireturn, 1)) :
    W p l e R s m args below meth c H locs cells slots (MQ below (va_Qi post (dm_B D tys w1 A) A) args s cells slots A) (F0 m pc ls [.int v]) :=
  W.zret hC.1 hC.2.1 hC.2.2.1 (by rcases hz with rfl | rfl <;> rfl) (fun t ht hW => ⟨⟨v, u, rfl, hp, by rw [ht]; exact hP, va_K.moved hW.alike hK, hD⟩, hS.F ht⟩) hS.2.2 hdg hC.2.2.2.2.2.2.1
theorem dm_lret {S : Type} {post : Int64 → S → Prop} {w1 : S → va_W} {v : Int64} (hC : dm_C p s m args meth c cc nL (some .long) own) (hK : va_K D vwCl tys s) (u : S) (hp : post v u) (hP : va_P D vwCl (w1 u) H) (hD : va_D A (w1 u)) (hS : va_S A s.heap H locs) (hdg : decode cc pc = .ok (.lreturn, 1)) :
    W p l e R s m args below meth c H locs cells slots (MQ below (va_Ql post (dm_B D tys w1 A) A) args s cells slots A) (F0 m pc ls [.long v]) :=
  W.lret hC.1 hC.2.1 hC.2.2.1 (fun t ht hW => ⟨⟨v, u, rfl, hp, by rw [ht]; exact hP, va_K.moved hW.alike hK, hD⟩, hS.F ht⟩) hS.2.2 hdg hC.2.2.2.2.2.2.1
theorem dm_vret {S : Type} {post : S → Prop} {w1 : S → va_W} (hC : dm_C p s m args meth c cc nL none own) (hK : va_K D vwCl tys s) (u : S) (hp : post u) (hP : va_P D vwCl (w1 u) H) (hD : va_D A (w1 u)) (hS : va_S A s.heap H locs) (hdg : decode cc pc = .ok (.return_, 1)) :
    W p l e R s m args below meth c H locs cells slots (MQ below (va_Qv post (dm_B D tys w1 A) A) args s cells slots A) (F0 m pc ls []) :=
  W.vret hC.1 hC.2.1 hC.2.2.1 (fun t ht hW => ⟨⟨u, rfl, hp, by rw [ht]; exact hP, va_K.moved hW.alike hK, hD⟩, hS.F ht⟩) hS.2.2 hdg hC.2.2.2.2.2.2.1
theorem ri_iret {post : Int32 → Prop} {v : Int32} (hC : dm_C p s m args meth c cc nL (some .int) own) (hp : post v) (hdg : decode cc pc = .ok (.ireturn, 1)) :
    W p l e R s m args below meth c s.heap [] cells slots (MQ below (vp_Si post) args s cells slots (fun _ => False)) (F0 m pc ls [.int v]) :=
  W.iret hC.1 hC.2.1 hC.2.2.1 (fun t ht _ => ⟨v, rfl, hp, ht⟩) (fun q h => by cases h) hdg hC.2.2.2.2.2.2.1
theorem ri_zret {post : Int32 → Prop} {v : Int32} (hC : dm_C p s m args meth c cc nL (some .boolean) own) (hz : v = 0 ∨ v = 1) (hp : post v) (hdg : decode cc pc = .ok (.ireturn, 1)) :
    W p l e R s m args below meth c s.heap [] cells slots (MQ below (vp_Si post) args s cells slots (fun _ => False)) (F0 m pc ls [.int v]) :=
  W.zret hC.1 hC.2.1 hC.2.2.1 (by rcases hz with rfl | rfl <;> rfl) (fun t ht _ => ⟨v, rfl, hp, ht⟩) (fun q h => by cases h) hdg hC.2.2.2.2.2.2.1
theorem ri_lret {post : Int64 → Prop} {v : Int64} (hC : dm_C p s m args meth c cc nL (some .long) own) (hp : post v) (hdg : decode cc pc = .ok (.lreturn, 1)) :
    W p l e R s m args below meth c s.heap [] cells slots (MQ below (vp_Sl post) args s cells slots (fun _ => False)) (F0 m pc ls [.long v]) :=
  W.lret hC.1 hC.2.1 hC.2.2.1 (fun t ht _ => ⟨v, rfl, hp, ht⟩) (fun q h => by cases h) hdg hC.2.2.2.2.2.2.1
/-- calls -/
theorem dm_rV {y : MethodName} {bytes : ByteArray} {maxL mc ms n index : Nat} {ret : Option FieldType} {rm : Room} {Pc : Array Value → State → Prop} {Qc : Array Value → State → Outcome → State → Prop} {free : Addr → Prop} {b : Addr} {As : List Value} {lv : List (Nat × Value)}
    (hC : dm_C p s m args meth c cc nL ret0 own) (hl : lv_has ls nL lv) (hM : Met l y (Cond.code y bytes maxL ret :: kG) rm Pc Qc mc ms free) (hcode : Cond.code y bytes maxL ret ∈ kG) (hini : Cond.initialized y.cls ∈ kG) (hinst : Cond.instanceMethod y ∈ kG) (hsel : Cond.selects y.cls y y ∈ kG) (hlink : Cond.methodLink own index y ∈ kG)
    (hd : y.cls ≠ "java/lang/invoke/MethodHandle" ∧ y.cls ≠ "java/lang/invoke/VarHandle" ∧ (parseMethodDescriptor y.desc).map (fun d => d.parameters.length) = some n) (hR : rm.frames + 1 ≤ R.frames ∧ 8 + (maxL + 11) + rm.locals ≤ R.locals) (hrc : rm.cells = mc) (hrs : rm.slots = ms) (hp : PreV s H y.cls b Pc As)
    (hn : As.length = n) (hst : st0 = As.reverse ++ .ref b :: rest) (hW : (rest.map fun v => v.category).sum ≤ 8) (hdg : decode cc pc = .ok (.invokevirtual index, 3)) (hf : cells + mc ≤ R.cells ∧ slots + ms ≤ R.slots) :
    va_Run p l e R s m args below meth c H locs cells slots mc ms (F0 m pc ls st0) rest (Qc (Value.ref b :: As).toArray) free := by
  obtain ⟨hx, hb, hr, hml, hown, hts, hlocks, hN⟩ := hC
  exact va_runV (C := y.cls) (Ts := kG) ⟨hx, hb, hml, hown, hts⟩ hM ⟨callB_of n hts (gG' hcode) rfl hrc hrs (hts _ hini) (hts _ hlink) hd hR, hts _ hinst, hts _ hsel⟩ hp rfl hn hl.1 hst (lv_room hW) hdg hf
theorem dm_rVN {y : MethodName} {host : String} {bytes : ByteArray} {maxL mc ms n index : Nat} {ret : Option FieldType} {rm : Room} {Pc : Array Value → State → Prop} {Qc : Array Value → State → Outcome → State → Prop} {free : Addr → Prop} {b : Addr} {As : List Value} {lv : List (Nat × Value)}
    (hC : dm_C p s m args meth c cc nL ret0 own) (hl : lv_has ls nL lv) (hM : Met l y (Cond.code y bytes maxL ret :: kG) rm Pc Qc mc ms free) (hcode : Cond.code y bytes maxL ret ∈ kG) (hini : Cond.initialized y.cls ∈ kG) (hinst : Cond.instanceMethod y ∈ kG) (hsel : Cond.selects y.cls y y ∈ kG) (hlink : Cond.methodLinkNest own index y host ∈ kN)
    (hd : y.cls ≠ "java/lang/invoke/MethodHandle" ∧ y.cls ≠ "java/lang/invoke/VarHandle" ∧ (parseMethodDescriptor y.desc).map (fun d => d.parameters.length) = some n) (hR : rm.frames + 1 ≤ R.frames ∧ 8 + (maxL + 11) + rm.locals ≤ R.locals) (hrc : rm.cells = mc) (hrs : rm.slots = ms) (hp : PreV s H y.cls b Pc As)
    (hn : As.length = n) (hst : st0 = As.reverse ++ .ref b :: rest) (hW : (rest.map fun v => v.category).sum ≤ 8) (hdg : decode cc pc = .ok (.invokevirtual index, 3)) (hf : cells + mc ≤ R.cells ∧ slots + ms ≤ R.slots) :
    va_Run p l e R s m args below meth c H locs cells slots mc ms (F0 m pc ls st0) rest (Qc (Value.ref b :: As).toArray) free := by
  obtain ⟨hx, hb, hr, hml, hown, hts, hlocks, hN⟩ := hC
  exact va_runVN (C := y.cls) (host := host) (Ts := kG) ⟨hx, hb, hml, hown, hts⟩ hM ⟨va_cnB n hts (gG' hcode) rfl hrc hrs (hN _ hlink) (hts _ hini) hd hR, hts _ hinst, hts _ hsel⟩ hp rfl hn hl.1 hst (lv_room hW) hdg hf
theorem dm_rS {y : MethodName} {bytes : ByteArray} {maxL mc ms n index : Nat} {ret : Option FieldType} {rm : Room} {Pc : Array Value → State → Prop} {Qc : Array Value → State → Outcome → State → Prop} {free : Addr → Prop} {As : List Value} {lv : List (Nat × Value)}
    (hC : dm_C p s m args meth c cc nL ret0 own) (hl : lv_has ls nL lv) (hM : Met l y (Cond.code y bytes maxL ret :: kG) rm Pc Qc mc ms free) (hcode : Cond.code y bytes maxL ret ∈ kG) (hini : Cond.initialized y.cls ∈ kG) (hstat : Cond.static y ∈ kG) (hlink : Cond.methodLink own index y ∈ kG)
    (hd : y.cls ≠ "java/lang/invoke/MethodHandle" ∧ y.cls ≠ "java/lang/invoke/VarHandle" ∧ (parseMethodDescriptor y.desc).map (fun d => d.parameters.length) = some n) (hR : rm.frames + 1 ≤ R.frames ∧ 8 + (maxL + 11) + rm.locals ≤ R.locals) (hrc : rm.cells = mc) (hrs : rm.slots = ms) (hp : PreS s H Pc As)
    (hn : As.length = n) (hst : st0 = As.reverse ++ rest) (hW : (rest.map fun v => v.category).sum ≤ 8) (hdg : decode cc pc = .ok (.invokestatic index, 3)) (hf : cells + mc ≤ R.cells ∧ slots + ms ≤ R.slots) :
    va_Run p l e R s m args below meth c H locs cells slots mc ms (F0 m pc ls st0) rest (Qc As.toArray) free := by
  obtain ⟨hx, hb, hr, hml, hown, hts, hlocks, hN⟩ := hC
  exact va_runS (Ts := kG) ⟨hx, hb, hml, hown, hts⟩ hM ⟨callB_of n hts (gG' hcode) rfl hrc hrs (hts _ hini) (hts _ hlink) hd hR, hts _ hstat⟩ hp rfl hn hl.1 hst (lv_room hW) hdg hf
theorem dm_rSN {y : MethodName} {host : String} {bytes : ByteArray} {maxL mc ms n index : Nat} {ret : Option FieldType} {rm : Room} {Pc : Array Value → State → Prop} {Qc : Array Value → State → Outcome → State → Prop} {free : Addr → Prop} {As : List Value} {lv : List (Nat × Value)}
    (hC : dm_C p s m args meth c cc nL ret0 own) (hl : lv_has ls nL lv) (hM : Met l y (Cond.code y bytes maxL ret :: kG) rm Pc Qc mc ms free) (hcode : Cond.code y bytes maxL ret ∈ kG) (hini : Cond.initialized y.cls ∈ kG) (hstat : Cond.static y ∈ kG) (hlink : Cond.methodLinkNest own index y host ∈ kN)
    (hd : y.cls ≠ "java/lang/invoke/MethodHandle" ∧ y.cls ≠ "java/lang/invoke/VarHandle" ∧ (parseMethodDescriptor y.desc).map (fun d => d.parameters.length) = some n) (hR : rm.frames + 1 ≤ R.frames ∧ 8 + (maxL + 11) + rm.locals ≤ R.locals) (hrc : rm.cells = mc) (hrs : rm.slots = ms) (hp : PreS s H Pc As)
    (hn : As.length = n) (hst : st0 = As.reverse ++ rest) (hW : (rest.map fun v => v.category).sum ≤ 8) (hdg : decode cc pc = .ok (.invokestatic index, 3)) (hf : cells + mc ≤ R.cells ∧ slots + ms ≤ R.slots) :
    va_Run p l e R s m args below meth c H locs cells slots mc ms (F0 m pc ls st0) rest (Qc As.toArray) free := by
  obtain ⟨hx, hb, hr, hml, hown, hts, hlocks, hN⟩ := hC
  exact va_runSN (host := host) (Ts := kG) ⟨hx, hb, hml, hown, hts⟩ hM ⟨va_cnB n hts (gG' hcode) rfl hrc hrs (hN _ hlink) (hts _ hini) hd hR, hts _ hstat, trivial⟩ hp rfl hn hl.1 hst (lv_room hW) hdg hf
/-- behind a call: the rest's cells and the callee's -/
theorem dm_goi {S : Type} {post : Int32 → S → Prop} {w1 : S → va_W} {a : Array Value} (hr : va_Run p l e R s m args below meth c H locs cells slots 0 0 (F0 m pc ls st0) rest (va_Qi post (dm_B D tys w1 (va_A wc H.size)) (va_A wc H.size) a) (va_A wc H.size))
    (hP : va_P D vwCl ws H) (hD : va_D A ws) (hS : va_S A s.heap H locs) (hA : ∀ q, s.heap.size ≤ q → A q) (isC isR : List Nat) (hC : isC.map (fun i => ws[i]?) = wc.map some) (hR : isR.map (fun i => ws[i]?) = wr.map some) (hn : va_nd isR = true) (hdis : ∀ i ∈ isR, i ∉ isC)
    (kk : ∀ (r : Int32) (u : S) (H1 : Heap) (locs1 : List Loc), post r u → va_P D vwCl (wr ++ w1 u) H1 → va_D A (wr ++ w1 u) → va_S A s.heap H1 locs1 → W p l e R s m args below meth c H1 locs1 cells slots Q (F0 m (pc + 3) ls (.int r :: rest))) : W p l e R s m args below meth c H locs cells slots Q (F0 m pc ls st0) := by
  have hF := va_free (wc := wc) hD hS hA isC hC
  refine va_calli hr hS (fun q _ h => hF q h) hF (fun r u t H1 locs1 ht hvm hw hB hz1 hk1 hS1 => ?_)
  obtain ⟨hP1, hK1, hD1⟩ := hB
  rw [ht] at hP1
  obtain ⟨hP2, hD2⟩ := va_join hP hD isC isR hC hR hn hdis hk1 hF hP1 hD1
  exact kk r u H1 locs1 hw hP2 hD2 hS1
theorem dm_gol {S : Type} {post : Int64 → S → Prop} {w1 : S → va_W} {a : Array Value} (hr : va_Run p l e R s m args below meth c H locs cells slots 0 0 (F0 m pc ls st0) rest (va_Ql post (dm_B D tys w1 (va_A wc H.size)) (va_A wc H.size) a) (va_A wc H.size))
    (hP : va_P D vwCl ws H) (hD : va_D A ws) (hS : va_S A s.heap H locs) (hA : ∀ q, s.heap.size ≤ q → A q) (isC isR : List Nat) (hC : isC.map (fun i => ws[i]?) = wc.map some) (hR : isR.map (fun i => ws[i]?) = wr.map some) (hn : va_nd isR = true) (hdis : ∀ i ∈ isR, i ∉ isC)
    (kk : ∀ (r : Int64) (u : S) (H1 : Heap) (locs1 : List Loc), post r u → va_P D vwCl (wr ++ w1 u) H1 → va_D A (wr ++ w1 u) → va_S A s.heap H1 locs1 → W p l e R s m args below meth c H1 locs1 cells slots Q (F0 m (pc + 3) ls (.long r :: rest))) : W p l e R s m args below meth c H locs cells slots Q (F0 m pc ls st0) := by
  have hF := va_free (wc := wc) hD hS hA isC hC
  refine va_calll hr hS (fun q _ h => hF q h) hF (fun r u t H1 locs1 ht hvm hw hB hz1 hk1 hS1 => ?_)
  obtain ⟨hP1, hK1, hD1⟩ := hB
  rw [ht] at hP1
  obtain ⟨hP2, hD2⟩ := va_join hP hD isC isR hC hR hn hdis hk1 hF hP1 hD1
  exact kk r u H1 locs1 hw hP2 hD2 hS1
theorem dm_gov {S : Type} {post : S → Prop} {w1 : S → va_W} {a : Array Value} (hr : va_Run p l e R s m args below meth c H locs cells slots 0 0 (F0 m pc ls st0) rest (va_Qv post (dm_B D tys w1 (va_A wc H.size)) (va_A wc H.size) a) (va_A wc H.size))
    (hP : va_P D vwCl ws H) (hD : va_D A ws) (hS : va_S A s.heap H locs) (hA : ∀ q, s.heap.size ≤ q → A q) (isC isR : List Nat) (hC : isC.map (fun i => ws[i]?) = wc.map some) (hR : isR.map (fun i => ws[i]?) = wr.map some) (hn : va_nd isR = true) (hdis : ∀ i ∈ isR, i ∉ isC)
    (kk : ∀ (u : S) (H1 : Heap) (locs1 : List Loc), post u → va_P D vwCl (wr ++ w1 u) H1 → va_D A (wr ++ w1 u) → va_S A s.heap H1 locs1 → W p l e R s m args below meth c H1 locs1 cells slots Q (F0 m (pc + 3) ls rest)) : W p l e R s m args below meth c H locs cells slots Q (F0 m pc ls st0) := by
  have hF := va_free (wc := wc) hD hS hA isC hC
  refine va_callv hr hS (fun q _ h => hF q h) hF (fun u t H1 locs1 ht hvm hw hB hz1 hk1 hS1 => ?_)
  obtain ⟨hP1, hK1, hD1⟩ := hB
  rw [ht] at hP1
  obtain ⟨hP2, hD2⟩ := va_join hP hD isC isR hC hR hn hdis hk1 hF hP1 hD1
  exact kk u H1 locs1 hw hP2 hD2 hS1
theorem dm_gori {post : Int32 → Prop} {a : Array Value} (hr : va_Run p l e R s m args below meth c H locs cells slots 0 0 (F0 m pc ls st0) rest (vp_Si post a) (fun _ => False))
    (kk : ∀ r : Int32, post r → W p l e R s m args below meth c H locs cells slots Q (F0 m (pc + 3) ls (.int r :: rest))) : W p l e R s m args below meth c H locs cells slots Q (F0 m pc ls st0) := vp_callSi hr.run kk
theorem dm_gorl {post : Int64 → Prop} {a : Array Value} (hr : va_Run p l e R s m args below meth c H locs cells slots 0 0 (F0 m pc ls st0) rest (vp_Sl post a) (fun _ => False))
    (kk : ∀ r : Int64, post r → W p l e R s m args below meth c H locs cells slots Q (F0 m (pc + 3) ls (.long r :: rest))) : W p l e R s m args below meth c H locs cells slots Q (F0 m pc ls st0) := vp_callSl hr.run kk
/-- values get another name -/
theorem dm_ti {x y : Int32} (e0 : x = y) (k : W p l e R s m args below meth c H locs cells slots Q (F0 m pc ls (.int y :: rest))) : W p l e R s m args below meth c H locs cells slots Q (F0 m pc ls (.int x :: rest)) := e0 ▸ k
theorem dm_tl {x y : Int64} (e0 : x = y) (k : W p l e R s m args below meth c H locs cells slots Q (F0 m pc ls (.long y :: rest))) : W p l e R s m args below meth c H locs cells slots Q (F0 m pc ls (.long x :: rest)) := e0 ▸ k
/-- roads that meet -/
theorem dm_joini {P : Int32 → Prop} (J : Nat) (rest' : List Value) (kk : (∀ v : Int32, P v → W p l e R s m args below meth c H locs cells slots Q (F0 m J ls (.int v :: rest'))) → W p l e R s m args below meth c H locs cells slots Q (F0 m pc ls rest)) (kJ : ∀ v : Int32, P v → W p l e R s m args below meth c H locs cells slots Q (F0 m J ls (.int v :: rest'))) : W p l e R s m args below meth c H locs cells slots Q (F0 m pc ls rest) := kk kJ
theorem dm_joinl {P : Int64 → Prop} (J : Nat) (rest' : List Value) (kk : (∀ v : Int64, P v → W p l e R s m args below meth c H locs cells slots Q (F0 m J ls (.long v :: rest'))) → W p l e R s m args below meth c H locs cells slots Q (F0 m pc ls rest)) (kJ : ∀ v : Int64, P v → W p l e R s m args below meth c H locs cells slots Q (F0 m J ls (.long v :: rest'))) : W p l e R s m args below meth c H locs cells slots Q (F0 m pc ls rest) := kk kJ
/-- a loop's head, with a state x of yours -/
theorem dm_loop {σ : Type} (head : Nat) (P : σ → Prop) (w : σ → va_W) (lv : σ → List (Nat × Value)) (μ : σ → Nat)
    (step : ∀ (x : σ) (H : Heap) (locs : List Loc) (ls : Array Slot), P x → va_P D vwCl (w x) H → va_D A (w x) → va_S A s.heap H locs → lv_has ls nL (lv x) →
      (∀ (x' : σ) (H' : Heap) (locs' : List Loc) (ls' : Array Slot), μ x' < μ x → P x' → va_P D vwCl (w x') H' → va_D A (w x') → va_S A s.heap H' locs' → lv_has ls' nL (lv x') → W p l e R s m args below meth c H' locs' cells slots Q (F0 m head ls' [])) → W p l e R s m args below meth c H locs cells slots Q (F0 m head ls []))
    (x : σ) (hp : P x) (hP : va_P D vwCl (w x) H) (hD : va_D A (w x)) (hS : va_S A s.heap H locs) (hl : lv_has ls nL (lv x)) : W p l e R s m args below meth c H locs cells slots Q (F0 m head ls []) := by
  have key : ∀ (n : Nat) (x : σ) (H : Heap) (locs : List Loc) (ls : Array Slot), μ x < n → P x → va_P D vwCl (w x) H → va_D A (w x) → va_S A s.heap H locs → lv_has ls nL (lv x) → W p l e R s m args below meth c H locs cells slots Q (F0 m head ls []) := by
    intro n
    induction n with
    | zero => intro x H locs ls h; exact absurd h (Nat.not_lt_zero _)
    | succ n ih =>
      intro x H locs ls h hp hP hD hS hl
      exact step x H locs ls hp hP hD hS hl (fun x' H' locs' ls' hm hp' hP' hD' hS' hl' => ih x' H' locs' ls' (by omega) hp' hP' hD' hS' hl')
  exact key (μ x + 1) x H locs ls (Nat.lt_succ_self _) hp hP hD hS hl
/-- a loop that changes no cell -/
theorem dm_loopR {σ : Type} (head : Nat) (P : σ → Prop) (lv : σ → List (Nat × Value)) (μ : σ → Nat)
    (step : ∀ (x : σ) (ls : Array Slot), P x → lv_has ls nL (lv x) →
      (∀ (x' : σ) (ls' : Array Slot), μ x' < μ x → P x' → lv_has ls' nL (lv x') → W p l e R s m args below meth c H locs cells slots Q (F0 m head ls' [])) → W p l e R s m args below meth c H locs cells slots Q (F0 m head ls []))
    (x : σ) (hp : P x) (hl : lv_has ls nL (lv x)) : W p l e R s m args below meth c H locs cells slots Q (F0 m head ls []) := by
  have key : ∀ (n : Nat) (x : σ) (ls : Array Slot), μ x < n → P x → lv_has ls nL (lv x) → W p l e R s m args below meth c H locs cells slots Q (F0 m head ls []) := by
    intro n
    induction n with
    | zero => intro x ls h; exact absurd h (Nat.not_lt_zero _)
    | succ n ih =>
      intro x ls h hp hl
      exact step x ls hp hl (fun x' ls' hm hp' hl' => ih x' ls' (by omega) hp' hl')
  exact key (μ x + 1) x ls (Nat.lt_succ_self _) hp hl
end DMW
section DMX
variable {p : Program} {l : Launch} {e : Env} {R : Room} {s : State} {m : MethodId} {args : Array Value} {below : List Frame} {meth : Method} {c : Code} {H : Heap} {locs : List Loc} {cells slots : Nat} {Q : State → Prop}
variable {pc : Nat} {ls : Array Slot} {rest : List Value} {D : va_G} {tys : List (ClassId × FieldType)} {A : Nat → Prop} {ws : va_W} {cc : ByteArray} {a : Nat} {H0 : Heap}

theorem dm_iald (hx : p.tables.exec = Jvm.exec) (hb : c.code = cc) (hK : va_K D vwCl tys s) (hP : va_P D vwCl ws H) (q0 t0 : Nat) {cA : ClassId} {n : Nat} {f : Nat → Int32} (ha : ws[q0]? = some (a, .inl (cA, n, .inl f))) (ht : tys[t0]? = some (cA, .int)) {j : Nat} (hj : j < n) (hn : n < 2 ^ 31) (hdg : decode cc pc = .ok (.iaload, 1)) (kk : W p l e R s m args below meth c H locs cells slots Q (F0 m (pc + 1) ls (.int (f j) :: rest))) : W p l e R s m args below meth c H locs cells slots Q (F0 m pc ls (.int (nI j) :: .ref a :: rest)) := by
  refine va_iald hx hb hK hP q0 t0 ha ht (vp_in_nI hj hn) hdg ?_
  rw [nI_clamp (Nat.lt_trans hj hn)]
  exact kk
theorem dm_bald (hx : p.tables.exec = Jvm.exec) (hb : c.code = cc) (hK : va_K D vwCl tys s) (hP : va_P D vwCl ws H) (q0 t0 : Nat) {cA : ClassId} {n : Nat} {f : Nat → Int32} (ha : ws[q0]? = some (a, .inl (cA, n, .inl f))) (ht : tys[t0]? = some (cA, .byte)) {j : Nat} (hj : j < n) (hn : n < 2 ^ 31) (hdg : decode cc pc = .ok (.baload, 1)) (kk : W p l e R s m args below meth c H locs cells slots Q (F0 m (pc + 1) ls (.int (f j) :: rest))) : W p l e R s m args below meth c H locs cells slots Q (F0 m pc ls (.int (nI j) :: .ref a :: rest)) := by
  refine va_bald hx hb hK hP q0 t0 ha ht (vp_in_nI hj hn) hdg ?_
  rw [nI_clamp (Nat.lt_trans hj hn)]
  exact kk
theorem dm_cald (hx : p.tables.exec = Jvm.exec) (hb : c.code = cc) (hK : va_K D vwCl tys s) (hP : va_P D vwCl ws H) (q0 t0 : Nat) {cA : ClassId} {n : Nat} {f : Nat → Int32} (ha : ws[q0]? = some (a, .inl (cA, n, .inl f))) (ht : tys[t0]? = some (cA, .char)) {j : Nat} (hj : j < n) (hn : n < 2 ^ 31) (hdg : decode cc pc = .ok (.caload, 1)) (kk : W p l e R s m args below meth c H locs cells slots Q (F0 m (pc + 1) ls (.int (f j) :: rest))) : W p l e R s m args below meth c H locs cells slots Q (F0 m pc ls (.int (nI j) :: .ref a :: rest)) := by
  refine va_cald hx hb hK hP q0 t0 ha ht (vp_in_nI hj hn) hdg ?_
  rw [nI_clamp (Nat.lt_trans hj hn)]
  exact kk
theorem dm_iast (hx : p.tables.exec = Jvm.exec) (hb : c.code = cc) (hK : va_K D vwCl tys s) (hP : va_P D vwCl ws H) (hD : va_D A ws) (hS : va_S A H0 H locs) (q0 t0 : Nat) {cA : ClassId} {n : Nat} {f f' : Nat → Int32} (ha : ws[q0]? = some (a, .inl (cA, n, .inl f))) (ht : tys[t0]? = some (cA, .int)) {j : Nat} {x : Int32} (hj : j < n) (hn : n < 2 ^ 31) (hf : upd f j (x) = f') (hdg : decode cc pc = .ok (.iastore, 1))
    (kk : ∀ (H1 : Heap) (locs1 : List Loc), va_P D vwCl (ws.set q0 (a, .inl (cA, n, .inl f'))) H1 → va_D A (ws.set q0 (a, .inl (cA, n, .inl f'))) → va_S A H0 H1 locs1 → W p l e R s m args below meth c H1 locs1 cells slots Q (F0 m (pc + 1) ls rest)) : W p l e R s m args below meth c H locs cells slots Q (F0 m pc ls (.int x :: .int (nI j) :: .ref a :: rest)) := by
  subst hf
  refine va_iast hx hb hK hP hD hS q0 t0 ha ht (vp_in_nI hj hn) hdg ?_
  rw [nI_clamp (Nat.lt_trans hj hn)]
  exact kk
theorem dm_bast (hx : p.tables.exec = Jvm.exec) (hb : c.code = cc) (hK : va_K D vwCl tys s) (hP : va_P D vwCl ws H) (hD : va_D A ws) (hS : va_S A H0 H locs) (q0 t0 : Nat) {cA : ClassId} {n : Nat} {f f' : Nat → Int32} (ha : ws[q0]? = some (a, .inl (cA, n, .inl f))) (ht : tys[t0]? = some (cA, .byte)) {j : Nat} {x : Int32} (hj : j < n) (hn : n < 2 ^ 31) (hf : upd f j (vp_nar .byte x) = f') (hdg : decode cc pc = .ok (.bastore, 1))
    (kk : ∀ (H1 : Heap) (locs1 : List Loc), va_P D vwCl (ws.set q0 (a, .inl (cA, n, .inl f'))) H1 → va_D A (ws.set q0 (a, .inl (cA, n, .inl f'))) → va_S A H0 H1 locs1 → W p l e R s m args below meth c H1 locs1 cells slots Q (F0 m (pc + 1) ls rest)) : W p l e R s m args below meth c H locs cells slots Q (F0 m pc ls (.int x :: .int (nI j) :: .ref a :: rest)) := by
  subst hf
  refine va_bast hx hb hK hP hD hS q0 t0 ha ht (vp_in_nI hj hn) hdg ?_
  rw [nI_clamp (Nat.lt_trans hj hn)]
  exact kk
theorem dm_cast (hx : p.tables.exec = Jvm.exec) (hb : c.code = cc) (hK : va_K D vwCl tys s) (hP : va_P D vwCl ws H) (hD : va_D A ws) (hS : va_S A H0 H locs) (q0 t0 : Nat) {cA : ClassId} {n : Nat} {f f' : Nat → Int32} (ha : ws[q0]? = some (a, .inl (cA, n, .inl f))) (ht : tys[t0]? = some (cA, .char)) {j : Nat} {x : Int32} (hj : j < n) (hn : n < 2 ^ 31) (hf : upd f j (vp_nar .char x) = f') (hdg : decode cc pc = .ok (.castore, 1))
    (kk : ∀ (H1 : Heap) (locs1 : List Loc), va_P D vwCl (ws.set q0 (a, .inl (cA, n, .inl f'))) H1 → va_D A (ws.set q0 (a, .inl (cA, n, .inl f'))) → va_S A H0 H1 locs1 → W p l e R s m args below meth c H1 locs1 cells slots Q (F0 m (pc + 1) ls rest)) : W p l e R s m args below meth c H locs cells slots Q (F0 m pc ls (.int x :: .int (nI j) :: .ref a :: rest)) := by
  subst hf
  refine va_cast hx hb hK hP hD hS q0 t0 ha ht (vp_in_nI hj hn) hdg ?_
  rw [nI_clamp (Nat.lt_trans hj hn)]
  exact kk
theorem dm_icmp_eq (hx : p.tables.exec = Jvm.exec) (hb : c.code = cc) {a b : Nat} {off : Int} {tgt : Nat} (ha : a < 2 ^ 31) (hb2 : b < 2 ^ 31) (hdg : decode cc pc = .ok (.if_icmp .eq off, 3)) (ht : (pc : Int) + off = (tgt : Int)) (kt : a = b → W p l e R s m args below meth c H locs cells slots Q (F0 m tgt ls rest)) (kf : a ≠ b → W p l e R s m args below meth c H locs cells slots Q (F0 m (pc + 3) ls rest)) : W p l e R s m args below meth c H locs cells slots Q (F0 m pc ls (.int (nI b) :: .int (nI a) :: rest)) :=
  lv_icmp_eq hx hb hdg ht (fun h => kt ((nI_eq ha hb2).mp h)) (fun h => kf (fun e0 => h ((nI_eq ha hb2).mpr e0)))
theorem dm_icmp_ne (hx : p.tables.exec = Jvm.exec) (hb : c.code = cc) {a b : Nat} {off : Int} {tgt : Nat} (ha : a < 2 ^ 31) (hb2 : b < 2 ^ 31) (hdg : decode cc pc = .ok (.if_icmp .ne off, 3)) (ht : (pc : Int) + off = (tgt : Int)) (kt : a ≠ b → W p l e R s m args below meth c H locs cells slots Q (F0 m tgt ls rest)) (kf : a = b → W p l e R s m args below meth c H locs cells slots Q (F0 m (pc + 3) ls rest)) : W p l e R s m args below meth c H locs cells slots Q (F0 m pc ls (.int (nI b) :: .int (nI a) :: rest)) :=
  lv_icmp_ne hx hb hdg ht (fun h => kt (fun e0 => h ((nI_eq ha hb2).mpr e0))) (fun h => kf ((nI_eq ha hb2).mp h))
theorem dm_icmp_lt (hx : p.tables.exec = Jvm.exec) (hb : c.code = cc) {a b : Nat} {off : Int} {tgt : Nat} (ha : a < 2 ^ 31) (hb2 : b < 2 ^ 31) (hdg : decode cc pc = .ok (.if_icmp .lt off, 3)) (ht : (pc : Int) + off = (tgt : Int)) (kt : a < b → W p l e R s m args below meth c H locs cells slots Q (F0 m tgt ls rest)) (kf : b ≤ a → W p l e R s m args below meth c H locs cells slots Q (F0 m (pc + 3) ls rest)) : W p l e R s m args below meth c H locs cells slots Q (F0 m pc ls (.int (nI b) :: .int (nI a) :: rest)) :=
  lv_icmp_lt hx hb hdg ht (fun h => kt ((nI_ltI ha hb2).mp h)) (fun h => kf (Nat.le_of_not_lt (fun q => h ((nI_ltI ha hb2).mpr q))))
theorem dm_icmp_ge (hx : p.tables.exec = Jvm.exec) (hb : c.code = cc) {a b : Nat} {off : Int} {tgt : Nat} (ha : a < 2 ^ 31) (hb2 : b < 2 ^ 31) (hdg : decode cc pc = .ok (.if_icmp .ge off, 3)) (ht : (pc : Int) + off = (tgt : Int)) (kt : b ≤ a → W p l e R s m args below meth c H locs cells slots Q (F0 m tgt ls rest)) (kf : a < b → W p l e R s m args below meth c H locs cells slots Q (F0 m (pc + 3) ls rest)) : W p l e R s m args below meth c H locs cells slots Q (F0 m pc ls (.int (nI b) :: .int (nI a) :: rest)) :=
  lv_icmp_ge hx hb hdg ht (fun h => kt ((nI_leI hb2 ha).mp h)) (fun h => kf (Nat.lt_of_not_le (fun q => h ((nI_leI hb2 ha).mpr q))))
theorem dm_icmp_gt (hx : p.tables.exec = Jvm.exec) (hb : c.code = cc) {a b : Nat} {off : Int} {tgt : Nat} (ha : a < 2 ^ 31) (hb2 : b < 2 ^ 31) (hdg : decode cc pc = .ok (.if_icmp .gt off, 3)) (ht : (pc : Int) + off = (tgt : Int)) (kt : b < a → W p l e R s m args below meth c H locs cells slots Q (F0 m tgt ls rest)) (kf : a ≤ b → W p l e R s m args below meth c H locs cells slots Q (F0 m (pc + 3) ls rest)) : W p l e R s m args below meth c H locs cells slots Q (F0 m pc ls (.int (nI b) :: .int (nI a) :: rest)) :=
  lv_icmp_gt hx hb hdg ht (fun h => kt ((nI_ltI hb2 ha).mp h)) (fun h => kf (Nat.le_of_not_lt (fun q => h ((nI_ltI hb2 ha).mpr q))))
theorem dm_icmp_le (hx : p.tables.exec = Jvm.exec) (hb : c.code = cc) {a b : Nat} {off : Int} {tgt : Nat} (ha : a < 2 ^ 31) (hb2 : b < 2 ^ 31) (hdg : decode cc pc = .ok (.if_icmp .le off, 3)) (ht : (pc : Int) + off = (tgt : Int)) (kt : a ≤ b → W p l e R s m args below meth c H locs cells slots Q (F0 m tgt ls rest)) (kf : b < a → W p l e R s m args below meth c H locs cells slots Q (F0 m (pc + 3) ls rest)) : W p l e R s m args below meth c H locs cells slots Q (F0 m pc ls (.int (nI b) :: .int (nI a) :: rest)) :=
  lv_icmp_le hx hb hdg ht (fun h => kt ((nI_leI ha hb2).mp h)) (fun h => kf (Nat.lt_of_not_le (fun q => h ((nI_leI ha hb2).mpr q))))
theorem dm_if_eq (hx : p.tables.exec = Jvm.exec) (hb : c.code = cc) {a : Nat} {off : Int} {tgt : Nat} (ha : a < 2 ^ 31) (hdg : decode cc pc = .ok (.ifCond .eq off, 3)) (ht : (pc : Int) + off = (tgt : Int)) (kt : a = 0 → W p l e R s m args below meth c H locs cells slots Q (F0 m tgt ls rest)) (kf : a ≠ 0 → W p l e R s m args below meth c H locs cells slots Q (F0 m (pc + 3) ls rest)) : W p l e R s m args below meth c H locs cells slots Q (F0 m pc ls (.int (nI a) :: rest)) :=
  lv_if_eq hx hb hdg ht (fun h => kt ((nI_eq ha (by decide)).mp (h.trans nI_0.symm))) (fun h => kf (fun e0 => h (by rw [e0]; exact nI_0)))
theorem dm_if_ne (hx : p.tables.exec = Jvm.exec) (hb : c.code = cc) {a : Nat} {off : Int} {tgt : Nat} (ha : a < 2 ^ 31) (hdg : decode cc pc = .ok (.ifCond .ne off, 3)) (ht : (pc : Int) + off = (tgt : Int)) (kt : a ≠ 0 → W p l e R s m args below meth c H locs cells slots Q (F0 m tgt ls rest)) (kf : a = 0 → W p l e R s m args below meth c H locs cells slots Q (F0 m (pc + 3) ls rest)) : W p l e R s m args below meth c H locs cells slots Q (F0 m pc ls (.int (nI a) :: rest)) :=
  lv_if_ne hx hb hdg ht (fun h => kt (fun e0 => h (by rw [e0]; exact nI_0))) (fun h => kf ((nI_eq ha (by decide)).mp (h.trans nI_0.symm)))
theorem dm_if_gt (hx : p.tables.exec = Jvm.exec) (hb : c.code = cc) {a : Nat} {off : Int} {tgt : Nat} (ha : a < 2 ^ 31) (hdg : decode cc pc = .ok (.ifCond .gt off, 3)) (ht : (pc : Int) + off = (tgt : Int)) (kt : 0 < a → W p l e R s m args below meth c H locs cells slots Q (F0 m tgt ls rest)) (kf : a = 0 → W p l e R s m args below meth c H locs cells slots Q (F0 m (pc + 3) ls rest)) : W p l e R s m args below meth c H locs cells slots Q (F0 m pc ls (.int (nI a) :: rest)) :=
  lv_if_gt hx hb hdg ht (fun h => kt ((nI_ltI (a := 0) (by decide) ha).mp (by rw [nI_0]; exact h))) (fun h => kf (Nat.eq_zero_of_not_pos (fun q => h (by rw [← nI_0]; exact (nI_ltI (a := 0) (by decide) ha).mpr q))))
theorem dm_if_le (hx : p.tables.exec = Jvm.exec) (hb : c.code = cc) {a : Nat} {off : Int} {tgt : Nat} (ha : a < 2 ^ 31) (hdg : decode cc pc = .ok (.ifCond .le off, 3)) (ht : (pc : Int) + off = (tgt : Int)) (kt : a = 0 → W p l e R s m args below meth c H locs cells slots Q (F0 m tgt ls rest)) (kf : 0 < a → W p l e R s m args below meth c H locs cells slots Q (F0 m (pc + 3) ls rest)) : W p l e R s m args below meth c H locs cells slots Q (F0 m pc ls (.int (nI a) :: rest)) :=
  lv_if_le hx hb hdg ht (fun h => kt (by have := (nI_leI (b := 0) ha (by decide)).mp (by rw [nI_0]; exact h); omega)) (fun h => kf (Nat.pos_of_ne_zero (fun q => h (by rw [← nI_0]; exact (nI_leI (b := 0) ha (by decide)).mpr (Nat.le_of_eq q)))))
theorem dm_if_lt (hx : p.tables.exec = Jvm.exec) (hb : c.code = cc) {a : Nat} {off : Int} {tgt : Nat} (ha : a < 2 ^ 31) (hdg : decode cc pc = .ok (.ifCond .lt off, 3)) (ht : (pc : Int) + off = (tgt : Int)) (kt : False → W p l e R s m args below meth c H locs cells slots Q (F0 m tgt ls rest)) (kf : True → W p l e R s m args below meth c H locs cells slots Q (F0 m (pc + 3) ls rest)) : W p l e R s m args below meth c H locs cells slots Q (F0 m pc ls (.int (nI a) :: rest)) :=
  lv_if_lt hx hb hdg ht (fun h => kt (nI_pos ha h)) (fun h => kf (trivial))
theorem dm_if_ge (hx : p.tables.exec = Jvm.exec) (hb : c.code = cc) {a : Nat} {off : Int} {tgt : Nat} (ha : a < 2 ^ 31) (hdg : decode cc pc = .ok (.ifCond .ge off, 3)) (ht : (pc : Int) + off = (tgt : Int)) (kt : True → W p l e R s m args below meth c H locs cells slots Q (F0 m tgt ls rest)) (kf : False → W p l e R s m args below meth c H locs cells slots Q (F0 m (pc + 3) ls rest)) : W p l e R s m args below meth c H locs cells slots Q (F0 m pc ls (.int (nI a) :: rest)) :=
  lv_if_ge hx hb hdg ht (fun h => kt (trivial)) (fun h => kf (h (nI_pos' ha)))
end DMX
