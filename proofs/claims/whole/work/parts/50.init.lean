/-! constructors: cells come -/
def rmc (d mc ms : Nat) : Room := { frames := d, cells := mc, slots := ms, locals := 40 * d }
def MVc (l : Launch) (y : MethodName) (cw : Cond) (d mc ms : Nat) (D : va_G) (tys : List (ClassId × FieldType)) (av : List Value) (wc : va_W) {S : Type} (post : S → Prop) (w1 : S → va_W) : Prop :=
  ∀ sz, Met l y (cw :: kG) (rmc d mc ms) (va_Pc av (dm_Pre D tys wc sz)) (va_Qv post (dm_B D tys w1 (va_A wc sz)) (va_A wc sz)) mc ms (va_A wc sz)
section DMC
variable {p : Program} {l : Launch} {e : Env} {R : Room} {s : State} {m : MethodId} {args : Array Value} {below : List Frame} {meth : Method} {c : Code} {H : Heap} {locs : List Loc} {cells slots : Nat} {Q : State → Prop}
variable {pc : Nat} {ls : Array Slot} {rest st0 : List Value} {D : va_G} {tys : List (ClassId × FieldType)} {A : Nat → Prop} {ws wc wr : va_W} {cc : ByteArray} {nL : Nat} {own : String} {ret0 : Option FieldType} {H0 : Heap}
theorem MVc.of {y : MethodName} {maxL d mc ms : Nat} {ret : Option FieldType} {av : List Value} {S : Type} {post : S → Prop} {w1 : S → va_W} (hy : plainName y.cls = true) (hlen : (lg_sl av).length ≤ maxL)
    (body : ∀ (p : Program) (e : Env) (s : State) (m : MethodId) (below : List Frame) (meth : Method) (c : Code) (ls : Array Slot) (A : Nat → Prop), dm_C p s m av.toArray meth c cc maxL ret y.cls → (∀ q : Nat, s.heap.size ≤ q → A q) → va_P D vwCl wc s.heap → va_K D vwCl tys s → va_D A wc → va_S A s.heap s.heap [] → meth.name = y.name → lv_has ls maxL (lv_args 0 av) →
      W p l e (rmc d mc ms) s m av.toArray below meth c s.heap [] 0 0 (MQ below (va_Qv post (dm_B D tys w1 A) A) av.toArray s mc ms A) (F0 m 0 ls [])) : MVc l y (Cond.code y cc maxL ret) d mc ms D tys av wc post w1 := fun sz =>
  dm_start hy hlen (fun p e s m below meth c ls hC hsz hP hK hD hn hl => by subst hsz; exact body p e s m below meth c ls _ hC (fun _ h => Or.inr h) hP hK hD va_S.rf hn hl)
theorem dm_newa {atype : ArrayType} {ty : FieldType} {cT : ClassId} {n : Int32} {N : Nat} (t0 : Nat) (hx : p.tables.exec = Jvm.exec) (hb : c.code = cc) (harr : (Cond.arrayClass ty).before args s = true) (hty : newarray.typeOf atype = ty) (hdef : defaultValue ty = .int 0) (hra : ∀ cA, va_RA s cA ty → s.vm.findClass ("[" ++ ty.toString) = some cA) (hK : va_K D vwCl tys s) (ht : tys[t0]? = some (cT, ty)) (hP : va_P D vwCl ws H) (hD : va_D A ws) (hS : va_S A H0 H locs) (hA : ∀ q, H0.size ≤ q → A q)
    (hn : ¬ n < 0) (hN : n.toNatClampNeg = N) (hbytes : N * componentBytes ty ≤ 536870912) (hcells : cells + 1 ≤ R.cells) (hslots : slots + N ≤ R.slots) (hdg : decode cc pc = .ok (.newarray atype, 2))
    (kk : ∀ (q : Nat) (H1 : Heap), va_P D vwCl (ws ++ [(q, .inl (cT, N, .inl (fun _ => 0)))]) H1 → va_D A (ws ++ [(q, .inl (cT, N, .inl (fun _ => 0)))]) → va_S A H0 H1 locs →
      W p l e R s m args below meth c H1 locs (cells + 1) (slots + N) Q (F0 m (pc + 2) ls (.ref q :: rest))) : W p l e R s m args below meth c H locs cells slots Q (F0 m pc ls (.int n :: rest)) := by
  refine va_newa (a0 := (N, .inl (fun _ => 0))) hx hb (by rw [hty]; exact harr) hty hK hP hD hS hA (fun cA => by rw [vp_cell_i, hdef]) hn hN hbytes hcells hslots hdg (fun q cA H1 hK1 hP1 hD1 hS1 => ?_)
  have h1 := hra _ ((hK1.2 tys.length (cA, ty) (by rw [List.getElem?_append_right (Nat.le_refl _), Nat.sub_self]; rfl)).2)
  have h2 := hra _ ((hK.2 t0 _ ht).2)
  have h3 : cA = cT := Option.some.inj (h1.symm.trans h2)
  subst h3
  exact kk q H1 hP1 hD1 hS1
theorem dm_rIN {y : MethodName} {host : String} {bytes : ByteArray} {maxL mc ms n index : Nat} {rm : Room} {Pc : Array Value → State → Prop} {Qc : Array Value → State → Outcome → State → Prop} {free : Addr → Prop} {b : Addr} {As : List Value} {lv : List (Nat × Value)}
    (hC : dm_C p s m args meth c cc nL ret0 own) (hl : lv_has ls nL lv) (hM : Met l y (Cond.code y bytes maxL none :: kG) rm Pc Qc mc ms free) (hcode : Cond.code y bytes maxL none ∈ kG) (hini : Cond.initialized y.cls ∈ kG) (hinst : Cond.instanceMethod y ∈ kG) (hlink : Cond.methodLinkNest own index y host ∈ kN) (hnm : y.name = "<init>")
    (hd : y.cls ≠ "java/lang/invoke/MethodHandle" ∧ y.cls ≠ "java/lang/invoke/VarHandle" ∧ (parseMethodDescriptor y.desc).map (fun d => d.parameters.length) = some n) (hR : rm.frames + 1 ≤ R.frames ∧ 8 + (maxL + 11) + rm.locals ≤ R.locals) (hrc : rm.cells = mc) (hrs : rm.slots = ms) (hp : PreS s H Pc (.ref b :: As))
    (hn : As.length = n) (hst : st0 = As.reverse ++ .ref b :: rest) (hW : (rest.map fun v => v.category).sum ≤ 8) (hdg : decode cc pc = .ok (.invokespecial index, 3)) (hf : cells + mc ≤ R.cells ∧ slots + ms ≤ R.slots) :
    va_Run p l e R s m args below meth c H locs cells slots mc ms (F0 m pc ls st0) rest (Qc (Value.ref b :: As).toArray) free := by
  obtain ⟨hx, hb, hr, hml, hown, hts, hlocks, hN⟩ := hC
  exact va_runIN (host := host) (Ts := kG) ⟨hx, hb, hml, hown, hts⟩ hM ⟨va_cnB n hts (gG' hcode) rfl hrc hrs (hN _ hlink) (hts _ hini) hd hR, hnm, hts _ hinst⟩ hp rfl hn hl.1 hst (lv_room hW) hdg hf
theorem dm_rI {y : MethodName} {bytes : ByteArray} {maxL mc ms n index : Nat} {rm : Room} {Pc : Array Value → State → Prop} {Qc : Array Value → State → Outcome → State → Prop} {free : Addr → Prop} {b : Addr} {As : List Value} {lv : List (Nat × Value)}
    (hC : dm_C p s m args meth c cc nL ret0 own) (hl : lv_has ls nL lv) (hM : Met l y (Cond.code y bytes maxL none :: kG) rm Pc Qc mc ms free) (hcode : Cond.code y bytes maxL none ∈ kG) (hini : Cond.initialized y.cls ∈ kG) (hinst : Cond.instanceMethod y ∈ kG) (hlink : Cond.methodLink own index y ∈ kG) (hnm : y.name = "<init>")
    (hd : y.cls ≠ "java/lang/invoke/MethodHandle" ∧ y.cls ≠ "java/lang/invoke/VarHandle" ∧ (parseMethodDescriptor y.desc).map (fun d => d.parameters.length) = some n) (hR : rm.frames + 1 ≤ R.frames ∧ 8 + (maxL + 11) + rm.locals ≤ R.locals) (hrc : rm.cells = mc) (hrs : rm.slots = ms) (hp : PreS s H Pc (.ref b :: As))
    (hn : As.length = n) (hst : st0 = As.reverse ++ .ref b :: rest) (hW : (rest.map fun v => v.category).sum ≤ 8) (hdg : decode cc pc = .ok (.invokespecial index, 3)) (hf : cells + mc ≤ R.cells ∧ slots + ms ≤ R.slots) :
    va_Run p l e R s m args below meth c H locs cells slots mc ms (F0 m pc ls st0) rest (Qc (Value.ref b :: As).toArray) free := by
  obtain ⟨hx, hb, hr, hml, hown, hts, hlocks, hN⟩ := hC
  exact va_runI (Ts := kG) ⟨hx, hb, hml, hown, hts⟩ hM ⟨callB_of n hts (gG' hcode) rfl hrc hrs (hts _ hini) (hts _ hlink) hd hR, hnm, hts _ hinst⟩ hp rfl hn hl.1 hst (lv_room hW) hdg hf
theorem dm_govc {S : Type} {post : S → Prop} {w1 : S → va_W} {a : Array Value} {mc ms : Nat} (hr : va_Run p l e R s m args below meth c H locs cells slots mc ms (F0 m pc ls st0) rest (va_Qv post (dm_B D tys w1 (va_A wc H.size)) (va_A wc H.size) a) (va_A wc H.size))
    (hP : va_P D vwCl ws H) (hD : va_D A ws) (hS : va_S A s.heap H locs) (hA : ∀ q, s.heap.size ≤ q → A q) (isC isR : List Nat) (hC : isC.map (fun i => ws[i]?) = wc.map some) (hR : isR.map (fun i => ws[i]?) = wr.map some) (hn : va_nd isR = true) (hdis : ∀ i ∈ isR, i ∉ isC)
    (kk : ∀ (u : S) (H1 : Heap) (locs1 : List Loc), post u → va_P D vwCl (wr ++ w1 u) H1 → va_D A (wr ++ w1 u) → va_S A s.heap H1 locs1 → W p l e R s m args below meth c H1 locs1 (cells + mc) (slots + ms) Q (F0 m (pc + 3) ls rest)) : W p l e R s m args below meth c H locs cells slots Q (F0 m pc ls st0) := by
  have hF := va_free (wc := wc) hD hS hA isC hC
  refine va_callv hr hS (fun q _ h => hF q h) hF (fun u t H1 locs1 ht hvm hw hB hz1 hk1 hS1 => ?_)
  obtain ⟨hP1, hK1, hD1⟩ := hB
  rw [ht] at hP1
  obtain ⟨hP2, hD2⟩ := va_join hP hD isC isR hC hR hn hdis hk1 hF hP1 hD1
  exact kk u H1 locs1 hw hP2 hD2 hS1
end DMC

set_option maxRecDepth 100000 in
set_option maxHeartbeats 4000000 in
theorem c_X0_init (l : Launch) (D : va_G) (cB cI cC : ClassId) (h : Nat) : MVc l yX0_init (Cond.code yX0_init cX0_init 1 none) 1 1 65536 D (TY cB cI cC) [.ref h] [(h, .inr (0, [.null, .int 0]))] (S := Nat) (fun _ => True) (fun a => [(h, .inr (0, [.ref a, .int (nI 0)])), (a, .inl (cB, 65536, .inl (fun _ => 0)))]) := by
  refine MVc.of (by decide) (Nat.le_of_ble_eq_true rfl) ?_
  intro p e s m below meth c ls A hC hA hP hK hD hS hin hl
  obtain ⟨hx, hb, hr, hml, hown, hts, hlocks, hN⟩ := id hC
  have hown : s.vm.findClass RX0 = some m.cls := hown
  have hin : meth.name = "<init>" := hin
  have hl : lv_has ls 1 [(0, .ref h)] := hl
  refine lv_aload_n hx hb dX0_init_0 rfl (lv_at hl 0 rfl) ?_
  refine W.objInit hx hb hown (hts _ kml_X0_3) (hts _ kim_O_init) (hts _ kco_O_init) rfl (by rw [hml]; exact hl.1) rfl dX0_init_1 (Nat.le_of_ble_eq_true rfl) (Nat.le_of_ble_eq_true rfl) ?_
  refine W.eq (g2 := F0 m 4 ls []) rfl ?_
  refine lv_aload_n hx hb dX0_init_4 rfl (lv_at hl 0 rfl) ?_
  refine lv_ldc (v := nI 65536) hx hb hown (hts _ kct_X0_9) dX0_init_5 ?_
  refine dm_newa (N := 65536) 0 hx hb (hts _ kac_byte) rfl rfl (fun _ h => h) hK rfl hP hD hS hA (nI_pos (by decide)) (nI_clamp (by decide)) (by decide) (Nat.le_of_ble_eq_true rfl) (Nat.le_of_ble_eq_true rfl) dX0_init_7 (fun a H hP hD hS => ?_)
  have hP : va_P D vwCl [(h, .inr (0, [.null, .int 0])), (a, .inl (cB, 65536, .inl (fun _ => 0)))] H := hP
  have hD : va_D A [(h, .inr (0, [.null, .int 0])), (a, .inl (cB, 65536, .inl (fun _ => 0)))] := hD
  refine va_putF (D := D) (ci := 0) (v := .ref a) (ty := .array .byte) (C := RX0) (T := TX0) (N := 2) hx hb hts kin_X0_w tyX0 tyX0_ok nmX0 hown hK hP hD hS 0 rfl rfl 0 (by decide) (hts _ kfl_X0_10) (fun _ h9 => h9) rfl hin rfl (by decide +kernel) rfl rfl (Nat.le_of_ble_eq_true rfl) dX0_init_9 (fun H locs hP hD hS => ?_)
  have hP : va_P D vwCl [(h, .inr (0, [.ref a, .int 0])), (a, .inl (cB, 65536, .inl (fun _ => 0)))] H := hP
  have hD : va_D A [(h, .inr (0, [.ref a, .int 0])), (a, .inl (cB, 65536, .inl (fun _ => 0)))] := hD
  refine lv_aload_n hx hb dX0_init_12 rfl (lv_at hl 0 rfl) ?_
  refine lv_iconst (v := nI 0) hx hb dX0_init_13 (by decide) ?_
  refine va_put (D := D) (ci := 0) (v := .int (nI 0)) (ty := .int) (C := RX0) (T := TX0) (N := 2) hx hb hts kin_X0_w tyX0 tyX0_ok nmX0 hown hK hP hD hS 0 rfl rfl 1 (by decide) (hts _ kfl_X0_16) (fun _ h9 => h9) rfl (by decide +kernel) rfl rfl (Nat.le_of_ble_eq_true rfl) dX0_init_14 (fun H locs hP hD hS => ?_)
  have hP : va_P D vwCl [(h, .inr (0, [.ref a, .int (nI 0)])), (a, .inl (cB, 65536, .inl (fun _ => 0)))] H := hP
  have hD : va_D A [(h, .inr (0, [.ref a, .int (nI 0)])), (a, .inl (cB, 65536, .inl (fun _ => 0)))] := hD
  refine W.widen (k := 1) (n := 65536) (by decide) (by decide) ?_
  exact dm_vret hC hK a trivial hP hD hS dX0_init_17

set_option maxRecDepth 100000 in
set_option maxHeartbeats 4000000 in
theorem c_X1_init (l : Launch) (D : va_G) (cB cI cC : ClassId) (h : Nat) : MVc l yX1_init (Cond.code yX1_init cX1_init 1 none) 1 1 65536 D (TY cB cI cC) [.ref h] [(h, .inr (1, [.null, .int 0]))] (S := Nat) (fun _ => True) (fun a => [(h, .inr (1, [.ref a, .int (nI 65536)])), (a, .inl (cB, 65536, .inl (fun _ => 0)))]) := by
  refine MVc.of (by decide) (Nat.le_of_ble_eq_true rfl) ?_
  intro p e s m below meth c ls A hC hA hP hK hD hS hin hl
  obtain ⟨hx, hb, hr, hml, hown, hts, hlocks, hN⟩ := id hC
  have hown : s.vm.findClass RX1 = some m.cls := hown
  have hin : meth.name = "<init>" := hin
  have hl : lv_has ls 1 [(0, .ref h)] := hl
  refine lv_aload_n hx hb dX1_init_0 rfl (lv_at hl 0 rfl) ?_
  refine W.objInit hx hb hown (hts _ kml_X1_3) (hts _ kim_O_init) (hts _ kco_O_init) rfl (by rw [hml]; exact hl.1) rfl dX1_init_1 (Nat.le_of_ble_eq_true rfl) (Nat.le_of_ble_eq_true rfl) ?_
  refine W.eq (g2 := F0 m 4 ls []) rfl ?_
  refine lv_aload_n hx hb dX1_init_4 rfl (lv_at hl 0 rfl) ?_
  refine lv_ldc (v := nI 65536) hx hb hown (hts _ kct_X1_9) dX1_init_5 ?_
  refine dm_newa (N := 65536) 0 hx hb (hts _ kac_byte) rfl rfl (fun _ h => h) hK rfl hP hD hS hA (nI_pos (by decide)) (nI_clamp (by decide)) (by decide) (Nat.le_of_ble_eq_true rfl) (Nat.le_of_ble_eq_true rfl) dX1_init_7 (fun a H hP hD hS => ?_)
  have hP : va_P D vwCl [(h, .inr (1, [.null, .int 0])), (a, .inl (cB, 65536, .inl (fun _ => 0)))] H := hP
  have hD : va_D A [(h, .inr (1, [.null, .int 0])), (a, .inl (cB, 65536, .inl (fun _ => 0)))] := hD
  refine va_putF (D := D) (ci := 1) (v := .ref a) (ty := .array .byte) (C := RX1) (T := TX1) (N := 2) hx hb hts kin_X1_w tyX1 tyX1_ok nmX1 hown hK hP hD hS 0 rfl rfl 0 (by decide) (hts _ kfl_X1_10) (fun _ h9 => h9) rfl hin rfl (by decide +kernel) rfl rfl (Nat.le_of_ble_eq_true rfl) dX1_init_9 (fun H locs hP hD hS => ?_)
  have hP : va_P D vwCl [(h, .inr (1, [.ref a, .int 0])), (a, .inl (cB, 65536, .inl (fun _ => 0)))] H := hP
  have hD : va_D A [(h, .inr (1, [.ref a, .int 0])), (a, .inl (cB, 65536, .inl (fun _ => 0)))] := hD
  refine lv_aload_n hx hb dX1_init_12 rfl (lv_at hl 0 rfl) ?_
  refine lv_aload_n hx hb dX1_init_13 rfl (lv_at hl 0 rfl) ?_
  refine va_get (D := D) (ci := 1) (C := RX1) (T := TX1) (N := 2) (v := .ref a) hx hb hts kin_X1_w hown hK hP 0 rfl rfl 0 (by decide) (hts _ kfl_X1_10) (fun _ h9 => h9) rfl dX1_init_14 ?_
  refine va_alen (v := nI 65536) hx hb hK hP 1 0 rfl rfl rfl dX1_init_17 ?_
  refine va_put (D := D) (ci := 1) (v := .int (nI 65536)) (ty := .int) (C := RX1) (T := TX1) (N := 2) hx hb hts kin_X1_w tyX1 tyX1_ok nmX1 hown hK hP hD hS 0 rfl rfl 1 (by decide) (hts _ kfl_X1_16) (fun _ h9 => h9) rfl (by decide +kernel) rfl rfl (Nat.le_of_ble_eq_true rfl) dX1_init_18 (fun H locs hP hD hS => ?_)
  have hP : va_P D vwCl [(h, .inr (1, [.ref a, .int (nI 65536)])), (a, .inl (cB, 65536, .inl (fun _ => 0)))] H := hP
  have hD : va_D A [(h, .inr (1, [.ref a, .int (nI 65536)])), (a, .inl (cB, 65536, .inl (fun _ => 0)))] := hD
  refine W.widen (k := 1) (n := 65536) (by decide) (by decide) ?_
  exact dm_vret hC hK a trivial hP hD hS dX1_init_21

set_option maxRecDepth 100000 in
set_option maxHeartbeats 4000000 in
theorem c_X2_init (l : Launch) (D : va_G) (cB cI cC : ClassId) (h N : Nat) (hN2 : 2 ≤ N) (hNm : N ≤ 4096) : MVc l yX2_init (Cond.code yX2_init cX2_init 2 none) 1 1 N D (TY cB cI cC) [.ref h, .int (nI N)] [(h, .inr (2, [.null, .int 0]))] (S := Nat) (fun _ => True) (fun a => [(h, .inr (2, [.ref a, .int (nI 0)])), (a, .inl (cI, N, .inl (fun _ => 0)))]) := by
  refine MVc.of (by decide) (Nat.le_of_ble_eq_true rfl) ?_
  intro p e s m below meth c ls A hC hA hP hK hD hS hin hl
  obtain ⟨hx, hb, hr, hml, hown, hts, hlocks, hN⟩ := id hC
  have hown : s.vm.findClass RX2 = some m.cls := hown
  have hin : meth.name = "<init>" := hin
  have hl : lv_has ls 2 [(0, .ref h), (1, .int (nI N))] := hl
  have hNb : N < 2 ^ 31 := by omega
  refine lv_aload_n hx hb dX2_init_0 rfl (lv_at hl 0 rfl) ?_
  refine W.objInit hx hb hown (hts _ kml_X2_3) (hts _ kim_O_init) (hts _ kco_O_init) rfl (by rw [hml]; exact hl.1) rfl dX2_init_1 (Nat.le_of_ble_eq_true rfl) (Nat.le_of_ble_eq_true rfl) ?_
  refine W.eq (g2 := F0 m 4 ls []) rfl ?_
  refine lv_aload_n hx hb dX2_init_4 rfl (lv_at hl 0 rfl) ?_
  refine lv_iload_n hx hb dX2_init_5 rfl (lv_at hl 1 rfl) ?_
  refine lv_iconst (v := nI 2) hx hb dX2_init_6 (by decide) ?_
  refine va_mmax hx hb (hml.trans hl.1.symm) hown (hts _ kml_X2_9) (hts _ kst_J9_max_7cf53) (hts _ ki_J9) (hts _ kco_J9_max_7cf53) (Nat.le_of_ble_eq_true rfl) (Nat.le_of_ble_eq_true rfl) (Nat.zero_le _) (Nat.zero_le _) dX2_init_7 ?_
  refine dm_ti (y := nI N) (by by_cases h9 : nI N < nI 2; (exact absurd h9 (nI_nlt hN2 hNb)); exact if_neg h9) ?_
  refine dm_newa (N := N) 1 hx hb (hts _ kac_int) rfl rfl (fun _ h => h) hK rfl hP hD hS hA (nI_pos hNb) (nI_clamp hNb) (by show N * 4 ≤ 536870912; omega) (Nat.le_of_ble_eq_true rfl) (by show 0 + N ≤ N; omega) dX2_init_10 (fun a H hP hD hS => ?_)
  have hP : va_P D vwCl [(h, .inr (2, [.null, .int 0])), (a, .inl (cI, N, .inl (fun _ => 0)))] H := hP
  have hD : va_D A [(h, .inr (2, [.null, .int 0])), (a, .inl (cI, N, .inl (fun _ => 0)))] := hD
  refine va_putF (D := D) (ci := 2) (v := .ref a) (ty := .array .int) (C := RX2) (T := TX2) (N := 2) hx hb hts kin_X2_w tyX2 tyX2_ok nmX2 hown hK hP hD hS 0 rfl rfl 0 (by decide) (hts _ kfl_X2_15) (fun _ h9 => h9) rfl hin rfl (by decide +kernel) rfl rfl (Nat.le_of_ble_eq_true rfl) dX2_init_12 (fun H locs hP hD hS => ?_)
  have hP : va_P D vwCl [(h, .inr (2, [.ref a, .int 0])), (a, .inl (cI, N, .inl (fun _ => 0)))] H := hP
  have hD : va_D A [(h, .inr (2, [.ref a, .int 0])), (a, .inl (cI, N, .inl (fun _ => 0)))] := hD
  refine lv_aload_n hx hb dX2_init_15 rfl (lv_at hl 0 rfl) ?_
  refine lv_iconst (v := nI 0) hx hb dX2_init_16 (by decide) ?_
  refine va_put (D := D) (ci := 2) (v := .int (nI 0)) (ty := .int) (C := RX2) (T := TX2) (N := 2) hx hb hts kin_X2_w tyX2 tyX2_ok nmX2 hown hK hP hD hS 0 rfl rfl 1 (by decide) (hts _ kfl_X2_21) (fun _ h9 => h9) rfl (by decide +kernel) rfl rfl (Nat.le_of_ble_eq_true rfl) dX2_init_17 (fun H locs hP hD hS => ?_)
  have hP : va_P D vwCl [(h, .inr (2, [.ref a, .int (nI 0)])), (a, .inl (cI, N, .inl (fun _ => 0)))] H := hP
  have hD : va_D A [(h, .inr (2, [.ref a, .int (nI 0)])), (a, .inl (cI, N, .inl (fun _ => 0)))] := hD
  refine W.widen (k := 1) (n := N) (by decide) (by omega) ?_
  exact dm_vret hC hK a trivial hP hD hS dX2_init_20

set_option maxRecDepth 100000 in
set_option maxHeartbeats 4000000 in
theorem c_X3_init (l : Launch) (D : va_G) (cB cI cC : ClassId) (h : Nat) : MVc l yX3_init (Cond.code yX3_init cX3_init 1 none) 2 12 137230 D (TY cB cI cC) [.ref h] [(h, .inr (3, [.null, .null, .null, .null, .null, .null, .long 0]))] (S := Nat × Nat × Nat × Nat × Nat × Nat × Nat × Nat × Nat × Nat × Nat × Nat) (fun _ => True) (fun q => [(h, .inr (3, [.ref q.1, .ref q.2.2.1, .ref q.2.2.2.2.1, .ref q.2.2.2.2.2.2.1, .ref q.2.2.2.2.2.2.2.2.1, .ref q.2.2.2.2.2.2.2.2.2.2.1, .long (lN 0)])), (q.1, .inr (0, [.ref q.2.1, .int (nI 0)])), (q.2.1, .inl (cB, 65536, .inl (fun _ => 0))), (q.2.2.1, .inr (1, [.ref q.2.2.2.1, .int (nI 65536)])), (q.2.2.2.1, .inl (cB, 65536, .inl (fun _ => 0))), (q.2.2.2.2.1, .inr (2, [.ref q.2.2.2.2.2.1, .int (nI 0)])), (q.2.2.2.2.2.1, .inl (cI, 2048, .inl (fun _ => 0))), (q.2.2.2.2.2.2.1, .inr (2, [.ref q.2.2.2.2.2.2.2.1, .int (nI 0)])), (q.2.2.2.2.2.2.2.1, .inl (cI, 2048, .inl (fun _ => 0))), (q.2.2.2.2.2.2.2.2.1, .inr (2, [.ref q.2.2.2.2.2.2.2.2.2.1, .int (nI 0)])), (q.2.2.2.2.2.2.2.2.2.1, .inl (cI, 2048, .inl (fun _ => 0))), (q.2.2.2.2.2.2.2.2.2.2.1, .inr (2, [.ref q.2.2.2.2.2.2.2.2.2.2.2, .int (nI 0)])), (q.2.2.2.2.2.2.2.2.2.2.2, .inl (cI, 2, .inl (fun _ => 0)))]) := by
  refine MVc.of (by decide) (Nat.le_of_ble_eq_true rfl) ?_
  intro p e s m below meth c ls A hC hA hP hK hD hS hin hl
  obtain ⟨hx, hb, hr, hml, hown, hts, hlocks, hN⟩ := id hC
  have hown : s.vm.findClass RX3 = some m.cls := hown
  have hin : meth.name = "<init>" := hin
  have hl : lv_has ls 1 [(0, .ref h)] := hl
  refine lv_aload_n hx hb dX3_init_0 rfl (lv_at hl 0 rfl) ?_
  refine W.objInit hx hb hown (hts _ kml_X3_1) (hts _ kim_O_init) (hts _ kco_O_init) rfl (by rw [hml]; exact hl.1) rfl dX3_init_1 (Nat.le_of_ble_eq_true rfl) (Nat.le_of_ble_eq_true rfl) ?_
  refine W.eq (g2 := F0 m 4 ls []) rfl ?_
  refine lv_aload_n hx hb dX3_init_4 rfl (lv_at hl 0 rfl) ?_
  refine va_new (ci := 0) (fs := [.null, .int 0]) (C := RX0) (T := TX0) (N := 2) hx hb hts kin_X0_w tyX0 tyX0_ok hown (hts _ kcl_X3_7) (hts _ kin_X0) (hts _ ki_X0) hK hP hD hS hA rfl (fun j hj => by rcases (show j = 0 ∨ j = 1 by omega) with rfl | rfl <;> rfl) (Nat.le_of_ble_eq_true rfl) (Nat.le_of_ble_eq_true rfl) dX3_init_5 (fun t1 H hP hD hS => ?_)
  have hP : va_P D vwCl [(h, .inr (3, [.null, .null, .null, .null, .null, .null, .long 0])), (t1, .inr (0, [.null, .int 0]))] H := hP
  have hD : va_D A [(h, .inr (3, [.null, .null, .null, .null, .null, .null, .long 0])), (t1, .inr (0, [.null, .int 0]))] := hD
  refine W.widen (k := 1) (n := 2) (by decide) (by decide) ?_
  refine lv_dup hx hb dX3_init_8 rfl ?_
  refine dm_govc (wr := [(h, .inr (3, [.null, .null, .null, .null, .null, .null, .long 0]))]) (dm_rIN (n := 0) (As := []) (rest := [.ref t1, .ref h]) hC hl (c_X0_init l D cB cI cC t1 H.size) kco_X0_init ki_X0 kim_X0_init knl_X3_9 rfl (by decide +kernel) ⟨(Nat.le_of_ble_eq_true rfl), (Nat.le_of_ble_eq_true rfl)⟩ rfl rfl ⟨dm_blind, dm_preU hK hP hD hN [1] (by decide) rfl⟩ rfl rfl (Nat.le_of_ble_eq_true rfl) dX3_init_9 ⟨(Nat.le_of_ble_eq_true rfl), (Nat.le_of_ble_eq_true rfl)⟩) hP hD hS hA [1] [0] rfl rfl (by decide) (by decide) (fun a1 H locs _ hP hD hS => ?_)
  have hP : va_P D vwCl [(h, .inr (3, [.null, .null, .null, .null, .null, .null, .long 0])), (t1, .inr (0, [.ref a1, .int (nI 0)])), (a1, .inl (cB, 65536, .inl (fun _ => 0)))] H := hP
  have hD : va_D A [(h, .inr (3, [.null, .null, .null, .null, .null, .null, .long 0])), (t1, .inr (0, [.ref a1, .int (nI 0)])), (a1, .inl (cB, 65536, .inl (fun _ => 0)))] := hD
  refine W.widen (k := 2) (n := 65538) (by decide) (by decide) ?_
  refine va_putF (D := D) (ci := 3) (v := .ref t1) (ty := .object "DigitMill$TextIn") (C := RX3) (T := TX3) (N := 7) hx hb hts kin_X3_w tyX3 tyX3_ok nmX3 hown hK hP hD hS 0 rfl rfl 0 (by decide) (hts _ kfl_X3_10) (fun _ h9 => h9) rfl hin rfl (by decide +kernel) rfl rfl (Nat.le_of_ble_eq_true rfl) dX3_init_12 (fun H locs hP hD hS => ?_)
  have hP : va_P D vwCl [(h, .inr (3, [.ref t1, .null, .null, .null, .null, .null, .long 0])), (t1, .inr (0, [.ref a1, .int (nI 0)])), (a1, .inl (cB, 65536, .inl (fun _ => 0)))] H := hP
  have hD : va_D A [(h, .inr (3, [.ref t1, .null, .null, .null, .null, .null, .long 0])), (t1, .inr (0, [.ref a1, .int (nI 0)])), (a1, .inl (cB, 65536, .inl (fun _ => 0)))] := hD
  refine lv_aload_n hx hb dX3_init_15 rfl (lv_at hl 0 rfl) ?_
  refine va_new (ci := 1) (fs := [.null, .int 0]) (C := RX1) (T := TX1) (N := 2) hx hb hts kin_X1_w tyX1 tyX1_ok hown (hts _ kcl_X3_16) (hts _ kin_X1) (hts _ ki_X1) hK hP hD hS hA rfl (fun j hj => by rcases (show j = 0 ∨ j = 1 by omega) with rfl | rfl <;> rfl) (Nat.le_of_ble_eq_true rfl) (Nat.le_of_ble_eq_true rfl) dX3_init_16 (fun t2 H hP hD hS => ?_)
  have hP : va_P D vwCl [(h, .inr (3, [.ref t1, .null, .null, .null, .null, .null, .long 0])), (t1, .inr (0, [.ref a1, .int (nI 0)])), (a1, .inl (cB, 65536, .inl (fun _ => 0))), (t2, .inr (1, [.null, .int 0]))] H := hP
  have hD : va_D A [(h, .inr (3, [.ref t1, .null, .null, .null, .null, .null, .long 0])), (t1, .inr (0, [.ref a1, .int (nI 0)])), (a1, .inl (cB, 65536, .inl (fun _ => 0))), (t2, .inr (1, [.null, .int 0]))] := hD
  refine W.widen (k := 3) (n := 65540) (by decide) (by decide) ?_
  refine lv_dup hx hb dX3_init_19 rfl ?_
  refine dm_govc (wr := [(h, .inr (3, [.ref t1, .null, .null, .null, .null, .null, .long 0])), (t1, .inr (0, [.ref a1, .int (nI 0)])), (a1, .inl (cB, 65536, .inl (fun _ => 0)))]) (dm_rIN (n := 0) (As := []) (rest := [.ref t2, .ref h]) hC hl (c_X1_init l D cB cI cC t2 H.size) kco_X1_init ki_X1 kim_X1_init knl_X3_18 rfl (by decide +kernel) ⟨(Nat.le_of_ble_eq_true rfl), (Nat.le_of_ble_eq_true rfl)⟩ rfl rfl ⟨dm_blind, dm_preU hK hP hD hN [3] (by decide) rfl⟩ rfl rfl (Nat.le_of_ble_eq_true rfl) dX3_init_20 ⟨(Nat.le_of_ble_eq_true rfl), (Nat.le_of_ble_eq_true rfl)⟩) hP hD hS hA [3] [0, 1, 2] rfl rfl (by decide) (by decide) (fun a2 H locs _ hP hD hS => ?_)
  have hP : va_P D vwCl [(h, .inr (3, [.ref t1, .null, .null, .null, .null, .null, .long 0])), (t1, .inr (0, [.ref a1, .int (nI 0)])), (a1, .inl (cB, 65536, .inl (fun _ => 0))), (t2, .inr (1, [.ref a2, .int (nI 65536)])), (a2, .inl (cB, 65536, .inl (fun _ => 0)))] H := hP
  have hD : va_D A [(h, .inr (3, [.ref t1, .null, .null, .null, .null, .null, .long 0])), (t1, .inr (0, [.ref a1, .int (nI 0)])), (a1, .inl (cB, 65536, .inl (fun _ => 0))), (t2, .inr (1, [.ref a2, .int (nI 65536)])), (a2, .inl (cB, 65536, .inl (fun _ => 0)))] := hD
  refine W.widen (k := 4) (n := 131076) (by decide) (by decide) ?_
  refine va_putF (D := D) (ci := 3) (v := .ref t2) (ty := .object "DigitMill$TextOut") (C := RX3) (T := TX3) (N := 7) hx hb hts kin_X3_w tyX3 tyX3_ok nmX3 hown hK hP hD hS 0 rfl rfl 1 (by decide) (hts _ kfl_X3_19) (fun _ h9 => h9) rfl hin rfl (by decide +kernel) rfl rfl (Nat.le_of_ble_eq_true rfl) dX3_init_23 (fun H locs hP hD hS => ?_)
  have hP : va_P D vwCl [(h, .inr (3, [.ref t1, .ref t2, .null, .null, .null, .null, .long 0])), (t1, .inr (0, [.ref a1, .int (nI 0)])), (a1, .inl (cB, 65536, .inl (fun _ => 0))), (t2, .inr (1, [.ref a2, .int (nI 65536)])), (a2, .inl (cB, 65536, .inl (fun _ => 0)))] H := hP
  have hD : va_D A [(h, .inr (3, [.ref t1, .ref t2, .null, .null, .null, .null, .long 0])), (t1, .inr (0, [.ref a1, .int (nI 0)])), (a1, .inl (cB, 65536, .inl (fun _ => 0))), (t2, .inr (1, [.ref a2, .int (nI 65536)])), (a2, .inl (cB, 65536, .inl (fun _ => 0)))] := hD
  refine lv_aload_n hx hb dX3_init_26 rfl (lv_at hl 0 rfl) ?_
  refine va_new (ci := 2) (fs := [.null, .int 0]) (C := RX2) (T := TX2) (N := 2) hx hb hts kin_X2_w tyX2 tyX2_ok hown (hts _ kcl_X3_23) (hts _ kin_X2) (hts _ ki_X2) hK hP hD hS hA rfl (fun j hj => by rcases (show j = 0 ∨ j = 1 by omega) with rfl | rfl <;> rfl) (Nat.le_of_ble_eq_true rfl) (Nat.le_of_ble_eq_true rfl) dX3_init_27 (fun t3 H hP hD hS => ?_)
  have hP : va_P D vwCl [(h, .inr (3, [.ref t1, .ref t2, .null, .null, .null, .null, .long 0])), (t1, .inr (0, [.ref a1, .int (nI 0)])), (a1, .inl (cB, 65536, .inl (fun _ => 0))), (t2, .inr (1, [.ref a2, .int (nI 65536)])), (a2, .inl (cB, 65536, .inl (fun _ => 0))), (t3, .inr (2, [.null, .int 0]))] H := hP
  have hD : va_D A [(h, .inr (3, [.ref t1, .ref t2, .null, .null, .null, .null, .long 0])), (t1, .inr (0, [.ref a1, .int (nI 0)])), (a1, .inl (cB, 65536, .inl (fun _ => 0))), (t2, .inr (1, [.ref a2, .int (nI 65536)])), (a2, .inl (cB, 65536, .inl (fun _ => 0))), (t3, .inr (2, [.null, .int 0]))] := hD
  refine W.widen (k := 5) (n := 131078) (by decide) (by decide) ?_
  refine lv_dup hx hb dX3_init_30 rfl ?_
  refine lv_sipush (v := nI 2048) hx hb dX3_init_31 (by decide) ?_
  refine dm_govc (wr := [(h, .inr (3, [.ref t1, .ref t2, .null, .null, .null, .null, .long 0])), (t1, .inr (0, [.ref a1, .int (nI 0)])), (a1, .inl (cB, 65536, .inl (fun _ => 0))), (t2, .inr (1, [.ref a2, .int (nI 65536)])), (a2, .inl (cB, 65536, .inl (fun _ => 0)))]) (dm_rIN (n := 1) (As := [.int (nI 2048)]) (rest := [.ref t3, .ref h]) hC hl (c_X2_init l D cB cI cC t3 2048 (by decide) (by decide) H.size) kco_X2_init ki_X2 kim_X2_init knl_X3_25 rfl (by decide +kernel) ⟨(Nat.le_of_ble_eq_true rfl), (Nat.le_of_ble_eq_true rfl)⟩ rfl rfl ⟨dm_blind, dm_preU hK hP hD hN [5] (by decide) rfl⟩ rfl rfl (Nat.le_of_ble_eq_true rfl) dX3_init_34 ⟨(Nat.le_of_ble_eq_true rfl), (Nat.le_of_ble_eq_true rfl)⟩) hP hD hS hA [5] [0, 1, 2, 3, 4] rfl rfl (by decide) (by decide) (fun a3 H locs _ hP hD hS => ?_)
  have hP : va_P D vwCl [(h, .inr (3, [.ref t1, .ref t2, .null, .null, .null, .null, .long 0])), (t1, .inr (0, [.ref a1, .int (nI 0)])), (a1, .inl (cB, 65536, .inl (fun _ => 0))), (t2, .inr (1, [.ref a2, .int (nI 65536)])), (a2, .inl (cB, 65536, .inl (fun _ => 0))), (t3, .inr (2, [.ref a3, .int (nI 0)])), (a3, .inl (cI, 2048, .inl (fun _ => 0)))] H := hP
  have hD : va_D A [(h, .inr (3, [.ref t1, .ref t2, .null, .null, .null, .null, .long 0])), (t1, .inr (0, [.ref a1, .int (nI 0)])), (a1, .inl (cB, 65536, .inl (fun _ => 0))), (t2, .inr (1, [.ref a2, .int (nI 65536)])), (a2, .inl (cB, 65536, .inl (fun _ => 0))), (t3, .inr (2, [.ref a3, .int (nI 0)])), (a3, .inl (cI, 2048, .inl (fun _ => 0)))] := hD
  refine W.widen (k := 6) (n := 133126) (by decide) (by decide) ?_
  refine va_putF (D := D) (ci := 3) (v := .ref t3) (ty := .object "DigitMill$Whole") (C := RX3) (T := TX3) (N := 7) hx hb hts kin_X3_w tyX3 tyX3_ok nmX3 hown hK hP hD hS 0 rfl rfl 2 (by decide) (hts _ kfl_X3_28) (fun _ h9 => h9) rfl hin rfl (by decide +kernel) rfl rfl (Nat.le_of_ble_eq_true rfl) dX3_init_37 (fun H locs hP hD hS => ?_)
  have hP : va_P D vwCl [(h, .inr (3, [.ref t1, .ref t2, .ref t3, .null, .null, .null, .long 0])), (t1, .inr (0, [.ref a1, .int (nI 0)])), (a1, .inl (cB, 65536, .inl (fun _ => 0))), (t2, .inr (1, [.ref a2, .int (nI 65536)])), (a2, .inl (cB, 65536, .inl (fun _ => 0))), (t3, .inr (2, [.ref a3, .int (nI 0)])), (a3, .inl (cI, 2048, .inl (fun _ => 0)))] H := hP
  have hD : va_D A [(h, .inr (3, [.ref t1, .ref t2, .ref t3, .null, .null, .null, .long 0])), (t1, .inr (0, [.ref a1, .int (nI 0)])), (a1, .inl (cB, 65536, .inl (fun _ => 0))), (t2, .inr (1, [.ref a2, .int (nI 65536)])), (a2, .inl (cB, 65536, .inl (fun _ => 0))), (t3, .inr (2, [.ref a3, .int (nI 0)])), (a3, .inl (cI, 2048, .inl (fun _ => 0)))] := hD
  refine lv_aload_n hx hb dX3_init_40 rfl (lv_at hl 0 rfl) ?_
  refine va_new (ci := 2) (fs := [.null, .int 0]) (C := RX2) (T := TX2) (N := 2) hx hb hts kin_X2_w tyX2 tyX2_ok hown (hts _ kcl_X3_23) (hts _ kin_X2) (hts _ ki_X2) hK hP hD hS hA rfl (fun j hj => by rcases (show j = 0 ∨ j = 1 by omega) with rfl | rfl <;> rfl) (Nat.le_of_ble_eq_true rfl) (Nat.le_of_ble_eq_true rfl) dX3_init_41 (fun t4 H hP hD hS => ?_)
  have hP : va_P D vwCl [(h, .inr (3, [.ref t1, .ref t2, .ref t3, .null, .null, .null, .long 0])), (t1, .inr (0, [.ref a1, .int (nI 0)])), (a1, .inl (cB, 65536, .inl (fun _ => 0))), (t2, .inr (1, [.ref a2, .int (nI 65536)])), (a2, .inl (cB, 65536, .inl (fun _ => 0))), (t3, .inr (2, [.ref a3, .int (nI 0)])), (a3, .inl (cI, 2048, .inl (fun _ => 0))), (t4, .inr (2, [.null, .int 0]))] H := hP
  have hD : va_D A [(h, .inr (3, [.ref t1, .ref t2, .ref t3, .null, .null, .null, .long 0])), (t1, .inr (0, [.ref a1, .int (nI 0)])), (a1, .inl (cB, 65536, .inl (fun _ => 0))), (t2, .inr (1, [.ref a2, .int (nI 65536)])), (a2, .inl (cB, 65536, .inl (fun _ => 0))), (t3, .inr (2, [.ref a3, .int (nI 0)])), (a3, .inl (cI, 2048, .inl (fun _ => 0))), (t4, .inr (2, [.null, .int 0]))] := hD
  refine W.widen (k := 7) (n := 133128) (by decide) (by decide) ?_
  refine lv_dup hx hb dX3_init_44 rfl ?_
  refine lv_sipush (v := nI 2048) hx hb dX3_init_45 (by decide) ?_
  refine dm_govc (wr := [(h, .inr (3, [.ref t1, .ref t2, .ref t3, .null, .null, .null, .long 0])), (t1, .inr (0, [.ref a1, .int (nI 0)])), (a1, .inl (cB, 65536, .inl (fun _ => 0))), (t2, .inr (1, [.ref a2, .int (nI 65536)])), (a2, .inl (cB, 65536, .inl (fun _ => 0))), (t3, .inr (2, [.ref a3, .int (nI 0)])), (a3, .inl (cI, 2048, .inl (fun _ => 0)))]) (dm_rIN (n := 1) (As := [.int (nI 2048)]) (rest := [.ref t4, .ref h]) hC hl (c_X2_init l D cB cI cC t4 2048 (by decide) (by decide) H.size) kco_X2_init ki_X2 kim_X2_init knl_X3_25 rfl (by decide +kernel) ⟨(Nat.le_of_ble_eq_true rfl), (Nat.le_of_ble_eq_true rfl)⟩ rfl rfl ⟨dm_blind, dm_preU hK hP hD hN [7] (by decide) rfl⟩ rfl rfl (Nat.le_of_ble_eq_true rfl) dX3_init_48 ⟨(Nat.le_of_ble_eq_true rfl), (Nat.le_of_ble_eq_true rfl)⟩) hP hD hS hA [7] [0, 1, 2, 3, 4, 5, 6] rfl rfl (by decide) (by decide) (fun a4 H locs _ hP hD hS => ?_)
  have hP : va_P D vwCl [(h, .inr (3, [.ref t1, .ref t2, .ref t3, .null, .null, .null, .long 0])), (t1, .inr (0, [.ref a1, .int (nI 0)])), (a1, .inl (cB, 65536, .inl (fun _ => 0))), (t2, .inr (1, [.ref a2, .int (nI 65536)])), (a2, .inl (cB, 65536, .inl (fun _ => 0))), (t3, .inr (2, [.ref a3, .int (nI 0)])), (a3, .inl (cI, 2048, .inl (fun _ => 0))), (t4, .inr (2, [.ref a4, .int (nI 0)])), (a4, .inl (cI, 2048, .inl (fun _ => 0)))] H := hP
  have hD : va_D A [(h, .inr (3, [.ref t1, .ref t2, .ref t3, .null, .null, .null, .long 0])), (t1, .inr (0, [.ref a1, .int (nI 0)])), (a1, .inl (cB, 65536, .inl (fun _ => 0))), (t2, .inr (1, [.ref a2, .int (nI 65536)])), (a2, .inl (cB, 65536, .inl (fun _ => 0))), (t3, .inr (2, [.ref a3, .int (nI 0)])), (a3, .inl (cI, 2048, .inl (fun _ => 0))), (t4, .inr (2, [.ref a4, .int (nI 0)])), (a4, .inl (cI, 2048, .inl (fun _ => 0)))] := hD
  refine W.widen (k := 8) (n := 135176) (by decide) (by decide) ?_
  refine va_putF (D := D) (ci := 3) (v := .ref t4) (ty := .object "DigitMill$Whole") (C := RX3) (T := TX3) (N := 7) hx hb hts kin_X3_w tyX3 tyX3_ok nmX3 hown hK hP hD hS 0 rfl rfl 3 (by decide) (hts _ kfl_X3_32) (fun _ h9 => h9) rfl hin rfl (by decide +kernel) rfl rfl (Nat.le_of_ble_eq_true rfl) dX3_init_51 (fun H locs hP hD hS => ?_)
  have hP : va_P D vwCl [(h, .inr (3, [.ref t1, .ref t2, .ref t3, .ref t4, .null, .null, .long 0])), (t1, .inr (0, [.ref a1, .int (nI 0)])), (a1, .inl (cB, 65536, .inl (fun _ => 0))), (t2, .inr (1, [.ref a2, .int (nI 65536)])), (a2, .inl (cB, 65536, .inl (fun _ => 0))), (t3, .inr (2, [.ref a3, .int (nI 0)])), (a3, .inl (cI, 2048, .inl (fun _ => 0))), (t4, .inr (2, [.ref a4, .int (nI 0)])), (a4, .inl (cI, 2048, .inl (fun _ => 0)))] H := hP
  have hD : va_D A [(h, .inr (3, [.ref t1, .ref t2, .ref t3, .ref t4, .null, .null, .long 0])), (t1, .inr (0, [.ref a1, .int (nI 0)])), (a1, .inl (cB, 65536, .inl (fun _ => 0))), (t2, .inr (1, [.ref a2, .int (nI 65536)])), (a2, .inl (cB, 65536, .inl (fun _ => 0))), (t3, .inr (2, [.ref a3, .int (nI 0)])), (a3, .inl (cI, 2048, .inl (fun _ => 0))), (t4, .inr (2, [.ref a4, .int (nI 0)])), (a4, .inl (cI, 2048, .inl (fun _ => 0)))] := hD
  refine lv_aload_n hx hb dX3_init_54 rfl (lv_at hl 0 rfl) ?_
  refine va_new (ci := 2) (fs := [.null, .int 0]) (C := RX2) (T := TX2) (N := 2) hx hb hts kin_X2_w tyX2 tyX2_ok hown (hts _ kcl_X3_23) (hts _ kin_X2) (hts _ ki_X2) hK hP hD hS hA rfl (fun j hj => by rcases (show j = 0 ∨ j = 1 by omega) with rfl | rfl <;> rfl) (Nat.le_of_ble_eq_true rfl) (Nat.le_of_ble_eq_true rfl) dX3_init_55 (fun t5 H hP hD hS => ?_)
  have hP : va_P D vwCl [(h, .inr (3, [.ref t1, .ref t2, .ref t3, .ref t4, .null, .null, .long 0])), (t1, .inr (0, [.ref a1, .int (nI 0)])), (a1, .inl (cB, 65536, .inl (fun _ => 0))), (t2, .inr (1, [.ref a2, .int (nI 65536)])), (a2, .inl (cB, 65536, .inl (fun _ => 0))), (t3, .inr (2, [.ref a3, .int (nI 0)])), (a3, .inl (cI, 2048, .inl (fun _ => 0))), (t4, .inr (2, [.ref a4, .int (nI 0)])), (a4, .inl (cI, 2048, .inl (fun _ => 0))), (t5, .inr (2, [.null, .int 0]))] H := hP
  have hD : va_D A [(h, .inr (3, [.ref t1, .ref t2, .ref t3, .ref t4, .null, .null, .long 0])), (t1, .inr (0, [.ref a1, .int (nI 0)])), (a1, .inl (cB, 65536, .inl (fun _ => 0))), (t2, .inr (1, [.ref a2, .int (nI 65536)])), (a2, .inl (cB, 65536, .inl (fun _ => 0))), (t3, .inr (2, [.ref a3, .int (nI 0)])), (a3, .inl (cI, 2048, .inl (fun _ => 0))), (t4, .inr (2, [.ref a4, .int (nI 0)])), (a4, .inl (cI, 2048, .inl (fun _ => 0))), (t5, .inr (2, [.null, .int 0]))] := hD
  refine W.widen (k := 9) (n := 135178) (by decide) (by decide) ?_
  refine lv_dup hx hb dX3_init_58 rfl ?_
  refine lv_sipush (v := nI 2048) hx hb dX3_init_59 (by decide) ?_
  refine dm_govc (wr := [(h, .inr (3, [.ref t1, .ref t2, .ref t3, .ref t4, .null, .null, .long 0])), (t1, .inr (0, [.ref a1, .int (nI 0)])), (a1, .inl (cB, 65536, .inl (fun _ => 0))), (t2, .inr (1, [.ref a2, .int (nI 65536)])), (a2, .inl (cB, 65536, .inl (fun _ => 0))), (t3, .inr (2, [.ref a3, .int (nI 0)])), (a3, .inl (cI, 2048, .inl (fun _ => 0))), (t4, .inr (2, [.ref a4, .int (nI 0)])), (a4, .inl (cI, 2048, .inl (fun _ => 0)))]) (dm_rIN (n := 1) (As := [.int (nI 2048)]) (rest := [.ref t5, .ref h]) hC hl (c_X2_init l D cB cI cC t5 2048 (by decide) (by decide) H.size) kco_X2_init ki_X2 kim_X2_init knl_X3_25 rfl (by decide +kernel) ⟨(Nat.le_of_ble_eq_true rfl), (Nat.le_of_ble_eq_true rfl)⟩ rfl rfl ⟨dm_blind, dm_preU hK hP hD hN [9] (by decide) rfl⟩ rfl rfl (Nat.le_of_ble_eq_true rfl) dX3_init_62 ⟨(Nat.le_of_ble_eq_true rfl), (Nat.le_of_ble_eq_true rfl)⟩) hP hD hS hA [9] [0, 1, 2, 3, 4, 5, 6, 7, 8] rfl rfl (by decide) (by decide) (fun a5 H locs _ hP hD hS => ?_)
  have hP : va_P D vwCl [(h, .inr (3, [.ref t1, .ref t2, .ref t3, .ref t4, .null, .null, .long 0])), (t1, .inr (0, [.ref a1, .int (nI 0)])), (a1, .inl (cB, 65536, .inl (fun _ => 0))), (t2, .inr (1, [.ref a2, .int (nI 65536)])), (a2, .inl (cB, 65536, .inl (fun _ => 0))), (t3, .inr (2, [.ref a3, .int (nI 0)])), (a3, .inl (cI, 2048, .inl (fun _ => 0))), (t4, .inr (2, [.ref a4, .int (nI 0)])), (a4, .inl (cI, 2048, .inl (fun _ => 0))), (t5, .inr (2, [.ref a5, .int (nI 0)])), (a5, .inl (cI, 2048, .inl (fun _ => 0)))] H := hP
  have hD : va_D A [(h, .inr (3, [.ref t1, .ref t2, .ref t3, .ref t4, .null, .null, .long 0])), (t1, .inr (0, [.ref a1, .int (nI 0)])), (a1, .inl (cB, 65536, .inl (fun _ => 0))), (t2, .inr (1, [.ref a2, .int (nI 65536)])), (a2, .inl (cB, 65536, .inl (fun _ => 0))), (t3, .inr (2, [.ref a3, .int (nI 0)])), (a3, .inl (cI, 2048, .inl (fun _ => 0))), (t4, .inr (2, [.ref a4, .int (nI 0)])), (a4, .inl (cI, 2048, .inl (fun _ => 0))), (t5, .inr (2, [.ref a5, .int (nI 0)])), (a5, .inl (cI, 2048, .inl (fun _ => 0)))] := hD
  refine W.widen (k := 10) (n := 137226) (by decide) (by decide) ?_
  refine va_putF (D := D) (ci := 3) (v := .ref t5) (ty := .object "DigitMill$Whole") (C := RX3) (T := TX3) (N := 7) hx hb hts kin_X3_w tyX3 tyX3_ok nmX3 hown hK hP hD hS 0 rfl rfl 4 (by decide) (hts _ kfl_X3_35) (fun _ h9 => h9) rfl hin rfl (by decide +kernel) rfl rfl (Nat.le_of_ble_eq_true rfl) dX3_init_65 (fun H locs hP hD hS => ?_)
  have hP : va_P D vwCl [(h, .inr (3, [.ref t1, .ref t2, .ref t3, .ref t4, .ref t5, .null, .long 0])), (t1, .inr (0, [.ref a1, .int (nI 0)])), (a1, .inl (cB, 65536, .inl (fun _ => 0))), (t2, .inr (1, [.ref a2, .int (nI 65536)])), (a2, .inl (cB, 65536, .inl (fun _ => 0))), (t3, .inr (2, [.ref a3, .int (nI 0)])), (a3, .inl (cI, 2048, .inl (fun _ => 0))), (t4, .inr (2, [.ref a4, .int (nI 0)])), (a4, .inl (cI, 2048, .inl (fun _ => 0))), (t5, .inr (2, [.ref a5, .int (nI 0)])), (a5, .inl (cI, 2048, .inl (fun _ => 0)))] H := hP
  have hD : va_D A [(h, .inr (3, [.ref t1, .ref t2, .ref t3, .ref t4, .ref t5, .null, .long 0])), (t1, .inr (0, [.ref a1, .int (nI 0)])), (a1, .inl (cB, 65536, .inl (fun _ => 0))), (t2, .inr (1, [.ref a2, .int (nI 65536)])), (a2, .inl (cB, 65536, .inl (fun _ => 0))), (t3, .inr (2, [.ref a3, .int (nI 0)])), (a3, .inl (cI, 2048, .inl (fun _ => 0))), (t4, .inr (2, [.ref a4, .int (nI 0)])), (a4, .inl (cI, 2048, .inl (fun _ => 0))), (t5, .inr (2, [.ref a5, .int (nI 0)])), (a5, .inl (cI, 2048, .inl (fun _ => 0)))] := hD
  refine lv_aload_n hx hb dX3_init_68 rfl (lv_at hl 0 rfl) ?_
  refine va_new (ci := 2) (fs := [.null, .int 0]) (C := RX2) (T := TX2) (N := 2) hx hb hts kin_X2_w tyX2 tyX2_ok hown (hts _ kcl_X3_23) (hts _ kin_X2) (hts _ ki_X2) hK hP hD hS hA rfl (fun j hj => by rcases (show j = 0 ∨ j = 1 by omega) with rfl | rfl <;> rfl) (Nat.le_of_ble_eq_true rfl) (Nat.le_of_ble_eq_true rfl) dX3_init_69 (fun t6 H hP hD hS => ?_)
  have hP : va_P D vwCl [(h, .inr (3, [.ref t1, .ref t2, .ref t3, .ref t4, .ref t5, .null, .long 0])), (t1, .inr (0, [.ref a1, .int (nI 0)])), (a1, .inl (cB, 65536, .inl (fun _ => 0))), (t2, .inr (1, [.ref a2, .int (nI 65536)])), (a2, .inl (cB, 65536, .inl (fun _ => 0))), (t3, .inr (2, [.ref a3, .int (nI 0)])), (a3, .inl (cI, 2048, .inl (fun _ => 0))), (t4, .inr (2, [.ref a4, .int (nI 0)])), (a4, .inl (cI, 2048, .inl (fun _ => 0))), (t5, .inr (2, [.ref a5, .int (nI 0)])), (a5, .inl (cI, 2048, .inl (fun _ => 0))), (t6, .inr (2, [.null, .int 0]))] H := hP
  have hD : va_D A [(h, .inr (3, [.ref t1, .ref t2, .ref t3, .ref t4, .ref t5, .null, .long 0])), (t1, .inr (0, [.ref a1, .int (nI 0)])), (a1, .inl (cB, 65536, .inl (fun _ => 0))), (t2, .inr (1, [.ref a2, .int (nI 65536)])), (a2, .inl (cB, 65536, .inl (fun _ => 0))), (t3, .inr (2, [.ref a3, .int (nI 0)])), (a3, .inl (cI, 2048, .inl (fun _ => 0))), (t4, .inr (2, [.ref a4, .int (nI 0)])), (a4, .inl (cI, 2048, .inl (fun _ => 0))), (t5, .inr (2, [.ref a5, .int (nI 0)])), (a5, .inl (cI, 2048, .inl (fun _ => 0))), (t6, .inr (2, [.null, .int 0]))] := hD
  refine W.widen (k := 11) (n := 137228) (by decide) (by decide) ?_
  refine lv_dup hx hb dX3_init_72 rfl ?_
  refine lv_iconst (v := nI 2) hx hb dX3_init_73 (by decide) ?_
  refine dm_govc (wr := [(h, .inr (3, [.ref t1, .ref t2, .ref t3, .ref t4, .ref t5, .null, .long 0])), (t1, .inr (0, [.ref a1, .int (nI 0)])), (a1, .inl (cB, 65536, .inl (fun _ => 0))), (t2, .inr (1, [.ref a2, .int (nI 65536)])), (a2, .inl (cB, 65536, .inl (fun _ => 0))), (t3, .inr (2, [.ref a3, .int (nI 0)])), (a3, .inl (cI, 2048, .inl (fun _ => 0))), (t4, .inr (2, [.ref a4, .int (nI 0)])), (a4, .inl (cI, 2048, .inl (fun _ => 0))), (t5, .inr (2, [.ref a5, .int (nI 0)])), (a5, .inl (cI, 2048, .inl (fun _ => 0)))]) (dm_rIN (n := 1) (As := [.int (nI 2)]) (rest := [.ref t6, .ref h]) hC hl (c_X2_init l D cB cI cC t6 2 (by decide) (by decide) H.size) kco_X2_init ki_X2 kim_X2_init knl_X3_25 rfl (by decide +kernel) ⟨(Nat.le_of_ble_eq_true rfl), (Nat.le_of_ble_eq_true rfl)⟩ rfl rfl ⟨dm_blind, dm_preU hK hP hD hN [11] (by decide) rfl⟩ rfl rfl (Nat.le_of_ble_eq_true rfl) dX3_init_74 ⟨(Nat.le_of_ble_eq_true rfl), (Nat.le_of_ble_eq_true rfl)⟩) hP hD hS hA [11] [0, 1, 2, 3, 4, 5, 6, 7, 8, 9, 10] rfl rfl (by decide) (by decide) (fun a6 H locs _ hP hD hS => ?_)
  have hP : va_P D vwCl [(h, .inr (3, [.ref t1, .ref t2, .ref t3, .ref t4, .ref t5, .null, .long 0])), (t1, .inr (0, [.ref a1, .int (nI 0)])), (a1, .inl (cB, 65536, .inl (fun _ => 0))), (t2, .inr (1, [.ref a2, .int (nI 65536)])), (a2, .inl (cB, 65536, .inl (fun _ => 0))), (t3, .inr (2, [.ref a3, .int (nI 0)])), (a3, .inl (cI, 2048, .inl (fun _ => 0))), (t4, .inr (2, [.ref a4, .int (nI 0)])), (a4, .inl (cI, 2048, .inl (fun _ => 0))), (t5, .inr (2, [.ref a5, .int (nI 0)])), (a5, .inl (cI, 2048, .inl (fun _ => 0))), (t6, .inr (2, [.ref a6, .int (nI 0)])), (a6, .inl (cI, 2, .inl (fun _ => 0)))] H := hP
  have hD : va_D A [(h, .inr (3, [.ref t1, .ref t2, .ref t3, .ref t4, .ref t5, .null, .long 0])), (t1, .inr (0, [.ref a1, .int (nI 0)])), (a1, .inl (cB, 65536, .inl (fun _ => 0))), (t2, .inr (1, [.ref a2, .int (nI 65536)])), (a2, .inl (cB, 65536, .inl (fun _ => 0))), (t3, .inr (2, [.ref a3, .int (nI 0)])), (a3, .inl (cI, 2048, .inl (fun _ => 0))), (t4, .inr (2, [.ref a4, .int (nI 0)])), (a4, .inl (cI, 2048, .inl (fun _ => 0))), (t5, .inr (2, [.ref a5, .int (nI 0)])), (a5, .inl (cI, 2048, .inl (fun _ => 0))), (t6, .inr (2, [.ref a6, .int (nI 0)])), (a6, .inl (cI, 2, .inl (fun _ => 0)))] := hD
  refine W.widen (k := 12) (n := 137230) (by decide) (by decide) ?_
  refine va_putF (D := D) (ci := 3) (v := .ref t6) (ty := .object "DigitMill$Whole") (C := RX3) (T := TX3) (N := 7) hx hb hts kin_X3_w tyX3 tyX3_ok nmX3 hown hK hP hD hS 0 rfl rfl 5 (by decide) (hts _ kfl_X3_38) (fun _ h9 => h9) rfl hin rfl (by decide +kernel) rfl rfl (Nat.le_of_ble_eq_true rfl) dX3_init_77 (fun H locs hP hD hS => ?_)
  have hP : va_P D vwCl [(h, .inr (3, [.ref t1, .ref t2, .ref t3, .ref t4, .ref t5, .ref t6, .long 0])), (t1, .inr (0, [.ref a1, .int (nI 0)])), (a1, .inl (cB, 65536, .inl (fun _ => 0))), (t2, .inr (1, [.ref a2, .int (nI 65536)])), (a2, .inl (cB, 65536, .inl (fun _ => 0))), (t3, .inr (2, [.ref a3, .int (nI 0)])), (a3, .inl (cI, 2048, .inl (fun _ => 0))), (t4, .inr (2, [.ref a4, .int (nI 0)])), (a4, .inl (cI, 2048, .inl (fun _ => 0))), (t5, .inr (2, [.ref a5, .int (nI 0)])), (a5, .inl (cI, 2048, .inl (fun _ => 0))), (t6, .inr (2, [.ref a6, .int (nI 0)])), (a6, .inl (cI, 2, .inl (fun _ => 0)))] H := hP
  have hD : va_D A [(h, .inr (3, [.ref t1, .ref t2, .ref t3, .ref t4, .ref t5, .ref t6, .long 0])), (t1, .inr (0, [.ref a1, .int (nI 0)])), (a1, .inl (cB, 65536, .inl (fun _ => 0))), (t2, .inr (1, [.ref a2, .int (nI 65536)])), (a2, .inl (cB, 65536, .inl (fun _ => 0))), (t3, .inr (2, [.ref a3, .int (nI 0)])), (a3, .inl (cI, 2048, .inl (fun _ => 0))), (t4, .inr (2, [.ref a4, .int (nI 0)])), (a4, .inl (cI, 2048, .inl (fun _ => 0))), (t5, .inr (2, [.ref a5, .int (nI 0)])), (a5, .inl (cI, 2048, .inl (fun _ => 0))), (t6, .inr (2, [.ref a6, .int (nI 0)])), (a6, .inl (cI, 2, .inl (fun _ => 0)))] := hD
  refine lv_aload_n hx hb dX3_init_80 rfl (lv_at hl 0 rfl) ?_
  refine lv_lconst (v := lN 0) hx hb dX3_init_81 (by decide) ?_
  refine va_put (D := D) (ci := 3) (v := .long (lN 0)) (ty := .long) (C := RX3) (T := TX3) (N := 7) hx hb hts kin_X3_w tyX3 tyX3_ok nmX3 hown hK hP hD hS 0 rfl rfl 6 (by decide) (hts _ kfl_X3_41) (fun _ h9 => h9) rfl (by decide +kernel) rfl rfl (Nat.le_of_ble_eq_true rfl) dX3_init_82 (fun H locs hP hD hS => ?_)
  have hP : va_P D vwCl [(h, .inr (3, [.ref t1, .ref t2, .ref t3, .ref t4, .ref t5, .ref t6, .long (lN 0)])), (t1, .inr (0, [.ref a1, .int (nI 0)])), (a1, .inl (cB, 65536, .inl (fun _ => 0))), (t2, .inr (1, [.ref a2, .int (nI 65536)])), (a2, .inl (cB, 65536, .inl (fun _ => 0))), (t3, .inr (2, [.ref a3, .int (nI 0)])), (a3, .inl (cI, 2048, .inl (fun _ => 0))), (t4, .inr (2, [.ref a4, .int (nI 0)])), (a4, .inl (cI, 2048, .inl (fun _ => 0))), (t5, .inr (2, [.ref a5, .int (nI 0)])), (a5, .inl (cI, 2048, .inl (fun _ => 0))), (t6, .inr (2, [.ref a6, .int (nI 0)])), (a6, .inl (cI, 2, .inl (fun _ => 0)))] H := hP
  have hD : va_D A [(h, .inr (3, [.ref t1, .ref t2, .ref t3, .ref t4, .ref t5, .ref t6, .long (lN 0)])), (t1, .inr (0, [.ref a1, .int (nI 0)])), (a1, .inl (cB, 65536, .inl (fun _ => 0))), (t2, .inr (1, [.ref a2, .int (nI 65536)])), (a2, .inl (cB, 65536, .inl (fun _ => 0))), (t3, .inr (2, [.ref a3, .int (nI 0)])), (a3, .inl (cI, 2048, .inl (fun _ => 0))), (t4, .inr (2, [.ref a4, .int (nI 0)])), (a4, .inl (cI, 2048, .inl (fun _ => 0))), (t5, .inr (2, [.ref a5, .int (nI 0)])), (a5, .inl (cI, 2048, .inl (fun _ => 0))), (t6, .inr (2, [.ref a6, .int (nI 0)])), (a6, .inl (cI, 2, .inl (fun _ => 0)))] := hD
  exact dm_vret hC hK (t1, a1, t2, a2, t3, a3, t4, a4, t5, a5, t6, a6) trivial hP hD hS dX3_init_85

set_option maxRecDepth 100000 in
set_option maxHeartbeats 4000000 in
theorem c_X4_init (l : Launch) (D : va_G) (cB cI cC : ClassId) (g : Nat) : MVc l yX4_init (Cond.code yX4_init cX4_init 1 none) 1 4 139264 D (TY cB cI cC) [.ref g] [(g, .inr (4, [.int 0, .int 0, .null, .int 0, .null, .int 0, .null, .int 0, .null, .long 0]))] (S := Nat × Nat × Nat × Nat) (fun _ => True) (fun q => [(g, .inr (4, [.int 0, .int 0, .ref q.1, .int 0, .ref q.2.1, .int 0, .ref q.2.2.1, .int 0, .ref q.2.2.2, .long 0])), (q.1, .inl (cC, 65536, .inl (fun _ => 0))), (q.2.1, .inl (cC, 65536, .inl (fun _ => 0))), (q.2.2.1, .inl (cI, 4096, .inl (fun _ => 0))), (q.2.2.2, .inl (cI, 4096, .inl (fun _ => 0)))]) := by
  refine MVc.of (by decide) (Nat.le_of_ble_eq_true rfl) ?_
  intro p e s m below meth c ls A hC hA hP hK hD hS hin hl
  obtain ⟨hx, hb, hr, hml, hown, hts, hlocks, hN⟩ := id hC
  have hown : s.vm.findClass RX4 = some m.cls := hown
  have hin : meth.name = "<init>" := hin
  have hl : lv_has ls 1 [(0, .ref g)] := hl
  refine lv_aload_n hx hb dX4_init_0 rfl (lv_at hl 0 rfl) ?_
  refine W.objInit hx hb hown (hts _ kml_X4_1) (hts _ kim_O_init) (hts _ kco_O_init) rfl (by rw [hml]; exact hl.1) rfl dX4_init_1 (Nat.le_of_ble_eq_true rfl) (Nat.le_of_ble_eq_true rfl) ?_
  refine W.eq (g2 := F0 m 4 ls []) rfl ?_
  refine lv_aload_n hx hb dX4_init_4 rfl (lv_at hl 0 rfl) ?_
  refine lv_ldc (v := nI 65536) hx hb hown (hts _ kct_X4_7) dX4_init_5 ?_
  refine dm_newa (N := 65536) 2 hx hb (hts _ kac_char) rfl rfl (fun _ h => h) hK rfl hP hD hS hA (nI_pos (by decide)) (nI_clamp (by decide)) (by decide) (Nat.le_of_ble_eq_true rfl) (Nat.le_of_ble_eq_true rfl) dX4_init_7 (fun gi H hP hD hS => ?_)
  have hP : va_P D vwCl [(g, .inr (4, [.int 0, .int 0, .null, .int 0, .null, .int 0, .null, .int 0, .null, .long 0])), (gi, .inl (cC, 65536, .inl (fun _ => 0)))] H := hP
  have hD : va_D A [(g, .inr (4, [.int 0, .int 0, .null, .int 0, .null, .int 0, .null, .int 0, .null, .long 0])), (gi, .inl (cC, 65536, .inl (fun _ => 0)))] := hD
  refine W.widen (k := 1) (n := 65536) (by decide) (by decide) ?_
  refine va_putF (D := D) (ci := 4) (v := .ref gi) (ty := .array .char) (C := RX4) (T := TX4) (N := 10) hx hb hts kin_X4_w tyX4 tyX4_ok nmX4 hown hK hP hD hS 0 rfl rfl 2 (by decide) (hts _ kfl_X4_8) (fun _ h9 => h9) rfl hin rfl (by decide +kernel) rfl rfl (Nat.le_of_ble_eq_true rfl) dX4_init_9 (fun H locs hP hD hS => ?_)
  have hP : va_P D vwCl [(g, .inr (4, [.int 0, .int 0, .ref gi, .int 0, .null, .int 0, .null, .int 0, .null, .long 0])), (gi, .inl (cC, 65536, .inl (fun _ => 0)))] H := hP
  have hD : va_D A [(g, .inr (4, [.int 0, .int 0, .ref gi, .int 0, .null, .int 0, .null, .int 0, .null, .long 0])), (gi, .inl (cC, 65536, .inl (fun _ => 0)))] := hD
  refine lv_aload_n hx hb dX4_init_12 rfl (lv_at hl 0 rfl) ?_
  refine lv_ldc (v := nI 65536) hx hb hown (hts _ kct_X4_7) dX4_init_13 ?_
  refine dm_newa (N := 65536) 2 hx hb (hts _ kac_char) rfl rfl (fun _ h => h) hK rfl hP hD hS hA (nI_pos (by decide)) (nI_clamp (by decide)) (by decide) (Nat.le_of_ble_eq_true rfl) (Nat.le_of_ble_eq_true rfl) dX4_init_15 (fun go H hP hD hS => ?_)
  have hP : va_P D vwCl [(g, .inr (4, [.int 0, .int 0, .ref gi, .int 0, .null, .int 0, .null, .int 0, .null, .long 0])), (gi, .inl (cC, 65536, .inl (fun _ => 0))), (go, .inl (cC, 65536, .inl (fun _ => 0)))] H := hP
  have hD : va_D A [(g, .inr (4, [.int 0, .int 0, .ref gi, .int 0, .null, .int 0, .null, .int 0, .null, .long 0])), (gi, .inl (cC, 65536, .inl (fun _ => 0))), (go, .inl (cC, 65536, .inl (fun _ => 0)))] := hD
  refine W.widen (k := 2) (n := 131072) (by decide) (by decide) ?_
  refine va_putF (D := D) (ci := 4) (v := .ref go) (ty := .array .char) (C := RX4) (T := TX4) (N := 10) hx hb hts kin_X4_w tyX4 tyX4_ok nmX4 hown hK hP hD hS 0 rfl rfl 4 (by decide) (hts _ kfl_X4_14) (fun _ h9 => h9) rfl hin rfl (by decide +kernel) rfl rfl (Nat.le_of_ble_eq_true rfl) dX4_init_17 (fun H locs hP hD hS => ?_)
  have hP : va_P D vwCl [(g, .inr (4, [.int 0, .int 0, .ref gi, .int 0, .ref go, .int 0, .null, .int 0, .null, .long 0])), (gi, .inl (cC, 65536, .inl (fun _ => 0))), (go, .inl (cC, 65536, .inl (fun _ => 0)))] H := hP
  have hD : va_D A [(g, .inr (4, [.int 0, .int 0, .ref gi, .int 0, .ref go, .int 0, .null, .int 0, .null, .long 0])), (gi, .inl (cC, 65536, .inl (fun _ => 0))), (go, .inl (cC, 65536, .inl (fun _ => 0)))] := hD
  refine lv_aload_n hx hb dX4_init_20 rfl (lv_at hl 0 rfl) ?_
  refine lv_sipush (v := nI 4096) hx hb dX4_init_21 (by decide) ?_
  refine dm_newa (N := 4096) 1 hx hb (hts _ kac_int) rfl rfl (fun _ h => h) hK rfl hP hD hS hA (nI_pos (by decide)) (nI_clamp (by decide)) (by decide) (Nat.le_of_ble_eq_true rfl) (Nat.le_of_ble_eq_true rfl) dX4_init_24 (fun gn H hP hD hS => ?_)
  have hP : va_P D vwCl [(g, .inr (4, [.int 0, .int 0, .ref gi, .int 0, .ref go, .int 0, .null, .int 0, .null, .long 0])), (gi, .inl (cC, 65536, .inl (fun _ => 0))), (go, .inl (cC, 65536, .inl (fun _ => 0))), (gn, .inl (cI, 4096, .inl (fun _ => 0)))] H := hP
  have hD : va_D A [(g, .inr (4, [.int 0, .int 0, .ref gi, .int 0, .ref go, .int 0, .null, .int 0, .null, .long 0])), (gi, .inl (cC, 65536, .inl (fun _ => 0))), (go, .inl (cC, 65536, .inl (fun _ => 0))), (gn, .inl (cI, 4096, .inl (fun _ => 0)))] := hD
  refine W.widen (k := 3) (n := 135168) (by decide) (by decide) ?_
  refine va_putF (D := D) (ci := 4) (v := .ref gn) (ty := .array .int) (C := RX4) (T := TX4) (N := 10) hx hb hts kin_X4_w tyX4 tyX4_ok nmX4 hown hK hP hD hS 0 rfl rfl 6 (by decide) (hts _ kfl_X4_17) (fun _ h9 => h9) rfl hin rfl (by decide +kernel) rfl rfl (Nat.le_of_ble_eq_true rfl) dX4_init_26 (fun H locs hP hD hS => ?_)
  have hP : va_P D vwCl [(g, .inr (4, [.int 0, .int 0, .ref gi, .int 0, .ref go, .int 0, .ref gn, .int 0, .null, .long 0])), (gi, .inl (cC, 65536, .inl (fun _ => 0))), (go, .inl (cC, 65536, .inl (fun _ => 0))), (gn, .inl (cI, 4096, .inl (fun _ => 0)))] H := hP
  have hD : va_D A [(g, .inr (4, [.int 0, .int 0, .ref gi, .int 0, .ref go, .int 0, .ref gn, .int 0, .null, .long 0])), (gi, .inl (cC, 65536, .inl (fun _ => 0))), (go, .inl (cC, 65536, .inl (fun _ => 0))), (gn, .inl (cI, 4096, .inl (fun _ => 0)))] := hD
  refine lv_aload_n hx hb dX4_init_29 rfl (lv_at hl 0 rfl) ?_
  refine lv_sipush (v := nI 4096) hx hb dX4_init_30 (by decide) ?_
  refine dm_newa (N := 4096) 1 hx hb (hts _ kac_int) rfl rfl (fun _ h => h) hK rfl hP hD hS hA (nI_pos (by decide)) (nI_clamp (by decide)) (by decide) (Nat.le_of_ble_eq_true rfl) (Nat.le_of_ble_eq_true rfl) dX4_init_33 (fun gr H hP hD hS => ?_)
  have hP : va_P D vwCl [(g, .inr (4, [.int 0, .int 0, .ref gi, .int 0, .ref go, .int 0, .ref gn, .int 0, .null, .long 0])), (gi, .inl (cC, 65536, .inl (fun _ => 0))), (go, .inl (cC, 65536, .inl (fun _ => 0))), (gn, .inl (cI, 4096, .inl (fun _ => 0))), (gr, .inl (cI, 4096, .inl (fun _ => 0)))] H := hP
  have hD : va_D A [(g, .inr (4, [.int 0, .int 0, .ref gi, .int 0, .ref go, .int 0, .ref gn, .int 0, .null, .long 0])), (gi, .inl (cC, 65536, .inl (fun _ => 0))), (go, .inl (cC, 65536, .inl (fun _ => 0))), (gn, .inl (cI, 4096, .inl (fun _ => 0))), (gr, .inl (cI, 4096, .inl (fun _ => 0)))] := hD
  refine W.widen (k := 4) (n := 139264) (by decide) (by decide) ?_
  refine va_putF (D := D) (ci := 4) (v := .ref gr) (ty := .array .int) (C := RX4) (T := TX4) (N := 10) hx hb hts kin_X4_w tyX4 tyX4_ok nmX4 hown hK hP hD hS 0 rfl rfl 8 (by decide) (hts _ kfl_X4_21) (fun _ h9 => h9) rfl hin rfl (by decide +kernel) rfl rfl (Nat.le_of_ble_eq_true rfl) dX4_init_35 (fun H locs hP hD hS => ?_)
  have hP : va_P D vwCl [(g, .inr (4, [.int 0, .int 0, .ref gi, .int 0, .ref go, .int 0, .ref gn, .int 0, .ref gr, .long 0])), (gi, .inl (cC, 65536, .inl (fun _ => 0))), (go, .inl (cC, 65536, .inl (fun _ => 0))), (gn, .inl (cI, 4096, .inl (fun _ => 0))), (gr, .inl (cI, 4096, .inl (fun _ => 0)))] H := hP
  have hD : va_D A [(g, .inr (4, [.int 0, .int 0, .ref gi, .int 0, .ref go, .int 0, .ref gn, .int 0, .ref gr, .long 0])), (gi, .inl (cC, 65536, .inl (fun _ => 0))), (go, .inl (cC, 65536, .inl (fun _ => 0))), (gn, .inl (cI, 4096, .inl (fun _ => 0))), (gr, .inl (cI, 4096, .inl (fun _ => 0)))] := hD
  exact dm_vret hC hK (gi, go, gn, gr) trivial hP hD hS dX4_init_38
