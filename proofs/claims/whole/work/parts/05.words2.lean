section DMZ
variable {p : Program} {l : Launch} {e : Env} {R : Room} {s : State} {m : MethodId} {args : Array Value} {below : List Frame} {meth : Method} {c : Code} {H : Heap} {locs : List Loc} {cells slots : Nat} {Q : State → Prop}
variable {pc : Nat} {ls : Array Slot} {rest : List Value} {cc : ByteArray} {D : va_G} {tys : List (ClassId × FieldType)} {A : Nat → Prop} {ws : va_W} {H0 : Heap} {nL : Nat} {own : String} {ret0 : Option FieldType} {a : Nat}
theorem dm_copyi {index : Nat} {lv : List (Nat × Value)} {sp dp n : Nat} (hC : dm_C p s m args meth c cc nL ret0 own) (hl : lv_has ls nL lv) (hlink : (Cond.methodLink own index arraycopyName).before args s = true)
    (hK : va_K D vwCl tys s) (hP : va_P D vwCl ws H) (hD : va_D A ws) (hS : va_S A H0 H locs) (q0 q1 t0 t1 : Nat) {a0 : Nat} {c0 c1 : ClassId} {n0 n1 : Nat} {f g : Nat → Int32} (ha0 : ws[q0]? = some (a0, .inl (c0, n0, .inl f))) (ha1 : ws[q1]? = some (a, .inl (c1, n1, .inl g))) (ht0 : tys[t0]? = some (c0, .int)) (ht1 : tys[t1]? = some (c1, .int))
    (h4 : sp + n ≤ n0) (h5 : dp + n ≤ n1) (hn0 : n0 < 2 ^ 31) (hn1 : n1 < 2 ^ 31) (hR : 1 ≤ R.frames ∧ (rest.map fun v => v.category).sum + (nativeFrameWords "java/lang/System" "arraycopy" 5 + 11) ≤ R.locals) (hdg : decode cc pc = .ok (.invokestatic index, 3))
    (kk : ∀ (H1 : Heap) (locs1 : List Loc), va_P D vwCl (ws.set q1 (a, .inl (c1, n1, .inl (va_cpy f g sp dp n)))) H1 → va_D A (ws.set q1 (a, .inl (c1, n1, .inl (va_cpy f g sp dp n)))) → va_S A H0 H1 locs1 → W p l e R s m args below meth c H1 locs1 cells slots Q (F0 m (pc + 3) ls rest)) : W p l e R s m args below meth c H locs cells slots Q (F0 m pc ls (.int (nI n) :: .int (nI dp) :: .ref a :: .int (nI sp) :: .ref a0 :: rest)) := by
  obtain ⟨hx, hb, hr, hml, hown, hts, hlocks, hN⟩ := hC
  have e1 : (nI sp).toNatClampNeg = sp := nI_clamp (by omega)
  have e2 : (nI dp).toNatClampNeg = dp := nI_clamp (by omega)
  have e3 : (nI n).toNatClampNeg = n := nI_clamp (by omega)
  refine va_copyi hx hb (hml.trans hl.1.symm) hown hlink (hts _ kna_J10_arraycopy) (hts _ kst_J10_arraycopy) (hts _ ki_J10) hK hP hD hS q0 q1 t0 t1 ha0 ha1 ht0 ht1 rfl (nI_pos (by omega)) (nI_pos (by omega)) (nI_pos (by omega)) (by rw [e1, e3]; exact h4) (by rw [e2, e3]; exact h5) (fun _ _ => rfl) hR.1 hR.2 hdg ?_
  rw [e1, e2, e3]
  exact kk
theorem dm_cutR {σ : Type} {g : JFrame} (J : Nat) (P : σ → Prop) (lv : σ → List (Nat × Value)) (kk : (∀ (x : σ) (ls : Array Slot), P x → lv_has ls nL (lv x) → W p l e R s m args below meth c H locs cells slots Q (F0 m J ls [])) → W p l e R s m args below meth c H locs cells slots Q g) (kJ : ∀ (x : σ) (ls : Array Slot), P x → lv_has ls nL (lv x) → W p l e R s m args below meth c H locs cells slots Q (F0 m J ls [])) : W p l e R s m args below meth c H locs cells slots Q g := kk kJ
end DMZ
