set_option maxRecDepth 100000 in
set_option maxHeartbeats 4000000 in
theorem whole_start {p : Program} {e : Env} {s : State} {m : MethodId} {below : List Frame} {meth : Method} {c : Code} (l : Launch) {b L : Nat} {xs : Nat → Int32} (hL : L ≤ 3072) (C0 : lw_At p s m meth c b L xs) : W p l e room_1 s m #[Value.ref b] below meth c s.heap [] 0 0 (lw_Z below #[Value.ref b] s) (entryFrame m ([Value.ref b] : List Value).toArray 4) := by
  obtain ⟨hx, hb, hr, hml, hown, hts0, hX, hbl, hlocks, hgv⟩ := id C0
  obtain ⟨A, eA⟩ : ∃ A : Nat → Prop, A = fun q : Nat => s.heap.size ≤ q := ⟨_, rfl⟩
  have hA : ∀ q : Nat, s.heap.size ≤ q → A q := fun q h => by rw [eA]; exact h
  have hAA : ∀ q : Nat, A q → s.heap.size ≤ q := fun q h => by rw [eA] at h; exact h
  have hbA : ¬ A b := fun h => absurd (hAA b h) (Nat.not_le.mpr hbl)
  have hts : ∀ w ∈ kG, w.before #[Value.ref b] s = true := fun w h => hts0 w (kG_tbl h)
  have hN : dm_N s := dm_N.of hts0
  have hown : s.vm.findClass RL = some m.cls := hown
  have hC : dm_C p s m #[Value.ref b] meth c cL_law 4 ret RL := ⟨hx, hb, hr, hml, hown, hts, hlocks, hN⟩
  obtain ⟨c0, i0, k0⟩ := u_known (C := RX0) (T := TX0) (N := 2) (n := 2) hts kin_X0_w (hts _ kin_X0)
  obtain ⟨c1, i1, k1⟩ := u_known (C := RX1) (T := TX1) (N := 2) (n := 2) hts kin_X1_w (hts _ kin_X1)
  obtain ⟨c2, i2, k2⟩ := u_known (C := RX2) (T := TX2) (N := 2) (n := 2) hts kin_X2_w (hts _ kin_X2)
  obtain ⟨c3, i3, k3⟩ := u_known (C := RX3) (T := TX3) (N := 7) (n := 7) hts kin_X3_w (hts _ kin_X3)
  obtain ⟨c4, i4, k4⟩ := u_known (C := RX4) (T := TX4) (N := 10) (n := 10) hts kin_X4_w (hts _ kin_X4)
  obtain ⟨cB, kB, pB, fB, gB, dB⟩ := Cond.arrayClass_spec (hts _ kac_byte)
  obtain ⟨cI, kI, pI, fI, gI, dI⟩ := Cond.arrayClass_spec (hts _ kac_int)
  obtain ⟨cC, kC, pC, fC, gC, dC⟩ := Cond.arrayClass_spec (hts _ kac_char)
  obtain ⟨D, hK⟩ : ∃ D : va_G, va_K D vwCl (TY cB cI cC) s := by
    refine ⟨(fun k => match k with | 0 => c0 | 1 => c1 | 2 => c2 | 3 => c3 | _ => c4, fun k => match k with | 0 => i0 | 1 => i1 | 2 => i2 | 3 => i3 | _ => i4), ?_, ?_⟩
    · intro k q hq
      match k, hq with
      | 0, hq => cases hq; exact k0
      | 1, hq => cases hq; exact k1
      | 2, hq => cases hq; exact k2
      | 3, hq => cases hq; exact k3
      | 4, hq => cases hq; exact k4
      | k + 5, hq => simp [vwCl] at hq
    · intro k q hq
      match k, hq with
      | 0, hq => cases hq; exact ⟨fun n z => ⟨fun k h => (by cases h), kB, gB, pB, dB⟩, fB⟩
      | 1, hq => cases hq; exact ⟨fun n z => ⟨fun k h => (by cases h), kI, gI, pI, dI⟩, fI⟩
      | 2, hq => cases hq; exact ⟨fun n z => ⟨fun k h => (by cases h), kC, gC, pC, dC⟩, fC⟩
      | k + 3, hq => simp at hq
  have hS : va_S A s.heap s.heap [] := va_S.rf
  have hP : va_P D vwCl [] s.heap := fun k q h => by simp at h
  have hD : va_D A [] := ⟨fun i j p q h => by simp at h, fun k q h => by simp at h⟩
  have hl := lv_entry ([.ref b]) (n := 4) (Nat.le_of_ble_eq_true rfl)
  rw [lg_entry_eq]
  generalize (lg_sl ([.ref b]) ++ List.replicate (4 - (lg_sl ([.ref b])).length) Slot.unset).toArray = ls at hl ⊢
  have hl : lv_has ls 4 [(0, .ref b)] := hl
  refine va_new (ci := 3) (fs := [.null, .null, .null, .null, .null, .null, .long 0]) (C := RX3) (T := TX3) (N := 7) hx hb hts kin_X3_w tyX3 tyX3_ok hown (hts _ kcl_L_7) (hts _ kin_X3) (hts _ ki_X3) hK hP hD hS hA rfl (fun j hj => by rcases (show j = 0 ∨ j = 1 ∨ j = 2 ∨ j = 3 ∨ j = 4 ∨ j = 5 ∨ j = 6 by omega) with rfl | rfl | rfl | rfl | rfl | rfl | rfl <;> rfl) (Nat.le_of_ble_eq_true rfl) (Nat.le_of_ble_eq_true rfl) dL_law_0 (fun h H hP hD hS => ?_)
  have hP : va_P D vwCl [(h, .inr (3, [.null, .null, .null, .null, .null, .null, .long 0]))] H := hP
  have hD : va_D A [(h, .inr (3, [.null, .null, .null, .null, .null, .null, .long 0]))] := hD
  refine W.widen (k := 1) (n := 7) (by decide) (by decide) ?_
  refine lv_dup hx hb dL_law_3 rfl ?_
  refine dm_govc (wr := []) (dm_rI (n := 0) (As := []) (rest := [.ref h]) hC hl (c_X3_init l D cB cI cC h H.size) kco_X3_init ki_X3 kim_X3_init kml_L_9 rfl (by decide +kernel) ⟨(Nat.le_of_ble_eq_true rfl), (Nat.le_of_ble_eq_true rfl)⟩ rfl rfl ⟨dm_blind, dm_preU hK hP hD hN [0] (by decide) rfl⟩ rfl rfl (Nat.le_of_ble_eq_true rfl) dL_law_4 ⟨(Nat.le_of_ble_eq_true rfl), (Nat.le_of_ble_eq_true rfl)⟩) hP hD hS hA [0] [] rfl rfl (by decide) (by decide) (fun u H locs _ hP hD hS => ?_)
  obtain ⟨hti, ati, hto, ato, hnu, anu, hsp, asp, hsq, asq, hsm, asm⟩ := u
  have hP : va_P D vwCl [(h, .inr (3, [.ref hti, .ref hto, .ref hnu, .ref hsp, .ref hsq, .ref hsm, .long (lN 0)])), (hti, .inr (0, [.ref ati, .int (nI 0)])), (ati, .inl (cB, 65536, .inl (fun _ => 0))), (hto, .inr (1, [.ref ato, .int (nI 65536)])), (ato, .inl (cB, 65536, .inl (fun _ => 0))), (hnu, .inr (2, [.ref anu, .int (nI 0)])), (anu, .inl (cI, 2048, .inl (fun _ => 0))), (hsp, .inr (2, [.ref asp, .int (nI 0)])), (asp, .inl (cI, 2048, .inl (fun _ => 0))), (hsq, .inr (2, [.ref asq, .int (nI 0)])), (asq, .inl (cI, 2048, .inl (fun _ => 0))), (hsm, .inr (2, [.ref asm, .int (nI 0)])), (asm, .inl (cI, 2, .inl (fun _ => 0)))] H := hP
  have hD : va_D A [(h, .inr (3, [.ref hti, .ref hto, .ref hnu, .ref hsp, .ref hsq, .ref hsm, .long (lN 0)])), (hti, .inr (0, [.ref ati, .int (nI 0)])), (ati, .inl (cB, 65536, .inl (fun _ => 0))), (hto, .inr (1, [.ref ato, .int (nI 65536)])), (ato, .inl (cB, 65536, .inl (fun _ => 0))), (hnu, .inr (2, [.ref anu, .int (nI 0)])), (anu, .inl (cI, 2048, .inl (fun _ => 0))), (hsp, .inr (2, [.ref asp, .int (nI 0)])), (asp, .inl (cI, 2048, .inl (fun _ => 0))), (hsq, .inr (2, [.ref asq, .int (nI 0)])), (asq, .inl (cI, 2048, .inl (fun _ => 0))), (hsm, .inr (2, [.ref asm, .int (nI 0)])), (asm, .inl (cI, 2, .inl (fun _ => 0)))] := hD
  refine W.widen (k := 13) (n := 137237) (by decide) (by decide) ?_
  refine lv_astore_n (lv' := [(1, .ref h), (0, .ref b)]) hx hb dL_law_7 rfl hl (by decide) rfl (fun ls hl => ?_)
  refine va_new (ci := 4) (fs := [.int 0, .int 0, .null, .int 0, .null, .int 0, .null, .int 0, .null, .long 0]) (C := RX4) (T := TX4) (N := 10) hx hb hts kin_X4_w tyX4 tyX4_ok hown (hts _ kcl_L_10) (hts _ kin_X4) (hts _ ki_X4) hK hP hD hS hA rfl (fun j hj => by rcases (show j = 0 ∨ j = 1 ∨ j = 2 ∨ j = 3 ∨ j = 4 ∨ j = 5 ∨ j = 6 ∨ j = 7 ∨ j = 8 ∨ j = 9 by omega) with rfl | rfl | rfl | rfl | rfl | rfl | rfl | rfl | rfl | rfl <;> rfl) (Nat.le_of_ble_eq_true rfl) (Nat.le_of_ble_eq_true rfl) dL_law_8 (fun g H hP hD hS => ?_)
  have hP : va_P D vwCl [(h, .inr (3, [.ref hti, .ref hto, .ref hnu, .ref hsp, .ref hsq, .ref hsm, .long (lN 0)])), (hti, .inr (0, [.ref ati, .int (nI 0)])), (ati, .inl (cB, 65536, .inl (fun _ => 0))), (hto, .inr (1, [.ref ato, .int (nI 65536)])), (ato, .inl (cB, 65536, .inl (fun _ => 0))), (hnu, .inr (2, [.ref anu, .int (nI 0)])), (anu, .inl (cI, 2048, .inl (fun _ => 0))), (hsp, .inr (2, [.ref asp, .int (nI 0)])), (asp, .inl (cI, 2048, .inl (fun _ => 0))), (hsq, .inr (2, [.ref asq, .int (nI 0)])), (asq, .inl (cI, 2048, .inl (fun _ => 0))), (hsm, .inr (2, [.ref asm, .int (nI 0)])), (asm, .inl (cI, 2, .inl (fun _ => 0))), (g, .inr (4, [.int 0, .int 0, .null, .int 0, .null, .int 0, .null, .int 0, .null, .long 0]))] H := hP
  have hD : va_D A [(h, .inr (3, [.ref hti, .ref hto, .ref hnu, .ref hsp, .ref hsq, .ref hsm, .long (lN 0)])), (hti, .inr (0, [.ref ati, .int (nI 0)])), (ati, .inl (cB, 65536, .inl (fun _ => 0))), (hto, .inr (1, [.ref ato, .int (nI 65536)])), (ato, .inl (cB, 65536, .inl (fun _ => 0))), (hnu, .inr (2, [.ref anu, .int (nI 0)])), (anu, .inl (cI, 2048, .inl (fun _ => 0))), (hsp, .inr (2, [.ref asp, .int (nI 0)])), (asp, .inl (cI, 2048, .inl (fun _ => 0))), (hsq, .inr (2, [.ref asq, .int (nI 0)])), (asq, .inl (cI, 2048, .inl (fun _ => 0))), (hsm, .inr (2, [.ref asm, .int (nI 0)])), (asm, .inl (cI, 2, .inl (fun _ => 0))), (g, .inr (4, [.int 0, .int 0, .null, .int 0, .null, .int 0, .null, .int 0, .null, .long 0]))] := hD
  refine W.widen (k := 14) (n := 137247) (by decide) (by decide) ?_
  refine lv_dup hx hb dL_law_11 rfl ?_
  refine dm_govc (wr := [(h, .inr (3, [.ref hti, .ref hto, .ref hnu, .ref hsp, .ref hsq, .ref hsm, .long (lN 0)])), (hti, .inr (0, [.ref ati, .int (nI 0)])), (ati, .inl (cB, 65536, .inl (fun _ => 0))), (hto, .inr (1, [.ref ato, .int (nI 65536)])), (ato, .inl (cB, 65536, .inl (fun _ => 0))), (hnu, .inr (2, [.ref anu, .int (nI 0)])), (anu, .inl (cI, 2048, .inl (fun _ => 0))), (hsp, .inr (2, [.ref asp, .int (nI 0)])), (asp, .inl (cI, 2048, .inl (fun _ => 0))), (hsq, .inr (2, [.ref asq, .int (nI 0)])), (asq, .inl (cI, 2048, .inl (fun _ => 0))), (hsm, .inr (2, [.ref asm, .int (nI 0)])), (asm, .inl (cI, 2, .inl (fun _ => 0)))]) (dm_rI (n := 0) (As := []) (rest := [.ref g]) hC hl (c_X4_init l D cB cI cC g H.size) kco_X4_init ki_X4 kim_X4_init kml_L_12 rfl (by decide +kernel) ⟨(Nat.le_of_ble_eq_true rfl), (Nat.le_of_ble_eq_true rfl)⟩ rfl rfl ⟨dm_blind, dm_preU hK hP hD hN [13] (by decide) rfl⟩ rfl rfl (Nat.le_of_ble_eq_true rfl) dL_law_12 ⟨(Nat.le_of_ble_eq_true rfl), (Nat.le_of_ble_eq_true rfl)⟩) hP hD hS hA [13] [0, 1, 2, 3, 4, 5, 6, 7, 8, 9, 10, 11, 12] rfl rfl (by decide) (by decide) (fun u H locs _ hP hD hS => ?_)
  obtain ⟨gi, go, gn, gr⟩ := u
  have hP : va_P D vwCl [(h, .inr (3, [.ref hti, .ref hto, .ref hnu, .ref hsp, .ref hsq, .ref hsm, .long (lN 0)])), (hti, .inr (0, [.ref ati, .int (nI 0)])), (ati, .inl (cB, 65536, .inl (fun _ => 0))), (hto, .inr (1, [.ref ato, .int (nI 65536)])), (ato, .inl (cB, 65536, .inl (fun _ => 0))), (hnu, .inr (2, [.ref anu, .int (nI 0)])), (anu, .inl (cI, 2048, .inl (fun _ => 0))), (hsp, .inr (2, [.ref asp, .int (nI 0)])), (asp, .inl (cI, 2048, .inl (fun _ => 0))), (hsq, .inr (2, [.ref asq, .int (nI 0)])), (asq, .inl (cI, 2048, .inl (fun _ => 0))), (hsm, .inr (2, [.ref asm, .int (nI 0)])), (asm, .inl (cI, 2, .inl (fun _ => 0))), (g, .inr (4, [.int (nI 0), .int (nI 0), .ref gi, .int (nI 0), .ref go, .int (nI 0), .ref gn, .int (nI 0), .ref gr, .long (lN 0)])), (gi, .inl (cC, 65536, .inl (fun _ => 0))), (go, .inl (cC, 65536, .inl (fun _ => 0))), (gn, .inl (cI, 4096, .inl (fun _ => 0))), (gr, .inl (cI, 4096, .inl (fun _ => 0)))] H := hP
  have hD : va_D A [(h, .inr (3, [.ref hti, .ref hto, .ref hnu, .ref hsp, .ref hsq, .ref hsm, .long (lN 0)])), (hti, .inr (0, [.ref ati, .int (nI 0)])), (ati, .inl (cB, 65536, .inl (fun _ => 0))), (hto, .inr (1, [.ref ato, .int (nI 65536)])), (ato, .inl (cB, 65536, .inl (fun _ => 0))), (hnu, .inr (2, [.ref anu, .int (nI 0)])), (anu, .inl (cI, 2048, .inl (fun _ => 0))), (hsp, .inr (2, [.ref asp, .int (nI 0)])), (asp, .inl (cI, 2048, .inl (fun _ => 0))), (hsq, .inr (2, [.ref asq, .int (nI 0)])), (asq, .inl (cI, 2048, .inl (fun _ => 0))), (hsm, .inr (2, [.ref asm, .int (nI 0)])), (asm, .inl (cI, 2, .inl (fun _ => 0))), (g, .inr (4, [.int (nI 0), .int (nI 0), .ref gi, .int (nI 0), .ref go, .int (nI 0), .ref gn, .int (nI 0), .ref gr, .long (lN 0)])), (gi, .inl (cC, 65536, .inl (fun _ => 0))), (go, .inl (cC, 65536, .inl (fun _ => 0))), (gn, .inl (cI, 4096, .inl (fun _ => 0))), (gr, .inl (cI, 4096, .inl (fun _ => 0)))] := hD
  refine W.widen (k := 18) (n := 276511) (by decide) (by decide) ?_
  refine lv_astore_n (lv' := [(2, .ref g), (1, .ref h), (0, .ref b)]) hx hb dL_law_15 rfl hl (by decide) rfl (fun ls hl => ?_)
  refine lv_iconst (v := nI 0) hx hb dL_law_16 (by decide) ?_
  refine lv_istore_n (lv' := [(3, .int (nI 0)), (2, .ref g), (1, .ref h), (0, .ref b)]) hx hb dL_law_17 rfl hl (by decide) rfl (fun ls hl => ?_)
  exact law_loop hL hC hX hbl hbA hA hK hAA (L + 1) 0 0 65536 0 0 0 0 0 0 0 0 (fun _ => 0) (fun _ => 0) (fun _ => 0) (fun _ => 0) (fun _ => 0) (fun _ => 0) (fun _ => 0) (fun _ => 0) (fun _ => 0) (fun _ => 0) (lN 0) (lN 0) (nI 0) H locs ls (by omega) (Nat.zero_le _) (RT_0 _ _) ⟨Nat.le_refl _, rfl, fun j hj => absurd hj (by omega)⟩ ⟨by omega, nrm_0 _, by omega, fun j hj => absurd hj (by omega), nrm_0 _, rfl⟩ rfl hP hD hS (lv_sub hl [3, 2, 1, 0] rfl)
