set_option maxRecDepth 100000 in
set_option maxHeartbeats 4000000 in
theorem c_X1_size (l : Launch) (D : va_G) (cB cI cC : ClassId) (h a st : Nat) (f : Nat → Int32) (hst : st ≤ 65536) : ROi l yX1_size (Cond.code yX1_size cX1_size 1 (some .int)) 0 D (TY cB cI cC) [.ref h] [(h, .inr (1, [.ref a, .int (nI st)])), (a, .inl (cB, 65536, .inl f))] (fun r => r = nI (65536 - st)) := by
  refine ROi.of (by decide) (Nat.le_of_ble_eq_true rfl) ?_
  intro p e s m below meth c ls A hC hA hP hK hD hS hl
  obtain ⟨hx, hb, hr, hml, hown, hts, hlocks, hN⟩ := id hC
  have hown : s.vm.findClass RX1 = some m.cls := hown
  have hl : lv_has ls 1 [(0, .ref h)] := hl
  refine lv_aload_n hx hb dX1_size_0 rfl (lv_at hl 0 rfl) ?_
  refine va_get (D := D) (ci := 1) (C := RX1) (T := TX1) (N := 2) (v := .ref a) hx hb hts kin_X1_w hown hK hP 0 rfl rfl 0 (by decide) (hts _ kfl_X1_10) (fun _ h9 => h9) rfl dX1_size_1 ?_
  refine va_alen (v := nI 65536) hx hb hK hP 1 0 rfl rfl rfl dX1_size_4 ?_
  refine lv_aload_n hx hb dX1_size_5 rfl (lv_at hl 0 rfl) ?_
  refine va_get (D := D) (ci := 1) (C := RX1) (T := TX1) (N := 2) (v := .int (nI st)) hx hb hts kin_X1_w hown hK hP 0 rfl rfl 1 (by decide) (hts _ kfl_X1_16) (fun _ h9 => h9) rfl dX1_size_6 ?_
  refine lv_isub hx hb dX1_size_9 ?_
  refine dm_ti (y := nI (65536 - st)) (pk_sub hst) ?_
  exact ri_iret hC (rfl) dX1_size_10

set_option maxRecDepth 100000 in
set_option maxHeartbeats 4000000 in
theorem c_X1_codeAt (l : Launch) (D : va_G) (cB cI cC : ClassId) (h a st : Nat) (f : Nat → Int32) (k : Int32) (hst : st ≤ 65536) : ROi l yX1_codeAt (Cond.code yX1_codeAt cX1_codeAt 2 (some .int)) 1 D (TY cB cI cC) [.ref h, .int k] [(h, .inr (1, [.ref a, .int (nI st)])), (a, .inl (cB, 65536, .inl f))] (fun r => (∀ j, j < 65536 - st → k = nI j → r = f (st + j)) ∧ ((∀ j, j < 65536 - st → k ≠ nI j) → r = -1)) := by
  refine ROi.of (by decide) (Nat.le_of_ble_eq_true rfl) ?_
  intro p e s m below meth c ls A hC hA hP hK hD hS hl
  obtain ⟨hx, hb, hr, hml, hown, hts, hlocks, hN⟩ := id hC
  have hown : s.vm.findClass RX1 = some m.cls := hown
  have hl : lv_has ls 2 [(0, .ref h), (1, .int k)] := hl
  refine lv_iload_n hx hb dX1_codeAt_0 rfl (lv_at hl 1 rfl) ?_
  refine lv_if_lt (tgt := 26) hx hb dX1_codeAt_1 (by decide) (fun hc => ?_) (fun hc => ?_)
  · refine lv_iconst (v := -1) hx hb dX1_codeAt_26 (by decide) ?_
    exact ri_iret hC (⟨fun j hj e0 => absurd hc (by rw [e0]; exact nI_pos (by omega)), fun _ => rfl⟩) dX1_codeAt_27
  · refine lv_iload_n hx hb dX1_codeAt_4 rfl (lv_at hl 1 rfl) ?_
    refine lv_aload_n hx hb dX1_codeAt_5 rfl (lv_at hl 0 rfl) ?_
    refine dm_gori (dm_rV (n := 0) (As := []) (rest := [.int k]) hC hl (c_X1_size l D cB cI cC h a st f hst s.heap.size) kco_X1_size ki_X1 kim_X1_size kse_X1_size kml_X1_20 (by decide +kernel) ⟨Nat.le_of_ble_eq_true rfl, Nat.le_of_ble_eq_true rfl⟩ rfl rfl ⟨dm_blind, va_recv hK hP (ci := 1) (q0 := 0) rfl rfl, dm_preU hK hP hD hC.2.2.2.2.2.2.2 [0, 1] (by decide) rfl⟩ rfl rfl (Nat.le_of_ble_eq_true rfl) dX1_codeAt_6 ⟨Nat.le_of_ble_eq_true rfl, Nat.le_of_ble_eq_true rfl⟩) (fun r1 h1 => ?_)
    subst h1
    refine lv_icmp_ge (tgt := 26) hx hb dX1_codeAt_9 (by decide) (fun hd => ?_) (fun hd => ?_)
    · refine lv_iconst (v := -1) hx hb dX1_codeAt_26 (by decide) ?_
      exact ri_iret hC (⟨fun j hj e0 => absurd hd (by rw [e0]; exact nI_ge hj (by omega)), fun _ => rfl⟩) dX1_codeAt_27
    · obtain ⟨j, hj, rfl⟩ : ∃ j : Nat, j < 65536 - st ∧ k = nI j := (pk_ix k (by omega)).resolve_left hc |>.resolve_left hd
      refine lv_aload_n hx hb dX1_codeAt_12 rfl (lv_at hl 0 rfl) ?_
      refine va_get (D := D) (ci := 1) (C := RX1) (T := TX1) (N := 2) (v := .ref a) hx hb hts kin_X1_w hown hK hP 0 rfl rfl 0 (by decide) (hts _ kfl_X1_10) (fun _ h9 => h9) rfl dX1_codeAt_13 ?_
      refine lv_aload_n hx hb dX1_codeAt_16 rfl (lv_at hl 0 rfl) ?_
      refine va_get (D := D) (ci := 1) (C := RX1) (T := TX1) (N := 2) (v := .int (nI st)) hx hb hts kin_X1_w hown hK hP 0 rfl rfl 1 (by decide) (hts _ kfl_X1_16) (fun _ h9 => h9) rfl dX1_codeAt_17 ?_
      refine lv_iload_n hx hb dX1_codeAt_20 rfl (lv_at hl 1 rfl) ?_
      refine lv_iadd hx hb dX1_codeAt_21 ?_
      refine dm_ti (y := nI (st + j)) (nI_add _ _) ?_
      refine dm_bald (j := (st + j)) hx hb hK hP 1 0 rfl rfl (by omega) (by decide) dX1_codeAt_22 ?_
      refine lv_goto (tgt := 27) hx hb dX1_codeAt_23 (by decide) ?_
      exact ri_iret hC (⟨fun i hi e0 => by rw [(nI_eq (by omega) (by omega)).mp e0], fun h9 => absurd rfl (h9 j hj)⟩) dX1_codeAt_27

set_option maxRecDepth 100000 in
set_option maxHeartbeats 4000000 in
theorem c_X1_prepend (l : Launch) (D : va_G) (cB cI cC : ClassId) (h a st c0 : Nat) (f : Nat → Int32) (hst : st ≤ 65536) (hs0 : 0 < st) (hc0 : c0 < 128) : MV l yX1_prepend (Cond.code yX1_prepend cX1_prepend 2 none) 0 D (TY cB cI cC) [.ref h, .int (nI c0)] [(h, .inr (1, [.ref a, .int (nI st)])), (a, .inl (cB, 65536, .inl f))] (S := Unit) (fun _ => True) (fun _ => [(h, .inr (1, [.ref a, .int (nI (st - 1))])), (a, .inl (cB, 65536, .inl (upd f (st - 1) (nI c0))))]) := by
  refine MV.of (by decide) (Nat.le_of_ble_eq_true rfl) ?_
  intro p e s m below meth c ls A hC hA hP hK hD hS hl
  obtain ⟨hx, hb, hr, hml, hown, hts, hlocks, hN⟩ := id hC
  have hown : s.vm.findClass RX1 = some m.cls := hown
  have hl : lv_has ls 2 [(0, .ref h), (1, .int (nI c0))] := hl
  refine lv_aload_n hx hb dX1_prepend_0 rfl (lv_at hl 0 rfl) ?_
  refine va_get (D := D) (ci := 1) (C := RX1) (T := TX1) (N := 2) (v := .int (nI st)) hx hb hts kin_X1_w hown hK hP 0 rfl rfl 1 (by decide) (hts _ kfl_X1_16) (fun _ h9 => h9) rfl dX1_prepend_1 ?_
  refine dm_if_le (tgt := 28) hx hb (by omega) dX1_prepend_4 (by decide) (fun hc => ?_) (fun hc => ?_)
  · exact absurd hc (by omega)
  · refine lv_aload_n hx hb dX1_prepend_7 rfl (lv_at hl 0 rfl) ?_
    refine lv_dup hx hb dX1_prepend_8 rfl ?_
    refine va_get (D := D) (ci := 1) (C := RX1) (T := TX1) (N := 2) (v := .int (nI st)) hx hb hts kin_X1_w hown hK hP 0 rfl rfl 1 (by decide) (hts _ kfl_X1_16) (fun _ h9 => h9) rfl dX1_prepend_9 ?_
    refine lv_iconst (v := nI 1) hx hb dX1_prepend_12 (by decide) ?_
    refine lv_isub hx hb dX1_prepend_13 ?_
    refine dm_ti (y := nI (st - 1)) (pk_sub hs0) ?_
    refine va_put (D := D) (ci := 1) (v := .int (nI (st - 1))) (ty := .int) (C := RX1) (T := TX1) (N := 2) hx hb hts kin_X1_w tyX1 tyX1_ok nmX1 hown hK hP hD hS 0 rfl rfl 1 (by decide) (hts _ kfl_X1_16) (fun _ h9 => h9) rfl (by decide +kernel) rfl rfl (Nat.le_of_ble_eq_true rfl) dX1_prepend_14 (fun H locs hP hD hS => ?_)
    have hP : va_P D vwCl [(h, .inr (1, [.ref a, .int (nI (st - 1))])), (a, .inl (cB, 65536, .inl f))] H := hP
    have hD : va_D A [(h, .inr (1, [.ref a, .int (nI (st - 1))])), (a, .inl (cB, 65536, .inl f))] := hD
    refine lv_aload_n hx hb dX1_prepend_17 rfl (lv_at hl 0 rfl) ?_
    refine va_get (D := D) (ci := 1) (C := RX1) (T := TX1) (N := 2) (v := .ref a) hx hb hts kin_X1_w hown hK hP 0 rfl rfl 0 (by decide) (hts _ kfl_X1_10) (fun _ h9 => h9) rfl dX1_prepend_18 ?_
    refine lv_aload_n hx hb dX1_prepend_21 rfl (lv_at hl 0 rfl) ?_
    refine va_get (D := D) (ci := 1) (C := RX1) (T := TX1) (N := 2) (v := .int (nI (st - 1))) hx hb hts kin_X1_w hown hK hP 0 rfl rfl 1 (by decide) (hts _ kfl_X1_16) (fun _ h9 => h9) rfl dX1_prepend_22 ?_
    refine lv_iload_n hx hb dX1_prepend_25 rfl (lv_at hl 1 rfl) ?_
    refine lv_i2b (v := nI c0) hx hb dX1_prepend_26 (b7 _ hc0) ?_
    refine dm_bast (j := (st - 1)) (f' := upd f (st - 1) (nI c0)) hx hb hK hP hD hS 1 0 rfl rfl (by omega) (by decide) (by rw [nar7 hc0]) dX1_prepend_27 (fun H locs hP hD hS => ?_)
    have hP : va_P D vwCl [(h, .inr (1, [.ref a, .int (nI (st - 1))])), (a, .inl (cB, 65536, .inl (upd f (st - 1) (nI c0))))] H := hP
    have hD : va_D A [(h, .inr (1, [.ref a, .int (nI (st - 1))])), (a, .inl (cB, 65536, .inl (upd f (st - 1) (nI c0))))] := hD
    exact dm_vret hC hK () trivial hP hD hS dX1_prepend_28

theorem cdv_lt {d : Nat} (h : d < 36) : cdv d < 128 := by unfold cdv; split <;> omega

set_option maxRecDepth 100000 in
set_option maxHeartbeats 4000000 in
theorem c_X1_prependDigits (l : Launch) (D : va_G) (cB cI cC : ClassId) (h a st pt K r z : Nat) (f : Nat → Int32) (hst : st ≤ 65536) (hpt : pt < 9223372036854775808) (hK31 : K < 2 ^ 31) (hr2 : 2 ≤ r) (hr : r ≤ 36) (hz : z < 2) (hz1 : z = 1 → K ≤ st) (hz0 : z = 0 → pt < r ^ st ∧ pt < r ^ K) : MV l yX1_prependDigits (Cond.code yX1_prependDigits cX1_prependDigits 9 none) 1 D (TY cB cI cC) [.ref h, .long (lN pt), .int (nI K), .int (nI r), .int (nI z)] [(h, .inr (1, [.ref a, .int (nI st)])), (a, .inl (cB, 65536, .inl f))] (S := (Nat → Int32) × Nat) (fun q => q.2 ≤ st ∧ (z = 1 → q.2 + K = st) ∧ (z = 0 → pt < r ^ (st - q.2) ∧ (q.2 = st ∨ r ^ (st - q.2 - 1) ≤ pt)) ∧ (∀ i, i < st - q.2 → q.1 (st - 1 - i) = nI (cdv (pt / r ^ i % r))) ∧ ∀ j, st ≤ j → q.1 j = f j) (fun q => [(h, .inr (1, [.ref a, .int (nI q.2)])), (a, .inl (cB, 65536, .inl q.1))]) := by
  refine MV.of (by decide) (Nat.le_of_ble_eq_true rfl) ?_
  intro p e s m below meth c ls A hC hA hP hK hD hS hl
  obtain ⟨hx, hb, hr, hml, hown, hts, hlocks, hN⟩ := id hC
  have hown : s.vm.findClass RX1 = some m.cls := hown
  have hl : lv_has ls 9 [(0, .ref h), (1, .long (lN pt)), (3, .int (nI K)), (4, .int (nI r)), (5, .int (nI z))] := hl
  refine lv_lload_n hx hb dX1_prependDigits_0 rfl (lv_at hl 1 rfl) ?_
  refine lv_lstore (lv' := [(6, .long (lN pt)), (0, .ref h), (1, .long (lN pt)), (3, .int (nI K)), (4, .int (nI r)), (5, .int (nI z))]) hx hb dX1_prependDigits_1 hl (by decide) rfl (fun ls hl => ?_)
  refine lv_iconst (v := nI 0) hx hb dX1_prependDigits_3 (by decide) ?_
  refine lv_istore (lv' := [(8, .int (nI 0)), (6, .long (lN pt)), (0, .ref h), (1, .long (lN pt)), (3, .int (nI K)), (4, .int (nI r)), (5, .int (nI z))]) hx hb dX1_prependDigits_4 hl (by decide) rfl (fun ls hl => ?_)
  have hl : lv_has ls 9 [(8, .int (nI 0)), (6, .long (lN (pt / r ^ 0))), (0, .ref h), (1, .long (lN pt)), (3, .int (nI K)), (4, .int (nI r)), (5, .int (nI z))] := by rw [Nat.pow_zero, Nat.div_one]; exact lv_sub hl [0, 1, 2, 3, 4, 5, 6] rfl
  refine dm_loop (nL := 9) (head := 6) (P := fun (x : Nat × (Nat → Int32)) => x.1 ≤ K ∧ x.1 ≤ st ∧ (z = 0 → x.1 = 0 ∨ r ^ (x.1 - 1) ≤ pt) ∧ (∀ i, i < x.1 → x.2 (st - 1 - i) = nI (cdv (pt / r ^ i % r))) ∧ ∀ j, st ≤ j → x.2 j = f j) (w := fun x => [(h, .inr (1, [.ref a, .int (nI (st - x.1))])), (a, .inl (cB, 65536, .inl x.2))]) (lv := fun x => [(8, .int (nI x.1)), (6, .long (lN (pt / r ^ x.1))), (0, .ref h), (1, .long (lN pt)), (3, .int (nI K)), (4, .int (nI r)), (5, .int (nI z))]) (μ := fun x => K - x.1) ?_ (0, f) ⟨Nat.zero_le _, Nat.zero_le _, fun _ => Or.inl rfl, fun i hi => absurd hi (Nat.not_lt_zero _), fun _ _ => rfl⟩ hP hD hS hl
  rintro ⟨k, F⟩ H locs ls ⟨hk1, hk2, hk3, hk4, hk5⟩ hP hD hS hl ih
  dsimp only at hk1 hk2 hk3 hk4 hk5
  have hP : va_P D vwCl [(h, .inr (1, [.ref a, .int (nI (st - k))])), (a, .inl (cB, 65536, .inl F))] H := hP
  have hD : va_D A [(h, .inr (1, [.ref a, .int (nI (st - k))])), (a, .inl (cB, 65536, .inl F))] := hD
  have hl : lv_has ls 9 [(8, .int (nI k)), (6, .long (lN (pt / r ^ k))), (0, .ref h), (1, .long (lN pt)), (3, .int (nI K)), (4, .int (nI r)), (5, .int (nI z))] := hl
  have hQb : pt / r ^ k < 9223372036854775808 := Nat.lt_of_le_of_lt (Nat.div_le_self _ _) hpt
  have hrp : 0 < r ^ k := Nat.pow_pos (by omega)
  refine dm_cutR (nL := 9) (σ := Unit) 24 (fun _ => k < K ∧ k < st ∧ (z = 0 → r ^ k ≤ pt)) (fun _ => [(8, .int (nI k)), (6, .long (lN (pt / r ^ k))), (0, .ref h), (1, .long (lN pt)), (3, .int (nI K)), (4, .int (nI r)), (5, .int (nI z))]) (fun hJ => ?_) ?_
  · refine lv_iload hx hb dX1_prependDigits_6 (lv_at hl 0 rfl) ?_
    refine lv_iload_n hx hb dX1_prependDigits_8 rfl (lv_at hl 4 rfl) ?_
    refine dm_icmp_ge (tgt := 52) hx hb (by omega) (by omega) dX1_prependDigits_9 (by decide) (fun hc => ?_) (fun hc => ?_)
    · have hkK : k = K := by omega
      subst hkK
      exact dm_vret hC hK (F, st - k) ⟨Nat.sub_le _ _, fun h9 => by show st - k + k = st; omega, fun h9 => by dsimp only; rw [show st - (st - k) = k by omega]; exact ⟨(hz0 h9).2, (hk3 h9).elim (fun h8 => Or.inl (by omega)) Or.inr⟩, fun i hi => hk4 i (by have hi : i < st - (st - k) := hi; omega), hk5⟩ hP hD hS dX1_prependDigits_52
    · refine lv_iload hx hb dX1_prependDigits_12 (lv_at hl 6 rfl) ?_
      refine dm_if_ne (tgt := 24) hx hb (by omega) dX1_prependDigits_14 (by decide) (fun hd => ?_) (fun hd => ?_)
      · have hz9 : z = 1 := by omega
        exact hJ () ls ⟨hc, by have := hz1 hz9; omega, fun h9 => absurd h9 (by omega)⟩ hl
      · refine lv_lload hx hb dX1_prependDigits_17 (lv_at hl 1 rfl) ?_
        refine lv_lconst (v := lN 0) hx hb dX1_prependDigits_19 (by decide) ?_
        refine dm_lc_le (tgt := 52) hx hb (by omega) (by omega) dX1_prependDigits_20 dX1_prependDigits_21 (by decide) (fun he => ?_) (fun he => ?_)
        · have hQ0 : pt / r ^ k = 0 := Nat.eq_zero_of_le_zero he
          have hlt : pt < r ^ k := (Nat.div_eq_zero_iff.mp hQ0).resolve_left (by omega)
          exact dm_vret hC hK (F, st - k) ⟨Nat.sub_le _ _, fun h9 => absurd h9 (by omega), fun h9 => by dsimp only; rw [show st - (st - k) = k by omega]; exact ⟨hlt, (hk3 h9).elim (fun h8 => Or.inl (by omega)) Or.inr⟩, fun i hi => hk4 i (by have hi : i < st - (st - k) := hi; omega), hk5⟩ hP hD hS dX1_prependDigits_52
        · have hge : r ^ k ≤ pt := Nat.le_of_not_lt (fun h9 => by have := Nat.div_eq_of_lt h9; omega)
          exact hJ () ls ⟨hc, (Nat.pow_lt_pow_iff_right (by omega)).mp (Nat.lt_of_le_of_lt hge (hz0 hd).1), fun _ => hge⟩ hl
  · rintro - ls ⟨hkK, hks, hkz⟩ hl
    have hmr : pt / r ^ k % r < r := Nat.mod_lt _ (by omega)
    refine lv_aload_n hx hb dX1_prependDigits_24 rfl (lv_at hl 2 rfl) ?_
    refine lv_lload hx hb dX1_prependDigits_25 (lv_at hl 1 rfl) ?_
    refine lv_iload hx hb dX1_prependDigits_27 (lv_at hl 5 rfl) ?_
    refine lv_i2l (v := lN r) hx hb dX1_prependDigits_29 (nI_l (by omega)) ?_
    refine lv_lrem hx hb dX1_prependDigits_30 (fun e0 => by have := (pk_lEQ (b := 0) (by omega) (by decide)).mp e0; omega) ?_
    refine dm_tl (y := lN (pt / r ^ k % r)) (pk_lRem (by omega) (by omega) (by omega)) ?_
    refine lv_l2i (v := nI (pt / r ^ k % r)) hx hb dX1_prependDigits_31 (lN_low) ?_
    refine dm_gori (dm_rSN (n := 1) (As := [.int (nI (pt / r ^ k % r))]) (rest := [.ref h]) hC hl (c_X3_codeOf l D cB cI cC (pt / r ^ k % r) (by omega) H.size) kco_X3_codeOf ki_X3 kst_X3_codeOf knl_X1_44 (by decide +kernel) ⟨Nat.le_of_ble_eq_true rfl, Nat.le_of_ble_eq_true rfl⟩ rfl rfl ⟨dm_blind, dm_preU hK hP hD hC.2.2.2.2.2.2.2 [] (by decide) rfl⟩ rfl rfl (Nat.le_of_ble_eq_true rfl) dX1_prependDigits_32 ⟨Nat.le_of_ble_eq_true rfl, Nat.le_of_ble_eq_true rfl⟩) (fun r1 h1 => ?_)
    subst h1
    refine dm_gov (wr := []) (dm_rV (n := 1) (As := [.int (nI (cdv (pt / r ^ k % r)))]) (rest := []) hC hl (c_X1_prepend l D cB cI cC h a (st - k) (cdv (pt / r ^ k % r)) F (by omega) (by omega) (cdv_lt (by omega)) H.size) kco_X1_prepend ki_X1 kim_X1_prepend kse_X1_prepend kml_X1_40 (by decide +kernel) ⟨Nat.le_of_ble_eq_true rfl, Nat.le_of_ble_eq_true rfl⟩ rfl rfl ⟨dm_blind, va_recv hK hP (ci := 1) (q0 := 0) rfl rfl, dm_preU hK hP hD hC.2.2.2.2.2.2.2 [0, 1] (by decide) rfl⟩ rfl rfl (Nat.le_of_ble_eq_true rfl) dX1_prependDigits_35 ⟨Nat.le_of_ble_eq_true rfl, Nat.le_of_ble_eq_true rfl⟩) hP hD hS hA [0, 1] [] rfl rfl (by decide) (by decide) (fun _ H locs _ hP hD hS => ?_)
    have hP : va_P D vwCl [(h, .inr (1, [.ref a, .int (nI (st - k - 1))])), (a, .inl (cB, 65536, .inl (upd F (st - k - 1) (nI (cdv (pt / r ^ k % r))))))] H := hP
    have hD : va_D A [(h, .inr (1, [.ref a, .int (nI (st - k - 1))])), (a, .inl (cB, 65536, .inl (upd F (st - k - 1) (nI (cdv (pt / r ^ k % r))))))] := hD
    refine lv_lload hx hb dX1_prependDigits_38 (lv_at hl 1 rfl) ?_
    refine lv_iload hx hb dX1_prependDigits_40 (lv_at hl 5 rfl) ?_
    refine lv_i2l (v := lN r) hx hb dX1_prependDigits_42 (nI_l (by omega)) ?_
    refine lv_ldiv hx hb dX1_prependDigits_43 (fun e0 => by have := (pk_lEQ (b := 0) (by omega) (by decide)).mp e0; omega) ?_
    refine dm_tl (y := lN (pt / r ^ k / r)) (pk_lDiv (by omega) (by omega) (by omega)) ?_
    refine dm_tl (y := lN (pt / r ^ (k + 1))) (by rw [Nat.div_div_eq_div_mul, ← Nat.pow_succ]) ?_
    refine lv_lstore (lv' := [(6, .long (lN (pt / r ^ (k + 1)))), (8, .int (nI k)), (0, .ref h), (1, .long (lN pt)), (3, .int (nI K)), (4, .int (nI r)), (5, .int (nI z))]) hx hb dX1_prependDigits_44 hl (by decide) rfl (fun ls hl => ?_)
    refine lv_iinc (v := nI (k + 1)) (lv' := [(8, .int (nI (k + 1))), (6, .long (lN (pt / r ^ (k + 1)))), (0, .ref h), (1, .long (lN pt)), (3, .int (nI K)), (4, .int (nI r)), (5, .int (nI z))]) hx hb dX1_prependDigits_46 hl (k := 1) rfl ((nI_succ k).symm) (by decide) rfl (fun ls hl => ?_)
    refine lv_goto (tgt := 6) hx hb dX1_prependDigits_49 (by decide) ?_
    rw [show st - k - 1 = st - (k + 1) by omega] at hP hD
    refine ih (k + 1, upd F (st - (k + 1)) (nI (cdv (pt / r ^ k % r)))) H locs ls (by show K - (k + 1) < K - k; omega) ⟨by show k + 1 ≤ K; omega, by show k + 1 ≤ st; omega, fun h9 => Or.inr (by show r ^ (k + 1 - 1) ≤ pt; rw [Nat.add_sub_cancel]; exact hkz h9), fun i hi => ?_, fun j hj => ?_⟩ hP hD hS (lv_sub hl [0, 1, 2, 3, 4, 5, 6] rfl)
    · have hi : i < k + 1 := hi
      show upd F (st - (k + 1)) _ (st - 1 - i) = _
      rcases (show i < k ∨ i = k by omega) with h6 | h6
      · rw [pk_un (by omega)]; exact hk4 i h6
      · rw [h6, show st - 1 - k = st - (k + 1) by omega, pk_us]
    · show upd F (st - (k + 1)) _ j = f j
      rw [pk_un (by omega)]
      exact hk5 j hj
