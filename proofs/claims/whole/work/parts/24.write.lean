/-- how many digits a number has -/
def isND (r V c : Nat) : Prop := 1 ≤ c ∧ V < r ^ c ∧ (c = 1 ∨ r ^ (c - 1) ≤ V)
theorem isND_uniq {r V c d : Nat} (hr : 2 ≤ r) (h1 : isND r V c) (h2 : isND r V d) : c = d := by
  have key : ∀ {c d : Nat}, isND r V c → isND r V d → c ≤ d := by
    intro c d h1 h2
    rcases h1.2.2 with h | h
    · have := h2.1; omega
    · have h3 := (Nat.pow_lt_pow_iff_right (show 1 < r by omega)).mp (Nat.lt_of_le_of_lt h h2.2.1)
      omega
  exact Nat.le_antisymm (key h1 h2) (key h2 h1)
theorem mod_digit {x r K j : Nat} (hr : 0 < r) (h : j < K) : x % r ^ K / r ^ j % r = x / r ^ j % r := by
  obtain ⟨d, rfl⟩ : ∃ d, K = j + (d + 1) := ⟨K - j - 1, by omega⟩
  rw [Nat.pow_add, Nat.mod_mul, Nat.add_mul_div_left _ _ (Nat.pow_pos hr), Nat.div_eq_of_lt (Nat.mod_lt _ (Nat.pow_pos hr)), Nat.zero_add, Nat.pow_succ, Nat.mul_comm (r ^ d) r, Nat.mod_mul_right_mod]
theorem div_pow_add {x r a b : Nat} : x / r ^ a / r ^ b = x / r ^ (a + b) := by rw [Nat.div_div_eq_div_mul, ← Nat.pow_add]
theorem pow_le_of_div {V r c k : Nat} (hr : 0 < r) (h : r ^ k ≤ V / r ^ c) : r ^ (c + k) ≤ V := by
  rw [Nat.pow_add, Nat.mul_comm]
  exact (Nat.le_div_iff_mul_le (Nat.pow_pos hr)).mp h

set_option maxRecDepth 100000 in
set_option maxHeartbeats 4000000 in
theorem c_X1_becomeDigitsOf (l : Launch) (D : va_G) (cB cI cC : ClassId) (h a hw aw N st u r : Nat) (f g : Nat → Int32) (hu : u ≤ N) (hNb : N < 2 ^ 31) (hnr : nrm g u) (hr2 : 2 ≤ r) (hr36 : r ≤ 36) (hV : dvb 4294967296 g u < r ^ 65536) : MV l yX1_becomeDigitsOf (Cond.code yX1_becomeDigitsOf cX1_becomeDigitsOf 11 none) 2 D (TY cB cI cC) [.ref h, .ref hw, .int (nI r)] [(h, .inr (1, [.ref a, .int (nI st)])), (a, .inl (cB, 65536, .inl f)), (hw, .inr (2, [.ref aw, .int (nI u)])), (aw, .inl (cI, N, .inl g))] (S := (Nat → Int32) × Nat × (Nat → Int32) × Nat) (fun q => q.2.1 ≤ 65536 ∧ q.2.2.2 ≤ N ∧ isND r (dvb 4294967296 g u) (65536 - q.2.1) ∧ ∀ i, i < 65536 - q.2.1 → q.1 (65535 - i) = nI (cdv (dvb 4294967296 g u / r ^ i % r))) (fun q => [(h, .inr (1, [.ref a, .int (nI q.2.1)])), (a, .inl (cB, 65536, .inl q.1)), (hw, .inr (2, [.ref aw, .int (nI q.2.2.2)])), (aw, .inl (cI, N, .inl q.2.2.1))]) := by
  refine MV.of (by decide) (Nat.le_of_ble_eq_true rfl) ?_
  intro p e s m below meth c ls A hC hA hP hK hD hS hl
  obtain ⟨hx, hb, hr, hml, hown, hts, hlocks, hN⟩ := id hC
  have hown : s.vm.findClass RX1 = some m.cls := hown
  have hl : lv_has ls 11 [(0, .ref h), (1, .ref hw), (2, .int (nI r))] := hl
  obtain ⟨V, hVe⟩ : ∃ z, z = dvb 4294967296 g u := ⟨_, rfl⟩
  rw [← hVe] at hV ⊢
  refine lv_iload_n hx hb dX1_becomeDigitsOf_0 rfl (lv_at hl 2 rfl) ?_
  refine lv_i2l (v := lN r) hx hb dX1_becomeDigitsOf_1 (nI_l (by omega)) ?_
  refine lv_lstore_n (lv' := [(3, .long (lN r)), (0, .ref h), (1, .ref hw), (2, .int (nI r))]) hx hb dX1_becomeDigitsOf_2 rfl hl (by decide) rfl (fun ls hl => ?_)
  refine lv_iconst (v := nI 1) hx hb dX1_becomeDigitsOf_3 (by decide) ?_
  refine lv_istore (lv' := [(5, .int (nI 1)), (3, .long (lN r)), (0, .ref h), (1, .ref hw), (2, .int (nI r))]) hx hb dX1_becomeDigitsOf_4 hl (by decide) rfl (fun ls hl => ?_)
  refine lv_ldc2 (v := 2147483648) hx hb hown (hts _ kct_X1_24) dX1_becomeDigitsOf_6 ?_
  refine dm_tl (y := lN 2147483648) (rfl) ?_
  refine lv_iload_n hx hb dX1_becomeDigitsOf_9 rfl (lv_at hl 4 rfl) ?_
  refine lv_i2l (v := lN r) hx hb dX1_becomeDigitsOf_10 (nI_l (by omega)) ?_
  obtain ⟨mo, hmo⟩ : ∃ z, z = 2147483648 / r := ⟨_, rfl⟩
  have hmor : ∀ z, z ≤ mo → z * r ≤ 2147483648 := fun z hz => (Nat.le_div_iff_mul_le (by omega)).mp (by rw [← hmo]; exact hz)
  have hmob : mo ≤ 2147483648 := by rw [hmo]; exact Nat.div_le_self _ _
  refine lv_ldiv hx hb dX1_becomeDigitsOf_11 (fun e0 => by have := (pk_lEQ (b := 0) (by omega) (by decide)).mp e0; omega) ?_
  refine dm_tl (y := lN mo) (by rw [hmo]; exact pk_lDiv (by decide) (by omega) (by omega)) ?_
  refine lv_lstore (lv' := [(6, .long (lN mo)), (5, .int (nI 1)), (3, .long (lN r)), (0, .ref h), (1, .ref hw), (2, .int (nI r))]) hx hb dX1_becomeDigitsOf_12 hl (by decide) rfl (fun ls hl => ?_)
  refine lv_iconst (v := nI 0) hx hb dX1_becomeDigitsOf_14 (by decide) ?_
  refine lv_istore (lv' := [(8, .int (nI 0)), (6, .long (lN mo)), (5, .int (nI 1)), (3, .long (lN r)), (0, .ref h), (1, .ref hw), (2, .int (nI r))]) hx hb dX1_becomeDigitsOf_15 hl (by decide) rfl (fun ls hl => ?_)
  have hl : lv_has ls 11 [(8, .int (nI 0)), (6, .long (lN mo)), (5, .int (nI (0 + 1))), (3, .long (lN (r ^ (0 + 1)))), (0, .ref h), (1, .ref hw), (2, .int (nI r))] := by rw [Nat.zero_add, Nat.pow_one]; exact lv_sub hl [0, 1, 2, 3, 4, 5, 6] rfl
  refine dm_cutR (nL := 11) (σ := Nat) 45 (fun k => k ≤ 32 ∧ r ^ (k + 1) ≤ 2147483648) (fun k => [(8, .int (nI k)), (6, .long (lN mo)), (5, .int (nI (k + 1))), (3, .long (lN (r ^ (k + 1)))), (0, .ref h), (1, .ref hw), (2, .int (nI r))]) (fun hJ => ?_) ?_
  · refine dm_loopR (nL := 11) 17 (fun k => k ≤ 32 ∧ r ^ (k + 1) ≤ 2147483648) (fun k => [(8, .int (nI k)), (6, .long (lN mo)), (5, .int (nI (k + 1))), (3, .long (lN (r ^ (k + 1)))), (0, .ref h), (1, .ref hw), (2, .int (nI r))]) (fun k => 32 - k) ?_ 0 ⟨by decide, by rw [Nat.zero_add, Nat.pow_one]; omega⟩ hl
    rintro k ls ⟨hk, hdd⟩ hl ih
    refine lv_iload hx hb dX1_becomeDigitsOf_17 (lv_at hl 0 rfl) ?_
    refine lv_bipush (v := nI 32) hx hb dX1_becomeDigitsOf_19 (by decide) ?_
    refine dm_icmp_ge (tgt := 45) hx hb (by omega) (by omega) dX1_becomeDigitsOf_21 (by decide) (fun hc => ?_) (fun hc => ?_)
    · exact hJ k ls ⟨hk, hdd⟩ hl
    · refine lv_lload_n hx hb dX1_becomeDigitsOf_24 rfl (lv_at hl 3 rfl) ?_
      refine lv_lload hx hb dX1_becomeDigitsOf_25 (lv_at hl 1 rfl) ?_
      refine dm_lc_gt (tgt := 45) hx hb (by omega) (by omega) dX1_becomeDigitsOf_27 dX1_becomeDigitsOf_28 (by decide) (fun hd => ?_) (fun hd => ?_)
      · exact hJ k ls ⟨hk, hdd⟩ hl
      · refine lv_lload_n hx hb dX1_becomeDigitsOf_31 rfl (lv_at hl 3 rfl) ?_
        refine lv_iload_n hx hb dX1_becomeDigitsOf_32 rfl (lv_at hl 6 rfl) ?_
        refine lv_i2l (v := lN r) hx hb dX1_becomeDigitsOf_33 (nI_l (by omega)) ?_
        refine lv_lmul hx hb dX1_becomeDigitsOf_34 ?_
        refine dm_tl (y := lN (r ^ (k + 1 + 1))) (by rw [lN_mul, ← Nat.pow_succ]) ?_
        refine lv_lstore_n (lv' := [(3, .long (lN (r ^ (k + 1 + 1)))), (8, .int (nI k)), (6, .long (lN mo)), (5, .int (nI (k + 1))), (0, .ref h), (1, .ref hw), (2, .int (nI r))]) hx hb dX1_becomeDigitsOf_35 rfl hl (by decide) rfl (fun ls hl => ?_)
        refine lv_iinc (v := nI (k + 1 + 1)) (lv' := [(5, .int (nI (k + 1 + 1))), (3, .long (lN (r ^ (k + 1 + 1)))), (8, .int (nI k)), (6, .long (lN mo)), (0, .ref h), (1, .ref hw), (2, .int (nI r))]) hx hb dX1_becomeDigitsOf_36 hl (k := 3) rfl ((nI_succ _).symm) (by decide) rfl (fun ls hl => ?_)
        refine lv_iinc (v := nI (k + 1)) (lv' := [(8, .int (nI (k + 1))), (5, .int (nI (k + 1 + 1))), (3, .long (lN (r ^ (k + 1 + 1)))), (6, .long (lN mo)), (0, .ref h), (1, .ref hw), (2, .int (nI r))]) hx hb dX1_becomeDigitsOf_39 hl (k := 2) rfl ((nI_succ k).symm) (by decide) rfl (fun ls hl => ?_)
        refine lv_goto (tgt := 17) hx hb dX1_becomeDigitsOf_42 (by decide) ?_
        exact ih (k + 1) ls (by omega) ⟨by omega, by rw [Nat.pow_succ]; exact hmor _ hd⟩ (lv_sub hl [0, 3, 1, 2, 4, 5, 6] rfl)
  · rintro k0 ls ⟨hk0, hdd⟩ hl
    obtain ⟨dg, hdg⟩ : ∃ z, z = k0 + 1 := ⟨_, rfl⟩
    rw [← hdg] at hdd hl
    have hl : lv_has ls 11 [(8, .int (nI k0)), (6, .long (lN mo)), (5, .int (nI dg)), (3, .long (lN (r ^ dg))), (0, .ref h), (1, .ref hw), (2, .int (nI r))] := hl
    have hdd1 : 0 < r ^ dg := Nat.pow_pos (by omega)
    have hsq : r ^ dg * r ^ dg = r ^ (2 * dg) := by rw [← Nat.pow_add]; congr 1; omega
    refine lv_aload_n hx hb dX1_becomeDigitsOf_45 rfl (lv_at hl 4 rfl) ?_
    refine lv_aload_n hx hb dX1_becomeDigitsOf_46 rfl (lv_at hl 4 rfl) ?_
    refine va_get (D := D) (ci := 1) (C := RX1) (T := TX1) (N := 2) (v := .ref a) hx hb hts kin_X1_w hown hK hP 0 rfl rfl 0 (by decide) (hts _ kfl_X1_10) (fun _ h9 => h9) rfl dX1_becomeDigitsOf_47 ?_
    refine va_alen (v := nI 65536) hx hb hK hP 1 0 rfl rfl rfl dX1_becomeDigitsOf_50 ?_
    refine va_put (D := D) (ci := 1) (v := .int (nI 65536)) (ty := .int) (C := RX1) (T := TX1) (N := 2) hx hb hts kin_X1_w tyX1 tyX1_ok nmX1 hown hK hP hD hS 0 rfl rfl 1 (by decide) (hts _ kfl_X1_16) (fun _ h9 => h9) rfl (by decide +kernel) rfl rfl (Nat.le_of_ble_eq_true rfl) dX1_becomeDigitsOf_51 (fun H locs hP hD hS => ?_)
    have hP : va_P D vwCl [(h, .inr (1, [.ref a, .int (nI 65536)])), (a, .inl (cB, 65536, .inl f)), (hw, .inr (2, [.ref aw, .int (nI u)])), (aw, .inl (cI, N, .inl g))] H := hP
    have hD : va_D A [(h, .inr (1, [.ref a, .int (nI 65536)])), (a, .inl (cB, 65536, .inl f)), (hw, .inr (2, [.ref aw, .int (nI u)])), (aw, .inl (cI, N, .inl g))] := hD
    refine lv_iconst (v := nI 0) hx hb dX1_becomeDigitsOf_54 (by decide) ?_
    refine lv_istore (lv' := [(8, .int (nI 0)), (6, .long (lN mo)), (5, .int (nI dg)), (3, .long (lN (r ^ dg))), (0, .ref h), (1, .ref hw), (2, .int (nI r))]) hx hb dX1_becomeDigitsOf_55 hl (by decide) rfl (fun ls hl => ?_)
    refine dm_loop (nL := 11) (head := 57) (P := fun (x : Nat × (Nat → Int32) × Nat × (Nat → Int32) × Nat) => x.2.2.1 ≤ 65536 ∧ x.1 + x.2.2.1 ≤ 65536 ∧ x.2.2.2.2 ≤ N ∧ nrm x.2.2.2.1 x.2.2.2.2 ∧ dvb 4294967296 x.2.2.2.1 x.2.2.2.2 = V / r ^ (65536 - x.2.2.1) ∧ (x.2.2.1 = 65536 ∨ r ^ (65536 - x.2.2.1 - 1) ≤ V) ∧ ∀ i, i < 65536 - x.2.2.1 → x.2.1 (65535 - i) = nI (cdv (V / r ^ i % r))) (w := fun x => [(h, .inr (1, [.ref a, .int (nI x.2.2.1)])), (a, .inl (cB, 65536, .inl x.2.1)), (hw, .inr (2, [.ref aw, .int (nI x.2.2.2.2)])), (aw, .inl (cI, N, .inl x.2.2.2.1))]) (lv := fun x => [(8, .int (nI x.1)), (5, .int (nI dg)), (3, .long (lN (r ^ dg))), (0, .ref h), (1, .ref hw), (2, .int (nI r))]) (μ := fun x => x.2.2.1) ?_ (0, f, 65536, g, u) ⟨Nat.le_refl _, by show 0 + 65536 ≤ 65536; omega, hu, hnr, by dsimp only; rw [Nat.sub_self, Nat.pow_zero, Nat.div_one, hVe], Or.inl rfl, fun i hi => absurd hi (Nat.not_lt_zero _)⟩ hP hD hS (lv_sub hl [0, 2, 3, 4, 5, 6] rfl)
    rintro ⟨t, F, sk, G, U⟩ H locs ls ⟨h1, h2, h3, h4, h5, h6, h7⟩ hP hD hS hl ih
    dsimp only at h1 h2 h3 h4 h5 h6 h7
    have hP : va_P D vwCl [(h, .inr (1, [.ref a, .int (nI sk)])), (a, .inl (cB, 65536, .inl F)), (hw, .inr (2, [.ref aw, .int (nI U)])), (aw, .inl (cI, N, .inl G))] H := hP
    have hD : va_D A [(h, .inr (1, [.ref a, .int (nI sk)])), (a, .inl (cB, 65536, .inl F)), (hw, .inr (2, [.ref aw, .int (nI U)])), (aw, .inl (cI, N, .inl G))] := hD
    have hl : lv_has ls 11 [(8, .int (nI t)), (5, .int (nI dg)), (3, .long (lN (r ^ dg))), (0, .ref h), (1, .ref hw), (2, .int (nI r))] := hl
    refine dm_cutR (nL := 11) (σ := Unit) 107 (fun _ => V < r ^ (65536 - sk)) (fun _ => [(8, .int (nI t)), (5, .int (nI dg)), (3, .long (lN (r ^ dg))), (0, .ref h), (1, .ref hw), (2, .int (nI r))]) (fun hJ => ?_) ?_
    · refine lv_iload hx hb dX1_becomeDigitsOf_57 (lv_at hl 0 rfl) ?_
      refine lv_ldc (v := nI 65536) hx hb hown (hts _ kct_X1_9) dX1_becomeDigitsOf_59 ?_
      refine dm_icmp_ge (tgt := 107) hx hb (by omega) (by omega) dX1_becomeDigitsOf_61 (by decide) (fun hc => ?_) (fun hc => ?_)
      · exact hJ () ls (by rw [show sk = 0 by omega]; exact hV) hl
      · refine lv_aload_n hx hb dX1_becomeDigitsOf_64 rfl (lv_at hl 4 rfl) ?_
        refine dm_gori (dm_rVN (n := 0) (As := []) (rest := []) hC hl (c_X2_isZero l D cB cI cC hw aw N U G (by omega) H.size) kco_X2_isZero ki_X2 kim_X2_isZero kse_X2_isZero knl_X1_26 (by decide +kernel) ⟨Nat.le_of_ble_eq_true rfl, Nat.le_of_ble_eq_true rfl⟩ rfl rfl ⟨dm_blind, va_recv hK hP (ci := 2) (q0 := 2) rfl rfl, dm_preU hK hP hD hC.2.2.2.2.2.2.2 [2, 3] (by decide) rfl⟩ rfl rfl (Nat.le_of_ble_eq_true rfl) dX1_becomeDigitsOf_65 ⟨Nat.le_of_ble_eq_true rfl, Nat.le_of_ble_eq_true rfl⟩) (fun r1 e1 => ?_)
        by_cases hU0 : U = 0
        · rw [if_pos hU0] at e1
          subst e1
          refine lv_if_ne (tgt := 107) hx hb dX1_becomeDigitsOf_68 (by decide) (fun hd => ?_) (fun hd => ?_)
          · exact hJ () ls ((Nat.div_eq_zero_iff.mp (by rw [← h5, hU0]; rfl)).resolve_left (Nat.ne_of_gt (Nat.pow_pos (by omega)))) hl
          · exact absurd hd (by decide)
        · rw [if_neg hU0] at e1
          subst e1
          refine lv_if_ne (tgt := 107) hx hb dX1_becomeDigitsOf_68 (by decide) (fun hd => ?_) (fun hd => ?_)
          · exact absurd rfl hd
          · have hVt : 0 < V / r ^ (65536 - sk) := by
              obtain ⟨k, rfl⟩ : ∃ k, U = k + 1 := ⟨U - 1, by omega⟩
              rw [← h5]
              exact Nat.lt_of_lt_of_le (Nat.pow_pos (by decide)) (nrm_ge h4)
            have hVc : r ^ (65536 - sk) ≤ V := pow_le_of_div (k := 0) (by omega) (by rw [Nat.pow_zero]; exact hVt)
            have hsk0 : 0 < sk := by have := (Nat.pow_lt_pow_iff_right (show 1 < r by omega)).mp (Nat.lt_of_le_of_lt hVc hV); omega
            obtain ⟨Vt, hVte⟩ : ∃ z, z = V / r ^ (65536 - sk) := ⟨_, rfl⟩
            rw [← hVte] at h5 hVt
            refine lv_aload_n hx hb dX1_becomeDigitsOf_71 rfl (lv_at hl 4 rfl) ?_
            refine lv_lload_n hx hb dX1_becomeDigitsOf_72 rfl (lv_at hl 2 rfl) ?_
            refine dm_gol (wr := [(h, .inr (1, [.ref a, .int (nI sk)])), (a, .inl (cB, 65536, .inl F))]) (dm_rVN (n := 1) (As := [.long (lN (r ^ dg))]) (rest := []) hC hl (c_X2_divideTwiceBy l D cB cI cC hw aw N U (r ^ dg) G h3 hNb hdd1 hdd H.size) kco_X2_divideTwiceBy ki_X2 kim_X2_divideTwiceBy kse_X2_divideTwiceBy knl_X1_32 (by decide +kernel) ⟨Nat.le_of_ble_eq_true rfl, Nat.le_of_ble_eq_true rfl⟩ rfl rfl ⟨dm_blind, va_recv hK hP (ci := 2) (q0 := 2) rfl rfl, dm_preU hK hP hD hC.2.2.2.2.2.2.2 [2, 3] (by decide) rfl⟩ rfl rfl (Nat.le_of_ble_eq_true rfl) dX1_becomeDigitsOf_73 ⟨Nat.le_of_ble_eq_true rfl, Nat.le_of_ble_eq_true rfl⟩) hP hD hS hA [2, 3] [0, 1] rfl rfl (by decide) (by decide) (fun r2 q H locs hw1 hP hD hS => ?_)
            obtain ⟨G2, U2⟩ := q
            have hP : va_P D vwCl [(h, .inr (1, [.ref a, .int (nI sk)])), (a, .inl (cB, 65536, .inl F)), (hw, .inr (2, [.ref aw, .int (nI U2)])), (aw, .inl (cI, N, .inl G2))] H := hP
            have hD : va_D A [(h, .inr (1, [.ref a, .int (nI sk)])), (a, .inl (cB, 65536, .inl F)), (hw, .inr (2, [.ref aw, .int (nI U2)])), (aw, .inl (cI, N, .inl G2))] := hD
            obtain ⟨e2, hU2, hv2, hn2⟩ := hw1
            dsimp only at hU2 hv2 hn2
            rw [hsq, h5] at e2 hv2
            subst e2
            have hsq2 : r ^ (2 * dg) ≤ 4611686018427387904 := by rw [← hsq]; exact Nat.mul_le_mul hdd hdd
            have hPt : Vt % r ^ (2 * dg) < r ^ (2 * dg) := Nat.mod_lt _ (Nat.pow_pos (by omega))
            refine lv_lstore (lv' := [(9, .long (lN (Vt % r ^ (2 * dg)))), (8, .int (nI t)), (5, .int (nI dg)), (3, .long (lN (r ^ dg))), (0, .ref h), (1, .ref hw), (2, .int (nI r))]) hx hb dX1_becomeDigitsOf_76 hl (by decide) rfl (fun ls hl => ?_)
            refine lv_aload_n hx hb dX1_becomeDigitsOf_78 rfl (lv_at hl 4 rfl) ?_
            refine lv_lload hx hb dX1_becomeDigitsOf_79 (lv_at hl 0 rfl) ?_
            refine lv_iconst (v := nI 2) hx hb dX1_becomeDigitsOf_81 (by decide) ?_
            refine lv_iload hx hb dX1_becomeDigitsOf_82 (lv_at hl 2 rfl) ?_
            refine lv_imul hx hb dX1_becomeDigitsOf_84 ?_
            refine dm_ti (y := nI (2 * dg)) (pk_mul 2 dg) ?_
            refine lv_iload_n hx hb dX1_becomeDigitsOf_85 rfl (lv_at hl 6 rfl) ?_
            refine lv_aload_n hx hb dX1_becomeDigitsOf_86 rfl (lv_at hl 5 rfl) ?_
            refine dm_gori (dm_rVN (n := 0) (As := []) (rest := [.int (nI r), .int (nI (2 * dg)), .long (lN (Vt % r ^ (2 * dg))), .ref h]) hC hl (c_X2_isZero l D cB cI cC hw aw N U2 G2 (by omega) H.size) kco_X2_isZero ki_X2 kim_X2_isZero kse_X2_isZero knl_X1_26 (by decide +kernel) ⟨Nat.le_of_ble_eq_true rfl, Nat.le_of_ble_eq_true rfl⟩ rfl rfl ⟨dm_blind, va_recv hK hP (ci := 2) (q0 := 2) rfl rfl, dm_preU hK hP hD hC.2.2.2.2.2.2.2 [2, 3] (by decide) rfl⟩ rfl rfl (Nat.le_of_ble_eq_true rfl) dX1_becomeDigitsOf_87 ⟨Nat.le_of_ble_eq_true rfl, Nat.le_of_ble_eq_true rfl⟩) (fun r3 e3 => ?_)
            by_cases hU20 : U2 = 0
            · rw [if_pos hU20] at e3
              subst e3
              refine lv_if_ne (tgt := 97) hx hb dX1_becomeDigitsOf_90 (by decide) (fun hg => ?_) (fun hg => ?_)
              · have hq0 : Vt / r ^ (2 * dg) = 0 := by rw [← hv2, hU20]; rfl
                have hVtl : Vt < r ^ (2 * dg) := (Nat.div_eq_zero_iff.mp hq0).resolve_left (Nat.ne_of_gt (Nat.pow_pos (by omega)))
                have hPe : Vt % r ^ (2 * dg) = Vt := Nat.mod_eq_of_lt hVtl
                have hroom : Vt % r ^ (2 * dg) < r ^ sk := by
                  rw [hPe, hVte]
                  refine Nat.div_lt_of_lt_mul ?_
                  rw [← Nat.pow_add, show 65536 - sk + sk = 65536 by omega]
                  exact hV
                refine lv_iconst (v := nI 0) hx hb dX1_becomeDigitsOf_97 (by decide) ?_
                refine dm_gov (wr := [(hw, .inr (2, [.ref aw, .int (nI U2)])), (aw, .inl (cI, N, .inl G2))]) (dm_rV (n := 4) (As := [.long (lN (Vt % r ^ (2 * dg))), .int (nI (2 * dg)), .int (nI r), .int (nI 0)]) (rest := []) hC hl (c_X1_prependDigits l D cB cI cC h a sk (Vt % r ^ (2 * dg)) (2 * dg) r 0 F h1 (by omega) (by omega) hr2 hr36 (by decide) (fun h9 => absurd h9 (by decide)) (fun _ => ⟨hroom, hPt⟩) H.size) kco_X1_prependDigits ki_X1 kim_X1_prependDigits kse_X1_prependDigits kml_X1_36 (by decide +kernel) ⟨Nat.le_of_ble_eq_true rfl, Nat.le_of_ble_eq_true rfl⟩ rfl rfl ⟨dm_blind, va_recv hK hP (ci := 1) (q0 := 0) rfl rfl, dm_preU hK hP hD hC.2.2.2.2.2.2.2 [0, 1] (by decide) rfl⟩ rfl rfl (Nat.le_of_ble_eq_true rfl) dX1_becomeDigitsOf_98 ⟨Nat.le_of_ble_eq_true rfl, Nat.le_of_ble_eq_true rfl⟩) hP hD hS hA [0, 1] [2, 3] rfl rfl (by decide) (by decide) (fun q H locs hp hP hD hS => ?_)
                obtain ⟨F2, s2⟩ := q
                have hP : va_P D vwCl [(hw, .inr (2, [.ref aw, .int (nI U2)])), (aw, .inl (cI, N, .inl G2)), (h, .inr (1, [.ref a, .int (nI s2)])), (a, .inl (cB, 65536, .inl F2))] H := hP
                have hD : va_D A [(hw, .inr (2, [.ref aw, .int (nI U2)])), (aw, .inl (cI, N, .inl G2)), (h, .inr (1, [.ref a, .int (nI s2)])), (a, .inl (cB, 65536, .inl F2))] := hD
                have hP := hP.sub (ws' := [(h, .inr (1, [.ref a, .int (nI s2)])), (a, .inl (cB, 65536, .inl F2)), (hw, .inr (2, [.ref aw, .int (nI U2)])), (aw, .inl (cI, N, .inl G2))]) [2, 3, 0, 1] rfl
                have hD := hD.sub (ws' := [(h, .inr (1, [.ref a, .int (nI s2)])), (a, .inl (cB, 65536, .inl F2)), (hw, .inr (2, [.ref aw, .int (nI U2)])), (aw, .inl (cI, N, .inl G2))]) [2, 3, 0, 1] (by decide) rfl
                obtain ⟨p1, p2, p3, p4, p5⟩ := hp
                dsimp only at p1 p2 p3 p4 p5
                have p3 := p3 rfl
                rw [hPe] at p3 p4
                have hs2 : s2 < sk := by
                  rcases (show s2 = sk ∨ s2 < sk by omega) with h9 | h9
                  · rw [h9, Nat.sub_self, Nat.pow_zero] at p3; omega
                  · exact h9
                refine lv_iinc (v := nI (t + 1)) (lv' := [(8, .int (nI (t + 1))), (9, .long (lN (Vt % r ^ (2 * dg)))), (5, .int (nI dg)), (3, .long (lN (r ^ dg))), (0, .ref h), (1, .ref hw), (2, .int (nI r))]) hx hb dX1_becomeDigitsOf_101 hl (k := 1) rfl ((nI_succ t).symm) (by decide) rfl (fun ls hl => ?_)
                refine lv_goto (tgt := 57) hx hb dX1_becomeDigitsOf_104 (by decide) ?_
                refine ih (t + 1, F2, s2, G2, U2) H locs ls hs2 ⟨by show s2 ≤ 65536; omega, by show t + 1 + s2 ≤ 65536; omega, by show U2 ≤ N; omega, hn2, ?_, Or.inr ?_, fun i hi => ?_⟩ hP hD hS (lv_sub hl [0, 2, 3, 4, 5, 6] rfl)
                · show dvb _ G2 U2 = V / r ^ (65536 - s2)
                  rw [hv2, hq0, show 65536 - s2 = (65536 - sk) + (sk - s2) by omega, ← div_pow_add, ← hVte, Nat.div_eq_of_lt p3.1]
                · show r ^ (65536 - s2 - 1) ≤ V
                  rw [show 65536 - s2 - 1 = (65536 - sk) + (sk - s2 - 1) by omega]
                  refine pow_le_of_div (by omega) ?_
                  rw [← hVte]
                  exact p3.2.resolve_left (by omega)
                · have hi : i < 65536 - s2 := hi
                  show F2 (65535 - i) = _
                  by_cases hi2 : i < 65536 - sk
                  · rw [p5 (65535 - i) (by omega)]; exact h7 i hi2
                  · have h8 := p4 (i - (65536 - sk)) (by omega)
                    rw [show sk - 1 - (i - (65536 - sk)) = 65535 - i by omega] at h8
                    rw [h8, hVte, div_pow_add, show 65536 - sk + (i - (65536 - sk)) = i by omega]
              · exact absurd hg (by decide)
            · rw [if_neg hU20] at e3
              subst e3
              refine lv_if_ne (tgt := 97) hx hb dX1_becomeDigitsOf_90 (by decide) (fun hg => ?_) (fun hg => ?_)
              · exact absurd rfl hg
              · have hq1 : 0 < Vt / r ^ (2 * dg) := by
                  obtain ⟨k, rfl⟩ : ∃ k, U2 = k + 1 := ⟨U2 - 1, by omega⟩
                  rw [← hv2]
                  exact Nat.lt_of_lt_of_le (Nat.pow_pos (by decide)) (nrm_ge hn2)
                have hVk : r ^ (65536 - sk + 2 * dg) ≤ V := by
                  refine pow_le_of_div (by omega) ?_
                  rw [← hVte]
                  have := pow_le_of_div (V := Vt) (r := r) (c := 2 * dg) (k := 0) (by omega) (by rw [Nat.pow_zero]; exact hq1)
                  exact this
                have hroom : 2 * dg ≤ sk := by have := (Nat.pow_lt_pow_iff_right (show 1 < r by omega)).mp (Nat.lt_of_le_of_lt hVk hV); omega
                refine lv_iconst (v := nI 1) hx hb dX1_becomeDigitsOf_93 (by decide) ?_
                refine lv_goto (tgt := 98) hx hb dX1_becomeDigitsOf_94 (by decide) ?_
                refine dm_gov (wr := [(hw, .inr (2, [.ref aw, .int (nI U2)])), (aw, .inl (cI, N, .inl G2))]) (dm_rV (n := 4) (As := [.long (lN (Vt % r ^ (2 * dg))), .int (nI (2 * dg)), .int (nI r), .int (nI 1)]) (rest := []) hC hl (c_X1_prependDigits l D cB cI cC h a sk (Vt % r ^ (2 * dg)) (2 * dg) r 1 F h1 (by omega) (by omega) hr2 hr36 (by decide) (fun _ => hroom) (fun h9 => absurd h9 (by decide)) H.size) kco_X1_prependDigits ki_X1 kim_X1_prependDigits kse_X1_prependDigits kml_X1_36 (by decide +kernel) ⟨Nat.le_of_ble_eq_true rfl, Nat.le_of_ble_eq_true rfl⟩ rfl rfl ⟨dm_blind, va_recv hK hP (ci := 1) (q0 := 0) rfl rfl, dm_preU hK hP hD hC.2.2.2.2.2.2.2 [0, 1] (by decide) rfl⟩ rfl rfl (Nat.le_of_ble_eq_true rfl) dX1_becomeDigitsOf_98 ⟨Nat.le_of_ble_eq_true rfl, Nat.le_of_ble_eq_true rfl⟩) hP hD hS hA [0, 1] [2, 3] rfl rfl (by decide) (by decide) (fun q H locs hp hP hD hS => ?_)
                obtain ⟨F2, s2⟩ := q
                have hP : va_P D vwCl [(hw, .inr (2, [.ref aw, .int (nI U2)])), (aw, .inl (cI, N, .inl G2)), (h, .inr (1, [.ref a, .int (nI s2)])), (a, .inl (cB, 65536, .inl F2))] H := hP
                have hD : va_D A [(hw, .inr (2, [.ref aw, .int (nI U2)])), (aw, .inl (cI, N, .inl G2)), (h, .inr (1, [.ref a, .int (nI s2)])), (a, .inl (cB, 65536, .inl F2))] := hD
                have hP := hP.sub (ws' := [(h, .inr (1, [.ref a, .int (nI s2)])), (a, .inl (cB, 65536, .inl F2)), (hw, .inr (2, [.ref aw, .int (nI U2)])), (aw, .inl (cI, N, .inl G2))]) [2, 3, 0, 1] rfl
                have hD := hD.sub (ws' := [(h, .inr (1, [.ref a, .int (nI s2)])), (a, .inl (cB, 65536, .inl F2)), (hw, .inr (2, [.ref aw, .int (nI U2)])), (aw, .inl (cI, N, .inl G2))]) [2, 3, 0, 1] (by decide) rfl
                obtain ⟨p1, p2, p3, p4, p5⟩ := hp
                dsimp only at p1 p2 p3 p4 p5
                have p2 := p2 rfl
                have hs2 : s2 < sk := by omega
                refine lv_iinc (v := nI (t + 1)) (lv' := [(8, .int (nI (t + 1))), (9, .long (lN (Vt % r ^ (2 * dg)))), (5, .int (nI dg)), (3, .long (lN (r ^ dg))), (0, .ref h), (1, .ref hw), (2, .int (nI r))]) hx hb dX1_becomeDigitsOf_101 hl (k := 1) rfl ((nI_succ t).symm) (by decide) rfl (fun ls hl => ?_)
                refine lv_goto (tgt := 57) hx hb dX1_becomeDigitsOf_104 (by decide) ?_
                refine ih (t + 1, F2, s2, G2, U2) H locs ls hs2 ⟨by show s2 ≤ 65536; omega, by show t + 1 + s2 ≤ 65536; omega, by show U2 ≤ N; omega, hn2, ?_, Or.inr ?_, fun i hi => ?_⟩ hP hD hS (lv_sub hl [0, 2, 3, 4, 5, 6] rfl)
                · show dvb _ G2 U2 = V / r ^ (65536 - s2)
                  rw [hv2, hVte, div_pow_add, show 65536 - sk + 2 * dg = 65536 - s2 by omega]
                · show r ^ (65536 - s2 - 1) ≤ V
                  exact Nat.le_trans (Nat.pow_le_pow_right (by omega) (by omega)) hVk
                · have hi : i < 65536 - s2 := hi
                  show F2 (65535 - i) = _
                  by_cases hi2 : i < 65536 - sk
                  · rw [p5 (65535 - i) (by omega)]; exact h7 i hi2
                  · have h8 := p4 (i - (65536 - sk)) (by omega)
                    rw [show sk - 1 - (i - (65536 - sk)) = 65535 - i by omega] at h8
                    rw [h8, mod_digit (by omega) (by omega), hVte, div_pow_add, show 65536 - sk + (i - (65536 - sk)) = i by omega]
    · rintro - ls hlt hl
      have hlt : V < r ^ (65536 - sk) := hlt
      refine lv_aload_n hx hb dX1_becomeDigitsOf_107 rfl (lv_at hl 3 rfl) ?_
      refine dm_gori (dm_rV (n := 0) (As := []) (rest := []) hC hl (c_X1_size l D cB cI cC h a sk F h1 H.size) kco_X1_size ki_X1 kim_X1_size kse_X1_size kml_X1_20 (by decide +kernel) ⟨Nat.le_of_ble_eq_true rfl, Nat.le_of_ble_eq_true rfl⟩ rfl rfl ⟨dm_blind, va_recv hK hP (ci := 1) (q0 := 0) rfl rfl, dm_preU hK hP hD hC.2.2.2.2.2.2.2 [0, 1] (by decide) rfl⟩ rfl rfl (Nat.le_of_ble_eq_true rfl) dX1_becomeDigitsOf_108 ⟨Nat.le_of_ble_eq_true rfl, Nat.le_of_ble_eq_true rfl⟩) (fun r1 e1 => ?_)
      subst e1
      refine dm_if_ne (tgt := 120) hx hb (by omega) dX1_becomeDigitsOf_111 (by decide) (fun hc => ?_) (fun hc => ?_)
      · refine dm_vret hC hK (F, sk, G, U) ⟨h1, h3, ⟨by show 1 ≤ 65536 - sk; omega, hlt, Or.inr (h6.resolve_left (by omega))⟩, h7⟩ hP hD hS dX1_becomeDigitsOf_120
      · have hsk : sk = 65536 := by omega
        have hl0 := hl
        have hP0 := hP
        have hD0 := hD
        have hS0 := hS
        subst hsk
        have hl := hl0
        have hP := hP0
        have hD := hD0
        have hS := hS0
        have hV0 : V = 0 := by rw [Nat.sub_self, Nat.pow_zero] at hlt; omega
        refine lv_aload_n hx hb dX1_becomeDigitsOf_114 rfl (lv_at hl 3 rfl) ?_
        refine lv_bipush (v := nI 48) hx hb dX1_becomeDigitsOf_115 (by decide) ?_
        refine dm_gov (wr := [(hw, .inr (2, [.ref aw, .int (nI U)])), (aw, .inl (cI, N, .inl G))]) (dm_rV (n := 1) (As := [.int (nI 48)]) (rest := []) hC hl (c_X1_prepend l D cB cI cC h a 65536 48 F (by decide) (by decide) (by decide) H.size) kco_X1_prepend ki_X1 kim_X1_prepend kse_X1_prepend kml_X1_40 (by decide +kernel) ⟨Nat.le_of_ble_eq_true rfl, Nat.le_of_ble_eq_true rfl⟩ rfl rfl ⟨dm_blind, va_recv hK hP (ci := 1) (q0 := 0) rfl rfl, dm_preU hK hP hD hC.2.2.2.2.2.2.2 [0, 1] (by decide) rfl⟩ rfl rfl (Nat.le_of_ble_eq_true rfl) dX1_becomeDigitsOf_117 ⟨Nat.le_of_ble_eq_true rfl, Nat.le_of_ble_eq_true rfl⟩) hP hD hS hA [0, 1] [2, 3] rfl rfl (by decide) (by decide) (fun _ H locs _ hP hD hS => ?_)
        have hP : va_P D vwCl [(hw, .inr (2, [.ref aw, .int (nI U)])), (aw, .inl (cI, N, .inl G)), (h, .inr (1, [.ref a, .int (nI (65536 - 1))])), (a, .inl (cB, 65536, .inl (upd F (65536 - 1) (nI 48))))] H := hP
        have hD : va_D A [(hw, .inr (2, [.ref aw, .int (nI U)])), (aw, .inl (cI, N, .inl G)), (h, .inr (1, [.ref a, .int (nI (65536 - 1))])), (a, .inl (cB, 65536, .inl (upd F (65536 - 1) (nI 48))))] := hD
        have hP := hP.sub (ws' := [(h, .inr (1, [.ref a, .int (nI (65536 - 1))])), (a, .inl (cB, 65536, .inl (upd F (65536 - 1) (nI 48)))), (hw, .inr (2, [.ref aw, .int (nI U)])), (aw, .inl (cI, N, .inl G))]) [2, 3, 0, 1] rfl
        have hD := hD.sub (ws' := [(h, .inr (1, [.ref a, .int (nI (65536 - 1))])), (a, .inl (cB, 65536, .inl (upd F (65536 - 1) (nI 48)))), (hw, .inr (2, [.ref aw, .int (nI U)])), (aw, .inl (cI, N, .inl G))]) [2, 3, 0, 1] (by decide) rfl
        refine dm_vret hC hK (upd F (65536 - 1) (nI 48), 65536 - 1, G, U) ⟨by show 65536 - 1 ≤ 65536; omega, h3, ⟨by show 1 ≤ 65536 - (65536 - 1); omega, ?_, Or.inl (by show 65536 - (65536 - 1) = 1; omega)⟩, fun i hi => ?_⟩ hP hD hS dX1_becomeDigitsOf_120
        · show V < r ^ (65536 - (65536 - 1))
          rw [hV0]
          exact Nat.pow_pos (by omega)
        · have hi : i < 65536 - (65536 - 1) := hi
          rw [show i = 0 by omega, hV0]
          show upd F (65536 - 1) (nI 48) (65535 - 0) = _
          rw [show 65535 - 0 = 65536 - 1 from rfl, pk_us, Nat.zero_div, Nat.zero_mod]
          rfl
