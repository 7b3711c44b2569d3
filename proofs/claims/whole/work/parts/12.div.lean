theorem i_dec (x : Int32) : x + Int32.ofInt (-1) = x - nI 1 := by rw [Int32.sub_eq_add_neg, show -(nI 1) = Int32.ofInt (-1) by decide]

set_option maxRecDepth 100000 in
set_option maxHeartbeats 4000000 in
/-- divided twice: what is left over is below the square of the divisor -/
theorem c_X2_divideTwiceBy (l : Launch) (D : va_G) (cB cI cC : ClassId) (h a N u dd : Nat) (f : Nat → Int32) (hu : u ≤ N) (hNb : N < 2 ^ 31) (hd1 : 0 < dd) (hdd : dd ≤ 2147483648) : ML l yX2_divideTwiceBy (Cond.code yX2_divideTwiceBy cX2_divideTwiceBy 12 (some .long)) 1 D (TY cB cI cC) [.ref h, .long (lN dd)] [(h, .inr (2, [.ref a, .int (nI u)])), (a, .inl (cI, N, .inl f))] (S := (Nat → Int32) × Nat) (fun r q => r = lN (dvb 4294967296 f u % (dd * dd)) ∧ q.2 ≤ u ∧ dvb 4294967296 q.1 q.2 = dvb 4294967296 f u / (dd * dd) ∧ nrm q.1 q.2) (fun q => [(h, .inr (2, [.ref a, .int (nI q.2)])), (a, .inl (cI, N, .inl q.1))]) := by
  refine ML.of (by decide) (Nat.le_of_ble_eq_true rfl) ?_
  intro p e s m below meth c ls A hC hA hP hK hD hS hl
  obtain ⟨hx, hb, hr, hml, hown, hts, hlocks, hN⟩ := id hC
  have hown : s.vm.findClass RX2 = some m.cls := hown
  have hl : lv_has ls 12 [(0, .ref h), (1, .long (lN dd))] := hl
  refine lv_lconst (v := lN 0) hx hb dX2_divideTwiceBy_0 (by decide) ?_
  refine lv_lstore_n (lv' := [(3, .long (lN 0)), (0, .ref h), (1, .long (lN dd))]) hx hb dX2_divideTwiceBy_1 rfl hl (by decide) rfl (fun ls hl => ?_)
  refine lv_lconst (v := lN 0) hx hb dX2_divideTwiceBy_2 (by decide) ?_
  refine lv_lstore (lv' := [(5, .long (lN 0)), (3, .long (lN 0)), (0, .ref h), (1, .long (lN dd))]) hx hb dX2_divideTwiceBy_3 hl (by decide) rfl (fun ls hl => ?_)
  refine lv_aload_n hx hb dX2_divideTwiceBy_5 rfl (lv_at hl 2 rfl) ?_
  refine va_get (D := D) (ci := 2) (C := RX2) (T := TX2) (N := 2) (v := .int (nI u)) hx hb hts kin_X2_w hown hK hP 0 rfl rfl 1 (by decide) (hts _ kfl_X2_21) (fun _ h9 => h9) rfl dX2_divideTwiceBy_6 ?_
  refine lv_iconst (v := nI 1) hx hb dX2_divideTwiceBy_9 (by decide) ?_
  refine lv_isub hx hb dX2_divideTwiceBy_10 ?_
  refine lv_istore (lv' := [(7, .int (nI u - nI 1)), (5, .long (lN 0)), (3, .long (lN 0)), (0, .ref h), (1, .long (lN dd))]) hx hb dX2_divideTwiceBy_11 hl (by decide) rfl (fun ls hl => ?_)
  refine dm_loop (nL := 12) (head := 13) (P := fun (x : Nat × Nat × Nat × (Nat → Int32)) => x.1 ≤ u ∧ x.2.1 = hib 4294967296 f u x.1 % dd ∧ x.2.2.1 = hib 4294967296 f u x.1 / dd % dd ∧ hib 4294967296 x.2.2.2 u x.1 = hib 4294967296 f u x.1 / dd / dd ∧ ∀ j, j < x.1 → x.2.2.2 j = f j) (w := fun x => [(h, .inr (2, [.ref a, .int (nI u)])), (a, .inl (cI, N, .inl x.2.2.2))]) (lv := fun x => [(7, .int (nI x.1 - nI 1)), (5, .long (lN x.2.2.1)), (3, .long (lN x.2.1)), (0, .ref h), (1, .long (lN dd))]) (μ := fun x => x.1) ?_ (u, 0, 0, f) ⟨Nat.le_refl _, by show 0 = _ % _; rw [hib_n]; simp, by show 0 = _ / _ % _; rw [hib_n]; simp, by show hib _ f u u = _; rw [hib_n]; simp, fun _ _ => rfl⟩ hP hD hS hl
  rintro ⟨k, a1, a2, g⟩ H locs ls ⟨hk, ha1, ha2, hg, hlo⟩ hP hD hS hl ih
  dsimp only at hk ha1 ha2 hg hlo
  have hP : va_P D vwCl [(h, .inr (2, [.ref a, .int (nI u)])), (a, .inl (cI, N, .inl g))] H := hP
  have hl : lv_has ls 12 [(7, .int (nI k - nI 1)), (5, .long (lN a2)), (3, .long (lN a1)), (0, .ref h), (1, .long (lN dd))] := hl
  have hl1 : a1 < dd := by rw [ha1]; exact Nat.mod_lt _ hd1
  have hl2 : a2 < dd := by rw [ha2]; exact Nat.mod_lt _ hd1
  rcases Nat.eq_zero_or_pos k with hk0 | hk0
  · subst hk0
    refine lv_iload hx hb dX2_divideTwiceBy_13 (lv_at hl 0 rfl) ?_
    refine lv_if_lt (tgt := 92) hx hb dX2_divideTwiceBy_15 (by decide) (fun hc => ?_) (fun hc => ?_)
    · refine lv_aload_n hx hb dX2_divideTwiceBy_92 rfl (lv_at hl 3 rfl) ?_
      refine dm_gov (wr := []) (dm_rV (n := 0) (As := []) (rest := []) hC hl (c_X2_dropZeros l D cB cI cC 4294967296 h a N u g hu hNb H.size) kco_X2_dropZeros ki_X2 kim_X2_dropZeros kse_X2_dropZeros kml_X2_68 (by decide +kernel) ⟨Nat.le_of_ble_eq_true rfl, Nat.le_of_ble_eq_true rfl⟩ rfl rfl ⟨dm_blind, va_recv hK hP (ci := 2) (q0 := 0) rfl rfl, dm_preU hK hP hD hC.2.2.2.2.2.2.2 [0, 1] (by decide) rfl⟩ rfl rfl (Nat.le_of_ble_eq_true rfl) dX2_divideTwiceBy_93 ⟨Nat.le_of_ble_eq_true rfl, Nat.le_of_ble_eq_true rfl⟩) hP hD hS hA [0, 1] [] rfl rfl (by decide) (by decide) (fun u2 H locs hw hP hD hS => ?_)
      have hP : va_P D vwCl [(h, .inr (2, [.ref a, .int (nI u2)])), (a, .inl (cI, N, .inl g))] H := hP
      have hD : va_D A [(h, .inr (2, [.ref a, .int (nI u2)])), (a, .inl (cI, N, .inl g))] := hD
      refine lv_lload hx hb dX2_divideTwiceBy_96 (lv_at hl 1 rfl) ?_
      refine lv_lload_n hx hb dX2_divideTwiceBy_98 rfl (lv_at hl 4 rfl) ?_
      refine lv_lmul hx hb dX2_divideTwiceBy_99 ?_
      refine dm_tl (y := lN (a2 * dd)) (lN_mul _ _) ?_
      refine lv_lload_n hx hb dX2_divideTwiceBy_100 rfl (lv_at hl 2 rfl) ?_
      refine lv_ladd hx hb dX2_divideTwiceBy_101 ?_
      refine dm_tl (y := lN (a2 * dd + a1)) (lN_add _ _) ?_
      rw [hib_0] at ha1 ha2 hg
      rw [hib_0] at hg
      refine dm_lret hC hK (g, u2) ⟨?_, hw.1, ?_, hw.2.2⟩ hP hD hS dX2_divideTwiceBy_102
      · rw [Nat.mod_mul, ← ha1, ← ha2, Nat.mul_comm, Nat.add_comm]
      · show dvb _ g u2 = _
        rw [hw.2.1, hg, Nat.div_div_eq_div_mul]
    · exact absurd (by decide) hc
  · obtain ⟨j, rfl⟩ : ∃ j, k = j + 1 := ⟨k - 1, by omega⟩
    have hl : lv_has ls 12 [(7, .int (nI j)), (5, .long (lN a2)), (3, .long (lN a1)), (0, .ref h), (1, .long (lN dd))] := by rw [show nI j = nI (j + 1) - nI 1 from (nI_pred j).symm]; exact hl
    refine lv_iload hx hb dX2_divideTwiceBy_13 (lv_at hl 0 rfl) ?_
    refine dm_if_lt (tgt := 92) hx hb (by omega) dX2_divideTwiceBy_15 (by decide) (fun hc => ?_) (fun hc => ?_)
    · exact hc.elim
    · refine lv_lload_n hx hb dX2_divideTwiceBy_18 rfl (lv_at hl 2 rfl) ?_
      refine lv_bipush (v := nI 32) hx hb dX2_divideTwiceBy_19 (by decide) ?_
      refine lv_lshl (v := lN (a1 * 4294967296)) hx hb dX2_divideTwiceBy_21 (wb_shl a1 (k := 32) (by decide)) ?_
      refine lv_aload_n hx hb dX2_divideTwiceBy_22 rfl (lv_at hl 3 rfl) ?_
      refine va_get (D := D) (ci := 2) (C := RX2) (T := TX2) (N := 2) (v := .ref a) hx hb hts kin_X2_w hown hK hP 0 rfl rfl 0 (by decide) (hts _ kfl_X2_15) (fun _ h9 => h9) rfl dX2_divideTwiceBy_23 ?_
      refine lv_iload hx hb dX2_divideTwiceBy_26 (lv_at hl 0 rfl) ?_
      refine dm_iald (j := j) hx hb hK hP 1 1 rfl rfl (by omega) hNb dX2_divideTwiceBy_28 ?_
      refine dm_ti (y := f j) (hlo j (Nat.lt_succ_self j)) ?_
      have hw := un_lt (f j)
      obtain ⟨P1, hP1⟩ : ∃ P, P = a1 * 4294967296 + un (f j) := ⟨_, rfl⟩
      have hp1 : P1 < dd * 4294967296 := by
        have h8 : (a1 + 1) * 4294967296 ≤ dd * 4294967296 := Nat.mul_le_mul_right _ hl1
        omega
      refine lv_i2l (v := (f j : Int32).toInt64) hx hb dX2_divideTwiceBy_29 (rfl) ?_
      refine lv_ldc2 (v := 4294967295) hx hb hown (hts _ kct_X2_34) dX2_divideTwiceBy_30 ?_
      refine lv_land hx hb dX2_divideTwiceBy_33 ?_
      refine dm_tl (y := lN (un (f j))) (wl_un (f j)) ?_
      refine lv_lor hx hb dX2_divideTwiceBy_34 ?_
      refine dm_tl (y := lN P1) (by rw [hP1]; exact g_or (k := 32) (by decide) hw (by omega)) ?_
      refine lv_lstore (lv' := [(8, .long (lN P1)), (7, .int (nI j)), (5, .long (lN a2)), (3, .long (lN a1)), (0, .ref h), (1, .long (lN dd))]) hx hb dX2_divideTwiceBy_35 hl (by decide) rfl (fun ls hl => ?_)
      refine lv_lload hx hb dX2_divideTwiceBy_37 (lv_at hl 0 rfl) ?_
      refine lv_lload_n hx hb dX2_divideTwiceBy_39 rfl (lv_at hl 5 rfl) ?_
      have hq1 : P1 / dd < 4294967296 := Nat.div_lt_of_lt_mul hp1
      have hm1 : P1 / dd * dd ≤ P1 := Nat.div_mul_le_self _ _
      have hr1 : P1 - P1 / dd * dd = P1 % dd := by have h8 := Nat.div_add_mod P1 dd; rw [Nat.mul_comm] at h8; omega
      have hds : hib 4294967296 f u j / dd = hib 4294967296 f u (j + 1) / dd * 4294967296 + P1 / dd ∧ hib 4294967296 f u j % dd = P1 % dd := by rw [hib_step (show j < u by omega), hP1, ha1]; exact div_step _ _ _ _ hd1
      obtain ⟨P2, hP2⟩ : ∃ P, P = a2 * 4294967296 + P1 / dd := ⟨_, rfl⟩
      have hp2 : P2 < dd * 4294967296 := by
        have h8 : (a2 + 1) * 4294967296 ≤ dd * 4294967296 := Nat.mul_le_mul_right _ hl2
        omega
      refine lv_ldiv hx hb dX2_divideTwiceBy_40 (fun e0 => by have := (pk_lEQ (b := 0) (by omega) (by decide)).mp e0; omega) ?_
      refine dm_tl (y := lN (P1 / dd)) (pk_lDiv (by omega) hd1 (by omega)) ?_
      refine lv_lstore (lv' := [(10, .long (lN (P1 / dd))), (8, .long (lN P1)), (7, .int (nI j)), (5, .long (lN a2)), (3, .long (lN a1)), (0, .ref h), (1, .long (lN dd))]) hx hb dX2_divideTwiceBy_41 hl (by decide) rfl (fun ls hl => ?_)
      refine lv_lload hx hb dX2_divideTwiceBy_43 (lv_at hl 1 rfl) ?_
      refine lv_lload hx hb dX2_divideTwiceBy_45 (lv_at hl 0 rfl) ?_
      refine lv_lload_n hx hb dX2_divideTwiceBy_47 rfl (lv_at hl 6 rfl) ?_
      refine lv_lmul hx hb dX2_divideTwiceBy_48 ?_
      refine dm_tl (y := lN (P1 / dd * dd)) (lN_mul _ _) ?_
      refine lv_lsub hx hb dX2_divideTwiceBy_49 ?_
      refine dm_tl (y := lN (P1 % dd)) (by rw [lN_sub hm1, hr1]) ?_
      refine lv_lstore_n (lv' := [(3, .long (lN (P1 % dd))), (10, .long (lN (P1 / dd))), (8, .long (lN P1)), (7, .int (nI j)), (5, .long (lN a2)), (0, .ref h), (1, .long (lN dd))]) hx hb dX2_divideTwiceBy_50 rfl hl (by decide) rfl (fun ls hl => ?_)
      refine lv_lload hx hb dX2_divideTwiceBy_51 (lv_at hl 4 rfl) ?_
      refine lv_bipush (v := nI 32) hx hb dX2_divideTwiceBy_53 (by decide) ?_
      refine lv_lshl (v := lN (a2 * 4294967296)) hx hb dX2_divideTwiceBy_55 (wb_shl a2 (k := 32) (by decide)) ?_
      refine lv_lload hx hb dX2_divideTwiceBy_56 (lv_at hl 1 rfl) ?_
      refine lv_lor hx hb dX2_divideTwiceBy_58 ?_
      refine dm_tl (y := lN P2) (by rw [hP2]; exact g_or (k := 32) (by decide) hq1 (by omega)) ?_
      refine lv_lstore (lv' := [(8, .long (lN P2)), (3, .long (lN (P1 % dd))), (10, .long (lN (P1 / dd))), (7, .int (nI j)), (5, .long (lN a2)), (0, .ref h), (1, .long (lN dd))]) hx hb dX2_divideTwiceBy_59 hl (by decide) rfl (fun ls hl => ?_)
      refine lv_lload hx hb dX2_divideTwiceBy_61 (lv_at hl 0 rfl) ?_
      refine lv_lload_n hx hb dX2_divideTwiceBy_63 rfl (lv_at hl 6 rfl) ?_
      have hq2 : P2 / dd < 4294967296 := Nat.div_lt_of_lt_mul hp2
      have hm2 : P2 / dd * dd ≤ P2 := Nat.div_mul_le_self _ _
      have hr2 : P2 - P2 / dd * dd = P2 % dd := by have h8 := Nat.div_add_mod P2 dd; rw [Nat.mul_comm] at h8; omega
      have hds2 : hib 4294967296 f u j / dd / dd = hib 4294967296 g u (j + 1) * 4294967296 + P2 / dd ∧ hib 4294967296 f u j / dd % dd = P2 % dd := by rw [hds.1, hP2, ha2, hg]; exact div_step _ _ _ _ hd1
      refine lv_ldiv hx hb dX2_divideTwiceBy_64 (fun e0 => by have := (pk_lEQ (b := 0) (by omega) (by decide)).mp e0; omega) ?_
      refine dm_tl (y := lN (P2 / dd)) (pk_lDiv (by omega) hd1 (by omega)) ?_
      refine lv_lstore (lv' := [(10, .long (lN (P2 / dd))), (8, .long (lN P2)), (3, .long (lN (P1 % dd))), (7, .int (nI j)), (5, .long (lN a2)), (0, .ref h), (1, .long (lN dd))]) hx hb dX2_divideTwiceBy_65 hl (by decide) rfl (fun ls hl => ?_)
      refine lv_lload hx hb dX2_divideTwiceBy_67 (lv_at hl 1 rfl) ?_
      refine lv_lload hx hb dX2_divideTwiceBy_69 (lv_at hl 0 rfl) ?_
      refine lv_lload_n hx hb dX2_divideTwiceBy_71 rfl (lv_at hl 6 rfl) ?_
      refine lv_lmul hx hb dX2_divideTwiceBy_72 ?_
      refine dm_tl (y := lN (P2 / dd * dd)) (lN_mul _ _) ?_
      refine lv_lsub hx hb dX2_divideTwiceBy_73 ?_
      refine dm_tl (y := lN (P2 % dd)) (by rw [lN_sub hm2, hr2]) ?_
      refine lv_lstore (lv' := [(5, .long (lN (P2 % dd))), (10, .long (lN (P2 / dd))), (8, .long (lN P2)), (3, .long (lN (P1 % dd))), (7, .int (nI j)), (0, .ref h), (1, .long (lN dd))]) hx hb dX2_divideTwiceBy_74 hl (by decide) rfl (fun ls hl => ?_)
      refine lv_aload_n hx hb dX2_divideTwiceBy_76 rfl (lv_at hl 5 rfl) ?_
      refine va_get (D := D) (ci := 2) (C := RX2) (T := TX2) (N := 2) (v := .ref a) hx hb hts kin_X2_w hown hK hP 0 rfl rfl 0 (by decide) (hts _ kfl_X2_15) (fun _ h9 => h9) rfl dX2_divideTwiceBy_77 ?_
      refine lv_iload hx hb dX2_divideTwiceBy_80 (lv_at hl 4 rfl) ?_
      refine lv_lload hx hb dX2_divideTwiceBy_82 (lv_at hl 1 rfl) ?_
      refine lv_l2i (v := nI (P2 / dd)) hx hb dX2_divideTwiceBy_84 (lN_low) ?_
      refine dm_iast (j := j) (f' := upd g j (nI (P2 / dd))) hx hb hK hP hD hS 1 1 rfl rfl (by omega) hNb (rfl) dX2_divideTwiceBy_85 (fun H locs hP hD hS => ?_)
      have hP : va_P D vwCl [(h, .inr (2, [.ref a, .int (nI u)])), (a, .inl (cI, N, .inl (upd g j (nI (P2 / dd)))))] H := hP
      have hD : va_D A [(h, .inr (2, [.ref a, .int (nI u)])), (a, .inl (cI, N, .inl (upd g j (nI (P2 / dd)))))] := hD
      refine lv_iinc (v := (nI j - nI 1)) (lv' := [(7, .int (nI j - nI 1)), (5, .long (lN (P2 % dd))), (10, .long (lN (P2 / dd))), (8, .long (lN P2)), (3, .long (lN (P1 % dd))), (0, .ref h), (1, .long (lN dd))]) hx hb dX2_divideTwiceBy_86 hl (k := 4) rfl (i_dec _) (by decide) rfl (fun ls hl => ?_)
      refine lv_goto (tgt := 13) hx hb dX2_divideTwiceBy_89 (by decide) ?_
      refine ih (j, P1 % dd, P2 % dd, upd g j (nI (P2 / dd))) H locs ls (Nat.lt_succ_self j) ⟨by show j ≤ u; omega, hds.2.symm, hds2.2.symm, ?_, fun i hi => ?_⟩ hP hD hS (lv_sub hl [0, 1, 4, 5, 6] rfl)
      · show hib _ (upd g j _) u j = _
        rw [hib_step (show j < u by omega), pk_us, un_nI hq2, hib_congr (g := g) (fun i h1 h2 => pk_un (by omega)), hds2.1]
      · show upd g j _ i = f i
        have hi : i < j := hi
        rw [pk_un (by omega)]
        exact hlo i (by omega)
