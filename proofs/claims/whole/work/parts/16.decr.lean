theorem dvb_one {f : Nat → Int32} {u : Nat} (hu : u < 2) : un (wAt f u (nI 0)) = dvb 4294967296 f u := by
  rcases (show u = 0 ∨ u = 1 by omega) with rfl | rfl
  · rw [wAt_ge (by decide) (by decide), un_0]; rfl
  · rw [wAt_in (by decide) (by decide)]; simp [dvb]
theorem lN_wrap {a b : Nat} (h : a < b) (hb : b ≤ 18446744073709551616) : lN a - lN b = lN (18446744073709551616 + a - b) := by
  have h1 : lN (18446744073709551616 + a - b) + lN b = lN a := by
    rw [lN_add, wb_mod (18446744073709551616 + a - b + b), wb_mod a]
    congr 1
    omega
  rw [← h1, Int64.add_sub_cancel]
/-- one step of subtracting -/
theorem dvb_sub_step {f g : Nat → Int32} {i bo bo2 d y : Nat} (h : dvb 4294967296 f i + bo * 4294967296 ^ i = dvb 4294967296 g i + y) (hd : un (f i) + bo2 * 4294967296 = d + bo) :
    dvb 4294967296 f (i + 1) + bo2 * 4294967296 ^ (i + 1) = (dvb 4294967296 g i + d * 4294967296 ^ i) + y := by
  show dvb 4294967296 f i + un (f i) * 4294967296 ^ i + bo2 * 4294967296 ^ (i + 1) = _
  rw [Nat.pow_succ]
  generalize 4294967296 ^ i = P at *
  have h2 : (un (f i) + bo2 * 4294967296) * P = (d + bo) * P := by rw [hd]
  grind

set_option maxRecDepth 100000 in
set_option maxHeartbeats 4000000 in
theorem c_X2_decrease (l : Launch) (D : va_G) (cB cI cC : ClassId) (h a N u y : Nat) (f : Nat → Int32) (hu : u ≤ N) (hNb : N < 2 ^ 31) (hy : y < 4294967296) (hn : nrm f u) : MI l yX2_decrease (Cond.code yX2_decrease cX2_decrease 8 (some .boolean)) 1 D (TY cB cI cC) [.ref h, .long (lN y)] [(h, .inr (2, [.ref a, .int (nI u)])), (a, .inl (cI, N, .inl f))] (S := (Nat → Int32) × Nat) (fun r q => (y ≤ dvb 4294967296 f u → r = 1 ∧ q.2 ≤ N ∧ dvb 4294967296 q.1 q.2 = dvb 4294967296 f u - y ∧ nrm q.1 q.2) ∧ (dvb 4294967296 f u < y → r = 0 ∧ q = (f, u))) (fun q => [(h, .inr (2, [.ref a, .int (nI q.2)])), (a, .inl (cI, N, .inl q.1))]) := by
  refine MI.of (by decide) (Nat.le_of_ble_eq_true rfl) ?_
  intro p e s m below meth c ls A hC hA hP hK hD hS hl
  obtain ⟨hx, hb, hr, hml, hown, hts, hlocks, hN⟩ := id hC
  have hown : s.vm.findClass RX2 = some m.cls := hown
  have hl : lv_has ls 8 [(0, .ref h), (1, .long (lN y))] := hl
  refine dm_cutR (nL := 8) (σ := Unit) 25 (fun _ => y ≤ dvb 4294967296 f u) (fun _ => [(0, .ref h), (1, .long (lN y))]) (fun hJ => ?_) ?_
  · refine lv_aload_n hx hb dX2_decrease_0 rfl (lv_at hl 0 rfl) ?_
    refine va_get (D := D) (ci := 2) (C := RX2) (T := TX2) (N := 2) (v := .int (nI u)) hx hb hts kin_X2_w hown hK hP 0 rfl rfl 1 (by decide) (hts _ kfl_X2_21) (fun _ h9 => h9) rfl dX2_decrease_1 ?_
    refine lv_iconst (v := nI 2) hx hb dX2_decrease_4 (by decide) ?_
    refine dm_icmp_ge (tgt := 25) hx hb (by omega) (by omega) dX2_decrease_5 (by decide) (fun hc => ?_) (fun hc => ?_)
    · refine hJ () ls ?_ hl
      obtain ⟨k, rfl⟩ : ∃ k, u = k + 1 := ⟨u - 1, by omega⟩
      have h5 := nrm_ge hn
      have h6 : 4294967296 ^ 1 ≤ 4294967296 ^ k := Nat.pow_le_pow_right (by decide) (by omega)
      omega
    · refine lv_aload_n hx hb dX2_decrease_8 rfl (lv_at hl 0 rfl) ?_
      refine lv_iconst (v := nI 0) hx hb dX2_decrease_9 (by decide) ?_
      refine dm_gori (dm_rV (n := 1) (As := [.int (nI 0)]) (rest := []) hC hl (c_X2_wordAt l D cB cI cC h a N u f (nI 0) hu hNb s.heap.size) kco_X2_wordAt ki_X2 kim_X2_wordAt kse_X2_wordAt kml_X2_31 (by decide +kernel) ⟨Nat.le_of_ble_eq_true rfl, Nat.le_of_ble_eq_true rfl⟩ rfl rfl ⟨dm_blind, va_recv hK hP (ci := 2) (q0 := 0) rfl rfl, dm_preU hK hP hD hC.2.2.2.2.2.2.2 [0, 1] (by decide) rfl⟩ rfl rfl (Nat.le_of_ble_eq_true rfl) dX2_decrease_10 ⟨Nat.le_of_ble_eq_true rfl, Nat.le_of_ble_eq_true rfl⟩) (fun r0 h0 => ?_)
      subst h0
      have hb0 := un_lt (wAt f u (nI 0))
      refine lv_i2l (v := (wAt f u (nI 0) : Int32).toInt64) hx hb dX2_decrease_13 (rfl) ?_
      refine lv_ldc2 (v := 4294967295) hx hb hown (hts _ kct_X2_34) dX2_decrease_14 ?_
      refine lv_land hx hb dX2_decrease_17 ?_
      refine dm_tl (y := lN (un (wAt f u (nI 0)))) (wl_un _) ?_
      refine lv_lload_n hx hb dX2_decrease_18 rfl (lv_at hl 1 rfl) ?_
      rw [dvb_one hc] at hb0 ⊢
      refine dm_lc_ge (tgt := 25) hx hb (by omega) (by omega) dX2_decrease_19 dX2_decrease_20 (by decide) (fun hd => ?_) (fun hd => ?_)
      · exact hJ () ls hd hl
      · refine lv_iconst (v := nI 0) hx hb dX2_decrease_23 (by decide) ?_
        exact dm_zret (v := nI 0) hC (Or.inl rfl) hK (f, u) ⟨fun h9 => absurd h9 (by omega), fun _ => ⟨rfl, rfl⟩⟩ hP hD hS dX2_decrease_24
  · rintro - ls hle hl
    have hle : y ≤ dvb 4294967296 f u := hle
    refine lv_lload_n hx hb dX2_decrease_25 rfl (lv_at hl 1 rfl) ?_
    refine lv_lstore_n (lv' := [(3, .long (lN y)), (0, .ref h), (1, .long (lN y))]) hx hb dX2_decrease_26 rfl hl (by decide) rfl (fun ls hl => ?_)
    refine lv_iconst (v := nI 0) hx hb dX2_decrease_27 (by decide) ?_
    refine lv_istore (lv' := [(5, .int (nI 0)), (3, .long (lN y)), (0, .ref h), (1, .long (lN y))]) hx hb dX2_decrease_28 hl (by decide) rfl (fun ls hl => ?_)
    refine dm_loop (nL := 8) (head := 30) (P := fun (x : Nat × Nat × (Nat → Int32)) => x.1 ≤ u ∧ x.2.1 < 4294967296 ∧ dvb 4294967296 f x.1 + x.2.1 * 4294967296 ^ x.1 = dvb 4294967296 x.2.2 x.1 + y ∧ ∀ j, x.1 ≤ j → x.2.2 j = f j) (w := fun x => [(h, .inr (2, [.ref a, .int (nI u)])), (a, .inl (cI, N, .inl x.2.2))]) (lv := fun x => [(5, .int (nI x.1)), (3, .long (lN x.2.1)), (0, .ref h), (1, .long (lN y))]) (μ := fun x => u - x.1) ?_ (0, y, f) ⟨Nat.zero_le _, hy, by simp [dvb], fun _ _ => rfl⟩ hP hD hS hl
    rintro ⟨i, bo, g⟩ H locs ls ⟨hi, hbo, hinv, hge⟩ hP hD hS hl ih
    dsimp only at hi hbo hinv hge
    have hP : va_P D vwCl [(h, .inr (2, [.ref a, .int (nI u)])), (a, .inl (cI, N, .inl g))] H := hP
    have hl : lv_has ls 8 [(5, .int (nI i)), (3, .long (lN bo)), (0, .ref h), (1, .long (lN y))] := hl
    refine dm_cutR (nL := 8) (σ := Unit) 90 (fun _ => dvb 4294967296 f u = dvb 4294967296 g u + y) (fun _ => [(5, .int (nI i)), (3, .long (lN bo)), (0, .ref h), (1, .long (lN y))]) (fun hJ => ?_) ?_
    · refine lv_iload hx hb dX2_decrease_30 (lv_at hl 0 rfl) ?_
      refine lv_aload_n hx hb dX2_decrease_32 rfl (lv_at hl 2 rfl) ?_
      refine va_get (D := D) (ci := 2) (C := RX2) (T := TX2) (N := 2) (v := .int (nI u)) hx hb hts kin_X2_w hown hK hP 0 rfl rfl 1 (by decide) (hts _ kfl_X2_21) (fun _ h9 => h9) rfl dX2_decrease_33 ?_
      refine dm_icmp_ge (tgt := 90) hx hb (by omega) (by omega) dX2_decrease_36 (by decide) (fun hd => ?_) (fun hd => ?_)
      · have hiu : i = u := by omega
        subst hiu
        refine hJ () ls ?_ hl
        have h7 := dv32_lt g i
        have h8 : bo = 0 := by
          rcases Nat.eq_zero_or_pos bo with h9 | h9
          · exact h9
          · have h10 : 1 * 4294967296 ^ i ≤ bo * 4294967296 ^ i := Nat.mul_le_mul_right _ h9
            omega
        rw [h8] at hinv
        omega
      · refine lv_lload_n hx hb dX2_decrease_39 rfl (lv_at hl 1 rfl) ?_
        refine lv_lconst (v := lN 0) hx hb dX2_decrease_40 (by decide) ?_
        refine dm_lc_eq (tgt := 90) hx hb (by omega) (by omega) dX2_decrease_41 dX2_decrease_42 (by decide) (fun he => ?_) (fun he => ?_)
        · refine hJ () ls ?_ hl
          have h5 := dv_tail hi hge
          rw [he] at hinv
          omega
        · refine lv_aload_n hx hb dX2_decrease_45 rfl (lv_at hl 2 rfl) ?_
          refine va_get (D := D) (ci := 2) (C := RX2) (T := TX2) (N := 2) (v := .ref a) hx hb hts kin_X2_w hown hK hP 0 rfl rfl 0 (by decide) (hts _ kfl_X2_15) (fun _ h9 => h9) rfl dX2_decrease_46 ?_
          refine lv_iload hx hb dX2_decrease_49 (lv_at hl 0 rfl) ?_
          refine dm_iald (j := i) hx hb hK hP 1 1 rfl rfl (by omega) hNb dX2_decrease_51 ?_
          refine dm_ti (y := f i) (hge i (Nat.le_refl i)) ?_
          have hb1 := un_lt (f i)
          refine lv_i2l (v := (f i : Int32).toInt64) hx hb dX2_decrease_52 (rfl) ?_
          refine lv_ldc2 (v := 4294967295) hx hb hown (hts _ kct_X2_34) dX2_decrease_53 ?_
          refine lv_land hx hb dX2_decrease_56 ?_
          refine dm_tl (y := lN (un (f i))) (wl_un (f i)) ?_
          refine lv_lload_n hx hb dX2_decrease_57 rfl (lv_at hl 1 rfl) ?_
          by_cases hwb : bo ≤ un (f i)
          · refine lv_lsub hx hb dX2_decrease_58 ?_
            refine dm_tl (y := lN (un (f i) - bo)) (lN_sub hwb) ?_
            refine lv_lstore (lv' := [(6, .long (lN (un (f i) - bo))), (5, .int (nI i)), (3, .long (lN bo)), (0, .ref h), (1, .long (lN y))]) hx hb dX2_decrease_59 hl (by decide) rfl (fun ls hl => ?_)
            refine lv_aload_n hx hb dX2_decrease_61 rfl (lv_at hl 3 rfl) ?_
            refine va_get (D := D) (ci := 2) (C := RX2) (T := TX2) (N := 2) (v := .ref a) hx hb hts kin_X2_w hown hK hP 0 rfl rfl 0 (by decide) (hts _ kfl_X2_15) (fun _ h9 => h9) rfl dX2_decrease_62 ?_
            refine lv_iload hx hb dX2_decrease_65 (lv_at hl 1 rfl) ?_
            refine lv_lload hx hb dX2_decrease_67 (lv_at hl 0 rfl) ?_
            refine lv_l2i (v := nI (un (f i) - bo)) hx hb dX2_decrease_69 (lN_low) ?_
            refine dm_iast (j := i) (f' := upd g i (nI (un (f i) - bo))) hx hb hK hP hD hS 1 1 rfl rfl (by omega) hNb (rfl) dX2_decrease_70 (fun H locs hP hD hS => ?_)
            have hP : va_P D vwCl [(h, .inr (2, [.ref a, .int (nI u)])), (a, .inl (cI, N, .inl (upd g i (nI (un (f i) - bo)))))] H := hP
            have hD : va_D A [(h, .inr (2, [.ref a, .int (nI u)])), (a, .inl (cI, N, .inl (upd g i (nI (un (f i) - bo)))))] := hD
            refine lv_lload hx hb dX2_decrease_71 (lv_at hl 0 rfl) ?_
            refine lv_lconst (v := lN 0) hx hb dX2_decrease_73 (by decide) ?_
            refine dm_lc_ge (tgt := 82) hx hb (by omega) (by omega) dX2_decrease_74 dX2_decrease_75 (by decide) (fun hg => ?_) (fun hg => ?_)
            · refine lv_lconst (v := lN 0) hx hb dX2_decrease_82 (by decide) ?_
              refine lv_lstore_n (lv' := [(3, .long (lN 0)), (6, .long (lN (un (f i) - bo))), (5, .int (nI i)), (0, .ref h), (1, .long (lN y))]) hx hb dX2_decrease_83 rfl hl (by decide) rfl (fun ls hl => ?_)
              refine lv_iinc (v := nI (i + 1)) (lv' := [(5, .int (nI (i + 1))), (3, .long (lN 0)), (6, .long (lN (un (f i) - bo))), (0, .ref h), (1, .long (lN y))]) hx hb dX2_decrease_84 hl (k := 2) rfl ((nI_succ i).symm) (by decide) rfl (fun ls hl => ?_)
              refine lv_goto (tgt := 30) hx hb dX2_decrease_87 (by decide) ?_
              refine ih (i + 1, 0, upd g i (nI (un (f i) - bo))) H locs ls (by show u - (i + 1) < u - i; omega) ⟨by show i + 1 ≤ u; omega, by show 0 < _; omega, ?_, fun j hj => ?_⟩ hP hD hS (lv_sub hl [0, 1, 3, 4] rfl)
              · show dvb 4294967296 f (i + 1) + 0 * 4294967296 ^ (i + 1) = dvb 4294967296 (upd g i _) i + un (upd g i _ i) * 4294967296 ^ i + y
                rw [dvb_upd (Nat.le_refl i), pk_us, un_mod]
                exact dvb_sub_step hinv (by omega)
              · show upd g i _ j = f j
                have hj : i + 1 ≤ j := hj
                rw [pk_un (by omega)]
                exact hge j (by omega)
            · exact absurd hg (Nat.not_lt_zero _)
          · refine lv_lsub hx hb dX2_decrease_58 ?_
            refine dm_tl (y := lN (18446744073709551616 + un (f i) - bo)) (lN_wrap (by omega) (by omega)) ?_
            refine lv_lstore (lv' := [(6, .long (lN (18446744073709551616 + un (f i) - bo))), (5, .int (nI i)), (3, .long (lN bo)), (0, .ref h), (1, .long (lN y))]) hx hb dX2_decrease_59 hl (by decide) rfl (fun ls hl => ?_)
            refine lv_aload_n hx hb dX2_decrease_61 rfl (lv_at hl 3 rfl) ?_
            refine va_get (D := D) (ci := 2) (C := RX2) (T := TX2) (N := 2) (v := .ref a) hx hb hts kin_X2_w hown hK hP 0 rfl rfl 0 (by decide) (hts _ kfl_X2_15) (fun _ h9 => h9) rfl dX2_decrease_62 ?_
            refine lv_iload hx hb dX2_decrease_65 (lv_at hl 1 rfl) ?_
            refine lv_lload hx hb dX2_decrease_67 (lv_at hl 0 rfl) ?_
            refine lv_l2i (v := nI (18446744073709551616 + un (f i) - bo)) hx hb dX2_decrease_69 (lN_low) ?_
            refine dm_iast (j := i) (f' := upd g i (nI (18446744073709551616 + un (f i) - bo))) hx hb hK hP hD hS 1 1 rfl rfl (by omega) hNb (rfl) dX2_decrease_70 (fun H locs hP hD hS => ?_)
            have hP : va_P D vwCl [(h, .inr (2, [.ref a, .int (nI u)])), (a, .inl (cI, N, .inl (upd g i (nI (18446744073709551616 + un (f i) - bo)))))] H := hP
            have hD : va_D A [(h, .inr (2, [.ref a, .int (nI u)])), (a, .inl (cI, N, .inl (upd g i (nI (18446744073709551616 + un (f i) - bo)))))] := hD
            refine lv_lload hx hb dX2_decrease_71 (lv_at hl 0 rfl) ?_
            refine lv_lconst (v := lN 0) hx hb dX2_decrease_73 (by decide) ?_
            refine W.lcmp hx hb dX2_decrease_74 ?_
            refine dm_ti (y := lg_cmp (lN (18446744073709551616 + un (f i) - bo)) (lN 0)) (rfl) ?_
            refine lv_if_ge (tgt := 82) hx hb dX2_decrease_75 (by decide) (fun hg => ?_) (fun hg => ?_)
            · exact absurd ((lg_cmp_ge _ _).mp hg) (Int64.not_le.mpr (lN_neg (by omega) (by omega)))
            · refine lv_lconst (v := lN 1) hx hb dX2_decrease_78 (by decide) ?_
              refine lv_goto (tgt := 83) hx hb dX2_decrease_79 (by decide) ?_
              refine lv_lstore_n (lv' := [(3, .long (lN 1)), (6, .long (lN (18446744073709551616 + un (f i) - bo))), (5, .int (nI i)), (0, .ref h), (1, .long (lN y))]) hx hb dX2_decrease_83 rfl hl (by decide) rfl (fun ls hl => ?_)
              refine lv_iinc (v := nI (i + 1)) (lv' := [(5, .int (nI (i + 1))), (3, .long (lN 1)), (6, .long (lN (18446744073709551616 + un (f i) - bo))), (0, .ref h), (1, .long (lN y))]) hx hb dX2_decrease_84 hl (k := 2) rfl ((nI_succ i).symm) (by decide) rfl (fun ls hl => ?_)
              refine lv_goto (tgt := 30) hx hb dX2_decrease_87 (by decide) ?_
              refine ih (i + 1, 1, upd g i (nI (18446744073709551616 + un (f i) - bo))) H locs ls (by show u - (i + 1) < u - i; omega) ⟨by show i + 1 ≤ u; omega, by show 1 < _; omega, ?_, fun j hj => ?_⟩ hP hD hS (lv_sub hl [0, 1, 3, 4] rfl)
              · show dvb 4294967296 f (i + 1) + 1 * 4294967296 ^ (i + 1) = dvb 4294967296 (upd g i _) i + un (upd g i _ i) * 4294967296 ^ i + y
                rw [dvb_upd (Nat.le_refl i), pk_us, un_mod]
                exact dvb_sub_step hinv (by omega)
              · show upd g i _ j = f j
                have hj : i + 1 ≤ j := hj
                rw [pk_un (by omega)]
                exact hge j (by omega)
    · rintro - ls hv hl
      have hv : dvb 4294967296 f u = dvb 4294967296 g u + y := hv
      refine lv_aload_n hx hb dX2_decrease_90 rfl (lv_at hl 2 rfl) ?_
      refine dm_gov (wr := []) (dm_rV (n := 0) (As := []) (rest := []) hC hl (c_X2_dropZeros l D cB cI cC 4294967296 h a N u g hu hNb H.size) kco_X2_dropZeros ki_X2 kim_X2_dropZeros kse_X2_dropZeros kml_X2_68 (by decide +kernel) ⟨Nat.le_of_ble_eq_true rfl, Nat.le_of_ble_eq_true rfl⟩ rfl rfl ⟨dm_blind, va_recv hK hP (ci := 2) (q0 := 0) rfl rfl, dm_preU hK hP hD hC.2.2.2.2.2.2.2 [0, 1] (by decide) rfl⟩ rfl rfl (Nat.le_of_ble_eq_true rfl) dX2_decrease_91 ⟨Nat.le_of_ble_eq_true rfl, Nat.le_of_ble_eq_true rfl⟩) hP hD hS hA [0, 1] [] rfl rfl (by decide) (by decide) (fun u2 H locs hw hP hD hS => ?_)
      have hP : va_P D vwCl [(h, .inr (2, [.ref a, .int (nI u2)])), (a, .inl (cI, N, .inl g))] H := hP
      have hD : va_D A [(h, .inr (2, [.ref a, .int (nI u2)])), (a, .inl (cI, N, .inl g))] := hD
      refine lv_iconst (v := nI 1) hx hb dX2_decrease_94 (by decide) ?_
      exact dm_zret (v := nI 1) hC (Or.inr rfl) hK (g, u2) ⟨fun _ => ⟨rfl, by show u2 ≤ N; omega, by show dvb _ g u2 = _; rw [hw.2.1]; omega, hw.2.2⟩, fun h9 => absurd h9 (by omega)⟩ hP hD hS dX2_decrease_95
