/-! what show shows -/
def svf (wd : Int32) (sg xv : Nat) : Nat := if wd = nI 32 then (if sg = 1 then (if xv % 4294967296 < 2147483648 then xv % 4294967296 else 18446744069414584320 + xv % 4294967296) else xv % 4294967296) else xv
def sng (wd : Int32) (sg xv : Nat) : Nat := if sg = 1 ∧ 9223372036854775808 ≤ svf wd sg xv then 1 else 0
def smg (wd : Int32) (sg xv : Nat) : Nat := if sg = 1 ∧ 9223372036854775808 ≤ svf wd sg xv then 18446744073709551616 - svf wd sg xv else svf wd sg xv
def outG (r V c : Nat) : Nat → Nat := fun i => if i < c then cdv (V / r ^ i % r) else 45
theorem svf_lt {wd : Int32} {sg xv : Nat} (h : xv < 18446744073709551616) : svf wd sg xv < 18446744073709551616 := by
  unfold svf
  repeat' split
  all_goals omega
theorem lN_negate {a : Nat} (h0 : 0 < a) (h : a < 18446744073709551616) : -(lN a) = lN (18446744073709551616 - a) := by
  have h2 : lN a + lN (18446744073709551616 - a) = 0 := by
    rw [lN_add, wb_mod, show (a + (18446744073709551616 - a)) % 2 ^ 64 = 0 by omega]
    rfl
  have h3 : lN (18446744073709551616 - a) = 0 - lN a := by
    rw [← h2, Int64.add_comm, Int64.add_sub_cancel]
  rw [h3, Int64.zero_sub]
theorem sxl (x : Int32) : x.toInt64 = lN (if un x < 2147483648 then un x else 18446744069414584320 + un x) := by
  have hl := un_lt x
  by_cases h : 0 ≤ x
  · obtain ⟨h1, h2⟩ := un_nneg h
    rw [if_pos h1, h2]
  · obtain ⟨h1, h2⟩ := un_isneg h
    rw [if_neg (by omega)]
    have h3 : x.toInt64 = -(lN (4294967296 - un x)) := by rw [← h2, Int64.neg_neg]
    rw [h3, lN_negate (by omega) (by omega)]
    congr 1
    omega
theorem pow64 {r V : Nat} (hr : 2 ≤ r) (h : V < 18446744073709551616) : V < r ^ 65536 := by
  have h1 : 2 ^ 64 ≤ r ^ 64 := Nat.pow_le_pow_left hr 64
  have h2 : r ^ 64 ≤ r ^ 65536 := Nat.pow_le_pow_right (by omega) (by omega)
  exact Nat.lt_of_lt_of_le h (Nat.le_trans h1 h2)
theorem isND_64 {r V c : Nat} (hr : 2 ≤ r) (h : V < 18446744073709551616) (hc : isND r V c) : c ≤ 64 := by
  rcases hc.2.2 with h1 | h1
  · omega
  · have h2 : V < r ^ 64 := Nat.lt_of_lt_of_le h (Nat.pow_le_pow_left hr 64)
    have h3 := (Nat.pow_lt_pow_iff_right (show 1 < r by omega)).mp (Nat.lt_of_le_of_lt h1 h2)
    omega

set_option maxRecDepth 100000 in
set_option maxHeartbeats 4000000 in
theorem c_X3_show (l : Launch) (D : va_G) (cB cI cC : ClassId) (h hti ati hto ato hnu anu hsp asp hsq asq hsm asm n st uN us uq um : Nat) (ft fx fN fs fq fm : Nat → Int32) (lv : Int64) (xv sg : Nat) (wd x : Int32) (hst : st ≤ 65536) (hxv : xv < 18446744073709551616) (hsg : sg < 2) : MI l yX3_show (Cond.code yX3_show cX3_show 9 (some .int)) 3 D (TY cB cI cC) [.ref h, .long (lN xv), .int wd, .int x, .int (nI sg)] [(h, .inr (3, [.ref hti, .ref hto, .ref hnu, .ref hsp, .ref hsq, .ref hsm, .long lv])), (hti, .inr (0, [.ref ati, .int (nI n)])), (ati, .inl (cB, 65536, .inl ft)), (hto, .inr (1, [.ref ato, .int (nI st)])), (ato, .inl (cB, 65536, .inl fx)), (hnu, .inr (2, [.ref anu, .int (nI uN)])), (anu, .inl (cI, 2048, .inl fN)), (hsp, .inr (2, [.ref asp, .int (nI us)])), (asp, .inl (cI, 2048, .inl fs)), (hsq, .inr (2, [.ref asq, .int (nI uq)])), (asq, .inl (cI, 2048, .inl fq)), (hsm, .inr (2, [.ref asm, .int (nI um)])), (asm, .inl (cI, 2, .inl fm))] (S := (Nat → Int32) × Nat × (Nat → Int32) × Nat) (fun b q => q.2.1 ≤ 65536 ∧ ((¬ (isWd wd ∧ isR x) ∧ b = -1 ∧ q.1 = fx ∧ q.2.1 = st) ∨ (isWd wd ∧ ∃ r c, 2 ≤ r ∧ r ≤ 36 ∧ x = nI r ∧ isND r (smg wd sg xv) c ∧ 65536 - q.2.1 = c + sng wd sg xv ∧ b = nI (65536 - q.2.1) ∧ ∀ i, i < 65536 - q.2.1 → q.1 (65535 - i) = nI (outG r (smg wd sg xv) c i)))) (fun q => [(h, .inr (3, [.ref hti, .ref hto, .ref hnu, .ref hsp, .ref hsq, .ref hsm, .long lv])), (hti, .inr (0, [.ref ati, .int (nI n)])), (ati, .inl (cB, 65536, .inl ft)), (hto, .inr (1, [.ref ato, .int (nI q.2.1)])), (ato, .inl (cB, 65536, .inl q.1)), (hnu, .inr (2, [.ref anu, .int (nI uN)])), (anu, .inl (cI, 2048, .inl fN)), (hsp, .inr (2, [.ref asp, .int (nI us)])), (asp, .inl (cI, 2048, .inl fs)), (hsq, .inr (2, [.ref asq, .int (nI uq)])), (asq, .inl (cI, 2048, .inl fq)), (hsm, .inr (2, [.ref asm, .int (nI q.2.2.2)])), (asm, .inl (cI, 2, .inl q.2.2.1))]) := by
  refine MI.of (by decide) (Nat.le_of_ble_eq_true rfl) ?_
  intro p e s m below meth c ls A hC hA hP hK hD hS hl
  obtain ⟨hx, hb, hr, hml, hown, hts, hlocks, hN⟩ := id hC
  have hown : s.vm.findClass RX3 = some m.cls := hown
  have hl : lv_has ls 9 [(0, .ref h), (1, .long (lN xv)), (3, .int wd), (4, .int x), (5, .int (nI sg))] := hl
  refine lv_iload_n hx hb dX3_show_0 rfl (lv_at hl 2 rfl) ?_
  refine dm_gori (dm_rS (n := 1) (As := [.int wd]) (rest := []) hC hl (c_X3_isWidth l D cB cI cC wd s.heap.size) kco_X3_isWidth ki_X3 kst_X3_isWidth kml_X3_88 (by decide +kernel) ⟨Nat.le_of_ble_eq_true rfl, Nat.le_of_ble_eq_true rfl⟩ rfl rfl ⟨dm_blind, dm_preU hK hP hD hC.2.2.2.2.2.2.2 [] (by decide) rfl⟩ rfl rfl (Nat.le_of_ble_eq_true rfl) dX3_show_1 ⟨Nat.le_of_ble_eq_true rfl, Nat.le_of_ble_eq_true rfl⟩) (fun r1 e1 => ?_)
  refine lv_if_eq (tgt := 15) hx hb dX3_show_4 (by decide) (fun hc => ?_) (fun hc => ?_)
  · refine lv_iconst (v := -1) hx hb dX3_show_15 (by decide) ?_
    exact dm_iret hC hK (fx, st, fm, um) ⟨hst, Or.inl ⟨fun h9 => (e1.resolve_left (fun h8 => absurd (hc.symm.trans h8.2) (by decide))).1 h9.1, rfl, rfl, rfl⟩⟩ hP hD hS dX3_show_16
  · have hwd := (e1.resolve_right (fun h8 => hc h8.2)).1
    refine lv_iload hx hb dX3_show_7 (lv_at hl 3 rfl) ?_
    refine dm_gori (dm_rS (n := 1) (As := [.int x]) (rest := []) hC hl (c_X3_isRadix l D cB cI cC x s.heap.size) kco_X3_isRadix ki_X3 kst_X3_isRadix kml_X3_53 (by decide +kernel) ⟨Nat.le_of_ble_eq_true rfl, Nat.le_of_ble_eq_true rfl⟩ rfl rfl ⟨dm_blind, dm_preU hK hP hD hC.2.2.2.2.2.2.2 [] (by decide) rfl⟩ rfl rfl (Nat.le_of_ble_eq_true rfl) dX3_show_9 ⟨Nat.le_of_ble_eq_true rfl, Nat.le_of_ble_eq_true rfl⟩) (fun r2 e2 => ?_)
    refine lv_if_ne (tgt := 17) hx hb dX3_show_12 (by decide) (fun hd => ?_) (fun hd => ?_)
    · obtain ⟨⟨r, hr2, hr36, rfl⟩, -⟩ := e2.resolve_right (fun h9 => hd h9.2)
      have hsv := svf_lt (wd := wd) (sg := sg) hxv
      obtain ⟨sv, hsve⟩ : ∃ z, z = svf wd sg xv := ⟨_, rfl⟩
      refine lv_lload_n hx hb dX3_show_17 rfl (lv_at hl 1 rfl) ?_
      refine lv_lstore (lv' := [(6, .long (lN xv)), (0, .ref h), (1, .long (lN xv)), (3, .int wd), (4, .int (nI r)), (5, .int (nI sg))]) hx hb dX3_show_18 hl (by decide) rfl (fun ls hl => ?_)
      refine dm_cutR (nL := 9) (σ := Unit) 44 (fun _ => True) (fun _ => [(6, .long (lN sv)), (0, .ref h), (1, .long (lN xv)), (3, .int wd), (4, .int (nI r)), (5, .int (nI sg))]) (fun hJ => ?_) ?_
      · refine lv_iload_n hx hb dX3_show_20 rfl (lv_at hl 3 rfl) ?_
        refine lv_bipush (v := nI 32) hx hb dX3_show_21 (by decide) ?_
        refine lv_icmp_ne (tgt := 44) hx hb dX3_show_23 (by decide) (fun hw => ?_) (fun hw => ?_)
        · have e3 : sv = xv := by rw [hsve]; unfold svf; rw [if_neg hw]
          rw [← e3] at hl
          exact hJ () ls trivial (by rw [e3] at hl ⊢; exact lv_sub hl [0, 1, 2, 3, 4, 5] rfl)
        · refine lv_iload hx hb dX3_show_26 (lv_at hl 5 rfl) ?_
          refine dm_if_eq (tgt := 37) hx hb (by omega) dX3_show_28 (by decide) (fun hs => ?_) (fun hs => ?_)
          · refine lv_lload_n hx hb dX3_show_37 rfl (lv_at hl 2 rfl) ?_
            refine lv_ldc2 (v := 4294967295) hx hb hown (hts _ kct_X3_91) dX3_show_38 ?_
            refine lv_land hx hb dX3_show_41 ?_
            refine dm_tl (y := lN sv) (by rw [hsve]; unfold svf; rw [if_pos hw, if_neg (show ¬ sg = 1 by omega)]; exact wb_mask (k := 32) hxv (by decide)) ?_
            refine lv_lstore (lv' := [(6, .long (lN sv)), (0, .ref h), (1, .long (lN xv)), (3, .int wd), (4, .int (nI r)), (5, .int (nI sg))]) hx hb dX3_show_42 hl (by decide) rfl (fun ls hl => ?_)
            exact hJ () ls trivial (lv_sub hl [0, 1, 2, 3, 4, 5] rfl)
          · refine lv_lload_n hx hb dX3_show_31 rfl (lv_at hl 2 rfl) ?_
            refine lv_l2i (v := nI xv) hx hb dX3_show_32 (lN_low) ?_
            refine lv_i2l (v := lN sv) hx hb dX3_show_33 (by rw [sxl, un_mod, hsve]; unfold svf; rw [if_pos hw, if_pos (show sg = 1 by omega)]) ?_
            refine lv_goto (tgt := 42) hx hb dX3_show_34 (by decide) ?_
            refine lv_lstore (lv' := [(6, .long (lN sv)), (0, .ref h), (1, .long (lN xv)), (3, .int wd), (4, .int (nI r)), (5, .int (nI sg))]) hx hb dX3_show_42 hl (by decide) rfl (fun ls hl => ?_)
            exact hJ () ls trivial (lv_sub hl [0, 1, 2, 3, 4, 5] rfl)
      · rintro - ls - hl
        have hsv : sv < 18446744073709551616 := by rw [hsve]; exact hsv
        obtain ⟨mg, hmg⟩ : ∃ z, z = smg wd sg xv := ⟨_, rfl⟩
        obtain ⟨ng, hng⟩ : ∃ z, z = sng wd sg xv := ⟨_, rfl⟩
        rw [← hmg, ← hng]
        unfold smg at hmg
        unfold sng at hng
        rw [← hsve] at hmg hng
        by_cases hneg : sg = 1 ∧ 9223372036854775808 ≤ sv
        · rw [if_pos hneg] at hmg hng
          have hmgl : mg < 18446744073709551616 := by omega
          refine lv_iload hx hb dX3_show_44 (lv_at hl 5 rfl) ?_
          refine dm_if_eq (tgt := 60) hx hb (by omega) dX3_show_46 (by decide) (fun hs => ?_) (fun hs => ?_)
          · omega
          · refine lv_lload hx hb dX3_show_49 (lv_at hl 0 rfl) ?_
            refine lv_lconst (v := lN 0) hx hb dX3_show_51 (by decide) ?_
            refine W.lcmp hx hb dX3_show_52 ?_
            refine dm_ti (y := lg_cmp (lN sv) (lN 0)) (rfl) ?_
            refine lv_if_ge (tgt := 60) hx hb dX3_show_53 (by decide) (fun hs2 => ?_) (fun hs2 => ?_)
            · exact absurd ((lg_cmp_ge _ _).mp hs2) (Int64.not_le.mpr (lN_neg hneg.2 hsv))
            · refine lv_iconst (v := nI 1) hx hb dX3_show_56 (by decide) ?_
              refine lv_goto (tgt := 61) hx hb dX3_show_57 (by decide) ?_
              refine lv_istore (lv' := [(8, .int (nI 1)), (6, .long (lN sv)), (0, .ref h), (1, .long (lN xv)), (3, .int wd), (4, .int (nI r)), (5, .int (nI sg))]) hx hb dX3_show_61 hl (by decide) rfl (fun ls hl => ?_)
              refine lv_aload_n hx hb dX3_show_63 rfl (lv_at hl 2 rfl) ?_
              refine va_get (D := D) (ci := 3) (C := RX3) (T := TX3) (N := 7) (v := .ref hsm) hx hb hts kin_X3_w hown hK hP 0 rfl rfl 5 (by decide) (hts _ kfl_X3_38) (fun _ h9 => h9) rfl dX3_show_64 ?_
              refine lv_iload hx hb dX3_show_67 (lv_at hl 0 rfl) ?_
              refine dm_if_eq (tgt := 78) hx hb (by omega) dX3_show_69 (by decide) (fun hg => ?_) (fun hg => ?_)
              · omega
              · refine lv_lload hx hb dX3_show_72 (lv_at hl 1 rfl) ?_
                refine lv_lneg hx hb dX3_show_74 ?_
                refine dm_tl (y := lN mg) (by rw [hmg]; exact lN_negate (by omega) (by omega)) ?_
                refine lv_goto (tgt := 80) hx hb dX3_show_75 (by decide) ?_
                refine dm_gov (wr := [(h, .inr (3, [.ref hti, .ref hto, .ref hnu, .ref hsp, .ref hsq, .ref hsm, .long lv])), (hti, .inr (0, [.ref ati, .int (nI n)])), (ati, .inl (cB, 65536, .inl ft)), (hto, .inr (1, [.ref ato, .int (nI st)])), (ato, .inl (cB, 65536, .inl fx)), (hnu, .inr (2, [.ref anu, .int (nI uN)])), (anu, .inl (cI, 2048, .inl fN)), (hsp, .inr (2, [.ref asp, .int (nI us)])), (asp, .inl (cI, 2048, .inl fs)), (hsq, .inr (2, [.ref asq, .int (nI uq)])), (asq, .inl (cI, 2048, .inl fq))]) (dm_rVN (n := 1) (As := [.long (lN mg)]) (rest := []) hC hl (c_X2_becomeLong l D cB cI cC hsm asm 2 um mg fm (by decide) (by decide) hmgl s.heap.size) kco_X2_becomeLong ki_X2 kim_X2_becomeLong kse_X2_becomeLong knl_X3_93 (by decide +kernel) ⟨Nat.le_of_ble_eq_true rfl, Nat.le_of_ble_eq_true rfl⟩ rfl rfl ⟨dm_blind, va_recv hK hP (ci := 2) (q0 := 11) rfl rfl, dm_preU hK hP hD hC.2.2.2.2.2.2.2 [11, 12] (by decide) rfl⟩ rfl rfl (Nat.le_of_ble_eq_true rfl) dX3_show_80 ⟨Nat.le_of_ble_eq_true rfl, Nat.le_of_ble_eq_true rfl⟩) hP hD hS hA [11, 12] [0, 1, 2, 3, 4, 5, 6, 7, 8, 9, 10] rfl rfl (by decide) (by decide) (fun q H locs hb9 hP hD hS => ?_)
                obtain ⟨f2, u2⟩ := q
                have hP : va_P D vwCl [(h, .inr (3, [.ref hti, .ref hto, .ref hnu, .ref hsp, .ref hsq, .ref hsm, .long lv])), (hti, .inr (0, [.ref ati, .int (nI n)])), (ati, .inl (cB, 65536, .inl ft)), (hto, .inr (1, [.ref ato, .int (nI st)])), (ato, .inl (cB, 65536, .inl fx)), (hnu, .inr (2, [.ref anu, .int (nI uN)])), (anu, .inl (cI, 2048, .inl fN)), (hsp, .inr (2, [.ref asp, .int (nI us)])), (asp, .inl (cI, 2048, .inl fs)), (hsq, .inr (2, [.ref asq, .int (nI uq)])), (asq, .inl (cI, 2048, .inl fq)), (hsm, .inr (2, [.ref asm, .int (nI u2)])), (asm, .inl (cI, 2, .inl f2))] H := hP
                have hD : va_D A [(h, .inr (3, [.ref hti, .ref hto, .ref hnu, .ref hsp, .ref hsq, .ref hsm, .long lv])), (hti, .inr (0, [.ref ati, .int (nI n)])), (ati, .inl (cB, 65536, .inl ft)), (hto, .inr (1, [.ref ato, .int (nI st)])), (ato, .inl (cB, 65536, .inl fx)), (hnu, .inr (2, [.ref anu, .int (nI uN)])), (anu, .inl (cI, 2048, .inl fN)), (hsp, .inr (2, [.ref asp, .int (nI us)])), (asp, .inl (cI, 2048, .inl fs)), (hsq, .inr (2, [.ref asq, .int (nI uq)])), (asq, .inl (cI, 2048, .inl fq)), (hsm, .inr (2, [.ref asm, .int (nI u2)])), (asm, .inl (cI, 2, .inl f2))] := hD
                obtain ⟨b1, b2, b3⟩ := hb9
                dsimp only at b1 b2 b3
                refine lv_aload_n hx hb dX3_show_83 rfl (lv_at hl 2 rfl) ?_
                refine va_get (D := D) (ci := 3) (C := RX3) (T := TX3) (N := 7) (v := .ref hto) hx hb hts kin_X3_w hown hK hP 0 rfl rfl 1 (by decide) (hts _ kfl_X3_19) (fun _ h9 => h9) rfl dX3_show_84 ?_
                refine lv_aload_n hx hb dX3_show_87 rfl (lv_at hl 2 rfl) ?_
                refine va_get (D := D) (ci := 3) (C := RX3) (T := TX3) (N := 7) (v := .ref hsm) hx hb hts kin_X3_w hown hK hP 0 rfl rfl 5 (by decide) (hts _ kfl_X3_38) (fun _ h9 => h9) rfl dX3_show_88 ?_
                refine lv_iload hx hb dX3_show_91 (lv_at hl 5 rfl) ?_
                refine dm_gov (wr := [(h, .inr (3, [.ref hti, .ref hto, .ref hnu, .ref hsp, .ref hsq, .ref hsm, .long lv])), (hti, .inr (0, [.ref ati, .int (nI n)])), (ati, .inl (cB, 65536, .inl ft)), (hnu, .inr (2, [.ref anu, .int (nI uN)])), (anu, .inl (cI, 2048, .inl fN)), (hsp, .inr (2, [.ref asp, .int (nI us)])), (asp, .inl (cI, 2048, .inl fs)), (hsq, .inr (2, [.ref asq, .int (nI uq)])), (asq, .inl (cI, 2048, .inl fq))]) (dm_rVN (n := 2) (As := [.ref hsm, .int (nI r)]) (rest := []) hC hl (c_X1_becomeDigitsOf l D cB cI cC hto ato hsm asm 2 st u2 r fx f2 b1 (by decide) b3 hr2 hr36 (by rw [b2]; exact pow64 hr2 hmgl) H.size) kco_X1_becomeDigitsOf ki_X1 kim_X1_becomeDigitsOf kse_X1_becomeDigitsOf knl_X3_68 (by decide +kernel) ⟨Nat.le_of_ble_eq_true rfl, Nat.le_of_ble_eq_true rfl⟩ rfl rfl ⟨dm_blind, va_recv hK hP (ci := 1) (q0 := 3) rfl rfl, dm_preU hK hP hD hC.2.2.2.2.2.2.2 [3, 4, 11, 12] (by decide) rfl⟩ rfl rfl (Nat.le_of_ble_eq_true rfl) dX3_show_93 ⟨Nat.le_of_ble_eq_true rfl, Nat.le_of_ble_eq_true rfl⟩) hP hD hS hA [3, 4, 11, 12] [0, 1, 2, 5, 6, 7, 8, 9, 10] rfl rfl (by decide) (by decide) (fun q H locs hw9 hP hD hS => ?_)
                obtain ⟨F2, s2, G2, U2⟩ := q
                have hP : va_P D vwCl [(h, .inr (3, [.ref hti, .ref hto, .ref hnu, .ref hsp, .ref hsq, .ref hsm, .long lv])), (hti, .inr (0, [.ref ati, .int (nI n)])), (ati, .inl (cB, 65536, .inl ft)), (hnu, .inr (2, [.ref anu, .int (nI uN)])), (anu, .inl (cI, 2048, .inl fN)), (hsp, .inr (2, [.ref asp, .int (nI us)])), (asp, .inl (cI, 2048, .inl fs)), (hsq, .inr (2, [.ref asq, .int (nI uq)])), (asq, .inl (cI, 2048, .inl fq)), (hto, .inr (1, [.ref ato, .int (nI s2)])), (ato, .inl (cB, 65536, .inl F2)), (hsm, .inr (2, [.ref asm, .int (nI U2)])), (asm, .inl (cI, 2, .inl G2))] H := hP
                have hD : va_D A [(h, .inr (3, [.ref hti, .ref hto, .ref hnu, .ref hsp, .ref hsq, .ref hsm, .long lv])), (hti, .inr (0, [.ref ati, .int (nI n)])), (ati, .inl (cB, 65536, .inl ft)), (hnu, .inr (2, [.ref anu, .int (nI uN)])), (anu, .inl (cI, 2048, .inl fN)), (hsp, .inr (2, [.ref asp, .int (nI us)])), (asp, .inl (cI, 2048, .inl fs)), (hsq, .inr (2, [.ref asq, .int (nI uq)])), (asq, .inl (cI, 2048, .inl fq)), (hto, .inr (1, [.ref ato, .int (nI s2)])), (ato, .inl (cB, 65536, .inl F2)), (hsm, .inr (2, [.ref asm, .int (nI U2)])), (asm, .inl (cI, 2, .inl G2))] := hD
                have hP := hP.sub (ws' := [(h, .inr (3, [.ref hti, .ref hto, .ref hnu, .ref hsp, .ref hsq, .ref hsm, .long lv])), (hti, .inr (0, [.ref ati, .int (nI n)])), (ati, .inl (cB, 65536, .inl ft)), (hto, .inr (1, [.ref ato, .int (nI s2)])), (ato, .inl (cB, 65536, .inl F2)), (hnu, .inr (2, [.ref anu, .int (nI uN)])), (anu, .inl (cI, 2048, .inl fN)), (hsp, .inr (2, [.ref asp, .int (nI us)])), (asp, .inl (cI, 2048, .inl fs)), (hsq, .inr (2, [.ref asq, .int (nI uq)])), (asq, .inl (cI, 2048, .inl fq)), (hsm, .inr (2, [.ref asm, .int (nI U2)])), (asm, .inl (cI, 2, .inl G2))]) [0, 1, 2, 9, 10, 3, 4, 5, 6, 7, 8, 11, 12] rfl
                have hD := hD.sub (ws' := [(h, .inr (3, [.ref hti, .ref hto, .ref hnu, .ref hsp, .ref hsq, .ref hsm, .long lv])), (hti, .inr (0, [.ref ati, .int (nI n)])), (ati, .inl (cB, 65536, .inl ft)), (hto, .inr (1, [.ref ato, .int (nI s2)])), (ato, .inl (cB, 65536, .inl F2)), (hnu, .inr (2, [.ref anu, .int (nI uN)])), (anu, .inl (cI, 2048, .inl fN)), (hsp, .inr (2, [.ref asp, .int (nI us)])), (asp, .inl (cI, 2048, .inl fs)), (hsq, .inr (2, [.ref asq, .int (nI uq)])), (asq, .inl (cI, 2048, .inl fq)), (hsm, .inr (2, [.ref asm, .int (nI U2)])), (asm, .inl (cI, 2, .inl G2))]) [0, 1, 2, 9, 10, 3, 4, 5, 6, 7, 8, 11, 12] (by decide) rfl
                obtain ⟨w1, w2, w3, w4⟩ := hw9
                dsimp only at w1 w2 w3 w4
                rw [b2] at w3 w4
                have hc64 := isND_64 hr2 hmgl w3
                refine lv_iload hx hb dX3_show_96 (lv_at hl 0 rfl) ?_
                refine dm_if_eq (tgt := 110) hx hb (by omega) dX3_show_98 (by decide) (fun hk => ?_) (fun hk => ?_)
                · omega
                · refine lv_aload_n hx hb dX3_show_101 rfl (lv_at hl 2 rfl) ?_
                  refine va_get (D := D) (ci := 3) (C := RX3) (T := TX3) (N := 7) (v := .ref hto) hx hb hts kin_X3_w hown hK hP 0 rfl rfl 1 (by decide) (hts _ kfl_X3_19) (fun _ h9 => h9) rfl dX3_show_102 ?_
                  refine lv_bipush (v := nI 45) hx hb dX3_show_105 (by decide) ?_
                  refine dm_gov (wr := [(h, .inr (3, [.ref hti, .ref hto, .ref hnu, .ref hsp, .ref hsq, .ref hsm, .long lv])), (hti, .inr (0, [.ref ati, .int (nI n)])), (ati, .inl (cB, 65536, .inl ft)), (hnu, .inr (2, [.ref anu, .int (nI uN)])), (anu, .inl (cI, 2048, .inl fN)), (hsp, .inr (2, [.ref asp, .int (nI us)])), (asp, .inl (cI, 2048, .inl fs)), (hsq, .inr (2, [.ref asq, .int (nI uq)])), (asq, .inl (cI, 2048, .inl fq)), (hsm, .inr (2, [.ref asm, .int (nI U2)])), (asm, .inl (cI, 2, .inl G2))]) (dm_rVN (n := 1) (As := [.int (nI 45)]) (rest := []) hC hl (c_X1_prepend l D cB cI cC hto ato s2 45 F2 w1 (by omega) (by decide) H.size) kco_X1_prepend ki_X1 kim_X1_prepend kse_X1_prepend knl_X3_97 (by decide +kernel) ⟨Nat.le_of_ble_eq_true rfl, Nat.le_of_ble_eq_true rfl⟩ rfl rfl ⟨dm_blind, va_recv hK hP (ci := 1) (q0 := 3) rfl rfl, dm_preU hK hP hD hC.2.2.2.2.2.2.2 [3, 4] (by decide) rfl⟩ rfl rfl (Nat.le_of_ble_eq_true rfl) dX3_show_107 ⟨Nat.le_of_ble_eq_true rfl, Nat.le_of_ble_eq_true rfl⟩) hP hD hS hA [3, 4] [0, 1, 2, 5, 6, 7, 8, 9, 10, 11, 12] rfl rfl (by decide) (by decide) (fun _ H locs _ hP hD hS => ?_)
                  have hP : va_P D vwCl [(h, .inr (3, [.ref hti, .ref hto, .ref hnu, .ref hsp, .ref hsq, .ref hsm, .long lv])), (hti, .inr (0, [.ref ati, .int (nI n)])), (ati, .inl (cB, 65536, .inl ft)), (hnu, .inr (2, [.ref anu, .int (nI uN)])), (anu, .inl (cI, 2048, .inl fN)), (hsp, .inr (2, [.ref asp, .int (nI us)])), (asp, .inl (cI, 2048, .inl fs)), (hsq, .inr (2, [.ref asq, .int (nI uq)])), (asq, .inl (cI, 2048, .inl fq)), (hsm, .inr (2, [.ref asm, .int (nI U2)])), (asm, .inl (cI, 2, .inl G2)), (hto, .inr (1, [.ref ato, .int (nI (s2 - 1))])), (ato, .inl (cB, 65536, .inl (upd F2 (s2 - 1) (nI 45))))] H := hP
                  have hD : va_D A [(h, .inr (3, [.ref hti, .ref hto, .ref hnu, .ref hsp, .ref hsq, .ref hsm, .long lv])), (hti, .inr (0, [.ref ati, .int (nI n)])), (ati, .inl (cB, 65536, .inl ft)), (hnu, .inr (2, [.ref anu, .int (nI uN)])), (anu, .inl (cI, 2048, .inl fN)), (hsp, .inr (2, [.ref asp, .int (nI us)])), (asp, .inl (cI, 2048, .inl fs)), (hsq, .inr (2, [.ref asq, .int (nI uq)])), (asq, .inl (cI, 2048, .inl fq)), (hsm, .inr (2, [.ref asm, .int (nI U2)])), (asm, .inl (cI, 2, .inl G2)), (hto, .inr (1, [.ref ato, .int (nI (s2 - 1))])), (ato, .inl (cB, 65536, .inl (upd F2 (s2 - 1) (nI 45))))] := hD
                  have hP := hP.sub (ws' := [(h, .inr (3, [.ref hti, .ref hto, .ref hnu, .ref hsp, .ref hsq, .ref hsm, .long lv])), (hti, .inr (0, [.ref ati, .int (nI n)])), (ati, .inl (cB, 65536, .inl ft)), (hto, .inr (1, [.ref ato, .int (nI (s2 - 1))])), (ato, .inl (cB, 65536, .inl (upd F2 (s2 - 1) (nI 45)))), (hnu, .inr (2, [.ref anu, .int (nI uN)])), (anu, .inl (cI, 2048, .inl fN)), (hsp, .inr (2, [.ref asp, .int (nI us)])), (asp, .inl (cI, 2048, .inl fs)), (hsq, .inr (2, [.ref asq, .int (nI uq)])), (asq, .inl (cI, 2048, .inl fq)), (hsm, .inr (2, [.ref asm, .int (nI U2)])), (asm, .inl (cI, 2, .inl G2))]) [0, 1, 2, 11, 12, 3, 4, 5, 6, 7, 8, 9, 10] rfl
                  have hD := hD.sub (ws' := [(h, .inr (3, [.ref hti, .ref hto, .ref hnu, .ref hsp, .ref hsq, .ref hsm, .long lv])), (hti, .inr (0, [.ref ati, .int (nI n)])), (ati, .inl (cB, 65536, .inl ft)), (hto, .inr (1, [.ref ato, .int (nI (s2 - 1))])), (ato, .inl (cB, 65536, .inl (upd F2 (s2 - 1) (nI 45)))), (hnu, .inr (2, [.ref anu, .int (nI uN)])), (anu, .inl (cI, 2048, .inl fN)), (hsp, .inr (2, [.ref asp, .int (nI us)])), (asp, .inl (cI, 2048, .inl fs)), (hsq, .inr (2, [.ref asq, .int (nI uq)])), (asq, .inl (cI, 2048, .inl fq)), (hsm, .inr (2, [.ref asm, .int (nI U2)])), (asm, .inl (cI, 2, .inl G2))]) [0, 1, 2, 11, 12, 3, 4, 5, 6, 7, 8, 9, 10] (by decide) rfl
                  refine lv_aload_n hx hb dX3_show_110 rfl (lv_at hl 2 rfl) ?_
                  refine va_get (D := D) (ci := 3) (C := RX3) (T := TX3) (N := 7) (v := .ref hto) hx hb hts kin_X3_w hown hK hP 0 rfl rfl 1 (by decide) (hts _ kfl_X3_19) (fun _ h9 => h9) rfl dX3_show_111 ?_
                  refine dm_gori (dm_rVN (n := 0) (As := []) (rest := []) hC hl (c_X1_size l D cB cI cC hto ato (s2 - 1) (upd F2 (s2 - 1) (nI 45)) (by omega) H.size) kco_X1_size ki_X1 kim_X1_size kse_X1_size knl_X3_72 (by decide +kernel) ⟨Nat.le_of_ble_eq_true rfl, Nat.le_of_ble_eq_true rfl⟩ rfl rfl ⟨dm_blind, va_recv hK hP (ci := 1) (q0 := 3) rfl rfl, dm_preU hK hP hD hC.2.2.2.2.2.2.2 [3, 4] (by decide) rfl⟩ rfl rfl (Nat.le_of_ble_eq_true rfl) dX3_show_114 ⟨Nat.le_of_ble_eq_true rfl, Nat.le_of_ble_eq_true rfl⟩) (fun r9 e9 => ?_)
                  refine dm_iret hC hK (upd F2 (s2 - 1) (nI 45), s2 - 1, G2, U2) ⟨by show s2 - 1 ≤ 65536; omega, Or.inr ⟨hwd, r, 65536 - s2, hr2, hr36, rfl, w3, by show 65536 - (s2 - 1) = _; rw [hng]; omega, e9, fun i hi => ?_⟩⟩ hP hD hS dX3_show_117
                  have hi : i < 65536 - (s2 - 1) := hi
                  show upd F2 (s2 - 1) (nI 45) (65535 - i) = nI (outG r mg (65536 - s2) i)
                  unfold outG
                  by_cases hi2 : i < 65536 - s2
                  · rw [if_pos hi2, pk_un (by omega)]; exact w4 i hi2
                  · rw [if_neg hi2, show 65535 - i = s2 - 1 by omega, pk_us]
        · rw [if_neg hneg] at hmg hng
          have hmgl : mg < 18446744073709551616 := by omega
          refine lv_iload hx hb dX3_show_44 (lv_at hl 5 rfl) ?_
          refine dm_if_eq (tgt := 60) hx hb (by omega) dX3_show_46 (by decide) (fun hs => ?_) (fun hs => ?_)
          · refine lv_iconst (v := nI 0) hx hb dX3_show_60 (by decide) ?_
            refine lv_istore (lv' := [(8, .int (nI 0)), (6, .long (lN sv)), (0, .ref h), (1, .long (lN xv)), (3, .int wd), (4, .int (nI r)), (5, .int (nI sg))]) hx hb dX3_show_61 hl (by decide) rfl (fun ls hl => ?_)
            refine lv_aload_n hx hb dX3_show_63 rfl (lv_at hl 2 rfl) ?_
            refine va_get (D := D) (ci := 3) (C := RX3) (T := TX3) (N := 7) (v := .ref hsm) hx hb hts kin_X3_w hown hK hP 0 rfl rfl 5 (by decide) (hts _ kfl_X3_38) (fun _ h9 => h9) rfl dX3_show_64 ?_
            refine lv_iload hx hb dX3_show_67 (lv_at hl 0 rfl) ?_
            refine dm_if_eq (tgt := 78) hx hb (by omega) dX3_show_69 (by decide) (fun hg => ?_) (fun hg => ?_)
            · refine lv_lload hx hb dX3_show_78 (lv_at hl 1 rfl) ?_
              refine dm_tl (y := lN mg) (by rw [hmg]) ?_
              refine dm_gov (wr := [(h, .inr (3, [.ref hti, .ref hto, .ref hnu, .ref hsp, .ref hsq, .ref hsm, .long lv])), (hti, .inr (0, [.ref ati, .int (nI n)])), (ati, .inl (cB, 65536, .inl ft)), (hto, .inr (1, [.ref ato, .int (nI st)])), (ato, .inl (cB, 65536, .inl fx)), (hnu, .inr (2, [.ref anu, .int (nI uN)])), (anu, .inl (cI, 2048, .inl fN)), (hsp, .inr (2, [.ref asp, .int (nI us)])), (asp, .inl (cI, 2048, .inl fs)), (hsq, .inr (2, [.ref asq, .int (nI uq)])), (asq, .inl (cI, 2048, .inl fq))]) (dm_rVN (n := 1) (As := [.long (lN mg)]) (rest := []) hC hl (c_X2_becomeLong l D cB cI cC hsm asm 2 um mg fm (by decide) (by decide) hmgl s.heap.size) kco_X2_becomeLong ki_X2 kim_X2_becomeLong kse_X2_becomeLong knl_X3_93 (by decide +kernel) ⟨Nat.le_of_ble_eq_true rfl, Nat.le_of_ble_eq_true rfl⟩ rfl rfl ⟨dm_blind, va_recv hK hP (ci := 2) (q0 := 11) rfl rfl, dm_preU hK hP hD hC.2.2.2.2.2.2.2 [11, 12] (by decide) rfl⟩ rfl rfl (Nat.le_of_ble_eq_true rfl) dX3_show_80 ⟨Nat.le_of_ble_eq_true rfl, Nat.le_of_ble_eq_true rfl⟩) hP hD hS hA [11, 12] [0, 1, 2, 3, 4, 5, 6, 7, 8, 9, 10] rfl rfl (by decide) (by decide) (fun q H locs hb9 hP hD hS => ?_)
              obtain ⟨f2, u2⟩ := q
              have hP : va_P D vwCl [(h, .inr (3, [.ref hti, .ref hto, .ref hnu, .ref hsp, .ref hsq, .ref hsm, .long lv])), (hti, .inr (0, [.ref ati, .int (nI n)])), (ati, .inl (cB, 65536, .inl ft)), (hto, .inr (1, [.ref ato, .int (nI st)])), (ato, .inl (cB, 65536, .inl fx)), (hnu, .inr (2, [.ref anu, .int (nI uN)])), (anu, .inl (cI, 2048, .inl fN)), (hsp, .inr (2, [.ref asp, .int (nI us)])), (asp, .inl (cI, 2048, .inl fs)), (hsq, .inr (2, [.ref asq, .int (nI uq)])), (asq, .inl (cI, 2048, .inl fq)), (hsm, .inr (2, [.ref asm, .int (nI u2)])), (asm, .inl (cI, 2, .inl f2))] H := hP
              have hD : va_D A [(h, .inr (3, [.ref hti, .ref hto, .ref hnu, .ref hsp, .ref hsq, .ref hsm, .long lv])), (hti, .inr (0, [.ref ati, .int (nI n)])), (ati, .inl (cB, 65536, .inl ft)), (hto, .inr (1, [.ref ato, .int (nI st)])), (ato, .inl (cB, 65536, .inl fx)), (hnu, .inr (2, [.ref anu, .int (nI uN)])), (anu, .inl (cI, 2048, .inl fN)), (hsp, .inr (2, [.ref asp, .int (nI us)])), (asp, .inl (cI, 2048, .inl fs)), (hsq, .inr (2, [.ref asq, .int (nI uq)])), (asq, .inl (cI, 2048, .inl fq)), (hsm, .inr (2, [.ref asm, .int (nI u2)])), (asm, .inl (cI, 2, .inl f2))] := hD
              obtain ⟨b1, b2, b3⟩ := hb9
              dsimp only at b1 b2 b3
              refine lv_aload_n hx hb dX3_show_83 rfl (lv_at hl 2 rfl) ?_
              refine va_get (D := D) (ci := 3) (C := RX3) (T := TX3) (N := 7) (v := .ref hto) hx hb hts kin_X3_w hown hK hP 0 rfl rfl 1 (by decide) (hts _ kfl_X3_19) (fun _ h9 => h9) rfl dX3_show_84 ?_
              refine lv_aload_n hx hb dX3_show_87 rfl (lv_at hl 2 rfl) ?_
              refine va_get (D := D) (ci := 3) (C := RX3) (T := TX3) (N := 7) (v := .ref hsm) hx hb hts kin_X3_w hown hK hP 0 rfl rfl 5 (by decide) (hts _ kfl_X3_38) (fun _ h9 => h9) rfl dX3_show_88 ?_
              refine lv_iload hx hb dX3_show_91 (lv_at hl 5 rfl) ?_
              refine dm_gov (wr := [(h, .inr (3, [.ref hti, .ref hto, .ref hnu, .ref hsp, .ref hsq, .ref hsm, .long lv])), (hti, .inr (0, [.ref ati, .int (nI n)])), (ati, .inl (cB, 65536, .inl ft)), (hnu, .inr (2, [.ref anu, .int (nI uN)])), (anu, .inl (cI, 2048, .inl fN)), (hsp, .inr (2, [.ref asp, .int (nI us)])), (asp, .inl (cI, 2048, .inl fs)), (hsq, .inr (2, [.ref asq, .int (nI uq)])), (asq, .inl (cI, 2048, .inl fq))]) (dm_rVN (n := 2) (As := [.ref hsm, .int (nI r)]) (rest := []) hC hl (c_X1_becomeDigitsOf l D cB cI cC hto ato hsm asm 2 st u2 r fx f2 b1 (by decide) b3 hr2 hr36 (by rw [b2]; exact pow64 hr2 hmgl) H.size) kco_X1_becomeDigitsOf ki_X1 kim_X1_becomeDigitsOf kse_X1_becomeDigitsOf knl_X3_68 (by decide +kernel) ⟨Nat.le_of_ble_eq_true rfl, Nat.le_of_ble_eq_true rfl⟩ rfl rfl ⟨dm_blind, va_recv hK hP (ci := 1) (q0 := 3) rfl rfl, dm_preU hK hP hD hC.2.2.2.2.2.2.2 [3, 4, 11, 12] (by decide) rfl⟩ rfl rfl (Nat.le_of_ble_eq_true rfl) dX3_show_93 ⟨Nat.le_of_ble_eq_true rfl, Nat.le_of_ble_eq_true rfl⟩) hP hD hS hA [3, 4, 11, 12] [0, 1, 2, 5, 6, 7, 8, 9, 10] rfl rfl (by decide) (by decide) (fun q H locs hw9 hP hD hS => ?_)
              obtain ⟨F2, s2, G2, U2⟩ := q
              have hP : va_P D vwCl [(h, .inr (3, [.ref hti, .ref hto, .ref hnu, .ref hsp, .ref hsq, .ref hsm, .long lv])), (hti, .inr (0, [.ref ati, .int (nI n)])), (ati, .inl (cB, 65536, .inl ft)), (hnu, .inr (2, [.ref anu, .int (nI uN)])), (anu, .inl (cI, 2048, .inl fN)), (hsp, .inr (2, [.ref asp, .int (nI us)])), (asp, .inl (cI, 2048, .inl fs)), (hsq, .inr (2, [.ref asq, .int (nI uq)])), (asq, .inl (cI, 2048, .inl fq)), (hto, .inr (1, [.ref ato, .int (nI s2)])), (ato, .inl (cB, 65536, .inl F2)), (hsm, .inr (2, [.ref asm, .int (nI U2)])), (asm, .inl (cI, 2, .inl G2))] H := hP
              have hD : va_D A [(h, .inr (3, [.ref hti, .ref hto, .ref hnu, .ref hsp, .ref hsq, .ref hsm, .long lv])), (hti, .inr (0, [.ref ati, .int (nI n)])), (ati, .inl (cB, 65536, .inl ft)), (hnu, .inr (2, [.ref anu, .int (nI uN)])), (anu, .inl (cI, 2048, .inl fN)), (hsp, .inr (2, [.ref asp, .int (nI us)])), (asp, .inl (cI, 2048, .inl fs)), (hsq, .inr (2, [.ref asq, .int (nI uq)])), (asq, .inl (cI, 2048, .inl fq)), (hto, .inr (1, [.ref ato, .int (nI s2)])), (ato, .inl (cB, 65536, .inl F2)), (hsm, .inr (2, [.ref asm, .int (nI U2)])), (asm, .inl (cI, 2, .inl G2))] := hD
              have hP := hP.sub (ws' := [(h, .inr (3, [.ref hti, .ref hto, .ref hnu, .ref hsp, .ref hsq, .ref hsm, .long lv])), (hti, .inr (0, [.ref ati, .int (nI n)])), (ati, .inl (cB, 65536, .inl ft)), (hto, .inr (1, [.ref ato, .int (nI s2)])), (ato, .inl (cB, 65536, .inl F2)), (hnu, .inr (2, [.ref anu, .int (nI uN)])), (anu, .inl (cI, 2048, .inl fN)), (hsp, .inr (2, [.ref asp, .int (nI us)])), (asp, .inl (cI, 2048, .inl fs)), (hsq, .inr (2, [.ref asq, .int (nI uq)])), (asq, .inl (cI, 2048, .inl fq)), (hsm, .inr (2, [.ref asm, .int (nI U2)])), (asm, .inl (cI, 2, .inl G2))]) [0, 1, 2, 9, 10, 3, 4, 5, 6, 7, 8, 11, 12] rfl
              have hD := hD.sub (ws' := [(h, .inr (3, [.ref hti, .ref hto, .ref hnu, .ref hsp, .ref hsq, .ref hsm, .long lv])), (hti, .inr (0, [.ref ati, .int (nI n)])), (ati, .inl (cB, 65536, .inl ft)), (hto, .inr (1, [.ref ato, .int (nI s2)])), (ato, .inl (cB, 65536, .inl F2)), (hnu, .inr (2, [.ref anu, .int (nI uN)])), (anu, .inl (cI, 2048, .inl fN)), (hsp, .inr (2, [.ref asp, .int (nI us)])), (asp, .inl (cI, 2048, .inl fs)), (hsq, .inr (2, [.ref asq, .int (nI uq)])), (asq, .inl (cI, 2048, .inl fq)), (hsm, .inr (2, [.ref asm, .int (nI U2)])), (asm, .inl (cI, 2, .inl G2))]) [0, 1, 2, 9, 10, 3, 4, 5, 6, 7, 8, 11, 12] (by decide) rfl
              obtain ⟨w1, w2, w3, w4⟩ := hw9
              dsimp only at w1 w2 w3 w4
              rw [b2] at w3 w4
              have hc64 := isND_64 hr2 hmgl w3
              refine lv_iload hx hb dX3_show_96 (lv_at hl 0 rfl) ?_
              refine dm_if_eq (tgt := 110) hx hb (by omega) dX3_show_98 (by decide) (fun hk => ?_) (fun hk => ?_)
              · refine lv_aload_n hx hb dX3_show_110 rfl (lv_at hl 2 rfl) ?_
                refine va_get (D := D) (ci := 3) (C := RX3) (T := TX3) (N := 7) (v := .ref hto) hx hb hts kin_X3_w hown hK hP 0 rfl rfl 1 (by decide) (hts _ kfl_X3_19) (fun _ h9 => h9) rfl dX3_show_111 ?_
                refine dm_gori (dm_rVN (n := 0) (As := []) (rest := []) hC hl (c_X1_size l D cB cI cC hto ato s2 F2 w1 H.size) kco_X1_size ki_X1 kim_X1_size kse_X1_size knl_X3_72 (by decide +kernel) ⟨Nat.le_of_ble_eq_true rfl, Nat.le_of_ble_eq_true rfl⟩ rfl rfl ⟨dm_blind, va_recv hK hP (ci := 1) (q0 := 3) rfl rfl, dm_preU hK hP hD hC.2.2.2.2.2.2.2 [3, 4] (by decide) rfl⟩ rfl rfl (Nat.le_of_ble_eq_true rfl) dX3_show_114 ⟨Nat.le_of_ble_eq_true rfl, Nat.le_of_ble_eq_true rfl⟩) (fun r9 e9 => ?_)
                refine dm_iret hC hK (F2, s2, G2, U2) ⟨w1, Or.inr ⟨hwd, r, 65536 - s2, hr2, hr36, rfl, w3, by show 65536 - s2 = _; rw [hng]; omega, e9, fun i hi => ?_⟩⟩ hP hD hS dX3_show_117
                have hi : i < 65536 - s2 := hi
                show F2 (65535 - i) = nI (outG r mg (65536 - s2) i)
                unfold outG
                rw [if_pos hi]; exact w4 i hi
              · omega
            · omega
          · have hsvl : sv < 9223372036854775808 := by omega
            refine lv_lload hx hb dX3_show_49 (lv_at hl 0 rfl) ?_
            refine lv_lconst (v := lN 0) hx hb dX3_show_51 (by decide) ?_
            refine dm_lc_ge (tgt := 60) hx hb (by omega) (by omega) dX3_show_52 dX3_show_53 (by decide) (fun hs2 => ?_) (fun hs2 => ?_)
            · refine lv_iconst (v := nI 0) hx hb dX3_show_60 (by decide) ?_
              refine lv_istore (lv' := [(8, .int (nI 0)), (6, .long (lN sv)), (0, .ref h), (1, .long (lN xv)), (3, .int wd), (4, .int (nI r)), (5, .int (nI sg))]) hx hb dX3_show_61 hl (by decide) rfl (fun ls hl => ?_)
              refine lv_aload_n hx hb dX3_show_63 rfl (lv_at hl 2 rfl) ?_
              refine va_get (D := D) (ci := 3) (C := RX3) (T := TX3) (N := 7) (v := .ref hsm) hx hb hts kin_X3_w hown hK hP 0 rfl rfl 5 (by decide) (hts _ kfl_X3_38) (fun _ h9 => h9) rfl dX3_show_64 ?_
              refine lv_iload hx hb dX3_show_67 (lv_at hl 0 rfl) ?_
              refine dm_if_eq (tgt := 78) hx hb (by omega) dX3_show_69 (by decide) (fun hg => ?_) (fun hg => ?_)
              · refine lv_lload hx hb dX3_show_78 (lv_at hl 1 rfl) ?_
                refine dm_tl (y := lN mg) (by rw [hmg]) ?_
                refine dm_gov (wr := [(h, .inr (3, [.ref hti, .ref hto, .ref hnu, .ref hsp, .ref hsq, .ref hsm, .long lv])), (hti, .inr (0, [.ref ati, .int (nI n)])), (ati, .inl (cB, 65536, .inl ft)), (hto, .inr (1, [.ref ato, .int (nI st)])), (ato, .inl (cB, 65536, .inl fx)), (hnu, .inr (2, [.ref anu, .int (nI uN)])), (anu, .inl (cI, 2048, .inl fN)), (hsp, .inr (2, [.ref asp, .int (nI us)])), (asp, .inl (cI, 2048, .inl fs)), (hsq, .inr (2, [.ref asq, .int (nI uq)])), (asq, .inl (cI, 2048, .inl fq))]) (dm_rVN (n := 1) (As := [.long (lN mg)]) (rest := []) hC hl (c_X2_becomeLong l D cB cI cC hsm asm 2 um mg fm (by decide) (by decide) hmgl s.heap.size) kco_X2_becomeLong ki_X2 kim_X2_becomeLong kse_X2_becomeLong knl_X3_93 (by decide +kernel) ⟨Nat.le_of_ble_eq_true rfl, Nat.le_of_ble_eq_true rfl⟩ rfl rfl ⟨dm_blind, va_recv hK hP (ci := 2) (q0 := 11) rfl rfl, dm_preU hK hP hD hC.2.2.2.2.2.2.2 [11, 12] (by decide) rfl⟩ rfl rfl (Nat.le_of_ble_eq_true rfl) dX3_show_80 ⟨Nat.le_of_ble_eq_true rfl, Nat.le_of_ble_eq_true rfl⟩) hP hD hS hA [11, 12] [0, 1, 2, 3, 4, 5, 6, 7, 8, 9, 10] rfl rfl (by decide) (by decide) (fun q H locs hb9 hP hD hS => ?_)
                obtain ⟨f2, u2⟩ := q
                have hP : va_P D vwCl [(h, .inr (3, [.ref hti, .ref hto, .ref hnu, .ref hsp, .ref hsq, .ref hsm, .long lv])), (hti, .inr (0, [.ref ati, .int (nI n)])), (ati, .inl (cB, 65536, .inl ft)), (hto, .inr (1, [.ref ato, .int (nI st)])), (ato, .inl (cB, 65536, .inl fx)), (hnu, .inr (2, [.ref anu, .int (nI uN)])), (anu, .inl (cI, 2048, .inl fN)), (hsp, .inr (2, [.ref asp, .int (nI us)])), (asp, .inl (cI, 2048, .inl fs)), (hsq, .inr (2, [.ref asq, .int (nI uq)])), (asq, .inl (cI, 2048, .inl fq)), (hsm, .inr (2, [.ref asm, .int (nI u2)])), (asm, .inl (cI, 2, .inl f2))] H := hP
                have hD : va_D A [(h, .inr (3, [.ref hti, .ref hto, .ref hnu, .ref hsp, .ref hsq, .ref hsm, .long lv])), (hti, .inr (0, [.ref ati, .int (nI n)])), (ati, .inl (cB, 65536, .inl ft)), (hto, .inr (1, [.ref ato, .int (nI st)])), (ato, .inl (cB, 65536, .inl fx)), (hnu, .inr (2, [.ref anu, .int (nI uN)])), (anu, .inl (cI, 2048, .inl fN)), (hsp, .inr (2, [.ref asp, .int (nI us)])), (asp, .inl (cI, 2048, .inl fs)), (hsq, .inr (2, [.ref asq, .int (nI uq)])), (asq, .inl (cI, 2048, .inl fq)), (hsm, .inr (2, [.ref asm, .int (nI u2)])), (asm, .inl (cI, 2, .inl f2))] := hD
                obtain ⟨b1, b2, b3⟩ := hb9
                dsimp only at b1 b2 b3
                refine lv_aload_n hx hb dX3_show_83 rfl (lv_at hl 2 rfl) ?_
                refine va_get (D := D) (ci := 3) (C := RX3) (T := TX3) (N := 7) (v := .ref hto) hx hb hts kin_X3_w hown hK hP 0 rfl rfl 1 (by decide) (hts _ kfl_X3_19) (fun _ h9 => h9) rfl dX3_show_84 ?_
                refine lv_aload_n hx hb dX3_show_87 rfl (lv_at hl 2 rfl) ?_
                refine va_get (D := D) (ci := 3) (C := RX3) (T := TX3) (N := 7) (v := .ref hsm) hx hb hts kin_X3_w hown hK hP 0 rfl rfl 5 (by decide) (hts _ kfl_X3_38) (fun _ h9 => h9) rfl dX3_show_88 ?_
                refine lv_iload hx hb dX3_show_91 (lv_at hl 5 rfl) ?_
                refine dm_gov (wr := [(h, .inr (3, [.ref hti, .ref hto, .ref hnu, .ref hsp, .ref hsq, .ref hsm, .long lv])), (hti, .inr (0, [.ref ati, .int (nI n)])), (ati, .inl (cB, 65536, .inl ft)), (hnu, .inr (2, [.ref anu, .int (nI uN)])), (anu, .inl (cI, 2048, .inl fN)), (hsp, .inr (2, [.ref asp, .int (nI us)])), (asp, .inl (cI, 2048, .inl fs)), (hsq, .inr (2, [.ref asq, .int (nI uq)])), (asq, .inl (cI, 2048, .inl fq))]) (dm_rVN (n := 2) (As := [.ref hsm, .int (nI r)]) (rest := []) hC hl (c_X1_becomeDigitsOf l D cB cI cC hto ato hsm asm 2 st u2 r fx f2 b1 (by decide) b3 hr2 hr36 (by rw [b2]; exact pow64 hr2 hmgl) H.size) kco_X1_becomeDigitsOf ki_X1 kim_X1_becomeDigitsOf kse_X1_becomeDigitsOf knl_X3_68 (by decide +kernel) ⟨Nat.le_of_ble_eq_true rfl, Nat.le_of_ble_eq_true rfl⟩ rfl rfl ⟨dm_blind, va_recv hK hP (ci := 1) (q0 := 3) rfl rfl, dm_preU hK hP hD hC.2.2.2.2.2.2.2 [3, 4, 11, 12] (by decide) rfl⟩ rfl rfl (Nat.le_of_ble_eq_true rfl) dX3_show_93 ⟨Nat.le_of_ble_eq_true rfl, Nat.le_of_ble_eq_true rfl⟩) hP hD hS hA [3, 4, 11, 12] [0, 1, 2, 5, 6, 7, 8, 9, 10] rfl rfl (by decide) (by decide) (fun q H locs hw9 hP hD hS => ?_)
                obtain ⟨F2, s2, G2, U2⟩ := q
                have hP : va_P D vwCl [(h, .inr (3, [.ref hti, .ref hto, .ref hnu, .ref hsp, .ref hsq, .ref hsm, .long lv])), (hti, .inr (0, [.ref ati, .int (nI n)])), (ati, .inl (cB, 65536, .inl ft)), (hnu, .inr (2, [.ref anu, .int (nI uN)])), (anu, .inl (cI, 2048, .inl fN)), (hsp, .inr (2, [.ref asp, .int (nI us)])), (asp, .inl (cI, 2048, .inl fs)), (hsq, .inr (2, [.ref asq, .int (nI uq)])), (asq, .inl (cI, 2048, .inl fq)), (hto, .inr (1, [.ref ato, .int (nI s2)])), (ato, .inl (cB, 65536, .inl F2)), (hsm, .inr (2, [.ref asm, .int (nI U2)])), (asm, .inl (cI, 2, .inl G2))] H := hP
                have hD : va_D A [(h, .inr (3, [.ref hti, .ref hto, .ref hnu, .ref hsp, .ref hsq, .ref hsm, .long lv])), (hti, .inr (0, [.ref ati, .int (nI n)])), (ati, .inl (cB, 65536, .inl ft)), (hnu, .inr (2, [.ref anu, .int (nI uN)])), (anu, .inl (cI, 2048, .inl fN)), (hsp, .inr (2, [.ref asp, .int (nI us)])), (asp, .inl (cI, 2048, .inl fs)), (hsq, .inr (2, [.ref asq, .int (nI uq)])), (asq, .inl (cI, 2048, .inl fq)), (hto, .inr (1, [.ref ato, .int (nI s2)])), (ato, .inl (cB, 65536, .inl F2)), (hsm, .inr (2, [.ref asm, .int (nI U2)])), (asm, .inl (cI, 2, .inl G2))] := hD
                have hP := hP.sub (ws' := [(h, .inr (3, [.ref hti, .ref hto, .ref hnu, .ref hsp, .ref hsq, .ref hsm, .long lv])), (hti, .inr (0, [.ref ati, .int (nI n)])), (ati, .inl (cB, 65536, .inl ft)), (hto, .inr (1, [.ref ato, .int (nI s2)])), (ato, .inl (cB, 65536, .inl F2)), (hnu, .inr (2, [.ref anu, .int (nI uN)])), (anu, .inl (cI, 2048, .inl fN)), (hsp, .inr (2, [.ref asp, .int (nI us)])), (asp, .inl (cI, 2048, .inl fs)), (hsq, .inr (2, [.ref asq, .int (nI uq)])), (asq, .inl (cI, 2048, .inl fq)), (hsm, .inr (2, [.ref asm, .int (nI U2)])), (asm, .inl (cI, 2, .inl G2))]) [0, 1, 2, 9, 10, 3, 4, 5, 6, 7, 8, 11, 12] rfl
                have hD := hD.sub (ws' := [(h, .inr (3, [.ref hti, .ref hto, .ref hnu, .ref hsp, .ref hsq, .ref hsm, .long lv])), (hti, .inr (0, [.ref ati, .int (nI n)])), (ati, .inl (cB, 65536, .inl ft)), (hto, .inr (1, [.ref ato, .int (nI s2)])), (ato, .inl (cB, 65536, .inl F2)), (hnu, .inr (2, [.ref anu, .int (nI uN)])), (anu, .inl (cI, 2048, .inl fN)), (hsp, .inr (2, [.ref asp, .int (nI us)])), (asp, .inl (cI, 2048, .inl fs)), (hsq, .inr (2, [.ref asq, .int (nI uq)])), (asq, .inl (cI, 2048, .inl fq)), (hsm, .inr (2, [.ref asm, .int (nI U2)])), (asm, .inl (cI, 2, .inl G2))]) [0, 1, 2, 9, 10, 3, 4, 5, 6, 7, 8, 11, 12] (by decide) rfl
                obtain ⟨w1, w2, w3, w4⟩ := hw9
                dsimp only at w1 w2 w3 w4
                rw [b2] at w3 w4
                have hc64 := isND_64 hr2 hmgl w3
                refine lv_iload hx hb dX3_show_96 (lv_at hl 0 rfl) ?_
                refine dm_if_eq (tgt := 110) hx hb (by omega) dX3_show_98 (by decide) (fun hk => ?_) (fun hk => ?_)
                · refine lv_aload_n hx hb dX3_show_110 rfl (lv_at hl 2 rfl) ?_
                  refine va_get (D := D) (ci := 3) (C := RX3) (T := TX3) (N := 7) (v := .ref hto) hx hb hts kin_X3_w hown hK hP 0 rfl rfl 1 (by decide) (hts _ kfl_X3_19) (fun _ h9 => h9) rfl dX3_show_111 ?_
                  refine dm_gori (dm_rVN (n := 0) (As := []) (rest := []) hC hl (c_X1_size l D cB cI cC hto ato s2 F2 w1 H.size) kco_X1_size ki_X1 kim_X1_size kse_X1_size knl_X3_72 (by decide +kernel) ⟨Nat.le_of_ble_eq_true rfl, Nat.le_of_ble_eq_true rfl⟩ rfl rfl ⟨dm_blind, va_recv hK hP (ci := 1) (q0 := 3) rfl rfl, dm_preU hK hP hD hC.2.2.2.2.2.2.2 [3, 4] (by decide) rfl⟩ rfl rfl (Nat.le_of_ble_eq_true rfl) dX3_show_114 ⟨Nat.le_of_ble_eq_true rfl, Nat.le_of_ble_eq_true rfl⟩) (fun r9 e9 => ?_)
                  refine dm_iret hC hK (F2, s2, G2, U2) ⟨w1, Or.inr ⟨hwd, r, 65536 - s2, hr2, hr36, rfl, w3, by show 65536 - s2 = _; rw [hng]; omega, e9, fun i hi => ?_⟩⟩ hP hD hS dX3_show_117
                  have hi : i < 65536 - s2 := hi
                  show F2 (65535 - i) = nI (outG r mg (65536 - s2) i)
                  unfold outG
                  rw [if_pos hi]; exact w4 i hi
                · omega
              · omega
            · exact absurd hs2 (Nat.not_lt_zero _)
    · refine lv_iconst (v := -1) hx hb dX3_show_15 (by decide) ?_
      exact dm_iret hC hK (fx, st, fm, um) ⟨hst, Or.inl ⟨fun h9 => (e2.resolve_left (fun h8 => absurd (hd.symm.trans h8.2) (by decide))).1 h9.2, rfl, rfl, rfl⟩⟩ hP hD hS dX3_show_16
