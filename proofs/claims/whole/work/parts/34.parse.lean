/-! what parse answers -/
def pmn (sg n : Nat) (T : Nat → Nat) : Nat := if sg = 1 ∧ 0 < n ∧ T 0 = 45 then 1 else 0
def pfr (sg n : Nat) (T : Nat → Nat) : Nat := if pmn sg n T = 1 ∨ (0 < n ∧ T 0 = 43) then 1 else 0
def pfit (wn sg mi V : Nat) : Prop := V < 2 ^ (if sg = 1 then wn - 1 else wn) ∨ (mi = 1 ∧ V = 2 ^ (wn - 1))
def pgood (r sg n : Nat) (T : Nat → Nat) : Prop := pfr sg n T < n ∧ fo r T (pfr sg n T) (n - pfr sg n T) = n
def pval (r sg n : Nat) (T : Nat → Nat) : Nat := hn r T (pfr sg n T) (n - pfr sg n T)
theorem lN_inj64 {a b : Nat} (ha : a < 18446744073709551616) (hb : b < 18446744073709551616) : lN a = lN b ↔ a = b := by
  constructor
  · intro h
    have h1 := congrArg (fun z => (Int64.toBitVec z).toNat) h
    have h2 : (lN a).toBitVec.toNat = (lN b).toBitVec.toNat := h1
    rw [wb_tn ha, wb_tn hb] at h2
    exact h2
  · intro h; rw [h]

set_option maxRecDepth 100000 in
set_option maxHeartbeats 4000000 in
theorem c_X3_smallHasWidth (l : Launch) (D : va_G) (cB cI cC : ClassId) (h hti ati hto ato hnu anu hsp asp hsq asq hsm asm n st uN us uq um : Nat) (ft fx fN fs fq fm : Nat → Int32) (lv : Int64) (wn sg mi : Nat) (hwn : wn = 32 ∨ wn = 64) (hsg : sg < 2) (hmi : mi < 2) (hum : um ≤ 2) (hnm : nrm fm um) : ROi l yX3_smallHasWidth (Cond.code yX3_smallHasWidth cX3_smallHasWidth 4 (some .boolean)) 2 D (TY cB cI cC) [.ref h, .int (nI wn), .int (nI sg), .int (nI mi)] [(h, .inr (3, [.ref hti, .ref hto, .ref hnu, .ref hsp, .ref hsq, .ref hsm, .long lv])), (hti, .inr (0, [.ref ati, .int (nI n)])), (ati, .inl (cB, 65536, .inl ft)), (hto, .inr (1, [.ref ato, .int (nI st)])), (ato, .inl (cB, 65536, .inl fx)), (hnu, .inr (2, [.ref anu, .int (nI uN)])), (anu, .inl (cI, 2048, .inl fN)), (hsp, .inr (2, [.ref asp, .int (nI us)])), (asp, .inl (cI, 2048, .inl fs)), (hsq, .inr (2, [.ref asq, .int (nI uq)])), (asq, .inl (cI, 2048, .inl fq)), (hsm, .inr (2, [.ref asm, .int (nI um)])), (asm, .inl (cI, 2, .inl fm))] (fun b => (pfit wn sg mi (dvb 4294967296 fm um) ∧ b = 1) ∨ (¬ pfit wn sg mi (dvb 4294967296 fm um) ∧ b = 0)) := by
  refine ROi.of (by decide) (Nat.le_of_ble_eq_true rfl) ?_
  intro p e s m below meth c ls A hC hA hP hK hD hS hl
  obtain ⟨hx, hb, hr, hml, hown, hts, hlocks, hN⟩ := id hC
  have hown : s.vm.findClass RX3 = some m.cls := hown
  have hl : lv_has ls 4 [(0, .ref h), (1, .int (nI wn)), (2, .int (nI sg)), (3, .int (nI mi))] := hl
  have hVl : dvb 4294967296 fm um < 18446744073709551616 := Nat.lt_of_lt_of_le (dv32_lt fm um) (show 4294967296 ^ um ≤ 4294967296 ^ 2 from Nat.pow_le_pow_right (by decide) hum)
  refine lv_aload_n hx hb dX3_smallHasWidth_0 rfl (lv_at hl 0 rfl) ?_
  refine va_get (D := D) (ci := 3) (C := RX3) (T := TX3) (N := 7) (v := .ref hsm) hx hb hts kin_X3_w hown hK hP 0 rfl rfl 5 (by decide) (hts _ kfl_X3_38) (fun _ h9 => h9) rfl dX3_smallHasWidth_1 ?_
  refine dm_gori (dm_rVN (n := 0) (As := []) (rest := []) hC hl (c_X2_countBits l D cB cI cC hsm asm 2 um fm hum (by decide) hnm s.heap.size) kco_X2_countBits ki_X2 kim_X2_countBits kse_X2_countBits knl_X3_107 (by decide +kernel) ⟨Nat.le_of_ble_eq_true rfl, Nat.le_of_ble_eq_true rfl⟩ rfl rfl ⟨dm_blind, va_recv hK hP (ci := 2) (q0 := 11) rfl rfl, dm_preU hK hP hD hC.2.2.2.2.2.2.2 [11, 12] (by decide) rfl⟩ rfl rfl (Nat.le_of_ble_eq_true rfl) dX3_smallHasWidth_4 ⟨Nat.le_of_ble_eq_true rfl, Nat.le_of_ble_eq_true rfl⟩) (fun r1 e1 => ?_)
  subst e1
  obtain ⟨V, hV⟩ : ∃ z, z = dvb 4294967296 fm um := ⟨_, rfl⟩
  rw [← hV] at hVl ⊢
  have hblV : bl V ≤ 64 := bl_le.mpr hVl
  refine lv_iload_n hx hb dX3_smallHasWidth_7 rfl (lv_at hl 2 rfl) ?_
  refine dm_if_eq (tgt := 17) hx hb (by omega) dX3_smallHasWidth_8 (by decide) (fun hs => ?_) (fun hs => ?_)
  · refine lv_iload_n hx hb dX3_smallHasWidth_17 rfl (lv_at hl 1 rfl) ?_
    refine dm_icmp_gt (tgt := 23) hx hb (by omega) (by omega) dX3_smallHasWidth_18 (by decide) (fun hd => ?_) (fun hd => ?_)
    · refine lv_iload_n hx hb dX3_smallHasWidth_23 rfl (lv_at hl 3 rfl) ?_
      refine dm_if_eq (tgt := 47) hx hb (by omega) dX3_smallHasWidth_24 (by decide) (fun hm => ?_) (fun hm => ?_)
      · refine lv_iconst (v := nI 0) hx hb dX3_smallHasWidth_47 (by decide) ?_
        exact ri_zret hC (Or.inl rfl) (Or.inr ⟨fun h9 => h9.elim (fun h8 => absurd (bl_le.mpr h8) (by rw [if_neg (show ¬ sg = 1 by omega)]; omega)) (fun h8 => by omega), rfl⟩) dX3_smallHasWidth_48
      · refine lv_aload_n hx hb dX3_smallHasWidth_27 rfl (lv_at hl 0 rfl) ?_
        refine va_get (D := D) (ci := 3) (C := RX3) (T := TX3) (N := 7) (v := .ref hsm) hx hb hts kin_X3_w hown hK hP 0 rfl rfl 5 (by decide) (hts _ kfl_X3_38) (fun _ h9 => h9) rfl dX3_smallHasWidth_28 ?_
        refine dm_gorl (dm_rVN (n := 0) (As := []) (rest := []) hC hl (c_X2_lowLong l D cB cI cC hsm asm 2 um fm hum hum (by decide) s.heap.size) kco_X2_lowLong ki_X2 kim_X2_lowLong kse_X2_lowLong knl_X3_126 (by decide +kernel) ⟨Nat.le_of_ble_eq_true rfl, Nat.le_of_ble_eq_true rfl⟩ rfl rfl ⟨dm_blind, va_recv hK hP (ci := 2) (q0 := 11) rfl rfl, dm_preU hK hP hD hC.2.2.2.2.2.2.2 [11, 12] (by decide) rfl⟩ rfl rfl (Nat.le_of_ble_eq_true rfl) dX3_smallHasWidth_31 ⟨Nat.le_of_ble_eq_true rfl, Nat.le_of_ble_eq_true rfl⟩) (fun r2 e2 => ?_)
        rw [← hV] at e2
        subst e2
        have hp63 : 2 ^ (wn - 1) < 18446744073709551616 := by rcases hwn with rfl | rfl <;> decide
        refine lv_lconst (v := lN 1) hx hb dX3_smallHasWidth_34 (by decide) ?_
        refine lv_iload_n hx hb dX3_smallHasWidth_35 rfl (lv_at hl 1 rfl) ?_
        refine lv_iconst (v := nI 1) hx hb dX3_smallHasWidth_36 (by decide) ?_
        refine lv_isub hx hb dX3_smallHasWidth_37 ?_
        refine dm_ti (y := nI (wn - 1)) (pk_sub (by omega)) ?_
        refine lv_lshl (v := lN (1 * 2 ^ (wn - 1))) hx hb dX3_smallHasWidth_38 (wb_shl 1 (k := wn - 1) (by omega)) ?_
        refine W.lcmp hx hb dX3_smallHasWidth_39 ?_
        refine dm_ti (y := lg_cmp (lN V) (lN (1 * 2 ^ (wn - 1)))) (rfl) ?_
        refine lv_if_ne (tgt := 47) hx hb dX3_smallHasWidth_40 (by decide) (fun he => ?_) (fun he => ?_)
        · refine lv_iconst (v := nI 0) hx hb dX3_smallHasWidth_47 (by decide) ?_
          exact ri_zret hC (Or.inl rfl) (Or.inr ⟨fun h9 => h9.elim (fun h8 => absurd (bl_le.mpr h8) (by rw [if_neg (show ¬ sg = 1 by omega)]; omega)) (fun h8 => he ((lg_cmp_eq _ _).mpr (by rw [Nat.one_mul]; exact (lN_inj64 hVl hp63).mpr h8.2))), rfl⟩) dX3_smallHasWidth_48
        · have he2 := (lg_cmp_eq _ _).mp he
          rw [Nat.one_mul] at he2
          refine lv_iconst (v := nI 1) hx hb dX3_smallHasWidth_43 (by decide) ?_
          refine lv_goto (tgt := 48) hx hb dX3_smallHasWidth_44 (by decide) ?_
          exact ri_zret hC (Or.inr rfl) (Or.inl ⟨Or.inr ⟨by omega, (lN_inj64 hVl hp63).mp he2⟩, rfl⟩) dX3_smallHasWidth_48
    · refine lv_iconst (v := nI 1) hx hb dX3_smallHasWidth_21 (by decide) ?_
      exact ri_zret hC (Or.inr rfl) (Or.inl ⟨Or.inl (by rw [if_neg (show ¬ sg = 1 by omega)]; exact bl_le.mp hd), rfl⟩) dX3_smallHasWidth_22
  · refine lv_iload_n hx hb dX3_smallHasWidth_11 rfl (lv_at hl 1 rfl) ?_
    refine lv_iconst (v := nI 1) hx hb dX3_smallHasWidth_12 (by decide) ?_
    refine lv_isub hx hb dX3_smallHasWidth_13 ?_
    refine dm_ti (y := nI (wn - 1)) (pk_sub (by omega)) ?_
    refine lv_goto (tgt := 18) hx hb dX3_smallHasWidth_14 (by decide) ?_
    refine dm_icmp_gt (tgt := 23) hx hb (by omega) (by omega) dX3_smallHasWidth_18 (by decide) (fun hd => ?_) (fun hd => ?_)
    · refine lv_iload_n hx hb dX3_smallHasWidth_23 rfl (lv_at hl 3 rfl) ?_
      refine dm_if_eq (tgt := 47) hx hb (by omega) dX3_smallHasWidth_24 (by decide) (fun hm => ?_) (fun hm => ?_)
      · refine lv_iconst (v := nI 0) hx hb dX3_smallHasWidth_47 (by decide) ?_
        exact ri_zret hC (Or.inl rfl) (Or.inr ⟨fun h9 => h9.elim (fun h8 => absurd (bl_le.mpr h8) (by rw [if_pos (show sg = 1 by omega)]; omega)) (fun h8 => by omega), rfl⟩) dX3_smallHasWidth_48
      · refine lv_aload_n hx hb dX3_smallHasWidth_27 rfl (lv_at hl 0 rfl) ?_
        refine va_get (D := D) (ci := 3) (C := RX3) (T := TX3) (N := 7) (v := .ref hsm) hx hb hts kin_X3_w hown hK hP 0 rfl rfl 5 (by decide) (hts _ kfl_X3_38) (fun _ h9 => h9) rfl dX3_smallHasWidth_28 ?_
        refine dm_gorl (dm_rVN (n := 0) (As := []) (rest := []) hC hl (c_X2_lowLong l D cB cI cC hsm asm 2 um fm hum hum (by decide) s.heap.size) kco_X2_lowLong ki_X2 kim_X2_lowLong kse_X2_lowLong knl_X3_126 (by decide +kernel) ⟨Nat.le_of_ble_eq_true rfl, Nat.le_of_ble_eq_true rfl⟩ rfl rfl ⟨dm_blind, va_recv hK hP (ci := 2) (q0 := 11) rfl rfl, dm_preU hK hP hD hC.2.2.2.2.2.2.2 [11, 12] (by decide) rfl⟩ rfl rfl (Nat.le_of_ble_eq_true rfl) dX3_smallHasWidth_31 ⟨Nat.le_of_ble_eq_true rfl, Nat.le_of_ble_eq_true rfl⟩) (fun r2 e2 => ?_)
        rw [← hV] at e2
        subst e2
        have hp63 : 2 ^ (wn - 1) < 18446744073709551616 := by rcases hwn with rfl | rfl <;> decide
        refine lv_lconst (v := lN 1) hx hb dX3_smallHasWidth_34 (by decide) ?_
        refine lv_iload_n hx hb dX3_smallHasWidth_35 rfl (lv_at hl 1 rfl) ?_
        refine lv_iconst (v := nI 1) hx hb dX3_smallHasWidth_36 (by decide) ?_
        refine lv_isub hx hb dX3_smallHasWidth_37 ?_
        refine dm_ti (y := nI (wn - 1)) (pk_sub (by omega)) ?_
        refine lv_lshl (v := lN (1 * 2 ^ (wn - 1))) hx hb dX3_smallHasWidth_38 (wb_shl 1 (k := wn - 1) (by omega)) ?_
        refine W.lcmp hx hb dX3_smallHasWidth_39 ?_
        refine dm_ti (y := lg_cmp (lN V) (lN (1 * 2 ^ (wn - 1)))) (rfl) ?_
        refine lv_if_ne (tgt := 47) hx hb dX3_smallHasWidth_40 (by decide) (fun he => ?_) (fun he => ?_)
        · refine lv_iconst (v := nI 0) hx hb dX3_smallHasWidth_47 (by decide) ?_
          exact ri_zret hC (Or.inl rfl) (Or.inr ⟨fun h9 => h9.elim (fun h8 => absurd (bl_le.mpr h8) (by rw [if_pos (show sg = 1 by omega)]; omega)) (fun h8 => he ((lg_cmp_eq _ _).mpr (by rw [Nat.one_mul]; exact (lN_inj64 hVl hp63).mpr h8.2))), rfl⟩) dX3_smallHasWidth_48
        · have he2 := (lg_cmp_eq _ _).mp he
          rw [Nat.one_mul] at he2
          refine lv_iconst (v := nI 1) hx hb dX3_smallHasWidth_43 (by decide) ?_
          refine lv_goto (tgt := 48) hx hb dX3_smallHasWidth_44 (by decide) ?_
          exact ri_zret hC (Or.inr rfl) (Or.inl ⟨Or.inr ⟨by omega, (lN_inj64 hVl hp63).mp he2⟩, rfl⟩) dX3_smallHasWidth_48
    · refine lv_iconst (v := nI 1) hx hb dX3_smallHasWidth_21 (by decide) ?_
      exact ri_zret hC (Or.inr rfl) (Or.inl ⟨Or.inl (by rw [if_pos (show sg = 1 by omega)]; exact bl_le.mp hd), rfl⟩) dX3_smallHasWidth_22

set_option maxRecDepth 100000 in
set_option maxHeartbeats 4000000 in
theorem c_X3_parseValue (l : Launch) (D : va_G) (cB cI cC : ClassId) (h hti ati hto ato hnu anu hsp asp hsq asq hsm asm n st uN us uq um : Nat) (ft fx fN fs fq fm : Nat → Int32) (lv : Int64) (wn r sg : Nat) (T : Nat → Nat) (hwn : wn = 32 ∨ wn = 64) (hr2 : 2 ≤ r) (hr36 : r ≤ 36) (hsg : sg < 2) (hn6 : n ≤ 65536) (htx : txt n T ft) : MI l yX3_parseValue (Cond.code yX3_parseValue cX3_parseValue 7 (some .int)) 3 D (TY cB cI cC) [.ref h, .int (nI wn), .int (nI r), .int (nI sg)] [(h, .inr (3, [.ref hti, .ref hto, .ref hnu, .ref hsp, .ref hsq, .ref hsm, .long lv])), (hti, .inr (0, [.ref ati, .int (nI n)])), (ati, .inl (cB, 65536, .inl ft)), (hto, .inr (1, [.ref ato, .int (nI st)])), (ato, .inl (cB, 65536, .inl fx)), (hnu, .inr (2, [.ref anu, .int (nI uN)])), (anu, .inl (cI, 2048, .inl fN)), (hsp, .inr (2, [.ref asp, .int (nI us)])), (asp, .inl (cI, 2048, .inl fs)), (hsq, .inr (2, [.ref asq, .int (nI uq)])), (asq, .inl (cI, 2048, .inl fq)), (hsm, .inr (2, [.ref asm, .int (nI um)])), (asm, .inl (cI, 2, .inl fm))] (S := (Nat → Int32) × Nat × Int64) (fun b q => (¬ pgood r sg n T ∧ b = nI 1 ∧ q.2.2 = lv) ∨ (pgood r sg n T ∧ ¬ pfit wn sg (pmn sg n T) (pval r sg n T) ∧ b = nI 2 ∧ q.2.2 = lv) ∨ (pgood r sg n T ∧ pfit wn sg (pmn sg n T) (pval r sg n T) ∧ b = nI 0 ∧ q.2.2 = if pmn sg n T = 1 then -(lN (pval r sg n T)) else lN (pval r sg n T))) (fun q => [(h, .inr (3, [.ref hti, .ref hto, .ref hnu, .ref hsp, .ref hsq, .ref hsm, .long q.2.2])), (hti, .inr (0, [.ref ati, .int (nI n)])), (ati, .inl (cB, 65536, .inl ft)), (hto, .inr (1, [.ref ato, .int (nI st)])), (ato, .inl (cB, 65536, .inl fx)), (hnu, .inr (2, [.ref anu, .int (nI uN)])), (anu, .inl (cI, 2048, .inl fN)), (hsp, .inr (2, [.ref asp, .int (nI us)])), (asp, .inl (cI, 2048, .inl fs)), (hsq, .inr (2, [.ref asq, .int (nI uq)])), (asq, .inl (cI, 2048, .inl fq)), (hsm, .inr (2, [.ref asm, .int (nI q.2.1)])), (asm, .inl (cI, 2, .inl q.1))]) := by
  refine MI.of (by decide) (Nat.le_of_ble_eq_true rfl) ?_
  intro p e s m below meth c ls A hC hA hP hK hD hS hl
  obtain ⟨hx, hb, hr, hml, hown, hts, hlocks, hN⟩ := id hC
  have hown : s.vm.findClass RX3 = some m.cls := hown
  have hl : lv_has ls 7 [(0, .ref h), (1, .int (nI wn)), (2, .int (nI r)), (3, .int (nI sg))] := hl
  refine lv_aload_n hx hb dX3_parseValue_0 rfl (lv_at hl 0 rfl) ?_
  refine va_get (D := D) (ci := 3) (C := RX3) (T := TX3) (N := 7) (v := .ref hti) hx hb hts kin_X3_w hown hK hP 0 rfl rfl 0 (by decide) (hts _ kfl_X3_10) (fun _ h9 => h9) rfl dX3_parseValue_1 ?_
  refine lv_iconst (v := nI 0) hx hb dX3_parseValue_4 (by decide) ?_
  refine dm_gori (dm_rVN (n := 1) (As := [.int (nI 0)]) (rest := []) hC hl (c_X0_codeAt l D cB cI cC hti ati n ft (nI 0) hn6 s.heap.size) kco_X0_codeAt ki_X0 kim_X0_codeAt kse_X0_codeAt knl_X3_121 (by decide +kernel) ⟨Nat.le_of_ble_eq_true rfl, Nat.le_of_ble_eq_true rfl⟩ rfl rfl ⟨dm_blind, va_recv hK hP (ci := 0) (q0 := 1) rfl rfl, dm_preU hK hP hD hC.2.2.2.2.2.2.2 [1, 2] (by decide) rfl⟩ rfl rfl (Nat.le_of_ble_eq_true rfl) dX3_parseValue_5 ⟨Nat.le_of_ble_eq_true rfl, Nat.le_of_ble_eq_true rfl⟩) (fun c1 hc1 => ?_)
  have hch : ∀ k, k < 128 → (c1 = nI k ↔ 0 < n ∧ T 0 = k) := by
    intro k hk
    rcases Nat.eq_zero_or_pos n with h0 | h0
    · have e1 := hc1.2 (fun j hj => absurd hj (by omega))
      rw [e1]
      constructor
      · intro h9; have h8 := congrArg un h9; rw [un_m1, un_nI (by omega)] at h8; omega
      · intro h9; omega
    · have h7 := htx 0 h0
      have e1 := (hc1.1 0 h0 rfl).trans h7.1
      rw [e1, nI_eq (by omega) (by omega)]
      exact ⟨fun h9 => ⟨h0, h9⟩, fun h9 => h9.2⟩
  have hmi2 : pmn sg n T < 2 := by unfold pmn; split <;> decide
  have hfr2 : pfr sg n T < 2 := by unfold pfr; split <;> decide
  refine lv_istore (lv' := [(4, .int c1), (0, .ref h), (1, .int (nI wn)), (2, .int (nI r)), (3, .int (nI sg))]) hx hb dX3_parseValue_8 hl (by decide) rfl (fun ls hl => ?_)
  refine dm_cutR (nL := 7) (σ := Unit) 28 (fun _ => True) (fun _ => [(5, .int (nI (pmn sg n T))), (4, .int c1), (0, .ref h), (1, .int (nI wn)), (2, .int (nI r)), (3, .int (nI sg))]) (fun hJ => ?_) ?_
  · refine lv_iload_n hx hb dX3_parseValue_10 rfl (lv_at hl 4 rfl) ?_
    refine dm_if_eq (tgt := 25) hx hb (by omega) dX3_parseValue_11 (by decide) (fun hs => ?_) (fun hs => ?_)
    · refine lv_iconst (v := nI 0) hx hb dX3_parseValue_25 (by decide) ?_
      refine dm_ti (y := nI (pmn sg n T)) (by unfold pmn; rw [if_neg (fun h9 => by omega)]) ?_
      refine lv_istore (lv' := [(5, .int (nI (pmn sg n T))), (4, .int c1), (0, .ref h), (1, .int (nI wn)), (2, .int (nI r)), (3, .int (nI sg))]) hx hb dX3_parseValue_26 hl (by decide) rfl (fun ls hl => ?_)
      exact hJ () ls trivial (lv_sub hl [0, 1, 2, 3, 4, 5] rfl)
    · refine lv_iload hx hb dX3_parseValue_14 (lv_at hl 0 rfl) ?_
      refine lv_bipush (v := nI 45) hx hb dX3_parseValue_16 (by decide) ?_
      refine lv_icmp_ne (tgt := 25) hx hb dX3_parseValue_18 (by decide) (fun hd => ?_) (fun hd => ?_)
      · refine lv_iconst (v := nI 0) hx hb dX3_parseValue_25 (by decide) ?_
        refine dm_ti (y := nI (pmn sg n T)) (by unfold pmn; rw [if_neg (fun h9 => hd ((hch 45 (by decide)).mpr h9.2))]) ?_
        refine lv_istore (lv' := [(5, .int (nI (pmn sg n T))), (4, .int c1), (0, .ref h), (1, .int (nI wn)), (2, .int (nI r)), (3, .int (nI sg))]) hx hb dX3_parseValue_26 hl (by decide) rfl (fun ls hl => ?_)
        exact hJ () ls trivial (lv_sub hl [0, 1, 2, 3, 4, 5] rfl)
      · refine lv_iconst (v := nI 1) hx hb dX3_parseValue_21 (by decide) ?_
        refine dm_ti (y := nI (pmn sg n T)) (by unfold pmn; rw [if_pos ⟨by omega, (hch 45 (by decide)).mp hd⟩]) ?_
        refine lv_goto (tgt := 26) hx hb dX3_parseValue_22 (by decide) ?_
        refine lv_istore (lv' := [(5, .int (nI (pmn sg n T))), (4, .int c1), (0, .ref h), (1, .int (nI wn)), (2, .int (nI r)), (3, .int (nI sg))]) hx hb dX3_parseValue_26 hl (by decide) rfl (fun ls hl => ?_)
        exact hJ () ls trivial (lv_sub hl [0, 1, 2, 3, 4, 5] rfl)
  · rintro - ls - hl
    refine dm_cutR (nL := 7) (σ := Unit) 47 (fun _ => True) (fun _ => [(6, .int (nI (pfr sg n T))), (5, .int (nI (pmn sg n T))), (0, .ref h), (1, .int (nI wn)), (2, .int (nI r)), (3, .int (nI sg))]) (fun hJ => ?_) ?_
    · refine lv_iload hx hb dX3_parseValue_28 (lv_at hl 0 rfl) ?_
      refine dm_if_ne (tgt := 40) hx hb (by omega) dX3_parseValue_30 (by decide) (fun hs => ?_) (fun hs => ?_)
      · refine lv_iconst (v := nI 1) hx hb dX3_parseValue_40 (by decide) ?_
        refine dm_ti (y := nI (pfr sg n T)) (by unfold pfr; rw [if_pos (Or.inl (by omega))]) ?_
        refine lv_goto (tgt := 45) hx hb dX3_parseValue_41 (by decide) ?_
        refine lv_istore (lv' := [(6, .int (nI (pfr sg n T))), (5, .int (nI (pmn sg n T))), (4, .int c1), (0, .ref h), (1, .int (nI wn)), (2, .int (nI r)), (3, .int (nI sg))]) hx hb dX3_parseValue_45 hl (by decide) rfl (fun ls hl => ?_)
        exact hJ () ls trivial (lv_sub hl [0, 1, 3, 4, 5, 6] rfl)
      · refine lv_iload hx hb dX3_parseValue_33 (lv_at hl 1 rfl) ?_
        refine lv_bipush (v := nI 43) hx hb dX3_parseValue_35 (by decide) ?_
        refine lv_icmp_ne (tgt := 44) hx hb dX3_parseValue_37 (by decide) (fun hd => ?_) (fun hd => ?_)
        · refine lv_iconst (v := nI 0) hx hb dX3_parseValue_44 (by decide) ?_
          refine dm_ti (y := nI (pfr sg n T)) (by unfold pfr; rw [if_neg (fun h9 => h9.elim (fun h8 => by omega) (fun h8 => hd ((hch 43 (by decide)).mpr h8)))]) ?_
          refine lv_istore (lv' := [(6, .int (nI (pfr sg n T))), (5, .int (nI (pmn sg n T))), (4, .int c1), (0, .ref h), (1, .int (nI wn)), (2, .int (nI r)), (3, .int (nI sg))]) hx hb dX3_parseValue_45 hl (by decide) rfl (fun ls hl => ?_)
          exact hJ () ls trivial (lv_sub hl [0, 1, 3, 4, 5, 6] rfl)
        · refine lv_iconst (v := nI 1) hx hb dX3_parseValue_40 (by decide) ?_
          refine dm_ti (y := nI (pfr sg n T)) (by unfold pfr; rw [if_pos (Or.inr ((hch 43 (by decide)).mp hd))]) ?_
          refine lv_goto (tgt := 45) hx hb dX3_parseValue_41 (by decide) ?_
          refine lv_istore (lv' := [(6, .int (nI (pfr sg n T))), (5, .int (nI (pmn sg n T))), (4, .int c1), (0, .ref h), (1, .int (nI wn)), (2, .int (nI r)), (3, .int (nI sg))]) hx hb dX3_parseValue_45 hl (by decide) rfl (fun ls hl => ?_)
          exact hJ () ls trivial (lv_sub hl [0, 1, 3, 4, 5, 6] rfl)
    · rintro - ls - hl
      obtain ⟨fr, hfr⟩ : ∃ z, z = pfr sg n T := ⟨_, rfl⟩
      obtain ⟨mi, hmi⟩ : ∃ z, z = pmn sg n T := ⟨_, rfl⟩
      unfold pgood pval
      rw [← hfr, ← hmi]
      rw [← hfr] at hl hfr2
      rw [← hmi] at hl hmi2
      have hl : lv_has ls 7 [(6, .int (nI fr)), (5, .int (nI mi)), (0, .ref h), (1, .int (nI wn)), (2, .int (nI r)), (3, .int (nI sg))] := hl
      refine lv_iload hx hb dX3_parseValue_47 (lv_at hl 0 rfl) ?_
      refine lv_aload_n hx hb dX3_parseValue_49 rfl (lv_at hl 2 rfl) ?_
      refine va_get (D := D) (ci := 3) (C := RX3) (T := TX3) (N := 7) (v := .ref hti) hx hb hts kin_X3_w hown hK hP 0 rfl rfl 0 (by decide) (hts _ kfl_X3_10) (fun _ h9 => h9) rfl dX3_parseValue_50 ?_
      refine dm_gori (dm_rVN (n := 0) (As := []) (rest := [.int (nI fr)]) hC hl (c_X0_size l D cB cI cC hti ati n ft s.heap.size) kco_X0_size ki_X0 kim_X0_size kse_X0_size knl_X3_113 (by decide +kernel) ⟨Nat.le_of_ble_eq_true rfl, Nat.le_of_ble_eq_true rfl⟩ rfl rfl ⟨dm_blind, va_recv hK hP (ci := 0) (q0 := 1) rfl rfl, dm_preU hK hP hD hC.2.2.2.2.2.2.2 [1, 2] (by decide) rfl⟩ rfl rfl (Nat.le_of_ble_eq_true rfl) dX3_parseValue_53 ⟨Nat.le_of_ble_eq_true rfl, Nat.le_of_ble_eq_true rfl⟩) (fun z1 hs9 => ?_)
      subst hs9
      refine dm_icmp_ge (tgt := 79) hx hb (by omega) (by omega) dX3_parseValue_56 (by decide) (fun hd => ?_) (fun hd => ?_)
      · refine lv_iconst (v := nI 1) hx hb dX3_parseValue_79 (by decide) ?_
        exact dm_iret hC hK (fm, um, lv) (Or.inl ⟨fun h9 => by have := h9.1; omega, rfl, rfl⟩) hP hD hS dX3_parseValue_80
      · have hfo := fo_le (r := r) (T := T) (k := n - fr) (i := fr)
        refine lv_aload_n hx hb dX3_parseValue_59 rfl (lv_at hl 2 rfl) ?_
        refine va_get (D := D) (ci := 3) (C := RX3) (T := TX3) (N := 7) (v := .ref hti) hx hb hts kin_X3_w hown hK hP 0 rfl rfl 0 (by decide) (hts _ kfl_X3_10) (fun _ h9 => h9) rfl dX3_parseValue_60 ?_
        refine lv_iload hx hb dX3_parseValue_63 (lv_at hl 0 rfl) ?_
        refine lv_iload_n hx hb dX3_parseValue_65 rfl (lv_at hl 4 rfl) ?_
        refine dm_gori (dm_rVN (n := 2) (As := [.int (nI fr), .int (nI r)]) (rest := []) hC hl (c_X0_firstOther l D cB cI cC hti ati n fr r T ft hn6 (by omega) hr36 htx s.heap.size) kco_X0_firstOther ki_X0 kim_X0_firstOther kse_X0_firstOther knl_X3_114 (by decide +kernel) ⟨Nat.le_of_ble_eq_true rfl, Nat.le_of_ble_eq_true rfl⟩ rfl rfl ⟨dm_blind, va_recv hK hP (ci := 0) (q0 := 1) rfl rfl, dm_preU hK hP hD hC.2.2.2.2.2.2.2 [1, 2] (by decide) rfl⟩ rfl rfl (Nat.le_of_ble_eq_true rfl) dX3_parseValue_66 ⟨Nat.le_of_ble_eq_true rfl, Nat.le_of_ble_eq_true rfl⟩) (fun r1 e1 => ?_)
        subst e1
        refine lv_aload_n hx hb dX3_parseValue_69 rfl (lv_at hl 2 rfl) ?_
        refine va_get (D := D) (ci := 3) (C := RX3) (T := TX3) (N := 7) (v := .ref hti) hx hb hts kin_X3_w hown hK hP 0 rfl rfl 0 (by decide) (hts _ kfl_X3_10) (fun _ h9 => h9) rfl dX3_parseValue_70 ?_
        refine dm_gori (dm_rVN (n := 0) (As := []) (rest := [.int (nI (fo r T fr (n - fr)))]) hC hl (c_X0_size l D cB cI cC hti ati n ft s.heap.size) kco_X0_size ki_X0 kim_X0_size kse_X0_size knl_X3_113 (by decide +kernel) ⟨Nat.le_of_ble_eq_true rfl, Nat.le_of_ble_eq_true rfl⟩ rfl rfl ⟨dm_blind, va_recv hK hP (ci := 0) (q0 := 1) rfl rfl, dm_preU hK hP hD hC.2.2.2.2.2.2.2 [1, 2] (by decide) rfl⟩ rfl rfl (Nat.le_of_ble_eq_true rfl) dX3_parseValue_73 ⟨Nat.le_of_ble_eq_true rfl, Nat.le_of_ble_eq_true rfl⟩) (fun z2 hs9 => ?_)
        subst hs9
        refine dm_icmp_ge (tgt := 81) hx hb (by omega) (by omega) dX3_parseValue_76 (by decide) (fun he => ?_) (fun he => ?_)
        · have hfe : fo r T fr (n - fr) = n := by omega
          have hall : ∀ j, fr ≤ j → j < n → dgv (T j) < r := fun j h1 h2 => fo_all (r := r) (T := T) (k := n - fr) (i := fr) (by omega) j h1 (by omega)
          refine lv_aload_n hx hb dX3_parseValue_81 rfl (lv_at hl 2 rfl) ?_
          refine va_get (D := D) (ci := 3) (C := RX3) (T := TX3) (N := 7) (v := .ref hsm) hx hb hts kin_X3_w hown hK hP 0 rfl rfl 5 (by decide) (hts _ kfl_X3_38) (fun _ h9 => h9) rfl dX3_parseValue_82 ?_
          refine lv_aload_n hx hb dX3_parseValue_85 rfl (lv_at hl 2 rfl) ?_
          refine va_get (D := D) (ci := 3) (C := RX3) (T := TX3) (N := 7) (v := .ref hti) hx hb hts kin_X3_w hown hK hP 0 rfl rfl 0 (by decide) (hts _ kfl_X3_10) (fun _ h9 => h9) rfl dX3_parseValue_86 ?_
          refine lv_iload hx hb dX3_parseValue_89 (lv_at hl 0 rfl) ?_
          refine lv_iload_n hx hb dX3_parseValue_91 rfl (lv_at hl 4 rfl) ?_
          refine dm_goi (wr := [(h, .inr (3, [.ref hti, .ref hto, .ref hnu, .ref hsp, .ref hsq, .ref hsm, .long lv])), (hto, .inr (1, [.ref ato, .int (nI st)])), (ato, .inl (cB, 65536, .inl fx)), (hnu, .inr (2, [.ref anu, .int (nI uN)])), (anu, .inl (cI, 2048, .inl fN)), (hsp, .inr (2, [.ref asp, .int (nI us)])), (asp, .inl (cI, 2048, .inl fs)), (hsq, .inr (2, [.ref asq, .int (nI uq)])), (asq, .inl (cI, 2048, .inl fq))]) (dm_rVN (n := 3) (As := [.ref hti, .int (nI fr), .int (nI r)]) (rest := []) hC hl (c_X2_becomeDigitsOf l D cB cI cC hsm asm hti ati 2 um n fr r T fm ft (by decide) hn6 (by omega) hr2 hr36 htx hall s.heap.size) kco_X2_becomeDigitsOf ki_X2 kim_X2_becomeDigitsOf kse_X2_becomeDigitsOf knl_X3_118 (by decide +kernel) ⟨Nat.le_of_ble_eq_true rfl, Nat.le_of_ble_eq_true rfl⟩ rfl rfl ⟨dm_blind, va_recv hK hP (ci := 2) (q0 := 11) rfl rfl, dm_preU hK hP hD hC.2.2.2.2.2.2.2 [11, 12, 1, 2] (by decide) rfl⟩ rfl rfl (Nat.le_of_ble_eq_true rfl) dX3_parseValue_92 ⟨Nat.le_of_ble_eq_true rfl, Nat.le_of_ble_eq_true rfl⟩) hP hD hS hA [11, 12, 1, 2] [0, 3, 4, 5, 6, 7, 8, 9, 10] rfl rfl (by decide) (by decide) (fun rb q H locs hw hP hD hS => ?_)
          obtain ⟨f2, u2⟩ := q
          have hP : va_P D vwCl [(h, .inr (3, [.ref hti, .ref hto, .ref hnu, .ref hsp, .ref hsq, .ref hsm, .long lv])), (hto, .inr (1, [.ref ato, .int (nI st)])), (ato, .inl (cB, 65536, .inl fx)), (hnu, .inr (2, [.ref anu, .int (nI uN)])), (anu, .inl (cI, 2048, .inl fN)), (hsp, .inr (2, [.ref asp, .int (nI us)])), (asp, .inl (cI, 2048, .inl fs)), (hsq, .inr (2, [.ref asq, .int (nI uq)])), (asq, .inl (cI, 2048, .inl fq)), (hsm, .inr (2, [.ref asm, .int (nI u2)])), (asm, .inl (cI, 2, .inl f2)), (hti, .inr (0, [.ref ati, .int (nI n)])), (ati, .inl (cB, 65536, .inl ft))] H := hP
          have hD : va_D A [(h, .inr (3, [.ref hti, .ref hto, .ref hnu, .ref hsp, .ref hsq, .ref hsm, .long lv])), (hto, .inr (1, [.ref ato, .int (nI st)])), (ato, .inl (cB, 65536, .inl fx)), (hnu, .inr (2, [.ref anu, .int (nI uN)])), (anu, .inl (cI, 2048, .inl fN)), (hsp, .inr (2, [.ref asp, .int (nI us)])), (asp, .inl (cI, 2048, .inl fs)), (hsq, .inr (2, [.ref asq, .int (nI uq)])), (asq, .inl (cI, 2048, .inl fq)), (hsm, .inr (2, [.ref asm, .int (nI u2)])), (asm, .inl (cI, 2, .inl f2)), (hti, .inr (0, [.ref ati, .int (nI n)])), (ati, .inl (cB, 65536, .inl ft))] := hD
          have hP := hP.sub (ws' := [(h, .inr (3, [.ref hti, .ref hto, .ref hnu, .ref hsp, .ref hsq, .ref hsm, .long lv])), (hti, .inr (0, [.ref ati, .int (nI n)])), (ati, .inl (cB, 65536, .inl ft)), (hto, .inr (1, [.ref ato, .int (nI st)])), (ato, .inl (cB, 65536, .inl fx)), (hnu, .inr (2, [.ref anu, .int (nI uN)])), (anu, .inl (cI, 2048, .inl fN)), (hsp, .inr (2, [.ref asp, .int (nI us)])), (asp, .inl (cI, 2048, .inl fs)), (hsq, .inr (2, [.ref asq, .int (nI uq)])), (asq, .inl (cI, 2048, .inl fq)), (hsm, .inr (2, [.ref asm, .int (nI u2)])), (asm, .inl (cI, 2, .inl f2))]) [0, 11, 12, 1, 2, 3, 4, 5, 6, 7, 8, 9, 10] rfl
          have hD := hD.sub (ws' := [(h, .inr (3, [.ref hti, .ref hto, .ref hnu, .ref hsp, .ref hsq, .ref hsm, .long lv])), (hti, .inr (0, [.ref ati, .int (nI n)])), (ati, .inl (cB, 65536, .inl ft)), (hto, .inr (1, [.ref ato, .int (nI st)])), (ato, .inl (cB, 65536, .inl fx)), (hnu, .inr (2, [.ref anu, .int (nI uN)])), (anu, .inl (cI, 2048, .inl fN)), (hsp, .inr (2, [.ref asp, .int (nI us)])), (asp, .inl (cI, 2048, .inl fs)), (hsq, .inr (2, [.ref asq, .int (nI uq)])), (asq, .inl (cI, 2048, .inl fq)), (hsm, .inr (2, [.ref asm, .int (nI u2)])), (asm, .inl (cI, 2, .inl f2))]) [0, 11, 12, 1, 2, 3, 4, 5, 6, 7, 8, 9, 10] (by decide) rfl
          dsimp only at hw
          obtain ⟨V, hV⟩ : ∃ z, z = hn r T fr (n - fr) := ⟨_, rfl⟩
          rw [← hV] at hw ⊢
          refine lv_if_eq (tgt := 109) hx hb dX3_parseValue_95 (by decide) (fun hb1 => ?_) (fun hb1 => ?_)
          · have hw1 := hw.resolve_left (fun h9 => absurd (hb1.symm.trans h9.1) (by decide))
            have hbig : 18446744073709551616 ≤ V := hw1.2.2
            have hnf : ¬ pfit wn sg mi V := by
              intro h9
              rcases h9 with h9 | h9
              · have h8 : 2 ^ (if sg = 1 then wn - 1 else wn) ≤ 2 ^ 64 := Nat.pow_le_pow_right (by decide) (by split <;> omega)
                omega
              · have h8 : 2 ^ (wn - 1) ≤ 2 ^ 63 := Nat.pow_le_pow_right (by decide) (by omega)
                omega
            refine lv_iconst (v := nI 2) hx hb dX3_parseValue_109 (by decide) ?_
            exact dm_iret hC hK (f2, u2, lv) (Or.inr (Or.inl ⟨⟨hd, hfe⟩, hnf, rfl, rfl⟩)) hP hD hS dX3_parseValue_110
          · have hw1 := hw.resolve_right (fun h9 => hb1 h9.1)
            refine lv_aload_n hx hb dX3_parseValue_98 rfl (lv_at hl 2 rfl) ?_
            refine lv_iload_n hx hb dX3_parseValue_99 rfl (lv_at hl 3 rfl) ?_
            refine lv_iload_n hx hb dX3_parseValue_100 rfl (lv_at hl 5 rfl) ?_
            refine lv_iload hx hb dX3_parseValue_101 (lv_at hl 1 rfl) ?_
            refine dm_gori (dm_rV (n := 3) (As := [.int (nI wn), .int (nI sg), .int (nI mi)]) (rest := []) hC hl (c_X3_smallHasWidth l D cB cI cC h hti ati hto ato hnu anu hsp asp hsq asq hsm asm n st uN us uq u2 ft fx fN fs fq f2 lv wn sg mi hwn hsg hmi2 hw1.2.1 hw1.2.2.2 H.size) kco_X3_smallHasWidth ki_X3 kim_X3_smallHasWidth kse_X3_smallHasWidth kml_X3_122 (by decide +kernel) ⟨Nat.le_of_ble_eq_true rfl, Nat.le_of_ble_eq_true rfl⟩ rfl rfl ⟨dm_blind, va_recv hK hP (ci := 3) (q0 := 0) rfl rfl, dm_preU hK hP hD hC.2.2.2.2.2.2.2 [0, 1, 2, 3, 4, 5, 6, 7, 8, 9, 10, 11, 12] (by decide) rfl⟩ rfl rfl (Nat.le_of_ble_eq_true rfl) dX3_parseValue_103 ⟨Nat.le_of_ble_eq_true rfl, Nat.le_of_ble_eq_true rfl⟩) (fun r3 e3 => ?_)
            rw [hw1.2.2.1] at e3
            refine lv_if_ne (tgt := 111) hx hb dX3_parseValue_106 (by decide) (fun hb2 => ?_) (fun hb2 => ?_)
            · have hft := (e3.resolve_right (fun h9 => hb2 h9.2)).1
              refine lv_aload_n hx hb dX3_parseValue_111 rfl (lv_at hl 2 rfl) ?_
              refine lv_iload hx hb dX3_parseValue_112 (lv_at hl 1 rfl) ?_
              refine dm_if_eq (tgt := 128) hx hb (by omega) dX3_parseValue_114 (by decide) (fun hm => ?_) (fun hm => ?_)
              · refine lv_aload_n hx hb dX3_parseValue_128 rfl (lv_at hl 2 rfl) ?_
                refine va_get (D := D) (ci := 3) (C := RX3) (T := TX3) (N := 7) (v := .ref hsm) hx hb hts kin_X3_w hown hK hP 0 rfl rfl 5 (by decide) (hts _ kfl_X3_38) (fun _ h9 => h9) rfl dX3_parseValue_129 ?_
                refine dm_gorl (dm_rVN (n := 0) (As := []) (rest := [.ref h]) hC hl (c_X2_lowLong l D cB cI cC hsm asm 2 u2 f2 hw1.2.1 hw1.2.1 (by decide) H.size) kco_X2_lowLong ki_X2 kim_X2_lowLong kse_X2_lowLong knl_X3_126 (by decide +kernel) ⟨Nat.le_of_ble_eq_true rfl, Nat.le_of_ble_eq_true rfl⟩ rfl rfl ⟨dm_blind, va_recv hK hP (ci := 2) (q0 := 11) rfl rfl, dm_preU hK hP hD hC.2.2.2.2.2.2.2 [11, 12] (by decide) rfl⟩ rfl rfl (Nat.le_of_ble_eq_true rfl) dX3_parseValue_132 ⟨Nat.le_of_ble_eq_true rfl, Nat.le_of_ble_eq_true rfl⟩) (fun r4 e4 => ?_)
                rw [hw1.2.2.1] at e4
                subst e4
                refine va_put (D := D) (ci := 3) (v := .long (lN V)) (ty := .long) (C := RX3) (T := TX3) (N := 7) hx hb hts kin_X3_w tyX3 tyX3_ok nmX3 hown hK hP hD hS 0 rfl rfl 6 (by decide) (hts _ kfl_X3_41) (fun _ h9 => h9) rfl (by decide +kernel) rfl rfl (Nat.le_of_ble_eq_true rfl) dX3_parseValue_135 (fun H locs hP hD hS => ?_)
                have hP : va_P D vwCl [(h, .inr (3, [.ref hti, .ref hto, .ref hnu, .ref hsp, .ref hsq, .ref hsm, .long (lN V)])), (hti, .inr (0, [.ref ati, .int (nI n)])), (ati, .inl (cB, 65536, .inl ft)), (hto, .inr (1, [.ref ato, .int (nI st)])), (ato, .inl (cB, 65536, .inl fx)), (hnu, .inr (2, [.ref anu, .int (nI uN)])), (anu, .inl (cI, 2048, .inl fN)), (hsp, .inr (2, [.ref asp, .int (nI us)])), (asp, .inl (cI, 2048, .inl fs)), (hsq, .inr (2, [.ref asq, .int (nI uq)])), (asq, .inl (cI, 2048, .inl fq)), (hsm, .inr (2, [.ref asm, .int (nI u2)])), (asm, .inl (cI, 2, .inl f2))] H := hP
                have hD : va_D A [(h, .inr (3, [.ref hti, .ref hto, .ref hnu, .ref hsp, .ref hsq, .ref hsm, .long (lN V)])), (hti, .inr (0, [.ref ati, .int (nI n)])), (ati, .inl (cB, 65536, .inl ft)), (hto, .inr (1, [.ref ato, .int (nI st)])), (ato, .inl (cB, 65536, .inl fx)), (hnu, .inr (2, [.ref anu, .int (nI uN)])), (anu, .inl (cI, 2048, .inl fN)), (hsp, .inr (2, [.ref asp, .int (nI us)])), (asp, .inl (cI, 2048, .inl fs)), (hsq, .inr (2, [.ref asq, .int (nI uq)])), (asq, .inl (cI, 2048, .inl fq)), (hsm, .inr (2, [.ref asm, .int (nI u2)])), (asm, .inl (cI, 2, .inl f2))] := hD
                refine lv_iconst (v := nI 0) hx hb dX3_parseValue_138 (by decide) ?_
                exact dm_iret hC hK (f2, u2, lN V) (Or.inr (Or.inr ⟨⟨hd, hfe⟩, hft, rfl, by show lN V = _; rw [if_neg (by omega)]⟩)) hP hD hS dX3_parseValue_139
              · refine lv_aload_n hx hb dX3_parseValue_117 rfl (lv_at hl 2 rfl) ?_
                refine va_get (D := D) (ci := 3) (C := RX3) (T := TX3) (N := 7) (v := .ref hsm) hx hb hts kin_X3_w hown hK hP 0 rfl rfl 5 (by decide) (hts _ kfl_X3_38) (fun _ h9 => h9) rfl dX3_parseValue_118 ?_
                refine dm_gorl (dm_rVN (n := 0) (As := []) (rest := [.ref h]) hC hl (c_X2_lowLong l D cB cI cC hsm asm 2 u2 f2 hw1.2.1 hw1.2.1 (by decide) H.size) kco_X2_lowLong ki_X2 kim_X2_lowLong kse_X2_lowLong knl_X3_126 (by decide +kernel) ⟨Nat.le_of_ble_eq_true rfl, Nat.le_of_ble_eq_true rfl⟩ rfl rfl ⟨dm_blind, va_recv hK hP (ci := 2) (q0 := 11) rfl rfl, dm_preU hK hP hD hC.2.2.2.2.2.2.2 [11, 12] (by decide) rfl⟩ rfl rfl (Nat.le_of_ble_eq_true rfl) dX3_parseValue_121 ⟨Nat.le_of_ble_eq_true rfl, Nat.le_of_ble_eq_true rfl⟩) (fun r4 e4 => ?_)
                rw [hw1.2.2.1] at e4
                subst e4
                refine lv_lneg hx hb dX3_parseValue_124 ?_
                refine lv_goto (tgt := 135) hx hb dX3_parseValue_125 (by decide) ?_
                refine va_put (D := D) (ci := 3) (v := .long (-(lN V))) (ty := .long) (C := RX3) (T := TX3) (N := 7) hx hb hts kin_X3_w tyX3 tyX3_ok nmX3 hown hK hP hD hS 0 rfl rfl 6 (by decide) (hts _ kfl_X3_41) (fun _ h9 => h9) rfl (by decide +kernel) rfl rfl (Nat.le_of_ble_eq_true rfl) dX3_parseValue_135 (fun H locs hP hD hS => ?_)
                have hP : va_P D vwCl [(h, .inr (3, [.ref hti, .ref hto, .ref hnu, .ref hsp, .ref hsq, .ref hsm, .long (-(lN V))])), (hti, .inr (0, [.ref ati, .int (nI n)])), (ati, .inl (cB, 65536, .inl ft)), (hto, .inr (1, [.ref ato, .int (nI st)])), (ato, .inl (cB, 65536, .inl fx)), (hnu, .inr (2, [.ref anu, .int (nI uN)])), (anu, .inl (cI, 2048, .inl fN)), (hsp, .inr (2, [.ref asp, .int (nI us)])), (asp, .inl (cI, 2048, .inl fs)), (hsq, .inr (2, [.ref asq, .int (nI uq)])), (asq, .inl (cI, 2048, .inl fq)), (hsm, .inr (2, [.ref asm, .int (nI u2)])), (asm, .inl (cI, 2, .inl f2))] H := hP
                have hD : va_D A [(h, .inr (3, [.ref hti, .ref hto, .ref hnu, .ref hsp, .ref hsq, .ref hsm, .long (-(lN V))])), (hti, .inr (0, [.ref ati, .int (nI n)])), (ati, .inl (cB, 65536, .inl ft)), (hto, .inr (1, [.ref ato, .int (nI st)])), (ato, .inl (cB, 65536, .inl fx)), (hnu, .inr (2, [.ref anu, .int (nI uN)])), (anu, .inl (cI, 2048, .inl fN)), (hsp, .inr (2, [.ref asp, .int (nI us)])), (asp, .inl (cI, 2048, .inl fs)), (hsq, .inr (2, [.ref asq, .int (nI uq)])), (asq, .inl (cI, 2048, .inl fq)), (hsm, .inr (2, [.ref asm, .int (nI u2)])), (asm, .inl (cI, 2, .inl f2))] := hD
                refine lv_iconst (v := nI 0) hx hb dX3_parseValue_138 (by decide) ?_
                exact dm_iret hC hK (f2, u2, -(lN V)) (Or.inr (Or.inr ⟨⟨hd, hfe⟩, hft, rfl, by show -(lN V) = _; rw [if_pos (by omega)]⟩)) hP hD hS dX3_parseValue_139
            · have hft := (e3.resolve_left (fun h9 => absurd (hb2.symm.trans h9.2) (by decide))).1
              refine lv_iconst (v := nI 2) hx hb dX3_parseValue_109 (by decide) ?_
              exact dm_iret hC hK (f2, u2, lv) (Or.inr (Or.inl ⟨⟨hd, hfe⟩, hft, rfl, rfl⟩)) hP hD hS dX3_parseValue_110
        · refine lv_iconst (v := nI 1) hx hb dX3_parseValue_79 (by decide) ?_
          exact dm_iret hC hK (fm, um, lv) (Or.inl ⟨fun h9 => by have := h9.2; omega, rfl, rfl⟩) hP hD hS dX3_parseValue_80

set_option maxRecDepth 100000 in
set_option maxHeartbeats 4000000 in
theorem c_X3_parse (l : Launch) (D : va_G) (cB cI cC : ClassId) (h hti ati hto ato hnu anu hsp asp hsq asq hsm asm n st uN us uq um : Nat) (ft fx fN fs fq fm : Nat → Int32) (lv : Int64) (wd x : Int32) (sg : Nat) (T : Nat → Nat) (hsg : sg < 2) (hn6 : n ≤ 65536) (htx : txt n T ft) : MI l yX3_parse (Cond.code yX3_parse cX3_parse 5 (some .int)) 4 D (TY cB cI cC) [.ref h, .int wd, .int x, .int (nI sg)] [(h, .inr (3, [.ref hti, .ref hto, .ref hnu, .ref hsp, .ref hsq, .ref hsm, .long lv])), (hti, .inr (0, [.ref ati, .int (nI n)])), (ati, .inl (cB, 65536, .inl ft)), (hto, .inr (1, [.ref ato, .int (nI st)])), (ato, .inl (cB, 65536, .inl fx)), (hnu, .inr (2, [.ref anu, .int (nI uN)])), (anu, .inl (cI, 2048, .inl fN)), (hsp, .inr (2, [.ref asp, .int (nI us)])), (asp, .inl (cI, 2048, .inl fs)), (hsq, .inr (2, [.ref asq, .int (nI uq)])), (asq, .inl (cI, 2048, .inl fq)), (hsm, .inr (2, [.ref asm, .int (nI um)])), (asm, .inl (cI, 2, .inl fm))] (S := (Nat → Int32) × Nat × Int64 × Nat) (fun b q => (¬ (isWd wd ∧ isR x) ∧ b = nI 3 ∧ q.2.2.1 = lv ∧ q.2.2.2 = n) ∨ (∃ wn r, (wn = 32 ∨ wn = 64) ∧ 2 ≤ r ∧ r ≤ 36 ∧ wd = nI wn ∧ x = nI r ∧ q.2.2.2 = 0 ∧ ((¬ pgood r sg n T ∧ b = nI 1 ∧ q.2.2.1 = lv) ∨ (pgood r sg n T ∧ ¬ pfit wn sg (pmn sg n T) (pval r sg n T) ∧ b = nI 2 ∧ q.2.2.1 = lv) ∨ (pgood r sg n T ∧ pfit wn sg (pmn sg n T) (pval r sg n T) ∧ b = nI 0 ∧ q.2.2.1 = if pmn sg n T = 1 then -(lN (pval r sg n T)) else lN (pval r sg n T))))) (fun q => [(h, .inr (3, [.ref hti, .ref hto, .ref hnu, .ref hsp, .ref hsq, .ref hsm, .long q.2.2.1])), (hti, .inr (0, [.ref ati, .int (nI q.2.2.2)])), (ati, .inl (cB, 65536, .inl ft)), (hto, .inr (1, [.ref ato, .int (nI st)])), (ato, .inl (cB, 65536, .inl fx)), (hnu, .inr (2, [.ref anu, .int (nI uN)])), (anu, .inl (cI, 2048, .inl fN)), (hsp, .inr (2, [.ref asp, .int (nI us)])), (asp, .inl (cI, 2048, .inl fs)), (hsq, .inr (2, [.ref asq, .int (nI uq)])), (asq, .inl (cI, 2048, .inl fq)), (hsm, .inr (2, [.ref asm, .int (nI q.2.1)])), (asm, .inl (cI, 2, .inl q.1))]) := by
  refine MI.of (by decide) (Nat.le_of_ble_eq_true rfl) ?_
  intro p e s m below meth c ls A hC hA hP hK hD hS hl
  obtain ⟨hx, hb, hr, hml, hown, hts, hlocks, hN⟩ := id hC
  have hown : s.vm.findClass RX3 = some m.cls := hown
  have hl : lv_has ls 5 [(0, .ref h), (1, .int wd), (2, .int x), (3, .int (nI sg))] := hl
  refine lv_iload_n hx hb dX3_parse_0 rfl (lv_at hl 1 rfl) ?_
  refine dm_gori (dm_rS (n := 1) (As := [.int wd]) (rest := []) hC hl (c_X3_isWidth l D cB cI cC wd s.heap.size) kco_X3_isWidth ki_X3 kst_X3_isWidth kml_X3_88 (by decide +kernel) ⟨Nat.le_of_ble_eq_true rfl, Nat.le_of_ble_eq_true rfl⟩ rfl rfl ⟨dm_blind, dm_preU hK hP hD hC.2.2.2.2.2.2.2 [] (by decide) rfl⟩ rfl rfl (Nat.le_of_ble_eq_true rfl) dX3_parse_1 ⟨Nat.le_of_ble_eq_true rfl, Nat.le_of_ble_eq_true rfl⟩) (fun r1 e1 => ?_)
  refine lv_if_eq (tgt := 14) hx hb dX3_parse_4 (by decide) (fun hc => ?_) (fun hc => ?_)
  · refine lv_iconst (v := nI 3) hx hb dX3_parse_14 (by decide) ?_
    exact dm_iret hC hK (fm, um, lv, n) (Or.inl ⟨fun h9 => (e1.resolve_left (fun h8 => absurd (hc.symm.trans h8.2) (by decide))).1 h9.1, rfl, rfl, rfl⟩) hP hD hS dX3_parse_15
  · have hwd := (e1.resolve_right (fun h8 => hc h8.2)).1
    obtain ⟨wn, hwn, rfl⟩ : ∃ wn : Nat, (wn = 32 ∨ wn = 64) ∧ wd = nI wn := hwd.elim (fun h9 => ⟨32, Or.inl rfl, h9⟩) (fun h9 => ⟨64, Or.inr rfl, h9⟩)
    refine lv_iload_n hx hb dX3_parse_7 rfl (lv_at hl 2 rfl) ?_
    refine dm_gori (dm_rS (n := 1) (As := [.int x]) (rest := []) hC hl (c_X3_isRadix l D cB cI cC x s.heap.size) kco_X3_isRadix ki_X3 kst_X3_isRadix kml_X3_53 (by decide +kernel) ⟨Nat.le_of_ble_eq_true rfl, Nat.le_of_ble_eq_true rfl⟩ rfl rfl ⟨dm_blind, dm_preU hK hP hD hC.2.2.2.2.2.2.2 [] (by decide) rfl⟩ rfl rfl (Nat.le_of_ble_eq_true rfl) dX3_parse_8 ⟨Nat.le_of_ble_eq_true rfl, Nat.le_of_ble_eq_true rfl⟩) (fun r2 e2 => ?_)
    refine lv_if_ne (tgt := 16) hx hb dX3_parse_11 (by decide) (fun hd => ?_) (fun hd => ?_)
    · obtain ⟨⟨r, hr2, hr36, rfl⟩, -⟩ := e2.resolve_right (fun h9 => hd h9.2)
      refine lv_aload_n hx hb dX3_parse_16 rfl (lv_at hl 0 rfl) ?_
      refine lv_iload_n hx hb dX3_parse_17 rfl (lv_at hl 1 rfl) ?_
      refine lv_iload_n hx hb dX3_parse_18 rfl (lv_at hl 2 rfl) ?_
      refine lv_iload_n hx hb dX3_parse_19 rfl (lv_at hl 3 rfl) ?_
      refine dm_goi (wr := []) (dm_rV (n := 3) (As := [.int (nI wn), .int (nI r), .int (nI sg)]) (rest := []) hC hl (c_X3_parseValue l D cB cI cC h hti ati hto ato hnu anu hsp asp hsq asq hsm asm n st uN us uq um ft fx fN fs fq fm lv wn r sg T hwn hr2 hr36 hsg hn6 htx s.heap.size) kco_X3_parseValue ki_X3 kim_X3_parseValue kse_X3_parseValue kml_X3_100 (by decide +kernel) ⟨Nat.le_of_ble_eq_true rfl, Nat.le_of_ble_eq_true rfl⟩ rfl rfl ⟨dm_blind, va_recv hK hP (ci := 3) (q0 := 0) rfl rfl, dm_preU hK hP hD hC.2.2.2.2.2.2.2 [0, 1, 2, 3, 4, 5, 6, 7, 8, 9, 10, 11, 12] (by decide) rfl⟩ rfl rfl (Nat.le_of_ble_eq_true rfl) dX3_parse_20 ⟨Nat.le_of_ble_eq_true rfl, Nat.le_of_ble_eq_true rfl⟩) hP hD hS hA [0, 1, 2, 3, 4, 5, 6, 7, 8, 9, 10, 11, 12] [] rfl rfl (by decide) (by decide) (fun rb q H locs hw hP hD hS => ?_)
      obtain ⟨f2, u2, lv2⟩ := q
      have hP : va_P D vwCl [(h, .inr (3, [.ref hti, .ref hto, .ref hnu, .ref hsp, .ref hsq, .ref hsm, .long lv2])), (hti, .inr (0, [.ref ati, .int (nI n)])), (ati, .inl (cB, 65536, .inl ft)), (hto, .inr (1, [.ref ato, .int (nI st)])), (ato, .inl (cB, 65536, .inl fx)), (hnu, .inr (2, [.ref anu, .int (nI uN)])), (anu, .inl (cI, 2048, .inl fN)), (hsp, .inr (2, [.ref asp, .int (nI us)])), (asp, .inl (cI, 2048, .inl fs)), (hsq, .inr (2, [.ref asq, .int (nI uq)])), (asq, .inl (cI, 2048, .inl fq)), (hsm, .inr (2, [.ref asm, .int (nI u2)])), (asm, .inl (cI, 2, .inl f2))] H := hP
      have hD : va_D A [(h, .inr (3, [.ref hti, .ref hto, .ref hnu, .ref hsp, .ref hsq, .ref hsm, .long lv2])), (hti, .inr (0, [.ref ati, .int (nI n)])), (ati, .inl (cB, 65536, .inl ft)), (hto, .inr (1, [.ref ato, .int (nI st)])), (ato, .inl (cB, 65536, .inl fx)), (hnu, .inr (2, [.ref anu, .int (nI uN)])), (anu, .inl (cI, 2048, .inl fN)), (hsp, .inr (2, [.ref asp, .int (nI us)])), (asp, .inl (cI, 2048, .inl fs)), (hsq, .inr (2, [.ref asq, .int (nI uq)])), (asq, .inl (cI, 2048, .inl fq)), (hsm, .inr (2, [.ref asm, .int (nI u2)])), (asm, .inl (cI, 2, .inl f2))] := hD
      refine lv_istore (lv' := [(4, .int rb), (0, .ref h), (1, .int (nI wn)), (2, .int (nI r)), (3, .int (nI sg))]) hx hb dX3_parse_23 hl (by decide) rfl (fun ls hl => ?_)
      refine lv_aload_n hx hb dX3_parse_25 rfl (lv_at hl 1 rfl) ?_
      refine va_get (D := D) (ci := 3) (C := RX3) (T := TX3) (N := 7) (v := .ref hti) hx hb hts kin_X3_w hown hK hP 0 rfl rfl 0 (by decide) (hts _ kfl_X3_10) (fun _ h9 => h9) rfl dX3_parse_26 ?_
      refine dm_gov (wr := [(h, .inr (3, [.ref hti, .ref hto, .ref hnu, .ref hsp, .ref hsq, .ref hsm, .long lv2])), (hto, .inr (1, [.ref ato, .int (nI st)])), (ato, .inl (cB, 65536, .inl fx)), (hnu, .inr (2, [.ref anu, .int (nI uN)])), (anu, .inl (cI, 2048, .inl fN)), (hsp, .inr (2, [.ref asp, .int (nI us)])), (asp, .inl (cI, 2048, .inl fs)), (hsq, .inr (2, [.ref asq, .int (nI uq)])), (asq, .inl (cI, 2048, .inl fq)), (hsm, .inr (2, [.ref asm, .int (nI u2)])), (asm, .inl (cI, 2, .inl f2))]) (dm_rVN (n := 0) (As := []) (rest := []) hC hl (c_X0_clear l D cB cI cC hti ati n ft H.size) kco_X0_clear ki_X0 kim_X0_clear kse_X0_clear knl_X3_61 (by decide +kernel) ⟨Nat.le_of_ble_eq_true rfl, Nat.le_of_ble_eq_true rfl⟩ rfl rfl ⟨dm_blind, va_recv hK hP (ci := 0) (q0 := 1) rfl rfl, dm_preU hK hP hD hC.2.2.2.2.2.2.2 [1, 2] (by decide) rfl⟩ rfl rfl (Nat.le_of_ble_eq_true rfl) dX3_parse_29 ⟨Nat.le_of_ble_eq_true rfl, Nat.le_of_ble_eq_true rfl⟩) hP hD hS hA [1, 2] [0, 3, 4, 5, 6, 7, 8, 9, 10, 11, 12] rfl rfl (by decide) (by decide) (fun _ H locs _ hP hD hS => ?_)
      have hP : va_P D vwCl [(h, .inr (3, [.ref hti, .ref hto, .ref hnu, .ref hsp, .ref hsq, .ref hsm, .long lv2])), (hto, .inr (1, [.ref ato, .int (nI st)])), (ato, .inl (cB, 65536, .inl fx)), (hnu, .inr (2, [.ref anu, .int (nI uN)])), (anu, .inl (cI, 2048, .inl fN)), (hsp, .inr (2, [.ref asp, .int (nI us)])), (asp, .inl (cI, 2048, .inl fs)), (hsq, .inr (2, [.ref asq, .int (nI uq)])), (asq, .inl (cI, 2048, .inl fq)), (hsm, .inr (2, [.ref asm, .int (nI u2)])), (asm, .inl (cI, 2, .inl f2)), (hti, .inr (0, [.ref ati, .int (nI 0)])), (ati, .inl (cB, 65536, .inl ft))] H := hP
      have hD : va_D A [(h, .inr (3, [.ref hti, .ref hto, .ref hnu, .ref hsp, .ref hsq, .ref hsm, .long lv2])), (hto, .inr (1, [.ref ato, .int (nI st)])), (ato, .inl (cB, 65536, .inl fx)), (hnu, .inr (2, [.ref anu, .int (nI uN)])), (anu, .inl (cI, 2048, .inl fN)), (hsp, .inr (2, [.ref asp, .int (nI us)])), (asp, .inl (cI, 2048, .inl fs)), (hsq, .inr (2, [.ref asq, .int (nI uq)])), (asq, .inl (cI, 2048, .inl fq)), (hsm, .inr (2, [.ref asm, .int (nI u2)])), (asm, .inl (cI, 2, .inl f2)), (hti, .inr (0, [.ref ati, .int (nI 0)])), (ati, .inl (cB, 65536, .inl ft))] := hD
      have hP := hP.sub (ws' := [(h, .inr (3, [.ref hti, .ref hto, .ref hnu, .ref hsp, .ref hsq, .ref hsm, .long lv2])), (hti, .inr (0, [.ref ati, .int (nI 0)])), (ati, .inl (cB, 65536, .inl ft)), (hto, .inr (1, [.ref ato, .int (nI st)])), (ato, .inl (cB, 65536, .inl fx)), (hnu, .inr (2, [.ref anu, .int (nI uN)])), (anu, .inl (cI, 2048, .inl fN)), (hsp, .inr (2, [.ref asp, .int (nI us)])), (asp, .inl (cI, 2048, .inl fs)), (hsq, .inr (2, [.ref asq, .int (nI uq)])), (asq, .inl (cI, 2048, .inl fq)), (hsm, .inr (2, [.ref asm, .int (nI u2)])), (asm, .inl (cI, 2, .inl f2))]) [0, 11, 12, 1, 2, 3, 4, 5, 6, 7, 8, 9, 10] rfl
      have hD := hD.sub (ws' := [(h, .inr (3, [.ref hti, .ref hto, .ref hnu, .ref hsp, .ref hsq, .ref hsm, .long lv2])), (hti, .inr (0, [.ref ati, .int (nI 0)])), (ati, .inl (cB, 65536, .inl ft)), (hto, .inr (1, [.ref ato, .int (nI st)])), (ato, .inl (cB, 65536, .inl fx)), (hnu, .inr (2, [.ref anu, .int (nI uN)])), (anu, .inl (cI, 2048, .inl fN)), (hsp, .inr (2, [.ref asp, .int (nI us)])), (asp, .inl (cI, 2048, .inl fs)), (hsq, .inr (2, [.ref asq, .int (nI uq)])), (asq, .inl (cI, 2048, .inl fq)), (hsm, .inr (2, [.ref asm, .int (nI u2)])), (asm, .inl (cI, 2, .inl f2))]) [0, 11, 12, 1, 2, 3, 4, 5, 6, 7, 8, 9, 10] (by decide) rfl
      refine lv_iload hx hb dX3_parse_32 (lv_at hl 0 rfl) ?_
      exact dm_iret hC hK (f2, u2, lv2, 0) (Or.inr ⟨wn, r, hwn, hr2, hr36, rfl, rfl, rfl, hw⟩) hP hD hS dX3_parse_34
    · refine lv_iconst (v := nI 3) hx hb dX3_parse_14 (by decide) ?_
      exact dm_iret hC hK (fm, um, lv, n) (Or.inl ⟨fun h9 => (e2.resolve_left (fun h8 => absurd (hd.symm.trans h8.2) (by decide))).1 h9.2, rfl, rfl, rfl⟩) hP hD hS dX3_parse_15
