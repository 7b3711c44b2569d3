set_option maxRecDepth 100000 in
set_option maxHeartbeats 4000000 in
theorem c_X3_typed (l : Launch) (D : va_G) (cB cI cC : ClassId) (h hti ati hto ato hnu anu hsp asp hsq asq hsm asm n st uN us uq um : Nat) (ft fx fN fs fq fm : Nat → Int32) (lv : Int64) : ROi l yX3_typed (Cond.code yX3_typed cX3_typed 1 (some .int)) 1 D (TY cB cI cC) [.ref h] [(h, .inr (3, [.ref hti, .ref hto, .ref hnu, .ref hsp, .ref hsq, .ref hsm, .long lv])), (hti, .inr (0, [.ref ati, .int (nI n)])), (ati, .inl (cB, 65536, .inl ft)), (hto, .inr (1, [.ref ato, .int (nI st)])), (ato, .inl (cB, 65536, .inl fx)), (hnu, .inr (2, [.ref anu, .int (nI uN)])), (anu, .inl (cI, 2048, .inl fN)), (hsp, .inr (2, [.ref asp, .int (nI us)])), (asp, .inl (cI, 2048, .inl fs)), (hsq, .inr (2, [.ref asq, .int (nI uq)])), (asq, .inl (cI, 2048, .inl fq)), (hsm, .inr (2, [.ref asm, .int (nI um)])), (asm, .inl (cI, 2, .inl fm))] (fun r => r = nI n) := by
  refine ROi.of (by decide) (Nat.le_of_ble_eq_true rfl) ?_
  intro p e s m below meth c ls A hC hA hP hK hD hS hl
  obtain ⟨hx, hb, hr, hml, hown, hts, hlocks, hN⟩ := id hC
  have hown : s.vm.findClass RX3 = some m.cls := hown
  have hl : lv_has ls 1 [(0, .ref h)] := hl
  refine lv_aload_n hx hb dX3_typed_0 rfl (lv_at hl 0 rfl) ?_
  refine va_get (D := D) (ci := 3) (C := RX3) (T := TX3) (N := 7) (v := .ref hti) hx hb hts kin_X3_w hown hK hP 0 rfl rfl 0 (by decide) (hts _ kfl_X3_10) (fun _ h9 => h9) rfl dX3_typed_1 ?_
  refine dm_gori (dm_rVN (n := 0) (As := []) (rest := []) hC hl (c_X0_size l D cB cI cC hti ati n ft s.heap.size) kco_X0_size ki_X0 kim_X0_size kse_X0_size knl_X3_113 (by decide +kernel) ⟨Nat.le_of_ble_eq_true rfl, Nat.le_of_ble_eq_true rfl⟩ rfl rfl ⟨dm_blind, va_recv hK hP (ci := 0) (q0 := 1) rfl rfl, dm_preU hK hP hD hC.2.2.2.2.2.2.2 [1, 2] (by decide) rfl⟩ rfl rfl (Nat.le_of_ble_eq_true rfl) dX3_typed_4 ⟨Nat.le_of_ble_eq_true rfl, Nat.le_of_ble_eq_true rfl⟩) (fun r h1 => ?_)
  exact ri_iret hC (h1) dX3_typed_7

set_option maxRecDepth 100000 in
set_option maxHeartbeats 4000000 in
theorem c_X3_word (l : Launch) (D : va_G) (cB cI cC : ClassId) (h hti ati hto ato hnu anu hsp asp hsq asq hsm asm n st uN us uq um : Nat) (ft fx fN fs fq fm : Nat → Int32) (lv : Int64) (k : Int32) (huN : uN ≤ 2048) : ROi l yX3_word (Cond.code yX3_word cX3_word 2 (some .int)) 1 D (TY cB cI cC) [.ref h, .int k] [(h, .inr (3, [.ref hti, .ref hto, .ref hnu, .ref hsp, .ref hsq, .ref hsm, .long lv])), (hti, .inr (0, [.ref ati, .int (nI n)])), (ati, .inl (cB, 65536, .inl ft)), (hto, .inr (1, [.ref ato, .int (nI st)])), (ato, .inl (cB, 65536, .inl fx)), (hnu, .inr (2, [.ref anu, .int (nI uN)])), (anu, .inl (cI, 2048, .inl fN)), (hsp, .inr (2, [.ref asp, .int (nI us)])), (asp, .inl (cI, 2048, .inl fs)), (hsq, .inr (2, [.ref asq, .int (nI uq)])), (asq, .inl (cI, 2048, .inl fq)), (hsm, .inr (2, [.ref asm, .int (nI um)])), (asm, .inl (cI, 2, .inl fm))] (fun r => r = wAt fN uN k) := by
  refine ROi.of (by decide) (Nat.le_of_ble_eq_true rfl) ?_
  intro p e s m below meth c ls A hC hA hP hK hD hS hl
  obtain ⟨hx, hb, hr, hml, hown, hts, hlocks, hN⟩ := id hC
  have hown : s.vm.findClass RX3 = some m.cls := hown
  have hl : lv_has ls 2 [(0, .ref h), (1, .int k)] := hl
  refine lv_aload_n hx hb dX3_word_0 rfl (lv_at hl 0 rfl) ?_
  refine va_get (D := D) (ci := 3) (C := RX3) (T := TX3) (N := 7) (v := .ref hnu) hx hb hts kin_X3_w hown hK hP 0 rfl rfl 2 (by decide) (hts _ kfl_X3_28) (fun _ h9 => h9) rfl dX3_word_1 ?_
  refine lv_iload_n hx hb dX3_word_4 rfl (lv_at hl 1 rfl) ?_
  refine dm_gori (dm_rVN (n := 1) (As := [.int k]) (rest := []) hC hl (c_X2_wordAt l D cB cI cC hnu anu 2048 uN fN k huN (by decide) s.heap.size) kco_X2_wordAt ki_X2 kim_X2_wordAt kse_X2_wordAt knl_X3_104 (by decide +kernel) ⟨Nat.le_of_ble_eq_true rfl, Nat.le_of_ble_eq_true rfl⟩ rfl rfl ⟨dm_blind, va_recv hK hP (ci := 2) (q0 := 5) rfl rfl, dm_preU hK hP hD hC.2.2.2.2.2.2.2 [5, 6] (by decide) rfl⟩ rfl rfl (Nat.le_of_ble_eq_true rfl) dX3_word_5 ⟨Nat.le_of_ble_eq_true rfl, Nat.le_of_ble_eq_true rfl⟩) (fun r h1 => ?_)
  exact ri_iret hC (h1) dX3_word_8

set_option maxRecDepth 100000 in
set_option maxHeartbeats 4000000 in
theorem c_X3_bits (l : Launch) (D : va_G) (cB cI cC : ClassId) (h hti ati hto ato hnu anu hsp asp hsq asq hsm asm n st uN us uq um : Nat) (ft fx fN fs fq fm : Nat → Int32) (lv : Int64) (huN : uN ≤ 2048) (hnr : nrm fN uN) : ROi l yX3_bits (Cond.code yX3_bits cX3_bits 1 (some .int)) 2 D (TY cB cI cC) [.ref h] [(h, .inr (3, [.ref hti, .ref hto, .ref hnu, .ref hsp, .ref hsq, .ref hsm, .long lv])), (hti, .inr (0, [.ref ati, .int (nI n)])), (ati, .inl (cB, 65536, .inl ft)), (hto, .inr (1, [.ref ato, .int (nI st)])), (ato, .inl (cB, 65536, .inl fx)), (hnu, .inr (2, [.ref anu, .int (nI uN)])), (anu, .inl (cI, 2048, .inl fN)), (hsp, .inr (2, [.ref asp, .int (nI us)])), (asp, .inl (cI, 2048, .inl fs)), (hsq, .inr (2, [.ref asq, .int (nI uq)])), (asq, .inl (cI, 2048, .inl fq)), (hsm, .inr (2, [.ref asm, .int (nI um)])), (asm, .inl (cI, 2, .inl fm))] (fun r => r = nI (bl (dvb 4294967296 fN uN))) := by
  refine ROi.of (by decide) (Nat.le_of_ble_eq_true rfl) ?_
  intro p e s m below meth c ls A hC hA hP hK hD hS hl
  obtain ⟨hx, hb, hr, hml, hown, hts, hlocks, hN⟩ := id hC
  have hown : s.vm.findClass RX3 = some m.cls := hown
  have hl : lv_has ls 1 [(0, .ref h)] := hl
  refine lv_aload_n hx hb dX3_bits_0 rfl (lv_at hl 0 rfl) ?_
  refine va_get (D := D) (ci := 3) (C := RX3) (T := TX3) (N := 7) (v := .ref hnu) hx hb hts kin_X3_w hown hK hP 0 rfl rfl 2 (by decide) (hts _ kfl_X3_28) (fun _ h9 => h9) rfl dX3_bits_1 ?_
  refine dm_gori (dm_rVN (n := 0) (As := []) (rest := []) hC hl (c_X2_countBits l D cB cI cC hnu anu 2048 uN fN huN (by decide) hnr s.heap.size) kco_X2_countBits ki_X2 kim_X2_countBits kse_X2_countBits knl_X3_107 (by decide +kernel) ⟨Nat.le_of_ble_eq_true rfl, Nat.le_of_ble_eq_true rfl⟩ rfl rfl ⟨dm_blind, va_recv hK hP (ci := 2) (q0 := 5) rfl rfl, dm_preU hK hP hD hC.2.2.2.2.2.2.2 [5, 6] (by decide) rfl⟩ rfl rfl (Nat.le_of_ble_eq_true rfl) dX3_bits_4 ⟨Nat.le_of_ble_eq_true rfl, Nat.le_of_ble_eq_true rfl⟩) (fun r h1 => ?_)
  exact ri_iret hC (h1) dX3_bits_7

set_option maxRecDepth 100000 in
set_option maxHeartbeats 4000000 in
theorem c_X3_characterAt (l : Launch) (D : va_G) (cB cI cC : ClassId) (h hti ati hto ato hnu anu hsp asp hsq asq hsm asm n st uN us uq um : Nat) (ft fx fN fs fq fm : Nat → Int32) (lv : Int64) (k : Int32) (hst : st ≤ 65536) : ROi l yX3_characterAt (Cond.code yX3_characterAt cX3_characterAt 2 (some .int)) 2 D (TY cB cI cC) [.ref h, .int k] [(h, .inr (3, [.ref hti, .ref hto, .ref hnu, .ref hsp, .ref hsq, .ref hsm, .long lv])), (hti, .inr (0, [.ref ati, .int (nI n)])), (ati, .inl (cB, 65536, .inl ft)), (hto, .inr (1, [.ref ato, .int (nI st)])), (ato, .inl (cB, 65536, .inl fx)), (hnu, .inr (2, [.ref anu, .int (nI uN)])), (anu, .inl (cI, 2048, .inl fN)), (hsp, .inr (2, [.ref asp, .int (nI us)])), (asp, .inl (cI, 2048, .inl fs)), (hsq, .inr (2, [.ref asq, .int (nI uq)])), (asq, .inl (cI, 2048, .inl fq)), (hsm, .inr (2, [.ref asm, .int (nI um)])), (asm, .inl (cI, 2, .inl fm))] (fun r => (∀ j, j < 65536 - st → k = nI j → r = fx (st + j)) ∧ ((∀ j, j < 65536 - st → k ≠ nI j) → r = -1)) := by
  refine ROi.of (by decide) (Nat.le_of_ble_eq_true rfl) ?_
  intro p e s m below meth c ls A hC hA hP hK hD hS hl
  obtain ⟨hx, hb, hr, hml, hown, hts, hlocks, hN⟩ := id hC
  have hown : s.vm.findClass RX3 = some m.cls := hown
  have hl : lv_has ls 2 [(0, .ref h), (1, .int k)] := hl
  refine lv_aload_n hx hb dX3_characterAt_0 rfl (lv_at hl 0 rfl) ?_
  refine va_get (D := D) (ci := 3) (C := RX3) (T := TX3) (N := 7) (v := .ref hto) hx hb hts kin_X3_w hown hK hP 0 rfl rfl 1 (by decide) (hts _ kfl_X3_19) (fun _ h9 => h9) rfl dX3_characterAt_1 ?_
  refine lv_iload_n hx hb dX3_characterAt_4 rfl (lv_at hl 1 rfl) ?_
  refine dm_gori (dm_rVN (n := 1) (As := [.int k]) (rest := []) hC hl (c_X1_codeAt l D cB cI cC hto ato st fx k hst s.heap.size) kco_X1_codeAt ki_X1 kim_X1_codeAt kse_X1_codeAt knl_X3_110 (by decide +kernel) ⟨Nat.le_of_ble_eq_true rfl, Nat.le_of_ble_eq_true rfl⟩ rfl rfl ⟨dm_blind, va_recv hK hP (ci := 1) (q0 := 3) rfl rfl, dm_preU hK hP hD hC.2.2.2.2.2.2.2 [3, 4] (by decide) rfl⟩ rfl rfl (Nat.le_of_ble_eq_true rfl) dX3_characterAt_5 ⟨Nat.le_of_ble_eq_true rfl, Nat.le_of_ble_eq_true rfl⟩) (fun r h1 => ?_)
  exact ri_iret hC (h1) dX3_characterAt_8

set_option maxRecDepth 100000 in
set_option maxHeartbeats 4000000 in
theorem c_X3_value (l : Launch) (D : va_G) (cB cI cC : ClassId) (h hti ati hto ato hnu anu hsp asp hsq asq hsm asm n st uN us uq um : Nat) (ft fx fN fs fq fm : Nat → Int32) (lv : Int64) : ROl l yX3_value (Cond.code yX3_value cX3_value 1 (some .long)) 0 D (TY cB cI cC) [.ref h] [(h, .inr (3, [.ref hti, .ref hto, .ref hnu, .ref hsp, .ref hsq, .ref hsm, .long lv])), (hti, .inr (0, [.ref ati, .int (nI n)])), (ati, .inl (cB, 65536, .inl ft)), (hto, .inr (1, [.ref ato, .int (nI st)])), (ato, .inl (cB, 65536, .inl fx)), (hnu, .inr (2, [.ref anu, .int (nI uN)])), (anu, .inl (cI, 2048, .inl fN)), (hsp, .inr (2, [.ref asp, .int (nI us)])), (asp, .inl (cI, 2048, .inl fs)), (hsq, .inr (2, [.ref asq, .int (nI uq)])), (asq, .inl (cI, 2048, .inl fq)), (hsm, .inr (2, [.ref asm, .int (nI um)])), (asm, .inl (cI, 2, .inl fm))] (fun r => r = lv) := by
  refine ROl.of (by decide) (Nat.le_of_ble_eq_true rfl) ?_
  intro p e s m below meth c ls A hC hA hP hK hD hS hl
  obtain ⟨hx, hb, hr, hml, hown, hts, hlocks, hN⟩ := id hC
  have hown : s.vm.findClass RX3 = some m.cls := hown
  have hl : lv_has ls 1 [(0, .ref h)] := hl
  refine lv_aload_n hx hb dX3_value_0 rfl (lv_at hl 0 rfl) ?_
  refine va_get (D := D) (ci := 3) (C := RX3) (T := TX3) (N := 7) (v := .long lv) hx hb hts kin_X3_w hown hK hP 0 rfl rfl 6 (by decide) (hts _ kfl_X3_41) (fun _ h9 => h9) rfl dX3_value_1 ?_
  exact ri_lret hC (rfl) dX3_value_4

set_option maxRecDepth 100000 in
set_option maxHeartbeats 4000000 in
theorem c_X3_type (l : Launch) (D : va_G) (cB cI cC : ClassId) (h hti ati hto ato hnu anu hsp asp hsq asq hsm asm n st uN us uq um : Nat) (ft fx fN fs fq fm : Nat → Int32) (lv : Int64) (x : Nat) (T : Nat → Nat) (hn : n ≤ 65536) (hx8 : x < 18446744073709551616) (htx : txt n T ft) : MI l yX3_type (Cond.code yX3_type cX3_type 3 (some .boolean)) 1 D (TY cB cI cC) [.ref h, .long (lN x)] [(h, .inr (3, [.ref hti, .ref hto, .ref hnu, .ref hsp, .ref hsq, .ref hsm, .long lv])), (hti, .inr (0, [.ref ati, .int (nI n)])), (ati, .inl (cB, 65536, .inl ft)), (hto, .inr (1, [.ref ato, .int (nI st)])), (ato, .inl (cB, 65536, .inl fx)), (hnu, .inr (2, [.ref anu, .int (nI uN)])), (anu, .inl (cI, 2048, .inl fN)), (hsp, .inr (2, [.ref asp, .int (nI us)])), (asp, .inl (cI, 2048, .inl fs)), (hsq, .inr (2, [.ref asq, .int (nI uq)])), (asq, .inl (cI, 2048, .inl fq)), (hsm, .inr (2, [.ref asm, .int (nI um)])), (asm, .inl (cI, 2, .inl fm))] (S := (Nat → Int32) × Nat) (fun r q => (tyOK x n ∧ r = 1 ∧ q.2 = n + (tyl x 8).length ∧ txt q.2 (T2 n T (tyl x 8)) q.1) ∨ (¬ tyOK x n ∧ r = 0 ∧ q = (ft, n))) (fun q => [(h, .inr (3, [.ref hti, .ref hto, .ref hnu, .ref hsp, .ref hsq, .ref hsm, .long lv])), (hti, .inr (0, [.ref ati, .int (nI q.2)])), (ati, .inl (cB, 65536, .inl q.1)), (hto, .inr (1, [.ref ato, .int (nI st)])), (ato, .inl (cB, 65536, .inl fx)), (hnu, .inr (2, [.ref anu, .int (nI uN)])), (anu, .inl (cI, 2048, .inl fN)), (hsp, .inr (2, [.ref asp, .int (nI us)])), (asp, .inl (cI, 2048, .inl fs)), (hsq, .inr (2, [.ref asq, .int (nI uq)])), (asq, .inl (cI, 2048, .inl fq)), (hsm, .inr (2, [.ref asm, .int (nI um)])), (asm, .inl (cI, 2, .inl fm))]) := by
  refine MI.of (by decide) (Nat.le_of_ble_eq_true rfl) ?_
  intro p e s m below meth c ls A hC hA hP hK hD hS hl
  obtain ⟨hx, hb, hr, hml, hown, hts, hlocks, hN⟩ := id hC
  have hown : s.vm.findClass RX3 = some m.cls := hown
  have hl : lv_has ls 3 [(0, .ref h), (1, .long (lN x))] := hl
  refine lv_aload_n hx hb dX3_type_0 rfl (lv_at hl 0 rfl) ?_
  refine va_get (D := D) (ci := 3) (C := RX3) (T := TX3) (N := 7) (v := .ref hti) hx hb hts kin_X3_w hown hK hP 0 rfl rfl 0 (by decide) (hts _ kfl_X3_10) (fun _ h9 => h9) rfl dX3_type_1 ?_
  refine lv_lload_n hx hb dX3_type_4 rfl (lv_at hl 1 rfl) ?_
  refine dm_goi (wr := [(h, .inr (3, [.ref hti, .ref hto, .ref hnu, .ref hsp, .ref hsq, .ref hsm, .long lv])), (hto, .inr (1, [.ref ato, .int (nI st)])), (ato, .inl (cB, 65536, .inl fx)), (hnu, .inr (2, [.ref anu, .int (nI uN)])), (anu, .inl (cI, 2048, .inl fN)), (hsp, .inr (2, [.ref asp, .int (nI us)])), (asp, .inl (cI, 2048, .inl fs)), (hsq, .inr (2, [.ref asq, .int (nI uq)])), (asq, .inl (cI, 2048, .inl fq)), (hsm, .inr (2, [.ref asm, .int (nI um)])), (asm, .inl (cI, 2, .inl fm))]) (dm_rVN (n := 1) (As := [.long (lN x)]) (rest := []) hC hl (c_X0_appendBytes l D cB cI cC hti ati n x T ft hn hx8 htx s.heap.size) kco_X0_appendBytes ki_X0 kim_X0_appendBytes kse_X0_appendBytes knl_X3_45 (by decide +kernel) ⟨Nat.le_of_ble_eq_true rfl, Nat.le_of_ble_eq_true rfl⟩ rfl rfl ⟨dm_blind, va_recv hK hP (ci := 0) (q0 := 1) rfl rfl, dm_preU hK hP hD hC.2.2.2.2.2.2.2 [1, 2] (by decide) rfl⟩ rfl rfl (Nat.le_of_ble_eq_true rfl) dX3_type_5 ⟨Nat.le_of_ble_eq_true rfl, Nat.le_of_ble_eq_true rfl⟩) hP hD hS hA [1, 2] [0, 3, 4, 5, 6, 7, 8, 9, 10, 11, 12] rfl rfl (by decide) (by decide) (fun r q H locs hw hP hD hS => ?_)
  obtain ⟨f2, n2⟩ := q
  have hP : va_P D vwCl [(h, .inr (3, [.ref hti, .ref hto, .ref hnu, .ref hsp, .ref hsq, .ref hsm, .long lv])), (hto, .inr (1, [.ref ato, .int (nI st)])), (ato, .inl (cB, 65536, .inl fx)), (hnu, .inr (2, [.ref anu, .int (nI uN)])), (anu, .inl (cI, 2048, .inl fN)), (hsp, .inr (2, [.ref asp, .int (nI us)])), (asp, .inl (cI, 2048, .inl fs)), (hsq, .inr (2, [.ref asq, .int (nI uq)])), (asq, .inl (cI, 2048, .inl fq)), (hsm, .inr (2, [.ref asm, .int (nI um)])), (asm, .inl (cI, 2, .inl fm)), (hti, .inr (0, [.ref ati, .int (nI n2)])), (ati, .inl (cB, 65536, .inl f2))] H := hP
  have hD : va_D A [(h, .inr (3, [.ref hti, .ref hto, .ref hnu, .ref hsp, .ref hsq, .ref hsm, .long lv])), (hto, .inr (1, [.ref ato, .int (nI st)])), (ato, .inl (cB, 65536, .inl fx)), (hnu, .inr (2, [.ref anu, .int (nI uN)])), (anu, .inl (cI, 2048, .inl fN)), (hsp, .inr (2, [.ref asp, .int (nI us)])), (asp, .inl (cI, 2048, .inl fs)), (hsq, .inr (2, [.ref asq, .int (nI uq)])), (asq, .inl (cI, 2048, .inl fq)), (hsm, .inr (2, [.ref asm, .int (nI um)])), (asm, .inl (cI, 2, .inl fm)), (hti, .inr (0, [.ref ati, .int (nI n2)])), (ati, .inl (cB, 65536, .inl f2))] := hD
  have hP := hP.sub (ws' := [(h, .inr (3, [.ref hti, .ref hto, .ref hnu, .ref hsp, .ref hsq, .ref hsm, .long lv])), (hti, .inr (0, [.ref ati, .int (nI n2)])), (ati, .inl (cB, 65536, .inl f2)), (hto, .inr (1, [.ref ato, .int (nI st)])), (ato, .inl (cB, 65536, .inl fx)), (hnu, .inr (2, [.ref anu, .int (nI uN)])), (anu, .inl (cI, 2048, .inl fN)), (hsp, .inr (2, [.ref asp, .int (nI us)])), (asp, .inl (cI, 2048, .inl fs)), (hsq, .inr (2, [.ref asq, .int (nI uq)])), (asq, .inl (cI, 2048, .inl fq)), (hsm, .inr (2, [.ref asm, .int (nI um)])), (asm, .inl (cI, 2, .inl fm))]) [0, 11, 12, 1, 2, 3, 4, 5, 6, 7, 8, 9, 10] rfl
  have hD := hD.sub (ws' := [(h, .inr (3, [.ref hti, .ref hto, .ref hnu, .ref hsp, .ref hsq, .ref hsm, .long lv])), (hti, .inr (0, [.ref ati, .int (nI n2)])), (ati, .inl (cB, 65536, .inl f2)), (hto, .inr (1, [.ref ato, .int (nI st)])), (ato, .inl (cB, 65536, .inl fx)), (hnu, .inr (2, [.ref anu, .int (nI uN)])), (anu, .inl (cI, 2048, .inl fN)), (hsp, .inr (2, [.ref asp, .int (nI us)])), (asp, .inl (cI, 2048, .inl fs)), (hsq, .inr (2, [.ref asq, .int (nI uq)])), (asq, .inl (cI, 2048, .inl fq)), (hsm, .inr (2, [.ref asm, .int (nI um)])), (asm, .inl (cI, 2, .inl fm))]) [0, 11, 12, 1, 2, 3, 4, 5, 6, 7, 8, 9, 10] (by decide) rfl
  exact dm_zret hC (hw.elim (fun h9 => Or.inr h9.2.1) (fun h9 => Or.inl h9.2.1)) hK (f2, n2) hw hP hD hS dX3_type_8

set_option maxRecDepth 100000 in
set_option maxHeartbeats 4000000 in
theorem c_X3_repeat (l : Launch) (D : va_G) (cB cI cC : ClassId) (h hti ati hto ato hnu anu hsp asp hsq asq hsm asm n st uN us uq um : Nat) (ft fx fN fs fq fm : Nat → Int32) (lv : Int64) (mm kk : Int32) (T : Nat → Nat) (hn : n ≤ 65536) (htx : txt n T ft) : MI l yX3_repeat (Cond.code yX3_repeat cX3_repeat 3 (some .boolean)) 1 D (TY cB cI cC) [.ref h, .int mm, .int kk] [(h, .inr (3, [.ref hti, .ref hto, .ref hnu, .ref hsp, .ref hsq, .ref hsm, .long lv])), (hti, .inr (0, [.ref ati, .int (nI n)])), (ati, .inl (cB, 65536, .inl ft)), (hto, .inr (1, [.ref ato, .int (nI st)])), (ato, .inl (cB, 65536, .inl fx)), (hnu, .inr (2, [.ref anu, .int (nI uN)])), (anu, .inl (cI, 2048, .inl fN)), (hsp, .inr (2, [.ref asp, .int (nI us)])), (asp, .inl (cI, 2048, .inl fs)), (hsq, .inr (2, [.ref asq, .int (nI uq)])), (asq, .inl (cI, 2048, .inl fq)), (hsm, .inr (2, [.ref asm, .int (nI um)])), (asm, .inl (cI, 2, .inl fm))] (S := (Nat → Int32) × Nat) (fun r q => (∃ m k, rpOK mm kk n m k ∧ r = 1 ∧ q.2 = n + m * k ∧ txt q.2 (T3 n m T) q.1) ∨ ((∀ m k, ¬ rpOK mm kk n m k) ∧ r = 0 ∧ q = (ft, n))) (fun q => [(h, .inr (3, [.ref hti, .ref hto, .ref hnu, .ref hsp, .ref hsq, .ref hsm, .long lv])), (hti, .inr (0, [.ref ati, .int (nI q.2)])), (ati, .inl (cB, 65536, .inl q.1)), (hto, .inr (1, [.ref ato, .int (nI st)])), (ato, .inl (cB, 65536, .inl fx)), (hnu, .inr (2, [.ref anu, .int (nI uN)])), (anu, .inl (cI, 2048, .inl fN)), (hsp, .inr (2, [.ref asp, .int (nI us)])), (asp, .inl (cI, 2048, .inl fs)), (hsq, .inr (2, [.ref asq, .int (nI uq)])), (asq, .inl (cI, 2048, .inl fq)), (hsm, .inr (2, [.ref asm, .int (nI um)])), (asm, .inl (cI, 2, .inl fm))]) := by
  refine MI.of (by decide) (Nat.le_of_ble_eq_true rfl) ?_
  intro p e s m below meth c ls A hC hA hP hK hD hS hl
  obtain ⟨hx, hb, hr, hml, hown, hts, hlocks, hN⟩ := id hC
  have hown : s.vm.findClass RX3 = some m.cls := hown
  have hl : lv_has ls 3 [(0, .ref h), (1, .int mm), (2, .int kk)] := hl
  refine lv_aload_n hx hb dX3_repeat_0 rfl (lv_at hl 0 rfl) ?_
  refine va_get (D := D) (ci := 3) (C := RX3) (T := TX3) (N := 7) (v := .ref hti) hx hb hts kin_X3_w hown hK hP 0 rfl rfl 0 (by decide) (hts _ kfl_X3_10) (fun _ h9 => h9) rfl dX3_repeat_1 ?_
  refine lv_iload_n hx hb dX3_repeat_4 rfl (lv_at hl 1 rfl) ?_
  refine lv_iload_n hx hb dX3_repeat_5 rfl (lv_at hl 2 rfl) ?_
  refine dm_goi (wr := [(h, .inr (3, [.ref hti, .ref hto, .ref hnu, .ref hsp, .ref hsq, .ref hsm, .long lv])), (hto, .inr (1, [.ref ato, .int (nI st)])), (ato, .inl (cB, 65536, .inl fx)), (hnu, .inr (2, [.ref anu, .int (nI uN)])), (anu, .inl (cI, 2048, .inl fN)), (hsp, .inr (2, [.ref asp, .int (nI us)])), (asp, .inl (cI, 2048, .inl fs)), (hsq, .inr (2, [.ref asq, .int (nI uq)])), (asq, .inl (cI, 2048, .inl fq)), (hsm, .inr (2, [.ref asm, .int (nI um)])), (asm, .inl (cI, 2, .inl fm))]) (dm_rVN (n := 2) (As := [.int mm, .int kk]) (rest := []) hC hl (c_X0_appendEnd l D cB cI cC hti ati n mm kk T ft hn htx s.heap.size) kco_X0_appendEnd ki_X0 kim_X0_appendEnd kse_X0_appendEnd knl_X3_49 (by decide +kernel) ⟨Nat.le_of_ble_eq_true rfl, Nat.le_of_ble_eq_true rfl⟩ rfl rfl ⟨dm_blind, va_recv hK hP (ci := 0) (q0 := 1) rfl rfl, dm_preU hK hP hD hC.2.2.2.2.2.2.2 [1, 2] (by decide) rfl⟩ rfl rfl (Nat.le_of_ble_eq_true rfl) dX3_repeat_6 ⟨Nat.le_of_ble_eq_true rfl, Nat.le_of_ble_eq_true rfl⟩) hP hD hS hA [1, 2] [0, 3, 4, 5, 6, 7, 8, 9, 10, 11, 12] rfl rfl (by decide) (by decide) (fun r q H locs hw hP hD hS => ?_)
  obtain ⟨f2, n2⟩ := q
  have hP : va_P D vwCl [(h, .inr (3, [.ref hti, .ref hto, .ref hnu, .ref hsp, .ref hsq, .ref hsm, .long lv])), (hto, .inr (1, [.ref ato, .int (nI st)])), (ato, .inl (cB, 65536, .inl fx)), (hnu, .inr (2, [.ref anu, .int (nI uN)])), (anu, .inl (cI, 2048, .inl fN)), (hsp, .inr (2, [.ref asp, .int (nI us)])), (asp, .inl (cI, 2048, .inl fs)), (hsq, .inr (2, [.ref asq, .int (nI uq)])), (asq, .inl (cI, 2048, .inl fq)), (hsm, .inr (2, [.ref asm, .int (nI um)])), (asm, .inl (cI, 2, .inl fm)), (hti, .inr (0, [.ref ati, .int (nI n2)])), (ati, .inl (cB, 65536, .inl f2))] H := hP
  have hD : va_D A [(h, .inr (3, [.ref hti, .ref hto, .ref hnu, .ref hsp, .ref hsq, .ref hsm, .long lv])), (hto, .inr (1, [.ref ato, .int (nI st)])), (ato, .inl (cB, 65536, .inl fx)), (hnu, .inr (2, [.ref anu, .int (nI uN)])), (anu, .inl (cI, 2048, .inl fN)), (hsp, .inr (2, [.ref asp, .int (nI us)])), (asp, .inl (cI, 2048, .inl fs)), (hsq, .inr (2, [.ref asq, .int (nI uq)])), (asq, .inl (cI, 2048, .inl fq)), (hsm, .inr (2, [.ref asm, .int (nI um)])), (asm, .inl (cI, 2, .inl fm)), (hti, .inr (0, [.ref ati, .int (nI n2)])), (ati, .inl (cB, 65536, .inl f2))] := hD
  have hP := hP.sub (ws' := [(h, .inr (3, [.ref hti, .ref hto, .ref hnu, .ref hsp, .ref hsq, .ref hsm, .long lv])), (hti, .inr (0, [.ref ati, .int (nI n2)])), (ati, .inl (cB, 65536, .inl f2)), (hto, .inr (1, [.ref ato, .int (nI st)])), (ato, .inl (cB, 65536, .inl fx)), (hnu, .inr (2, [.ref anu, .int (nI uN)])), (anu, .inl (cI, 2048, .inl fN)), (hsp, .inr (2, [.ref asp, .int (nI us)])), (asp, .inl (cI, 2048, .inl fs)), (hsq, .inr (2, [.ref asq, .int (nI uq)])), (asq, .inl (cI, 2048, .inl fq)), (hsm, .inr (2, [.ref asm, .int (nI um)])), (asm, .inl (cI, 2, .inl fm))]) [0, 11, 12, 1, 2, 3, 4, 5, 6, 7, 8, 9, 10] rfl
  have hD := hD.sub (ws' := [(h, .inr (3, [.ref hti, .ref hto, .ref hnu, .ref hsp, .ref hsq, .ref hsm, .long lv])), (hti, .inr (0, [.ref ati, .int (nI n2)])), (ati, .inl (cB, 65536, .inl f2)), (hto, .inr (1, [.ref ato, .int (nI st)])), (ato, .inl (cB, 65536, .inl fx)), (hnu, .inr (2, [.ref anu, .int (nI uN)])), (anu, .inl (cI, 2048, .inl fN)), (hsp, .inr (2, [.ref asp, .int (nI us)])), (asp, .inl (cI, 2048, .inl fs)), (hsq, .inr (2, [.ref asq, .int (nI uq)])), (asq, .inl (cI, 2048, .inl fq)), (hsm, .inr (2, [.ref asm, .int (nI um)])), (asm, .inl (cI, 2, .inl fm))]) [0, 11, 12, 1, 2, 3, 4, 5, 6, 7, 8, 9, 10] (by decide) rfl
  exact dm_zret hC (hw.elim (fun ⟨_, _, h9⟩ => Or.inr h9.2.1) (fun h9 => Or.inl h9.2.1)) hK (f2, n2) hw hP hD hS dX3_repeat_9

set_option maxRecDepth 100000 in
set_option maxHeartbeats 4000000 in
theorem c_X3_push (l : Launch) (D : va_G) (cB cI cC : ClassId) (h hti ati hto ato hnu anu hsp asp hsq asq hsm asm n st uN us uq um : Nat) (ft fx fN fs fq fm : Nat → Int32) (lv : Int64) (x : Nat) (huN : uN ≤ 2048) (hx8 : x < 18446744073709551616) : MI l yX3_push (Cond.code yX3_push cX3_push 3 (some .boolean)) 2 D (TY cB cI cC) [.ref h, .long (lN x)] [(h, .inr (3, [.ref hti, .ref hto, .ref hnu, .ref hsp, .ref hsq, .ref hsm, .long lv])), (hti, .inr (0, [.ref ati, .int (nI n)])), (ati, .inl (cB, 65536, .inl ft)), (hto, .inr (1, [.ref ato, .int (nI st)])), (ato, .inl (cB, 65536, .inl fx)), (hnu, .inr (2, [.ref anu, .int (nI uN)])), (anu, .inl (cI, 2048, .inl fN)), (hsp, .inr (2, [.ref asp, .int (nI us)])), (asp, .inl (cI, 2048, .inl fs)), (hsq, .inr (2, [.ref asq, .int (nI uq)])), (asq, .inl (cI, 2048, .inl fq)), (hsm, .inr (2, [.ref asm, .int (nI um)])), (asm, .inl (cI, 2, .inl fm))] (S := (Nat → Int32) × Nat) (fun r q => (uN + 2 ≤ 2048 → r = 1 ∧ q.2 ≤ 2048 ∧ dvb 4294967296 q.1 q.2 = dvb 4294967296 fN uN * 18446744073709551616 + x ∧ nrm q.1 q.2) ∧ (2048 < uN + 2 → r = 0 ∧ q = (fN, uN))) (fun q => [(h, .inr (3, [.ref hti, .ref hto, .ref hnu, .ref hsp, .ref hsq, .ref hsm, .long lv])), (hti, .inr (0, [.ref ati, .int (nI n)])), (ati, .inl (cB, 65536, .inl ft)), (hto, .inr (1, [.ref ato, .int (nI st)])), (ato, .inl (cB, 65536, .inl fx)), (hnu, .inr (2, [.ref anu, .int (nI q.2)])), (anu, .inl (cI, 2048, .inl q.1)), (hsp, .inr (2, [.ref asp, .int (nI us)])), (asp, .inl (cI, 2048, .inl fs)), (hsq, .inr (2, [.ref asq, .int (nI uq)])), (asq, .inl (cI, 2048, .inl fq)), (hsm, .inr (2, [.ref asm, .int (nI um)])), (asm, .inl (cI, 2, .inl fm))]) := by
  refine MI.of (by decide) (Nat.le_of_ble_eq_true rfl) ?_
  intro p e s m below meth c ls A hC hA hP hK hD hS hl
  obtain ⟨hx, hb, hr, hml, hown, hts, hlocks, hN⟩ := id hC
  have hown : s.vm.findClass RX3 = some m.cls := hown
  have hl : lv_has ls 3 [(0, .ref h), (1, .long (lN x))] := hl
  refine lv_aload_n hx hb dX3_push_0 rfl (lv_at hl 0 rfl) ?_
  refine va_get (D := D) (ci := 3) (C := RX3) (T := TX3) (N := 7) (v := .ref hnu) hx hb hts kin_X3_w hown hK hP 0 rfl rfl 2 (by decide) (hts _ kfl_X3_28) (fun _ h9 => h9) rfl dX3_push_1 ?_
  refine lv_lload_n hx hb dX3_push_4 rfl (lv_at hl 1 rfl) ?_
  refine dm_goi (wr := [(h, .inr (3, [.ref hti, .ref hto, .ref hnu, .ref hsp, .ref hsq, .ref hsm, .long lv])), (hti, .inr (0, [.ref ati, .int (nI n)])), (ati, .inl (cB, 65536, .inl ft)), (hto, .inr (1, [.ref ato, .int (nI st)])), (ato, .inl (cB, 65536, .inl fx)), (hsp, .inr (2, [.ref asp, .int (nI us)])), (asp, .inl (cI, 2048, .inl fs)), (hsq, .inr (2, [.ref asq, .int (nI uq)])), (asq, .inl (cI, 2048, .inl fq)), (hsm, .inr (2, [.ref asm, .int (nI um)])), (asm, .inl (cI, 2, .inl fm))]) (dm_rVN (n := 1) (As := [.long (lN x)]) (rest := []) hC hl (c_X2_appendLong l D cB cI cC hnu anu 2048 uN x fN huN (by decide) (by decide) hx8 s.heap.size) kco_X2_appendLong ki_X2 kim_X2_appendLong kse_X2_appendLong knl_X3_76 (by decide +kernel) ⟨Nat.le_of_ble_eq_true rfl, Nat.le_of_ble_eq_true rfl⟩ rfl rfl ⟨dm_blind, va_recv hK hP (ci := 2) (q0 := 5) rfl rfl, dm_preU hK hP hD hC.2.2.2.2.2.2.2 [5, 6] (by decide) rfl⟩ rfl rfl (Nat.le_of_ble_eq_true rfl) dX3_push_5 ⟨Nat.le_of_ble_eq_true rfl, Nat.le_of_ble_eq_true rfl⟩) hP hD hS hA [5, 6] [0, 1, 2, 3, 4, 7, 8, 9, 10, 11, 12] rfl rfl (by decide) (by decide) (fun r q H locs hw hP hD hS => ?_)
  obtain ⟨f2, u2⟩ := q
  have hP : va_P D vwCl [(h, .inr (3, [.ref hti, .ref hto, .ref hnu, .ref hsp, .ref hsq, .ref hsm, .long lv])), (hti, .inr (0, [.ref ati, .int (nI n)])), (ati, .inl (cB, 65536, .inl ft)), (hto, .inr (1, [.ref ato, .int (nI st)])), (ato, .inl (cB, 65536, .inl fx)), (hsp, .inr (2, [.ref asp, .int (nI us)])), (asp, .inl (cI, 2048, .inl fs)), (hsq, .inr (2, [.ref asq, .int (nI uq)])), (asq, .inl (cI, 2048, .inl fq)), (hsm, .inr (2, [.ref asm, .int (nI um)])), (asm, .inl (cI, 2, .inl fm)), (hnu, .inr (2, [.ref anu, .int (nI u2)])), (anu, .inl (cI, 2048, .inl f2))] H := hP
  have hD : va_D A [(h, .inr (3, [.ref hti, .ref hto, .ref hnu, .ref hsp, .ref hsq, .ref hsm, .long lv])), (hti, .inr (0, [.ref ati, .int (nI n)])), (ati, .inl (cB, 65536, .inl ft)), (hto, .inr (1, [.ref ato, .int (nI st)])), (ato, .inl (cB, 65536, .inl fx)), (hsp, .inr (2, [.ref asp, .int (nI us)])), (asp, .inl (cI, 2048, .inl fs)), (hsq, .inr (2, [.ref asq, .int (nI uq)])), (asq, .inl (cI, 2048, .inl fq)), (hsm, .inr (2, [.ref asm, .int (nI um)])), (asm, .inl (cI, 2, .inl fm)), (hnu, .inr (2, [.ref anu, .int (nI u2)])), (anu, .inl (cI, 2048, .inl f2))] := hD
  have hP := hP.sub (ws' := [(h, .inr (3, [.ref hti, .ref hto, .ref hnu, .ref hsp, .ref hsq, .ref hsm, .long lv])), (hti, .inr (0, [.ref ati, .int (nI n)])), (ati, .inl (cB, 65536, .inl ft)), (hto, .inr (1, [.ref ato, .int (nI st)])), (ato, .inl (cB, 65536, .inl fx)), (hnu, .inr (2, [.ref anu, .int (nI u2)])), (anu, .inl (cI, 2048, .inl f2)), (hsp, .inr (2, [.ref asp, .int (nI us)])), (asp, .inl (cI, 2048, .inl fs)), (hsq, .inr (2, [.ref asq, .int (nI uq)])), (asq, .inl (cI, 2048, .inl fq)), (hsm, .inr (2, [.ref asm, .int (nI um)])), (asm, .inl (cI, 2, .inl fm))]) [0, 1, 2, 3, 4, 11, 12, 5, 6, 7, 8, 9, 10] rfl
  have hD := hD.sub (ws' := [(h, .inr (3, [.ref hti, .ref hto, .ref hnu, .ref hsp, .ref hsq, .ref hsm, .long lv])), (hti, .inr (0, [.ref ati, .int (nI n)])), (ati, .inl (cB, 65536, .inl ft)), (hto, .inr (1, [.ref ato, .int (nI st)])), (ato, .inl (cB, 65536, .inl fx)), (hnu, .inr (2, [.ref anu, .int (nI u2)])), (anu, .inl (cI, 2048, .inl f2)), (hsp, .inr (2, [.ref asp, .int (nI us)])), (asp, .inl (cI, 2048, .inl fs)), (hsq, .inr (2, [.ref asq, .int (nI uq)])), (asq, .inl (cI, 2048, .inl fq)), (hsm, .inr (2, [.ref asm, .int (nI um)])), (asm, .inl (cI, 2, .inl fm))]) [0, 1, 2, 3, 4, 11, 12, 5, 6, 7, 8, 9, 10] (by decide) rfl
  refine dm_zret hC ?_ hK (f2, u2) hw hP hD hS dX3_push_8
  by_cases h9 : uN + 2 ≤ 2048
  · exact Or.inr (hw.1 h9).1
  · exact Or.inl (hw.2 (by omega)).1

theorem un_nneg {x : Int32} (h : 0 ≤ x) : un x < 2147483648 ∧ x.toInt64 = lN (un x) := by
  obtain ⟨k, hk, rfl⟩ := nI_nn h
  rw [un_nI (by omega), nI_l hk]
  exact ⟨hk, rfl⟩
theorem un_isneg {x : Int32} (h : ¬ 0 ≤ x) : 2147483648 ≤ un x ∧ -(x.toInt64) = lN (4294967296 - un x) := by
  have h0 : ¬ 0 < x := fun q => h (Int32.le_of_lt q)
  have h00 : ¬ x = 0 := fun q => h (by rw [q]; decide)
  have hb := un_neg h0 h00
  have hl := un_lt x
  refine ⟨hb, ?_⟩
  obtain ⟨m, hm, hx⟩ := wb_of x.toInt64
  have h1 : x.toInt64.toBitVec.toNat = 18446744073709551616 - 4294967296 + un x := by
    show (x.toBitVec.signExtend 64).toNat = _
    rw [BitVec.toNat_signExtend, BitVec.toNat_setWidth]
    have hu : x.toBitVec.toNat = un x := rfl
    have hmsb : x.toBitVec.msb = true := by
      rw [BitVec.msb_eq_decide, hu]
      simp
      exact hb
    rw [hmsb, hu]
    simp
    omega
  rw [hx, wb_tn hm] at h1
  rw [hx, h1]
  have h2 : lN (18446744073709551616 - 4294967296 + un x) + lN (4294967296 - un x) = 0 := by
    rw [lN_add, wb_mod, show (18446744073709551616 - 4294967296 + un x + (4294967296 - un x)) % 2 ^ 64 = 0 by omega]
    rfl
  have h3 : lN (4294967296 - un x) = 0 - lN (18446744073709551616 - 4294967296 + un x) := by
    rw [← h2, Int64.add_comm, Int64.add_sub_cancel]
  rw [h3, Int64.zero_sub]

set_option maxRecDepth 100000 in
set_option maxHeartbeats 4000000 in
theorem c_X3_add (l : Launch) (D : va_G) (cB cI cC : ClassId) (h hti ati hto ato hnu anu hsp asp hsq asq hsm asm n st uN us uq um : Nat) (ft fx fN fs fq fm : Nat → Int32) (lv : Int64) (v : Int32) (huN : uN ≤ 2048) (hnr : nrm fN uN) : MI l yX3_add (Cond.code yX3_add cX3_add 2 (some .boolean)) 2 D (TY cB cI cC) [.ref h, .int v] [(h, .inr (3, [.ref hti, .ref hto, .ref hnu, .ref hsp, .ref hsq, .ref hsm, .long lv])), (hti, .inr (0, [.ref ati, .int (nI n)])), (ati, .inl (cB, 65536, .inl ft)), (hto, .inr (1, [.ref ato, .int (nI st)])), (ato, .inl (cB, 65536, .inl fx)), (hnu, .inr (2, [.ref anu, .int (nI uN)])), (anu, .inl (cI, 2048, .inl fN)), (hsp, .inr (2, [.ref asp, .int (nI us)])), (asp, .inl (cI, 2048, .inl fs)), (hsq, .inr (2, [.ref asq, .int (nI uq)])), (asq, .inl (cI, 2048, .inl fq)), (hsm, .inr (2, [.ref asm, .int (nI um)])), (asm, .inl (cI, 2, .inl fm))] (S := (Nat → Int32) × Nat) (fun r q => (0 ≤ v → (dvb 4294967296 fN uN + un v < 4294967296 ^ 2048 → r = 1 ∧ q.2 ≤ 2048 ∧ dvb 4294967296 q.1 q.2 = dvb 4294967296 fN uN + un v ∧ nrm q.1 q.2) ∧ (4294967296 ^ 2048 ≤ dvb 4294967296 fN uN + un v → r = 0 ∧ q = (fN, uN))) ∧ (¬ 0 ≤ v → (4294967296 - un v ≤ dvb 4294967296 fN uN → r = 1 ∧ q.2 ≤ 2048 ∧ dvb 4294967296 q.1 q.2 = dvb 4294967296 fN uN - (4294967296 - un v) ∧ nrm q.1 q.2) ∧ (dvb 4294967296 fN uN < 4294967296 - un v → r = 0 ∧ q = (fN, uN)))) (fun q => [(h, .inr (3, [.ref hti, .ref hto, .ref hnu, .ref hsp, .ref hsq, .ref hsm, .long lv])), (hti, .inr (0, [.ref ati, .int (nI n)])), (ati, .inl (cB, 65536, .inl ft)), (hto, .inr (1, [.ref ato, .int (nI st)])), (ato, .inl (cB, 65536, .inl fx)), (hnu, .inr (2, [.ref anu, .int (nI q.2)])), (anu, .inl (cI, 2048, .inl q.1)), (hsp, .inr (2, [.ref asp, .int (nI us)])), (asp, .inl (cI, 2048, .inl fs)), (hsq, .inr (2, [.ref asq, .int (nI uq)])), (asq, .inl (cI, 2048, .inl fq)), (hsm, .inr (2, [.ref asm, .int (nI um)])), (asm, .inl (cI, 2, .inl fm))]) := by
  refine MI.of (by decide) (Nat.le_of_ble_eq_true rfl) ?_
  intro p e s m below meth c ls A hC hA hP hK hD hS hl
  obtain ⟨hx, hb, hr, hml, hown, hts, hlocks, hN⟩ := id hC
  have hown : s.vm.findClass RX3 = some m.cls := hown
  have hl : lv_has ls 2 [(0, .ref h), (1, .int v)] := hl
  refine lv_iload_n hx hb dX3_add_0 rfl (lv_at hl 1 rfl) ?_
  refine lv_if_ge (tgt := 17) hx hb dX3_add_1 (by decide) (fun hc => ?_) (fun hc => ?_)
  · obtain ⟨hb1, hb2⟩ := un_nneg hc
    have hub := un_lt v
    refine lv_aload_n hx hb dX3_add_17 rfl (lv_at hl 0 rfl) ?_
    refine va_get (D := D) (ci := 3) (C := RX3) (T := TX3) (N := 7) (v := .ref hnu) hx hb hts kin_X3_w hown hK hP 0 rfl rfl 2 (by decide) (hts _ kfl_X3_28) (fun _ h9 => h9) rfl dX3_add_18 ?_
    refine lv_iload_n hx hb dX3_add_21 rfl (lv_at hl 1 rfl) ?_
    refine lv_i2l (v := lN (un v)) hx hb dX3_add_22 (hb2) ?_
    refine dm_goi (wr := [(h, .inr (3, [.ref hti, .ref hto, .ref hnu, .ref hsp, .ref hsq, .ref hsm, .long lv])), (hti, .inr (0, [.ref ati, .int (nI n)])), (ati, .inl (cB, 65536, .inl ft)), (hto, .inr (1, [.ref ato, .int (nI st)])), (ato, .inl (cB, 65536, .inl fx)), (hsp, .inr (2, [.ref asp, .int (nI us)])), (asp, .inl (cI, 2048, .inl fs)), (hsq, .inr (2, [.ref asq, .int (nI uq)])), (asq, .inl (cI, 2048, .inl fq)), (hsm, .inr (2, [.ref asm, .int (nI um)])), (asm, .inl (cI, 2, .inl fm))]) (dm_rVN (n := 1) (As := [.long (lN (un v))]) (rest := []) hC hl (c_X2_increase l D cB cI cC hnu anu 2048 uN (un v) fN huN (by decide) (by decide) hub hnr s.heap.size) kco_X2_increase ki_X2 kim_X2_increase kse_X2_increase knl_X3_85 (by decide +kernel) ⟨Nat.le_of_ble_eq_true rfl, Nat.le_of_ble_eq_true rfl⟩ rfl rfl ⟨dm_blind, va_recv hK hP (ci := 2) (q0 := 5) rfl rfl, dm_preU hK hP hD hC.2.2.2.2.2.2.2 [5, 6] (by decide) rfl⟩ rfl rfl (Nat.le_of_ble_eq_true rfl) dX3_add_23 ⟨Nat.le_of_ble_eq_true rfl, Nat.le_of_ble_eq_true rfl⟩) hP hD hS hA [5, 6] [0, 1, 2, 3, 4, 7, 8, 9, 10, 11, 12] rfl rfl (by decide) (by decide) (fun r q H locs hw hP hD hS => ?_)
    obtain ⟨f2, u2⟩ := q
    have hP : va_P D vwCl [(h, .inr (3, [.ref hti, .ref hto, .ref hnu, .ref hsp, .ref hsq, .ref hsm, .long lv])), (hti, .inr (0, [.ref ati, .int (nI n)])), (ati, .inl (cB, 65536, .inl ft)), (hto, .inr (1, [.ref ato, .int (nI st)])), (ato, .inl (cB, 65536, .inl fx)), (hsp, .inr (2, [.ref asp, .int (nI us)])), (asp, .inl (cI, 2048, .inl fs)), (hsq, .inr (2, [.ref asq, .int (nI uq)])), (asq, .inl (cI, 2048, .inl fq)), (hsm, .inr (2, [.ref asm, .int (nI um)])), (asm, .inl (cI, 2, .inl fm)), (hnu, .inr (2, [.ref anu, .int (nI u2)])), (anu, .inl (cI, 2048, .inl f2))] H := hP
    have hD : va_D A [(h, .inr (3, [.ref hti, .ref hto, .ref hnu, .ref hsp, .ref hsq, .ref hsm, .long lv])), (hti, .inr (0, [.ref ati, .int (nI n)])), (ati, .inl (cB, 65536, .inl ft)), (hto, .inr (1, [.ref ato, .int (nI st)])), (ato, .inl (cB, 65536, .inl fx)), (hsp, .inr (2, [.ref asp, .int (nI us)])), (asp, .inl (cI, 2048, .inl fs)), (hsq, .inr (2, [.ref asq, .int (nI uq)])), (asq, .inl (cI, 2048, .inl fq)), (hsm, .inr (2, [.ref asm, .int (nI um)])), (asm, .inl (cI, 2, .inl fm)), (hnu, .inr (2, [.ref anu, .int (nI u2)])), (anu, .inl (cI, 2048, .inl f2))] := hD
    have hP := hP.sub (ws' := [(h, .inr (3, [.ref hti, .ref hto, .ref hnu, .ref hsp, .ref hsq, .ref hsm, .long lv])), (hti, .inr (0, [.ref ati, .int (nI n)])), (ati, .inl (cB, 65536, .inl ft)), (hto, .inr (1, [.ref ato, .int (nI st)])), (ato, .inl (cB, 65536, .inl fx)), (hnu, .inr (2, [.ref anu, .int (nI u2)])), (anu, .inl (cI, 2048, .inl f2)), (hsp, .inr (2, [.ref asp, .int (nI us)])), (asp, .inl (cI, 2048, .inl fs)), (hsq, .inr (2, [.ref asq, .int (nI uq)])), (asq, .inl (cI, 2048, .inl fq)), (hsm, .inr (2, [.ref asm, .int (nI um)])), (asm, .inl (cI, 2, .inl fm))]) [0, 1, 2, 3, 4, 11, 12, 5, 6, 7, 8, 9, 10] rfl
    have hD := hD.sub (ws' := [(h, .inr (3, [.ref hti, .ref hto, .ref hnu, .ref hsp, .ref hsq, .ref hsm, .long lv])), (hti, .inr (0, [.ref ati, .int (nI n)])), (ati, .inl (cB, 65536, .inl ft)), (hto, .inr (1, [.ref ato, .int (nI st)])), (ato, .inl (cB, 65536, .inl fx)), (hnu, .inr (2, [.ref anu, .int (nI u2)])), (anu, .inl (cI, 2048, .inl f2)), (hsp, .inr (2, [.ref asp, .int (nI us)])), (asp, .inl (cI, 2048, .inl fs)), (hsq, .inr (2, [.ref asq, .int (nI uq)])), (asq, .inl (cI, 2048, .inl fq)), (hsm, .inr (2, [.ref asm, .int (nI um)])), (asm, .inl (cI, 2, .inl fm))]) [0, 1, 2, 3, 4, 11, 12, 5, 6, 7, 8, 9, 10] (by decide) rfl
    refine dm_zret hC ?_ hK (f2, u2) ⟨fun _ => hw, fun h9 => absurd hc h9⟩ hP hD hS dX3_add_26
    rcases Nat.lt_or_ge (dvb 4294967296 fN uN + un v) (4294967296 ^ 2048) with h9 | h9
    · exact Or.inr (hw.1 h9).1
    · exact Or.inl (hw.2 h9).1
  · obtain ⟨hb1, hb2⟩ := un_isneg hc
    refine lv_aload_n hx hb dX3_add_4 rfl (lv_at hl 0 rfl) ?_
    refine va_get (D := D) (ci := 3) (C := RX3) (T := TX3) (N := 7) (v := .ref hnu) hx hb hts kin_X3_w hown hK hP 0 rfl rfl 2 (by decide) (hts _ kfl_X3_28) (fun _ h9 => h9) rfl dX3_add_5 ?_
    refine lv_iload_n hx hb dX3_add_8 rfl (lv_at hl 1 rfl) ?_
    refine lv_i2l (v := (v : Int32).toInt64) hx hb dX3_add_9 (rfl) ?_
    refine lv_lneg hx hb dX3_add_10 ?_
    refine dm_tl (y := lN (4294967296 - un v)) (hb2) ?_
    refine dm_goi (wr := [(h, .inr (3, [.ref hti, .ref hto, .ref hnu, .ref hsp, .ref hsq, .ref hsm, .long lv])), (hti, .inr (0, [.ref ati, .int (nI n)])), (ati, .inl (cB, 65536, .inl ft)), (hto, .inr (1, [.ref ato, .int (nI st)])), (ato, .inl (cB, 65536, .inl fx)), (hsp, .inr (2, [.ref asp, .int (nI us)])), (asp, .inl (cI, 2048, .inl fs)), (hsq, .inr (2, [.ref asq, .int (nI uq)])), (asq, .inl (cI, 2048, .inl fq)), (hsm, .inr (2, [.ref asm, .int (nI um)])), (asm, .inl (cI, 2, .inl fm))]) (dm_rVN (n := 1) (As := [.long (lN (4294967296 - un v))]) (rest := []) hC hl (c_X2_decrease l D cB cI cC hnu anu 2048 uN (4294967296 - un v) fN huN (by decide) (by omega) hnr s.heap.size) kco_X2_decrease ki_X2 kim_X2_decrease kse_X2_decrease knl_X3_82 (by decide +kernel) ⟨Nat.le_of_ble_eq_true rfl, Nat.le_of_ble_eq_true rfl⟩ rfl rfl ⟨dm_blind, va_recv hK hP (ci := 2) (q0 := 5) rfl rfl, dm_preU hK hP hD hC.2.2.2.2.2.2.2 [5, 6] (by decide) rfl⟩ rfl rfl (Nat.le_of_ble_eq_true rfl) dX3_add_11 ⟨Nat.le_of_ble_eq_true rfl, Nat.le_of_ble_eq_true rfl⟩) hP hD hS hA [5, 6] [0, 1, 2, 3, 4, 7, 8, 9, 10, 11, 12] rfl rfl (by decide) (by decide) (fun r q H locs hw hP hD hS => ?_)
    obtain ⟨f2, u2⟩ := q
    have hP : va_P D vwCl [(h, .inr (3, [.ref hti, .ref hto, .ref hnu, .ref hsp, .ref hsq, .ref hsm, .long lv])), (hti, .inr (0, [.ref ati, .int (nI n)])), (ati, .inl (cB, 65536, .inl ft)), (hto, .inr (1, [.ref ato, .int (nI st)])), (ato, .inl (cB, 65536, .inl fx)), (hsp, .inr (2, [.ref asp, .int (nI us)])), (asp, .inl (cI, 2048, .inl fs)), (hsq, .inr (2, [.ref asq, .int (nI uq)])), (asq, .inl (cI, 2048, .inl fq)), (hsm, .inr (2, [.ref asm, .int (nI um)])), (asm, .inl (cI, 2, .inl fm)), (hnu, .inr (2, [.ref anu, .int (nI u2)])), (anu, .inl (cI, 2048, .inl f2))] H := hP
    have hD : va_D A [(h, .inr (3, [.ref hti, .ref hto, .ref hnu, .ref hsp, .ref hsq, .ref hsm, .long lv])), (hti, .inr (0, [.ref ati, .int (nI n)])), (ati, .inl (cB, 65536, .inl ft)), (hto, .inr (1, [.ref ato, .int (nI st)])), (ato, .inl (cB, 65536, .inl fx)), (hsp, .inr (2, [.ref asp, .int (nI us)])), (asp, .inl (cI, 2048, .inl fs)), (hsq, .inr (2, [.ref asq, .int (nI uq)])), (asq, .inl (cI, 2048, .inl fq)), (hsm, .inr (2, [.ref asm, .int (nI um)])), (asm, .inl (cI, 2, .inl fm)), (hnu, .inr (2, [.ref anu, .int (nI u2)])), (anu, .inl (cI, 2048, .inl f2))] := hD
    have hP := hP.sub (ws' := [(h, .inr (3, [.ref hti, .ref hto, .ref hnu, .ref hsp, .ref hsq, .ref hsm, .long lv])), (hti, .inr (0, [.ref ati, .int (nI n)])), (ati, .inl (cB, 65536, .inl ft)), (hto, .inr (1, [.ref ato, .int (nI st)])), (ato, .inl (cB, 65536, .inl fx)), (hnu, .inr (2, [.ref anu, .int (nI u2)])), (anu, .inl (cI, 2048, .inl f2)), (hsp, .inr (2, [.ref asp, .int (nI us)])), (asp, .inl (cI, 2048, .inl fs)), (hsq, .inr (2, [.ref asq, .int (nI uq)])), (asq, .inl (cI, 2048, .inl fq)), (hsm, .inr (2, [.ref asm, .int (nI um)])), (asm, .inl (cI, 2, .inl fm))]) [0, 1, 2, 3, 4, 11, 12, 5, 6, 7, 8, 9, 10] rfl
    have hD := hD.sub (ws' := [(h, .inr (3, [.ref hti, .ref hto, .ref hnu, .ref hsp, .ref hsq, .ref hsm, .long lv])), (hti, .inr (0, [.ref ati, .int (nI n)])), (ati, .inl (cB, 65536, .inl ft)), (hto, .inr (1, [.ref ato, .int (nI st)])), (ato, .inl (cB, 65536, .inl fx)), (hnu, .inr (2, [.ref anu, .int (nI u2)])), (anu, .inl (cI, 2048, .inl f2)), (hsp, .inr (2, [.ref asp, .int (nI us)])), (asp, .inl (cI, 2048, .inl fs)), (hsq, .inr (2, [.ref asq, .int (nI uq)])), (asq, .inl (cI, 2048, .inl fq)), (hsm, .inr (2, [.ref asm, .int (nI um)])), (asm, .inl (cI, 2, .inl fm))]) [0, 1, 2, 3, 4, 11, 12, 5, 6, 7, 8, 9, 10] (by decide) rfl
    refine lv_goto (tgt := 26) hx hb dX3_add_14 (by decide) ?_
    refine dm_zret hC ?_ hK (f2, u2) ⟨fun h9 => absurd h9 hc, fun _ => hw⟩ hP hD hS dX3_add_26
    rcases Nat.lt_or_ge (dvb 4294967296 fN uN) (4294967296 - un v) with h9 | h9
    · exact Or.inl (hw.2 h9).1
    · exact Or.inr (hw.1 h9).1
