/-! bits of a number -/
def bl (n : Nat) : Nat := if n = 0 then 0 else Nat.log2 n + 1
theorem bl_le {n k : Nat} : bl n ≤ k ↔ n < 2 ^ k := by
  unfold bl
  split
  · next h => subst h; simp [Nat.pow_pos]
  · next h => rw [Nat.succ_le_iff, Nat.log2_lt h]
theorem bl_lt (n : Nat) : n < 2 ^ bl n := bl_le.mp (Nat.le_refl _)
theorem bl_div {n s : Nat} (h : 2 ^ s ≤ n) : bl n = bl (n / 2 ^ s) + s := by
  have hp : 0 < 2 ^ s := Nat.pow_pos (by decide)
  apply Nat.le_antisymm
  · rw [bl_le, Nat.pow_add]
    exact (Nat.div_lt_iff_lt_mul hp).mp (bl_lt _)
  · have h1 := bl_lt n
    have h2 : s < bl n := (Nat.pow_lt_pow_iff_right (by decide)).mp (Nat.lt_of_le_of_lt h h1)
    have h3 : bl (n / 2 ^ s) ≤ bl n - s := by
      rw [bl_le, Nat.div_lt_iff_lt_mul hp, ← Nat.pow_add, show bl n - s + s = bl n by omega]
      exact h1
    omega
theorem bl_0 : bl 0 = 0 := rfl
theorem bl_big {n : Nat} (h : 2147483648 ≤ n) (h2 : n < 4294967296) : bl n = 32 := by
  have h3 := bl_div (s := 31) h
  have h4 : n / 2 ^ 31 = 1 := by omega
  rw [h3, h4]; rfl
theorem bl_32 {n : Nat} (h : n < 4294967296) : bl n ≤ 32 := bl_le.mpr h
theorem i_dec16 (x : Int32) : x + Int32.ofInt (-16) = x - nI 16 := by rw [Int32.sub_eq_add_neg, show -(nI 16) = Int32.ofInt (-16) by decide]
theorem i_dec8 (x : Int32) : x + Int32.ofInt (-8) = x - nI 8 := by rw [Int32.sub_eq_add_neg, show -(nI 8) = Int32.ofInt (-8) by decide]
theorem i_dec4 (x : Int32) : x + Int32.ofInt (-4) = x - nI 4 := by rw [Int32.sub_eq_add_neg, show -(nI 4) = Int32.ofInt (-4) by decide]
theorem i_dec2 (x : Int32) : x + Int32.ofInt (-2) = x - nI 2 := by rw [Int32.sub_eq_add_neg, show -(nI 2) = Int32.ofInt (-2) by decide]
theorem un_neg {x : Int32} (h : ¬ 0 < x) (h0 : ¬ x = 0) : 2147483648 ≤ un x := by
  apply Nat.le_of_not_lt
  intro h1
  apply h
  rw [← nI_un x, ← nI_0]
  exact nI_lt (Nat.pos_of_ne_zero (fun e0 => h0 (un_eq0.mp e0))) h1
theorem bl_dv {f : Nat → Int32} {k : Nat} (h : nrm f (k + 1)) : bl (dvb 4294967296 f (k + 1)) = 32 * k + bl (un (f k)) := by
  have e : (4294967296 : Nat) ^ k = 2 ^ (32 * k) := by rw [Nat.pow_mul]
  have h1 : 2 ^ (32 * k) ≤ dvb 4294967296 f (k + 1) := by rw [← e]; exact nrm_ge h
  rw [bl_div h1, ← e]
  have h2 : dvb 4294967296 f (k + 1) / 4294967296 ^ k = un (f k) := by
    show (dvb 4294967296 f k + un (f k) * 4294967296 ^ k) / _ = _
    rw [Nat.add_mul_div_right _ _ (Nat.pow_pos (by decide)), Nat.div_eq_of_lt (dv32_lt f k), Nat.zero_add]
  rw [h2]; omega

set_option maxRecDepth 100000 in
set_option maxHeartbeats 4000000 in
theorem c_J6_nlz (l : Launch) (D : va_G) (cB cI cC : ClassId) (x : Int32) : ROi l yJ6_numberOfLeadingZeros_0f7a4 (Cond.code yJ6_numberOfLeadingZeros_0f7a4 cJ6_numberOfLeadingZeros_0f7a4 2 (some .int)) 0 D (TY cB cI cC) [.int x] [] (fun r => r = nI (32 - bl (un x))) := by
  refine ROi.of (by decide) (Nat.le_of_ble_eq_true rfl) ?_
  intro p e s m below meth c ls A hC hA hP hK hD hS hl
  obtain ⟨hx, hb, hr, hml, hown, hts, hlocks, hN⟩ := id hC
  have hown : s.vm.findClass RJ6 = some m.cls := hown
  have hl : lv_has ls 2 [(0, .int x)] := hl
  refine lv_iload_n hx hb dJ6_numberOfLeadingZeros_0f7a4_0 rfl (lv_at hl 0 rfl) ?_
  refine lv_if_gt (tgt := 15) hx hb dJ6_numberOfLeadingZeros_0f7a4_1 (by decide) (fun hc => ?_) (fun hc => ?_)
  · obtain ⟨n, hn, rfl⟩ : ∃ n : Nat, n < 2 ^ 31 ∧ x = nI n := nI_of (fun h9 => by have h1 := Int32.lt_iff_toInt_lt.mp h9; have h2 := Int32.lt_iff_toInt_lt.mp hc; omega)
    have hn0 : 0 < n := Nat.pos_of_ne_zero (fun e0 => by rw [e0] at hc; exact absurd hc (by decide))
    rw [un_nI (by omega)]
    refine lv_bipush (v := nI 31) hx hb dJ6_numberOfLeadingZeros_0f7a4_15 (by decide) ?_
    refine lv_istore_n (lv' := [(1, .int (nI 31)), (0, .int (nI n))]) hx hb dJ6_numberOfLeadingZeros_0f7a4_17 rfl hl (by decide) rfl (fun ls hl => ?_)
    refine dm_cutR (nL := 2) (σ := Nat × Nat) 33 (fun x => 0 < x.1 ∧ x.1 < 65536 ∧ 15 ≤ x.2 ∧ x.2 ≤ 31 ∧ bl n = bl x.1 + (31 - x.2)) (fun x => [(1, .int (nI x.2)), (0, .int (nI x.1))]) (fun hJ => ?_) ?_
    · refine lv_iload_n hx hb dJ6_numberOfLeadingZeros_0f7a4_18 rfl (lv_at hl 1 rfl) ?_
      refine lv_ldcw (v := nI 65536) hx hb hown (hts _ kct_J6_264) dJ6_numberOfLeadingZeros_0f7a4_19 ?_
      refine dm_icmp_lt (tgt := 33) hx hb (by omega) (by omega) dJ6_numberOfLeadingZeros_0f7a4_22 (by decide) (fun hd => ?_) (fun hd => ?_)
      · exact hJ (n, 31) ls ⟨by show 0 < n; omega, by show n < 65536; omega, by show 15 ≤ 31; omega, by show 31 ≤ 31; omega, by show bl n = bl n + 0; omega⟩ (lv_sub hl [0, 1] rfl)
      · refine lv_iinc (v := nI (31 - 16)) (lv' := [(1, .int (nI (31 - 16))), (0, .int (nI n))]) hx hb dJ6_numberOfLeadingZeros_0f7a4_25 hl (k := 0) rfl (by rw [i_dec16]; exact pk_sub (by omega)) (by decide) rfl (fun ls hl => ?_)
        refine lv_iload_n hx hb dJ6_numberOfLeadingZeros_0f7a4_28 rfl (lv_at hl 1 rfl) ?_
        refine lv_bipush (v := nI 16) hx hb dJ6_numberOfLeadingZeros_0f7a4_29 (by decide) ?_
        refine lv_iushr (v := nI (n / 65536)) hx hb dJ6_numberOfLeadingZeros_0f7a4_31 (pk_ushrN (n := n) (by omega) (nI 16) 16 (by decide)) ?_
        refine lv_istore_n (lv' := [(0, .int (nI (n / 65536))), (1, .int (nI (31 - 16)))]) hx hb dJ6_numberOfLeadingZeros_0f7a4_32 rfl hl (by decide) rfl (fun ls hl => ?_)
        have hbd := bl_div (n := n) (s := 16) (by omega)
        rw [show (2 : Nat) ^ 16 = 65536 from rfl] at hbd
        exact hJ (n / 65536, 31 - 16) ls ⟨by show 0 < n / 65536; omega, by show n / 65536 < 65536; omega, by show 15 ≤ 31 - 16; omega, by show 31 - 16 ≤ 31; omega, by show bl n = bl (n / 65536) + (31 - (31 - 16)); omega⟩ (lv_sub hl [1, 0] rfl)
    · rintro ⟨i, k⟩ ls ⟨hq1, hq2, hq3, hq4, hq5⟩ hl
      dsimp only at hq1 hq2 hq3 hq4 hq5
      have hl : lv_has ls 2 [(1, .int (nI k)), (0, .int (nI i))] := hl
      refine dm_cutR (nL := 2) (σ := Nat × Nat) 48 (fun x => 0 < x.1 ∧ x.1 < 256 ∧ 7 ≤ x.2 ∧ x.2 ≤ 31 ∧ bl n = bl x.1 + (31 - x.2)) (fun x => [(1, .int (nI x.2)), (0, .int (nI x.1))]) (fun hJ => ?_) ?_
      · refine lv_iload_n hx hb dJ6_numberOfLeadingZeros_0f7a4_33 rfl (lv_at hl 1 rfl) ?_
        refine lv_sipush (v := nI 256) hx hb dJ6_numberOfLeadingZeros_0f7a4_34 (by decide) ?_
        refine dm_icmp_lt (tgt := 48) hx hb (by omega) (by omega) dJ6_numberOfLeadingZeros_0f7a4_37 (by decide) (fun hd => ?_) (fun hd => ?_)
        · exact hJ (i, k) ls ⟨by show 0 < i; omega, by show i < 256; omega, by show 7 ≤ k; omega, by show k ≤ 31; omega, hq5⟩ (lv_sub hl [0, 1] rfl)
        · refine lv_iinc (v := nI (k - 8)) (lv' := [(1, .int (nI (k - 8))), (0, .int (nI i))]) hx hb dJ6_numberOfLeadingZeros_0f7a4_40 hl (k := 0) rfl (by rw [i_dec8]; exact pk_sub (by omega)) (by decide) rfl (fun ls hl => ?_)
          refine lv_iload_n hx hb dJ6_numberOfLeadingZeros_0f7a4_43 rfl (lv_at hl 1 rfl) ?_
          refine lv_bipush (v := nI 8) hx hb dJ6_numberOfLeadingZeros_0f7a4_44 (by decide) ?_
          refine lv_iushr (v := nI (i / 256)) hx hb dJ6_numberOfLeadingZeros_0f7a4_46 (pk_ushrN (n := i) (by omega) (nI 8) 8 (by decide)) ?_
          refine lv_istore_n (lv' := [(0, .int (nI (i / 256))), (1, .int (nI (k - 8)))]) hx hb dJ6_numberOfLeadingZeros_0f7a4_47 rfl hl (by decide) rfl (fun ls hl => ?_)
          have hbd := bl_div (n := i) (s := 8) (by omega)
          rw [show (2 : Nat) ^ 8 = 256 from rfl] at hbd
          exact hJ (i / 256, k - 8) ls ⟨by show 0 < i / 256; omega, by show i / 256 < 256; omega, by show 7 ≤ k - 8; omega, by show k - 8 ≤ 31; omega, by show bl n = bl (i / 256) + (31 - (k - 8)); omega⟩ (lv_sub hl [1, 0] rfl)
      · rintro ⟨i, k⟩ ls ⟨hq1, hq2, hq3, hq4, hq5⟩ hl
        dsimp only at hq1 hq2 hq3 hq4 hq5
        have hl : lv_has ls 2 [(1, .int (nI k)), (0, .int (nI i))] := hl
        refine dm_cutR (nL := 2) (σ := Nat × Nat) 61 (fun x => 0 < x.1 ∧ x.1 < 16 ∧ 3 ≤ x.2 ∧ x.2 ≤ 31 ∧ bl n = bl x.1 + (31 - x.2)) (fun x => [(1, .int (nI x.2)), (0, .int (nI x.1))]) (fun hJ => ?_) ?_
        · refine lv_iload_n hx hb dJ6_numberOfLeadingZeros_0f7a4_48 rfl (lv_at hl 1 rfl) ?_
          refine lv_bipush (v := nI 16) hx hb dJ6_numberOfLeadingZeros_0f7a4_49 (by decide) ?_
          refine dm_icmp_lt (tgt := 61) hx hb (by omega) (by omega) dJ6_numberOfLeadingZeros_0f7a4_51 (by decide) (fun hd => ?_) (fun hd => ?_)
          · exact hJ (i, k) ls ⟨by show 0 < i; omega, by show i < 16; omega, by show 3 ≤ k; omega, by show k ≤ 31; omega, hq5⟩ (lv_sub hl [0, 1] rfl)
          · refine lv_iinc (v := nI (k - 4)) (lv' := [(1, .int (nI (k - 4))), (0, .int (nI i))]) hx hb dJ6_numberOfLeadingZeros_0f7a4_54 hl (k := 0) rfl (by rw [i_dec4]; exact pk_sub (by omega)) (by decide) rfl (fun ls hl => ?_)
            refine lv_iload_n hx hb dJ6_numberOfLeadingZeros_0f7a4_57 rfl (lv_at hl 1 rfl) ?_
            refine lv_iconst (v := nI 4) hx hb dJ6_numberOfLeadingZeros_0f7a4_58 (by decide) ?_
            refine lv_iushr (v := nI (i / 16)) hx hb dJ6_numberOfLeadingZeros_0f7a4_59 (pk_ushrN (n := i) (by omega) (nI 4) 4 (by decide)) ?_
            refine lv_istore_n (lv' := [(0, .int (nI (i / 16))), (1, .int (nI (k - 4)))]) hx hb dJ6_numberOfLeadingZeros_0f7a4_60 rfl hl (by decide) rfl (fun ls hl => ?_)
            have hbd := bl_div (n := i) (s := 4) (by omega)
            rw [show (2 : Nat) ^ 4 = 16 from rfl] at hbd
            exact hJ (i / 16, k - 4) ls ⟨by show 0 < i / 16; omega, by show i / 16 < 16; omega, by show 3 ≤ k - 4; omega, by show k - 4 ≤ 31; omega, by show bl n = bl (i / 16) + (31 - (k - 4)); omega⟩ (lv_sub hl [1, 0] rfl)
        · rintro ⟨i, k⟩ ls ⟨hq1, hq2, hq3, hq4, hq5⟩ hl
          dsimp only at hq1 hq2 hq3 hq4 hq5
          have hl : lv_has ls 2 [(1, .int (nI k)), (0, .int (nI i))] := hl
          refine dm_cutR (nL := 2) (σ := Nat × Nat) 73 (fun x => 0 < x.1 ∧ x.1 < 4 ∧ 1 ≤ x.2 ∧ x.2 ≤ 31 ∧ bl n = bl x.1 + (31 - x.2)) (fun x => [(1, .int (nI x.2)), (0, .int (nI x.1))]) (fun hJ => ?_) ?_
          · refine lv_iload_n hx hb dJ6_numberOfLeadingZeros_0f7a4_61 rfl (lv_at hl 1 rfl) ?_
            refine lv_iconst (v := nI 4) hx hb dJ6_numberOfLeadingZeros_0f7a4_62 (by decide) ?_
            refine dm_icmp_lt (tgt := 73) hx hb (by omega) (by omega) dJ6_numberOfLeadingZeros_0f7a4_63 (by decide) (fun hd => ?_) (fun hd => ?_)
            · exact hJ (i, k) ls ⟨by show 0 < i; omega, by show i < 4; omega, by show 1 ≤ k; omega, by show k ≤ 31; omega, hq5⟩ (lv_sub hl [0, 1] rfl)
            · refine lv_iinc (v := nI (k - 2)) (lv' := [(1, .int (nI (k - 2))), (0, .int (nI i))]) hx hb dJ6_numberOfLeadingZeros_0f7a4_66 hl (k := 0) rfl (by rw [i_dec2]; exact pk_sub (by omega)) (by decide) rfl (fun ls hl => ?_)
              refine lv_iload_n hx hb dJ6_numberOfLeadingZeros_0f7a4_69 rfl (lv_at hl 1 rfl) ?_
              refine lv_iconst (v := nI 2) hx hb dJ6_numberOfLeadingZeros_0f7a4_70 (by decide) ?_
              refine lv_iushr (v := nI (i / 4)) hx hb dJ6_numberOfLeadingZeros_0f7a4_71 (pk_ushrN (n := i) (by omega) (nI 2) 2 (by decide)) ?_
              refine lv_istore_n (lv' := [(0, .int (nI (i / 4))), (1, .int (nI (k - 2)))]) hx hb dJ6_numberOfLeadingZeros_0f7a4_72 rfl hl (by decide) rfl (fun ls hl => ?_)
              have hbd := bl_div (n := i) (s := 2) (by omega)
              rw [show (2 : Nat) ^ 2 = 4 from rfl] at hbd
              exact hJ (i / 4, k - 2) ls ⟨by show 0 < i / 4; omega, by show i / 4 < 4; omega, by show 1 ≤ k - 2; omega, by show k - 2 ≤ 31; omega, by show bl n = bl (i / 4) + (31 - (k - 2)); omega⟩ (lv_sub hl [1, 0] rfl)
          · rintro ⟨i, k⟩ ls ⟨hq1, hq2, hq3, hq4, hq5⟩ hl
            dsimp only at hq1 hq2 hq3 hq4 hq5
            have hl : lv_has ls 2 [(1, .int (nI k)), (0, .int (nI i))] := hl
            refine lv_iload_n hx hb dJ6_numberOfLeadingZeros_0f7a4_73 rfl (lv_at hl 0 rfl) ?_
            refine lv_iload_n hx hb dJ6_numberOfLeadingZeros_0f7a4_74 rfl (lv_at hl 1 rfl) ?_
            refine lv_iconst (v := nI 1) hx hb dJ6_numberOfLeadingZeros_0f7a4_75 (by decide) ?_
            refine lv_iushr (v := nI (i / 2)) hx hb dJ6_numberOfLeadingZeros_0f7a4_76 (pk_ushrN (n := i) (by omega) (nI 1) 1 (by decide)) ?_
            refine lv_isub hx hb dJ6_numberOfLeadingZeros_0f7a4_77 ?_
            refine dm_ti (y := nI (k - i / 2)) (pk_sub (by omega)) ?_
            have hb3 : bl i = 1 + i / 2 := by rcases (show i = 1 ∨ i = 2 ∨ i = 3 by omega) with rfl | rfl | rfl <;> rfl
            exact ri_iret hC (by show nI _ = nI _; rw [hq5, hb3]; congr 1; omega) dJ6_numberOfLeadingZeros_0f7a4_78
  · refine lv_iload_n hx hb dJ6_numberOfLeadingZeros_0f7a4_4 rfl (lv_at hl 0 rfl) ?_
    refine lv_if_ne (tgt := 13) hx hb dJ6_numberOfLeadingZeros_0f7a4_5 (by decide) (fun hd => ?_) (fun hd => ?_)
    · refine lv_iconst (v := nI 0) hx hb dJ6_numberOfLeadingZeros_0f7a4_13 (by decide) ?_
      exact ri_iret hC (by rw [bl_big (un_neg hc hd) (un_lt x)]) dJ6_numberOfLeadingZeros_0f7a4_14
    · refine lv_bipush (v := nI 32) hx hb dJ6_numberOfLeadingZeros_0f7a4_8 (by decide) ?_
      refine lv_goto (tgt := 14) hx hb dJ6_numberOfLeadingZeros_0f7a4_10 (by decide) ?_
      exact ri_iret hC (by rw [hd, un_0]; rfl) dJ6_numberOfLeadingZeros_0f7a4_14

set_option maxRecDepth 100000 in
set_option maxHeartbeats 4000000 in
theorem c_X2_countBits (l : Launch) (D : va_G) (cB cI cC : ClassId) (h a N u : Nat) (f : Nat → Int32) (hu : u ≤ N) (hNb : N < 67108864) (hn : nrm f u) : ROi l yX2_countBits (Cond.code yX2_countBits cX2_countBits 1 (some .int)) 1 D (TY cB cI cC) [.ref h] [(h, .inr (2, [.ref a, .int (nI u)])), (a, .inl (cI, N, .inl f))] (fun r => r = nI (bl (dvb 4294967296 f u))) := by
  refine ROi.of (by decide) (Nat.le_of_ble_eq_true rfl) ?_
  intro p e s m below meth c ls A hC hA hP hK hD hS hl
  obtain ⟨hx, hb, hr, hml, hown, hts, hlocks, hN⟩ := id hC
  have hown : s.vm.findClass RX2 = some m.cls := hown
  have hl : lv_has ls 1 [(0, .ref h)] := hl
  have hNb2 := hNb
  have hNb : N < 2 ^ 31 := by omega
  refine lv_bipush (v := nI 32) hx hb dX2_countBits_0 (by decide) ?_
  refine lv_aload_n hx hb dX2_countBits_2 rfl (lv_at hl 0 rfl) ?_
  refine va_get (D := D) (ci := 2) (C := RX2) (T := TX2) (N := 2) (v := .int (nI u)) hx hb hts kin_X2_w hown hK hP 0 rfl rfl 1 (by decide) (hts _ kfl_X2_21) (fun _ h9 => h9) rfl dX2_countBits_3 ?_
  refine lv_imul hx hb dX2_countBits_6 ?_
  refine dm_ti (y := nI (32 * u)) (pk_mul 32 u) ?_
  refine lv_aload_n hx hb dX2_countBits_7 rfl (lv_at hl 0 rfl) ?_
  refine va_get (D := D) (ci := 2) (C := RX2) (T := TX2) (N := 2) (v := .int (nI u)) hx hb hts kin_X2_w hown hK hP 0 rfl rfl 1 (by decide) (hts _ kfl_X2_21) (fun _ h9 => h9) rfl dX2_countBits_8 ?_
  refine dm_if_ne (tgt := 18) hx hb (by omega) dX2_countBits_11 (by decide) (fun hc => ?_) (fun hc => ?_)
  · obtain ⟨k, rfl⟩ : ∃ k, u = k + 1 := ⟨u - 1, by omega⟩
    refine lv_aload_n hx hb dX2_countBits_18 rfl (lv_at hl 0 rfl) ?_
    refine va_get (D := D) (ci := 2) (C := RX2) (T := TX2) (N := 2) (v := .ref a) hx hb hts kin_X2_w hown hK hP 0 rfl rfl 0 (by decide) (hts _ kfl_X2_15) (fun _ h9 => h9) rfl dX2_countBits_19 ?_
    refine lv_aload_n hx hb dX2_countBits_22 rfl (lv_at hl 0 rfl) ?_
    refine va_get (D := D) (ci := 2) (C := RX2) (T := TX2) (N := 2) (v := .int (nI (k + 1))) hx hb hts kin_X2_w hown hK hP 0 rfl rfl 1 (by decide) (hts _ kfl_X2_21) (fun _ h9 => h9) rfl dX2_countBits_23 ?_
    refine lv_iconst (v := nI 1) hx hb dX2_countBits_26 (by decide) ?_
    refine lv_isub hx hb dX2_countBits_27 ?_
    refine dm_ti (y := nI k) (nI_pred k) ?_
    refine dm_iald (j := k) hx hb hK hP 1 1 rfl rfl (by omega) hNb dX2_countBits_28 ?_
    refine dm_gori (dm_rS (n := 1) (As := [.int (f k)]) (rest := [.int (nI (32 * (k + 1)))]) hC hl (c_J6_nlz l D cB cI cC (f k) s.heap.size) kco_J6_numberOfLeadingZeros_0f7a4 ki_J6 kst_J6_numberOfLeadingZeros_0f7a4 kml_X2_25 (by decide +kernel) ⟨Nat.le_of_ble_eq_true rfl, Nat.le_of_ble_eq_true rfl⟩ rfl rfl ⟨dm_blind, dm_preU hK hP hD hC.2.2.2.2.2.2.2 [] (by decide) rfl⟩ rfl rfl (Nat.le_of_ble_eq_true rfl) dX2_countBits_29 ⟨Nat.le_of_ble_eq_true rfl, Nat.le_of_ble_eq_true rfl⟩) (fun r1 h1 => ?_)
    subst h1
    have h32 := bl_32 (un_lt (f k))
    refine lv_isub hx hb dX2_countBits_32 ?_
    refine dm_ti (y := nI (32 * (k + 1) - (32 - bl (un (f k))))) (pk_sub (by omega)) ?_
    exact ri_iret hC (by rw [bl_dv hn]; congr 1; omega) dX2_countBits_33
  · refine lv_iconst (v := nI 0) hx hb dX2_countBits_14 (by decide) ?_
    refine lv_goto (tgt := 32) hx hb dX2_countBits_15 (by decide) ?_
    refine lv_isub hx hb dX2_countBits_32 ?_
    refine dm_ti (y := nI (32 * u - 0)) (pk_sub (by omega)) ?_
    exact ri_iret hC (by rw [hc]; rfl) dX2_countBits_33
