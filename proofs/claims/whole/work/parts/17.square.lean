/-- the squares of the single words -/
def sqs (g : Nat → Int32) : Nat → Nat
  | 0 => 0
  | n + 1 => sqs g n + un (g n) * un (g n) * 4294967296 ^ (2 * n)
theorem prod_step {F f g : Nat → Int32} {i j ai car sm : Nat} (h : dvb 4294967296 F (i + j) + car * 4294967296 ^ (i + j) + ai * 4294967296 ^ i * dvb 4294967296 g (i + 1) = dvb 4294967296 f (i + j) + ai * 4294967296 ^ i * dvb 4294967296 g j) (hs : sm = ai * un (g j) + un (f (i + j)) + car) :
    (dvb 4294967296 F (i + j) + sm % 4294967296 * 4294967296 ^ (i + j)) + sm / 4294967296 * 4294967296 ^ (i + j + 1) + ai * 4294967296 ^ i * dvb 4294967296 g (i + 1) = dvb 4294967296 f (i + j + 1) + ai * 4294967296 ^ i * dvb 4294967296 g (j + 1) := by
  show _ = dvb 4294967296 f (i + j) + un (f (i + j)) * 4294967296 ^ (i + j) + ai * 4294967296 ^ i * (dvb 4294967296 g j + un (g j) * 4294967296 ^ j)
  have h1 := Nat.div_add_mod sm 4294967296
  rw [Nat.pow_succ, Nat.pow_add] at *
  generalize sm / 4294967296 = q at *
  generalize sm % 4294967296 = r at *
  generalize 4294967296 ^ i = P at *
  generalize 4294967296 ^ j = R at *
  have h2 : r * (P * R) + q * (P * R * 4294967296) = sm * (P * R) := by rw [← h1]; grind
  rw [hs] at h2
  grind
theorem dbl_step {F f g : Nat → Int32} {i car lo hi : Nat} (h : dvb 4294967296 F (2 * i) + car * 4294967296 ^ (2 * i) = 2 * dvb 4294967296 f (2 * i) + sqs g i)
    (hlo : lo = 2 * un (f (2 * i)) + un (g i) * un (g i) % 4294967296 + car) (hhi : hi = 2 * un (f (2 * i + 1)) + un (g i) * un (g i) / 4294967296 + lo / 4294967296) :
    dvb 4294967296 F (2 * i) + lo % 4294967296 * 4294967296 ^ (2 * i) + hi % 4294967296 * 4294967296 ^ (2 * i + 1) + hi / 4294967296 * 4294967296 ^ (2 * (i + 1)) = 2 * dvb 4294967296 f (2 * (i + 1)) + sqs g (i + 1) := by
  have ef : dvb 4294967296 f (2 * (i + 1)) = dvb 4294967296 f (2 * i) + un (f (2 * i)) * 4294967296 ^ (2 * i) + un (f (2 * i + 1)) * 4294967296 ^ (2 * i + 1) := by rw [show 2 * (i + 1) = 2 * i + 1 + 1 by omega]; rfl
  have es : sqs g (i + 1) = sqs g i + un (g i) * un (g i) * 4294967296 ^ (2 * i) := rfl
  rw [ef, es]
  have h1 := Nat.div_add_mod lo 4294967296
  have h2 := Nat.div_add_mod hi 4294967296
  have h3 := Nat.div_add_mod (un (g i) * un (g i)) 4294967296
  have hQ : 4294967296 ^ (2 * i + 1) = 4294967296 ^ (2 * i) * 4294967296 := Nat.pow_succ ..
  have hR : 4294967296 ^ (2 * i + 1 + 1) = 4294967296 ^ (2 * i + 1) * 4294967296 := Nat.pow_succ ..
  rw [show 2 * (i + 1) = 2 * i + 1 + 1 by omega]
  clear ef es
  generalize 4294967296 ^ (2 * i + 1 + 1) = R at *
  generalize 4294967296 ^ (2 * i + 1) = Q at *
  generalize 4294967296 ^ (2 * i) = P at *
  generalize un (g i) * un (g i) = o at *
  generalize lo / 4294967296 = l1 at *
  generalize lo % 4294967296 = l0 at *
  generalize hi / 4294967296 = k1 at *
  generalize hi % 4294967296 = k0 at *
  generalize o / 4294967296 = o1 at *
  generalize o % 4294967296 = o0 at *
  have e1 : l0 * P + l1 * Q = lo * P := by rw [← h1, hQ]; grind
  have e2 : k0 * Q + k1 * R = hi * Q := by rw [← h2, hR]; grind
  have e3 : o * P = o1 * Q + o0 * P := by rw [← h3, hQ]; grind
  clear h1 h2 h3 hQ hR
  rw [hlo, Nat.add_mul, Nat.add_mul, Nat.mul_assoc] at e1
  rw [hhi, Nat.add_mul, Nat.add_mul, Nat.mul_assoc] at e2
  omega
theorem dvb_mono {f : Nat → Int32} {i n : Nat} (h : i ≤ n) : ∃ t, dvb 4294967296 f n = dvb 4294967296 f i + t := by
  obtain ⟨k, rfl⟩ : ∃ k, n = i + k := ⟨n - i, by omega⟩
  exact ⟨_, dvb_split⟩
theorem dvb_zero {b : Nat} {f : Nat → Int32} : ∀ {n : Nat}, (∀ j, j < n → f j = 0) → dvb b f n = 0
  | 0, _ => rfl
  | n + 1, h => by
    show dvb b f n + un (f n) * b ^ n = 0
    rw [dvb_zero (fun j hj => h j (by omega)), h n (by omega), un_0]
    omega
theorem sq_step {x x' A T ai P t : Nat} (h1 : x' + ai * P * (A + ai * P) = x + ai * P * T) (hT : T = A + ai * P + t) {sq TT : Nat} (h2 : 2 * x + sq + (ai * P + t) * (ai * P + t) = TT) : 2 * x' + (sq + ai * ai * (P * P)) + t * t = TT := by
  have h3 : x' = x + ai * P * t := by
    have h4 : ai * P * T = ai * P * (A + ai * P) + ai * P * t := by rw [hT, Nat.mul_add]
    omega
  rw [h3, ← h2]
  grind

set_option maxRecDepth 100000 in
set_option maxHeartbeats 4000000 in
theorem c_X2_addProductsAbove (l : Launch) (D : va_G) (cB cI cC : ClassId) (h a a2 N u i n : Nat) (f g : Nat → Int32) (hi : i < n) (hn : 2 * n ≤ N) (hNb : N < 2 ^ 31) (hz : f (i + n) = 0) : MV l yX2_addProductsAbove (Cond.code yX2_addProductsAbove cX2_addProductsAbove 11 none) 0 D (TY cB cI cC) [.ref h, .int (nI i), .ref a2, .int (nI n)] [(h, .inr (2, [.ref a, .int (nI u)])), (a, .inl (cI, N, .inl f)), (a2, .inl (cI, N, .inl g))] (S := Nat → Int32) (fun f2 => (∀ k, i + n + 1 ≤ k → f2 k = f k) ∧ dvb 4294967296 f2 (2 * n) + un (g i) * 4294967296 ^ i * dvb 4294967296 g (i + 1) = dvb 4294967296 f (2 * n) + un (g i) * 4294967296 ^ i * dvb 4294967296 g n) (fun f2 => [(h, .inr (2, [.ref a, .int (nI u)])), (a, .inl (cI, N, .inl f2)), (a2, .inl (cI, N, .inl g))]) := by
  refine MV.of (by decide) (Nat.le_of_ble_eq_true rfl) ?_
  intro p e s m below meth c ls A hC hA hP hK hD hS hl
  obtain ⟨hx, hb, hr, hml, hown, hts, hlocks, hN⟩ := id hC
  have hown : s.vm.findClass RX2 = some m.cls := hown
  have hl : lv_has ls 11 [(0, .ref h), (1, .int (nI i)), (2, .ref a2), (3, .int (nI n))] := hl
  refine lv_aload_n hx hb dX2_addProductsAbove_0 rfl (lv_at hl 2 rfl) ?_
  refine lv_iload_n hx hb dX2_addProductsAbove_1 rfl (lv_at hl 1 rfl) ?_
  refine dm_iald (j := i) hx hb hK hP 2 1 rfl rfl (by omega) hNb dX2_addProductsAbove_2 ?_
  have hbi := un_lt (g i)
  refine lv_i2l (v := ((g i) : Int32).toInt64) hx hb dX2_addProductsAbove_3 (rfl) ?_
  refine lv_ldc2 (v := 4294967295) hx hb hown (hts _ kct_X2_34) dX2_addProductsAbove_4 ?_
  refine lv_land hx hb dX2_addProductsAbove_7 ?_
  refine dm_tl (y := lN (un (g i))) (wl_un _) ?_
  refine lv_lstore (lv' := [(4, .long (lN (un (g i)))), (0, .ref h), (1, .int (nI i)), (2, .ref a2), (3, .int (nI n))]) hx hb dX2_addProductsAbove_8 hl (by decide) rfl (fun ls hl => ?_)
  refine lv_lload hx hb dX2_addProductsAbove_10 (lv_at hl 0 rfl) ?_
  refine lv_lconst (v := lN 0) hx hb dX2_addProductsAbove_12 (by decide) ?_
  refine dm_lc_ne (tgt := 18) hx hb (by omega) (by omega) dX2_addProductsAbove_13 dX2_addProductsAbove_14 (by decide) (fun hc => ?_) (fun hc => ?_)
  · refine lv_lconst (v := lN 0) hx hb dX2_addProductsAbove_18 (by decide) ?_
    refine lv_lstore (lv' := [(6, .long (lN 0)), (4, .long (lN (un (g i)))), (0, .ref h), (1, .int (nI i)), (2, .ref a2), (3, .int (nI n))]) hx hb dX2_addProductsAbove_19 hl (by decide) rfl (fun ls hl => ?_)
    refine lv_iload_n hx hb dX2_addProductsAbove_21 rfl (lv_at hl 3 rfl) ?_
    refine lv_iconst (v := nI 1) hx hb dX2_addProductsAbove_22 (by decide) ?_
    refine lv_iadd hx hb dX2_addProductsAbove_23 ?_
    refine dm_ti (y := nI (i + 1)) (nI_1 i) ?_
    refine lv_istore (lv' := [(8, .int (nI (i + 1))), (6, .long (lN 0)), (4, .long (lN (un (g i)))), (0, .ref h), (1, .int (nI i)), (2, .ref a2), (3, .int (nI n))]) hx hb dX2_addProductsAbove_24 hl (by decide) rfl (fun ls hl => ?_)
    refine dm_loop (nL := 11) (head := 26) (P := fun (x : Nat × Nat × (Nat → Int32)) => i + 1 ≤ x.1 ∧ x.1 ≤ n ∧ x.2.1 < 4294967296 ∧ (dvb 4294967296 x.2.2 (i + x.1) + x.2.1 * 4294967296 ^ (i + x.1) + un (g i) * 4294967296 ^ i * dvb 4294967296 g (i + 1) = dvb 4294967296 f (i + x.1) + un (g i) * 4294967296 ^ i * dvb 4294967296 g x.1) ∧ ∀ k, i + x.1 ≤ k → x.2.2 k = f k) (w := fun x => [(h, .inr (2, [.ref a, .int (nI u)])), (a, .inl (cI, N, .inl x.2.2)), (a2, .inl (cI, N, .inl g))]) (lv := fun x => [(8, .int (nI x.1)), (6, .long (lN x.2.1)), (4, .long (lN (un (g i)))), (0, .ref h), (1, .int (nI i)), (2, .ref a2), (3, .int (nI n))]) (μ := fun x => n - x.1) ?_ (i + 1, 0, f) ⟨Nat.le_refl _, hi, by show 0 < 4294967296; decide, by dsimp only; omega, fun _ _ => rfl⟩ hP hD hS hl
    rintro ⟨j, car, F⟩ H locs ls ⟨hj1, hj2, hcar, hinv, hge⟩ hP hD hS hl ih
    dsimp only at hj1 hj2 hcar hinv hge
    have hP : va_P D vwCl [(h, .inr (2, [.ref a, .int (nI u)])), (a, .inl (cI, N, .inl F)), (a2, .inl (cI, N, .inl g))] H := hP
    have hl : lv_has ls 11 [(8, .int (nI j)), (6, .long (lN car)), (4, .long (lN (un (g i)))), (0, .ref h), (1, .int (nI i)), (2, .ref a2), (3, .int (nI n))] := hl
    refine lv_iload hx hb dX2_addProductsAbove_26 (lv_at hl 0 rfl) ?_
    refine lv_iload_n hx hb dX2_addProductsAbove_28 rfl (lv_at hl 6 rfl) ?_
    refine dm_icmp_ge (tgt := 89) hx hb (by omega) (by omega) dX2_addProductsAbove_29 (by decide) (fun hd => ?_) (fun hd => ?_)
    · have hjn : j = n := by omega
      subst hjn
      refine lv_aload_n hx hb dX2_addProductsAbove_89 rfl (lv_at hl 3 rfl) ?_
      refine va_get (D := D) (ci := 2) (C := RX2) (T := TX2) (N := 2) (v := .ref a) hx hb hts kin_X2_w hown hK hP 0 rfl rfl 0 (by decide) (hts _ kfl_X2_15) (fun _ h9 => h9) rfl dX2_addProductsAbove_90 ?_
      refine lv_iload_n hx hb dX2_addProductsAbove_93 rfl (lv_at hl 4 rfl) ?_
      refine lv_iload_n hx hb dX2_addProductsAbove_94 rfl (lv_at hl 6 rfl) ?_
      refine lv_iadd hx hb dX2_addProductsAbove_95 ?_
      refine dm_ti (y := nI (i + j)) (nI_add i j) ?_
      refine lv_lload hx hb dX2_addProductsAbove_96 (lv_at hl 1 rfl) ?_
      refine lv_l2i (v := nI car) hx hb dX2_addProductsAbove_98 (lN_low) ?_
      refine dm_iast (j := (i + j)) (f' := upd F (i + j) (nI car)) hx hb hK hP hD hS 1 1 rfl rfl (by omega) hNb (rfl) dX2_addProductsAbove_99 (fun H locs hP hD hS => ?_)
      have hP : va_P D vwCl [(h, .inr (2, [.ref a, .int (nI u)])), (a, .inl (cI, N, .inl (upd F (i + j) (nI car)))), (a2, .inl (cI, N, .inl g))] H := hP
      have hD : va_D A [(h, .inr (2, [.ref a, .int (nI u)])), (a, .inl (cI, N, .inl (upd F (i + j) (nI car)))), (a2, .inl (cI, N, .inl g))] := hD
      refine dm_vret hC hK (upd F (i + j) (nI car)) ⟨fun k hk => by rw [pk_un (by omega)]; exact hge k (by omega), ?_⟩ hP hD hS dX2_addProductsAbove_100
      have h5 := dv_tail (f := f) (g := upd F (i + j) (nI car)) (i := i + j + 1) (u := 2 * j) (by omega) (fun k hk => by rw [pk_un (by omega)]; exact hge k (by omega))
      have h6 : dvb 4294967296 (upd F (i + j) (nI car)) (i + j + 1) = dvb 4294967296 F (i + j) + car * 4294967296 ^ (i + j) := by
        show dvb 4294967296 (upd F (i + j) (nI car)) (i + j) + un (upd F (i + j) (nI car) (i + j)) * _ = _
        rw [dvb_upd (Nat.le_refl _), pk_us, un_nI hcar]
      have h7 : dvb 4294967296 f (i + j + 1) = dvb 4294967296 f (i + j) := by
        show dvb 4294967296 f (i + j) + un (f (i + j)) * _ = _
        rw [hz, un_0]; omega
      omega
    · refine lv_lload hx hb dX2_addProductsAbove_32 (lv_at hl 2 rfl) ?_
      refine lv_aload_n hx hb dX2_addProductsAbove_34 rfl (lv_at hl 5 rfl) ?_
      refine lv_iload hx hb dX2_addProductsAbove_35 (lv_at hl 0 rfl) ?_
      refine dm_iald (j := j) hx hb hK hP 2 1 rfl rfl (by omega) hNb dX2_addProductsAbove_37 ?_
      have hbj := un_lt (g j)
      have hbf := un_lt (f (i + j))
      refine lv_i2l (v := ((g j) : Int32).toInt64) hx hb dX2_addProductsAbove_38 (rfl) ?_
      refine lv_ldc2 (v := 4294967295) hx hb hown (hts _ kct_X2_34) dX2_addProductsAbove_39 ?_
      refine lv_land hx hb dX2_addProductsAbove_42 ?_
      refine dm_tl (y := lN (un (g j))) (wl_un _) ?_
      refine lv_lmul hx hb dX2_addProductsAbove_43 ?_
      refine dm_tl (y := lN (un (g i) * un (g j))) (lN_mul _ _) ?_
      refine lv_aload_n hx hb dX2_addProductsAbove_44 rfl (lv_at hl 3 rfl) ?_
      refine va_get (D := D) (ci := 2) (C := RX2) (T := TX2) (N := 2) (v := .ref a) hx hb hts kin_X2_w hown hK hP 0 rfl rfl 0 (by decide) (hts _ kfl_X2_15) (fun _ h9 => h9) rfl dX2_addProductsAbove_45 ?_
      refine lv_iload_n hx hb dX2_addProductsAbove_48 rfl (lv_at hl 4 rfl) ?_
      refine lv_iload hx hb dX2_addProductsAbove_49 (lv_at hl 0 rfl) ?_
      refine lv_iadd hx hb dX2_addProductsAbove_51 ?_
      refine dm_ti (y := nI (i + j)) (nI_add i j) ?_
      refine dm_iald (j := (i + j)) hx hb hK hP 1 1 rfl rfl (by omega) hNb dX2_addProductsAbove_52 ?_
      refine dm_ti (y := f (i + j)) (hge (i + j) (Nat.le_refl _)) ?_
      obtain ⟨sm, hsm⟩ : ∃ z, z = un (g i) * un (g j) + un (f (i + j)) + car := ⟨_, rfl⟩
      have hb1 : sm < 18446744073709551616 := by
        have h1 : un (g i) * un (g j) ≤ 4294967295 * 4294967295 := Nat.mul_le_mul (by omega) (by omega)
        omega
      refine lv_i2l (v := (f (i + j) : Int32).toInt64) hx hb dX2_addProductsAbove_53 (rfl) ?_
      refine lv_ldc2 (v := 4294967295) hx hb hown (hts _ kct_X2_34) dX2_addProductsAbove_54 ?_
      refine lv_land hx hb dX2_addProductsAbove_57 ?_
      refine dm_tl (y := lN (un (f (i + j)))) (wl_un _) ?_
      refine lv_ladd hx hb dX2_addProductsAbove_58 ?_
      refine dm_tl (y := lN (un (g i) * un (g j) + un (f (i + j)))) (lN_add _ _) ?_
      refine lv_lload hx hb dX2_addProductsAbove_59 (lv_at hl 1 rfl) ?_
      refine lv_ladd hx hb dX2_addProductsAbove_61 ?_
      refine dm_tl (y := lN sm) (by rw [hsm]; exact lN_add _ _) ?_
      refine lv_lstore (lv' := [(9, .long (lN sm)), (8, .int (nI j)), (6, .long (lN car)), (4, .long (lN (un (g i)))), (0, .ref h), (1, .int (nI i)), (2, .ref a2), (3, .int (nI n))]) hx hb dX2_addProductsAbove_62 hl (by decide) rfl (fun ls hl => ?_)
      refine lv_aload_n hx hb dX2_addProductsAbove_64 rfl (lv_at hl 4 rfl) ?_
      refine va_get (D := D) (ci := 2) (C := RX2) (T := TX2) (N := 2) (v := .ref a) hx hb hts kin_X2_w hown hK hP 0 rfl rfl 0 (by decide) (hts _ kfl_X2_15) (fun _ h9 => h9) rfl dX2_addProductsAbove_65 ?_
      refine lv_iload_n hx hb dX2_addProductsAbove_68 rfl (lv_at hl 5 rfl) ?_
      refine lv_iload hx hb dX2_addProductsAbove_69 (lv_at hl 1 rfl) ?_
      refine lv_iadd hx hb dX2_addProductsAbove_71 ?_
      refine dm_ti (y := nI (i + j)) (nI_add i j) ?_
      refine lv_lload hx hb dX2_addProductsAbove_72 (lv_at hl 0 rfl) ?_
      refine lv_l2i (v := nI sm) hx hb dX2_addProductsAbove_74 (lN_low) ?_
      refine dm_iast (j := (i + j)) (f' := upd F (i + j) (nI sm)) hx hb hK hP hD hS 1 1 rfl rfl (by omega) hNb (rfl) dX2_addProductsAbove_75 (fun H locs hP hD hS => ?_)
      have hP : va_P D vwCl [(h, .inr (2, [.ref a, .int (nI u)])), (a, .inl (cI, N, .inl (upd F (i + j) (nI sm)))), (a2, .inl (cI, N, .inl g))] H := hP
      have hD : va_D A [(h, .inr (2, [.ref a, .int (nI u)])), (a, .inl (cI, N, .inl (upd F (i + j) (nI sm)))), (a2, .inl (cI, N, .inl g))] := hD
      refine lv_lload hx hb dX2_addProductsAbove_76 (lv_at hl 0 rfl) ?_
      refine lv_bipush (v := nI 32) hx hb dX2_addProductsAbove_78 (by decide) ?_
      refine lv_lushr (v := lN (sm / 4294967296)) hx hb dX2_addProductsAbove_80 (wl_hi hb1) ?_
      refine lv_lstore (lv' := [(6, .long (lN (sm / 4294967296))), (9, .long (lN sm)), (8, .int (nI j)), (4, .long (lN (un (g i)))), (0, .ref h), (1, .int (nI i)), (2, .ref a2), (3, .int (nI n))]) hx hb dX2_addProductsAbove_81 hl (by decide) rfl (fun ls hl => ?_)
      refine lv_iinc (v := nI (j + 1)) (lv' := [(8, .int (nI (j + 1))), (6, .long (lN (sm / 4294967296))), (9, .long (lN sm)), (4, .long (lN (un (g i)))), (0, .ref h), (1, .int (nI i)), (2, .ref a2), (3, .int (nI n))]) hx hb dX2_addProductsAbove_83 hl (k := 2) rfl ((nI_succ j).symm) (by decide) rfl (fun ls hl => ?_)
      refine lv_goto (tgt := 26) hx hb dX2_addProductsAbove_86 (by decide) ?_
      refine ih (j + 1, sm / 4294967296, upd F (i + j) (nI sm)) H locs ls (by show n - (j + 1) < n - j; omega) ⟨by show i + 1 ≤ j + 1; omega, by show j + 1 ≤ n; omega, by show _ / _ < _; omega, ?_, fun k hk => ?_⟩ hP hD hS (lv_sub hl [0, 1, 3, 4, 5, 6, 7] rfl)
      · show dvb 4294967296 (upd F (i + j) _) (i + j) + un (upd F (i + j) _ (i + j)) * 4294967296 ^ (i + j) + _ * 4294967296 ^ (i + j + 1) + _ = _
        rw [dvb_upd (Nat.le_refl _), pk_us, un_mod]
        exact prod_step hinv hsm
      · show upd F (i + j) _ k = f k
        have hk : i + (j + 1) ≤ k := hk
        rw [pk_un (by omega)]
        exact hge k (by omega)
  · exact dm_vret hC hK f ⟨fun _ _ => rfl, by rw [hc]; omega⟩ hP hD hS dX2_addProductsAbove_17

set_option maxRecDepth 100000 in
set_option maxHeartbeats 4000000 in
theorem c_X2_doubleAndAddSquares (l : Launch) (D : va_G) (cB cI cC : ClassId) (h a a2 N u n : Nat) (f g : Nat → Int32) (hn : 2 * n ≤ N) (hNb : N < 2 ^ 31) (hfit : 2 * dvb 4294967296 f (2 * n) + sqs g n < 4294967296 ^ (2 * n)) : MV l yX2_doubleAndAddSquares (Cond.code yX2_doubleAndAddSquares cX2_doubleAndAddSquares 12 none) 0 D (TY cB cI cC) [.ref h, .ref a2, .int (nI n)] [(h, .inr (2, [.ref a, .int (nI u)])), (a, .inl (cI, N, .inl f)), (a2, .inl (cI, N, .inl g))] (S := Nat → Int32) (fun f2 => dvb 4294967296 f2 (2 * n) = 2 * dvb 4294967296 f (2 * n) + sqs g n) (fun f2 => [(h, .inr (2, [.ref a, .int (nI u)])), (a, .inl (cI, N, .inl f2)), (a2, .inl (cI, N, .inl g))]) := by
  refine MV.of (by decide) (Nat.le_of_ble_eq_true rfl) ?_
  intro p e s m below meth c ls A hC hA hP hK hD hS hl
  obtain ⟨hx, hb, hr, hml, hown, hts, hlocks, hN⟩ := id hC
  have hown : s.vm.findClass RX2 = some m.cls := hown
  have hl : lv_has ls 12 [(0, .ref h), (1, .ref a2), (2, .int (nI n))] := hl
  refine lv_lconst (v := lN 0) hx hb dX2_doubleAndAddSquares_0 (by decide) ?_
  refine lv_lstore_n (lv' := [(3, .long (lN 0)), (0, .ref h), (1, .ref a2), (2, .int (nI n))]) hx hb dX2_doubleAndAddSquares_1 rfl hl (by decide) rfl (fun ls hl => ?_)
  refine lv_iconst (v := nI 0) hx hb dX2_doubleAndAddSquares_2 (by decide) ?_
  refine lv_istore (lv' := [(5, .int (nI 0)), (3, .long (lN 0)), (0, .ref h), (1, .ref a2), (2, .int (nI n))]) hx hb dX2_doubleAndAddSquares_3 hl (by decide) rfl (fun ls hl => ?_)
  refine dm_loop (nL := 12) (head := 5) (P := fun (x : Nat × Nat × (Nat → Int32)) => x.1 ≤ n ∧ x.2.1 < 4294967296 ∧ (dvb 4294967296 x.2.2 (2 * x.1) + x.2.1 * 4294967296 ^ (2 * x.1) = 2 * dvb 4294967296 f (2 * x.1) + sqs g x.1) ∧ ∀ k, 2 * x.1 ≤ k → x.2.2 k = f k) (w := fun x => [(h, .inr (2, [.ref a, .int (nI u)])), (a, .inl (cI, N, .inl x.2.2)), (a2, .inl (cI, N, .inl g))]) (lv := fun x => [(5, .int (nI x.1)), (3, .long (lN x.2.1)), (0, .ref h), (1, .ref a2), (2, .int (nI n))]) (μ := fun x => n - x.1) ?_ (0, 0, f) ⟨Nat.zero_le _, by show 0 < 4294967296; decide, by simp [dvb, sqs], fun _ _ => rfl⟩ hP hD hS hl
  rintro ⟨i, car, F⟩ H locs ls ⟨hi, hcar, hinv, hge⟩ hP hD hS hl ih
  dsimp only at hi hcar hinv hge
  have hP : va_P D vwCl [(h, .inr (2, [.ref a, .int (nI u)])), (a, .inl (cI, N, .inl F)), (a2, .inl (cI, N, .inl g))] H := hP
  have hl : lv_has ls 12 [(5, .int (nI i)), (3, .long (lN car)), (0, .ref h), (1, .ref a2), (2, .int (nI n))] := hl
  refine lv_iload hx hb dX2_doubleAndAddSquares_5 (lv_at hl 0 rfl) ?_
  refine lv_iload_n hx hb dX2_doubleAndAddSquares_7 rfl (lv_at hl 4 rfl) ?_
  refine dm_icmp_ge (tgt := 133) hx hb (by omega) (by omega) dX2_doubleAndAddSquares_8 (by decide) (fun hd => ?_) (fun hd => ?_)
  · have hin : i = n := by omega
    subst hin
    refine dm_vret hC hK F ?_ hP hD hS dX2_doubleAndAddSquares_133
    have h8 : car = 0 := by
      rcases Nat.eq_zero_or_pos car with h9 | h9
      · exact h9
      · have h10 : 1 * 4294967296 ^ (2 * i) ≤ car * 4294967296 ^ (2 * i) := Nat.mul_le_mul_right _ h9
        omega
    rw [h8] at hinv
    omega
  · have hbg := un_lt (g i)
    have hb0 := un_lt (f (2 * i))
    have hb1 := un_lt (f (2 * i + 1))
    have hoo : un (g i) * un (g i) < 18446744073709551616 := by
      have h1 : un (g i) * un (g i) ≤ 4294967295 * 4294967295 := Nat.mul_le_mul (by omega) (by omega)
      omega
    obtain ⟨lo, hlo⟩ : ∃ z, z = 2 * un (f (2 * i)) + un (g i) * un (g i) % 4294967296 + car := ⟨_, rfl⟩
    obtain ⟨hi2, hhi⟩ : ∃ z, z = 2 * un (f (2 * i + 1)) + un (g i) * un (g i) / 4294967296 + lo / 4294967296 := ⟨_, rfl⟩
    refine lv_aload_n hx hb dX2_doubleAndAddSquares_11 rfl (lv_at hl 3 rfl) ?_
    refine lv_iload hx hb dX2_doubleAndAddSquares_12 (lv_at hl 0 rfl) ?_
    refine dm_iald (j := i) hx hb hK hP 2 1 rfl rfl (by omega) hNb dX2_doubleAndAddSquares_14 ?_
    refine lv_i2l (v := ((g i) : Int32).toInt64) hx hb dX2_doubleAndAddSquares_15 (rfl) ?_
    refine lv_ldc2 (v := 4294967295) hx hb hown (hts _ kct_X2_34) dX2_doubleAndAddSquares_16 ?_
    refine lv_land hx hb dX2_doubleAndAddSquares_19 ?_
    refine dm_tl (y := lN (un (g i))) (wl_un _) ?_
    refine lv_aload_n hx hb dX2_doubleAndAddSquares_20 rfl (lv_at hl 3 rfl) ?_
    refine lv_iload hx hb dX2_doubleAndAddSquares_21 (lv_at hl 0 rfl) ?_
    refine dm_iald (j := i) hx hb hK hP 2 1 rfl rfl (by omega) hNb dX2_doubleAndAddSquares_23 ?_
    refine lv_i2l (v := ((g i) : Int32).toInt64) hx hb dX2_doubleAndAddSquares_24 (rfl) ?_
    refine lv_ldc2 (v := 4294967295) hx hb hown (hts _ kct_X2_34) dX2_doubleAndAddSquares_25 ?_
    refine lv_land hx hb dX2_doubleAndAddSquares_28 ?_
    refine dm_tl (y := lN (un (g i))) (wl_un _) ?_
    refine lv_lmul hx hb dX2_doubleAndAddSquares_29 ?_
    refine dm_tl (y := lN (un (g i) * un (g i))) (lN_mul _ _) ?_
    refine lv_lstore (lv' := [(6, .long (lN (un (g i) * un (g i)))), (5, .int (nI i)), (3, .long (lN car)), (0, .ref h), (1, .ref a2), (2, .int (nI n))]) hx hb dX2_doubleAndAddSquares_30 hl (by decide) rfl (fun ls hl => ?_)
    refine lv_ldc2 (v := 2) hx hb hown (hts _ kct_X2_82) dX2_doubleAndAddSquares_32 ?_
    refine dm_tl (y := lN 2) (rfl) ?_
    refine lv_aload_n hx hb dX2_doubleAndAddSquares_35 rfl (lv_at hl 3 rfl) ?_
    refine va_get (D := D) (ci := 2) (C := RX2) (T := TX2) (N := 2) (v := .ref a) hx hb hts kin_X2_w hown hK hP 0 rfl rfl 0 (by decide) (hts _ kfl_X2_15) (fun _ h9 => h9) rfl dX2_doubleAndAddSquares_36 ?_
    refine lv_iconst (v := nI 2) hx hb dX2_doubleAndAddSquares_39 (by decide) ?_
    refine lv_iload hx hb dX2_doubleAndAddSquares_40 (lv_at hl 1 rfl) ?_
    refine lv_imul hx hb dX2_doubleAndAddSquares_42 ?_
    refine dm_ti (y := nI (2 * i)) (pk_mul 2 i) ?_
    refine dm_iald (j := (2 * i)) hx hb hK hP 1 1 rfl rfl (by omega) hNb dX2_doubleAndAddSquares_43 ?_
    refine dm_ti (y := f (2 * i)) (hge _ (Nat.le_refl _)) ?_
    refine lv_i2l (v := (f (2 * i) : Int32).toInt64) hx hb dX2_doubleAndAddSquares_44 (rfl) ?_
    refine lv_ldc2 (v := 4294967295) hx hb hown (hts _ kct_X2_34) dX2_doubleAndAddSquares_45 ?_
    refine lv_land hx hb dX2_doubleAndAddSquares_48 ?_
    refine dm_tl (y := lN (un (f (2 * i)))) (wl_un _) ?_
    refine lv_lmul hx hb dX2_doubleAndAddSquares_49 ?_
    refine dm_tl (y := lN (2 * un (f (2 * i)))) (lN_mul _ _) ?_
    refine lv_lload hx hb dX2_doubleAndAddSquares_50 (lv_at hl 0 rfl) ?_
    refine lv_ldc2 (v := 4294967295) hx hb hown (hts _ kct_X2_34) dX2_doubleAndAddSquares_52 ?_
    refine lv_land hx hb dX2_doubleAndAddSquares_55 ?_
    refine dm_tl (y := lN (un (g i) * un (g i) % 4294967296)) (wb_mask (k := 32) hoo (by decide)) ?_
    refine lv_ladd hx hb dX2_doubleAndAddSquares_56 ?_
    refine dm_tl (y := lN (2 * un (f (2 * i)) + un (g i) * un (g i) % 4294967296)) (lN_add _ _) ?_
    refine lv_lload_n hx hb dX2_doubleAndAddSquares_57 rfl (lv_at hl 2 rfl) ?_
    refine lv_ladd hx hb dX2_doubleAndAddSquares_58 ?_
    refine dm_tl (y := lN lo) (by rw [hlo]; exact lN_add _ _) ?_
    refine lv_lstore (lv' := [(8, .long (lN lo)), (6, .long (lN (un (g i) * un (g i)))), (5, .int (nI i)), (3, .long (lN car)), (0, .ref h), (1, .ref a2), (2, .int (nI n))]) hx hb dX2_doubleAndAddSquares_59 hl (by decide) rfl (fun ls hl => ?_)
    refine lv_aload_n hx hb dX2_doubleAndAddSquares_61 rfl (lv_at hl 4 rfl) ?_
    refine va_get (D := D) (ci := 2) (C := RX2) (T := TX2) (N := 2) (v := .ref a) hx hb hts kin_X2_w hown hK hP 0 rfl rfl 0 (by decide) (hts _ kfl_X2_15) (fun _ h9 => h9) rfl dX2_doubleAndAddSquares_62 ?_
    refine lv_iconst (v := nI 2) hx hb dX2_doubleAndAddSquares_65 (by decide) ?_
    refine lv_iload hx hb dX2_doubleAndAddSquares_66 (lv_at hl 2 rfl) ?_
    refine lv_imul hx hb dX2_doubleAndAddSquares_68 ?_
    refine dm_ti (y := nI (2 * i)) (pk_mul 2 i) ?_
    refine lv_lload hx hb dX2_doubleAndAddSquares_69 (lv_at hl 0 rfl) ?_
    refine lv_l2i (v := nI lo) hx hb dX2_doubleAndAddSquares_71 (lN_low) ?_
    refine dm_iast (j := (2 * i)) (f' := upd F (2 * i) (nI lo)) hx hb hK hP hD hS 1 1 rfl rfl (by omega) hNb (rfl) dX2_doubleAndAddSquares_72 (fun H locs hP hD hS => ?_)
    have hP : va_P D vwCl [(h, .inr (2, [.ref a, .int (nI u)])), (a, .inl (cI, N, .inl (upd F (2 * i) (nI lo)))), (a2, .inl (cI, N, .inl g))] H := hP
    have hD : va_D A [(h, .inr (2, [.ref a, .int (nI u)])), (a, .inl (cI, N, .inl (upd F (2 * i) (nI lo)))), (a2, .inl (cI, N, .inl g))] := hD
    refine lv_ldc2 (v := 2) hx hb hown (hts _ kct_X2_82) dX2_doubleAndAddSquares_73 ?_
    refine dm_tl (y := lN 2) (rfl) ?_
    refine lv_aload_n hx hb dX2_doubleAndAddSquares_76 rfl (lv_at hl 4 rfl) ?_
    refine va_get (D := D) (ci := 2) (C := RX2) (T := TX2) (N := 2) (v := .ref a) hx hb hts kin_X2_w hown hK hP 0 rfl rfl 0 (by decide) (hts _ kfl_X2_15) (fun _ h9 => h9) rfl dX2_doubleAndAddSquares_77 ?_
    refine lv_iconst (v := nI 2) hx hb dX2_doubleAndAddSquares_80 (by decide) ?_
    refine lv_iload hx hb dX2_doubleAndAddSquares_81 (lv_at hl 2 rfl) ?_
    refine lv_imul hx hb dX2_doubleAndAddSquares_83 ?_
    refine dm_ti (y := nI (2 * i)) (pk_mul 2 i) ?_
    refine lv_iconst (v := nI 1) hx hb dX2_doubleAndAddSquares_84 (by decide) ?_
    refine lv_iadd hx hb dX2_doubleAndAddSquares_85 ?_
    refine dm_ti (y := nI (2 * i + 1)) (nI_1 _) ?_
    refine dm_iald (j := (2 * i + 1)) hx hb hK hP 1 1 rfl rfl (by omega) hNb dX2_doubleAndAddSquares_86 ?_
    refine dm_ti (y := f (2 * i + 1)) (by rw [pk_un (by omega)]; exact hge _ (by omega)) ?_
    refine lv_i2l (v := (f (2 * i + 1) : Int32).toInt64) hx hb dX2_doubleAndAddSquares_87 (rfl) ?_
    refine lv_ldc2 (v := 4294967295) hx hb hown (hts _ kct_X2_34) dX2_doubleAndAddSquares_88 ?_
    refine lv_land hx hb dX2_doubleAndAddSquares_91 ?_
    refine dm_tl (y := lN (un (f (2 * i + 1)))) (wl_un _) ?_
    refine lv_lmul hx hb dX2_doubleAndAddSquares_92 ?_
    refine dm_tl (y := lN (2 * un (f (2 * i + 1)))) (lN_mul _ _) ?_
    refine lv_lload hx hb dX2_doubleAndAddSquares_93 (lv_at hl 1 rfl) ?_
    refine lv_bipush (v := nI 32) hx hb dX2_doubleAndAddSquares_95 (by decide) ?_
    refine lv_lushr (v := lN (un (g i) * un (g i) / 4294967296)) hx hb dX2_doubleAndAddSquares_97 (wl_hi hoo) ?_
    refine lv_ladd hx hb dX2_doubleAndAddSquares_98 ?_
    refine dm_tl (y := lN (2 * un (f (2 * i + 1)) + un (g i) * un (g i) / 4294967296)) (lN_add _ _) ?_
    refine lv_lload hx hb dX2_doubleAndAddSquares_99 (lv_at hl 0 rfl) ?_
    refine lv_bipush (v := nI 32) hx hb dX2_doubleAndAddSquares_101 (by decide) ?_
    refine lv_lushr (v := lN (lo / 4294967296)) hx hb dX2_doubleAndAddSquares_103 (wl_hi (by omega)) ?_
    refine lv_ladd hx hb dX2_doubleAndAddSquares_104 ?_
    refine dm_tl (y := lN hi2) (by rw [hhi]; exact lN_add _ _) ?_
    refine lv_lstore (lv' := [(10, .long (lN hi2)), (8, .long (lN lo)), (6, .long (lN (un (g i) * un (g i)))), (5, .int (nI i)), (3, .long (lN car)), (0, .ref h), (1, .ref a2), (2, .int (nI n))]) hx hb dX2_doubleAndAddSquares_105 hl (by decide) rfl (fun ls hl => ?_)
    refine lv_aload_n hx hb dX2_doubleAndAddSquares_107 rfl (lv_at hl 5 rfl) ?_
    refine va_get (D := D) (ci := 2) (C := RX2) (T := TX2) (N := 2) (v := .ref a) hx hb hts kin_X2_w hown hK hP 0 rfl rfl 0 (by decide) (hts _ kfl_X2_15) (fun _ h9 => h9) rfl dX2_doubleAndAddSquares_108 ?_
    refine lv_iconst (v := nI 2) hx hb dX2_doubleAndAddSquares_111 (by decide) ?_
    refine lv_iload hx hb dX2_doubleAndAddSquares_112 (lv_at hl 3 rfl) ?_
    refine lv_imul hx hb dX2_doubleAndAddSquares_114 ?_
    refine dm_ti (y := nI (2 * i)) (pk_mul 2 i) ?_
    refine lv_iconst (v := nI 1) hx hb dX2_doubleAndAddSquares_115 (by decide) ?_
    refine lv_iadd hx hb dX2_doubleAndAddSquares_116 ?_
    refine dm_ti (y := nI (2 * i + 1)) (nI_1 _) ?_
    refine lv_lload hx hb dX2_doubleAndAddSquares_117 (lv_at hl 0 rfl) ?_
    refine lv_l2i (v := nI hi2) hx hb dX2_doubleAndAddSquares_119 (lN_low) ?_
    refine dm_iast (j := (2 * i + 1)) (f' := upd (upd F (2 * i) (nI lo)) (2 * i + 1) (nI hi2)) hx hb hK hP hD hS 1 1 rfl rfl (by omega) hNb (rfl) dX2_doubleAndAddSquares_120 (fun H locs hP hD hS => ?_)
    have hP : va_P D vwCl [(h, .inr (2, [.ref a, .int (nI u)])), (a, .inl (cI, N, .inl (upd (upd F (2 * i) (nI lo)) (2 * i + 1) (nI hi2)))), (a2, .inl (cI, N, .inl g))] H := hP
    have hD : va_D A [(h, .inr (2, [.ref a, .int (nI u)])), (a, .inl (cI, N, .inl (upd (upd F (2 * i) (nI lo)) (2 * i + 1) (nI hi2)))), (a2, .inl (cI, N, .inl g))] := hD
    refine lv_lload hx hb dX2_doubleAndAddSquares_121 (lv_at hl 0 rfl) ?_
    refine lv_bipush (v := nI 32) hx hb dX2_doubleAndAddSquares_123 (by decide) ?_
    refine lv_lushr (v := lN (hi2 / 4294967296)) hx hb dX2_doubleAndAddSquares_125 (wl_hi (by omega)) ?_
    refine lv_lstore_n (lv' := [(3, .long (lN (hi2 / 4294967296))), (10, .long (lN hi2)), (8, .long (lN lo)), (6, .long (lN (un (g i) * un (g i)))), (5, .int (nI i)), (0, .ref h), (1, .ref a2), (2, .int (nI n))]) hx hb dX2_doubleAndAddSquares_126 rfl hl (by decide) rfl (fun ls hl => ?_)
    refine lv_iinc (v := nI (i + 1)) (lv' := [(5, .int (nI (i + 1))), (3, .long (lN (hi2 / 4294967296))), (10, .long (lN hi2)), (8, .long (lN lo)), (6, .long (lN (un (g i) * un (g i)))), (0, .ref h), (1, .ref a2), (2, .int (nI n))]) hx hb dX2_doubleAndAddSquares_127 hl (k := 4) rfl ((nI_succ i).symm) (by decide) rfl (fun ls hl => ?_)
    refine lv_goto (tgt := 5) hx hb dX2_doubleAndAddSquares_130 (by decide) ?_
    refine ih (i + 1, hi2 / 4294967296, upd (upd F (2 * i) (nI lo)) (2 * i + 1) (nI hi2)) H locs ls (by show n - (i + 1) < n - i; omega) ⟨by show i + 1 ≤ n; omega, by show _ / _ < _; omega, ?_, fun k hk => ?_⟩ hP hD hS (lv_sub hl [0, 1, 5, 6, 7] rfl)
    · have h5 : dvb 4294967296 (upd (upd F (2 * i) (nI lo)) (2 * i + 1) (nI hi2)) (2 * (i + 1)) = dvb 4294967296 F (2 * i) + lo % 4294967296 * 4294967296 ^ (2 * i) + hi2 % 4294967296 * 4294967296 ^ (2 * i + 1) := by
        rw [show 2 * (i + 1) = 2 * i + 1 + 1 by omega]
        show dvb 4294967296 (upd (upd F (2 * i) (nI lo)) (2 * i + 1) (nI hi2)) (2 * i) + un (upd (upd F (2 * i) (nI lo)) (2 * i + 1) (nI hi2) (2 * i)) * 4294967296 ^ (2 * i) + un (upd (upd F (2 * i) (nI lo)) (2 * i + 1) (nI hi2) (2 * i + 1)) * 4294967296 ^ (2 * i + 1) = _
        rw [dvb_upd (by omega), dvb_upd (Nat.le_refl _), pk_us, pk_un (by omega), pk_us, un_mod, un_mod]
      dsimp only
      rw [h5]
      exact dbl_step hinv hlo hhi
    · show upd (upd F (2 * i) (nI lo)) (2 * i + 1) (nI hi2) k = f k
      have hk : 2 * (i + 1) ≤ k := hk
      rw [pk_un (by omega), pk_un (by omega)]
      exact hge k (by omega)
