section LAW
variable {p : Program} {l : Launch} {e : Env} {s : State} {m : MethodId} {below : List Frame} {meth : Method} {c : Code} {b L : Nat} {xs : Nat → Int32} {D : va_G} {cB cI cC : ClassId} {A : Nat → Prop}
variable {h hti ati hto ato hnu anu hsp asp hsq asq hsm asm g gi go gn gr : Nat}

theorem law_in {i L : Nat} (hL : L ≤ 3072) (hi : i ≤ L) (h : ¬ nI L - nI 6 < nI i) : i + 6 ≤ L := by
  rcases Nat.lt_or_ge L 6 with q | q
  · exfalso
    apply h
    rw [Int32.lt_iff_toInt_lt, nI_toInt (show i < 2 ^ 31 by omega)]
    have h1 : (nI L - nI 6).toInt < 0 := by
      match L, q with
      | 0, _ => decide
      | 1, _ => decide
      | 2, _ => decide
      | 3, _ => decide
      | 4, _ => decide
      | 5, _ => decide
      | k + 6, q => omega
    omega
  · obtain ⟨k, rfl⟩ : ∃ k, L = k + 6 := ⟨L - 6, by omega⟩
    have e0 : nI (k + 6) - nI 6 = nI k := by rw [← nI_add]; exact Int32.add_sub_cancel _ _
    rw [e0] at h
    have := Nat.le_of_not_lt (fun q => h ((nI_ltI (by omega) (by omega)).mpr q))
    omega

set_option maxRecDepth 100000 in
set_option maxHeartbeats 4000000 in
theorem law_loop (hL : L ≤ 3072) (hC : dm_C p s m #[Value.ref b] meth c cL_law 4 ret RL) (hX : va_X b L xs s s.heap) (hbl : b < s.heap.size) (hbA : ¬ A b) (hA : ∀ q : Nat, s.heap.size ≤ q → A q) (hK : va_K D vwCl (TY cB cI cC) s) (hAA : ∀ q : Nat, A q → s.heap.size ≤ q) : ∀ (fuel i : Nat) (n st uN us uq um kt kw kz ks : Nat) (ft fx fN fs fq fm ki ko kn kr : Nat → Int32) (lv kv : Int64) (th : Int32) (H : Heap) (locs : List Loc) (ls : Array Slot), L < i + fuel → i ≤ L → RT n ft kt ki → RO st fx kw ko → RN uN fN kz kn → kv = lv → va_P D vwCl [(h, .inr (3, [.ref hti, .ref hto, .ref hnu, .ref hsp, .ref hsq, .ref hsm, .long lv])), (hti, .inr (0, [.ref ati, .int (nI n)])), (ati, .inl (cB, 65536, .inl ft)), (hto, .inr (1, [.ref ato, .int (nI st)])), (ato, .inl (cB, 65536, .inl fx)), (hnu, .inr (2, [.ref anu, .int (nI uN)])), (anu, .inl (cI, 2048, .inl fN)), (hsp, .inr (2, [.ref asp, .int (nI us)])), (asp, .inl (cI, 2048, .inl fs)), (hsq, .inr (2, [.ref asq, .int (nI uq)])), (asq, .inl (cI, 2048, .inl fq)), (hsm, .inr (2, [.ref asm, .int (nI um)])), (asm, .inl (cI, 2, .inl fm)), (g, .inr (4, [.int th, .int (nI kt), .ref gi, .int (nI kw), .ref go, .int (nI kz), .ref gn, .int (nI ks), .ref gr, .long kv])), (gi, .inl (cC, 65536, .inl ki)), (go, .inl (cC, 65536, .inl ko)), (gn, .inl (cI, 4096, .inl kn)), (gr, .inl (cI, 4096, .inl kr))] H → va_D A [(h, .inr (3, [.ref hti, .ref hto, .ref hnu, .ref hsp, .ref hsq, .ref hsm, .long lv])), (hti, .inr (0, [.ref ati, .int (nI n)])), (ati, .inl (cB, 65536, .inl ft)), (hto, .inr (1, [.ref ato, .int (nI st)])), (ato, .inl (cB, 65536, .inl fx)), (hnu, .inr (2, [.ref anu, .int (nI uN)])), (anu, .inl (cI, 2048, .inl fN)), (hsp, .inr (2, [.ref asp, .int (nI us)])), (asp, .inl (cI, 2048, .inl fs)), (hsq, .inr (2, [.ref asq, .int (nI uq)])), (asq, .inl (cI, 2048, .inl fq)), (hsm, .inr (2, [.ref asm, .int (nI um)])), (asm, .inl (cI, 2, .inl fm)), (g, .inr (4, [.int th, .int (nI kt), .ref gi, .int (nI kw), .ref go, .int (nI kz), .ref gn, .int (nI ks), .ref gr, .long kv])), (gi, .inl (cC, 65536, .inl ki)), (go, .inl (cC, 65536, .inl ko)), (gn, .inl (cI, 4096, .inl kn)), (gr, .inl (cI, 4096, .inl kr))] → va_S A s.heap H locs → lv_has ls 4 [(0, .ref b), (1, .ref h), (2, .ref g), (3, .int (nI i))] → W p l e room_1 s m #[Value.ref b] below meth c H locs 18 276511 (lw_Z below #[Value.ref b] s) (F0 m 18 ls []) := by
  obtain ⟨hx, hb, hr, hml, hown, hts, hlocks, hN⟩ := id hC
  intro fuel
  induction fuel with
  | zero => intro i n st uN us uq um kt kw kz ks ft fx fN fs fq fm ki ko kn kr lv kv th H locs ls h1 h2; exact absurd h1 (by omega)
  | succ fuel ih =>
    intro i n st uN us uq um kt kw kz ks ft fx fN fs fq fm ki ko kn kr lv kv th H locs ls hfu hi hRT hRO hRN hkv hP hD hS hl
    have kk : i + 6 ≤ L → ∀ (n st uN us uq um kt kw kz ks : Nat) (ft fx fN fs fq fm ki ko kn kr : Nat → Int32) (lv kv : Int64) (th : Int32) (H : Heap) (locs : List Loc) (ls : Array Slot), RT n ft kt ki → RO st fx kw ko → RN uN fN kz kn → kv = lv → va_P D vwCl [(h, .inr (3, [.ref hti, .ref hto, .ref hnu, .ref hsp, .ref hsq, .ref hsm, .long lv])), (hti, .inr (0, [.ref ati, .int (nI n)])), (ati, .inl (cB, 65536, .inl ft)), (hto, .inr (1, [.ref ato, .int (nI st)])), (ato, .inl (cB, 65536, .inl fx)), (hnu, .inr (2, [.ref anu, .int (nI uN)])), (anu, .inl (cI, 2048, .inl fN)), (hsp, .inr (2, [.ref asp, .int (nI us)])), (asp, .inl (cI, 2048, .inl fs)), (hsq, .inr (2, [.ref asq, .int (nI uq)])), (asq, .inl (cI, 2048, .inl fq)), (hsm, .inr (2, [.ref asm, .int (nI um)])), (asm, .inl (cI, 2, .inl fm)), (g, .inr (4, [.int th, .int (nI kt), .ref gi, .int (nI kw), .ref go, .int (nI kz), .ref gn, .int (nI ks), .ref gr, .long kv])), (gi, .inl (cC, 65536, .inl ki)), (go, .inl (cC, 65536, .inl ko)), (gn, .inl (cI, 4096, .inl kn)), (gr, .inl (cI, 4096, .inl kr))] H → va_D A [(h, .inr (3, [.ref hti, .ref hto, .ref hnu, .ref hsp, .ref hsq, .ref hsm, .long lv])), (hti, .inr (0, [.ref ati, .int (nI n)])), (ati, .inl (cB, 65536, .inl ft)), (hto, .inr (1, [.ref ato, .int (nI st)])), (ato, .inl (cB, 65536, .inl fx)), (hnu, .inr (2, [.ref anu, .int (nI uN)])), (anu, .inl (cI, 2048, .inl fN)), (hsp, .inr (2, [.ref asp, .int (nI us)])), (asp, .inl (cI, 2048, .inl fs)), (hsq, .inr (2, [.ref asq, .int (nI uq)])), (asq, .inl (cI, 2048, .inl fq)), (hsm, .inr (2, [.ref asm, .int (nI um)])), (asm, .inl (cI, 2, .inl fm)), (g, .inr (4, [.int th, .int (nI kt), .ref gi, .int (nI kw), .ref go, .int (nI kz), .ref gn, .int (nI ks), .ref gr, .long kv])), (gi, .inl (cC, 65536, .inl ki)), (go, .inl (cC, 65536, .inl ko)), (gn, .inl (cI, 4096, .inl kn)), (gr, .inl (cI, 4096, .inl kr))] → va_S A s.heap H locs → lv_has ls 4 [(0, .ref b), (1, .ref h), (2, .ref g), (3, .int (nI i))] → W p l e room_1 s m #[Value.ref b] below meth c H locs 18 276511 (lw_Z below #[Value.ref b] s) (F0 m 589 ls []) := by
      intro hi6 n st uN us uq um kt kw kz ks ft fx fN fs fq fm ki ko kn kr lv kv th H locs ls hRT hRO hRN hkv hP hD hS hl
      refine lv_iinc (v := nI (i + 6)) (lv' := [(3, .int (nI (i + 6))), (0, .ref b), (1, .ref h), (2, .ref g)]) hx hb dL_law_589 hl (k := 3) rfl (nI_add i 6) (by decide) rfl (fun ls hl => ?_)
      refine lv_goto (tgt := 18) hx hb dL_law_592 (by decide) ?_
      exact ih (i + 6) n st uN us uq um kt kw kz ks ft fx fN fs fq fm ki ko kn kr lv kv th H locs ls (by omega) hi6 hRT hRO hRN hkv hP hD hS (lv_sub hl [1, 2, 3, 0] rfl)
    refine lv_iload_n hx hb dL_law_18 rfl (lv_at hl 3 rfl) ?_
    refine lv_aload_n hx hb dL_law_19 rfl (lv_at hl 0 rfl) ?_
    refine va_slen hx hb hX hbl hbA hS dL_law_20 ?_
    refine lv_bipush (v := nI 6) hx hb dL_law_21 (by decide) ?_
    refine lv_isub hx hb dL_law_23 ?_
    refine dm_ti (y := nI L - nI 6) rfl ?_
    refine lv_icmp_gt (tgt := 595) hx hb dL_law_24 (by decide) (fun hg => ?_) (fun hg => ?_)
    · refine lv_iconst (v := nI 1) hx hb dL_law_595 (by decide) ?_
      refine va_forget (fun q hq => hAA _ (hS.2.2 q hq)) ?_
      refine W.widen (k := 600000) (n := 7302250) (by decide) (by decide) ?_
      exact lw_ret hx hb hr hlocks dL_law_596
    · have hi6 : i + 6 ≤ L := law_in hL hi hg
      have kk := kk hi6
      clear ih
      refine lv_aload_n hx hb dL_law_27 rfl (lv_at hl 0 rfl) ?_
      refine lv_iload_n hx hb dL_law_28 rfl (lv_at hl 3 rfl) ?_
      refine va_sld hx hb hX hbl hbA hS (vp_in_nI (by omega) (by omega)) dL_law_29 ?_
      refine dm_ti (y := xs i) (by rw [nI_clamp (by omega)]) ?_
      refine lv_bipush (v := nI 15) hx hb dL_law_30 (by decide) ?_
      refine lv_iand hx hb dL_law_32 ?_
      obtain ⟨k, hk, ek⟩ := lk_15 (xs i)
      refine dm_ti (y := nI k) ek ?_
      clear ek
      match k, hk with
      | 0, _ => exact lv_tableIn (tgt := 104) (off := 71) hx hb dL_law_33 (by decide) (by decide) rfl rfl (law_type hL hC hX hbl hbA hA hK hi6 n st uN us uq um kt kw kz ks ft fx fN fs fq fm ki ko kn kr lv kv th hRT hRO hRN hkv hP hD hS hl kk)
      | 1, _ => exact lv_tableIn (tgt := 157) (off := 124) hx hb dL_law_33 (by decide) (by decide) rfl rfl (law_repeat hL hC hX hbl hbA hA hK hi6 n st uN us uq um kt kw kz ks ft fx fN fs fq fm ki ko kn kr lv kv th hRT hRO hRN hkv hP hD hS hl kk)
      | 2, _ => exact lv_tableIn (tgt := 190) (off := 157) hx hb dL_law_33 (by decide) (by decide) rfl rfl (law_read hL hC hX hbl hbA hA hK hi6 n st uN us uq um kt kw kz ks ft fx fN fs fq fm ki ko kn kr lv kv th hRT hRO hRN hkv hP hD hS hl kk)
      | 3, _ => exact lv_tableIn (tgt := 213) (off := 180) hx hb dL_law_33 (by decide) (by decide) rfl rfl (law_write hL hC hX hbl hbA hA hK hi6 n st uN us uq um kt kw kz ks ft fx fN fs fq fm ki ko kn kr lv kv th hRT hRO hRN hkv hP hD hS hl kk)
      | 4, _ => exact lv_tableIn (tgt := 236) (off := 203) hx hb dL_law_33 (by decide) (by decide) rfl rfl (law_push hL hC hX hbl hbA hA hK hi6 n st uN us uq um kt kw kz ks ft fx fN fs fq fm ki ko kn kr lv kv th hRT hRO hRN hkv hP hD hS hl kk)
      | 5, _ => exact lv_tableIn (tgt := 289) (off := 256) hx hb dL_law_33 (by decide) (by decide) rfl rfl (law_power hL hC hX hbl hbA hA hK hi6 n st uN us uq um kt kw kz ks ft fx fN fs fq fm ki ko kn kr lv kv th hRT hRO hRN hkv hP hD hS hl kk)
      | 6, _ => exact lv_tableIn (tgt := 322) (off := 289) hx hb dL_law_33 (by decide) (by decide) rfl rfl (law_add hL hC hX hbl hbA hA hK hi6 n st uN us uq um kt kw kz ks ft fx fN fs fq fm ki ko kn kr lv kv th hRT hRO hRN hkv hP hD hS hl kk)
      | 7, _ => exact lv_tableIn (tgt := 345) (off := 312) hx hb dL_law_33 (by decide) (by decide) rfl rfl (law_show hL hC hX hbl hbA hA hK hi6 n st uN us uq um kt kw kz ks ft fx fN fs fq fm ki ko kn kr lv kv th hRT hRO hRN hkv hP hD hS hl kk)
      | 8, _ => exact lv_tableIn (tgt := 444) (off := 411) hx hb dL_law_33 (by decide) (by decide) rfl rfl (law_parse hL hC hX hbl hbA hA hK hi6 n st uN us uq um kt kw kz ks ft fx fN fs fq fm ki ko kn kr lv kv th hRT hRO hRN hkv hP hD hS hl kk)
      | 9, _ => exact lv_tableIn (tgt := 503) (off := 470) hx hb dL_law_33 (by decide) (by decide) rfl rfl (law_value hL hC hX hbl hbA hA hK hi6 n st uN us uq um kt kw kz ks ft fx fN fs fq fm ki ko kn kr lv kv th hRT hRO hRN hkv hP hD hS hl kk)
      | 10, _ => exact lv_tableIn (tgt := 517) (off := 484) hx hb dL_law_33 (by decide) (by decide) rfl rfl (law_word hL hC hX hbl hbA hA hK hi6 n st uN us uq um kt kw kz ks ft fx fN fs fq fm ki ko kn kr lv kv th hRT hRO hRN hkv hP hD hS hl kk)
      | 11, _ => exact lv_tableIn (tgt := 540) (off := 507) hx hb dL_law_33 (by decide) (by decide) rfl rfl (law_bits hL hC hX hbl hbA hA hK hi6 n st uN us uq um kt kw kz ks ft fx fN fs fq fm ki ko kn kr lv kv th hRT hRO hRN hkv hP hD hS hl kk)
      | 12, _ => exact lv_tableIn (tgt := 553) (off := 520) hx hb dL_law_33 (by decide) (by decide) rfl rfl (law_characterAt hL hC hX hbl hbA hA hK hi6 n st uN us uq um kt kw kz ks ft fx fN fs fq fm ki ko kn kr lv kv th hRT hRO hRN hkv hP hD hS hl kk)
      | 13, _ => exact lv_tableIn (tgt := 576) (off := 543) hx hb dL_law_33 (by decide) (by decide) rfl rfl (law_typed hL hC hX hbl hbA hA hK hi6 n st uN us uq um kt kw kz ks ft fx fN fs fq fm ki ko kn kr lv kv th hRT hRO hRN hkv hP hD hS hl kk)
      | 14, _ => exact lv_tableOut (tgt := 589) hx hb dL_law_33 (Or.inr (by decide)) rfl (kk n st uN us uq um kt kw kz ks ft fx fN fs fq fm ki ko kn kr lv kv th H locs ls hRT hRO hRN hkv hP hD hS hl)
      | 15, _ => exact lv_tableOut (tgt := 589) hx hb dL_law_33 (Or.inr (by decide)) rfl (kk n st uN us uq um kt kw kz ks ft fx fN fs fq fm ki ko kn kr lv kv th H locs ls hRT hRO hRN hkv hP hD hS hl)
      | k + 16, hk => exact absurd hk (by omega)

end LAW
