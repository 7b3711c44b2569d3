/-! ===== numbers as rows of digits ===== -/
def un (x : Int32) : Nat := x.toBitVec.toNat
theorem un_lt (x : Int32) : un x < 4294967296 := x.toBitVec.isLt
theorem un_nI {n : Nat} (h : n < 4294967296) : un (nI n) = n := pk_tn h
theorem nI_un (x : Int32) : nI (un x) = x := by
  have h : (nI (un x)).toBitVec = x.toBitVec := by
    apply BitVec.eq_of_toNat_eq
    rw [pk_tn (un_lt x)]
    rfl
  exact Int32.toBitVec_inj.mp h
theorem nI_mod (n : Nat) : nI n = nI (n % 4294967296) := by
  have h : (nI n).toBitVec = (nI (n % 4294967296)).toBitVec := by
    apply BitVec.eq_of_toNat_eq
    rw [pk_tn (Nat.mod_lt _ (by decide))]
    show (BitVec.ofNat 32 n).toNat = _
    rw [BitVec.toNat_ofNat]
  exact Int32.toBitVec_inj.mp h
theorem un_mod (n : Nat) : un (nI n) = n % 4294967296 := by rw [nI_mod, un_nI (Nat.mod_lt _ (by decide))]
theorem un_0 : un 0 = 0 := by decide
theorem un_eq0 {x : Int32} : un x = 0 ↔ x = 0 := by
  constructor
  · intro h
    rw [← nI_un x, h]
    exact nI_0
  · intro h; rw [h]; exact un_0
theorem un_inj {x y : Int32} (h : un x = un y) : x = y := by rw [← nI_un x, ← nI_un y, h]
theorem un_m1 : un (-1) = 4294967295 := by decide
/-- an int's word as a long without a sign -/
theorem wl_un (x : Int32) : (x.toInt64 &&& 4294967295) = lN (un x) := by
  apply wb_inj
  rw [wb_tb]
  apply BitVec.eq_of_toNat_eq
  rw [BitVec.toNat_ofNat]
  have h1 : (x.toInt64 &&& 4294967295).toBitVec = x.toBitVec.signExtend 64 &&& 4294967295#64 := rfl
  rw [h1, BitVec.toNat_and]
  have h2 : (4294967295#64).toNat = 2 ^ 32 - 1 := by decide
  rw [h2, Nat.and_two_pow_sub_one_eq_mod, BitVec.toNat_signExtend]
  have h3 : x.toBitVec.toNat < 4294967296 := un_lt x
  have h4 : un x = x.toBitVec.toNat := rfl
  rw [h4, BitVec.toNat_setWidth]
  split <;> omega
theorem lN_low {n : Nat} : (lN n).toInt32 = nI n := lN_i n
/-- >>> 32 -/
theorem wl_hi {n : Nat} (h : n < 18446744073709551616) : ((lN n).toUInt64 >>> ((32 : Int32).toInt64.toUInt64 &&& Int64.toUInt64 63)).toInt64 = lN (n / 4294967296) := wb_shr (n := n) (k := 32) h (by decide)
def dvb (b : Nat) (f : Nat → Int32) : Nat → Nat
  | 0 => 0
  | n + 1 => dvb b f n + un (f n) * b ^ n
theorem dvb_congr {b : Nat} {f g : Nat → Int32} : ∀ {n : Nat}, (∀ j, j < n → f j = g j) → dvb b f n = dvb b g n
  | 0, _ => rfl
  | n + 1, h => by
    show dvb b f n + un (f n) * b ^ n = dvb b g n + un (g n) * b ^ n
    rw [dvb_congr (fun j hj => h j (by omega)), h n (by omega)]
theorem dvb_upd {b : Nat} {f : Nat → Int32} {k n : Nat} {x : Int32} (h : n ≤ k) : dvb b (upd f k x) n = dvb b f n := dvb_congr (fun j hj => pk_un (by omega))
theorem dvb_lt {b : Nat} {f : Nat → Int32} : ∀ {n : Nat}, (∀ j, j < n → un (f j) < b) → dvb b f n < b ^ n
  | 0, _ => Nat.one_pos
  | n + 1, h => by
    have h1 := dvb_lt (n := n) (fun j hj => h j (by omega))
    have h2 : un (f n) * b ^ n ≤ (b - 1) * b ^ n := Nat.mul_le_mul_right _ (by have := h n (by omega); omega)
    have h3 : (b - 1) * b ^ n + b ^ n = b ^ (n + 1) := by
      have := h n (by omega)
      rw [Nat.pow_succ, ← Nat.succ_mul, Nat.mul_comm]
      congr 1
      omega
    show dvb b f n + un (f n) * b ^ n < b ^ (n + 1)
    omega
theorem dv32_lt (f : Nat → Int32) (n : Nat) : dvb 4294967296 f n < 4294967296 ^ n := dvb_lt (fun j _ => un_lt _)
/-- the top digit isn't 0: at least the power below -/
theorem dvb_ge {b : Nat} {f : Nat → Int32} {n : Nat} (h : f n ≠ 0) : b ^ n ≤ dvb b f (n + 1) := by
  have h1 : 1 ≤ un (f n) := Nat.pos_of_ne_zero (fun e => h (un_eq0.mp e))
  have h2 : 1 * b ^ n ≤ un (f n) * b ^ n := Nat.mul_le_mul_right _ h1
  show b ^ n ≤ dvb b f n + un (f n) * b ^ n
  omega
/-- one step of multiplying and adding -/
theorem dvb_mul_step {b : Nat} (hb : 0 < b) {f f' : Nat → Int32} {i fac car more : Nat} (h : dvb b f' i + car * b ^ i = dvb b f i * fac + more) :
    (dvb b f' i + ((un (f i) * fac + car) % b) * b ^ i) + ((un (f i) * fac + car) / b) * b ^ (i + 1) = dvb b f (i + 1) * fac + more := by
  have h1 := Nat.div_add_mod (un (f i) * fac + car) b
  generalize (un (f i) * fac + car) / b = q at *
  generalize (un (f i) * fac + car) % b = r at *
  show (dvb b f' i + r * b ^ i) + q * b ^ (i + 1) = (dvb b f i + un (f i) * b ^ i) * fac + more
  have h2 : b ^ (i + 1) = b ^ i * b := Nat.pow_succ ..
  rw [h2]
  generalize b ^ i = P at *
  have h3 : r * P + q * (P * b) = (un (f i) * fac + car) * P := by rw [← h1]; grind
  grind
/-- one step of dividing from the top -/
theorem div_step (Hi w d b : Nat) (hd : 0 < d) : (Hi * b + w) / d = (Hi / d) * b + ((Hi % d) * b + w) / d ∧ (Hi * b + w) % d = ((Hi % d) * b + w) % d := by
  have h1 := Nat.div_add_mod Hi d
  have h2 : Hi * b + w = ((Hi % d) * b + w) + d * ((Hi / d) * b) := by
    conv => lhs; rw [← h1]
    grind
  rw [h2]
  constructor
  · rw [Nat.add_mul_div_left _ _ hd, Nat.add_comm]
  · rw [Nat.add_mul_mod_self_left]
/-- the part of a row from place i on -/
def hib (b : Nat) (f : Nat → Int32) (n i : Nat) : Nat := dvb b (fun j => f (i + j)) (n - i)
theorem dvb_split {b : Nat} {f : Nat → Int32} {i : Nat} : ∀ {k : Nat}, dvb b f (i + k) = dvb b f i + b ^ i * dvb b (fun j => f (i + j)) k
  | 0 => by simp [dvb]
  | k + 1 => by
    show dvb b f (i + k) + un (f (i + k)) * b ^ (i + k) = dvb b f i + b ^ i * (dvb b (fun j => f (i + j)) k + un (f (i + k)) * b ^ k)
    rw [dvb_split (k := k), Nat.pow_add]
    grind
theorem dvb_low {b : Nat} {f : Nat → Int32} : ∀ {n : Nat}, dvb b f (n + 1) = un (f 0) + b * dvb b (fun j => f (j + 1)) n := by
  intro n
  have h := dvb_split (b := b) (f := f) (i := 1) (k := n)
  rw [Nat.add_comm 1 n] at h
  rw [h]
  have e1 : dvb b f 1 = un (f 0) := by simp [dvb]
  have e2 : (fun j => f (1 + j)) = (fun j => f (j + 1)) := by funext j; rw [Nat.add_comm]
  rw [e1, e2, Nat.pow_one]
theorem hib_n {b : Nat} {f : Nat → Int32} {n : Nat} : hib b f n n = 0 := by unfold hib; rw [Nat.sub_self]; rfl
theorem hib_0 {b : Nat} {f : Nat → Int32} {n : Nat} : hib b f n 0 = dvb b f n := by
  unfold hib
  exact dvb_congr (fun j _ => by rw [Nat.zero_add])
theorem hib_step {b : Nat} {f : Nat → Int32} {n i : Nat} (h : i < n) : hib b f n i = hib b f n (i + 1) * b + un (f i) := by
  unfold hib
  rw [show n - i = (n - (i + 1)) + 1 by omega, dvb_low]
  have e : (fun j => (fun j => f (i + j)) (j + 1)) = (fun j => f (i + 1 + j)) := by funext j; show f (i + (j + 1)) = _; congr 1; omega
  rw [e, Nat.add_zero]
  grind
theorem hib_congr {b : Nat} {f g : Nat → Int32} {n i : Nat} (h : ∀ j, i ≤ j → j < n → f j = g j) : hib b f n i = hib b g n i := dvb_congr (fun j hj => h (i + j) (by omega) (by omega))
theorem dvb_digit {b : Nat} (hb : 0 < b) {f : Nat → Int32} {n k : Nat} (hf : ∀ j, j < n → un (f j) < b) (hk : k < n) : dvb b f n / b ^ k % b = un (f k) := by
  have h1 : dvb b f n = dvb b f k + b ^ k * dvb b (fun j => f (k + j)) (n - k) := by
    have := dvb_split (b := b) (f := f) (i := k) (k := n - k)
    rwa [show k + (n - k) = n by omega] at this
  have h2 : dvb b f k < b ^ k := dvb_lt (fun j hj => hf j (by omega))
  rw [h1, Nat.add_mul_div_left _ _ (Nat.pow_pos hb), Nat.div_eq_of_lt h2, Nat.zero_add, show n - k = (n - k - 1) + 1 by omega, dvb_low, Nat.add_mul_mod_self_left, Nat.add_zero, Nat.mod_eq_of_lt (hf k hk)]
theorem dvb_high {b : Nat} (hb : 0 < b) {f : Nat → Int32} {n k : Nat} (hf : ∀ j, j < n → un (f j) < b) (hk : n ≤ k) : dvb b f n / b ^ k = 0 :=
  Nat.div_eq_of_lt (Nat.lt_of_lt_of_le (dvb_lt hf) (Nat.pow_le_pow_right hb hk))
