/-! ===== Int32 by its bits: bt x i ===== -/
def bt (x : Int32) (i : Nat) : Bool := x.toBitVec.getLsbD i
theorem b_ext {x y : Int32} (h : ∀ i, i < 32 → bt x i = bt y i) : x = y := Int32.toBitVec_inj.mp (BitVec.eq_of_getLsbD_eq (fun i hi => h i hi))
theorem b_or (x y : Int32) (i : Nat) : bt (x ||| y) i = (bt x i || bt y i) := by unfold bt; rw [Int32.toBitVec_or, BitVec.getLsbD_or]
theorem b_and (x y : Int32) (i : Nat) : bt (x &&& y) i = (bt x i && bt y i) := by unfold bt; rw [Int32.toBitVec_and, BitVec.getLsbD_and]
theorem b_xor (x y : Int32) (i : Nat) : bt (x ^^^ y) i = (bt x i ^^ bt y i) := by unfold bt; rw [Int32.toBitVec_xor, BitVec.getLsbD_xor]
theorem b_big {x : Int32} {i : Nat} (h : 32 ≤ i) : bt x i = false := BitVec.getLsbD_of_ge _ _ h
theorem b_m1 : ∀ i, i < 32 → bt (-1) i = true := by decide +kernel
theorem b_0 (i : Nat) : bt 0 i = false := BitVec.getLsbD_zero
theorem s_l : ∀ n, n < 32 → ((nI n &&& 31).toBitVec.smod 32).toNat = n := by decide +kernel
theorem s_u : ∀ n, n < 32 → (((nI n).toUInt32 &&& Int32.toUInt32 31).toBitVec % 32).toNat = n := by decide +kernel
theorem b_shl (n : Nat) (hn : n < 32) (x : Int32) {i : Nat} (hi : i < 32) : bt (x <<< (nI n &&& 31)) i = (decide (n ≤ i) && bt x (i - n)) := by
  unfold bt
  rw [Int32.toBitVec_shiftLeft]
  show (x.toBitVec <<< ((nI n &&& 31).toBitVec.smod 32).toNat).getLsbD i = _
  rw [s_l n hn, BitVec.getLsbD_shiftLeft]
  rcases Nat.lt_or_ge i n with h | h
  · simp [h, Nat.not_le.mpr h]
  · simp [hi, h, Nat.not_lt.mpr h]
theorem b_ushr (n : Nat) (hn : n < 32) (x : Int32) (i : Nat) : bt ((x.toUInt32 >>> ((nI n).toUInt32 &&& Int32.toUInt32 31)).toInt32) i = bt x (n + i) := by
  show (x.toUInt32 >>> ((nI n).toUInt32 &&& Int32.toUInt32 31)).toBitVec.getLsbD i = x.toUInt32.toBitVec.getLsbD (n + i)
  rw [UInt32.toBitVec_shiftRight]
  show (x.toUInt32.toBitVec >>> (((nI n).toUInt32 &&& Int32.toUInt32 31).toBitVec % 32).toNat).getLsbD i = _
  rw [s_u n hn, BitVec.getLsbD_ushiftRight]
theorem b_sshr (n : Nat) (hn : n < 32) (x : Int32) {i : Nat} (hi : i < 32) : bt (x >>> (nI n &&& 31)) i = if n + i < 32 then bt x (n + i) else bt x 31 := by
  unfold bt
  rw [Int32.toBitVec_shiftRight]
  show (x.toBitVec.sshiftRight ((nI n &&& 31).toBitVec.smod 32).toNat).getLsbD i = _
  rw [s_l n hn, BitVec.getLsbD_sshiftRight, BitVec.msb_eq_getLsbD_last]
  simp [hi]
/-! ints and bits -/
theorem iI_ofN {z : Int} (h : 0 ≤ z) : iI z = nI z.toNat := by rw [← iI_nI, Int.toNat_of_nonneg h]
theorem iI_shr {z : Int} (k : Nat) (hk : k < 32) (hz : iB z) : iI z >>> (iI (k : Int) &&& 31) = iI (z / 2 ^ k) := by
  have hp : (0 : Int) < 2 ^ k := Int.pow_pos (by omega)
  have h1 : (iI z >>> (iI (k : Int) &&& 31)).toInt = z / 2 ^ k := by
    rw [iI_nI, pk_shr (iI z) (nI k &&& 31) k (s_l k hk), iI_toInt hz, Int.shiftRight_eq_div_pow]
    simp
  apply Int32.toInt_inj.mp
  rw [h1]
  have hb : iB (z / 2 ^ k) := by
    have g1 : z / 2 ^ k * 2 ^ k ≤ z := Int.ediv_mul_le z (by omega)
    have g2 : z < (z / 2 ^ k + 1) * 2 ^ k := Int.lt_ediv_add_one_mul_self z hp
    have h1' : (1 : Int) ≤ 2 ^ k := by omega
    obtain ⟨a, b⟩ := hz
    constructor
    · rcases (show z / 2 ^ k < -2147483648 ∨ -2147483648 ≤ z / 2 ^ k by omega) with q | q
      · exfalso
        have : (z / 2 ^ k + 1) * 2 ^ k ≤ (z / 2 ^ k + 1) * 1 := Int.mul_le_mul_of_nonpos_left (by omega) h1'
        omega
      · exact q
    · rcases (show z / 2 ^ k < 2147483648 ∨ 2147483648 ≤ z / 2 ^ k by omega) with q | q
      · exact q
      · exfalso
        have : (z / 2 ^ k) * 1 ≤ (z / 2 ^ k) * 2 ^ k := Int.mul_le_mul_of_nonneg_left h1' (by omega)
        omega
  exact (iI_toInt hb).symm
theorem iI_bv (z : Int) : (iI z).toBitVec = BitVec.ofInt 32 z := rfl
theorem iI_shl (z : Int) (k : Nat) (hk : k < 32) : iI z <<< (iI (k : Int) &&& 31) = iI (z * 2 ^ k) := by
  apply Int32.toBitVec_inj.mp
  rw [Int32.toBitVec_shiftLeft, iI_nI]
  show (iI z).toBitVec <<< ((nI k &&& 31).toBitVec.smod 32).toNat = _
  rw [s_l k hk, iI_bv, iI_bv, BitVec.shiftLeft_eq_mul_twoPow, BitVec.ofInt_mul]
  congr 1
  apply BitVec.eq_of_toNat_eq
  rw [BitVec.toNat_twoPow, BitVec.toNat_ofInt]
  have : ((2 : Int) ^ k) = ((2 ^ k : Nat) : Int) := by push_cast; rfl
  rw [this]
  omega
theorem iI_and31 (z : Int) : iI z &&& iI 31 = iI (z % 32) := by
  rw [pk_and (iI z) 5 (by decide +kernel), iI_bv, BitVec.toNat_ofInt, ← iI_nI]
  congr 1
  omega
theorem bt_bit (x : Int32) (n : Nat) (hn : n < 32) : (x.toUInt32 >>> ((iI (n : Int)).toUInt32 &&& Int32.toUInt32 31)).toInt32 &&& iI 1 = bI (bt x n) := by
  apply b_ext
  intro i hi
  rw [b_and, iI_nI, b_ushr n hn]
  have h1 : ∀ i, i < 32 → bt (iI 1) i = decide (i = 0) := by decide +kernel
  rw [h1 i hi]
  by_cases h0 : i = 0
  · subst h0
    cases bt x n <;> decide +kernel
  · cases bt x n <;> simp [h0] <;> (have h2 : ∀ i, i < 32 → (bt (bI true) i = decide (i = 0) ∧ bt (bI false) i = false) := by decide +kernel) <;> simp [h2 i hi, h0]
/-- the k-th bit of a word of numbers -/
def mem (f : Nat → Int32) (v : Nat) : Bool := bt (f (v / 32)) (v % 32)
/-- how many of the n from a on are in S -/
def ct (S : Nat → Bool) (a : Nat) : Nat → Nat
  | 0 => 0
  | n + 1 => ct S a n + (if S (a + n) then 1 else 0)
theorem ct_le (S : Nat → Bool) (a n : Nat) : ct S a n ≤ n := by
  induction n with
  | zero => simp [ct]
  | succ n ih => simp only [ct]; split <;> omega
theorem ct_add (S : Nat → Bool) (a n k : Nat) : ct S a (n + k) = ct S a n + ct S (a + n) k := by
  induction k with
  | zero => simp [ct]
  | succ k ih => rw [← Nat.add_assoc]; simp only [ct]; rw [ih, Nat.add_assoc a n k]; omega
theorem ct_congr {S T : Nat → Bool} {a b n : Nat} (h : ∀ i, i < n → S (a + i) = T (b + i)) : ct S a n = ct T b n := by
  induction n with
  | zero => rfl
  | succ n ih => simp only [ct]; rw [ih (fun i hi => h i (by omega)), h n (by omega)]
/-- sum of f i times 2^(k i) -/
def fld (k : Nat) (f : Nat → Nat) : Nat → Nat
  | 0 => 0
  | n + 1 => f 0 + 2 ^ k * fld k (fun i => f (i + 1)) n
theorem and_split {k lo hi m M : Nat} (h1 : lo < 2 ^ k) (h2 : m < 2 ^ k) : (lo + 2 ^ k * hi) &&& (m + 2 ^ k * M) = (lo &&& m) + 2 ^ k * (hi &&& M) := by
  have h3 : lo &&& m < 2 ^ k := Nat.lt_of_le_of_lt Nat.and_le_left h1
  apply Nat.eq_of_testBit_eq
  intro i
  rw [Nat.testBit_and, Nat.add_comm lo, Nat.add_comm m, Nat.add_comm (lo &&& m), Nat.testBit_two_pow_mul_add _ h1, Nat.testBit_two_pow_mul_add _ h2, Nat.testBit_two_pow_mul_add _ h3]
  split <;> simp
theorem fld_and {k : Nat} {f g : Nat → Nat} (n : Nat) (hf : ∀ i, i < n → f i < 2 ^ k) (hg : ∀ i, i < n → g i < 2 ^ k) : fld k f n &&& fld k g n = fld k (fun i => f i &&& g i) n := by
  induction n generalizing f g with
  | zero => simp [fld]
  | succ n ih =>
    simp only [fld]
    rw [and_split (hf 0 (by omega)) (hg 0 (by omega)), ih (fun i hi => hf (i + 1) (by omega)) (fun i hi => hg (i + 1) (by omega))]
theorem fld_congr {k : Nat} {f g : Nat → Nat} (n : Nat) (h : ∀ i, i < n → f i = g i) : fld k f n = fld k g n := by
  induction n generalizing f g with
  | zero => rfl
  | succ n ih => simp only [fld]; rw [h 0 (by omega), ih (fun i hi => h (i + 1) (by omega))]
theorem fld_add {k : Nat} {f g : Nat → Nat} (n : Nat) : fld k f n + fld k g n = fld k (fun i => f i + g i) n := by
  induction n generalizing f g with
  | zero => rfl
  | succ n ih => simp only [fld]; rw [← ih, Nat.mul_add]; omega
theorem fld_two {k : Nat} {f : Nat → Nat} (n : Nat) : fld k f (2 * n) = fld (2 * k) (fun i => f (2 * i) + 2 ^ k * f (2 * i + 1)) n := by
  induction n generalizing f with
  | zero => rfl
  | succ n ih =>
    rw [show 2 * (n + 1) = 2 * n + 1 + 1 by omega]
    simp only [fld]
    rw [ih, show 2 * k = k + k by omega, Nat.pow_add, Nat.mul_add, ← Nat.mul_assoc, ← Nat.add_assoc]
    rfl
theorem fld_div {k : Nat} {f : Nat → Nat} (n : Nat) (hf : f 0 < 2 ^ k) : fld k f (n + 1) / 2 ^ k = fld k (fun i => f (i + 1)) n := by
  simp only [fld]
  rw [Nat.add_mul_div_left _ _ (Nat.two_pow_pos k), Nat.div_eq_of_lt hf, Nat.zero_add]
theorem fld_last {k : Nat} {f : Nat → Nat} (n : Nat) (h : f n = 0) : fld k f (n + 1) = fld k f n := by
  induction n generalizing f with
  | zero => simp [fld, h]
  | succ n ih =>
    have := ih (f := fun i => f (i + 1)) h
    simp only [fld] at this ⊢
    rw [this]
theorem fld_lt {k : Nat} {f : Nat → Nat} (n : Nat) (h : ∀ i, i < n → f i < 2 ^ k) : fld k f n < 2 ^ (k * n) := by
  induction n generalizing f with
  | zero => simp [fld]
  | succ n ih =>
    simp only [fld]
    have h0 := h 0 (by omega)
    have h1 := ih (f := fun i => f (i + 1)) (fun i hi => h (i + 1) (by omega))
    rw [Nat.mul_succ, Nat.add_comm (k * n), Nat.pow_add]
    have : 2 ^ k * (fld k (fun i => f (i + 1)) n + 1) ≤ 2 ^ k * 2 ^ (k * n) := Nat.mul_le_mul_left _ h1
    rw [Nat.mul_add] at this
    omega
theorem fld_one (n : Nat) (N : Nat) (h : N < 2 ^ n) : N = fld 1 (fun i => (N.testBit i).toNat) n := by
  induction n generalizing N with
  | zero => simp [fld]; omega
  | succ n ih =>
    simp only [fld]
    have h2 : N / 2 < 2 ^ n := by rw [Nat.pow_succ] at h; omega
    have h3 := ih (N / 2) h2
    have h4 : fld 1 (fun i => (N.testBit (i + 1)).toNat) n = fld 1 (fun i => ((N / 2).testBit i).toNat) n := fld_congr n (fun i _ => by rw [Nat.testBit_succ])
    rw [h4, ← h3, Nat.testBit_zero]
    by_cases h5 : N % 2 = 1
    · simp [h5]; omega
    · simp [h5]; omega
