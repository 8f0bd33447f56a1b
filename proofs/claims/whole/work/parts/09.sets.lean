/-! sets: counting, the n-th, the next; words of a set -/
theorem ct_zero {S : Nat → Bool} {a n : Nat} (h : ∀ i, i < n → S (a + i) = false) : ct S a n = 0 := by
  induction n with
  | zero => rfl
  | succ n ih => simp only [ct]; rw [ih (fun i hi => h i (by omega)), h n (by omega)]; rfl
theorem ct_mono (S : Nat → Bool) (a : Nat) {n k : Nat} (h : n ≤ k) : ct S a n ≤ ct S a k := by
  obtain ⟨d, rfl⟩ : ∃ d, k = n + d := ⟨k - n, by omega⟩
  rw [ct_add]; omega
theorem ct_step {S : Nat → Bool} {a n k : Nat} (h : n < k) (hs : S (a + n) = true) : ct S a n + 1 ≤ ct S a k := by
  have h1 := ct_mono S a (show n + 1 ≤ k from h)
  simp only [ct, hs] at h1
  simpa using h1
theorem ct_lt_of {S : Nat → Bool} {n i : Nat} (h : i < ct S 0 n) : ∃ p, p < n ∧ S p = true ∧ ct S 0 p = i := by
  induction n with
  | zero => simp [ct] at h
  | succ n ih =>
    simp only [ct, Nat.zero_add] at h
    by_cases h1 : i < ct S 0 n
    · obtain ⟨p, g1, g2, g3⟩ := ih h1
      exact ⟨p, by omega, g2, g3⟩
    · by_cases h2 : S n = true
      · simp only [h2, if_true] at h
        exact ⟨n, by omega, h2, by omega⟩
      · simp only [h2] at h
        simp at h; omega
theorem ct_pos_of {S : Nat → Bool} {a n : Nat} (h : ct S a n ≠ 0) : ∃ i, i < n ∧ S (a + i) = true := by
  rcases Classical.em (∃ i, i < n ∧ S (a + i) = true) with q | q
  · exact q
  · exact absurd (ct_zero (fun i hi => by
      cases e : S (a + i) with
      | false => rfl
      | true => exact absurd ⟨i, hi, e⟩ q)) h
/-- z is the k-th of S (below N), or -1 -/
def isNth (S : Nat → Bool) (N : Nat) (k z : Int) : Prop := (z = -1 ∧ (k < 0 ∨ (ct S 0 N : Int) ≤ k)) ∨ (0 ≤ z ∧ z < (N : Int) ∧ S z.toNat = true ∧ (ct S 0 z.toNat : Int) = k)
/-- z is the least of S from v on (below N), or -1 -/
def isNext (S : Nat → Bool) (N : Nat) (v z : Int) : Prop := (z = -1 ∧ ∀ u : Nat, v ≤ (u : Int) → u < N → S u = false) ∨ (v ≤ z ∧ 0 ≤ z ∧ z < (N : Int) ∧ S z.toNat = true ∧ ∀ u : Nat, v ≤ (u : Int) → (u : Int) < z → S u = false)
theorem isNth_inj {S : Nat → Bool} {N : Nat} {k z y : Int} (h1 : isNth S N k z) (h2 : isNth S N k y) : z = y := by
  rcases h1 with ⟨a1, a2⟩ | ⟨a1, a2, a3, a4⟩ <;> rcases h2 with ⟨b1, b2⟩ | ⟨b1, b2, b3, b4⟩
  · omega
  · exfalso
    have := ct_step (S := S) (a := 0) (n := y.toNat) (k := N) (by omega) (by rw [Nat.zero_add]; exact b3)
    omega
  · exfalso
    have := ct_step (S := S) (a := 0) (n := z.toNat) (k := N) (by omega) (by rw [Nat.zero_add]; exact a3)
    omega
  · rcases (show z.toNat < y.toNat ∨ y.toNat < z.toNat ∨ z.toNat = y.toNat by omega) with q | q | q
    · have := ct_step (S := S) (a := 0) q (by rw [Nat.zero_add]; exact a3); omega
    · have := ct_step (S := S) (a := 0) q (by rw [Nat.zero_add]; exact b3); omega
    · omega
theorem isNext_inj {S : Nat → Bool} {N : Nat} {v z y : Int} (h1 : isNext S N v z) (h2 : isNext S N v y) : z = y := by
  rcases h1 with ⟨a1, a2⟩ | ⟨a1, a2, a3, a4, a5⟩ <;> rcases h2 with ⟨b1, b2⟩ | ⟨b1, b2, b3, b4, b5⟩
  · omega
  · have := a2 y.toNat (by omega) (by omega); rw [b4] at this; cases this
  · have := b2 z.toNat (by omega) (by omega); rw [a4] at this; cases this
  · rcases (show z < y ∨ y < z ∨ z = y by omega) with q | q | q
    · have := b5 z.toNat (by omega) (by omega); rw [a4] at this; cases this
    · have := a5 y.toNat (by omega) (by omega); rw [b4] at this; cases this
    · exact q
/-! words -/
theorem mem_at (f : Nat → Int32) (j i : Nat) (hi : i < 32) : mem f (32 * j + i) = bt (f j) i := by
  unfold mem
  rw [show (32 * j + i) / 32 = j by omega, show (32 * j + i) % 32 = i by omega]
theorem ct_word (f : Nat → Int32) (j n : Nat) (hn : n ≤ 32) : ct (mem f) (32 * j) n = ct (bt (f j)) 0 n := ct_congr (fun i hi => by rw [mem_at f j i (by omega), Nat.zero_add])
theorem bt_m1 {i : Nat} (h : i < 32) : bt (iI (-1)) i = true := (by decide +kernel : ∀ i, i < 32 → bt (iI (-1)) i = true) i h
theorem bt_hi {r i : Nat} (hr : r < 32) (hi : i < 32) : bt (iI (-1) <<< (iI (r : Int) &&& 31)) i = decide (r ≤ i) := by
  rw [iI_nI, b_shl r hr _ hi]
  by_cases h : r ≤ i
  · simp [h, bt_m1 (show i - r < 32 by omega)]
  · simp [h]
theorem bt_lo {r i : Nat} (hr : r < 32) (hi : i < 32) : bt ((iI (-1) <<< (iI (r : Int) &&& 31)) ^^^ iI (-1)) i = decide (i < r) := by
  rw [b_xor, bt_hi hr hi, bt_m1 hi]
  by_cases h : r ≤ i
  · simp [h]
  · simp [h]; omega
theorem ct_mask (x : Int32) (r : Nat) (hr : r < 32) : ct (bt (x &&& ((iI (-1) <<< (iI (r : Int) &&& 31)) ^^^ iI (-1)))) 0 32 = ct (bt x) 0 r := by
  have h1 := ct_add (bt (x &&& ((iI (-1) <<< (iI (r : Int) &&& 31)) ^^^ iI (-1)))) 0 r (32 - r)
  rw [show r + (32 - r) = 32 by omega] at h1
  have h2 : ct (bt (x &&& ((iI (-1) <<< (iI (r : Int) &&& 31)) ^^^ iI (-1)))) (0 + r) (32 - r) = 0 := ct_zero (fun i hi => by
    rw [b_and, bt_lo hr (by omega), decide_eq_false (by omega)]; simp)
  have h3 : ct (bt (x &&& ((iI (-1) <<< (iI (r : Int) &&& 31)) ^^^ iI (-1)))) 0 r = ct (bt x) 0 r := ct_congr (fun i hi => by
    rw [b_and, bt_lo hr (by omega), decide_eq_true (by omega)]; simp)
  rw [h1, h2, h3]
  omega
/-- the lowest bit that is set -/
theorem low_of {N p : Nat} (h1 : N.testBit p = true) (h2 : ∀ i, i < p → N.testBit i = false) : ∃ q, N = 2 ^ (p + 1) * q + 2 ^ p := by
  refine ⟨N / 2 ^ (p + 1), ?_⟩
  have e1 : N % 2 ^ (p + 1) = 2 ^ p := by
    apply Nat.eq_of_testBit_eq
    intro i
    rw [Nat.testBit_mod_two_pow, Nat.testBit_two_pow]
    rcases (show i < p ∨ i = p ∨ p < i by omega) with q | q | q
    · rw [h2 i q, decide_eq_false (show ¬ p = i by omega)]; simp
    · subst q; rw [h1]; simp
    · rw [decide_eq_false (show ¬ i < p + 1 by omega), decide_eq_false (show ¬ p = i by omega)]; rfl
  have := Nat.div_add_mod N (2 ^ (p + 1))
  omega
theorem tb_low {p q i : Nat} : (2 ^ (p + 1) * q + 2 ^ p).testBit i = (decide (i = p) || (decide (p < i) && q.testBit (i - (p + 1)))) := by
  rw [Nat.testBit_two_pow_mul_add _ (Nat.pow_lt_pow_right (by omega) (by omega)), Nat.testBit_two_pow]
  rcases (show i < p ∨ i = p ∨ p < i by omega) with h | h | h
  · rw [if_pos (by omega), decide_eq_false (show ¬ p = i by omega), decide_eq_false (show ¬ i = p by omega), decide_eq_false (show ¬ p < i by omega)]; rfl
  · subst h; simp
  · rw [if_neg (by omega), decide_eq_false (show ¬ i = p by omega), decide_eq_true h]; rfl
theorem tb_low1 {p q i : Nat} : (2 ^ (p + 1) * q + 2 ^ p - 1).testBit i = (decide (i < p) || (decide (p < i) && q.testBit (i - (p + 1)))) := by
  have h0 : 0 < 2 ^ p := Nat.two_pow_pos p
  rw [show 2 ^ (p + 1) * q + 2 ^ p - 1 = 2 ^ (p + 1) * q + (2 ^ p - 1) by omega, Nat.testBit_two_pow_mul_add _ (by rw [Nat.pow_succ]; omega), Nat.testBit_two_pow_sub_one]
  rcases (show i < p ∨ i = p ∨ p < i by omega) with h | h | h
  · rw [if_pos (by omega), decide_eq_true h]; simp
  · subst h; simp
  · rw [if_neg (by omega), decide_eq_false (show ¬ i < p by omega), decide_eq_true h]; rfl
theorem bt_tN (x : Int32) (i : Nat) : bt x i = (tN x).testBit i := rfl
theorem tN_sub1 {x : Int32} (h : 0 < tN x) : tN (x - iI 1) = tN x - 1 := by rw [tN_sub _ _ (by rw [show tN (iI 1) = 1 by decide +kernel]; exact h), show tN (iI 1) = 1 by decide +kernel]
theorem low_and {x : Int32} {p : Nat} (h1 : bt x p = true) (h2 : ∀ i, i < p → bt x i = false) (i : Nat) : bt (x &&& (x - iI 1)) i = (bt x i && decide (i ≠ p)) := by
  obtain ⟨q, hq⟩ := low_of (N := tN x) h1 h2
  have h0 : 0 < 2 ^ p := Nat.two_pow_pos p
  rw [b_and, bt_tN x, bt_tN (x - iI 1), tN_sub1 (by omega), hq, tb_low, tb_low1]
  rcases (show i < p ∨ i = p ∨ p < i by omega) with h | h | h
  · rw [decide_eq_false (show ¬ i = p by omega), decide_eq_false (show ¬ p < i by omega)]; simp
  · subst h; simp
  · rw [decide_eq_false (show ¬ i = p by omega), decide_eq_true h, decide_eq_false (show ¬ i < p by omega), decide_eq_true (show i ≠ p by omega)]; cases q.testBit (i - (p + 1)) <;> rfl
theorem neg_bt {x : Int32} {i : Nat} (hi : i < 32) : bt (-x) i = !(bt (x - iI 1) i) := by
  have e : (-x).toBitVec = ~~~ (x - iI 1).toBitVec := by
    rw [Int32.toBitVec_sub, Int32.toBitVec_neg, BitVec.not_eq_neg_add, show (iI 1).toBitVec = 1#32 from rfl]
    rw [BitVec.neg_sub, BitVec.add_sub_cancel]
  unfold bt
  rw [e, BitVec.getLsbD_not]
  simp [hi]
theorem low_neg {x : Int32} {p : Nat} (hp : p < 32) (h1 : bt x p = true) (h2 : ∀ i, i < p → bt x i = false) : x &&& (-x) = iI ((2 ^ p : Nat) : Int) := by
  obtain ⟨q, hq⟩ := low_of (N := tN x) h1 h2
  have h0 : 0 < 2 ^ p := Nat.two_pow_pos p
  apply b_ext
  intro i hi
  have hlt : 2 ^ p < 2 ^ 32 := Nat.pow_lt_pow_right (by omega) hp
  rw [b_and, neg_bt hi, bt_tN x, bt_tN (x - iI 1), tN_sub1 (by omega), hq, tb_low, tb_low1, iI_nI, bt_tN, show tN (nI (2 ^ p)) = 2 ^ p from pk_tn hlt, Nat.testBit_two_pow]
  rcases (show i < p ∨ i = p ∨ p < i by omega) with h | h | h
  · rw [decide_eq_false (show ¬ i = p by omega), decide_eq_false (show ¬ p < i by omega), decide_eq_false (show ¬ p = i by omega)]; simp
  · subst h; simp
  · rw [decide_eq_false (show ¬ i = p by omega), decide_eq_true h, decide_eq_false (show ¬ i < p by omega), decide_eq_false (show ¬ p = i by omega)]; cases q.testBit (i - (p + 1)) <;> rfl
theorem low_ct {p : Nat} (hp : p < 32) : ct (bt (iI ((2 ^ p : Nat) : Int) - iI 1)) 0 32 = p := by
  have hlt : 2 ^ p < 2 ^ 32 := Nat.pow_lt_pow_right (by omega) hp
  have h0 : 0 < 2 ^ p := Nat.two_pow_pos p
  have hb : ∀ i, bt (iI ((2 ^ p : Nat) : Int) - iI 1) i = decide (i < p) := fun i => by
    have hN : tN (iI ((2 ^ p : Nat) : Int)) = 2 ^ p := by rw [iI_nI]; exact pk_tn hlt
    rw [bt_tN, tN_sub1 (by omega), hN, Nat.testBit_two_pow_sub_one]
  have h1 := ct_add (bt (iI ((2 ^ p : Nat) : Int) - iI 1)) 0 p (32 - p)
  rw [show p + (32 - p) = 32 by omega] at h1
  have h3 : ∀ n, n ≤ p → ct (bt (iI ((2 ^ p : Nat) : Int) - iI 1)) 0 n = n := by
    intro n
    induction n with
    | zero => intro _; rfl
    | succ n ih => intro hn; simp only [ct]; rw [ih (by omega), Nat.zero_add, hb, decide_eq_true (by omega)]; rfl
  have h4 : ct (bt (iI ((2 ^ p : Nat) : Int) - iI 1)) (0 + p) (32 - p) = 0 := ct_zero (fun i hi => by rw [hb, decide_eq_false (by omega)])
  rw [h1, h4, h3 p (Nat.le_refl p)]
  omega
