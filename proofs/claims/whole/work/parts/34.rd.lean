/-! what is read: from p on the bits are c -/
def rd (X : Nat → Bool) (p : Nat) (c : List Bool) : Prop := ∀ i, i < c.length → X (p + i) = c.getD i false
theorem rd_nil {X : Nat → Bool} {p : Nat} : rd X p [] := fun i hi => absurd hi (by simp)
theorem getD_app1 {c d : List Bool} {i : Nat} (h : i < c.length) : (c ++ d).getD i false = c.getD i false := by
  rw [List.getD_eq_getElem?_getD, List.getD_eq_getElem?_getD, List.getElem?_append_left h]
theorem getD_app2 (c d : List Bool) (i : Nat) : (c ++ d).getD (c.length + i) false = d.getD i false := by
  rw [List.getD_eq_getElem?_getD, List.getD_eq_getElem?_getD, List.getElem?_append_right (by omega), Nat.add_sub_cancel_left]
theorem rd_app {X : Nat → Bool} {p : Nat} {c d : List Bool} : rd X p (c ++ d) ↔ rd X p c ∧ rd X (p + c.length) d := by
  constructor
  · intro h
    refine ⟨fun i hi => ?_, fun i hi => ?_⟩
    · rw [h i (by rw [List.length_append]; omega), getD_app1 hi]
    · rw [Nat.add_assoc, h (c.length + i) (by rw [List.length_append]; omega), getD_app2]
  · rintro ⟨h1, h2⟩ i hi
    rw [List.length_append] at hi
    rcases Nat.lt_or_ge i c.length with q | q
    · rw [getD_app1 q, h1 i q]
    · obtain ⟨k, rfl⟩ : ∃ k, i = c.length + k := ⟨i - c.length, by omega⟩
      rw [getD_app2, ← h2 k (by omega), Nat.add_assoc]
theorem rd_one {X : Nat → Bool} {p : Nat} {y : Bool} : rd X p [y] ↔ X p = y := by
  constructor
  · intro h; exact h 0 (by simp)
  · intro h i hi
    have h0 : i = 0 := by simp at hi; exact hi
    subst h0; exact h
theorem bv_bit (X : Nat → Bool) (p n k : Nat) (hk : k < n) : (bv X p n).testBit k = X (p + (n - 1 - k)) := by
  induction n generalizing k with
  | zero => omega
  | succ n ih =>
    simp only [bv]
    cases k with
    | zero =>
      rw [Nat.testBit_zero, show n + 1 - 1 - 0 = n by omega]
      cases X (p + n)
      · simp
      · simp
    | succ k =>
      rw [Nat.testBit_succ, show (2 * bv X p n + if X (p + n) = true then 1 else 0) / 2 = bv X p n by split <;> omega, ih k (by omega)]
      congr 2; omega
theorem rd_bv (X : Nat → Bool) (p n : Nat) : rd X p (nb (bv X p n) n) := by
  intro i hi
  rw [nb_length] at hi
  rw [nb_get _ _ _ hi, bv_bit _ _ _ _ (by omega)]
  congr 1; omega
theorem bv_rd {X : Nat → Bool} {p v n : Nat} (h : rd X p (nb v n)) : bv X p n = v % 2 ^ n := by
  apply Nat.eq_of_testBit_eq
  intro k
  rw [Nat.testBit_mod_two_pow]
  rcases Nat.lt_or_ge k n with q | q
  · rw [bv_bit _ _ _ _ q, h (n - 1 - k) (by rw [nb_length]; omega), nb_get _ _ _ (by omega), show n - 1 - (n - 1 - k) = k by omega]
    simp [q]
  · rw [Nat.testBit_lt_two_pow (Nat.lt_of_lt_of_le (bv_lt X p n) (Nat.pow_le_pow_right (by omega) q))]
    simp; omega
theorem nb_mod (v n : Nat) : nb v n = nb (v % 2 ^ n) n := by
  apply List.ext_getElem?
  intro i
  rcases Nat.lt_or_ge i n with q | q
  · have h1 := nb_get v n i q
    have h2 := nb_get (v % 2 ^ n) n i q
    rw [Nat.testBit_mod_two_pow, decide_eq_true (show n - 1 - i < n by omega), Bool.true_and, ← h1] at h2
    rw [List.getD_eq_getElem?_getD, List.getD_eq_getElem?_getD, List.getElem?_eq_getElem (by rw [nb_length]; exact q), List.getElem?_eq_getElem (by rw [nb_length]; exact q)] at h2
    rw [List.getElem?_eq_getElem (by rw [nb_length]; exact q), List.getElem?_eq_getElem (by rw [nb_length]; exact q)]
    exact congrArg some h2.symm
  · rw [List.getElem?_eq_none (by rw [nb_length]; exact q), List.getElem?_eq_none (by rw [nb_length]; exact q)]
theorem nb_congr {u v n : Nat} (h : u % 2 ^ n = v % 2 ^ n) : nb u n = nb v n := by rw [nb_mod u, nb_mod v, h]
/-- the whole tape is c -/
def isC (X : Nat → Bool) (L : Int) (c : List Bool) : Prop := L = (c.length : Nat) ∧ rd X 0 c
/-- the next number of a set -/
theorem ct_nx {S : Nat → Bool} {a j n : Nat} (h : ct S a j < ct S a n) : ∃ e, j ≤ e ∧ e < n ∧ S (a + e) = true ∧ (∀ i, j ≤ i → i < e → S (a + i) = false) ∧ ct S a e = ct S a j := by
  have hjn : j < n := by
    rcases Nat.lt_or_ge j n with q | q
    · exact q
    · have := ct_mono S a q; omega
  obtain ⟨d, rfl⟩ : ∃ d, n = j + d := ⟨n - j, by omega⟩
  clear hjn
  induction d with
  | zero => exact absurd h (by simp)
  | succ d ih =>
    by_cases q : ct S a j < ct S a (j + d)
    · obtain ⟨e, h1, h2, h3⟩ := ih q; exact ⟨e, h1, by omega, h3⟩
    · have h5 := ct_mono S a (show j ≤ j + d by omega)
      have h6 : ct S a (j + d) = ct S a j := by omega
      refine ⟨j + d, by omega, by omega, ?_, ?_, h6⟩
      · rw [← Nat.add_assoc, ct_succ, h6] at h
        by_cases hs : S (a + (j + d)) = true
        · exact hs
        · rw [if_neg hs] at h; omega
      · intro i h1 h2
        by_cases hs : S (a + i) = true
        · have h7 := ct_step (S := S) (a := a) h2 hs
          have h8 := ct_mono S a h1
          omega
        · exact eq_false_of_ne_true hs
theorem ct_none {S : Nat → Bool} {a j n : Nat} (h : ct S a n ≤ ct S a j) {i : Nat} (h1 : j ≤ i) (h2 : i < n) : S (a + i) = false := by
  by_cases hs : S (a + i) = true
  · have h7 := ct_step (S := S) (a := a) h2 hs
    have h8 := ct_mono S a h1
    omega
  · exact eq_false_of_ne_true hs
/-! what is told of a set depends on its numbers alone -/
theorem lst_cg {S T : Nat → Bool} {j : Nat} (h : ∀ u, u < j → S u = T u) : lst S j = lst T j := by
  induction j with
  | zero => rfl
  | succ j ih => simp only [lst]; rw [ih (fun u hu => h u (by omega)), h j (by omega)]
theorem gpP_cg {S T : Nat → Bool} {j : Nat} (h : ∀ u, u < j → S u = T u) : gpP S j = gpP T j := by
  induction j with
  | zero => rfl
  | succ j ih => simp only [gpP]; rw [ih (fun u hu => h u (by omega)), h j (by omega), lst_cg (fun u hu => h u (by omega))]
theorem loP_cg {S T : Nat → Bool} {l j : Nat} (h : ∀ u, u < j → S u = T u) : loP S l j = loP T l j := by
  induction j with
  | zero => rfl
  | succ j ih => simp only [loP]; rw [ih (fun u hu => h u (by omega)), h j (by omega)]
theorem hiP_cg {S T : Nat → Bool} {l j : Nat} (h : ∀ u, u < j → S u = T u) : hiP S l j = hiP T l j := by
  induction j with
  | zero => rfl
  | succ j ih => simp only [hiP]; rw [ih (fun u hu => h u (by omega)), h j (by omega)]
theorem rlen_cg {S T : Nat → Bool} {a i k : Nat} (h : ∀ u, i ≤ u → u < i + k → S (a + u) = T (a + u)) : rlen S a i k = rlen T a i k := by
  induction k generalizing i with
  | zero => rfl
  | succ k ih => simp only [rlen]; rw [ih (fun u h1 h2 => h u (by omega) (by omega)), h i (by omega) (by omega)]
theorem bg_cg {S T : Nat → Bool} {a n i : Nat} (h : ∀ u, u < n → S (a + u) = T (a + u)) (hi : i < n) : bg S a i = bg T a i := by
  unfold bg
  rw [h i hi]
  rcases Nat.eq_zero_or_pos i with q | q
  · subst q; simp
  · rw [show a + i - 1 = a + (i - 1) by omega, h (i - 1) (by omega)]
theorem bdP_cg {S T : Nat → Bool} {F : Int} {a j : Nat} (hj : j ≤ 256) (h : ∀ u, u < 256 → S (a + u) = T (a + u)) : bdP S F a j = bdP T F a j := by
  induction j with
  | zero => rfl
  | succ j ih => simp only [bdP]; rw [ih (by omega), h j (by omega), bg_cg h (by omega), rlen_cg (S := S) (T := T) (fun u h1 h2 => h u (by omega))]
theorem pN_cg {S T : Nat → Bool} {h : Int} (hs : ∀ u, u < 256 → S (256 * h.toNat + u) = T (256 * h.toNat + u)) : pN S h = pN T h := by
  unfold pN; rw [ct_congr hs]
theorem pR_cg {S T : Nat → Bool} {h : Int} (hs : ∀ u, u < 256 → S (256 * h.toNat + u) = T (256 * h.toNat + u)) : pR S h = pR T h := by
  unfold pR; rw [ct_congr (S := bg S _) (T := bg T (256 * h.toNat)) (a := 0) (b := 0) (fun i hi => by rw [Nat.zero_add]; exact bg_cg hs hi)]
theorem pF_cg {S T : Nat → Bool} {h : Int} (hs : ∀ u, u < 256 → S (256 * h.toNat + u) = T (256 * h.toNat + u)) : pF S h = pF T h := by
  unfold pF; rw [pN_cg hs, pR_cg hs]
theorem p1P_cg {S T : Nat → Bool} {h : Int} (hs : ∀ u, u < 256 → S (256 * h.toNat + u) = T (256 * h.toNat + u)) : p1P S h = p1P T h := by
  unfold p1P; rw [pF_cg hs, pN_cg hs, pR_cg hs, bdP_cg (Nat.le_refl _) hs]
theorem pcP_cg {S T : Nat → Bool} {j : Nat} (h : ∀ u, u < 256 * j → S u = T u) : pcP S j = pcP T j := by
  induction j with
  | zero => rfl
  | succ j ih =>
    simp only [pcP]
    rw [ih (fun u hu => h u (by omega)), p1P_cg (S := S) (T := T) (fun u hu => h _ (by rw [Int.toNat_natCast]; omega))]
theorem cdP_cg {S T : Nat → Bool} (h : ∀ u, u < 4096 → S u = T u) : cdP S = cdP T := by
  have h1 : ct S 0 4096 = ct T 0 4096 := ct_congr (fun i hi => by rw [Nat.zero_add]; exact h i hi)
  unfold cdP
  rw [h1, loP_cg h, hiP_cg h]
theorem cdG_cg {S T : Nat → Bool} (h : ∀ u, u < 4096 → S u = T u) : cdG S = cdG T := by
  have h1 : ct S 0 4096 = ct T 0 4096 := ct_congr (fun i hi => by rw [Nat.zero_add]; exact h i hi)
  unfold cdG
  rw [h1, gpP_cg h]
theorem cdC_cg {S T : Nat → Bool} (h : ∀ u, u < 4096 → S u = T u) : cdC S = cdC T := pcP_cg (fun u hu => h u (by omega))
theorem code_cg {S T : Nat → Bool} (k : Int) (h : ∀ u, u < 4096 → S u = T u) : code_ S k = code_ T k := by
  unfold code_; rw [cdP_cg h, cdG_cg h, cdC_cg h]
