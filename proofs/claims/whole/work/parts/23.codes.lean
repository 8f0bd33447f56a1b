/-! the codes, as rows of bits -/
def nb (v : Nat) : Nat → List Bool
  | 0 => []
  | n + 1 => v.testBit n :: nb v n
theorem nb_length (v n : Nat) : (nb v n).length = n := by
  induction n with
  | zero => rfl
  | succ n ih => simp [nb, ih]
theorem nb_get (v n i : Nat) (hi : i < n) : (nb v n).getD i false = v.testBit (n - 1 - i) := by
  induction n generalizing i with
  | zero => omega
  | succ n ih =>
    cases i with
    | zero => simp [nb]
    | succ i => simp only [nb, List.getD_cons_succ]; rw [ih i (by omega)]; congr 1; omega
theorem nb_zero (v w k : Nat) (h : v < 2 ^ w) : nb v (w + k) = nb 0 k ++ nb v w := by
  induction k with
  | zero => rfl
  | succ k ih =>
    show nb v (w + k + 1) = _
    simp only [nb]
    rw [ih, Nat.testBit_lt_two_pow (Nat.lt_of_lt_of_le h (Nat.pow_le_pow_right (by omega) (by omega)))]
    simp
/-- how many bits a gap has -/
def wdt (g : Nat) : Nat := Nat.log2 g + 1
theorem wdt_ok {g : Nat} (h : 1 ≤ g) : 2 ^ (wdt g - 1) ≤ g ∧ g < 2 ^ wdt g := ⟨Nat.log2_self_le (by omega), Nat.lt_log2_self⟩
theorem wdt_le {g k : Nat} (h : 1 ≤ g) (hg : g < 2 ^ k) : wdt g ≤ k := (Nat.log2_lt (by omega)).mpr hg
theorem wdt_uq {g k : Nat} (h1 : 1 ≤ k) (h2 : 2 ^ (k - 1) ≤ g) (h3 : g < 2 ^ k) : k = wdt g := by
  have hg : 1 ≤ g := Nat.le_trans (Nat.two_pow_pos _) h2
  have a := wdt_le hg h3
  have b := wdt_ok hg
  rcases Nat.lt_or_ge (wdt g) k with q | q
  · have := Nat.pow_le_pow_right (n := 2) (by omega) (show wdt g ≤ k - 1 by omega); omega
  · omega
/-- the l of a set with n numbers -/
def lw (n : Nat) : Nat := Nat.log2 (4096 / n)
theorem lw_ok {n : Nat} (h1 : 1 ≤ n) (h2 : n ≤ 4096) : n * 2 ^ lw n ≤ 4096 ∧ 4096 < n * 2 ^ (lw n + 1) := by
  have hq : 1 ≤ 4096 / n := (Nat.le_div_iff_mul_le h1).mpr (by omega)
  have a : 2 ^ lw n ≤ 4096 / n := Nat.log2_self_le (by omega)
  have b : 4096 / n < 2 ^ (lw n + 1) := Nat.lt_log2_self
  refine ⟨?_, ?_⟩
  · have := (Nat.le_div_iff_mul_le h1).mp a; rw [Nat.mul_comm]; exact this
  · have := (Nat.div_lt_iff_lt_mul h1).mp b; rw [Nat.mul_comm]; exact this
theorem lw_uq {n l : Nat} (h1 : 1 ≤ n) (h2 : n ≤ 4096) (ha : n * 2 ^ l ≤ 4096) (hb : 4096 < n * 2 ^ (l + 1)) : l = lw n := by
  obtain ⟨a, b⟩ := lw_ok h1 h2
  rcases (show l < lw n ∨ lw n < l ∨ l = lw n by omega) with q | q | q
  · have := Nat.mul_le_mul_left n (Nat.pow_le_pow_right (n := 2) (by omega) (show l + 1 ≤ lw n by omega)); omega
  · have := Nat.mul_le_mul_left n (Nat.pow_le_pow_right (n := 2) (by omega) (show lw n + 1 ≤ l by omega)); omega
  · exact q
theorem lw_12 {n : Nat} (h1 : 1 ≤ n) (h2 : n ≤ 4096) : lw n ≤ 12 := by
  obtain ⟨a, b⟩ := lw_ok h1 h2
  rcases Nat.lt_or_ge 12 (lw n) with q | q
  · have h3 := Nat.pow_le_pow_right (n := 2) (by omega) (show 13 ≤ lw n by omega)
    have h4 := Nat.mul_le_mul h1 h3
    omega
  · exact q
/-- the bits of the numbers below j -/
def loP (S : Nat → Bool) (l : Nat) : Nat → List Bool
  | 0 => []
  | j + 1 => loP S l j ++ (if S j then nb j l else [])
def hiP (S : Nat → Bool) (l : Nat) : Nat → List Bool
  | 0 => []
  | j + 1 => hiP S l j ++ ((if S j then [true] else []) ++ (if j / 2 ^ l = (j + 1) / 2 ^ l then [] else [false]))
def cdP (S : Nat → Bool) : List Bool := nb (ct S 0 4096) 13 ++ (if ct S 0 4096 = 0 then [] else loP S (lw (ct S 0 4096)) 4096 ++ hiP S (lw (ct S 0 4096)) 4096)
/-- the last number below j (0: none), one more -/
def lst (S : Nat → Bool) : Nat → Nat
  | 0 => 0
  | j + 1 => if S j then j + 1 else lst S j
def gpP (S : Nat → Bool) : Nat → List Bool
  | 0 => []
  | j + 1 => gpP S j ++ (if S j then nb (j + 1 - lst S j) (2 * wdt (j + 1 - lst S j) - 1) else [])
def cdG (S : Nat → Bool) : List Bool := nb (ct S 0 4096) 13 ++ gpP S 4096
theorem lst_le (S : Nat → Bool) (j : Nat) : lst S j ≤ j := by
  induction j with
  | zero => simp [lst]
  | succ j ih => simp only [lst]; split <;> omega
/-- how many numbers the run at i of a piece (256 h on) has -/
def rlen (S : Nat → Bool) (a i : Nat) : Nat → Nat
  | 0 => 0
  | k + 1 => if S (a + i) then 1 + rlen S a (i + 1) k else 0
def bdP (S : Nat → Bool) (F : Int) (a : Nat) : Nat → List Bool
  | 0 => []
  | i + 1 => bdP S F a i ++ (if F = 1 then [S (a + i)] else if F = 0 then (if S (a + i) then nb (a + i) 8 else []) else if bg S a i then nb (a + i) 8 ++ nb (rlen S a i (256 - i) - 1) 8 else [])
def p1P (S : Nat → Bool) (h : Int) : List Bool := nb (if pF S h = -1 then 3 else (pF S h).toNat) 2 ++ ((if pF S h = 0 then nb (pN S h - 1).toNat 8 else []) ++ ((if pF S h = 2 then nb (pR S h - 1).toNat 8 else []) ++ (if pF S h = -1 then [] else bdP S (pF S h) (256 * h.toNat) 256)))
def pcP (S : Nat → Bool) : Nat → List Bool
  | 0 => []
  | h + 1 => pcP S h ++ p1P S (h : Int)
def cdC (S : Nat → Bool) : List Bool := pcP S 16
def code_ (S : Nat → Bool) (k : Int) : List Bool := if k = 0 then cdP S else if k = 1 then cdG S else cdC S
/-! nothing in between -/
theorem skip_eq {α : Type} {S : Nat → Bool} (e : Nat → α) (h : ∀ j, S j = false → e (j + 1) = e j) {a b : Nat} (hab : a ≤ b) (hn : ∀ u, a ≤ u → u < b → S u = false) : e b = e a := by
  obtain ⟨d, rfl⟩ : ∃ d, b = a + d := ⟨b - a, by omega⟩
  induction d with
  | zero => rfl
  | succ d ih => rw [← Nat.add_assoc, h _ (hn _ (by omega) (by omega))]; exact ih (by omega) (fun u h1 h2 => hn u h1 (by omega))
theorem ct_skip {S : Nat → Bool} {a b : Nat} (hab : a ≤ b) (hn : ∀ u, a ≤ u → u < b → S u = false) : ct S 0 b = ct S 0 a := skip_eq (S := S) (ct S 0) (fun j hj => by simp [ct, hj]) hab hn
theorem loP_skip {S : Nat → Bool} {l a b : Nat} (hab : a ≤ b) (hn : ∀ u, a ≤ u → u < b → S u = false) : loP S l b = loP S l a := skip_eq (S := S) (loP S l) (fun j hj => by simp [loP, hj]) hab hn
theorem lst_skip {S : Nat → Bool} {a b : Nat} (hab : a ≤ b) (hn : ∀ u, a ≤ u → u < b → S u = false) : lst S b = lst S a := skip_eq (S := S) (lst S) (fun j hj => by simp [lst, hj]) hab hn
theorem gpP_skip {S : Nat → Bool} {a b : Nat} (hab : a ≤ b) (hn : ∀ u, a ≤ u → u < b → S u = false) : gpP S b = gpP S a := skip_eq (S := S) (gpP S) (fun j hj => by simp [gpP, hj]) hab hn
theorem hiP_skip {S : Nat → Bool} {l a b : Nat} (hab : a ≤ b) (hn : ∀ u, a ≤ u → u < b → S u = false) : hiP S l b = hiP S l a ++ List.replicate (b / 2 ^ l - a / 2 ^ l) false := by
  obtain ⟨d, rfl⟩ : ∃ d, b = a + d := ⟨b - a, by omega⟩
  induction d with
  | zero => simp
  | succ d ih =>
    have h1 := ih (by omega) (fun u h1 h2 => hn u h1 (by omega))
    have hp : 0 < 2 ^ l := Nat.two_pow_pos l
    have m1 : a / 2 ^ l ≤ (a + d) / 2 ^ l := Nat.div_le_div_right (by omega)
    have m2 : (a + d + 1) / 2 ^ l ≤ (a + d) / 2 ^ l + 1 := by
      have := Nat.div_le_div_right (c := 2 ^ l) (show a + d + 1 ≤ a + d + 2 ^ l by omega)
      rwa [Nat.add_div_right _ hp] at this
    have m3 : (a + d) / 2 ^ l ≤ (a + d + 1) / 2 ^ l := Nat.div_le_div_right (by omega)
    rw [← Nat.add_assoc]
    simp only [hiP]
    rw [h1, hn (a + d) (by omega) (by omega)]
    by_cases hq : (a + d) / 2 ^ l = (a + d + 1) / 2 ^ l
    · simp [hq]
    · rw [if_neg hq, show (a + d + 1) / 2 ^ l - a / 2 ^ l = ((a + d) / 2 ^ l - a / 2 ^ l) + 1 by omega, List.replicate_succ']
      simp
/-! lengths -/
theorem loP_length (S : Nat → Bool) (l j : Nat) : (loP S l j).length = ct S 0 j * l := by
  induction j with
  | zero => simp [loP, ct]
  | succ j ih =>
    simp only [loP, ct, List.length_append, ih, Nat.zero_add]
    split
    · rw [nb_length, Nat.add_mul, Nat.one_mul]
    · simp
theorem hiP_length (S : Nat → Bool) (l j : Nat) : (hiP S l j).length = ct S 0 j + j / 2 ^ l := by
  induction j with
  | zero => simp [hiP, ct]
  | succ j ih =>
    have hp : 0 < 2 ^ l := Nat.two_pow_pos l
    have m2 : (j + 1) / 2 ^ l ≤ j / 2 ^ l + 1 := by
      have := Nat.div_le_div_right (c := 2 ^ l) (show j + 1 ≤ j + 2 ^ l by omega)
      rwa [Nat.add_div_right _ hp] at this
    have m3 : j / 2 ^ l ≤ (j + 1) / 2 ^ l := Nat.div_le_div_right (by omega)
    simp only [hiP, ct, List.length_append, ih, Nat.zero_add]
    by_cases hq : j / 2 ^ l = (j + 1) / 2 ^ l
    · rw [if_pos hq]; split <;> simp <;> omega
    · rw [if_neg hq]; split <;> simp <;> omega
theorem cdP_length (S : Nat → Bool) : (cdP S).length = if ct S 0 4096 = 0 then 13 else 13 + ct S 0 4096 * lw (ct S 0 4096) + ct S 0 4096 + 4096 / 2 ^ lw (ct S 0 4096) := by
  unfold cdP
  split
  · simp [nb_length]
  · simp only [List.length_append, nb_length, loP_length, hiP_length]; omega
theorem lw_mul {n : Nat} (h1 : 1 ≤ n) (h2 : n ≤ 4096) : 13 + n * lw n + n + 4096 / 2 ^ lw n ≤ 8205 := by
  have hl := lw_12 h1 h2
  obtain ⟨a, b⟩ := lw_ok h1 h2
  generalize lw n = l at *
  have c : n ≤ 4096 / 2 ^ l := (Nat.le_div_iff_mul_le (Nat.two_pow_pos l)).mpr a
  rcases (show l = 0 ∨ l = 1 ∨ l = 2 ∨ l = 3 ∨ l = 4 ∨ l = 5 ∨ l = 6 ∨ l = 7 ∨ l = 8 ∨ l = 9 ∨ l = 10 ∨ l = 11 ∨ l = 12 by omega) with z | z | z | z | z | z | z | z | z | z | z | z | z <;> subst z <;> simp at a b c ⊢ <;> omega
theorem cdP_le (S : Nat → Bool) : (cdP S).length ≤ 8205 := by
  rw [cdP_length]
  have := ct_le S 0 4096
  split
  · omega
  · exact lw_mul (by omega) this
theorem gap_cost {g : Nat} (h : 1 ≤ g) : 2 * (2 * wdt g - 1) ≤ 3 * g := by
  have h1 := (wdt_ok h).1
  have h2 : 1 ≤ wdt g := by unfold wdt; omega
  generalize wdt g = w at *
  have h3 : ∀ k, 2 * (2 * (k + 1) - 1) ≤ 3 * 2 ^ k := by
    intro k
    induction k with
    | zero => decide
    | succ k ih =>
      rw [Nat.pow_succ]
      rcases Nat.eq_zero_or_pos k with z | z
      · subst z; decide
      · have : 2 ≤ 2 ^ k := by
          have := Nat.pow_le_pow_right (n := 2) (by omega) z
          simpa using this
        omega
  have := h3 (w - 1)
  rw [show w - 1 + 1 = w by omega] at this
  omega
theorem gpP_le (S : Nat → Bool) (j : Nat) : 2 * (gpP S j).length ≤ 3 * lst S j := by
  induction j with
  | zero => simp [gpP, lst]
  | succ j ih =>
    have hl := lst_le S j
    simp only [gpP, lst, List.length_append]
    split
    · rw [nb_length]
      have := gap_cost (g := j + 1 - lst S j) (by omega)
      omega
    · simpa using ih
theorem cdG_le (S : Nat → Bool) : (cdG S).length ≤ 6157 := by
  unfold cdG
  rw [List.length_append, nb_length]
  have := gpP_le S 4096
  have := lst_le S 4096
  omega
theorem bdP_length (S : Nat → Bool) (F : Int) (a : Nat) (hF : F = 0 ∨ F = 1 ∨ F = 2) (i : Nat) : (bdP S F a i).length = if F = 1 then i else if F = 0 then 8 * ct S a i else 16 * ct (bg S a) 0 i := by
  induction i with
  | zero => simp [bdP, ct]
  | succ i ih =>
    simp only [bdP, List.length_append, ih]
    rcases hF with h | h | h
    · subst h; simp [ct]; split <;> simp [nb_length]; omega
    · subst h; simp
    · subst h; simp [ct]; split <;> simp [nb_length]; omega
theorem p1P_length (S : Nat → Bool) (h : Int) : ((p1P S h).length : Int) = 2 + pB S h + (if pF S h = 0 ∨ pF S h = 2 then 8 else 0) := by
  have hF := pF_b S h
  unfold p1P pB
  rcases (show pF S h = -1 ∨ pF S h = 0 ∨ pF S h = 1 ∨ pF S h = 2 by omega) with z | z | z | z
  · rw [z]; simp [nb_length]
  · rw [z]
    have hb := bdP_length S 0 (256 * h.toNat) (by omega) 256
    rw [if_neg (by decide), if_pos rfl] at hb
    simp [pN, nb_length, hb]; omega
  · rw [z]
    have hb := bdP_length S 1 (256 * h.toNat) (by omega) 256
    rw [if_pos rfl] at hb
    simp [nb_length, hb]
  · rw [z]
    have hb := bdP_length S 2 (256 * h.toNat) (by omega) 256
    rw [if_neg (by decide), if_neg (by decide)] at hb
    simp [pR, nb_length, hb]; omega
theorem pcP_le (S : Nat → Bool) (k : Nat) : (pcP S k).length ≤ 266 * k := by
  induction k with
  | zero => simp [pcP]
  | succ k ih =>
    have h1 := p1P_length S (k : Int)
    have h2 := pB_b S (k : Int)
    simp only [pcP, List.length_append]
    split at h1 <;> omega
theorem code_le (S : Nat → Bool) (k : Int) : (code_ S k).length ≤ 8205 := by
  unfold code_
  split
  · exact cdP_le S
  · split
    · have := cdG_le S; omega
    · have := pcP_le S 16; unfold cdC; omega
