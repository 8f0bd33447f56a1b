/-- g is f up to L, and behind it the bits c -/
def tX (f : Nat → Int32) (L : Int) (g : Nat → Int32) (c : List Bool) : Prop := (∀ u : Nat, (u : Int) < L → mem g u = mem f u) ∧ ∀ i, i < c.length → mem g (L.toNat + i) = c.getD i false
theorem tX.nil {f : Nat → Int32} {L : Int} : tX f L f [] := ⟨fun _ _ => rfl, fun i hi => by simp at hi⟩
theorem tX.app {f g h : Nat → Int32} {L : Int} {c d : List Bool} (hL : 0 ≤ L) (h1 : tX f L g c) (h2 : tX g (L + (c.length : Nat)) h d) : tX f L h (c ++ d) := by
  refine ⟨fun u hu => by rw [h2.1 u (by omega)]; exact h1.1 u hu, fun i hi => ?_⟩
  rw [List.length_append] at hi
  by_cases hc : i < c.length
  · rw [h2.1 _ (by omega), h1.2 i hc]
    simp [List.getD, List.getElem?_append_left hc]
  · have := h2.2 (i - c.length) (by omega)
    rw [show (L + (c.length : Nat)).toNat + (i - c.length) = L.toNat + i by omega] at this
    rw [this]
    simp [List.getD, List.getElem?_append_right (Nat.le_of_not_lt hc)]
theorem bt_iI {z : Int} (h0 : 0 ≤ z) (h1 : z < 2147483648) (k : Nat) : bt (iI z) k = z.toNat.testBit k := by
  rw [bt_tN, iI_ofN h0, show tN (nI z.toNat) = z.toNat from pk_tn (by omega)]
theorem tX.nb {f g : Nat → Int32} {L z n : Int} (hL : 0 ≤ L) (hz0 : 0 ≤ z) (hz1 : z < 2147483648) (hn : 0 ≤ n) (hn1 : n ≤ 32) (h1 : ∀ u : Nat, (u : Int) < L → mem g u = mem f u) (h2 : ∀ i : Nat, (i : Int) < n → mem g (L.toNat + i) = bt (iI z) (n.toNat - 1 - i)) : tX f L g (nb z.toNat n.toNat) := by
  refine ⟨h1, fun i hi => ?_⟩
  rw [nb_length] at hi
  rw [h2 i (by omega), bt_iI hz0 hz1, nb_get _ _ _ hi]
theorem nAt.tm {K : Nat → ClassId} {w : hm_M} {t tw qn wn : Nat} {f tf g : Nat → Int32} {L P L2 P2 : Int} (hn : nAt K w qn wn f) (ht : tAt K w t tw tf L P) : nAt K (tM K w t tw g L2 P2) qn wn f := by
  refine ⟨?_, ?_⟩
  · rw [tM_other (fun e => by have h1 := hn.1; rw [e, ht.1] at h1; simp at h1) (fun e => by have h1 := hn.1; rw [e, ht.2] at h1; cases h1)]; exact hn.1
  · rw [tM_other (fun e => by have h1 := hn.2; rw [e, ht.1] at h1; cases h1) (fun e => by have h1 := hn.2; rw [e, ht.2] at h1; simp at h1)]; exact hn.2
theorem iI_shrN {z : Int} (h0 : 0 ≤ z) (h1 : z < 2147483648) (l : Nat) (hl : l < 32) : iI z >>> (iI (l : Int) &&& 31) = iI ((z.toNat / 2 ^ l : Nat) : Int) := by
  rw [iI_shr l hl ⟨by omega, by omega⟩]
  congr 1
  rw [Int.natCast_ediv, Int.toNat_of_nonneg h0]
  norm_cast
theorem iI_shlN (z : Int) {k : Int} (h0 : 0 ≤ k) (h1 : k < 32) : iI z <<< (iI k &&& 31) = iI (z * 2 ^ k.toNat) := by
  have := iI_shl z k.toNat (by omega)
  rwa [Int.toNat_of_nonneg h0] at this
/-- behind the next number -/
theorem next_ct {S : Nat → Bool} {v z : Int} (hv : 0 ≤ v) (h : isNext S 4096 v z) (hlt : ct S 0 v.toNat < ct S 0 4096) (hv4 : v ≤ 4096) : v ≤ z ∧ 0 ≤ z ∧ z < 4096 ∧ S z.toNat = true ∧ (∀ u, v.toNat ≤ u → u < z.toNat → S u = false) ∧ ct S 0 (z.toNat + 1) = ct S 0 v.toNat + 1 := by
  rcases h with ⟨a, b⟩ | ⟨a, b, c, d, e⟩
  · exfalso
    have := ct_skip (S := S) (a := v.toNat) (b := 4096) (by omega) (fun u h1 h2 => b u (by omega) h2)
    omega
  · refine ⟨a, b, c, d, fun u h1 h2 => e u (by omega) (by omega), ?_⟩
    rw [ct_succ, Nat.zero_add, d, ct_skip (S := S) (a := v.toNat) (b := z.toNat) (by omega) (fun u h1 h2 => e u (by omega) (by omega))]
    rfl
/-- what the high parts have told behind the number v (-1: none yet) -/
def emP (S : Nat → Bool) (l : Nat) (v : Int) : List Bool := if v < 0 then [] else hiP S l v.toNat ++ [true]
def emH (l : Nat) (v : Int) : Nat := if v < 0 then 0 else v.toNat / 2 ^ l
theorem emP_next {S : Nat → Bool} {l : Nat} {v : Int} {b : Nat} (hS : 0 ≤ v → S v.toNat = true) (hb : v < (b : Int)) (hn : ∀ u : Nat, v < (u : Int) → u < b → S u = false) : hiP S l b = emP S l v ++ List.replicate (b / 2 ^ l - emH l v) false := by
  unfold emP emH
  by_cases h : v < 0
  · rw [if_pos h, if_pos h, hiP_skip (S := S) (a := 0) (b := b) (by omega) (fun u h1 h2 => hn u (by omega) h2)]
    simp [hiP]
  · rw [if_neg h, if_neg h, hiP_skip (S := S) (a := v.toNat + 1) (b := b) (by omega) (fun u h1 h2 => hn u (by omega) h2)]
    simp only [hiP]
    rw [hS (by omega)]
    have hp : 0 < 2 ^ l := Nat.two_pow_pos l
    have m2 : (v.toNat + 1) / 2 ^ l ≤ v.toNat / 2 ^ l + 1 := by
      have := Nat.div_le_div_right (c := 2 ^ l) (show v.toNat + 1 ≤ v.toNat + 2 ^ l by omega)
      rwa [Nat.add_div_right _ hp] at this
    have m3 : v.toNat / 2 ^ l ≤ (v.toNat + 1) / 2 ^ l := Nat.div_le_div_right (by omega)
    have m4 : (v.toNat + 1) / 2 ^ l ≤ b / 2 ^ l := Nat.div_le_div_right (by omega)
    by_cases hq : v.toNat / 2 ^ l = (v.toNat + 1) / 2 ^ l
    · rw [if_pos hq, hq]; simp
    · rw [if_neg hq, show b / 2 ^ l - v.toNat / 2 ^ l = (b / 2 ^ l - (v.toNat + 1) / 2 ^ l) + 1 by omega, List.replicate_succ]
      simp
theorem emP_len {S : Nat → Bool} {l : Nat} {v : Int} (hS : 0 ≤ v → S v.toNat = true) : (emP S l v).length = ct S 0 (v + 1).toNat + emH l v := by
  unfold emP emH
  by_cases h : v < 0
  · rw [if_pos h, if_pos h, show (v + 1).toNat = 0 by omega]; rfl
  · rw [if_neg h, if_neg h, List.length_append, hiP_length, show (v + 1).toNat = v.toNat + 1 by omega, ct_succ, Nat.zero_add, hS (by omega)]
    simp; omega
set_option maxHeartbeats 4000000 in
set_option maxRecDepth 100000 in
theorem c5_lowBits (l : Launch) (D : va_G) (K : Nat → ClassId) {w : hm_M} (n : Int) (h0 : 0 ≤ n) (h1 : n ≤ 4096)  : hm_Ci l D K yX5_lowBits cX5_lowBits 2 .int 0 [.int (iI (n))] w 0 0 (fun r w2 => (∃ l : Nat, r = iI (l : Int) ∧ l ≤ 12 ∧ (1 ≤ n → l = lw n.toNat)) ∧ w2 = w) := by
  refine hm_enterI (by decide) (Nat.le_of_ble_eq_true rfl) ?_
  intro p e s m args below meth c E hr hnm
  show hm_V p l e (hm_rm 0 0 0) s m args below meth c D (hm_A w s.heap.size) 2 0 0 (MQ below (hm_Qi D w s.heap.size (fun r w2 => (∃ l : Nat, r = iI (l : Int) ∧ l ≤ 12 ∧ (1 ≤ n → l = lw n.toNat)) ∧ w2 = w)) args s 0 0 (hm_A w s.heap.size)) w 0 [(0, .int (iI (n)))] []
  refine hv_iconst E dX5_lowBits_0 rfl ?_
  refine hv_istore_n (lv2 := [(1, .int (iI (0))), (0, .int (iI (n)))]) E dX5_lowBits_1 rfl (by decide) rfl rfl ?_
  have LP : ∀ (k : Nat) (j : Int), (12 - j < (k : Int)) → (0 ≤ j) → (j ≤ 12) → (n * 2 ^ j.toNat ≤ 4096) → hm_V p l e (hm_rm 0 0 0) s m args below meth c D (hm_A w s.heap.size) 2 0 0 (MQ below (hm_Qi D w s.heap.size (fun r w2 => (∃ l : Nat, r = iI (l : Int) ∧ l ≤ 12 ∧ (1 ≤ n → l = lw n.toNat)) ∧ w2 = w)) args s 0 0 (hm_A w s.heap.size)) w 2 [(1, .int (iI (j))), (0, .int (iI (n)))] [] := by
    intro k
    induction k with
    | zero =>
      intro j hk g0 g1 hj
      exact absurd hk (by omega)
    | succ k ih =>
      intro j hk g0 g1 hj
      refine hv_iload_n E dX5_lowBits_2 rfl 0 rfl rfl ?_
      refine hv_bipush E dX5_lowBits_3 (by decide +kernel) rfl ?_
      refine hv_icmp_ge E 25 dX5_lowBits_5 (by decide) ⟨by omega, by omega⟩ ⟨by omega, by omega⟩ rfl (fun c1 => ?_) (fun c1 => ?_)
      · refine hv_iload_n E dX5_lowBits_25 rfl 0 rfl rfl ?_
        exact hv_iret E dX5_lowBits_26 hr ⟨⟨j.toNat, by rw [Int.toNat_of_nonneg g0], by omega, fun hn1 => lw_uq (by omega) (by omega) (by
                have : ((n.toNat * 2 ^ j.toNat : Nat) : Int) ≤ 4096 := by push_cast; rw [Int.toNat_of_nonneg h0]; exact hj
                omega) (by
                have e1 : j.toNat + 1 = 13 := by omega
                rw [e1]
                have := Nat.mul_le_mul_right (2 ^ 13) (show 1 ≤ n.toNat by omega)
                omega)⟩, rfl⟩
      · refine hv_iload_n E dX5_lowBits_8 rfl 1 rfl rfl ?_
        refine hv_iload_n E dX5_lowBits_9 rfl 0 rfl rfl ?_
        refine hv_iconst E dX5_lowBits_10 rfl ?_
        refine hv_iadd E dX5_lowBits_11 rfl ?_
        refine hv_ishlR E dX5_lowBits_12 rfl rfl ?_
        refine hv_topi (show (iI (n)) <<< ((iI (j + 1)) &&& 31) = iI (n * 2 ^ (j + 1).toNat) from iI_shlN n (by omega) (by omega)) ?_
        refine hv_sipush E dX5_lowBits_13 (by decide +kernel) rfl ?_
        have hp : (2 : Int) ^ (j + 1).toNat ≤ 2 ^ 12 := by exact_mod_cast Nat.pow_le_pow_right (n := 2) (by omega) (show (j + 1).toNat ≤ 12 by omega)
        have hp0 : (0 : Int) < 2 ^ (j + 1).toNat := Int.pow_pos (by omega)
        have hb1 : 0 ≤ n * 2 ^ (j + 1).toNat := Int.mul_nonneg h0 (by omega)
        have hb2 : n * 2 ^ (j + 1).toNat ≤ 4096 * 2 ^ 12 := Int.mul_le_mul h1 hp (by omega) (by omega)
        refine hv_icmp_gt E 25 dX5_lowBits_16 (by decide) ⟨by omega, by omega⟩ ⟨by omega, by omega⟩ rfl (fun c2 => ?_) (fun c2 => ?_)
        · refine hv_iload_n E dX5_lowBits_25 rfl 0 rfl rfl ?_
          exact hv_iret E dX5_lowBits_26 hr ⟨⟨j.toNat, by rw [Int.toNat_of_nonneg g0], by omega, fun hn1 => lw_uq (by omega) (by omega) (by
                  have : ((n.toNat * 2 ^ j.toNat : Nat) : Int) ≤ 4096 := by push_cast; rw [Int.toNat_of_nonneg h0]; exact hj
                  omega) (by
                  have : (4096 : Int) < ((n.toNat * 2 ^ (j.toNat + 1) : Nat) : Int) := by push_cast; rw [Int.toNat_of_nonneg h0, show j.toNat + 1 = (j + 1).toNat by omega]; exact c2
                  omega)⟩, rfl⟩
        · refine hv_iinc (lv2 := [(1, .int (iI (j + 1))), (0, .int (iI (n)))]) E dX5_lowBits_19 0 rfl rfl (by decide) rfl rfl ?_
          refine hv_goto E 2 dX5_lowBits_22 (by decide) ?_
          refine hv_sub (lv2 := [(1, .int (iI (j + 1))), (0, .int (iI (n)))]) [0, 1] rfl ?_
          exact ih (j + 1) (by omega) (by omega) (by omega) c2
  refine hv_sub (lv2 := [(1, .int (iI (0))), (0, .int (iI (n)))]) [0, 1] rfl ?_
  exact LP 13 0 (by omega) (by omega) (by omega) (by simp; omega)
set_option maxHeartbeats 4000000 in
set_option maxRecDepth 100000 in
theorem c5_highParts (l : Launch) (D : va_G) (K : Nat → ClassId) {w : hm_M} (lo : Nat) (h : lo ≤ 12)  : hm_Ci l D K yX5_highParts cX5_highParts 1 .int 0 [.int (iI ((lo : Int)))] w 0 0 (fun r w2 => r = iI ((4096 / 2 ^ lo : Nat) : Int) ∧ w2 = w) := by
  refine hm_enterI (by decide) (Nat.le_of_ble_eq_true rfl) ?_
  intro p e s m args below meth c E hr hnm
  show hm_V p l e (hm_rm 0 0 0) s m args below meth c D (hm_A w s.heap.size) 1 0 0 (MQ below (hm_Qi D w s.heap.size (fun r w2 => r = iI ((4096 / 2 ^ lo : Nat) : Int) ∧ w2 = w)) args s 0 0 (hm_A w s.heap.size)) w 0 [(0, .int (iI ((lo : Int))))] []
  refine hv_sipush E dX5_highParts_0 (by decide +kernel) rfl ?_
  refine hv_iload_n E dX5_highParts_3 rfl 0 rfl rfl ?_
  refine hv_ishrR E dX5_highParts_4 rfl rfl ?_
  refine hv_topi (show (iI (4095)) >>> ((iI ((lo : Int))) &&& 31) = iI (((4095 : Int).toNat / 2 ^ lo : Nat)) from iI_shrN (by omega) (by omega) lo (by omega)) ?_
  refine hv_iconst E dX5_highParts_5 rfl ?_
  refine hv_iadd E dX5_highParts_6 rfl ?_
  exact hv_iret E dX5_highParts_7 hr ⟨by
      congr 1
      rcases (show lo = 0 ∨ lo = 1 ∨ lo = 2 ∨ lo = 3 ∨ lo = 4 ∨ lo = 5 ∨ lo = 6 ∨ lo = 7 ∨ lo = 8 ∨ lo = 9 ∨ lo = 10 ∨ lo = 11 ∨ lo = 12 by omega) with z | z | z | z | z | z | z | z | z | z | z | z | z <;> subst z <;> rfl, rfl⟩
set_option maxHeartbeats 4000000 in
set_option maxRecDepth 100000 in
theorem c5_bitsForAmount (l : Launch) (D : va_G) (K : Nat → ClassId) {w : hm_M} (n : Int) (h0 : 0 ≤ n) (h1 : n ≤ 4096)  : hm_Ci l D K yX5_bitsForAmount cX5_bitsForAmount 2 .int 1 [.int (iI (n))] w 0 0 (fun r w2 => r = iI (if n = 0 then 13 else 13 + ((n.toNat * lw n.toNat : Nat) : Int) + n + ((4096 / 2 ^ lw n.toNat : Nat) : Int)) ∧ w2 = w) := by
  refine hm_enterI (by decide) (Nat.le_of_ble_eq_true rfl) ?_
  intro p e s m args below meth c E hr hnm
  show hm_V p l e (hm_rm 1 0 0) s m args below meth c D (hm_A w s.heap.size) 2 0 0 (MQ below (hm_Qi D w s.heap.size (fun r w2 => r = iI (if n = 0 then 13 else 13 + ((n.toNat * lw n.toNat : Nat) : Int) + n + ((4096 / 2 ^ lw n.toNat : Nat) : Int)) ∧ w2 = w)) args s 0 0 (hm_A w s.heap.size)) w 0 [(0, .int (iI (n)))] []
  refine hv_iload_n E dX5_bitsForAmount_0 rfl 0 rfl rfl ?_
  refine hv_if_ne E 7 dX5_bitsForAmount_1 (by decide) ⟨by omega, by omega⟩ rfl (fun c1 => ?_) (fun c1 => ?_)
  · skip
    refine hv_iload_n E dX5_bitsForAmount_7 rfl 0 rfl rfl ?_
    refine hv_callSI (na := 1) (As := [.int (iI (n))]) (st := []) E (c5_lowBits l D K n (by omega) (by omega)) dX5_bitsForAmount_8 gL_X5_44 gS_X5_lowBits gC_X5_lowBits gZ_X5 (by decide +kernel) rfl ⟨Nat.le_of_ble_eq_true rfl, Nat.le_of_ble_eq_true rfl⟩ (Nat.le_of_ble_eq_true rfl) ⟨Nat.zero_le _, Nat.zero_le _⟩ rfl rfl (fun r w2 hp => ?_)
    obtain ⟨⟨lo, l1, l2, l3⟩, l4⟩ := hp
    rw [l1, l4]
    show hm_V p l e (hm_rm 1 0 0) s m args below meth c D (hm_A w s.heap.size) 2 0 0 (MQ below (hm_Qi D w s.heap.size (fun r w2 => r = iI (if n = 0 then 13 else 13 + ((n.toNat * lw n.toNat : Nat) : Int) + n + ((4096 / 2 ^ lw n.toNat : Nat) : Int)) ∧ w2 = w)) args s 0 0 (hm_A w s.heap.size)) w 11 [(0, .int (iI (n)))] [.int (iI ((lo : Int)))]
    refine hv_istore_n (lv2 := [(1, .int (iI ((lo : Int)))), (0, .int (iI (n)))]) E dX5_bitsForAmount_11 rfl (by decide) rfl rfl ?_
    refine hv_bipush E dX5_bitsForAmount_12 (by decide +kernel) rfl ?_
    refine hv_iload_n E dX5_bitsForAmount_14 rfl 1 rfl rfl ?_
    refine hv_iload_n E dX5_bitsForAmount_15 rfl 0 rfl rfl ?_
    refine hv_imul E dX5_bitsForAmount_16 rfl ?_
    refine hv_iadd E dX5_bitsForAmount_17 rfl ?_
    refine hv_iload_n E dX5_bitsForAmount_18 rfl 1 rfl rfl ?_
    refine hv_iadd E dX5_bitsForAmount_19 rfl ?_
    refine hv_iload_n E dX5_bitsForAmount_20 rfl 0 rfl rfl ?_
    refine hv_callSI (na := 1) (As := [.int (iI ((lo : Int)))]) (st := [.int (iI ((13 + (n * ((lo : Int)))) + n))]) E (c5_highParts l D K lo l2) dX5_bitsForAmount_21 gL_X5_57 gS_X5_highParts gC_X5_highParts gZ_X5 (by decide +kernel) rfl ⟨Nat.le_of_ble_eq_true rfl, Nat.le_of_ble_eq_true rfl⟩ (Nat.le_of_ble_eq_true rfl) ⟨Nat.zero_le _, Nat.zero_le _⟩ rfl rfl (fun r w2 hp => ?_)
    rw [hp.1, hp.2]
    show hm_V p l e (hm_rm 1 0 0) s m args below meth c D (hm_A w s.heap.size) 2 0 0 (MQ below (hm_Qi D w s.heap.size (fun r w2 => r = iI (if n = 0 then 13 else 13 + ((n.toNat * lw n.toNat : Nat) : Int) + n + ((4096 / 2 ^ lw n.toNat : Nat) : Int)) ∧ w2 = w)) args s 0 0 (hm_A w s.heap.size)) w 24 [(1, .int (iI ((lo : Int)))), (0, .int (iI (n)))] [.int (iI (((4096 / 2 ^ lo : Nat) : Int))), .int (iI ((13 + (n * ((lo : Int)))) + n))]
    refine hv_iadd E dX5_bitsForAmount_24 rfl ?_
    exact hv_iret E dX5_bitsForAmount_25 hr ⟨by rw [if_neg c1, ← l3 (by omega)]; congr 1; push_cast; rw [Int.toNat_of_nonneg h0], rfl⟩
  · skip
    refine hv_bipush E dX5_bitsForAmount_4 (by decide +kernel) rfl ?_
    exact hv_iret E dX5_bitsForAmount_6 hr ⟨by rw [if_pos c1], rfl⟩
set_option maxHeartbeats 4000000 in
set_option maxRecDepth 100000 in
theorem c5_bitsFor (l : Launch) (D : va_G) (K : Nat → ClassId) {w : hm_M} {a qn wn : Nat} {f : Nat → Int32} (hn : nAt K w qn wn f)  : hm_Ci l D K yX5_bitsFor cX5_bitsFor 2 .int 3 [.ref (a), .ref (qn)] w 0 0 (fun r w2 => r = iI ((cdP (mem f)).length : Nat) ∧ w2 = w) := by
  refine hm_enterI (by decide) (Nat.le_of_ble_eq_true rfl) ?_
  intro p e s m args below meth c E hr hnm
  show hm_V p l e (hm_rm 3 0 0) s m args below meth c D (hm_A w s.heap.size) 2 0 0 (MQ below (hm_Qi D w s.heap.size (fun r w2 => r = iI ((cdP (mem f)).length : Nat) ∧ w2 = w)) args s 0 0 (hm_A w s.heap.size)) w 0 [(0, .ref (a)), (1, .ref (qn))] []
  have hc := ct_le (mem f) 0 4096
  refine hv_aload_n E dX5_bitsFor_0 rfl 1 rfl rfl ?_
  refine hv_callVI (na := 0) (As := []) (st := []) E (c2_amount l D K hn) dX5_bitsFor_1 hn.1 (show vwCl[1]? = some (RX2, TX2, 1) from rfl) gL_X5_9 gV_X2_amount gI_X2_amount gC_X2_amount gZ_X2 (by decide +kernel) rfl ⟨Nat.le_of_ble_eq_true rfl, Nat.le_of_ble_eq_true rfl⟩ (Nat.le_of_ble_eq_true rfl) ⟨Nat.zero_le _, Nat.zero_le _⟩ rfl rfl (fun r w2 hp => ?_)
  rw [hp.1, hp.2]
  show hm_V p l e (hm_rm 3 0 0) s m args below meth c D (hm_A w s.heap.size) 2 0 0 (MQ below (hm_Qi D w s.heap.size (fun r w2 => r = iI ((cdP (mem f)).length : Nat) ∧ w2 = w)) args s 0 0 (hm_A w s.heap.size)) w 4 [(0, .ref (a)), (1, .ref (qn))] [.int (iI ((ct (mem f) 0 4096 : Nat)))]
  refine hv_callSI (na := 1) (As := [.int (iI ((ct (mem f) 0 4096 : Nat)))]) (st := []) E (c5_bitsForAmount l D K (ct (mem f) 0 4096 : Nat) (by omega) (by omega)) dX5_bitsFor_4 gL_X5_15 gS_X5_bitsForAmount gC_X5_bitsForAmount gZ_X5 (by decide +kernel) rfl ⟨Nat.le_of_ble_eq_true rfl, Nat.le_of_ble_eq_true rfl⟩ (Nat.le_of_ble_eq_true rfl) ⟨Nat.zero_le _, Nat.zero_le _⟩ rfl rfl (fun r w2 hp => ?_)
  rw [hp.1, hp.2]
  show hm_V p l e (hm_rm 3 0 0) s m args below meth c D (hm_A w s.heap.size) 2 0 0 (MQ below (hm_Qi D w s.heap.size (fun r w2 => r = iI ((cdP (mem f)).length : Nat) ∧ w2 = w)) args s 0 0 (hm_A w s.heap.size)) w 7 [(0, .ref (a)), (1, .ref (qn))] [.int (iI (if ((ct (mem f) 0 4096 : Nat) : Int) = 0 then 13 else 13 + (((ct (mem f) 0 4096 : Int).toNat * lw (ct (mem f) 0 4096 : Int).toNat : Nat) : Int) + (ct (mem f) 0 4096 : Nat) + ((4096 / 2 ^ lw (ct (mem f) 0 4096 : Int).toNat : Nat) : Int)))]
  exact hv_iret E dX5_bitsFor_7 hr ⟨by
      rw [cdP_length, Int.toNat_natCast]
      congr 1
      split
      · rw [if_pos (by omega)]; rfl
      · rw [if_neg (by omega)]; push_cast; rfl, rfl⟩
set_option maxHeartbeats 4000000 in
set_option maxRecDepth 100000 in
theorem c5_tellLow (l : Launch) (D : va_G) (K : Nat → ClassId) {w : hm_M} {qn wn t tw : Nat} {f tf : Nat → Int32} {L P : Int} (n : Int) (hn0 : n = (ct (mem f) 0 4096 : Nat)) (hn1 : 1 ≤ n) (hL1 : L + ((loP (mem f) (lw n.toNat) 4096).length : Nat) ≤ 8210) (hn : nAt K w qn wn f) (ht : tAt K w t tw tf L P) (hL0 : 0 ≤ L)  : hm_Cv l D K yX5_tellLowParts cX5_tellLowParts 6 3 [.ref (qn), .int (iI (n)), .ref (t)] w 0 0 (fun w2 => ∃ g : Nat → Int32, w2 = tM K w t tw g (L + ((loP (mem f) (lw n.toNat) 4096).length : Nat)) P ∧ tX tf L g (loP (mem f) (lw n.toNat) 4096)) := by
  refine hm_enterV (by decide) (Nat.le_of_ble_eq_true rfl) ?_
  intro p e s m args below meth c E hr hnm
  show hm_V p l e (hm_rm 3 0 0) s m args below meth c D (hm_A w s.heap.size) 6 0 0 (MQ below (hm_Qv D w s.heap.size (fun w2 => ∃ g : Nat → Int32, w2 = tM K w t tw g (L + ((loP (mem f) (lw n.toNat) 4096).length : Nat)) P ∧ tX tf L g (loP (mem f) (lw n.toNat) 4096))) args s 0 0 (hm_A w s.heap.size)) w 0 [(0, .ref (qn)), (1, .int (iI (n))), (2, .ref (t))] []
  have hc := ct_le (mem f) 0 4096
  refine hv_iload_n E dX5_tellLowParts_0 rfl 1 rfl rfl ?_
  refine hv_callSI (na := 1) (As := [.int (iI (n))]) (st := []) E (c5_lowBits l D K n (by omega) (by omega)) dX5_tellLowParts_1 gL_X5_44 gS_X5_lowBits gC_X5_lowBits gZ_X5 (by decide +kernel) rfl ⟨Nat.le_of_ble_eq_true rfl, Nat.le_of_ble_eq_true rfl⟩ (Nat.le_of_ble_eq_true rfl) ⟨Nat.zero_le _, Nat.zero_le _⟩ rfl rfl (fun r w2 hp => ?_)
  obtain ⟨⟨lo, l1, l2, l3⟩, l4⟩ := hp
  rw [l1, l4]
  show hm_V p l e (hm_rm 3 0 0) s m args below meth c D (hm_A w s.heap.size) 6 0 0 (MQ below (hm_Qv D w s.heap.size (fun w2 => ∃ g : Nat → Int32, w2 = tM K w t tw g (L + ((loP (mem f) (lw n.toNat) 4096).length : Nat)) P ∧ tX tf L g (loP (mem f) (lw n.toNat) 4096))) args s 0 0 (hm_A w s.heap.size)) w 4 [(0, .ref (qn)), (1, .int (iI (n))), (2, .ref (t))] [.int (iI ((lo : Int)))]
  have l5 := l3 hn1
  subst l5
  show hm_V p l e (hm_rm 3 0 0) s m args below meth c D (hm_A w s.heap.size) 6 0 0 (MQ below (hm_Qv D w s.heap.size (fun w2 => ∃ g : Nat → Int32, w2 = tM K w t tw g (L + ((loP (mem f) (lw n.toNat) 4096).length : Nat)) P ∧ tX tf L g (loP (mem f) (lw n.toNat) 4096))) args s 0 0 (hm_A w s.heap.size)) w 4 [(0, .ref (qn)), (1, .int (iI (n))), (2, .ref (t))] [.int (iI (((lw n.toNat : Nat) : Int)))]
  refine hv_istore_n (lv2 := [(3, .int (iI (((lw n.toNat : Nat) : Int)))), (0, .ref (qn)), (1, .int (iI (n))), (2, .ref (t))]) E dX5_tellLowParts_4 rfl (by decide) rfl rfl ?_
  refine hv_iconst E dX5_tellLowParts_5 rfl ?_
  refine hv_istore (lv2 := [(4, .int (iI ((-1)))), (3, .int (iI (((lw n.toNat : Nat) : Int)))), (0, .ref (qn)), (1, .int (iI (n))), (2, .ref (t))]) E dX5_tellLowParts_6 (by decide) rfl rfl ?_
  refine hv_iconst E dX5_tellLowParts_8 rfl ?_
  refine hv_istore (lv2 := [(5, .int (iI (0))), (4, .int (iI ((-1)))), (3, .int (iI (((lw n.toNat : Nat) : Int)))), (0, .ref (qn)), (1, .int (iI (n))), (2, .ref (t))]) E dX5_tellLowParts_9 (by decide) rfl rfl ?_
  refine hv_mem (show w = tM K w t tw tf (L + ((loP (mem f) (lw n.toNat) 0).length : Nat)) P from (by rw [show L + ((loP (mem f) (lw n.toNat) 0).length : Nat) = L by simp [loP]]; exact tM_id ht)) ?_
  have LP : ∀ (k : Nat) (j v : Int) (g : Nat → Int32), (n - j < (k : Int)) → (0 ≤ j) → (j ≤ n) → (-1 ≤ v) → (v < 4096) → (j = (ct (mem f) 0 (v + 1).toNat : Nat)) → (tX tf L g (loP (mem f) (lw n.toNat) (v + 1).toNat)) → hm_V p l e (hm_rm 3 0 0) s m args below meth c D (hm_A w s.heap.size) 6 0 0 (MQ below (hm_Qv D w s.heap.size (fun w2 => ∃ g : Nat → Int32, w2 = tM K w t tw g (L + ((loP (mem f) (lw n.toNat) 4096).length : Nat)) P ∧ tX tf L g (loP (mem f) (lw n.toNat) 4096))) args s 0 0 (hm_A w s.heap.size)) (tM K w t tw g (L + ((loP (mem f) (lw n.toNat) (v + 1).toNat).length : Nat)) P) 11 [(5, .int (iI (j))), (4, .int (iI (v))), (3, .int (iI (((lw n.toNat : Nat) : Int)))), (0, .ref (qn)), (1, .int (iI (n))), (2, .ref (t))] [] := by
    intro k
    induction k with
    | zero =>
      intro j v g hk g0 g1 v0 v1 hj hx
      exact absurd hk (by omega)
    | succ k ih =>
      intro j v g hk g0 g1 v0 v1 hj hx
      have hT : tAt K (tM K w t tw g (L + ((loP (mem f) (lw n.toNat) (v + 1).toNat).length : Nat)) P) t tw g (L + ((loP (mem f) (lw n.toNat) (v + 1).toNat).length : Nat)) P := tAt_tM ht.ne
      have hN : nAt K (tM K w t tw g (L + ((loP (mem f) (lw n.toNat) (v + 1).toNat).length : Nat)) P) qn wn f := hn.tm ht
      have hm1 := ct_mono (mem f) 0 (show (v + 1).toNat ≤ 4096 by omega)
      refine hv_iload E dX5_tellLowParts_11 0 rfl rfl ?_
      refine hv_iload_n E dX5_tellLowParts_13 rfl 4 rfl rfl ?_
      refine hv_icmp_ge E 40 dX5_tellLowParts_14 (by decide) ⟨by omega, by omega⟩ ⟨by omega, by omega⟩ rfl (fun c1 => ?_) (fun c1 => ?_)
      · have es : loP (mem f) (lw n.toNat) 4096 = loP (mem f) (lw n.toNat) (v + 1).toNat := loP_skip (by omega) (fun u h1 h2 => by
          cases e1 : mem f u with
          | false => rfl
          | true =>
            have z1 := ct_step (S := mem f) (a := 0) h2 (by rw [Nat.zero_add]; exact e1)
            have z2 := ct_mono (mem f) 0 h1
            omega)
        exact hv_vret E dX5_tellLowParts_40 hr ⟨g, by rw [es], by rw [es]; exact hx⟩
      · refine hv_aload_n E dX5_tellLowParts_17 rfl 3 rfl rfl ?_
        refine hv_iload E dX5_tellLowParts_18 1 rfl rfl ?_
        refine hv_iconst E dX5_tellLowParts_20 rfl ?_
        refine hv_iadd E dX5_tellLowParts_21 rfl ?_
        refine hv_callVI (na := 1) (As := [.int (iI (v + 1))]) (st := []) E (c2_leastFrom l D K (v + 1) (by omega) (by omega) hN) dX5_tellLowParts_22 hN.1 (show vwCl[1]? = some (RX2, TX2, 1) from rfl) gL_X5_54 gV_X2_leastFrom gI_X2_leastFrom gC_X2_leastFrom gZ_X2 (by decide +kernel) rfl ⟨Nat.le_of_ble_eq_true rfl, Nat.le_of_ble_eq_true rfl⟩ (Nat.le_of_ble_eq_true rfl) ⟨Nat.zero_le _, Nat.zero_le _⟩ rfl rfl (fun r w2 hp => ?_)
        obtain ⟨⟨z, p1, p2⟩, p3⟩ := hp
        rw [p2, p3]
        show hm_V p l e (hm_rm 3 0 0) s m args below meth c D (hm_A w s.heap.size) 6 0 0 (MQ below (hm_Qv D w s.heap.size (fun w2 => ∃ g : Nat → Int32, w2 = tM K w t tw g (L + ((loP (mem f) (lw n.toNat) 4096).length : Nat)) P ∧ tX tf L g (loP (mem f) (lw n.toNat) 4096))) args s 0 0 (hm_A w s.heap.size)) (tM K w t tw g (L + ((loP (mem f) (lw n.toNat) (v + 1).toNat).length : Nat)) P) 25 [(5, .int (iI (j))), (4, .int (iI (v))), (3, .int (iI (((lw n.toNat : Nat) : Int)))), (0, .ref (qn)), (1, .int (iI (n))), (2, .ref (t))] [.int (iI (z))]
        obtain ⟨z1, z2, z3, z4, z5, z6⟩ := next_ct (by omega) p1 (by omega) (by omega)
        have es : loP (mem f) (lw n.toNat) (z + 1).toNat = loP (mem f) (lw n.toNat) (v + 1).toNat ++ nb z.toNat (lw n.toNat) := by
          rw [show (z + 1).toNat = z.toNat + 1 by omega]
          simp only [loP]
          rw [z4, if_pos rfl, loP_skip (show (v + 1).toNat ≤ z.toNat by omega) z5]
        have hl := lw_12 (n := n.toNat) (by omega) (by omega)
        have hroom : ((loP (mem f) (lw n.toNat) (z + 1).toNat).length : Int) ≤ (loP (mem f) (lw n.toNat) 4096).length := by
          rw [loP_length, loP_length]
          exact_mod_cast Nat.mul_le_mul_right _ (ct_mono (mem f) 0 (by omega))
        have hlen : ((loP (mem f) (lw n.toNat) (z + 1).toNat).length : Int) = (loP (mem f) (lw n.toNat) (v + 1).toNat).length + (lw n.toNat : Nat) := by rw [es, List.length_append, nb_length]; push_cast; rfl
        refine hv_istore (lv2 := [(4, .int (iI (z))), (5, .int (iI (j))), (3, .int (iI (((lw n.toNat : Nat) : Int)))), (0, .ref (qn)), (1, .int (iI (n))), (2, .ref (t))]) E dX5_tellLowParts_25 (by decide) rfl rfl ?_
        refine hv_aload_n E dX5_tellLowParts_27 rfl 5 rfl rfl ?_
        refine hv_iload E dX5_tellLowParts_28 0 rfl rfl ?_
        refine hv_iload_n E dX5_tellLowParts_30 rfl 2 rfl rfl ?_
        refine hv_callVV (na := 2) (As := [.int (iI (z)), .int (iI (((lw n.toNat : Nat) : Int)))]) (st := []) E (c4_append l D K (iI (z)) (((lw n.toNat : Nat) : Int)) (by omega) (by omega) (by omega) hT (by omega) (by omega)) dX5_tellLowParts_31 hT.1 (show vwCl[3]? = some (RX4, TX4, 3) from rfl) gL_X5_21 gV_X4_append gI_X4_append gC_X4_append gZ_X4 (by decide +kernel) rfl ⟨Nat.le_of_ble_eq_true rfl, Nat.le_of_ble_eq_true rfl⟩ (Nat.le_of_ble_eq_true rfl) ⟨Nat.zero_le _, Nat.zero_le _⟩ rfl rfl (fun w2 hp => ?_)
        obtain ⟨g2, e2, hf2, hf3⟩ := hp
        rw [tM_tM ht.ne] at e2
        rw [e2]
        rw [show (L + ((loP (mem f) (lw n.toNat) (v + 1).toNat).length : Nat)) + (((lw n.toNat : Nat) : Int)) = L + ((loP (mem f) (lw n.toNat) (z + 1).toNat).length : Nat) from (by omega)]
        show hm_V p l e (hm_rm 3 0 0) s m args below meth c D (hm_A w s.heap.size) 6 0 0 (MQ below (hm_Qv D w s.heap.size (fun w2 => ∃ g : Nat → Int32, w2 = tM K w t tw g (L + ((loP (mem f) (lw n.toNat) 4096).length : Nat)) P ∧ tX tf L g (loP (mem f) (lw n.toNat) 4096))) args s 0 0 (hm_A w s.heap.size)) (tM K w t tw g2 (L + ((loP (mem f) (lw n.toNat) (z + 1).toNat).length : Nat)) P) 34 [(4, .int (iI (z))), (5, .int (iI (j))), (3, .int (iI (((lw n.toNat : Nat) : Int)))), (0, .ref (qn)), (1, .int (iI (n))), (2, .ref (t))] []
        have hq := tX.nb (f := g) (g := g2) (z := z) (n := ((lw n.toNat : Nat) : Int)) (by omega) (by omega) (by omega) (by omega) (by omega) hf2 hf3
        refine hv_iinc (lv2 := [(5, .int (iI (j + 1))), (4, .int (iI (z))), (3, .int (iI (((lw n.toNat : Nat) : Int)))), (0, .ref (qn)), (1, .int (iI (n))), (2, .ref (t))]) E dX5_tellLowParts_34 1 rfl rfl (by decide) rfl rfl ?_
        refine hv_goto E 11 dX5_tellLowParts_37 (by decide) ?_
        refine hv_sub (lv2 := [(5, .int (iI (j + 1))), (4, .int (iI (z))), (3, .int (iI (((lw n.toNat : Nat) : Int)))), (0, .ref (qn)), (1, .int (iI (n))), (2, .ref (t))]) [0, 1, 2, 3, 4, 5] rfl ?_
        exact ih (j + 1) z g2 (by omega) (by omega) (by omega) (by omega) (by omega) (by rw [show (z + 1).toNat = z.toNat + 1 by omega, z6, hj]; rfl) (by rw [es]; exact hx.app hL0 (by rw [Int.toNat_natCast] at hq; exact hq))
  refine hv_sub (lv2 := [(5, .int (iI (0))), (4, .int (iI ((-1)))), (3, .int (iI (((lw n.toNat : Nat) : Int)))), (0, .ref (qn)), (1, .int (iI (n))), (2, .ref (t))]) [0, 1, 2, 3, 4, 5] rfl ?_
  exact LP (n + 1).toNat 0 (-1) tf (by omega) (by omega) (by omega) (by omega) (by omega) rfl tX.nil
