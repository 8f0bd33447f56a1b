/-! Gaps: the tape read, the set gathered -/
theorem nb_gap {g z : Nat} (h1 : 2 ^ z ≤ g) (h2 : g < 2 ^ (z + 1)) : nb g (2 * (z + 1) - 1) = nb 0 z ++ (true :: nb (g - 2 ^ z) z) := by
  have e := nb_zero g (z + 1) z h2
  rw [show 2 * (z + 1) - 1 = z + 1 + z by omega, e]
  congr 1
  show g.testBit z :: nb g z = _
  have hb : g.testBit z = true := by
    have : g = 2 ^ z * 1 + (g - 2 ^ z) := by omega
    rw [this, Nat.testBit_two_pow_mul_add _ (by rw [Nat.pow_succ] at h2; omega)]
    simp
  rw [hb]
  congr 1
  apply nb_congr
  have e2 : g = (g - 2 ^ z) + 2 ^ z := by omega
  conv => lhs; rw [e2]
  exact Nat.add_mod_right _ _
theorem nb0_get (z i : Nat) : (nb 0 z).getD i false = false := by
  rcases Nat.lt_or_ge i z with q | q
  · rw [nb_get _ _ _ q]; simp
  · rw [List.getD_eq_getElem?_getD, List.getElem?_eq_none (by rw [nb_length]; exact q)]; rfl
theorem rd_zeros {X : Nat → Bool} {p z : Nat} : rd X p (nb 0 z) ↔ ∀ i, i < z → X (p + i) = false := by
  constructor
  · intro h i hi; rw [h i (by rw [nb_length]; exact hi), nb0_get]
  · intro h i hi; rw [nb_length] at hi; rw [h i hi, nb0_get]
/-- a gap as it is read -/
theorem rd_gap {X : Nat → Bool} {p g z : Nat} (h1 : 2 ^ z ≤ g) (h2 : g < 2 ^ (z + 1)) : rd X p (nb g (2 * (z + 1) - 1)) ↔ (∀ i, i < z → X (p + i) = false) ∧ X (p + z) = true ∧ bv X (p + z + 1) z = g - 2 ^ z := by
  rw [nb_gap h1 h2, show (true :: nb (g - 2 ^ z) z) = [true] ++ nb (g - 2 ^ z) z from rfl, rd_app, rd_app, rd_zeros, rd_one, nb_length]
  have h3 : g - 2 ^ z < 2 ^ z := by rw [Nat.pow_succ] at h2; omega
  constructor
  · rintro ⟨a, b, c⟩
    refine ⟨a, b, ?_⟩
    have := bv_rd c
    rw [Nat.mod_eq_of_lt h3] at this
    exact this
  · rintro ⟨a, b, c⟩
    refine ⟨a, b, ?_⟩
    have := rd_bv X (p + z + 1) z
    rw [c] at this
    exact this
theorem gap_w {g z : Nat} (h1 : 2 ^ z ≤ g) (h2 : g < 2 ^ (z + 1)) : wdt g = z + 1 := (wdt_uq (k := z + 1) (by omega) (by rw [Nat.add_sub_cancel]; exact h1) h2).symm
/-- what stands at the next number -/
theorem gp_nx {S : Nat → Bool} {v g z : Nat} (hl : lst S v = v) (hg : 1 ≤ g) (hs : S (v + g - 1) = true) (hn : ∀ u, v ≤ u → u < v + g - 1 → S u = false) (h1 : 2 ^ z ≤ g) (h2 : g < 2 ^ (z + 1)) : gpP S (v + g) = gpP S v ++ nb g (2 * (z + 1) - 1) ∧ lst S (v + g) = v + g ∧ ct S 0 (v + g) = ct S 0 v + 1 := by
  obtain ⟨m, hm⟩ : ∃ m, v + g = m + 1 := ⟨v + g - 1, by omega⟩
  have hs2 : S m = true := by rw [show m = v + g - 1 by omega]; exact hs
  have hn2 : ∀ u, v ≤ u → u < m → S u = false := fun u a b => hn u a (by omega)
  have e1 := gpP_skip (S := S) (a := v) (b := m) (by omega) hn2
  have e2 := lst_skip (S := S) (a := v) (b := m) (by omega) hn2
  have e3 := ct_skip (S := S) (a := v) (b := m) (by omega) hn2
  rw [hm]
  refine ⟨?_, ?_, ?_⟩
  · simp only [gpP]
    rw [if_pos hs2, e1, e2, hl, show m + 1 - v = g by omega, gap_w h1 h2]
  · simp only [lst]; rw [if_pos hs2]
  · rw [ct_succ, Nat.zero_add, if_pos hs2, e3]
/-- gathered so far: U below v, with k numbers; the tape is read up to P -/
def gI (X : Nat → Bool) (L : Int) (U : Nat → Bool) (v k P : Nat) : Prop := (v ≤ 4096) ∧ (∀ u, v ≤ u → u < 4096 → U u = false) ∧ (ct U 0 v = k) ∧ (lst U v = v) ∧ (rd X 13 (gpP U v)) ∧ (P = 13 + (gpP U v).length) ∧ (∀ S, isC X L (cdG S) → ∀ u, u < v → S u = U u)
theorem gI.hv {X : Nat → Bool} {L : Int} {U : Nat → Bool} {v k P : Nat} (h : gI X L U v k P) : v ≤ 4096 := h.1
theorem gI.hU {X : Nat → Bool} {L : Int} {U : Nat → Bool} {v k P : Nat} (h : gI X L U v k P) : ∀ u, v ≤ u → u < 4096 → U u = false := h.2.1
theorem gI.hk {X : Nat → Bool} {L : Int} {U : Nat → Bool} {v k P : Nat} (h : gI X L U v k P) : ct U 0 v = k := h.2.2.1
theorem gI.hl {X : Nat → Bool} {L : Int} {U : Nat → Bool} {v k P : Nat} (h : gI X L U v k P) : lst U v = v := h.2.2.2.1
theorem gI.hr {X : Nat → Bool} {L : Int} {U : Nat → Bool} {v k P : Nat} (h : gI X L U v k P) : rd X 13 (gpP U v) := h.2.2.2.2.1
theorem gI.hP {X : Nat → Bool} {L : Int} {U : Nat → Bool} {v k P : Nat} (h : gI X L U v k P) : P = 13 + (gpP U v).length := h.2.2.2.2.2.1
theorem gI.hS {X : Nat → Bool} {L : Int} {U : Nat → Bool} {v k P : Nat} (h : gI X L U v k P) : ∀ S, isC X L (cdG S) → ∀ u, u < v → S u = U u := h.2.2.2.2.2.2
theorem gI_0 {X : Nat → Bool} {L : Int} {U : Nat → Bool} (hU : ∀ u, u < 4096 → U u = false) : gI X L U 0 0 13 :=
  ⟨by omega, fun u _ h => hU u h, rfl, rfl, rd_nil, rfl, fun _ _ u hu => absurd hu (by omega)⟩
theorem cdG_n {X : Nat → Bool} {L : Int} {S : Nat → Bool} (h : isC X L (cdG S)) : bv X 0 13 = ct S 0 4096 ∧ rd X 13 (gpP S 4096) ∧ L = 13 + (gpP S 4096).length := by
  obtain ⟨h1, h2⟩ := h
  unfold cdG at h1 h2
  rw [rd_app, nb_length, Nat.zero_add] at h2
  have h3 := bv_rd h2.1
  have h4 := ct_le S 0 4096
  rw [Nat.mod_eq_of_lt (by omega)] at h3
  rw [List.length_append, nb_length] at h1
  exact ⟨h3, h2.2, by omega⟩
/-- of a code's set: where the next number stands, and how it is read -/
theorem gI_nx {X : Nat → Bool} {L : Int} {U : Nat → Bool} {v k P : Nat} (h : gI X L U v k P) (hk : k < bv X 0 13) {S : Nat → Bool} (hS : isC X L (cdG S)) : ∃ g z, 1 ≤ g ∧ v + g ≤ 4096 ∧ z ≤ 12 ∧ 2 ^ z ≤ g ∧ g < 2 ^ (z + 1) ∧ S (v + g - 1) = true ∧ (∀ u, v ≤ u → u < v + g - 1 → S u = false) ∧ (∀ i, i < z → X (P + i) = false) ∧ X (P + z) = true ∧ bv X (P + z + 1) z = g - 2 ^ z ∧ (P : Int) + 2 * z + 1 ≤ L := by
  obtain ⟨n1, n2, n3⟩ := cdG_n hS
  have hag := h.hS S hS
  have hv := h.hv
  have hc : ct S 0 v = k := by rw [← h.hk]; exact ct_congr (fun i hi => by rw [Nat.zero_add]; exact hag i hi)
  have hl : lst S v = v := by rw [lst_cg hag]; exact h.hl
  have hgp : gpP S v = gpP U v := gpP_cg hag
  obtain ⟨e, e1, e2, e3, e4, e5⟩ := ct_nx (S := S) (a := 0) (j := v) (n := 4096) (by omega)
  rw [Nat.zero_add] at e3
  obtain ⟨g, hge, hg1⟩ : ∃ g, e = v + g - 1 ∧ 1 ≤ g := ⟨e + 1 - v, by omega, by omega⟩
  subst hge
  obtain ⟨w1, w2⟩ := wdt_ok hg1
  have w3 : wdt g ≤ 13 := wdt_le hg1 (by omega)
  have w4 : 1 ≤ wdt g := by unfold wdt; omega
  obtain ⟨z, hz⟩ : ∃ z, wdt g = z + 1 := ⟨wdt g - 1, by omega⟩
  rw [hz] at w1 w2 w3
  rw [Nat.add_sub_cancel] at w1
  have hn : ∀ u, v ≤ u → u < v + g - 1 → S u = false := fun u a b => by have := e4 u a b; rw [Nat.zero_add] at this; exact this
  obtain ⟨q1, q2, q3⟩ := gp_nx hl hg1 e3 hn w1 w2
  have hlen : ∃ t, gpP S 4096 = gpP S (v + g) ++ t := by
    obtain ⟨d, hd⟩ : ∃ d, 4096 = v + g + d := ⟨4096 - (v + g), by omega⟩
    rw [hd]
    clear hd
    induction d with
    | zero => exact ⟨[], by simp⟩
    | succ d ih => obtain ⟨t, ht⟩ := ih; rw [← Nat.add_assoc]; simp only [gpP]; rw [ht, List.append_assoc]; exact ⟨_, rfl⟩
  obtain ⟨t, ht⟩ := hlen
  rw [ht, q1, hgp] at n2 n3
  rw [List.append_assoc, rd_app, rd_app, ← h.hP] at n2
  obtain ⟨r1, r2, r3⟩ := (rd_gap w1 w2).mp n2.2.1
  refine ⟨g, z, hg1, by omega, by omega, w1, w2, e3, hn, r1, r2, r3, ?_⟩
  rw [List.length_append, List.length_append, nb_length] at n3
  have := h.hP
  omega
theorem gI_step {X : Nat → Bool} {L : Int} {U U2 : Nat → Bool} {v k P : Nat} (h : gI X L U v k P) (hk : k < bv X 0 13) {z : Nat} (h1 : ∀ i, i < z → X (P + i) = false) (h2 : X (P + z) = true) (hle : v + (2 ^ z + bv X (P + z + 1) z) ≤ 4096) (hU : ∀ u, U2 u = (U u || decide (u = v + (2 ^ z + bv X (P + z + 1) z) - 1))) : gI X L U2 (v + (2 ^ z + bv X (P + z + 1) z)) (k + 1) (P + 2 * z + 1) := by
  obtain ⟨g, hg⟩ : ∃ g, g = 2 ^ z + bv X (P + z + 1) z := ⟨_, rfl⟩
  rw [← hg] at hle hU ⊢
  have hb := bv_lt X (P + z + 1) z
  have hp := Nat.two_pow_pos z
  have w1 : 2 ^ z ≤ g := by omega
  have w2 : g < 2 ^ (z + 1) := by rw [Nat.pow_succ]; omega
  have hlow : ∀ u, u < v → U2 u = U u := fun u hu => by rw [hU, decide_eq_false (by omega), Bool.or_false]
  have hl : lst U2 v = v := by rw [lst_cg hlow]; exact h.hl
  have hs : U2 (v + g - 1) = true := by rw [hU, decide_eq_true rfl, Bool.or_true]
  have hn : ∀ u, v ≤ u → u < v + g - 1 → U2 u = false := fun u a b => by rw [hU, decide_eq_false (by omega), Bool.or_false]; exact h.hU u a (by omega)
  obtain ⟨q1, q2, q3⟩ := gp_nx hl (by omega) hs hn w1 w2
  have hgp : gpP U2 v = gpP U v := gpP_cg hlow
  refine ⟨hle, ?_, ?_, q2, ?_, ?_, ?_⟩
  · intro u a b
    rw [hU, decide_eq_false (by omega), Bool.or_false]; exact h.hU u (by omega) b
  · rw [q3, ← h.hk]; congr 1; exact ct_congr (fun i hi => by rw [Nat.zero_add]; exact hlow i hi)
  · rw [q1, hgp, rd_app, ← h.hP]
    exact ⟨h.hr, (rd_gap w1 w2).mpr ⟨h1, h2, by omega⟩⟩
  · rw [q1, hgp, List.length_append, nb_length]; have := h.hP; omega
  · intro S hS u hu
    obtain ⟨g2, z2, a1, a2, a3, a4, a5, a6, a7, a8, a9, a10, a11⟩ := gI_nx h hk hS
    have hz : z2 = z := by
      rcases (show z2 < z ∨ z < z2 ∨ z2 = z by omega) with q | q | q
      · rw [h1 _ q] at a9; cases a9
      · rw [a8 _ q] at h2; cases h2
      · exact q
    subst hz
    have hgg : g2 = g := by omega
    subst hgg
    rcases Nat.lt_or_ge u v with q | q
    · rw [h.hS S hS u q, hlow u q]
    · rcases (show u < v + g2 - 1 ∨ u = v + g2 - 1 by omega) with q2 | q2
      · rw [a7 u q q2, hn u q q2]
      · rw [q2, a6, hs]
/-- so many zeros, or a number too great: no code -/
theorem gI_no {X : Nat → Bool} {L : Int} {U : Nat → Bool} {v k P : Nat} (h : gI X L U v k P) (hk : k < bv X 0 13) {z : Nat} (h1 : ∀ i, i < z → X (P + i) = false) (h2 : z = 13 ∨ X (P + z) = true ∧ 4096 < v + (2 ^ z + bv X (P + z + 1) z)) (S : Nat → Bool) : ¬ isC X L (cdG S) := fun hS => by
  obtain ⟨g2, z2, a1, a2, a3, a4, a5, a6, a7, a8, a9, a10, a11⟩ := gI_nx h hk hS
  rcases h2 with h2 | ⟨h2, h3⟩
  · subst h2
    rw [h1 z2 (by omega)] at a9; cases a9
  · have hz : z2 = z := by
      rcases (show z2 < z ∨ z < z2 ∨ z2 = z by omega) with q | q | q
      · rw [h1 _ q] at a9; cases a9
      · rw [a8 _ q] at h2; cases h2
      · exact q
    subst hz
    omega
theorem gI_end {X : Nat → Bool} {L : Int} {U : Nat → Bool} {v P : Nat} (h : gI X L U v (bv X 0 13) P) (hP : (P : Int) = L) : isC X L (cdG U) := by
  have e1 := ct_skip (S := U) (a := v) (b := 4096) h.hv (fun u a b => h.hU u a b)
  have e2 := gpP_skip (S := U) (a := v) (b := 4096) h.hv (fun u a b => h.hU u a b)
  have hh := h.hP
  unfold cdG
  rw [e1, e2, h.hk]
  refine ⟨?_, ?_⟩
  · rw [List.length_append, nb_length]; omega
  · rw [rd_app, nb_length, Nat.zero_add]
    exact ⟨rd_bv X 0 13, h.hr⟩
theorem gI_fail {X : Nat → Bool} {L : Int} {U : Nat → Bool} {v P : Nat} (h : gI X L U v (bv X 0 13) P) (hP : (P : Int) ≠ L) (S : Nat → Bool) : ¬ isC X L (cdG S) := fun hS => by
  obtain ⟨n1, n2, n3⟩ := cdG_n hS
  have hag := h.hS S hS
  have hv := h.hv
  have hc : ct S 0 v = ct S 0 4096 := by rw [← n1, ← h.hk]; exact ct_congr (fun i hi => by rw [Nat.zero_add]; exact hag i hi)
  have hgp : gpP S v = gpP U v := gpP_cg hag
  have e2 := gpP_skip (S := S) (a := v) (b := 4096) h.hv (fun u a b => by have := ct_none (S := S) (a := 0) (j := v) (n := 4096) (by omega) a b; rw [Nat.zero_add] at this; exact this)
  rw [e2, hgp] at n3
  have hh := h.hP
  omega
theorem gI_big {X : Nat → Bool} {L : Int} (h : 4096 < bv X 0 13) (S : Nat → Bool) : ¬ isC X L (cdG S) := fun hS => by
  have := (cdG_n hS).1
  have h4 := ct_le S 0 4096
  omega
