/-! TwoParts: the tape read, the set gathered -/
theorem div_chunk {l h t : Nat} (ht : t < 2 ^ l) : (h * 2 ^ l + t) / 2 ^ l = h := by
  rw [Nat.mul_comm, Nat.mul_add_div (Nat.two_pow_pos l), Nat.div_eq_of_lt ht, Nat.add_zero]
theorem hi_chunk (S : Nat → Bool) (l h t : Nat) (ht : t < 2 ^ l) : hiP S l (h * 2 ^ l + t) = hiP S l (h * 2 ^ l) ++ List.replicate (ct S (h * 2 ^ l) t) true := by
  induction t with
  | zero => simp [ct]
  | succ t ih =>
    have e1 := div_chunk (h := h) (show t < 2 ^ l by omega)
    have e2 := div_chunk (h := h) ht
    rw [← Nat.add_assoc] at e2 ⊢
    simp only [hiP]
    rw [ih (by omega), e1, e2, if_pos rfl, ct_succ]
    cases S (h * 2 ^ l + t)
    · simp
    · simp [List.replicate_succ']
theorem hi_chunk1 (S : Nat → Bool) (l h : Nat) : hiP S l ((h + 1) * 2 ^ l) = hiP S l (h * 2 ^ l) ++ (List.replicate (ct S (h * 2 ^ l) (2 ^ l)) true ++ [false]) := by
  have hp := Nat.two_pow_pos l
  obtain ⟨t, ht⟩ : ∃ t, 2 ^ l = t + 1 := ⟨2 ^ l - 1, by omega⟩
  have e0 := hi_chunk S l h t (by omega)
  have e1 := div_chunk (h := h) (show t < 2 ^ l by omega)
  have e2 := div_chunk (l := l) (h := h + 1) (t := 0) (by omega)
  have e3 : (h + 1) * 2 ^ l = h * 2 ^ l + t + 1 := by rw [Nat.add_mul, Nat.one_mul]; omega
  have e4 : ct S (h * 2 ^ l) (2 ^ l) = ct S (h * 2 ^ l) t + (if S (h * 2 ^ l + t) then 1 else 0) := by
    conv => lhs; arg 3; rw [ht]
    rfl
  rw [Nat.add_zero, e3] at e2
  rw [e3, e4]
  simp only [hiP]
  rw [e0, e1, e2, if_neg (show ¬ (h = h + 1) by omega)]
  cases S (h * 2 ^ l + t)
  · simp
  · simp [List.replicate_succ']
theorem hi_pre (S : Nat → Bool) (l : Nat) {j n : Nat} (h : j ≤ n) : ∃ t, hiP S l n = hiP S l j ++ t := by
  obtain ⟨d, rfl⟩ : ∃ d, n = j + d := ⟨n - j, by omega⟩
  clear h
  induction d with
  | zero => exact ⟨[], by simp⟩
  | succ d ih => obtain ⟨t, ht⟩ := ih; rw [← Nat.add_assoc]; simp only [hiP]; rw [ht, List.append_assoc]; exact ⟨_, rfl⟩
theorem lo_pre (S : Nat → Bool) (l : Nat) {j n : Nat} (h : j ≤ n) : ∃ t, loP S l n = loP S l j ++ t := by
  obtain ⟨d, rfl⟩ : ∃ d, n = j + d := ⟨n - j, by omega⟩
  clear h
  induction d with
  | zero => exact ⟨[], by simp⟩
  | succ d ih => obtain ⟨t, ht⟩ := ih; rw [← Nat.add_assoc]; simp only [loP]; rw [ht, List.append_assoc]; exact ⟨_, rfl⟩
theorem cdP_n {X : Nat → Bool} {L : Int} {S : Nat → Bool} (h : isC X L (cdP S)) : bv X 0 13 = ct S 0 4096 ∧ L = ((cdP S).length : Nat) ∧ (ct S 0 4096 ≠ 0 → rd X 13 (loP S (lw (ct S 0 4096)) 4096) ∧ rd X (13 + ct S 0 4096 * lw (ct S 0 4096)) (hiP S (lw (ct S 0 4096)) 4096)) := by
  obtain ⟨h1, h2⟩ := h
  unfold cdP at h2
  rw [rd_app, nb_length, Nat.zero_add] at h2
  have h3 := bv_rd h2.1
  have h4 := ct_le S 0 4096
  rw [Nat.mod_eq_of_lt (by omega)] at h3
  refine ⟨h3, h1, fun h5 => ?_⟩
  have h6 := h2.2
  rw [if_neg h5, rd_app, loP_length] at h6
  exact h6
/-- the place at which k numbers of S and h zeros are read -/
def qI (S : Nat → Bool) (l h k : Nat) : Prop := h * 2 ^ l ≤ 4096 ∧ ct S 0 (h * 2 ^ l) ≤ k ∧ k ≤ ct S 0 (h * 2 ^ l + 2 ^ l) ∧ k ≤ ct S 0 4096
theorem qI_0 (S : Nat → Bool) (l : Nat) : qI S l 0 0 := by
  unfold qI; rw [Nat.zero_mul]; exact ⟨by omega, by simp [ct], Nat.zero_le _, Nat.zero_le _⟩
/-- 2^l divides 4096 -/
theorem dv12 {l : Nat} (h : l ≤ 12) : ∃ m, 4096 = m * 2 ^ l ∧ 4096 / 2 ^ l = m := by
  have e : 4096 = 2 ^ (12 - l) * 2 ^ l := by rw [← Nat.pow_add, show 12 - l + l = 12 by omega]
  refine ⟨2 ^ (12 - l), e, ?_⟩
  conv => lhs; arg 1; rw [e]
  exact Nat.mul_div_cancel _ (Nat.two_pow_pos l)
/-- the bit that is read there -/
theorem qI_bit {X : Nat → Bool} {L : Int} {S : Nat → Bool} {n l h k : Nat} (hS : isC X L (cdP S)) (hn : n = bv X 0 13) (hn1 : 1 ≤ n) (hl : l = lw n) (hq : qI S l h k) (hi : ((13 + n * l + k + h : Nat) : Int) < L) : h * 2 ^ l + 2 ^ l ≤ 4096 ∧ X (13 + n * l + k + h) = decide (k < ct S 0 (h * 2 ^ l + 2 ^ l)) := by
  obtain ⟨n1, n2, n3⟩ := cdP_n hS
  have hn2 : ct S 0 4096 = n := by omega
  have h4 := ct_le S 0 4096
  have hln := cdP_length S
  rw [hn2] at n3 hln
  rw [← hl] at n3 hln
  rw [if_neg (by omega)] at hln
  obtain ⟨q1, q2, q3, q4⟩ := hq
  obtain ⟨m, m1, m2⟩ := dv12 (l := l) (by rw [hl]; exact lw_12 hn1 (by omega))
  rw [m2] at hln
  have hp := Nat.two_pow_pos l
  have hhm : h ≤ m := by
    rcases Nat.lt_or_ge m h with q | q
    · have := Nat.mul_le_mul_right (2 ^ l) (show m + 1 ≤ h by omega); rw [Nat.add_mul] at this; omega
    · exact q
  have hhm2 : h < m := by
    rcases (show h < m ∨ h = m by omega) with q | q
    · exact q
    · subst q; rw [← m1] at q2; omega
  have hH : h * 2 ^ l + 2 ^ l ≤ 4096 := by
    have := Nat.mul_le_mul_right (2 ^ l) (show h + 1 ≤ m by omega); rw [Nat.add_mul] at this; omega
  refine ⟨hH, ?_⟩
  have e1 := hi_chunk1 S l h
  rw [show (h + 1) * 2 ^ l = h * 2 ^ l + 2 ^ l by rw [Nat.add_mul, Nat.one_mul]] at e1
  obtain ⟨t, ht⟩ := hi_pre S l hH
  have r := (n3 (by omega)).2
  rw [ht, e1, rd_app, rd_app] at r
  have r2 := r.1.2
  have hlen : (hiP S l (h * 2 ^ l)).length = ct S 0 (h * 2 ^ l) + h := by rw [hiP_length, Nat.mul_div_cancel _ hp]
  have hct := ct_add S 0 (h * 2 ^ l) (2 ^ l)
  rw [Nat.zero_add] at hct
  have r3 := r2 (k - ct S 0 (h * 2 ^ l)) (by rw [List.length_append, List.length_replicate]; simp; omega)
  rw [hlen, show 13 + n * l + (ct S 0 (h * 2 ^ l) + h) + (k - ct S 0 (h * 2 ^ l)) = 13 + n * l + k + h by omega] at r3
  rw [r3]
  rcases (show k < ct S 0 (h * 2 ^ l + 2 ^ l) ∨ k = ct S 0 (h * 2 ^ l + 2 ^ l) by omega) with q | q
  · rw [getD_app1 (by rw [List.length_replicate]; omega), decide_eq_true q, List.getD_eq_getElem?_getD, List.getElem?_replicate, if_pos (by omega)]
    rfl
  · rw [show k - ct S 0 (h * 2 ^ l) = (List.replicate (ct S (h * 2 ^ l) (2 ^ l)) true).length + 0 by rw [List.length_replicate]; omega, getD_app2, decide_eq_false (by omega)]
    rfl
theorem qI_zero {X : Nat → Bool} {L : Int} {S : Nat → Bool} {n l h k : Nat} (hS : isC X L (cdP S)) (hn : n = bv X 0 13) (hn1 : 1 ≤ n) (hl : l = lw n) (hq : qI S l h k) (hi : ((13 + n * l + k + h : Nat) : Int) < L) (hx : X (13 + n * l + k + h) = false) : qI S l (h + 1) k := by
  obtain ⟨h1, h2⟩ := qI_bit hS hn hn1 hl hq hi
  rw [hx] at h2
  have h3 := of_decide_eq_false h2.symm
  obtain ⟨q1, q2, q3, q4⟩ := hq
  unfold qI
  rw [show (h + 1) * 2 ^ l = h * 2 ^ l + 2 ^ l by rw [Nat.add_mul, Nat.one_mul]]
  have := ct_mono S 0 (Nat.le_add_right (h * 2 ^ l + 2 ^ l) (2 ^ l))
  exact ⟨h1, by omega, by omega, q4⟩
theorem qI_one {X : Nat → Bool} {L : Int} {S : Nat → Bool} {n l h k : Nat} (hS : isC X L (cdP S)) (hn : n = bv X 0 13) (hn1 : 1 ≤ n) (hl : l = lw n) (hq : qI S l h k) (hi : ((13 + n * l + k + h : Nat) : Int) < L) (hx : X (13 + n * l + k + h) = true) : qI S l h (k + 1) ∧ k < n ∧ h * 2 ^ l + bv X (13 + k * l) l < 4096 ∧ S (h * 2 ^ l + bv X (13 + k * l) l) = true ∧ ct S 0 (h * 2 ^ l + bv X (13 + k * l) l) = k := by
  obtain ⟨h1, h2⟩ := qI_bit hS hn hn1 hl hq hi
  rw [hx] at h2
  have h3 := of_decide_eq_true h2.symm
  obtain ⟨q1, q2, q3, q4⟩ := hq
  obtain ⟨n1, n2, n3⟩ := cdP_n hS
  have hn2 : ct S 0 4096 = n := by omega
  rw [hn2, ← hl] at n3
  have hm := ct_mono S 0 h1
  obtain ⟨v, v1, v2, v3⟩ := ct_lt_of h3
  have vH : h * 2 ^ l ≤ v := by
    rcases Nat.lt_or_ge v (h * 2 ^ l) with q | q
    · have := ct_step (S := S) (a := 0) q (by rw [Nat.zero_add]; exact v2); omega
    · exact q
  have r := (n3 (by omega)).1
  obtain ⟨t, ht⟩ := lo_pre S l (show v + 1 ≤ 4096 by omega)
  have e1 : loP S l (v + 1) = loP S l v ++ nb v l := by simp only [loP]; rw [if_pos v2]
  rw [ht, e1, rd_app, rd_app, loP_length, v3] at r
  have r2 := bv_rd r.1.2
  have hb : h * 2 ^ l + bv X (13 + k * l) l = v := by
    rw [r2]
    obtain ⟨d, rfl⟩ : ∃ d, v = h * 2 ^ l + d := ⟨v - h * 2 ^ l, by omega⟩
    rw [Nat.mul_comm h, Nat.mul_add_mod, Nat.mod_eq_of_lt (by omega)]
  rw [hb]
  exact ⟨⟨q1, by omega, by omega, by omega⟩, by omega, by omega, v2, v3⟩
theorem qI_end {X : Nat → Bool} {L : Int} {S : Nat → Bool} {n l h k : Nat} (hS : isC X L (cdP S)) (hn : n = bv X 0 13) (hn1 : 1 ≤ n) (hl : l = lw n) (hq : qI S l h k) (hi : L ≤ ((13 + n * l + k + h : Nat) : Int)) : k = n := by
  obtain ⟨n1, n2, n3⟩ := cdP_n hS
  have hn2 : ct S 0 4096 = n := by omega
  have h4 := ct_le S 0 4096
  have hln := cdP_length S
  rw [hn2] at hln
  rw [← hl] at hln
  rw [if_neg (by omega)] at hln
  obtain ⟨q1, q2, q3, q4⟩ := hq
  obtain ⟨m, m1, m2⟩ := dv12 (l := l) (by rw [hl]; exact lw_12 hn1 (by omega))
  rw [m2] at hln
  have hp := Nat.two_pow_pos l
  have hhm : h ≤ m := by
    rcases Nat.lt_or_ge m h with q | q
    · have := Nat.mul_le_mul_right (2 ^ l) (show m + 1 ≤ h by omega); rw [Nat.add_mul] at this; omega
    · exact q
  omega
/-- the first k numbers of S -/
def fk (S : Nat → Bool) (k u : Nat) : Bool := S u && decide (ct S 0 u < k)
theorem fk_one {S : Nat → Bool} {k v : Nat} (h1 : S v = true) (h2 : ct S 0 v = k) (u : Nat) : fk S (k + 1) u = (fk S k u || decide (u = v)) := by
  unfold fk
  by_cases q : u = v
  · subst q; rw [h1, h2, decide_eq_true (show k < k + 1 by omega), decide_eq_true (show u = u from rfl)]; simp
  · rw [decide_eq_false q, Bool.or_false]
    by_cases hs : S u = true
    · rw [hs, Bool.true_and, Bool.true_and]
      apply decide_eq_decide.mpr
      rcases (show u < v ∨ v < u by omega) with q2 | q2
      · have := ct_step (S := S) (a := 0) q2 (by rw [Nat.zero_add]; exact hs); omega
      · have := ct_step (S := S) (a := 0) q2 (by rw [Nat.zero_add]; exact h1); omega
    · rw [eq_false_of_ne_true hs]; rfl
theorem fk_all {S : Nat → Bool} {u : Nat} (hu : u < 4096) : fk S (ct S 0 4096) u = S u := by
  unfold fk
  by_cases hs : S u = true
  · have := ct_step (S := S) (a := 0) hu (by rw [Nat.zero_add]; exact hs)
    rw [hs, decide_eq_true (by omega)]; rfl
  · rw [eq_false_of_ne_true hs]; rfl
/-- gathered so far by the class -/
def pI (X : Nat → Bool) (L : Int) (n l : Nat) (U : Nat → Bool) (a h k : Nat) : Prop :=
  k ≤ n ∧ (∀ u, a ≤ u → u < 4096 → U u = false) ∧ ct U 0 4096 = k ∧ a ≤ (h + 1) * 2 ^ l ∧ (h * 2 ^ l ≤ 4096 → rd X (13 + n * l) (hiP U l (h * 2 ^ l) ++ List.replicate (k - ct U 0 (h * 2 ^ l)) true)) ∧ rd X 13 (loP U l 4096) ∧ (∀ S, isC X L (cdP S) → qI S l h k ∧ (∀ u, u < 4096 → U u = fk S k u) ∧ (a = 0 ∨ 1 ≤ a ∧ S (a - 1) = true ∧ ct S 0 (a - 1) < k))
theorem pI_0 {X : Nat → Bool} {L : Int} {n l : Nat} {U : Nat → Bool} (hU : ∀ u, u < 4096 → U u = false) : pI X L n l U 0 0 0 := by
  have e1 : ct U 0 4096 = 0 := ct_zero (fun i hi => by rw [Nat.zero_add]; exact hU i hi)
  have e2 : loP U l 4096 = [] := by
    have := loP_skip (S := U) (l := l) (a := 0) (b := 4096) (by omega) (fun u _ h => hU u h)
    rw [this]; rfl
  refine ⟨Nat.zero_le _, fun u _ h => hU u h, e1, Nat.zero_le _, fun _ => ?_, by rw [e2]; exact rd_nil, fun S _ => ⟨qI_0 S l, fun u hu => ?_, Or.inl rfl⟩⟩
  · rw [Nat.zero_mul, Nat.zero_sub]; exact rd_nil
  · rw [hU u hu]; unfold fk; simp
theorem pI_zero {X : Nat → Bool} {L : Int} {n l : Nat} {U : Nat → Bool} {a h k : Nat} (hp : pI X L n l U a h k) (hn : n = bv X 0 13) (hn1 : 1 ≤ n) (hl : l = lw n) (hi : ((13 + n * l + k + h : Nat) : Int) < L) (hx : X (13 + n * l + k + h) = false) : pI X L n l U a (h + 1) k := by
  obtain ⟨p1, p2, p3, p4, p5, p6, p7⟩ := hp
  have e0 : (h + 1) * 2 ^ l = h * 2 ^ l + 2 ^ l := by rw [Nat.add_mul, Nat.one_mul]
  refine ⟨p1, p2, p3, ?_, fun hh => ?_, p6, fun S hS => ?_⟩
  · rw [Nat.add_mul (h + 1)]; omega
  · have e1 := hi_chunk1 U l h
    have r := p5 (Nat.le_trans (Nat.le_add_right _ _) (e0 ▸ hh))
    have hc : ct U 0 ((h + 1) * 2 ^ l) = k := by
      rw [← p3]
      exact (ct_skip (S := U) hh (fun u h1 h2 => p2 u (by omega) h2)).symm
    have hct := ct_add U 0 (h * 2 ^ l) (2 ^ l)
    rw [Nat.zero_add, ← e0, hc] at hct
    rw [hc, Nat.sub_self, List.replicate_zero, List.append_nil, e1, ← List.append_assoc, rd_app, show ct U (h * 2 ^ l) (2 ^ l) = k - ct U 0 (h * 2 ^ l) by omega]
    refine ⟨r, ?_⟩
    rw [rd_one, List.length_append, List.length_replicate, hiP_length, Nat.mul_div_cancel _ (Nat.two_pow_pos l), show 13 + n * l + (ct U 0 (h * 2 ^ l) + h + (k - ct U 0 (h * 2 ^ l))) = 13 + n * l + k + h by omega]
    exact hx
  · obtain ⟨s1, s2, s3⟩ := p7 S hS
    exact ⟨qI_zero hS hn hn1 hl s1 hi hx, s2, s3⟩
/-- of a code's set: the checks hold -/
theorem pI_ok {X : Nat → Bool} {L : Int} {n l : Nat} {U : Nat → Bool} {a h k : Nat} (hp : pI X L n l U a h k) (hn : n = bv X 0 13) (hn1 : 1 ≤ n) (hl : l = lw n) (hi : ((13 + n * l + k + h : Nat) : Int) < L) (hx : X (13 + n * l + k + h) = true) {S : Nat → Bool} (hS : isC X L (cdP S)) : k < n ∧ a ≤ h * 2 ^ l + bv X (13 + k * l) l ∧ h * 2 ^ l + bv X (13 + k * l) l < 4096 := by
  obtain ⟨p1, p2, p3, p4, p5, p6, p7⟩ := hp
  obtain ⟨s1, s2, s3⟩ := p7 S hS
  obtain ⟨o1, o2, o3, o4, o5⟩ := qI_one hS hn hn1 hl s1 hi hx
  refine ⟨o2, ?_, o3⟩
  rcases s3 with q | ⟨q1, q2, q3⟩
  · omega
  · rcases Nat.lt_or_ge (h * 2 ^ l + bv X (13 + k * l) l) a with q | q
    · have := ct_mono S 0 (show h * 2 ^ l + bv X (13 + k * l) l ≤ a - 1 by omega); omega
    · exact q
theorem pI_one {X : Nat → Bool} {L : Int} {n l : Nat} {U U2 : Nat → Bool} {a h k v : Nat} (hp : pI X L n l U a h k) (hn : n = bv X 0 13) (hn1 : 1 ≤ n) (hl : l = lw n) (hi : ((13 + n * l + k + h : Nat) : Int) < L) (hx : X (13 + n * l + k + h) = true) (hv : v = h * 2 ^ l + bv X (13 + k * l) l) (h1 : k < n) (h2 : a ≤ v) (h3 : v < 4096) (hU : ∀ u, U2 u = (U u || decide (u = v))) : pI X L n l U2 (v + 1) h (k + 1) := by
  obtain ⟨p1, p2, p3, p4, p5, p6, p7⟩ := hp
  have hlow : ∀ u, u < v → U2 u = U u := fun u hu => by rw [hU, decide_eq_false (by omega), Bool.or_false]
  have hsv : U2 v = true := by rw [hU, decide_eq_true rfl, Bool.or_true]
  have hup : ∀ u, v + 1 ≤ u → u < 4096 → U2 u = false := fun u a1 a2 => by rw [hU, decide_eq_false (by omega), Bool.or_false]; exact p2 u (by omega) a2
  have hbl := bv_lt X (13 + k * l) l
  have c1 : ct U 0 v = k := by rw [← p3]; exact (ct_skip (S := U) (show v ≤ 4096 by omega) (fun u a1 a2 => p2 u (by omega) a2)).symm
  have c2 : ct U2 0 v = k := by rw [← c1]; exact ct_congr (fun i hi => by rw [Nat.zero_add]; exact hlow i hi)
  have c3 : ct U2 0 4096 = k + 1 := by
    rw [ct_skip (S := U2) (show v + 1 ≤ 4096 by omega) hup, ct_succ, Nat.zero_add, if_pos hsv, c2]
  have l1 : loP U2 l 4096 = loP U l 4096 ++ nb v l := by
    rw [loP_skip (S := U2) (show v + 1 ≤ 4096 by omega) hup, loP_skip (S := U) (show v ≤ 4096 by omega) (fun u a1 a2 => p2 u (by omega) a2)]
    simp only [loP]
    rw [if_pos hsv, loP_cg hlow]
  refine ⟨h1, hup, c3, ?_, fun hh => ?_, ?_, fun S hS => ?_⟩
  · rw [Nat.add_mul, Nat.one_mul]; omega
  · have r := p5 hh
    have c4 : ct U2 0 (h * 2 ^ l) = ct U 0 (h * 2 ^ l) := ct_congr (fun i hi => by rw [Nat.zero_add]; exact hlow i (by omega))
    have c5 := ct_mono U2 0 (show h * 2 ^ l ≤ v by omega)
    rw [c4, hiP_cg (T := U) (fun u hu => hlow u (by omega)), show k + 1 - ct U 0 (h * 2 ^ l) = (k - ct U 0 (h * 2 ^ l)) + 1 by omega, List.replicate_succ', ← List.append_assoc, rd_app]
    refine ⟨r, ?_⟩
    rw [rd_one, List.length_append, List.length_replicate, hiP_length, Nat.mul_div_cancel _ (Nat.two_pow_pos l), show 13 + n * l + (ct U 0 (h * 2 ^ l) + h + (k - ct U 0 (h * 2 ^ l))) = 13 + n * l + k + h by omega]
    exact hx
  · rw [l1, rd_app]
    refine ⟨p6, ?_⟩
    rw [loP_length, p3]
    have := rd_bv X (13 + k * l) l
    rw [nb_congr (u := v) (v := bv X (13 + k * l) l) (n := l) (by rw [hv, Nat.mul_comm h, Nat.mul_add_mod])]
    exact this
  · obtain ⟨s1, s2, s3⟩ := p7 S hS
    obtain ⟨o1, o2, o3, o4, o5⟩ := qI_one hS hn hn1 hl s1 hi hx
    rw [← hv] at o3 o4 o5
    refine ⟨o1, fun u hu => ?_, Or.inr ⟨by omega, by rw [Nat.add_sub_cancel]; exact o4, by rw [Nat.add_sub_cancel]; omega⟩⟩
    rw [hU, s2 u hu, fk_one o4 o5]
theorem pI_end {X : Nat → Bool} {L : Int} {n l : Nat} {U : Nat → Bool} {a h : Nat} (hp : pI X L n l U a h n) (hn : n = bv X 0 13) (hn1 : 1 ≤ n) (hn2 : n ≤ 4096) (hl : l = lw n) (hL : L = ((13 + n * l + n + 4096 / 2 ^ l : Nat) : Int)) (hi : ((13 + n * l + n + h : Nat) : Int) = L) : isC X L (cdP U) := by
  obtain ⟨p1, p2, p3, p4, p5, p6, p7⟩ := hp
  obtain ⟨m, m1, m2⟩ := dv12 (l := l) (by rw [hl]; exact lw_12 hn1 hn2)
  rw [m2] at hL
  have hh : h * 2 ^ l = 4096 := by rw [m1]; congr 1; omega
  have r := p5 (by omega)
  rw [hh, p3, Nat.sub_self, List.replicate_zero, List.append_nil] at r
  refine ⟨?_, ?_⟩
  · rw [cdP_length, p3, if_neg (by omega), ← hl, m2]; exact hL
  · unfold cdP
    rw [p3, if_neg (by omega), ← hl, rd_app, rd_app, nb_length, loP_length, p3, Nat.zero_add]
    refine ⟨?_, p6, r⟩
    rw [hn]; exact rd_bv X 0 13
theorem pI_fail {X : Nat → Bool} {L : Int} {n l : Nat} {U : Nat → Bool} {a h k : Nat} (hp : pI X L n l U a h k) (hn : n = bv X 0 13) (hn1 : 1 ≤ n) (hl : l = lw n) (hi : L ≤ ((13 + n * l + k + h : Nat) : Int)) (hk : k ≠ n) (S : Nat → Bool) : ¬ isC X L (cdP S) := fun hS => by
  obtain ⟨p1, p2, p3, p4, p5, p6, p7⟩ := hp
  exact hk (qI_end hS hn hn1 hl (p7 S hS).1 hi)
theorem pI_big {X : Nat → Bool} {L : Int} (h : 4096 < bv X 0 13) (S : Nat → Bool) : ¬ isC X L (cdP S) := fun hS => by
  have := (cdP_n hS).1
  have h4 := ct_le S 0 4096
  omega
theorem pI_len {X : Nat → Bool} {L : Int} {n : Nat} (hn : n = bv X 0 13) (h : L ≠ ((if n = 0 then 13 else 13 + n * lw n + n + 4096 / 2 ^ lw n : Nat) : Int)) (S : Nat → Bool) : ¬ isC X L (cdP S) := fun hS => by
  obtain ⟨n1, n2, n3⟩ := cdP_n hS
  rw [cdP_length, ← n1, ← hn] at n2
  exact h n2
theorem pI_none {X : Nat → Bool} {L : Int} {U : Nat → Bool} (hU : ∀ u, u < 4096 → U u = false) (hn : bv X 0 13 = 0) (hL : L = 13) : isC X L (cdP U) := by
  have e1 : ct U 0 4096 = 0 := ct_zero (fun i hi => by rw [Nat.zero_add]; exact hU i hi)
  unfold cdP
  rw [e1, if_pos rfl, List.append_nil]
  refine ⟨by rw [nb_length]; exact hL, ?_⟩
  have h9 := rd_bv X 0 13
  rw [hn] at h9; exact h9
