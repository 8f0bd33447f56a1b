/-! a piece, read -/
def fm (S : Nat → Bool) (h : Nat) : Nat := if pF S (h : Int) = -1 then 3 else (pF S (h : Int)).toNat
theorem fm_3 (S : Nat → Bool) (h : Nat) : fm S h ≤ 3 := by
  have := pF_b S (h : Int)
  unfold fm; split <;> omega
theorem pS_fm {X : Nat → Bool} {P h : Nat} {S : Nat → Bool} (hr : rd X P (p1P S (h : Int))) : bv X P 2 = fm S h := by
  unfold p1P at hr
  rw [rd_app] at hr
  have h1 := bv_rd hr.1
  have h2 := fm_3 S h
  unfold fm at h2 ⊢
  rw [h1, Nat.mod_eq_of_lt]
  omega
theorem fm_F {S : Nat → Bool} {h : Nat} : (fm S h = 0 → pF S (h : Int) = 0) ∧ (fm S h = 1 → pF S (h : Int) = 1) ∧ (fm S h = 2 → pF S (h : Int) = 2) ∧ (fm S h = 3 → pF S (h : Int) = -1) := by
  have := pF_b S (h : Int)
  unfold fm
  split <;> refine ⟨?_, ?_, ?_, ?_⟩ <;> omega
theorem pN_ct (S : Nat → Bool) (h : Nat) : pN S (h : Int) = (ct S (256 * h) 256 : Nat) := by unfold pN; rw [Int.toNat_natCast]
theorem pR_ct (S : Nat → Bool) (h : Nat) : pR S (h : Int) = (ct (bg S (256 * h)) 0 256 : Nat) := by unfold pR; rw [Int.toNat_natCast]
theorem pS_0 {X : Nat → Bool} {P h : Nat} {S : Nat → Bool} (hr : rd X P (p1P S (h : Int))) (hb : bv X P 2 = 0) : rd X (P + 2 + 8) (bdP S 0 (256 * h) 256) ∧ ct S (256 * h) 256 = bv X (P + 2) 8 + 1 := by
  have hf := fm_F.1 ((pS_fm hr).symm.trans hb)
  have h1 := pF_pN (S := S) (h := (h : Int)) (by omega)
  have h2 := ct_le S (256 * h) 256
  rw [q1P_0 hf, rd_app, rd_app, List.length_append, nb_length, nb_length, Int.toNat_natCast, pN_ct, ← Nat.add_assoc] at hr
  rw [pN_ct] at h1
  have h3 := bv_rd hr.1.2
  rw [Nat.mod_eq_of_lt (by omega)] at h3
  exact ⟨hr.2, by omega⟩
theorem pS_1 {X : Nat → Bool} {P h : Nat} {S : Nat → Bool} (hr : rd X P (p1P S (h : Int))) (hb : bv X P 2 = 1) : rd X (P + 2) (bdP S 1 (256 * h) 256) := by
  have hf := fm_F.2.1 ((pS_fm hr).symm.trans hb)
  rw [q1P_1 hf, rd_app, nb_length, Int.toNat_natCast] at hr
  exact hr.2
theorem pS_2 {X : Nat → Bool} {P h : Nat} {S : Nat → Bool} (hr : rd X P (p1P S (h : Int))) (hb : bv X P 2 = 2) : rd X (P + 2 + 8) (bdP S 2 (256 * h) 256) ∧ ct (bg S (256 * h)) 0 256 = bv X (P + 2) 8 + 1 := by
  have hf := fm_F.2.2.1 ((pS_fm hr).symm.trans hb)
  have h1 := pR_1 (pF_pN (S := S) (h := (h : Int)) (by omega))
  have h2 := ct_le (bg S (256 * h)) 0 256
  rw [q1P_2 hf, rd_app, rd_app, List.length_append, nb_length, nb_length, Int.toNat_natCast, pR_ct, ← Nat.add_assoc] at hr
  rw [pR_ct] at h1
  have h3 := bv_rd hr.1.2
  rw [Nat.mod_eq_of_lt (by omega)] at h3
  exact ⟨hr.2, by omega⟩
theorem pF_none {S : Nat → Bool} {h : Nat} (hf : pF S (h : Int) = -1) (i : Nat) (hi : i < 256) : S (256 * h + i) = false := by
  have hn : pN S (h : Int) = 0 := by
    have := pN_b S (h : Int)
    unfold pF pfm at hf
    rcases (show pN S (h : Int) = 0 ∨ 1 ≤ pN S (h : Int) by omega) with q | q
    · exact q
    · rw [if_neg (by omega)] at hf; split at hf
      · omega
      · split at hf <;> omega
  rw [pN_ct] at hn
  exact ct_none (S := S) (a := 256 * h) (j := 0) (n := 256) (by omega) (Nat.zero_le _) hi
theorem pS_3 {X : Nat → Bool} {P h : Nat} {S : Nat → Bool} (hr : rd X P (p1P S (h : Int))) (hb : bv X P 2 = 3) (i : Nat) (hi : i < 256) : S (256 * h + i) = false :=
  pF_none (fm_F.2.2.2 ((pS_fm hr).symm.trans hb)) i hi
/-- what a piece's reading leaves: the set U2, the place P2 -/
def pE (X : Nat → Bool) (P h : Nat) (U0 U2 : Nat → Bool) (P2 : Nat) : Prop :=
  (∀ u, u < 256 * h → U2 u = U0 u) ∧ (∀ u, 256 * h + 256 ≤ u → u < 4096 → U2 u = false) ∧ (∀ S, rd X P (p1P S (h : Int)) → ∀ i, i < 256 → S (256 * h + i) = U2 (256 * h + i)) ∧ (bv X P 2 = fm U2 h → rd X P (p1P U2 (h : Int)) ∧ P2 = P + (p1P U2 (h : Int)).length)
theorem nb_form {X : Nat → Bool} {P k : Nat} (h : bv X P 2 = k) : rd X P (nb k 2) := by rw [← h]; exact rd_bv X P 2
theorem pE_0 {X : Nat → Bool} {P h : Nat} {U0 U2 : Nat → Bool} {P2 : Nat} (hb : bv X P 2 = 0) (hl : lE0 X (P + 2 + 8) (bv X (P + 2) 8 + 1) (256 * h) U0 U2) (hP : P2 = P + 2 + 8 + 8 * (bv X (P + 2) 8 + 1)) : pE X P h U0 U2 P2 := by
  obtain ⟨a1, a2, a3, a4, a5⟩ := hl
  refine ⟨a1, a2, fun S hS => ?_, fun hf => ?_⟩
  · obtain ⟨s1, s2⟩ := pS_0 hS hb
    exact a5 S s1 s2
  · have hf2 := fm_F.1 (hf.symm.trans hb)
    have h9 := rd_bv X (P + 2) 8
    rw [q1P_0 hf2, Int.toNat_natCast, pN_ct, a3, show (((bv X (P + 2) 8 + 1 : Nat) : Int) - 1).toNat = bv X (P + 2) 8 by omega]
    refine ⟨?_, ?_⟩
    · rw [rd_app, rd_app, List.length_append, nb_length, nb_length, ← Nat.add_assoc]
      exact ⟨⟨nb_form hb, h9⟩, a4⟩
    · rw [List.length_append, List.length_append, nb_length, nb_length, bdP_length U2 0 _ (by omega), if_neg (by omega), if_pos rfl, a3]; omega
theorem pE_1 {X : Nat → Bool} {P h : Nat} {U0 U2 : Nat → Bool} {P2 : Nat} (hb : bv X P 2 = 1) (hl : lE1 X (P + 2) (256 * h) U0 U2) (hP : P2 = P + 2 + 256) : pE X P h U0 U2 P2 := by
  obtain ⟨a1, a2, a3⟩ := hl
  refine ⟨a1, a2, fun S hS i hi => ?_, fun hf => ?_⟩
  · rw [rd_bits.mp (pS_1 hS hb) i hi, a3 i hi]
  · have hf2 := fm_F.2.1 (hf.symm.trans hb)
    rw [q1P_1 hf2, Int.toNat_natCast]
    refine ⟨?_, ?_⟩
    · rw [rd_app, nb_length]
      exact ⟨nb_form hb, rd_bits.mpr a3⟩
    · rw [List.length_append, nb_length, bdP_length U2 1 _ (by omega), if_pos rfl]; omega
theorem pE_2 {X : Nat → Bool} {P h : Nat} {U0 U2 : Nat → Bool} {P2 : Nat} (hb : bv X P 2 = 2) (hl : lE2 X (P + 2 + 8) (bv X (P + 2) 8 + 1) (256 * h) U0 U2) (hP : P2 = P + 2 + 8 + 16 * (bv X (P + 2) 8 + 1)) : pE X P h U0 U2 P2 := by
  obtain ⟨a1, a2, a3, a4, a5⟩ := hl
  refine ⟨a1, a2, fun S hS => ?_, fun hf => ?_⟩
  · obtain ⟨s1, s2⟩ := pS_2 hS hb
    exact a5 S s1 s2
  · have hf2 := fm_F.2.2.1 (hf.symm.trans hb)
    have h9 := rd_bv X (P + 2) 8
    rw [q1P_2 hf2, Int.toNat_natCast, pR_ct, a3, show (((bv X (P + 2) 8 + 1 : Nat) : Int) - 1).toNat = bv X (P + 2) 8 by omega]
    refine ⟨?_, ?_⟩
    · rw [rd_app, rd_app, List.length_append, nb_length, nb_length, ← Nat.add_assoc]
      exact ⟨⟨nb_form hb, h9⟩, a4⟩
    · rw [List.length_append, List.length_append, nb_length, nb_length, bdP_length U2 2 _ (by omega), if_neg (by omega), if_neg (by omega), a3]; omega
theorem pE_3 {X : Nat → Bool} {P h : Nat} {U0 : Nat → Bool} {P2 : Nat} (hb : bv X P 2 = 3) (hU : ∀ u, 256 * h ≤ u → u < 4096 → U0 u = false) (hh : h < 16) (hP : P2 = P + 2) : pE X P h U0 U0 P2 := by
  refine ⟨fun _ _ => rfl, fun u h1 h2 => hU u (by omega) h2, fun S hS i hi => ?_, fun hf => ?_⟩
  · rw [pS_3 hS hb i hi]; exact (hU _ (by omega) (by omega)).symm
  · have hf2 := fm_F.2.2.2 (hf.symm.trans hb)
    rw [q1P_3 hf2]
    exact ⟨nb_form hb, by rw [nb_length]; exact hP⟩
/-- gathered so far: h pieces -/
def cI (X : Nat → Bool) (L : Int) (U : Nat → Bool) (h P : Nat) : Prop :=
  (∀ u, 256 * h ≤ u → u < 4096 → U u = false) ∧ rd X 0 (pcP U h) ∧ P = (pcP U h).length ∧ (∀ S, isC X L (cdC S) → ∀ u, u < 256 * h → S u = U u)
theorem cI_0 {X : Nat → Bool} {L : Int} {U : Nat → Bool} (hU : ∀ u, u < 4096 → U u = false) : cI X L U 0 0 :=
  ⟨fun u _ h => hU u h, rd_nil, rfl, fun _ _ u hu => absurd hu (by omega)⟩
theorem pc_pre (S : Nat → Bool) {j n : Nat} (h : j ≤ n) : ∃ t, pcP S n = pcP S j ++ t := by
  obtain ⟨d, rfl⟩ : ∃ d, n = j + d := ⟨n - j, by omega⟩
  clear h
  induction d with
  | zero => exact ⟨[], by simp⟩
  | succ d ih => obtain ⟨t, ht⟩ := ih; rw [← Nat.add_assoc]; simp only [pcP]; rw [ht, List.append_assoc]; exact ⟨_, rfl⟩
theorem cI_nx {X : Nat → Bool} {L : Int} {U : Nat → Bool} {h P : Nat} (hc : cI X L U h P) (hh : h < 16) {S : Nat → Bool} (hS : isC X L (cdC S)) : rd X P (p1P S (h : Int)) := by
  obtain ⟨c1, c2, c3, c4⟩ := hc
  have e1 : pcP S h = pcP U h := pcP_cg (c4 S hS)
  obtain ⟨t, ht⟩ := pc_pre S (show h + 1 ≤ 16 by omega)
  have h2 := hS.2
  unfold cdC at h2
  rw [ht, show pcP S (h + 1) = pcP S h ++ p1P S (h : Int) from rfl, rd_app, rd_app, Nat.zero_add, e1, ← c3] at h2
  exact h2.1.2
theorem cI_step {X : Nat → Bool} {L : Int} {U U2 : Nat → Bool} {h P P2 : Nat} (hc : cI X L U h P) (hh : h < 16) (hp : pE X P h U U2 P2) (hf : bv X P 2 = fm U2 h) : cI X L U2 (h + 1) P2 := by
  have hc0 := hc
  obtain ⟨c1, c2, c3, c4⟩ := hc
  obtain ⟨p1, p2, p3, p4⟩ := hp
  obtain ⟨q1, q2⟩ := p4 hf
  have e1 : pcP U2 h = pcP U h := pcP_cg p1
  have e2 : pcP U2 (h + 1) = pcP U h ++ p1P U2 (h : Int) := by rw [← e1]; rfl
  refine ⟨fun u h1 h2 => p2 u (by omega) h2, ?_, ?_, fun S hS u hu => ?_⟩
  · rw [e2, rd_app, Nat.zero_add, ← c3]; exact ⟨c2, q1⟩
  · rw [e2, List.length_append, ← c3]; exact q2
  · rcases Nat.lt_or_ge u (256 * h) with q | q
    · rw [c4 S hS u q, p1 u q]
    · obtain ⟨i, rfl⟩ : ∃ i, u = 256 * h + i := ⟨u - 256 * h, by omega⟩
      exact p3 S (cI_nx hc0 hh hS) i (by omega)
theorem cI_bad {X : Nat → Bool} {L : Int} {U U2 : Nat → Bool} {h P P2 : Nat} (hc : cI X L U h P) (hh : h < 16) (hp : pE X P h U U2 P2) (hf : bv X P 2 ≠ fm U2 h) (S : Nat → Bool) : ¬ isC X L (cdC S) := fun hS => by
  have h1 := cI_nx hc hh hS
  have h2 := hp.2.2.1 S h1
  apply hf
  rw [pS_fm h1]
  unfold fm
  rw [pF_cg (S := S) (T := U2) (fun u hu => by rw [Int.toNat_natCast]; exact h2 u hu)]
theorem cI_no {X : Nat → Bool} {L : Int} {U : Nat → Bool} {h P : Nat} (hc : cI X L U h P) (hh : h < 16) (hn : ∀ S, ¬ rd X P (p1P S (h : Int))) (S : Nat → Bool) : ¬ isC X L (cdC S) := fun hS => hn S (cI_nx hc hh hS)
theorem cI_end {X : Nat → Bool} {L : Int} {U : Nat → Bool} {P : Nat} (hc : cI X L U 16 P) (hP : (P : Int) = L) : isC X L (cdC U) := by
  obtain ⟨c1, c2, c3, c4⟩ := hc
  exact ⟨by unfold cdC; omega, c2⟩
theorem cI_fail {X : Nat → Bool} {L : Int} {U : Nat → Bool} {P : Nat} (hc : cI X L U 16 P) (hP : (P : Int) ≠ L) (S : Nat → Bool) : ¬ isC X L (cdC S) := fun hS => by
  obtain ⟨c1, c2, c3, c4⟩ := hc
  have e1 : pcP S 16 = pcP U 16 := pcP_cg (c4 S hS)
  have h1 := hS.1
  unfold cdC at h1
  rw [e1] at h1
  omega
theorem cI_P {X : Nat → Bool} {L : Int} {U : Nat → Bool} {h P : Nat} (hc : cI X L U h P) : P ≤ 266 * h := by
  have := pcP_le U h
  rw [hc.2.2.1]; exact this
