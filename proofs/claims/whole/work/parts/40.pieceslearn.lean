def lE0 (X : Nat → Bool) (p n a : Nat) (U0 U : Nat → Bool) : Prop := (∀ u, u < a → U u = U0 u) ∧ (∀ u, a + 256 ≤ u → u < 4096 → U u = false) ∧ ct U a 256 = n ∧ rd X p (bdP U 0 a 256) ∧ (∀ S, rd X p (bdP S 0 a 256) → ct S a 256 = n → ∀ i, i < 256 → S (a + i) = U (a + i))
def lE1 (X : Nat → Bool) (p a : Nat) (U0 U : Nat → Bool) : Prop := (∀ u, u < a → U u = U0 u) ∧ (∀ u, a + 256 ≤ u → u < 4096 → U u = false) ∧ (∀ i, i < 256 → U (a + i) = X (p + i))
def lE2 (X : Nat → Bool) (p n a : Nat) (U0 U : Nat → Bool) : Prop := (∀ u, u < a → U u = U0 u) ∧ (∀ u, a + 256 ≤ u → u < 4096 → U u = false) ∧ ct (bg U a) 0 256 = n ∧ rd X p (bdP U 2 a 256) ∧ (∀ S, rd X p (bdP S 2 a 256) → ct (bg S a) 0 256 = n → ∀ i, i < 256 → S (a + i) = U (a + i))
def bI1 (X : Nat → Bool) (p a : Nat) (U0 U : Nat → Bool) (j : Nat) : Prop := (∀ u, u < a → U u = U0 u) ∧ (∀ u, a + j ≤ u → u < 4096 → U u = false) ∧ (∀ i, i < j → U (a + i) = X (p + i))
theorem bI1_0 {X : Nat → Bool} {p a : Nat} {U : Nat → Bool} (hU : ∀ u, a ≤ u → u < 4096 → U u = false) : bI1 X p a U U 0 := ⟨fun _ _ => rfl, fun u h1 h2 => hU u (by omega) h2, fun i hi => absurd hi (by omega)⟩
theorem bI1_no {X : Nat → Bool} {p a : Nat} {U0 U : Nat → Bool} {j : Nat} (h : bI1 X p a U0 U j) (hj : a + j < 4096) (hx : X (p + j) = false) : bI1 X p a U0 U (j + 1) := by
  refine ⟨h.1, fun u h1 h2 => h.2.1 u (by omega) h2, fun i hi => ?_⟩
  rcases (show i < j ∨ i = j by omega) with q | q
  · exact h.2.2 i q
  · rw [q, hx]; exact h.2.1 _ (by omega) (by omega)
theorem bI1_yes {X : Nat → Bool} {p a : Nat} {U0 U U2 : Nat → Bool} {j : Nat} (h : bI1 X p a U0 U j) (hx : X (p + j) = true) (hU : ∀ u, U2 u = (U u || decide (u = a + j))) : bI1 X p a U0 U2 (j + 1) := by
  refine ⟨fun u hu => by rw [hU, decide_eq_false (by omega), Bool.or_false]; exact h.1 u hu, fun u h1 h2 => by rw [hU, decide_eq_false (by omega), Bool.or_false]; exact h.2.1 u (by omega) h2, fun i hi => ?_⟩
  rcases (show i < j ∨ i = j by omega) with q | q
  · rw [hU, decide_eq_false (by omega), Bool.or_false]; exact h.2.2 i q
  · rw [q, hx, hU, decide_eq_true rfl, Bool.or_true]
set_option maxHeartbeats 4000000 in
set_option maxRecDepth 100000 in
theorem c3_learnList (l : Launch) (D : va_G) (K : Nat → ClassId) {w : hm_M} {t tw qn wn a P : Nat} {tf f0 : Nat → Int32} {L : Int} (ha : a % 256 = 0) (ha2 : a + 256 ≤ 4096) (hPb : P < 900000) (hU0 : ∀ u, a ≤ u → u < 4096 → mem f0 u = false) (ht : tAt K w t tw tf L ((P : Nat) : Int)) (hn : nAt K w qn wn f0) (hL0 : 0 ≤ L) (hL1 : L ≤ 8210)  : hm_Ci l D K yX3_learnList cX3_learnList 7 .boolean 4 [.ref (t), .ref (qn), .int (iI (((a : Nat) : Int)))] w 0 0 (fun r w2 => ∃ (y : Bool) (f2 : Nat → Int32) (P2 : Nat), r = bI y ∧ w2 = uM K w t tw wn tf L ((P2 : Nat) : Int) f2 ∧ P2 ≤ P + 2064 ∧ (y = true → lE0 (tb tf L) (P + 8) (bv (tb tf L) P 8 + 1) a (mem f0) (mem f2) ∧ P2 = P + 8 + 8 * (bv (tb tf L) P 8 + 1)) ∧ (y = false → ∀ S, rd (tb tf L) (P + 8) (bdP S 0 a 256) → ct S a 256 = bv (tb tf L) P 8 + 1 → False)) := by
  refine hm_enterI (by decide) (Nat.le_of_ble_eq_true rfl) ?_
  intro p e s m args below meth c E hr hnm
  show hm_V p l e (hm_rm 4 0 0) s m args below meth c D (hm_A w s.heap.size) 7 0 0 (MQ below (hm_Qi D w s.heap.size (fun r w2 => ∃ (y : Bool) (f2 : Nat → Int32) (P2 : Nat), r = bI y ∧ w2 = uM K w t tw wn tf L ((P2 : Nat) : Int) f2 ∧ P2 ≤ P + 2064 ∧ (y = true → lE0 (tb tf L) (P + 8) (bv (tb tf L) P 8 + 1) a (mem f0) (mem f2) ∧ P2 = P + 8 + 8 * (bv (tb tf L) P 8 + 1)) ∧ (y = false → ∀ S, rd (tb tf L) (P + 8) (bdP S 0 a 256) → ct S a 256 = bv (tb tf L) P 8 + 1 → False))) args s 0 0 (hm_A w s.heap.size)) w 0 [(0, .ref (t)), (1, .ref (qn)), (2, .int (iI (((a : Nat) : Int))))] []
  refine hv_mem (show w = uM K w t tw wn tf L (((P : Nat) : Int)) f0 from uM_id ht hn) ?_
  have hT : tAt K (uM K w t tw wn tf L (((P : Nat) : Int)) f0) t tw tf L (((P : Nat) : Int)) := tAt_uM ht hn
  have hN : nAt K (uM K w t tw wn tf L (((P : Nat) : Int)) f0) qn wn f0 := nAt_uM ht hn
  refine hv_aload_n E dX3_learnList_0 rfl 0 rfl rfl ?_
  refine hv_bipush E dX3_learnList_1 (by decide +kernel) rfl ?_
  refine hv_callVI (na := 1) (As := [.int (iI (8))]) (st := []) E (c4_take l D K (8) (by omega) (by omega) (by omega) (by omega) hT hL0 hL1) dX3_learnList_3 hT.1 (show vwCl[3]? = some (RX4, TX4, 3) from rfl) gL_X3_49 gV_X4_take gI_X4_take gC_X4_take gZ_X4 (by decide +kernel) rfl ⟨Nat.le_of_ble_eq_true rfl, Nat.le_of_ble_eq_true rfl⟩ (Nat.le_of_ble_eq_true rfl) ⟨Nat.zero_le _, Nat.zero_le _⟩ rfl rfl (fun r w2 hp => ?_)
  rw [uM_tM ht hn, show (((P : Nat) : Int) + 8) = ((P + 8 : Nat) : Int) by omega, Int.toNat_natCast] at hp
  rw [show (8 : Int).toNat = 8 by omega] at hp
  obtain ⟨NB, hNB⟩ : ∃ zz, zz = bv (tb tf L) (P) (8) := ⟨_, rfl⟩
  have hNBb := bv_lt (tb tf L) (P) (8)
  rw [← hNB] at hp hNBb
  rw [hp.1, hp.2]
  show hm_V p l e (hm_rm 4 0 0) s m args below meth c D (hm_A w s.heap.size) 7 0 0 (MQ below (hm_Qi D w s.heap.size (fun r w2 => ∃ (y : Bool) (f2 : Nat → Int32) (P2 : Nat), r = bI y ∧ w2 = uM K w t tw wn tf L ((P2 : Nat) : Int) f2 ∧ P2 ≤ P + 2064 ∧ (y = true → lE0 (tb tf L) (P + 8) (bv (tb tf L) P 8 + 1) a (mem f0) (mem f2) ∧ P2 = P + 8 + 8 * (bv (tb tf L) P 8 + 1)) ∧ (y = false → ∀ S, rd (tb tf L) (P + 8) (bdP S 0 a 256) → ct S a 256 = bv (tb tf L) P 8 + 1 → False))) args s 0 0 (hm_A w s.heap.size)) (uM K w t tw wn tf L (((P + 8 : Nat) : Int)) f0) 6 [(0, .ref (t)), (1, .ref (qn)), (2, .int (iI (((a : Nat) : Int))))] [.int (iI ((NB : Int)))]
  refine hv_iconst E dX3_learnList_6 rfl ?_
  refine hv_iadd E dX3_learnList_7 rfl ?_
  refine hv_istore_n (lv2 := [(3, .int (iI (((NB : Int)) + 1))), (0, .ref (t)), (1, .ref (qn)), (2, .int (iI (((a : Nat) : Int))))]) E dX3_learnList_8 rfl (by decide) rfl rfl ?_
  refine hv_iconst E dX3_learnList_9 rfl ?_
  refine hv_istore (lv2 := [(4, .int (iI ((-1)))), (3, .int (iI (((NB : Int)) + 1))), (0, .ref (t)), (1, .ref (qn)), (2, .int (iI (((a : Nat) : Int))))]) E dX3_learnList_10 (by decide) rfl rfl ?_
  refine hv_iconst E dX3_learnList_12 rfl ?_
  refine hv_istore (lv2 := [(5, .int (iI (0))), (4, .int (iI ((-1)))), (3, .int (iI (((NB : Int)) + 1))), (0, .ref (t)), (1, .ref (qn)), (2, .int (iI (((a : Nat) : Int))))]) E dX3_learnList_13 (by decide) rfl rfl ?_
  rw [show ((P + 8 : Nat) : Int) = ((P + 8 + 8 * 0 : Nat) : Int) from rfl]
  show hm_V p l e (hm_rm 4 0 0) s m args below meth c D (hm_A w s.heap.size) 7 0 0 (MQ below (hm_Qi D w s.heap.size (fun r w2 => ∃ (y : Bool) (f2 : Nat → Int32) (P2 : Nat), r = bI y ∧ w2 = uM K w t tw wn tf L ((P2 : Nat) : Int) f2 ∧ P2 ≤ P + 2064 ∧ (y = true → lE0 (tb tf L) (P + 8) (bv (tb tf L) P 8 + 1) a (mem f0) (mem f2) ∧ P2 = P + 8 + 8 * (bv (tb tf L) P 8 + 1)) ∧ (y = false → ∀ S, rd (tb tf L) (P + 8) (bdP S 0 a 256) → ct S a 256 = bv (tb tf L) P 8 + 1 → False))) args s 0 0 (hm_A w s.heap.size)) (uM K w t tw wn tf L (((P + 8 + 8 * 0 : Nat) : Int)) f0) 15 [(5, .int (iI (((0 : Nat) : Int)))), (4, .int (iI (((0 : Nat) : Int) - 1))), (3, .int (iI (((NB : Int)) + 1))), (0, .ref (t)), (1, .ref (qn)), (2, .int (iI (((a : Nat) : Int))))] []
  have LP : ∀ (k : Nat) (kk j : Nat) (f : Nat → Int32), (((NB : Int) + 1) - kk < (k : Int)) → (kk ≤ NB + 1) → (lI (tb tf L) (P + 8) (NB + 1) a (mem f0) (mem f) j kk) → hm_V p l e (hm_rm 4 0 0) s m args below meth c D (hm_A w s.heap.size) 7 0 0 (MQ below (hm_Qi D w s.heap.size (fun r w2 => ∃ (y : Bool) (f2 : Nat → Int32) (P2 : Nat), r = bI y ∧ w2 = uM K w t tw wn tf L ((P2 : Nat) : Int) f2 ∧ P2 ≤ P + 2064 ∧ (y = true → lE0 (tb tf L) (P + 8) (bv (tb tf L) P 8 + 1) a (mem f0) (mem f2) ∧ P2 = P + 8 + 8 * (bv (tb tf L) P 8 + 1)) ∧ (y = false → ∀ S, rd (tb tf L) (P + 8) (bdP S 0 a 256) → ct S a 256 = bv (tb tf L) P 8 + 1 → False))) args s 0 0 (hm_A w s.heap.size)) (uM K w t tw wn tf L (((P + 8 + 8 * kk : Nat) : Int)) f) 15 [(5, .int (iI ((kk : Int)))), (4, .int (iI ((j : Int) - 1))), (3, .int (iI ((NB : Int) + 1))), (0, .ref (t)), (1, .ref (qn)), (2, .int (iI (((a : Nat) : Int))))] [] := by
    intro k
    induction k with
    | zero =>
      intro kk j f hk k1 hl
      exact absurd hk (by omega)
    | succ k ih =>
      intro kk j f hk k1 hl
      clear hT hN
      have hT : tAt K (uM K w t tw wn tf L (((P + 8 + 8 * kk : Nat) : Int)) f) t tw tf L (((P + 8 + 8 * kk : Nat) : Int)) := tAt_uM ht hn
      have hN : nAt K (uM K w t tw wn tf L (((P + 8 + 8 * kk : Nat) : Int)) f) qn wn f := nAt_uM ht hn
      have hj256 := hl.1
      refine hv_iload E dX3_learnList_15 0 rfl rfl ?_
      refine hv_iload_n E dX3_learnList_17 rfl 2 rfl rfl ?_
      refine hv_icmp_ge E 56 dX3_learnList_18 (by decide) ⟨by omega, by omega⟩ ⟨by omega, by omega⟩ rfl (fun c1 => ?_) (fun c1 => ?_)
      · refine hv_iconst E dX3_learnList_56 rfl ?_
        refine hv_topi (show iI (1) = bI (true) from rfl) ?_
        have hkk : kk = NB + 1 := by omega
        rw [hkk] at hl
        exact hv_zret E dX3_learnList_57 hr ⟨true, f, _, rfl, rfl, by omega, fun _ => ⟨by rw [← hNB]; exact lI_end hl ha2, by rw [← hNB, hkk]⟩, fun h => (by cases h)⟩
      · refine hv_aload_n E dX3_learnList_21 rfl 3 rfl rfl ?_
        refine hv_bipush E dX3_learnList_22 (by decide +kernel) rfl ?_
        refine hv_callVI (na := 1) (As := [.int (iI (8))]) (st := []) E (c4_take l D K (8) (by omega) (by omega) (by omega) (by omega) hT hL0 hL1) dX3_learnList_24 hT.1 (show vwCl[3]? = some (RX4, TX4, 3) from rfl) gL_X3_49 gV_X4_take gI_X4_take gC_X4_take gZ_X4 (by decide +kernel) rfl ⟨Nat.le_of_ble_eq_true rfl, Nat.le_of_ble_eq_true rfl⟩ (Nat.le_of_ble_eq_true rfl) ⟨Nat.zero_le _, Nat.zero_le _⟩ rfl rfl (fun r w2 hp => ?_)
        rw [uM_tM ht hn, show (((P + 8 + 8 * kk : Nat) : Int) + 8) = ((P + 8 + 8 * kk + 8 : Nat) : Int) by omega, Int.toNat_natCast] at hp
        rw [show (8 : Int).toNat = 8 by omega] at hp
        obtain ⟨B, hB⟩ : ∃ zz, zz = bv (tb tf L) (P + 8 + 8 * kk) (8) := ⟨_, rfl⟩
        have hBb := bv_lt (tb tf L) (P + 8 + 8 * kk) (8)
        rw [← hB] at hp hBb
        rw [hp.1, hp.2]
        show hm_V p l e (hm_rm 4 0 0) s m args below meth c D (hm_A w s.heap.size) 7 0 0 (MQ below (hm_Qi D w s.heap.size (fun r w2 => ∃ (y : Bool) (f2 : Nat → Int32) (P2 : Nat), r = bI y ∧ w2 = uM K w t tw wn tf L ((P2 : Nat) : Int) f2 ∧ P2 ≤ P + 2064 ∧ (y = true → lE0 (tb tf L) (P + 8) (bv (tb tf L) P 8 + 1) a (mem f0) (mem f2) ∧ P2 = P + 8 + 8 * (bv (tb tf L) P 8 + 1)) ∧ (y = false → ∀ S, rd (tb tf L) (P + 8) (bdP S 0 a 256) → ct S a 256 = bv (tb tf L) P 8 + 1 → False))) args s 0 0 (hm_A w s.heap.size)) (uM K w t tw wn tf L (((P + 8 + 8 * kk + 8 : Nat) : Int)) f) 27 [(5, .int (iI ((kk : Int)))), (4, .int (iI ((j : Int) - 1))), (3, .int (iI ((NB : Int) + 1))), (0, .ref (t)), (1, .ref (qn)), (2, .int (iI (((a : Nat) : Int))))] [.int (iI ((B : Int)))]
        refine hv_istore (lv2 := [(6, .int (iI ((B : Int)))), (5, .int (iI ((kk : Int)))), (4, .int (iI ((j : Int) - 1))), (3, .int (iI ((NB : Int) + 1))), (0, .ref (t)), (1, .ref (qn)), (2, .int (iI (((a : Nat) : Int))))]) E dX3_learnList_27 (by decide) rfl rfl ?_
        refine hv_iload E dX3_learnList_29 0 rfl rfl ?_
        refine hv_iload E dX3_learnList_31 2 rfl rfl ?_
        refine hv_icmp_gt E 38 dX3_learnList_33 (by decide) ⟨by omega, by omega⟩ ⟨by omega, by omega⟩ rfl (fun c2 => ?_) (fun c2 => ?_)
        · clear hT hN
          have hT : tAt K (uM K w t tw wn tf L (((P + 8 + 8 * kk + 8 : Nat) : Int)) f) t tw tf L (((P + 8 + 8 * kk + 8 : Nat) : Int)) := tAt_uM ht hn
          have hN : nAt K (uM K w t tw wn tf L (((P + 8 + 8 * kk + 8 : Nat) : Int)) f) qn wn f := nAt_uM ht hn
          refine hv_aload_n E dX3_learnList_38 rfl 5 rfl rfl ?_
          refine hv_iload_n E dX3_learnList_39 rfl 6 rfl rfl ?_
          refine hv_iload E dX3_learnList_40 0 rfl rfl ?_
          refine hv_iadd E dX3_learnList_42 rfl ?_
          refine hv_callVV (na := 1) (As := [.int (iI ((((a : Nat) : Int)) + ((B : Int))))]) (st := []) E (c2_add l D K (((a : Nat) : Int) + (B : Int)) (by omega) (by omega) hN) dX3_learnList_43 hN.1 (show vwCl[1]? = some (RX2, TX2, 1) from rfl) gL_X3_74 gV_X2_add gI_X2_add gC_X2_add gZ_X2 (by decide +kernel) rfl ⟨Nat.le_of_ble_eq_true rfl, Nat.le_of_ble_eq_true rfl⟩ (Nat.le_of_ble_eq_true rfl) ⟨Nat.zero_le _, Nat.zero_le _⟩ rfl rfl (fun w2 hp => ?_)
          obtain ⟨f2, e3, hf2⟩ := hp
          rw [uM_up] at e3
          rw [e3, show P + 8 + 8 * kk + 8 = P + 8 + 8 * (kk + 1) by omega]
          show hm_V p l e (hm_rm 4 0 0) s m args below meth c D (hm_A w s.heap.size) 7 0 0 (MQ below (hm_Qi D w s.heap.size (fun r w2 => ∃ (y : Bool) (f2 : Nat → Int32) (P2 : Nat), r = bI y ∧ w2 = uM K w t tw wn tf L ((P2 : Nat) : Int) f2 ∧ P2 ≤ P + 2064 ∧ (y = true → lE0 (tb tf L) (P + 8) (bv (tb tf L) P 8 + 1) a (mem f0) (mem f2) ∧ P2 = P + 8 + 8 * (bv (tb tf L) P 8 + 1)) ∧ (y = false → ∀ S, rd (tb tf L) (P + 8) (bdP S 0 a 256) → ct S a 256 = bv (tb tf L) P 8 + 1 → False))) args s 0 0 (hm_A w s.heap.size)) (uM K w t tw wn tf L (((P + 8 + 8 * (kk + 1) : Nat) : Int)) f2) 46 [(6, .int (iI ((B : Int)))), (5, .int (iI ((kk : Int)))), (4, .int (iI ((j : Int) - 1))), (3, .int (iI ((NB : Int) + 1))), (0, .ref (t)), (1, .ref (qn)), (2, .int (iI (((a : Nat) : Int))))] []
          have hst := lI_step (U2 := mem f2) hl ha ha2 (by omega) hB (by omega) (fun u => by rw [hf2 u, show (((a : Nat) : Int) + (B : Int)).toNat = a + B by omega])
          refine hv_iload E dX3_learnList_46 0 rfl rfl ?_
          refine hv_istore (lv2 := [(4, .int (iI ((B : Int)))), (6, .int (iI ((B : Int)))), (5, .int (iI ((kk : Int)))), (3, .int (iI ((NB : Int) + 1))), (0, .ref (t)), (1, .ref (qn)), (2, .int (iI (((a : Nat) : Int))))]) E dX3_learnList_48 (by decide) rfl rfl ?_
          refine hv_iinc (lv2 := [(5, .int (iI (((kk : Int)) + 1))), (4, .int (iI ((B : Int)))), (6, .int (iI ((B : Int)))), (3, .int (iI ((NB : Int) + 1))), (0, .ref (t)), (1, .ref (qn)), (2, .int (iI (((a : Nat) : Int))))]) E dX3_learnList_50 2 rfl rfl (by decide) rfl rfl ?_
          refine hv_goto E 15 dX3_learnList_53 (by decide) ?_
          rw [show (B : Int) = ((B + 1 : Nat) : Int) - 1 by omega]
          show hm_V p l e (hm_rm 4 0 0) s m args below meth c D (hm_A w s.heap.size) 7 0 0 (MQ below (hm_Qi D w s.heap.size (fun r w2 => ∃ (y : Bool) (f2 : Nat → Int32) (P2 : Nat), r = bI y ∧ w2 = uM K w t tw wn tf L ((P2 : Nat) : Int) f2 ∧ P2 ≤ P + 2064 ∧ (y = true → lE0 (tb tf L) (P + 8) (bv (tb tf L) P 8 + 1) a (mem f0) (mem f2) ∧ P2 = P + 8 + 8 * (bv (tb tf L) P 8 + 1)) ∧ (y = false → ∀ S, rd (tb tf L) (P + 8) (bdP S 0 a 256) → ct S a 256 = bv (tb tf L) P 8 + 1 → False))) args s 0 0 (hm_A w s.heap.size)) (uM K w t tw wn tf L (((P + 8 + 8 * (kk + 1) : Nat) : Int)) f2) 15 [(5, .int (iI (((kk + 1 : Nat) : Int)))), (4, .int (iI (((B + 1 : Nat) : Int) - 1))), (6, .int (iI (((B + 1 : Nat) : Int) - 1))), (3, .int (iI ((NB : Int) + 1))), (0, .ref (t)), (1, .ref (qn)), (2, .int (iI (((a : Nat) : Int))))] []
          refine hv_sub (lv2 := [(5, .int (iI (((kk + 1 : Nat) : Int)))), (4, .int (iI (((B + 1 : Nat) : Int) - 1))), (3, .int (iI ((NB : Int) + 1))), (0, .ref (t)), (1, .ref (qn)), (2, .int (iI (((a : Nat) : Int))))]) [0, 1, 3, 4, 5, 6] rfl ?_
          exact ih (kk + 1) (B + 1) f2 (by omega) (by omega) hst
        · refine hv_iconst E dX3_learnList_36 rfl ?_
          refine hv_topi (show iI (0) = bI (false) from rfl) ?_
          exact hv_zret E dX3_learnList_37 hr ⟨false, _, _, rfl, rfl, by omega, fun h => (by cases h), fun _ S h1 h2 => (by
                have h9 := (lI_nx hl ha (by omega) h1 (by rw [hNB]; exact h2)).1
                rw [← hB] at h9
                omega)⟩
  refine hv_sub (lv2 := [(5, .int (iI (((0 : Nat) : Int)))), (4, .int (iI (((0 : Nat) : Int) - 1))), (3, .int (iI (((NB : Int)) + 1))), (0, .ref (t)), (1, .ref (qn)), (2, .int (iI (((a : Nat) : Int))))]) [0, 1, 2, 3, 4, 5] rfl ?_
  exact LP (NB + 2) 0 0 f0 (by omega) (by omega) (lI_0 hU0)
set_option maxHeartbeats 4000000 in
set_option maxRecDepth 100000 in
theorem c3_learnBits (l : Launch) (D : va_G) (K : Nat → ClassId) {w : hm_M} {t tw qn wn a P : Nat} {tf f0 : Nat → Int32} {L : Int} (ha : a % 256 = 0) (ha2 : a + 256 ≤ 4096) (hPb : P < 900000) (hU0 : ∀ u, a ≤ u → u < 4096 → mem f0 u = false) (ht : tAt K w t tw tf L ((P : Nat) : Int)) (hn : nAt K w qn wn f0) (hL0 : 0 ≤ L) (hL1 : L ≤ 8210)  : hm_Cv l D K yX3_learnBits cX3_learnBits 4 4 [.ref (t), .ref (qn), .int (iI (((a : Nat) : Int)))] w 0 0 (fun w2 => ∃ f2 : Nat → Int32, w2 = uM K w t tw wn tf L ((P + 256 : Nat) : Int) f2 ∧ lE1 (tb tf L) P a (mem f0) (mem f2)) := by
  refine hm_enterV (by decide) (Nat.le_of_ble_eq_true rfl) ?_
  intro p e s m args below meth c E hr hnm
  show hm_V p l e (hm_rm 4 0 0) s m args below meth c D (hm_A w s.heap.size) 4 0 0 (MQ below (hm_Qv D w s.heap.size (fun w2 => ∃ f2 : Nat → Int32, w2 = uM K w t tw wn tf L ((P + 256 : Nat) : Int) f2 ∧ lE1 (tb tf L) P a (mem f0) (mem f2))) args s 0 0 (hm_A w s.heap.size)) w 0 [(0, .ref (t)), (1, .ref (qn)), (2, .int (iI (((a : Nat) : Int))))] []
  refine hv_mem (show w = uM K w t tw wn tf L (((P : Nat) : Int)) f0 from uM_id ht hn) ?_
  have hT : tAt K (uM K w t tw wn tf L (((P : Nat) : Int)) f0) t tw tf L (((P : Nat) : Int)) := tAt_uM ht hn
  have hN : nAt K (uM K w t tw wn tf L (((P : Nat) : Int)) f0) qn wn f0 := nAt_uM ht hn
  refine hv_iconst E dX3_learnBits_0 rfl ?_
  refine hv_istore_n (lv2 := [(3, .int (iI (0))), (0, .ref (t)), (1, .ref (qn)), (2, .int (iI (((a : Nat) : Int))))]) E dX3_learnBits_1 rfl (by decide) rfl rfl ?_
  rw [show ((P : Nat) : Int) = ((P + 0 : Nat) : Int) from rfl]
  show hm_V p l e (hm_rm 4 0 0) s m args below meth c D (hm_A w s.heap.size) 4 0 0 (MQ below (hm_Qv D w s.heap.size (fun w2 => ∃ f2 : Nat → Int32, w2 = uM K w t tw wn tf L ((P + 256 : Nat) : Int) f2 ∧ lE1 (tb tf L) P a (mem f0) (mem f2))) args s 0 0 (hm_A w s.heap.size)) (uM K w t tw wn tf L (((P + 0 : Nat) : Int)) f0) 2 [(3, .int (iI (((0 : Nat) : Int)))), (0, .ref (t)), (1, .ref (qn)), (2, .int (iI (((a : Nat) : Int))))] []
  have LP : ∀ (k : Nat) (j : Nat) (f : Nat → Int32), ((256 : Int) - j < (k : Int)) → (j ≤ 256) → (bI1 (tb tf L) P a (mem f0) (mem f) j) → hm_V p l e (hm_rm 4 0 0) s m args below meth c D (hm_A w s.heap.size) 4 0 0 (MQ below (hm_Qv D w s.heap.size (fun w2 => ∃ f2 : Nat → Int32, w2 = uM K w t tw wn tf L ((P + 256 : Nat) : Int) f2 ∧ lE1 (tb tf L) P a (mem f0) (mem f2))) args s 0 0 (hm_A w s.heap.size)) (uM K w t tw wn tf L (((P + j : Nat) : Int)) f) 2 [(3, .int (iI ((j : Int)))), (0, .ref (t)), (1, .ref (qn)), (2, .int (iI (((a : Nat) : Int))))] [] := by
    intro k
    induction k with
    | zero =>
      intro j f hk j1 hl
      exact absurd hk (by omega)
    | succ k ih =>
      intro j f hk j1 hl
      clear hT hN
      have hT : tAt K (uM K w t tw wn tf L (((P + j : Nat) : Int)) f) t tw tf L (((P + j : Nat) : Int)) := tAt_uM ht hn
      have hN : nAt K (uM K w t tw wn tf L (((P + j : Nat) : Int)) f) qn wn f := nAt_uM ht hn
      refine hv_iload_n E dX3_learnBits_2 rfl 0 rfl rfl ?_
      refine hv_sipush E dX3_learnBits_3 (by decide +kernel) rfl ?_
      refine hv_icmp_ge E 31 dX3_learnBits_6 (by decide) ⟨by omega, by omega⟩ ⟨by omega, by omega⟩ rfl (fun c1 => ?_) (fun c1 => ?_)
      · have hj : j = 256 := by omega
        subst hj
        exact hv_vret E dX3_learnBits_31 hr ⟨f, rfl, hl⟩
      · refine hv_aload_n E dX3_learnBits_9 rfl 1 rfl rfl ?_
        refine hv_iconst E dX3_learnBits_10 rfl ?_
        refine hv_callVI (na := 1) (As := [.int (iI (1))]) (st := []) E (c4_take l D K (1) (by omega) (by omega) (by omega) (by omega) hT hL0 hL1) dX3_learnBits_11 hT.1 (show vwCl[3]? = some (RX4, TX4, 3) from rfl) gL_X3_49 gV_X4_take gI_X4_take gC_X4_take gZ_X4 (by decide +kernel) rfl ⟨Nat.le_of_ble_eq_true rfl, Nat.le_of_ble_eq_true rfl⟩ (Nat.le_of_ble_eq_true rfl) ⟨Nat.zero_le _, Nat.zero_le _⟩ rfl rfl (fun r w2 hp => ?_)
        rw [uM_tM ht hn, show (((P + j : Nat) : Int) + 1) = ((P + j + 1 : Nat) : Int) by omega, Int.toNat_natCast] at hp
        rw [show (1 : Int).toNat = 1 by omega] at hp
        obtain ⟨B, hB⟩ : ∃ zz, zz = bv (tb tf L) (P + j) (1) := ⟨_, rfl⟩
        have hBb := bv_lt (tb tf L) (P + j) (1)
        rw [← hB] at hp hBb
        rw [hp.1, hp.2]
        show hm_V p l e (hm_rm 4 0 0) s m args below meth c D (hm_A w s.heap.size) 4 0 0 (MQ below (hm_Qv D w s.heap.size (fun w2 => ∃ f2 : Nat → Int32, w2 = uM K w t tw wn tf L ((P + 256 : Nat) : Int) f2 ∧ lE1 (tb tf L) P a (mem f0) (mem f2))) args s 0 0 (hm_A w s.heap.size)) (uM K w t tw wn tf L (((P + j + 1 : Nat) : Int)) f) 14 [(3, .int (iI ((j : Int)))), (0, .ref (t)), (1, .ref (qn)), (2, .int (iI (((a : Nat) : Int))))] [.int (iI ((B : Int)))]
        rw [bv_1] at hB
        rw [show (2 : Nat) ^ 1 = 2 from rfl] at hBb
        refine hv_iconst E dX3_learnBits_14 rfl ?_
        refine hv_icmp_ne E 25 dX3_learnBits_15 (by decide) ⟨by omega, by omega⟩ ⟨by omega, by omega⟩ rfl (fun c2 => ?_) (fun c2 => ?_)
        · refine hv_iinc (lv2 := [(3, .int (iI (((j : Int)) + 1))), (0, .ref (t)), (1, .ref (qn)), (2, .int (iI (((a : Nat) : Int))))]) E dX3_learnBits_25 0 rfl rfl (by decide) rfl rfl ?_
          refine hv_goto E 2 dX3_learnBits_28 (by decide) ?_
          rw [show P + j + 1 = P + (j + 1) by omega]
          show hm_V p l e (hm_rm 4 0 0) s m args below meth c D (hm_A w s.heap.size) 4 0 0 (MQ below (hm_Qv D w s.heap.size (fun w2 => ∃ f2 : Nat → Int32, w2 = uM K w t tw wn tf L ((P + 256 : Nat) : Int) f2 ∧ lE1 (tb tf L) P a (mem f0) (mem f2))) args s 0 0 (hm_A w s.heap.size)) (uM K w t tw wn tf L (((P + (j + 1) : Nat) : Int)) f) 2 [(3, .int (iI (((j + 1 : Nat) : Int)))), (0, .ref (t)), (1, .ref (qn)), (2, .int (iI (((a : Nat) : Int))))] []
          refine hv_sub (lv2 := [(3, .int (iI (((j + 1 : Nat) : Int)))), (0, .ref (t)), (1, .ref (qn)), (2, .int (iI (((a : Nat) : Int))))]) [0, 1, 2, 3] rfl ?_
          exact ih (j + 1) f (by omega) (by omega) (bI1_no hl (by omega) (by
                by_cases hx : tb tf L (P + j) = true
                · rw [if_pos hx] at hB; omega
                · exact eq_false_of_ne_true hx))
        · clear hT hN
          have hT : tAt K (uM K w t tw wn tf L (((P + j + 1 : Nat) : Int)) f) t tw tf L (((P + j + 1 : Nat) : Int)) := tAt_uM ht hn
          have hN : nAt K (uM K w t tw wn tf L (((P + j + 1 : Nat) : Int)) f) qn wn f := nAt_uM ht hn
          refine hv_aload_n E dX3_learnBits_18 rfl 2 rfl rfl ?_
          refine hv_iload_n E dX3_learnBits_19 rfl 3 rfl rfl ?_
          refine hv_iload_n E dX3_learnBits_20 rfl 0 rfl rfl ?_
          refine hv_iadd E dX3_learnBits_21 rfl ?_
          refine hv_callVV (na := 1) (As := [.int (iI ((((a : Nat) : Int)) + ((j : Int))))]) (st := []) E (c2_add l D K (((a : Nat) : Int) + (j : Int)) (by omega) (by omega) hN) dX3_learnBits_22 hN.1 (show vwCl[1]? = some (RX2, TX2, 1) from rfl) gL_X3_74 gV_X2_add gI_X2_add gC_X2_add gZ_X2 (by decide +kernel) rfl ⟨Nat.le_of_ble_eq_true rfl, Nat.le_of_ble_eq_true rfl⟩ (Nat.le_of_ble_eq_true rfl) ⟨Nat.zero_le _, Nat.zero_le _⟩ rfl rfl (fun w2 hp => ?_)
          obtain ⟨f2, e3, hf2⟩ := hp
          rw [uM_up] at e3
          rw [e3]
          show hm_V p l e (hm_rm 4 0 0) s m args below meth c D (hm_A w s.heap.size) 4 0 0 (MQ below (hm_Qv D w s.heap.size (fun w2 => ∃ f2 : Nat → Int32, w2 = uM K w t tw wn tf L ((P + 256 : Nat) : Int) f2 ∧ lE1 (tb tf L) P a (mem f0) (mem f2))) args s 0 0 (hm_A w s.heap.size)) (uM K w t tw wn tf L (((P + j + 1 : Nat) : Int)) f2) 25 [(3, .int (iI ((j : Int)))), (0, .ref (t)), (1, .ref (qn)), (2, .int (iI (((a : Nat) : Int))))] []
          refine hv_iinc (lv2 := [(3, .int (iI (((j : Int)) + 1))), (0, .ref (t)), (1, .ref (qn)), (2, .int (iI (((a : Nat) : Int))))]) E dX3_learnBits_25 0 rfl rfl (by decide) rfl rfl ?_
          refine hv_goto E 2 dX3_learnBits_28 (by decide) ?_
          rw [show P + j + 1 = P + (j + 1) by omega]
          show hm_V p l e (hm_rm 4 0 0) s m args below meth c D (hm_A w s.heap.size) 4 0 0 (MQ below (hm_Qv D w s.heap.size (fun w2 => ∃ f2 : Nat → Int32, w2 = uM K w t tw wn tf L ((P + 256 : Nat) : Int) f2 ∧ lE1 (tb tf L) P a (mem f0) (mem f2))) args s 0 0 (hm_A w s.heap.size)) (uM K w t tw wn tf L (((P + (j + 1) : Nat) : Int)) f2) 2 [(3, .int (iI (((j + 1 : Nat) : Int)))), (0, .ref (t)), (1, .ref (qn)), (2, .int (iI (((a : Nat) : Int))))] []
          refine hv_sub (lv2 := [(3, .int (iI (((j + 1 : Nat) : Int)))), (0, .ref (t)), (1, .ref (qn)), (2, .int (iI (((a : Nat) : Int))))]) [0, 1, 2, 3] rfl ?_
          exact ih (j + 1) f2 (by omega) (by omega) (bI1_yes hl (by
                by_cases hx : tb tf L (P + j) = true
                · exact hx
                · rw [if_neg hx] at hB; omega) (fun u => by rw [hf2 u, show (((a : Nat) : Int) + (j : Int)).toNat = a + j by omega]))
  refine hv_sub (lv2 := [(3, .int (iI (((0 : Nat) : Int)))), (0, .ref (t)), (1, .ref (qn)), (2, .int (iI (((a : Nat) : Int))))]) [0, 1, 2, 3] rfl ?_
  exact LP 257 0 f0 (by omega) (by omega) (bI1_0 hU0)
set_option maxHeartbeats 4000000 in
set_option maxRecDepth 100000 in
theorem c3_learnRuns (l : Launch) (D : va_G) (K : Nat → ClassId) {w : hm_M} {t tw qn wn a P : Nat} {tf f0 : Nat → Int32} {L : Int} (ha : a % 256 = 0) (ha2 : a + 256 ≤ 4096) (hPb : P < 900000) (hU0 : ∀ u, a ≤ u → u < 4096 → mem f0 u = false) (ht : tAt K w t tw tf L ((P : Nat) : Int)) (hn : nAt K w qn wn f0) (hL0 : 0 ≤ L) (hL1 : L ≤ 8210)  : hm_Ci l D K yX3_learnRuns cX3_learnRuns 8 .boolean 4 [.ref (t), .ref (qn), .int (iI (((a : Nat) : Int)))] w 0 0 (fun r w2 => ∃ (y : Bool) (f2 : Nat → Int32) (P2 : Nat), r = bI y ∧ w2 = uM K w t tw wn tf L ((P2 : Nat) : Int) f2 ∧ P2 ≤ P + 4112 ∧ (y = true → lE2 (tb tf L) (P + 8) (bv (tb tf L) P 8 + 1) a (mem f0) (mem f2) ∧ P2 = P + 8 + 16 * (bv (tb tf L) P 8 + 1)) ∧ (y = false → ∀ S, rd (tb tf L) (P + 8) (bdP S 2 a 256) → ct (bg S a) 0 256 = bv (tb tf L) P 8 + 1 → False)) := by
  refine hm_enterI (by decide) (Nat.le_of_ble_eq_true rfl) ?_
  intro p e s m args below meth c E hr hnm
  show hm_V p l e (hm_rm 4 0 0) s m args below meth c D (hm_A w s.heap.size) 8 0 0 (MQ below (hm_Qi D w s.heap.size (fun r w2 => ∃ (y : Bool) (f2 : Nat → Int32) (P2 : Nat), r = bI y ∧ w2 = uM K w t tw wn tf L ((P2 : Nat) : Int) f2 ∧ P2 ≤ P + 4112 ∧ (y = true → lE2 (tb tf L) (P + 8) (bv (tb tf L) P 8 + 1) a (mem f0) (mem f2) ∧ P2 = P + 8 + 16 * (bv (tb tf L) P 8 + 1)) ∧ (y = false → ∀ S, rd (tb tf L) (P + 8) (bdP S 2 a 256) → ct (bg S a) 0 256 = bv (tb tf L) P 8 + 1 → False))) args s 0 0 (hm_A w s.heap.size)) w 0 [(0, .ref (t)), (1, .ref (qn)), (2, .int (iI (((a : Nat) : Int))))] []
  refine hv_mem (show w = uM K w t tw wn tf L (((P : Nat) : Int)) f0 from uM_id ht hn) ?_
  have hT : tAt K (uM K w t tw wn tf L (((P : Nat) : Int)) f0) t tw tf L (((P : Nat) : Int)) := tAt_uM ht hn
  have hN : nAt K (uM K w t tw wn tf L (((P : Nat) : Int)) f0) qn wn f0 := nAt_uM ht hn
  refine hv_aload_n E dX3_learnRuns_0 rfl 0 rfl rfl ?_
  refine hv_bipush E dX3_learnRuns_1 (by decide +kernel) rfl ?_
  refine hv_callVI (na := 1) (As := [.int (iI (8))]) (st := []) E (c4_take l D K (8) (by omega) (by omega) (by omega) (by omega) hT hL0 hL1) dX3_learnRuns_3 hT.1 (show vwCl[3]? = some (RX4, TX4, 3) from rfl) gL_X3_49 gV_X4_take gI_X4_take gC_X4_take gZ_X4 (by decide +kernel) rfl ⟨Nat.le_of_ble_eq_true rfl, Nat.le_of_ble_eq_true rfl⟩ (Nat.le_of_ble_eq_true rfl) ⟨Nat.zero_le _, Nat.zero_le _⟩ rfl rfl (fun r w2 hp => ?_)
  rw [uM_tM ht hn, show (((P : Nat) : Int) + 8) = ((P + 8 : Nat) : Int) by omega, Int.toNat_natCast] at hp
  rw [show (8 : Int).toNat = 8 by omega] at hp
  obtain ⟨NB, hNB⟩ : ∃ zz, zz = bv (tb tf L) (P) (8) := ⟨_, rfl⟩
  have hNBb := bv_lt (tb tf L) (P) (8)
  rw [← hNB] at hp hNBb
  rw [hp.1, hp.2]
  show hm_V p l e (hm_rm 4 0 0) s m args below meth c D (hm_A w s.heap.size) 8 0 0 (MQ below (hm_Qi D w s.heap.size (fun r w2 => ∃ (y : Bool) (f2 : Nat → Int32) (P2 : Nat), r = bI y ∧ w2 = uM K w t tw wn tf L ((P2 : Nat) : Int) f2 ∧ P2 ≤ P + 4112 ∧ (y = true → lE2 (tb tf L) (P + 8) (bv (tb tf L) P 8 + 1) a (mem f0) (mem f2) ∧ P2 = P + 8 + 16 * (bv (tb tf L) P 8 + 1)) ∧ (y = false → ∀ S, rd (tb tf L) (P + 8) (bdP S 2 a 256) → ct (bg S a) 0 256 = bv (tb tf L) P 8 + 1 → False))) args s 0 0 (hm_A w s.heap.size)) (uM K w t tw wn tf L (((P + 8 : Nat) : Int)) f0) 6 [(0, .ref (t)), (1, .ref (qn)), (2, .int (iI (((a : Nat) : Int))))] [.int (iI ((NB : Int)))]
  refine hv_iconst E dX3_learnRuns_6 rfl ?_
  refine hv_iadd E dX3_learnRuns_7 rfl ?_
  refine hv_istore_n (lv2 := [(3, .int (iI (((NB : Int)) + 1))), (0, .ref (t)), (1, .ref (qn)), (2, .int (iI (((a : Nat) : Int))))]) E dX3_learnRuns_8 rfl (by decide) rfl rfl ?_
  refine hv_iconst E dX3_learnRuns_9 rfl ?_
  refine hv_istore (lv2 := [(4, .int (iI (0))), (3, .int (iI (((NB : Int)) + 1))), (0, .ref (t)), (1, .ref (qn)), (2, .int (iI (((a : Nat) : Int))))]) E dX3_learnRuns_10 (by decide) rfl rfl ?_
  refine hv_iconst E dX3_learnRuns_12 rfl ?_
  refine hv_istore (lv2 := [(5, .int (iI (0))), (4, .int (iI (0))), (3, .int (iI (((NB : Int)) + 1))), (0, .ref (t)), (1, .ref (qn)), (2, .int (iI (((a : Nat) : Int))))]) E dX3_learnRuns_13 (by decide) rfl rfl ?_
  rw [show ((P + 8 : Nat) : Int) = ((P + 8 + 16 * 0 : Nat) : Int) from rfl]
  show hm_V p l e (hm_rm 4 0 0) s m args below meth c D (hm_A w s.heap.size) 8 0 0 (MQ below (hm_Qi D w s.heap.size (fun r w2 => ∃ (y : Bool) (f2 : Nat → Int32) (P2 : Nat), r = bI y ∧ w2 = uM K w t tw wn tf L ((P2 : Nat) : Int) f2 ∧ P2 ≤ P + 4112 ∧ (y = true → lE2 (tb tf L) (P + 8) (bv (tb tf L) P 8 + 1) a (mem f0) (mem f2) ∧ P2 = P + 8 + 16 * (bv (tb tf L) P 8 + 1)) ∧ (y = false → ∀ S, rd (tb tf L) (P + 8) (bdP S 2 a 256) → ct (bg S a) 0 256 = bv (tb tf L) P 8 + 1 → False))) args s 0 0 (hm_A w s.heap.size)) (uM K w t tw wn tf L (((P + 8 + 16 * 0 : Nat) : Int)) f0) 15 [(5, .int (iI (((0 : Nat) : Int)))), (4, .int (iI (((0 : Nat) : Int)))), (3, .int (iI (((NB : Int)) + 1))), (0, .ref (t)), (1, .ref (qn)), (2, .int (iI (((a : Nat) : Int))))] []
  have LP : ∀ (k : Nat) (kk j ls : Nat) (f : Nat → Int32), (((NB : Int) + 1) - kk < (k : Int)) → (kk ≤ NB + 1) → ((j = 0 ∧ ls = 0) ∨ (1 ≤ j ∧ ls = j + 1)) → (rI (tb tf L) (P + 8) (NB + 1) a (mem f0) (mem f) j kk) → hm_V p l e (hm_rm 4 0 0) s m args below meth c D (hm_A w s.heap.size) 8 0 0 (MQ below (hm_Qi D w s.heap.size (fun r w2 => ∃ (y : Bool) (f2 : Nat → Int32) (P2 : Nat), r = bI y ∧ w2 = uM K w t tw wn tf L ((P2 : Nat) : Int) f2 ∧ P2 ≤ P + 4112 ∧ (y = true → lE2 (tb tf L) (P + 8) (bv (tb tf L) P 8 + 1) a (mem f0) (mem f2) ∧ P2 = P + 8 + 16 * (bv (tb tf L) P 8 + 1)) ∧ (y = false → ∀ S, rd (tb tf L) (P + 8) (bdP S 2 a 256) → ct (bg S a) 0 256 = bv (tb tf L) P 8 + 1 → False))) args s 0 0 (hm_A w s.heap.size)) (uM K w t tw wn tf L (((P + 8 + 16 * kk : Nat) : Int)) f) 15 [(5, .int (iI ((kk : Int)))), (4, .int (iI ((ls : Int)))), (3, .int (iI ((NB : Int) + 1))), (0, .ref (t)), (1, .ref (qn)), (2, .int (iI (((a : Nat) : Int))))] [] := by
    intro k
    induction k with
    | zero =>
      intro kk j ls f hk k1 hls hl
      exact absurd hk (by omega)
    | succ k ih =>
      intro kk j ls f hk k1 hls hl
      clear hT hN
      have hT : tAt K (uM K w t tw wn tf L (((P + 8 + 16 * kk : Nat) : Int)) f) t tw tf L (((P + 8 + 16 * kk : Nat) : Int)) := tAt_uM ht hn
      have hN : nAt K (uM K w t tw wn tf L (((P + 8 + 16 * kk : Nat) : Int)) f) qn wn f := nAt_uM ht hn
      have hj256 := hl.1
      refine hv_iload E dX3_learnRuns_15 0 rfl rfl ?_
      refine hv_iload_n E dX3_learnRuns_17 rfl 2 rfl rfl ?_
      refine hv_icmp_ge E 81 dX3_learnRuns_18 (by decide) ⟨by omega, by omega⟩ ⟨by omega, by omega⟩ rfl (fun c1 => ?_) (fun c1 => ?_)
      · refine hv_iconst E dX3_learnRuns_81 rfl ?_
        refine hv_topi (show iI (1) = bI (true) from rfl) ?_
        have hkk : kk = NB + 1 := by omega
        rw [hkk] at hl
        exact hv_zret E dX3_learnRuns_82 hr ⟨true, f, _, rfl, rfl, by omega, fun _ => ⟨by rw [← hNB]; exact rI_end hl ha2, by rw [← hNB, hkk]⟩, fun h => (by cases h)⟩
      · refine hv_aload_n E dX3_learnRuns_21 rfl 3 rfl rfl ?_
        refine hv_bipush E dX3_learnRuns_22 (by decide +kernel) rfl ?_
        refine hv_callVI (na := 1) (As := [.int (iI (8))]) (st := []) E (c4_take l D K (8) (by omega) (by omega) (by omega) (by omega) hT hL0 hL1) dX3_learnRuns_24 hT.1 (show vwCl[3]? = some (RX4, TX4, 3) from rfl) gL_X3_49 gV_X4_take gI_X4_take gC_X4_take gZ_X4 (by decide +kernel) rfl ⟨Nat.le_of_ble_eq_true rfl, Nat.le_of_ble_eq_true rfl⟩ (Nat.le_of_ble_eq_true rfl) ⟨Nat.zero_le _, Nat.zero_le _⟩ rfl rfl (fun r w2 hp => ?_)
        rw [uM_tM ht hn, show (((P + 8 + 16 * kk : Nat) : Int) + 8) = ((P + 8 + 16 * kk + 8 : Nat) : Int) by omega, Int.toNat_natCast] at hp
        rw [show (8 : Int).toNat = 8 by omega] at hp
        obtain ⟨B, hB⟩ : ∃ zz, zz = bv (tb tf L) (P + 8 + 16 * kk) (8) := ⟨_, rfl⟩
        have hBb := bv_lt (tb tf L) (P + 8 + 16 * kk) (8)
        rw [← hB] at hp hBb
        rw [hp.1, hp.2]
        show hm_V p l e (hm_rm 4 0 0) s m args below meth c D (hm_A w s.heap.size) 8 0 0 (MQ below (hm_Qi D w s.heap.size (fun r w2 => ∃ (y : Bool) (f2 : Nat → Int32) (P2 : Nat), r = bI y ∧ w2 = uM K w t tw wn tf L ((P2 : Nat) : Int) f2 ∧ P2 ≤ P + 4112 ∧ (y = true → lE2 (tb tf L) (P + 8) (bv (tb tf L) P 8 + 1) a (mem f0) (mem f2) ∧ P2 = P + 8 + 16 * (bv (tb tf L) P 8 + 1)) ∧ (y = false → ∀ S, rd (tb tf L) (P + 8) (bdP S 2 a 256) → ct (bg S a) 0 256 = bv (tb tf L) P 8 + 1 → False))) args s 0 0 (hm_A w s.heap.size)) (uM K w t tw wn tf L (((P + 8 + 16 * kk + 8 : Nat) : Int)) f) 27 [(5, .int (iI ((kk : Int)))), (4, .int (iI ((ls : Int)))), (3, .int (iI ((NB : Int) + 1))), (0, .ref (t)), (1, .ref (qn)), (2, .int (iI (((a : Nat) : Int))))] [.int (iI ((B : Int)))]
        clear hT hN
        have hT : tAt K (uM K w t tw wn tf L (((P + 8 + 16 * kk + 8 : Nat) : Int)) f) t tw tf L (((P + 8 + 16 * kk + 8 : Nat) : Int)) := tAt_uM ht hn
        have hN : nAt K (uM K w t tw wn tf L (((P + 8 + 16 * kk + 8 : Nat) : Int)) f) qn wn f := nAt_uM ht hn
        refine hv_istore (lv2 := [(6, .int (iI ((B : Int)))), (5, .int (iI ((kk : Int)))), (4, .int (iI ((ls : Int)))), (3, .int (iI ((NB : Int) + 1))), (0, .ref (t)), (1, .ref (qn)), (2, .int (iI (((a : Nat) : Int))))]) E dX3_learnRuns_27 (by decide) rfl rfl ?_
        refine hv_iload E dX3_learnRuns_29 0 rfl rfl ?_
        refine hv_aload_n E dX3_learnRuns_31 rfl 4 rfl rfl ?_
        refine hv_bipush E dX3_learnRuns_32 (by decide +kernel) rfl ?_
        refine hv_callVI (na := 1) (As := [.int (iI (8))]) (st := [.int (iI ((B : Int)))]) E (c4_take l D K (8) (by omega) (by omega) (by omega) (by omega) hT hL0 hL1) dX3_learnRuns_34 hT.1 (show vwCl[3]? = some (RX4, TX4, 3) from rfl) gL_X3_49 gV_X4_take gI_X4_take gC_X4_take gZ_X4 (by decide +kernel) rfl ⟨Nat.le_of_ble_eq_true rfl, Nat.le_of_ble_eq_true rfl⟩ (Nat.le_of_ble_eq_true rfl) ⟨Nat.zero_le _, Nat.zero_le _⟩ rfl rfl (fun r w2 hp => ?_)
        rw [uM_tM ht hn, show (((P + 8 + 16 * kk + 8 : Nat) : Int) + 8) = ((P + 8 + 16 * kk + 8 + 8 : Nat) : Int) by omega, Int.toNat_natCast] at hp
        rw [show (8 : Int).toNat = 8 by omega] at hp
        obtain ⟨C, hC⟩ : ∃ zz, zz = bv (tb tf L) (P + 8 + 16 * kk + 8) (8) := ⟨_, rfl⟩
        have hCb := bv_lt (tb tf L) (P + 8 + 16 * kk + 8) (8)
        rw [← hC] at hp hCb
        rw [hp.1, hp.2]
        show hm_V p l e (hm_rm 4 0 0) s m args below meth c D (hm_A w s.heap.size) 8 0 0 (MQ below (hm_Qi D w s.heap.size (fun r w2 => ∃ (y : Bool) (f2 : Nat → Int32) (P2 : Nat), r = bI y ∧ w2 = uM K w t tw wn tf L ((P2 : Nat) : Int) f2 ∧ P2 ≤ P + 4112 ∧ (y = true → lE2 (tb tf L) (P + 8) (bv (tb tf L) P 8 + 1) a (mem f0) (mem f2) ∧ P2 = P + 8 + 16 * (bv (tb tf L) P 8 + 1)) ∧ (y = false → ∀ S, rd (tb tf L) (P + 8) (bdP S 2 a 256) → ct (bg S a) 0 256 = bv (tb tf L) P 8 + 1 → False))) args s 0 0 (hm_A w s.heap.size)) (uM K w t tw wn tf L (((P + 8 + 16 * kk + 8 + 8 : Nat) : Int)) f) 37 [(6, .int (iI ((B : Int)))), (5, .int (iI ((kk : Int)))), (4, .int (iI ((ls : Int)))), (3, .int (iI ((NB : Int) + 1))), (0, .ref (t)), (1, .ref (qn)), (2, .int (iI (((a : Nat) : Int))))] [.int (iI ((C : Int))), .int (iI ((B : Int)))]
        refine hv_iadd E dX3_learnRuns_37 rfl ?_
        refine hv_istore (lv2 := [(7, .int (iI (((B : Int)) + ((C : Int))))), (6, .int (iI ((B : Int)))), (5, .int (iI ((kk : Int)))), (4, .int (iI ((ls : Int)))), (3, .int (iI ((NB : Int) + 1))), (0, .ref (t)), (1, .ref (qn)), (2, .int (iI (((a : Nat) : Int))))]) E dX3_learnRuns_38 (by decide) rfl rfl ?_
        refine hv_iload E dX3_learnRuns_40 1 rfl rfl ?_
        refine hv_iload E dX3_learnRuns_42 3 rfl rfl ?_
        refine hv_icmp_lt E 55 dX3_learnRuns_44 (by decide) ⟨by omega, by omega⟩ ⟨by omega, by omega⟩ rfl (fun c2 => ?_) (fun c2 => ?_)
        · refine hv_iconst E dX3_learnRuns_55 rfl ?_
          refine hv_topi (show iI (0) = bI (false) from rfl) ?_
          exact hv_zret E dX3_learnRuns_56 hr ⟨false, _, _, rfl, rfl, by omega, fun h => (by cases h), fun _ S h1 h2 => (by
                obtain ⟨n1, n2, _⟩ := rI_nx hl ha (by omega) h1 (by rw [hNB]; exact h2)
                rw [← hB] at n1 n2
                rw [← hC] at n2
                omega)⟩
        · refine hv_iload E dX3_learnRuns_47 0 rfl rfl ?_
          refine hv_sipush E dX3_learnRuns_49 (by decide +kernel) rfl ?_
          refine hv_icmp_lt E 57 dX3_learnRuns_52 (by decide) ⟨by omega, by omega⟩ ⟨by omega, by omega⟩ rfl (fun c3 => ?_) (fun c3 => ?_)
          · clear hT hN
            have hT : tAt K (uM K w t tw wn tf L (((P + 8 + 16 * kk + 8 + 8 : Nat) : Int)) f) t tw tf L (((P + 8 + 16 * kk + 8 + 8 : Nat) : Int)) := tAt_uM ht hn
            have hN : nAt K (uM K w t tw wn tf L (((P + 8 + 16 * kk + 8 + 8 : Nat) : Int)) f) qn wn f := nAt_uM ht hn
            refine hv_aload_n E dX3_learnRuns_57 rfl 6 rfl rfl ?_
            refine hv_iload_n E dX3_learnRuns_58 rfl 7 rfl rfl ?_
            refine hv_iload E dX3_learnRuns_59 1 rfl rfl ?_
            refine hv_iadd E dX3_learnRuns_61 rfl ?_
            refine hv_iload_n E dX3_learnRuns_62 rfl 7 rfl rfl ?_
            refine hv_iload E dX3_learnRuns_63 0 rfl rfl ?_
            refine hv_iadd E dX3_learnRuns_65 rfl ?_
            refine hv_callVV (na := 2) (As := [.int (iI ((((a : Nat) : Int)) + ((B : Int)))), .int (iI ((((a : Nat) : Int)) + (((B : Int)) + ((C : Int)))))]) (st := []) E (c2_include l D K (((a : Nat) : Int) + (B : Int)) (((a : Nat) : Int) + ((B : Int) + (C : Int))) (by omega) (by omega) (by omega) hN) dX3_learnRuns_66 hN.1 (show vwCl[1]? = some (RX2, TX2, 1) from rfl) gL_X3_78 gV_X2_include gI_X2_include gC_X2_include gZ_X2 (by decide +kernel) rfl ⟨Nat.le_of_ble_eq_true rfl, Nat.le_of_ble_eq_true rfl⟩ (Nat.le_of_ble_eq_true rfl) ⟨Nat.zero_le _, Nat.zero_le _⟩ rfl rfl (fun w2 hp => ?_)
            obtain ⟨f2, e3, hf2⟩ := hp
            rw [uM_up] at e3
            rw [e3, show P + 8 + 16 * kk + 8 + 8 = P + 8 + 16 * (kk + 1) by omega]
            show hm_V p l e (hm_rm 4 0 0) s m args below meth c D (hm_A w s.heap.size) 8 0 0 (MQ below (hm_Qi D w s.heap.size (fun r w2 => ∃ (y : Bool) (f2 : Nat → Int32) (P2 : Nat), r = bI y ∧ w2 = uM K w t tw wn tf L ((P2 : Nat) : Int) f2 ∧ P2 ≤ P + 4112 ∧ (y = true → lE2 (tb tf L) (P + 8) (bv (tb tf L) P 8 + 1) a (mem f0) (mem f2) ∧ P2 = P + 8 + 16 * (bv (tb tf L) P 8 + 1)) ∧ (y = false → ∀ S, rd (tb tf L) (P + 8) (bdP S 2 a 256) → ct (bg S a) 0 256 = bv (tb tf L) P 8 + 1 → False))) args s 0 0 (hm_A w s.heap.size)) (uM K w t tw wn tf L (((P + 8 + 16 * (kk + 1) : Nat) : Int)) f2) 69 [(7, .int (iI (((B : Int)) + ((C : Int))))), (6, .int (iI ((B : Int)))), (5, .int (iI ((kk : Int)))), (4, .int (iI ((ls : Int)))), (3, .int (iI ((NB : Int) + 1))), (0, .ref (t)), (1, .ref (qn)), (2, .int (iI (((a : Nat) : Int))))] []
            have hst := rI_step (U2 := mem f2) (e := B) (r := C + 1) hl ha ha2 (by omega) hB (by rw [hC]) (by omega) (by omega) (fun u => by rw [hf2 u]; congr 1; exact decide_eq_decide.mpr (by omega))
            refine hv_iload E dX3_learnRuns_69 0 rfl rfl ?_
            refine hv_iconst E dX3_learnRuns_71 rfl ?_
            refine hv_iadd E dX3_learnRuns_72 rfl ?_
            refine hv_istore (lv2 := [(4, .int (iI ((((B : Int)) + ((C : Int))) + 2))), (7, .int (iI (((B : Int)) + ((C : Int))))), (6, .int (iI ((B : Int)))), (5, .int (iI ((kk : Int)))), (3, .int (iI ((NB : Int) + 1))), (0, .ref (t)), (1, .ref (qn)), (2, .int (iI (((a : Nat) : Int))))]) E dX3_learnRuns_73 (by decide) rfl rfl ?_
            refine hv_iinc (lv2 := [(5, .int (iI (((kk : Int)) + 1))), (4, .int (iI ((((B : Int)) + ((C : Int))) + 2))), (7, .int (iI (((B : Int)) + ((C : Int))))), (6, .int (iI ((B : Int)))), (3, .int (iI ((NB : Int) + 1))), (0, .ref (t)), (1, .ref (qn)), (2, .int (iI (((a : Nat) : Int))))]) E dX3_learnRuns_75 3 rfl rfl (by decide) rfl rfl ?_
            refine hv_goto E 15 dX3_learnRuns_78 (by decide) ?_
            rw [show (B : Int) + (C : Int) + 2 = ((B + (C + 1) + 1 : Nat) : Int) by omega]
            show hm_V p l e (hm_rm 4 0 0) s m args below meth c D (hm_A w s.heap.size) 8 0 0 (MQ below (hm_Qi D w s.heap.size (fun r w2 => ∃ (y : Bool) (f2 : Nat → Int32) (P2 : Nat), r = bI y ∧ w2 = uM K w t tw wn tf L ((P2 : Nat) : Int) f2 ∧ P2 ≤ P + 4112 ∧ (y = true → lE2 (tb tf L) (P + 8) (bv (tb tf L) P 8 + 1) a (mem f0) (mem f2) ∧ P2 = P + 8 + 16 * (bv (tb tf L) P 8 + 1)) ∧ (y = false → ∀ S, rd (tb tf L) (P + 8) (bdP S 2 a 256) → ct (bg S a) 0 256 = bv (tb tf L) P 8 + 1 → False))) args s 0 0 (hm_A w s.heap.size)) (uM K w t tw wn tf L (((P + 8 + 16 * (kk + 1) : Nat) : Int)) f2) 15 [(5, .int (iI (((kk + 1 : Nat) : Int)))), (4, .int (iI (((B + (C + 1) + 1 : Nat) : Int)))), (7, .int (iI (((B : Int)) + ((C : Int))))), (6, .int (iI ((B : Int)))), (3, .int (iI ((NB : Int) + 1))), (0, .ref (t)), (1, .ref (qn)), (2, .int (iI (((a : Nat) : Int))))] []
            refine hv_sub (lv2 := [(5, .int (iI (((kk + 1 : Nat) : Int)))), (4, .int (iI (((B + (C + 1) + 1 : Nat) : Int)))), (3, .int (iI ((NB : Int) + 1))), (0, .ref (t)), (1, .ref (qn)), (2, .int (iI (((a : Nat) : Int))))]) [0, 1, 4, 5, 6, 7] rfl ?_
            exact ih (kk + 1) (B + (C + 1)) (B + (C + 1) + 1) f2 (by omega) (by omega) (by omega) hst
          · refine hv_iconst E dX3_learnRuns_55 rfl ?_
            refine hv_topi (show iI (0) = bI (false) from rfl) ?_
            exact hv_zret E dX3_learnRuns_56 hr ⟨false, _, _, rfl, rfl, by omega, fun h => (by cases h), fun _ S h1 h2 => (by
                  obtain ⟨n1, n2, _⟩ := rI_nx hl ha (by omega) h1 (by rw [hNB]; exact h2)
                  rw [← hB] at n1 n2
                  rw [← hC] at n2
                  omega)⟩
  refine hv_sub (lv2 := [(5, .int (iI (((0 : Nat) : Int)))), (4, .int (iI (((0 : Nat) : Int)))), (3, .int (iI (((NB : Int)) + 1))), (0, .ref (t)), (1, .ref (qn)), (2, .int (iI (((a : Nat) : Int))))]) [0, 1, 2, 3, 4, 5] rfl ?_
  exact LP (NB + 2) 0 0 0 f0 (by omega) (by omega) (by omega) (rI_0 hU0)
