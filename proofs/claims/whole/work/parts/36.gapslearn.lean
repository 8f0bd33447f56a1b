def uM (K : Nat → ClassId) (w : hm_M) (t tw wn : Nat) (tf : Nat → Int32) (L P : Int) (f : Nat → Int32) : hm_M := hm_up (tM K w t tw tf L P) wn (.inl (K 0, 128, .inl f))
theorem u_ne {K : Nat → ClassId} {w : hm_M} {t tw qn wn : Nat} {tf f0 : Nat → Int32} {L P0 : Int} (ht : tAt K w t tw tf L P0) (hn : nAt K w qn wn f0) : t ≠ wn ∧ tw ≠ wn ∧ qn ≠ t ∧ qn ≠ tw := by
  refine ⟨fun e => ?_, fun e => ?_, fun e => ?_, fun e => ?_⟩
  · have h1 := ht.1; rw [e, hn.2] at h1; cases h1
  · have h1 := ht.2; rw [e, hn.2] at h1; simp at h1
  · have h1 := ht.1; rw [← e, hn.1] at h1; simp at h1
  · have h1 := ht.2; rw [← e, hn.1] at h1; cases h1
theorem uM_id {K : Nat → ClassId} {w : hm_M} {t tw qn wn : Nat} {tf f0 : Nat → Int32} {L P0 : Int} (ht : tAt K w t tw tf L P0) (hn : nAt K w qn wn f0) : w = uM K w t tw wn tf L P0 f0 := by
  unfold uM; rw [← tM_id ht, hm_uid hn.2]
theorem uM_tM {K : Nat → ClassId} {w : hm_M} {t tw qn wn : Nat} {tf f0 f : Nat → Int32} {L P0 P P2 : Int} (ht : tAt K w t tw tf L P0) (hn : nAt K w qn wn f0) : tM K (uM K w t tw wn tf L P f) t tw tf L P2 = uM K w t tw wn tf L P2 f := by
  obtain ⟨a, b, c, d⟩ := u_ne ht hn
  have h1 := tM_tM (K := K) (w := w) (f := tf) (g := tf) (L := L) (P := P) (L2 := L) (P2 := P2) ht.ne
  unfold tM at h1
  unfold uM tM
  rw [hm_uc (Ne.symm b), hm_uc (Ne.symm a), h1]
theorem uM_up {K : Nat → ClassId} {w : hm_M} {t tw wn : Nat} {tf f g : Nat → Int32} {L P : Int} : hm_up (uM K w t tw wn tf L P f) wn (.inl (K 0, 128, .inl g)) = uM K w t tw wn tf L P g := by
  unfold uM; rw [hm_uu]
theorem tAt_uM {K : Nat → ClassId} {w : hm_M} {t tw qn wn : Nat} {tf f0 f : Nat → Int32} {L P0 P : Int} (ht : tAt K w t tw tf L P0) (hn : nAt K w qn wn f0) : tAt K (uM K w t tw wn tf L P f) t tw tf L P := by
  obtain ⟨a, b, c, d⟩ := u_ne ht hn
  have h := tAt_tM (K := K) (w := w) (f := tf) (L := L) (P := P) ht.ne
  exact ⟨by unfold uM; rw [hm_un a]; exact h.1, by unfold uM; rw [hm_un b]; exact h.2⟩
theorem nAt_uM {K : Nat → ClassId} {w : hm_M} {t tw qn wn : Nat} {tf f0 f : Nat → Int32} {L P0 P : Int} (ht : tAt K w t tw tf L P0) (hn : nAt K w qn wn f0) : nAt K (uM K w t tw wn tf L P f) qn wn f := by
  obtain ⟨a, b, c, d⟩ := u_ne ht hn
  exact ⟨by unfold uM; rw [hm_un hn.ne, tM_other c d]; exact hn.1, by unfold uM; rw [hm_us]⟩
theorem bv_1 (X : Nat → Bool) (p : Nat) : bv X p 1 = if X p then 1 else 0 := by simp [bv]
set_option maxHeartbeats 4000000 in
set_option maxRecDepth 100000 in
theorem c1_takeZeros (l : Launch) (D : va_G) (K : Nat → ClassId) {w : hm_M} {t tw : Nat} {tf : Nat → Int32} {L : Int} {P : Nat} (hP : P < 900000) (ht : tAt K w t tw tf L (P : Int)) (hL0 : 0 ≤ L) (hL1 : L ≤ 8210)  : hm_Ci l D K yX1_takeZeros cX1_takeZeros 2 .int 4 [.ref (t)] w 0 0 (fun r w2 => ∃ z : Nat, r = iI (z : Int) ∧ (∀ i, i < z → tb tf L (P + i) = false) ∧ ((z = 13 ∧ w2 = tM K w t tw tf L ((P + 13 : Nat) : Int)) ∨ (z < 13 ∧ tb tf L (P + z) = true ∧ w2 = tM K w t tw tf L ((P + z + 1 : Nat) : Int)))) := by
  refine hm_enterI (by decide) (Nat.le_of_ble_eq_true rfl) ?_
  intro p e s m args below meth c E hr hnm
  show hm_V p l e (hm_rm 4 0 0) s m args below meth c D (hm_A w s.heap.size) 2 0 0 (MQ below (hm_Qi D w s.heap.size (fun r w2 => ∃ z : Nat, r = iI (z : Int) ∧ (∀ i, i < z → tb tf L (P + i) = false) ∧ ((z = 13 ∧ w2 = tM K w t tw tf L ((P + 13 : Nat) : Int)) ∨ (z < 13 ∧ tb tf L (P + z) = true ∧ w2 = tM K w t tw tf L ((P + z + 1 : Nat) : Int))))) args s 0 0 (hm_A w s.heap.size)) w 0 [(0, .ref (t))] []
  refine hv_mem (show w = tM K w t tw tf L (((P + 0 : Nat) : Int)) from tM_id ht) ?_
  refine hv_iconst E dX1_takeZeros_0 rfl ?_
  refine hv_istore_n (lv2 := [(1, .int (iI (0))), (0, .ref (t))]) E dX1_takeZeros_1 rfl (by decide) rfl rfl ?_
  show hm_V p l e (hm_rm 4 0 0) s m args below meth c D (hm_A w s.heap.size) 2 0 0 (MQ below (hm_Qi D w s.heap.size (fun r w2 => ∃ z : Nat, r = iI (z : Int) ∧ (∀ i, i < z → tb tf L (P + i) = false) ∧ ((z = 13 ∧ w2 = tM K w t tw tf L ((P + 13 : Nat) : Int)) ∨ (z < 13 ∧ tb tf L (P + z) = true ∧ w2 = tM K w t tw tf L ((P + z + 1 : Nat) : Int))))) args s 0 0 (hm_A w s.heap.size)) (tM K w t tw tf L (((P + 0 : Nat) : Int))) 2 [(1, .int (iI (((0 : Nat) : Int)))), (0, .ref (t))] []
  have LP : ∀ (k : Nat) (z : Nat), ((13 : Int) - z < (k : Int)) → (z ≤ 13) → (∀ i, i < z → tb tf L (P + i) = false) → hm_V p l e (hm_rm 4 0 0) s m args below meth c D (hm_A w s.heap.size) 2 0 0 (MQ below (hm_Qi D w s.heap.size (fun r w2 => ∃ z : Nat, r = iI (z : Int) ∧ (∀ i, i < z → tb tf L (P + i) = false) ∧ ((z = 13 ∧ w2 = tM K w t tw tf L ((P + 13 : Nat) : Int)) ∨ (z < 13 ∧ tb tf L (P + z) = true ∧ w2 = tM K w t tw tf L ((P + z + 1 : Nat) : Int))))) args s 0 0 (hm_A w s.heap.size)) (tM K w t tw tf L (((P + z : Nat) : Int))) 2 [(1, .int (iI ((z : Int)))), (0, .ref (t))] [] := by
    intro k
    induction k with
    | zero =>
      intro z hk z1 hz
      exact absurd hk (by omega)
    | succ k ih =>
      intro z hk z1 hz
      have hT : tAt K (tM K w t tw tf L (((P + z : Nat) : Int))) t tw tf L ((P + z : Nat) : Int) := tAt_tM ht.ne
      refine hv_iload_n E dX1_takeZeros_2 rfl 0 rfl rfl ?_
      refine hv_bipush E dX1_takeZeros_3 (by decide +kernel) rfl ?_
      refine hv_icmp_ge E 22 dX1_takeZeros_5 (by decide) ⟨by omega, by omega⟩ ⟨by omega, by omega⟩ rfl (fun c1 => ?_) (fun c1 => ?_)
      · refine hv_iload_n E dX1_takeZeros_22 rfl 0 rfl rfl ?_
        exact hv_iret E dX1_takeZeros_23 hr ⟨z, rfl, hz, Or.inl ⟨by omega, by rw [show z = 13 by omega]⟩⟩
      · refine hv_aload_n E dX1_takeZeros_8 rfl 1 rfl rfl ?_
        refine hv_iconst E dX1_takeZeros_9 rfl ?_
        refine hv_callVI (na := 1) (As := [.int (iI (1))]) (st := []) E (c4_take l D K 1 (by omega) (by omega) (by omega) (by omega) hT hL0 hL1) dX1_takeZeros_10 hT.1 (show vwCl[3]? = some (RX4, TX4, 3) from rfl) gL_X1_36 gV_X4_take gI_X4_take gC_X4_take gZ_X4 (by decide +kernel) rfl ⟨Nat.le_of_ble_eq_true rfl, Nat.le_of_ble_eq_true rfl⟩ (Nat.le_of_ble_eq_true rfl) ⟨Nat.zero_le _, Nat.zero_le _⟩ rfl rfl (fun r w2 hp => ?_)
        rw [tM_tM ht.ne, Int.toNat_natCast, show (1 : Int).toNat = 1 from rfl, bv_1, show ((P + z : Nat) : Int) + 1 = ((P + (z + 1) : Nat) : Int) by omega] at hp
        obtain ⟨y, hy⟩ : ∃ y, y = tb tf L (P + z) := ⟨_, rfl⟩
        rw [← hy, show ((((if y = true then 1 else 0 : Nat)) : Nat) : Int) = (if y then 1 else 0 : Int) by cases y <;> rfl, show iI (if y then 1 else 0 : Int) = bI y by cases y <;> rfl] at hp
        rw [hp.1, hp.2]
        show hm_V p l e (hm_rm 4 0 0) s m args below meth c D (hm_A w s.heap.size) 2 0 0 (MQ below (hm_Qi D w s.heap.size (fun r w2 => ∃ z : Nat, r = iI (z : Int) ∧ (∀ i, i < z → tb tf L (P + i) = false) ∧ ((z = 13 ∧ w2 = tM K w t tw tf L ((P + 13 : Nat) : Int)) ∨ (z < 13 ∧ tb tf L (P + z) = true ∧ w2 = tM K w t tw tf L ((P + z + 1 : Nat) : Int))))) args s 0 0 (hm_A w s.heap.size)) (tM K w t tw tf L (((P + (z + 1) : Nat) : Int))) 13 [(1, .int (iI ((z : Int)))), (0, .ref (t))] [.int (bI (y))]
        refine hv_if_neB E 22 dX1_takeZeros_13 (by decide) rfl (fun c2 => ?_) (fun c2 => ?_)
        · refine hv_iload_n E dX1_takeZeros_22 rfl 0 rfl rfl ?_
          exact hv_iret E dX1_takeZeros_23 hr ⟨z, rfl, hz, Or.inr ⟨by omega, by rw [← hy]; exact c2, rfl⟩⟩
        · refine hv_iinc (lv2 := [(1, .int (iI (((z : Int)) + 1))), (0, .ref (t))]) E dX1_takeZeros_16 0 rfl rfl (by decide) rfl rfl ?_
          refine hv_goto E 2 dX1_takeZeros_19 (by decide) ?_
          show hm_V p l e (hm_rm 4 0 0) s m args below meth c D (hm_A w s.heap.size) 2 0 0 (MQ below (hm_Qi D w s.heap.size (fun r w2 => ∃ z : Nat, r = iI (z : Int) ∧ (∀ i, i < z → tb tf L (P + i) = false) ∧ ((z = 13 ∧ w2 = tM K w t tw tf L ((P + 13 : Nat) : Int)) ∨ (z < 13 ∧ tb tf L (P + z) = true ∧ w2 = tM K w t tw tf L ((P + z + 1 : Nat) : Int))))) args s 0 0 (hm_A w s.heap.size)) (tM K w t tw tf L (((P + (z + 1) : Nat) : Int))) 2 [(1, .int (iI (((z + 1 : Nat) : Int)))), (0, .ref (t))] []
          refine hv_sub (lv2 := [(1, .int (iI (((z + 1 : Nat) : Int)))), (0, .ref (t))]) [0, 1] rfl ?_
          exact ih (z + 1) (by omega) (by omega) (fun i hi => by
                rcases (show i < z ∨ i = z by omega) with q | q
                · exact hz i q
                · rw [q, ← hy]; exact c2)
  refine hv_sub (lv2 := [(1, .int (iI (((0 : Nat) : Int)))), (0, .ref (t))]) [0, 1] rfl ?_
  exact LP 14 0 (by omega) (by omega) (fun i hi => absurd hi (by omega))
set_option maxHeartbeats 4000000 in
set_option maxRecDepth 100000 in
theorem c1_learn (l : Launch) (D : va_G) (K : Nat → ClassId) {w : hm_M} {a : Nat} {t tw qn wn : Nat} {tf f0 : Nat → Int32} {L P0 : Int} (ht : tAt K w t tw tf L P0) (hn : nAt K w qn wn f0) (hL0 : 0 ≤ L) (hL1 : L ≤ 8210)  : hm_Ci l D K yX1_learn cX1_learn 7 .boolean 5 [.ref (a), .ref (t), .ref (qn)] w 0 0 (fun r w2 => ∃ (y : Bool) (f2 : Nat → Int32) (P2 : Int), r = bI y ∧ w2 = uM K w t tw wn tf L P2 f2 ∧ (y = true → isC (tb tf L) L (cdG (mem f2))) ∧ (y = false → ∀ S, ¬ isC (tb tf L) L (cdG S))) := by
  refine hm_enterI (by decide) (Nat.le_of_ble_eq_true rfl) ?_
  intro p e s m args below meth c E hr hnm
  show hm_V p l e (hm_rm 5 0 0) s m args below meth c D (hm_A w s.heap.size) 7 0 0 (MQ below (hm_Qi D w s.heap.size (fun r w2 => ∃ (y : Bool) (f2 : Nat → Int32) (P2 : Int), r = bI y ∧ w2 = uM K w t tw wn tf L P2 f2 ∧ (y = true → isC (tb tf L) L (cdG (mem f2))) ∧ (y = false → ∀ S, ¬ isC (tb tf L) L (cdG S)))) args s 0 0 (hm_A w s.heap.size)) w 0 [(0, .ref (a)), (1, .ref (t)), (2, .ref (qn))] []
  refine hv_mem (show w = uM K w t tw wn tf L (P0) f0 from uM_id ht hn) ?_
  have hT : tAt K (uM K w t tw wn tf L (P0) f0) t tw tf L (P0) := tAt_uM ht hn
  have hN : nAt K (uM K w t tw wn tf L (P0) f0) qn wn f0 := nAt_uM ht hn
  refine hv_aload_n E dX1_learn_0 rfl 2 rfl rfl ?_
  refine hv_callVV (na := 0) (As := []) (st := []) E (c2_clear l D K hN) dX1_learn_1 hN.1 (show vwCl[1]? = some (RX2, TX2, 1) from rfl) gL_X1_30 gV_X2_clear gI_X2_clear gC_X2_clear gZ_X2 (by decide +kernel) rfl ⟨Nat.le_of_ble_eq_true rfl, Nat.le_of_ble_eq_true rfl⟩ (Nat.le_of_ble_eq_true rfl) ⟨Nat.zero_le _, Nat.zero_le _⟩ rfl rfl (fun w2 hp => ?_)
  obtain ⟨f1, e1, hf1⟩ := hp
  rw [uM_up] at e1
  rw [e1]
  show hm_V p l e (hm_rm 5 0 0) s m args below meth c D (hm_A w s.heap.size) 7 0 0 (MQ below (hm_Qi D w s.heap.size (fun r w2 => ∃ (y : Bool) (f2 : Nat → Int32) (P2 : Int), r = bI y ∧ w2 = uM K w t tw wn tf L P2 f2 ∧ (y = true → isC (tb tf L) L (cdG (mem f2))) ∧ (y = false → ∀ S, ¬ isC (tb tf L) L (cdG S)))) args s 0 0 (hm_A w s.heap.size)) (uM K w t tw wn tf L (P0) f1) 4 [(0, .ref (a)), (1, .ref (t)), (2, .ref (qn))] []
  clear hT hN
  have hT : tAt K (uM K w t tw wn tf L (P0) f1) t tw tf L (P0) := tAt_uM ht hn
  have hN : nAt K (uM K w t tw wn tf L (P0) f1) qn wn f1 := nAt_uM ht hn
  refine hv_aload_n E dX1_learn_4 rfl 1 rfl rfl ?_
  refine hv_callVV (na := 0) (As := []) (st := []) E (c4_rewind l D K hT) dX1_learn_5 hT.1 (show vwCl[3]? = some (RX4, TX4, 3) from rfl) gL_X1_33 gV_X4_rewind gI_X4_rewind gC_X4_rewind gZ_X4 (by decide +kernel) rfl ⟨Nat.le_of_ble_eq_true rfl, Nat.le_of_ble_eq_true rfl⟩ (Nat.le_of_ble_eq_true rfl) ⟨Nat.zero_le _, Nat.zero_le _⟩ rfl rfl (fun w2 hp => ?_)
  rw [uM_tM ht hn] at hp
  rw [hp]
  show hm_V p l e (hm_rm 5 0 0) s m args below meth c D (hm_A w s.heap.size) 7 0 0 (MQ below (hm_Qi D w s.heap.size (fun r w2 => ∃ (y : Bool) (f2 : Nat → Int32) (P2 : Int), r = bI y ∧ w2 = uM K w t tw wn tf L P2 f2 ∧ (y = true → isC (tb tf L) L (cdG (mem f2))) ∧ (y = false → ∀ S, ¬ isC (tb tf L) L (cdG S)))) args s 0 0 (hm_A w s.heap.size)) (uM K w t tw wn tf L (((0 : Nat) : Int)) f1) 8 [(0, .ref (a)), (1, .ref (t)), (2, .ref (qn))] []
  clear hT hN
  have hT : tAt K (uM K w t tw wn tf L (((0 : Nat) : Int)) f1) t tw tf L (((0 : Nat) : Int)) := tAt_uM ht hn
  have hN : nAt K (uM K w t tw wn tf L (((0 : Nat) : Int)) f1) qn wn f1 := nAt_uM ht hn
  refine hv_aload_n E dX1_learn_8 rfl 1 rfl rfl ?_
  refine hv_bipush E dX1_learn_9 (by decide +kernel) rfl ?_
  refine hv_callVI (na := 1) (As := [.int (iI (13))]) (st := []) E (c4_take l D K (13) (by omega) (by omega) (by omega) (by omega) hT hL0 hL1) dX1_learn_11 hT.1 (show vwCl[3]? = some (RX4, TX4, 3) from rfl) gL_X1_36 gV_X4_take gI_X4_take gC_X4_take gZ_X4 (by decide +kernel) rfl ⟨Nat.le_of_ble_eq_true rfl, Nat.le_of_ble_eq_true rfl⟩ (Nat.le_of_ble_eq_true rfl) ⟨Nat.zero_le _, Nat.zero_le _⟩ rfl rfl (fun r w2 hp => ?_)
  rw [uM_tM ht hn, show (((0 : Nat) : Int) + 13) = ((0 + 13 : Nat) : Int) by omega, Int.toNat_natCast] at hp
  rw [show (13 : Int).toNat = 13 by omega] at hp
  obtain ⟨NN, hNN⟩ : ∃ zz, zz = bv (tb tf L) (0) (13) := ⟨_, rfl⟩
  have hNNb := bv_lt (tb tf L) (0) (13)
  rw [← hNN] at hp hNNb
  rw [hp.1, hp.2]
  show hm_V p l e (hm_rm 5 0 0) s m args below meth c D (hm_A w s.heap.size) 7 0 0 (MQ below (hm_Qi D w s.heap.size (fun r w2 => ∃ (y : Bool) (f2 : Nat → Int32) (P2 : Int), r = bI y ∧ w2 = uM K w t tw wn tf L P2 f2 ∧ (y = true → isC (tb tf L) L (cdG (mem f2))) ∧ (y = false → ∀ S, ¬ isC (tb tf L) L (cdG S)))) args s 0 0 (hm_A w s.heap.size)) (uM K w t tw wn tf L (((0 + 13 : Nat) : Int)) f1) 14 [(0, .ref (a)), (1, .ref (t)), (2, .ref (qn))] [.int (iI ((NN : Int)))]
  refine hv_istore_n (lv2 := [(3, .int (iI ((NN : Int)))), (0, .ref (a)), (1, .ref (t)), (2, .ref (qn))]) E dX1_learn_14 rfl (by decide) rfl rfl ?_
  refine hv_iload_n E dX1_learn_15 rfl 0 rfl rfl ?_
  refine hv_sipush E dX1_learn_16 (by decide +kernel) rfl ?_
  refine hv_icmp_le E 24 dX1_learn_19 (by decide) ⟨by omega, by omega⟩ ⟨by omega, by omega⟩ rfl (fun c1 => ?_) (fun c1 => ?_)
  · refine hv_iconst E dX1_learn_24 rfl ?_
    refine hv_istore (lv2 := [(4, .int (iI ((-1)))), (3, .int (iI ((NN : Int)))), (0, .ref (a)), (1, .ref (t)), (2, .ref (qn))]) E dX1_learn_25 (by decide) rfl rfl ?_
    refine hv_iconst E dX1_learn_27 rfl ?_
    refine hv_istore (lv2 := [(5, .int (iI (0))), (4, .int (iI ((-1)))), (3, .int (iI ((NN : Int)))), (0, .ref (a)), (1, .ref (t)), (2, .ref (qn))]) E dX1_learn_28 (by decide) rfl rfl ?_
    show hm_V p l e (hm_rm 5 0 0) s m args below meth c D (hm_A w s.heap.size) 7 0 0 (MQ below (hm_Qi D w s.heap.size (fun r w2 => ∃ (y : Bool) (f2 : Nat → Int32) (P2 : Int), r = bI y ∧ w2 = uM K w t tw wn tf L P2 f2 ∧ (y = true → isC (tb tf L) L (cdG (mem f2))) ∧ (y = false → ∀ S, ¬ isC (tb tf L) L (cdG S)))) args s 0 0 (hm_A w s.heap.size)) (uM K w t tw wn tf L (((0 + 13 : Nat) : Int)) f1) 30 [(5, .int (iI (((0 : Nat) : Int)))), (4, .int (iI (((0 : Nat) : Int) - 1))), (3, .int (iI ((NN : Int)))), (0, .ref (a)), (1, .ref (t)), (2, .ref (qn))] []
    have h13 : 0 + 13 = 13 := rfl
    have LP : ∀ (k : Nat) (k2 v P : Nat) (f : Nat → Int32), ((NN : Int) - k2 < (k : Int)) → (k2 ≤ NN) → (gI (tb tf L) L (mem f) v k2 P) → hm_V p l e (hm_rm 5 0 0) s m args below meth c D (hm_A w s.heap.size) 7 0 0 (MQ below (hm_Qi D w s.heap.size (fun r w2 => ∃ (y : Bool) (f2 : Nat → Int32) (P2 : Int), r = bI y ∧ w2 = uM K w t tw wn tf L P2 f2 ∧ (y = true → isC (tb tf L) L (cdG (mem f2))) ∧ (y = false → ∀ S, ¬ isC (tb tf L) L (cdG S)))) args s 0 0 (hm_A w s.heap.size)) (uM K w t tw wn tf L ((P : Int)) f) 30 [(5, .int (iI ((k2 : Int)))), (4, .int (iI ((v : Int) - 1))), (3, .int (iI ((NN : Int)))), (0, .ref (a)), (1, .ref (t)), (2, .ref (qn))] [] := by
      intro k
      induction k with
      | zero =>
        intro k2 v P f hk k1 hg
        exact absurd hk (by omega)
      | succ k ih =>
        intro k2 v P f hk k1 hg
        clear hT
        have hT : tAt K (uM K w t tw wn tf L (((P : Nat) : Int)) f) t tw tf L (((P : Nat) : Int)) := tAt_uM ht hn
        have hN : nAt K (uM K w t tw wn tf L (((P : Nat) : Int)) f) qn wn f := nAt_uM ht hn
        have hgl := gpP_le (mem f) v
        have hll := lst_le (mem f) v
        have hPP := hg.hP
        have hv4 := hg.hv
        refine hv_iload E dX1_learn_30 0 rfl rfl ?_
        refine hv_iload_n E dX1_learn_32 rfl 2 rfl rfl ?_
        refine hv_icmp_ge E 80 dX1_learn_33 (by decide) ⟨by omega, by omega⟩ ⟨by omega, by omega⟩ rfl (fun c2 => ?_) (fun c2 => ?_)
        · refine hv_aload_n E dX1_learn_80 rfl 4 rfl rfl ?_
          refine hv_callVI (na := 0) (As := []) (st := []) E (c4_isReadToItsEnd l D K ⟨by omega, by omega⟩ hT hL0 hL1) dX1_learn_81 hT.1 (show vwCl[3]? = some (RX4, TX4, 3) from rfl) gL_X1_47 gV_X4_isReadToItsEnd gI_X4_isReadToItsEnd gC_X4_isReadToItsEnd gZ_X4 (by decide +kernel) rfl ⟨Nat.le_of_ble_eq_true rfl, Nat.le_of_ble_eq_true rfl⟩ (Nat.le_of_ble_eq_true rfl) ⟨Nat.zero_le _, Nat.zero_le _⟩ rfl rfl (fun r w2 hp => ?_)
          rw [hp.1, hp.2]
          show hm_V p l e (hm_rm 5 0 0) s m args below meth c D (hm_A w s.heap.size) 7 0 0 (MQ below (hm_Qi D w s.heap.size (fun r w2 => ∃ (y : Bool) (f2 : Nat → Int32) (P2 : Int), r = bI y ∧ w2 = uM K w t tw wn tf L P2 f2 ∧ (y = true → isC (tb tf L) L (cdG (mem f2))) ∧ (y = false → ∀ S, ¬ isC (tb tf L) L (cdG S)))) args s 0 0 (hm_A w s.heap.size)) (uM K w t tw wn tf L (((P : Nat) : Int)) f) 84 [(5, .int (iI ((k2 : Int)))), (4, .int (iI ((v : Int) - 1))), (3, .int (iI ((NN : Int)))), (0, .ref (a)), (1, .ref (t)), (2, .ref (qn))] [.int (bI (decide (((P : Nat) : Int) = L)))]
          have hkn : k2 = bv (tb tf L) 0 13 := by rw [← hNN]; omega
          rw [hkn] at hg
          exact hv_zret E dX1_learn_84 hr ⟨_, f, _, rfl, rfl, fun h => gI_end hg (of_decide_eq_true h), fun h => gI_fail hg (of_decide_eq_false h)⟩
        · have hkn : k2 < bv (tb tf L) 0 13 := by rw [← hNN]; omega
          refine hv_aload_n E dX1_learn_36 rfl 4 rfl rfl ?_
          refine hv_callSI (na := 1) (As := [.ref (t)]) (st := []) E (c1_takeZeros l D K (P := P) (by omega) hT hL0 hL1) dX1_learn_37 gL_X1_39 gS_X1_takeZeros gC_X1_takeZeros gZ_X1 (by decide +kernel) rfl ⟨Nat.le_of_ble_eq_true rfl, Nat.le_of_ble_eq_true rfl⟩ (Nat.le_of_ble_eq_true rfl) ⟨Nat.zero_le _, Nat.zero_le _⟩ rfl rfl (fun r w2 hp => ?_)
          obtain ⟨z, hr1, hz, hcase⟩ := hp
          rw [uM_tM ht hn, uM_tM ht hn] at hcase
          rw [hr1]
          rcases hcase with ⟨z13, e2⟩ | ⟨z12, hone, e2⟩
          · rw [e2, z13]
            show hm_V p l e (hm_rm 5 0 0) s m args below meth c D (hm_A w s.heap.size) 7 0 0 (MQ below (hm_Qi D w s.heap.size (fun r w2 => ∃ (y : Bool) (f2 : Nat → Int32) (P2 : Int), r = bI y ∧ w2 = uM K w t tw wn tf L P2 f2 ∧ (y = true → isC (tb tf L) L (cdG (mem f2))) ∧ (y = false → ∀ S, ¬ isC (tb tf L) L (cdG S)))) args s 0 0 (hm_A w s.heap.size)) (uM K w t tw wn tf L (((P + 13 : Nat) : Int)) f) 40 [(5, .int (iI ((k2 : Int)))), (4, .int (iI ((v : Int) - 1))), (3, .int (iI ((NN : Int)))), (0, .ref (a)), (1, .ref (t)), (2, .ref (qn))] [.int (iI (((13 : Nat) : Int)))]
            clear hT hN
            have hT : tAt K (uM K w t tw wn tf L (((P + 13 : Nat) : Int)) f) t tw tf L (((P + 13 : Nat) : Int)) := tAt_uM ht hn
            have hN : nAt K (uM K w t tw wn tf L (((P + 13 : Nat) : Int)) f) qn wn f := nAt_uM ht hn
            refine hv_istore (lv2 := [(6, .int (iI (((13 : Nat) : Int)))), (5, .int (iI ((k2 : Int)))), (4, .int (iI ((v : Int) - 1))), (3, .int (iI ((NN : Int)))), (0, .ref (a)), (1, .ref (t)), (2, .ref (qn))]) E dX1_learn_40 (by decide) rfl rfl ?_
            refine hv_iload E dX1_learn_42 2 rfl rfl ?_
            refine hv_iconst E dX1_learn_44 rfl ?_
            refine hv_iload E dX1_learn_45 0 rfl rfl ?_
            refine hv_ishlR E dX1_learn_47 rfl rfl ?_
            refine hv_topi (show (iI (1)) <<< ((iI (((13 : Nat) : Int))) &&& 31) = iI (8192) from rfl) ?_
            refine hv_aload_n E dX1_learn_48 rfl 5 rfl rfl ?_
            refine hv_iload E dX1_learn_49 0 rfl rfl ?_
            refine hv_callVI (na := 1) (As := [.int (iI (((13 : Nat) : Int)))]) (st := [.int (iI (8192)), .int (iI ((v : Int) - 1))]) E (c4_take l D K (((13 : Nat) : Int)) (by omega) (by omega) (by omega) (by omega) hT hL0 hL1) dX1_learn_51 hT.1 (show vwCl[3]? = some (RX4, TX4, 3) from rfl) gL_X1_36 gV_X4_take gI_X4_take gC_X4_take gZ_X4 (by decide +kernel) rfl ⟨Nat.le_of_ble_eq_true rfl, Nat.le_of_ble_eq_true rfl⟩ (Nat.le_of_ble_eq_true rfl) ⟨Nat.zero_le _, Nat.zero_le _⟩ rfl rfl (fun r w2 hp => ?_)
            rw [uM_tM ht hn, show (((P + 13 : Nat) : Int) + (((13 : Nat) : Int))) = ((P + 13 + 13 : Nat) : Int) by omega, Int.toNat_natCast] at hp
            rw [show (((13 : Nat) : Int) : Int).toNat = 13 by omega] at hp
            obtain ⟨B, hB⟩ : ∃ zz, zz = bv (tb tf L) (P + 13) (13) := ⟨_, rfl⟩
            have hBb := bv_lt (tb tf L) (P + 13) (13)
            rw [← hB] at hp hBb
            rw [hp.1, hp.2]
            show hm_V p l e (hm_rm 5 0 0) s m args below meth c D (hm_A w s.heap.size) 7 0 0 (MQ below (hm_Qi D w s.heap.size (fun r w2 => ∃ (y : Bool) (f2 : Nat → Int32) (P2 : Int), r = bI y ∧ w2 = uM K w t tw wn tf L P2 f2 ∧ (y = true → isC (tb tf L) L (cdG (mem f2))) ∧ (y = false → ∀ S, ¬ isC (tb tf L) L (cdG S)))) args s 0 0 (hm_A w s.heap.size)) (uM K w t tw wn tf L (((P + 13 + 13 : Nat) : Int)) f) 54 [(6, .int (iI (((13 : Nat) : Int)))), (5, .int (iI ((k2 : Int)))), (4, .int (iI ((v : Int) - 1))), (3, .int (iI ((NN : Int)))), (0, .ref (a)), (1, .ref (t)), (2, .ref (qn))] [.int (iI ((B : Int))), .int (iI (8192)), .int (iI ((v : Int) - 1))]
            refine hv_iadd E dX1_learn_54 rfl ?_
            refine hv_iadd E dX1_learn_55 rfl ?_
            refine hv_istore (lv2 := [(4, .int (iI (((v : Int) - 1) + (8192 + ((B : Int)))))), (6, .int (iI (((13 : Nat) : Int)))), (5, .int (iI ((k2 : Int)))), (3, .int (iI ((NN : Int)))), (0, .ref (a)), (1, .ref (t)), (2, .ref (qn))]) E dX1_learn_56 (by decide) rfl rfl ?_
            refine hv_iload E dX1_learn_58 0 rfl rfl ?_
            refine hv_sipush E dX1_learn_60 (by decide +kernel) rfl ?_
            refine hv_icmp_lt E 68 dX1_learn_63 (by decide) ⟨by omega, by omega⟩ ⟨by omega, by omega⟩ rfl (fun d1 => ?_) (fun d1 => ?_)
            · exact absurd d1 (by omega)
            · refine hv_iconst E dX1_learn_66 rfl ?_
              refine hv_topi (show iI (0) = bI (false) from rfl) ?_
              exact hv_zret E dX1_learn_67 hr ⟨false, _, _, rfl, rfl, fun h => (by cases h), fun _ S => gI_no hg hkn (z := z) hz (Or.inl z13) S⟩
          · rw [e2]
            show hm_V p l e (hm_rm 5 0 0) s m args below meth c D (hm_A w s.heap.size) 7 0 0 (MQ below (hm_Qi D w s.heap.size (fun r w2 => ∃ (y : Bool) (f2 : Nat → Int32) (P2 : Int), r = bI y ∧ w2 = uM K w t tw wn tf L P2 f2 ∧ (y = true → isC (tb tf L) L (cdG (mem f2))) ∧ (y = false → ∀ S, ¬ isC (tb tf L) L (cdG S)))) args s 0 0 (hm_A w s.heap.size)) (uM K w t tw wn tf L (((P + z + 1 : Nat) : Int)) f) 40 [(5, .int (iI ((k2 : Int)))), (4, .int (iI ((v : Int) - 1))), (3, .int (iI ((NN : Int)))), (0, .ref (a)), (1, .ref (t)), (2, .ref (qn))] [.int (iI ((z : Int)))]
            clear hT hN
            have hT : tAt K (uM K w t tw wn tf L (((P + z + 1 : Nat) : Int)) f) t tw tf L (((P + z + 1 : Nat) : Int)) := tAt_uM ht hn
            have hN : nAt K (uM K w t tw wn tf L (((P + z + 1 : Nat) : Int)) f) qn wn f := nAt_uM ht hn
            refine hv_istore (lv2 := [(6, .int (iI ((z : Int)))), (5, .int (iI ((k2 : Int)))), (4, .int (iI ((v : Int) - 1))), (3, .int (iI ((NN : Int)))), (0, .ref (a)), (1, .ref (t)), (2, .ref (qn))]) E dX1_learn_40 (by decide) rfl rfl ?_
            refine hv_iload E dX1_learn_42 2 rfl rfl ?_
            refine hv_iconst E dX1_learn_44 rfl ?_
            refine hv_iload E dX1_learn_45 0 rfl rfl ?_
            refine hv_ishlR E dX1_learn_47 rfl rfl ?_
            refine hv_topi (show (iI (1)) <<< ((iI ((z : Int))) &&& 31) = iI (((2 ^ z : Nat) : Int)) from (by
                  have h9 := iI_shlN 1 (k := (z : Int)) (by omega) (by omega)
                  rw [Int.toNat_natCast] at h9
                  rw [h9]; congr 1; push_cast; omega)) ?_
            have hpw : 2 ^ z ≤ 2 ^ 13 := Nat.pow_le_pow_right (by omega) (by omega)
            have hpw1 := Nat.two_pow_pos z
            obtain ⟨PW, hPW⟩ : ∃ z2, z2 = 2 ^ z := ⟨_, rfl⟩
            rw [← hPW] at hpw hpw1 ⊢
            show hm_V p l e (hm_rm 5 0 0) s m args below meth c D (hm_A w s.heap.size) 7 0 0 (MQ below (hm_Qi D w s.heap.size (fun r w2 => ∃ (y : Bool) (f2 : Nat → Int32) (P2 : Int), r = bI y ∧ w2 = uM K w t tw wn tf L P2 f2 ∧ (y = true → isC (tb tf L) L (cdG (mem f2))) ∧ (y = false → ∀ S, ¬ isC (tb tf L) L (cdG S)))) args s 0 0 (hm_A w s.heap.size)) (uM K w t tw wn tf L (((P + z + 1 : Nat) : Int)) f) 48 [(6, .int (iI ((z : Int)))), (5, .int (iI ((k2 : Int)))), (4, .int (iI ((v : Int) - 1))), (3, .int (iI ((NN : Int)))), (0, .ref (a)), (1, .ref (t)), (2, .ref (qn))] [.int (iI ((PW : Int))), .int (iI ((v : Int) - 1))]
            refine hv_aload_n E dX1_learn_48 rfl 5 rfl rfl ?_
            refine hv_iload E dX1_learn_49 0 rfl rfl ?_
            refine hv_callVI (na := 1) (As := [.int (iI ((z : Int)))]) (st := [.int (iI ((PW : Int))), .int (iI ((v : Int) - 1))]) E (c4_take l D K ((z : Int)) (by omega) (by omega) (by omega) (by omega) hT hL0 hL1) dX1_learn_51 hT.1 (show vwCl[3]? = some (RX4, TX4, 3) from rfl) gL_X1_36 gV_X4_take gI_X4_take gC_X4_take gZ_X4 (by decide +kernel) rfl ⟨Nat.le_of_ble_eq_true rfl, Nat.le_of_ble_eq_true rfl⟩ (Nat.le_of_ble_eq_true rfl) ⟨Nat.zero_le _, Nat.zero_le _⟩ rfl rfl (fun r w2 hp => ?_)
            rw [uM_tM ht hn, show (((P + z + 1 : Nat) : Int) + ((z : Int))) = ((P + z + 1 + z : Nat) : Int) by omega, Int.toNat_natCast] at hp
            rw [show ((z : Int) : Int).toNat = z by omega] at hp
            obtain ⟨B, hB⟩ : ∃ zz, zz = bv (tb tf L) (P + z + 1) (z) := ⟨_, rfl⟩
            have hBb := bv_lt (tb tf L) (P + z + 1) (z)
            rw [← hB] at hp hBb
            rw [hp.1, hp.2]
            show hm_V p l e (hm_rm 5 0 0) s m args below meth c D (hm_A w s.heap.size) 7 0 0 (MQ below (hm_Qi D w s.heap.size (fun r w2 => ∃ (y : Bool) (f2 : Nat → Int32) (P2 : Int), r = bI y ∧ w2 = uM K w t tw wn tf L P2 f2 ∧ (y = true → isC (tb tf L) L (cdG (mem f2))) ∧ (y = false → ∀ S, ¬ isC (tb tf L) L (cdG S)))) args s 0 0 (hm_A w s.heap.size)) (uM K w t tw wn tf L (((P + z + 1 + z : Nat) : Int)) f) 54 [(6, .int (iI ((z : Int)))), (5, .int (iI ((k2 : Int)))), (4, .int (iI ((v : Int) - 1))), (3, .int (iI ((NN : Int)))), (0, .ref (a)), (1, .ref (t)), (2, .ref (qn))] [.int (iI ((B : Int))), .int (iI ((PW : Int))), .int (iI ((v : Int) - 1))]
            rw [← hPW] at hBb
            refine hv_iadd E dX1_learn_54 rfl ?_
            refine hv_iadd E dX1_learn_55 rfl ?_
            refine hv_istore (lv2 := [(4, .int (iI (((v : Int) - 1) + (((PW : Int)) + ((B : Int)))))), (6, .int (iI ((z : Int)))), (5, .int (iI ((k2 : Int)))), (3, .int (iI ((NN : Int)))), (0, .ref (a)), (1, .ref (t)), (2, .ref (qn))]) E dX1_learn_56 (by decide) rfl rfl ?_
            refine hv_iload E dX1_learn_58 0 rfl rfl ?_
            refine hv_sipush E dX1_learn_60 (by decide +kernel) rfl ?_
            refine hv_icmp_lt E 68 dX1_learn_63 (by decide) ⟨by omega, by omega⟩ ⟨by omega, by omega⟩ rfl (fun c3 => ?_) (fun c3 => ?_)
            · clear hT hN
              have hT : tAt K (uM K w t tw wn tf L (((P + z + 1 + z : Nat) : Int)) f) t tw tf L (((P + z + 1 + z : Nat) : Int)) := tAt_uM ht hn
              have hN : nAt K (uM K w t tw wn tf L (((P + z + 1 + z : Nat) : Int)) f) qn wn f := nAt_uM ht hn
              refine hv_aload_n E dX1_learn_68 rfl 6 rfl rfl ?_
              refine hv_iload E dX1_learn_69 0 rfl rfl ?_
              refine hv_callVV (na := 1) (As := [.int (iI (((v : Int) - 1) + (((PW : Int)) + ((B : Int)))))]) (st := []) E (c2_add l D K ((v : Int) - 1 + ((PW : Int) + (B : Int))) (by omega) (by omega) hN) dX1_learn_71 hN.1 (show vwCl[1]? = some (RX2, TX2, 1) from rfl) gL_X1_43 gV_X2_add gI_X2_add gC_X2_add gZ_X2 (by decide +kernel) rfl ⟨Nat.le_of_ble_eq_true rfl, Nat.le_of_ble_eq_true rfl⟩ (Nat.le_of_ble_eq_true rfl) ⟨Nat.zero_le _, Nat.zero_le _⟩ rfl rfl (fun w2 hp => ?_)
              obtain ⟨f2, e3, hf2⟩ := hp
              rw [uM_up] at e3
              rw [e3]
              show hm_V p l e (hm_rm 5 0 0) s m args below meth c D (hm_A w s.heap.size) 7 0 0 (MQ below (hm_Qi D w s.heap.size (fun r w2 => ∃ (y : Bool) (f2 : Nat → Int32) (P2 : Int), r = bI y ∧ w2 = uM K w t tw wn tf L P2 f2 ∧ (y = true → isC (tb tf L) L (cdG (mem f2))) ∧ (y = false → ∀ S, ¬ isC (tb tf L) L (cdG S)))) args s 0 0 (hm_A w s.heap.size)) (uM K w t tw wn tf L (((P + z + 1 + z : Nat) : Int)) f2) 74 [(4, .int (iI (((v : Int) - 1) + (((PW : Int)) + ((B : Int)))))), (6, .int (iI ((z : Int)))), (5, .int (iI ((k2 : Int)))), (3, .int (iI ((NN : Int)))), (0, .ref (a)), (1, .ref (t)), (2, .ref (qn))] []
              refine hv_iinc (lv2 := [(5, .int (iI (((k2 : Int)) + 1))), (4, .int (iI (((v : Int) - 1) + (((PW : Int)) + ((B : Int)))))), (6, .int (iI ((z : Int)))), (3, .int (iI ((NN : Int)))), (0, .ref (a)), (1, .ref (t)), (2, .ref (qn))]) E dX1_learn_74 2 rfl rfl (by decide) rfl rfl ?_
              refine hv_goto E 30 dX1_learn_77 (by decide) ?_
              have hst := gI_step (U2 := mem f2) hg hkn (z := z) hz hone (by rw [← hPW, ← hB]; omega) (fun u => by rw [hf2 u, ← hPW, ← hB]; congr 1; exact decide_eq_decide.mpr (by omega))
              rw [← hPW, ← hB, show P + 2 * z + 1 = P + z + 1 + z by omega] at hst
              rw [show (v : Int) - 1 + ((PW : Int) + (B : Int)) = ((v + (PW + B) : Nat) : Int) - 1 by omega]
              show hm_V p l e (hm_rm 5 0 0) s m args below meth c D (hm_A w s.heap.size) 7 0 0 (MQ below (hm_Qi D w s.heap.size (fun r w2 => ∃ (y : Bool) (f2 : Nat → Int32) (P2 : Int), r = bI y ∧ w2 = uM K w t tw wn tf L P2 f2 ∧ (y = true → isC (tb tf L) L (cdG (mem f2))) ∧ (y = false → ∀ S, ¬ isC (tb tf L) L (cdG S)))) args s 0 0 (hm_A w s.heap.size)) (uM K w t tw wn tf L (((P + z + 1 + z : Nat) : Int)) f2) 30 [(5, .int (iI (((k2 + 1 : Nat) : Int)))), (4, .int (iI (((v + (PW + B) : Nat) : Int) - 1))), (6, .int (iI ((z : Int)))), (3, .int (iI ((NN : Int)))), (0, .ref (a)), (1, .ref (t)), (2, .ref (qn))] []
              refine hv_sub (lv2 := [(5, .int (iI (((k2 + 1 : Nat) : Int)))), (4, .int (iI (((v + (PW + B) : Nat) : Int) - 1))), (3, .int (iI ((NN : Int)))), (0, .ref (a)), (1, .ref (t)), (2, .ref (qn))]) [0, 1, 3, 4, 5, 6] rfl ?_
              exact ih (k2 + 1) (v + (PW + B)) (P + z + 1 + z) f2 (by omega) (by omega) hst
            · refine hv_iconst E dX1_learn_66 rfl ?_
              refine hv_topi (show iI (0) = bI (false) from rfl) ?_
              exact hv_zret E dX1_learn_67 hr ⟨false, _, _, rfl, rfl, fun h => (by cases h), fun _ S => gI_no hg hkn (z := z) hz (Or.inr ⟨hone, by rw [← hPW, ← hB]; omega⟩) S⟩
    refine hv_sub (lv2 := [(5, .int (iI (((0 : Nat) : Int)))), (4, .int (iI (((0 : Nat) : Int) - 1))), (3, .int (iI ((NN : Int)))), (0, .ref (a)), (1, .ref (t)), (2, .ref (qn))]) [0, 1, 2, 3, 4, 5] rfl ?_
    exact LP (NN + 1) 0 0 13 f1 (by omega) (by omega) (gI_0 hf1)
  · refine hv_iconst E dX1_learn_22 rfl ?_
    refine hv_topi (show iI (0) = bI (false) from rfl) ?_
    exact hv_zret E dX1_learn_23 hr ⟨false, _, _, rfl, rfl, fun h => (by cases h), fun _ S => gI_big (by rw [← hNN]; omega) S⟩
