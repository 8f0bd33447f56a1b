set_option maxHeartbeats 4000000 in
set_option maxRecDepth 100000 in
theorem c5_learn (l : Launch) (D : va_G) (K : Nat → ClassId) {w : hm_M} {a0 : Nat} {t tw qn wn : Nat} {tf f0 : Nat → Int32} {L P0 : Int} (ht : tAt K w t tw tf L P0) (hn : nAt K w qn wn f0) (hL0 : 0 ≤ L) (hL1 : L ≤ 8210)  : hm_Ci l D K yX5_learn cX5_learn 10 .boolean 5 [.ref (a0), .ref (t), .ref (qn)] w 0 0 (fun r w2 => ∃ (y : Bool) (f2 : Nat → Int32) (P2 : Int), r = bI y ∧ w2 = uM K w t tw wn tf L P2 f2 ∧ (y = true → isC (tb tf L) L (cdP (mem f2))) ∧ (y = false → ∀ S, ¬ isC (tb tf L) L (cdP S))) := by
  refine hm_enterI (by decide) (Nat.le_of_ble_eq_true rfl) ?_
  intro p e s m args below meth c E hr hnm
  show hm_V p l e (hm_rm 5 0 0) s m args below meth c D (hm_A w s.heap.size) 10 0 0 (MQ below (hm_Qi D w s.heap.size (fun r w2 => ∃ (y : Bool) (f2 : Nat → Int32) (P2 : Int), r = bI y ∧ w2 = uM K w t tw wn tf L P2 f2 ∧ (y = true → isC (tb tf L) L (cdP (mem f2))) ∧ (y = false → ∀ S, ¬ isC (tb tf L) L (cdP S)))) args s 0 0 (hm_A w s.heap.size)) w 0 [(0, .ref (a0)), (1, .ref (t)), (2, .ref (qn))] []
  refine hv_mem (show w = uM K w t tw wn tf L (P0) f0 from uM_id ht hn) ?_
  have hT : tAt K (uM K w t tw wn tf L (P0) f0) t tw tf L (P0) := tAt_uM ht hn
  have hN : nAt K (uM K w t tw wn tf L (P0) f0) qn wn f0 := nAt_uM ht hn
  refine hv_aload_n E dX5_learn_0 rfl 2 rfl rfl ?_
  refine hv_callVV (na := 0) (As := []) (st := []) E (c2_clear l D K hN) dX5_learn_1 hN.1 (show vwCl[1]? = some (RX2, TX2, 1) from rfl) gL_X5_34 gV_X2_clear gI_X2_clear gC_X2_clear gZ_X2 (by decide +kernel) rfl ⟨Nat.le_of_ble_eq_true rfl, Nat.le_of_ble_eq_true rfl⟩ (Nat.le_of_ble_eq_true rfl) ⟨Nat.zero_le _, Nat.zero_le _⟩ rfl rfl (fun w2 hp => ?_)
  obtain ⟨f1, e1, hf1⟩ := hp
  rw [uM_up] at e1
  rw [e1]
  show hm_V p l e (hm_rm 5 0 0) s m args below meth c D (hm_A w s.heap.size) 10 0 0 (MQ below (hm_Qi D w s.heap.size (fun r w2 => ∃ (y : Bool) (f2 : Nat → Int32) (P2 : Int), r = bI y ∧ w2 = uM K w t tw wn tf L P2 f2 ∧ (y = true → isC (tb tf L) L (cdP (mem f2))) ∧ (y = false → ∀ S, ¬ isC (tb tf L) L (cdP S)))) args s 0 0 (hm_A w s.heap.size)) (uM K w t tw wn tf L (P0) f1) 4 [(0, .ref (a0)), (1, .ref (t)), (2, .ref (qn))] []
  clear hT hN
  have hT : tAt K (uM K w t tw wn tf L (P0) f1) t tw tf L (P0) := tAt_uM ht hn
  have hN : nAt K (uM K w t tw wn tf L (P0) f1) qn wn f1 := nAt_uM ht hn
  refine hv_aload_n E dX5_learn_4 rfl 1 rfl rfl ?_
  refine hv_iconst E dX5_learn_5 rfl ?_
  refine hv_bipush E dX5_learn_6 (by decide +kernel) rfl ?_
  refine hv_callVI (na := 2) (As := [.int (iI (0)), .int (iI (13))]) (st := []) E (c4_valueAt l D K 0 13 (by omega) (by omega) (by omega) (by omega) hT hL0 hL1) dX5_learn_8 hT.1 (show vwCl[3]? = some (RX4, TX4, 3) from rfl) gL_X5_37 gV_X4_valueAt gI_X4_valueAt gC_X4_valueAt gZ_X4 (by decide +kernel) rfl ⟨Nat.le_of_ble_eq_true rfl, Nat.le_of_ble_eq_true rfl⟩ (Nat.le_of_ble_eq_true rfl) ⟨Nat.zero_le _, Nat.zero_le _⟩ rfl rfl (fun r w2 hp => ?_)
  rw [show (0 : Int).toNat = 0 from rfl, show (13 : Int).toNat = 13 from rfl] at hp
  obtain ⟨NN, hNN⟩ : ∃ zz, zz = bv (tb tf L) 0 13 := ⟨_, rfl⟩
  have hNNb := bv_lt (tb tf L) 0 13
  rw [← hNN] at hp hNNb
  rw [hp.1, hp.2]
  show hm_V p l e (hm_rm 5 0 0) s m args below meth c D (hm_A w s.heap.size) 10 0 0 (MQ below (hm_Qi D w s.heap.size (fun r w2 => ∃ (y : Bool) (f2 : Nat → Int32) (P2 : Int), r = bI y ∧ w2 = uM K w t tw wn tf L P2 f2 ∧ (y = true → isC (tb tf L) L (cdP (mem f2))) ∧ (y = false → ∀ S, ¬ isC (tb tf L) L (cdP S)))) args s 0 0 (hm_A w s.heap.size)) (uM K w t tw wn tf L (P0) f1) 11 [(0, .ref (a0)), (1, .ref (t)), (2, .ref (qn))] [.int (iI ((NN : Int)))]
  refine hv_istore_n (lv2 := [(3, .int (iI ((NN : Int)))), (0, .ref (a0)), (1, .ref (t)), (2, .ref (qn))]) E dX5_learn_11 rfl (by decide) rfl rfl ?_
  refine hv_iload_n E dX5_learn_12 rfl 0 rfl rfl ?_
  refine hv_sipush E dX5_learn_13 (by decide +kernel) rfl ?_
  refine hv_icmp_gt E 30 dX5_learn_16 (by decide) ⟨by omega, by omega⟩ ⟨by omega, by omega⟩ rfl (fun c1 => ?_) (fun c1 => ?_)
  · refine hv_iconst E dX5_learn_30 rfl ?_
    refine hv_topi (show iI (0) = bI (false) from rfl) ?_
    exact hv_zret E dX5_learn_31 hr ⟨false, _, _, rfl, rfl, fun h => (by cases h), fun _ S => pI_big (by rw [← hNN]; omega) S⟩
  · refine hv_aload_n E dX5_learn_19 rfl 2 rfl rfl ?_
    refine hv_callVI (na := 0) (As := []) (st := []) E (c4_held l D K hT) dX5_learn_20 hT.1 (show vwCl[3]? = some (RX4, TX4, 3) from rfl) gL_X5_41 gV_X4_held gI_X4_held gC_X4_held gZ_X4 (by decide +kernel) rfl ⟨Nat.le_of_ble_eq_true rfl, Nat.le_of_ble_eq_true rfl⟩ (Nat.le_of_ble_eq_true rfl) ⟨Nat.zero_le _, Nat.zero_le _⟩ rfl rfl (fun r w2 hp => ?_)
    rw [hp.1, hp.2]
    show hm_V p l e (hm_rm 5 0 0) s m args below meth c D (hm_A w s.heap.size) 10 0 0 (MQ below (hm_Qi D w s.heap.size (fun r w2 => ∃ (y : Bool) (f2 : Nat → Int32) (P2 : Int), r = bI y ∧ w2 = uM K w t tw wn tf L P2 f2 ∧ (y = true → isC (tb tf L) L (cdP (mem f2))) ∧ (y = false → ∀ S, ¬ isC (tb tf L) L (cdP S)))) args s 0 0 (hm_A w s.heap.size)) (uM K w t tw wn tf L (P0) f1) 23 [(3, .int (iI ((NN : Int)))), (0, .ref (a0)), (1, .ref (t)), (2, .ref (qn))] [.int (iI (L))]
    refine hv_iload_n E dX5_learn_23 rfl 0 rfl rfl ?_
    obtain ⟨BT, hBT⟩ : ∃ z, z = (if NN = 0 then 13 else 13 + NN * lw NN + NN + 4096 / 2 ^ lw NN) := ⟨_, rfl⟩
    have hBTb : BT ≤ 8205 := by
      rw [hBT]
      split
      · omega
      · exact lw_mul (by omega) (by omega)
    refine hv_callSI (na := 1) (As := [.int (iI ((NN : Int)))]) (st := [.int (iI (L))]) E (c5_bitsForAmount l D K (NN : Int) (by omega) (by omega)) dX5_learn_24 gL_X5_15 gS_X5_bitsForAmount gC_X5_bitsForAmount gZ_X5 (by decide +kernel) rfl ⟨Nat.le_of_ble_eq_true rfl, Nat.le_of_ble_eq_true rfl⟩ (Nat.le_of_ble_eq_true rfl) ⟨Nat.zero_le _, Nat.zero_le _⟩ rfl rfl (fun r w2 hp => ?_)
    rw [hp.1, hp.2, show (if (NN : Int) = 0 then 13 else 13 + (((NN : Int).toNat * lw (NN : Int).toNat : Nat) : Int) + (NN : Int) + ((4096 / 2 ^ lw (NN : Int).toNat : Nat) : Int)) = (BT : Int) by
      rw [Int.toNat_natCast, hBT]
      split
      · rw [if_pos (by omega)]; rfl
      · rw [if_neg (by omega)]; push_cast; rfl]
    show hm_V p l e (hm_rm 5 0 0) s m args below meth c D (hm_A w s.heap.size) 10 0 0 (MQ below (hm_Qi D w s.heap.size (fun r w2 => ∃ (y : Bool) (f2 : Nat → Int32) (P2 : Int), r = bI y ∧ w2 = uM K w t tw wn tf L P2 f2 ∧ (y = true → isC (tb tf L) L (cdP (mem f2))) ∧ (y = false → ∀ S, ¬ isC (tb tf L) L (cdP S)))) args s 0 0 (hm_A w s.heap.size)) (uM K w t tw wn tf L (P0) f1) 27 [(3, .int (iI ((NN : Int)))), (0, .ref (a0)), (1, .ref (t)), (2, .ref (qn))] [.int (iI ((BT : Int))), .int (iI (L))]
    refine hv_icmp_eq E 32 dX5_learn_27 (by decide) ⟨by omega, by omega⟩ ⟨by omega, by omega⟩ rfl (fun c2 => ?_) (fun c2 => ?_)
    · refine hv_iload_n E dX5_learn_32 rfl 0 rfl rfl ?_
      refine hv_callSI (na := 1) (As := [.int (iI ((NN : Int)))]) (st := []) E (c5_lowBits l D K (NN : Int) (by omega) (by omega)) dX5_learn_33 gL_X5_44 gS_X5_lowBits gC_X5_lowBits gZ_X5 (by decide +kernel) rfl ⟨Nat.le_of_ble_eq_true rfl, Nat.le_of_ble_eq_true rfl⟩ (Nat.le_of_ble_eq_true rfl) ⟨Nat.zero_le _, Nat.zero_le _⟩ rfl rfl (fun r w2 hp => ?_)
      obtain ⟨⟨lo, hr1, hlo, hlw⟩, hw2⟩ := hp
      rw [Int.toNat_natCast] at hlw
      rw [hr1, hw2]
      show hm_V p l e (hm_rm 5 0 0) s m args below meth c D (hm_A w s.heap.size) 10 0 0 (MQ below (hm_Qi D w s.heap.size (fun r w2 => ∃ (y : Bool) (f2 : Nat → Int32) (P2 : Int), r = bI y ∧ w2 = uM K w t tw wn tf L P2 f2 ∧ (y = true → isC (tb tf L) L (cdP (mem f2))) ∧ (y = false → ∀ S, ¬ isC (tb tf L) L (cdP S)))) args s 0 0 (hm_A w s.heap.size)) (uM K w t tw wn tf L (P0) f1) 36 [(3, .int (iI ((NN : Int)))), (0, .ref (a0)), (1, .ref (t)), (2, .ref (qn))] [.int (iI ((lo : Int)))]
      refine hv_istore (lv2 := [(4, .int (iI ((lo : Int)))), (3, .int (iI ((NN : Int)))), (0, .ref (a0)), (1, .ref (t)), (2, .ref (qn))]) E dX5_learn_36 (by decide) rfl rfl ?_
      refine hv_iconst E dX5_learn_38 rfl ?_
      refine hv_istore (lv2 := [(5, .int (iI (0))), (4, .int (iI ((lo : Int)))), (3, .int (iI ((NN : Int)))), (0, .ref (a0)), (1, .ref (t)), (2, .ref (qn))]) E dX5_learn_39 (by decide) rfl rfl ?_
      refine hv_iconst E dX5_learn_41 rfl ?_
      refine hv_istore (lv2 := [(6, .int (iI (0))), (5, .int (iI (0))), (4, .int (iI ((lo : Int)))), (3, .int (iI ((NN : Int)))), (0, .ref (a0)), (1, .ref (t)), (2, .ref (qn))]) E dX5_learn_42 (by decide) rfl rfl ?_
      refine hv_iconst E dX5_learn_44 rfl ?_
      refine hv_istore (lv2 := [(7, .int (iI ((-1)))), (6, .int (iI (0))), (5, .int (iI (0))), (4, .int (iI ((lo : Int)))), (3, .int (iI ((NN : Int)))), (0, .ref (a0)), (1, .ref (t)), (2, .ref (qn))]) E dX5_learn_45 (by decide) rfl rfl ?_
      refine hv_bipush E dX5_learn_47 (by decide +kernel) rfl ?_
      refine hv_iload_n E dX5_learn_49 rfl 4 rfl rfl ?_
      refine hv_iload E dX5_learn_50 3 rfl rfl ?_
      refine hv_imul E dX5_learn_52 rfl ?_
      obtain ⟨NL, hNL⟩ : ∃ z, z = NN * lo := ⟨_, rfl⟩
      refine hv_topi (show iI (((NN : Int)) * ((lo : Int))) = iI (((NL : Nat) : Int)) from (by rw [hNL]; push_cast; rfl)) ?_
      have hNLb : NL ≤ 4096 * 12 := by rw [hNL]; exact Nat.mul_le_mul (by omega) hlo
      refine hv_iadd E dX5_learn_53 rfl ?_
      refine hv_istore (lv2 := [(8, .int (iI (13 + (((NL : Nat) : Int))))), (7, .int (iI ((-1)))), (6, .int (iI (0))), (5, .int (iI (0))), (4, .int (iI ((lo : Int)))), (3, .int (iI ((NN : Int)))), (0, .ref (a0)), (1, .ref (t)), (2, .ref (qn))]) E dX5_learn_54 (by decide) rfl rfl ?_
      rw [show (13 : Int) + (NL : Int) = ((13 + NL + 0 + 0 : Nat) : Int) by omega]
      show hm_V p l e (hm_rm 5 0 0) s m args below meth c D (hm_A w s.heap.size) 10 0 0 (MQ below (hm_Qi D w s.heap.size (fun r w2 => ∃ (y : Bool) (f2 : Nat → Int32) (P2 : Int), r = bI y ∧ w2 = uM K w t tw wn tf L P2 f2 ∧ (y = true → isC (tb tf L) L (cdP (mem f2))) ∧ (y = false → ∀ S, ¬ isC (tb tf L) L (cdP S)))) args s 0 0 (hm_A w s.heap.size)) (uM K w t tw wn tf L (P0) f1) 56 [(8, .int (iI (((13 + NL + 0 + 0 : Nat) : Int)))), (7, .int (iI (((0 : Nat) : Int) - 1))), (6, .int (iI (((0 : Nat) : Int)))), (5, .int (iI (((0 : Nat) : Int)))), (4, .int (iI ((lo : Int)))), (3, .int (iI ((NN : Int)))), (0, .ref (a0)), (1, .ref (t)), (2, .ref (qn))] []
      rcases (show NN = 0 ∨ 1 ≤ NN by omega) with hn0 | hn1
      · have hL13 : L = 13 := by rw [hBT, if_pos hn0] at c2; exact c2
        have hNL0 : NL = 0 := by rw [hNL, hn0, Nat.zero_mul]
        refine hv_iload E dX5_learn_56 0 rfl rfl ?_
        refine hv_aload_n E dX5_learn_58 rfl 7 rfl rfl ?_
        refine hv_callVI (na := 0) (As := []) (st := [.int (iI (((13 + NL + 0 + 0 : Nat) : Int)))]) E (c4_held l D K hT) dX5_learn_59 hT.1 (show vwCl[3]? = some (RX4, TX4, 3) from rfl) gL_X5_41 gV_X4_held gI_X4_held gC_X4_held gZ_X4 (by decide +kernel) rfl ⟨Nat.le_of_ble_eq_true rfl, Nat.le_of_ble_eq_true rfl⟩ (Nat.le_of_ble_eq_true rfl) ⟨Nat.zero_le _, Nat.zero_le _⟩ rfl rfl (fun r w2 hp => ?_)
        rw [hp.1, hp.2]
        show hm_V p l e (hm_rm 5 0 0) s m args below meth c D (hm_A w s.heap.size) 10 0 0 (MQ below (hm_Qi D w s.heap.size (fun r w2 => ∃ (y : Bool) (f2 : Nat → Int32) (P2 : Int), r = bI y ∧ w2 = uM K w t tw wn tf L P2 f2 ∧ (y = true → isC (tb tf L) L (cdP (mem f2))) ∧ (y = false → ∀ S, ¬ isC (tb tf L) L (cdP S)))) args s 0 0 (hm_A w s.heap.size)) (uM K w t tw wn tf L (P0) f1) 62 [(8, .int (iI (((13 + NL + 0 + 0 : Nat) : Int)))), (7, .int (iI (((0 : Nat) : Int) - 1))), (6, .int (iI (((0 : Nat) : Int)))), (5, .int (iI (((0 : Nat) : Int)))), (4, .int (iI ((lo : Int)))), (3, .int (iI ((NN : Int)))), (0, .ref (a0)), (1, .ref (t)), (2, .ref (qn))] [.int (iI (L)), .int (iI (((13 + NL + 0 + 0 : Nat) : Int)))]
        refine hv_icmp_ge E 144 dX5_learn_62 (by decide) ⟨by omega, by omega⟩ ⟨by omega, by omega⟩ rfl (fun d1 => ?_) (fun d1 => ?_)
        · refine hv_iload E dX5_learn_144 3 rfl rfl ?_
          refine hv_iload_n E dX5_learn_146 rfl 5 rfl rfl ?_
          refine hv_icmp_ne E 154 dX5_learn_147 (by decide) ⟨by omega, by omega⟩ ⟨by omega, by omega⟩ rfl (fun d2 => ?_) (fun d2 => ?_)
          · exact absurd d2 (by omega)
          · refine hv_iconst E dX5_learn_150 rfl ?_
            refine hv_goto E 155 dX5_learn_151 (by decide) ?_
            refine hv_topi (show iI (1) = bI (true) from rfl) ?_
            exact hv_zret E dX5_learn_155 hr ⟨true, f1, P0, rfl, rfl, fun _ => pI_none hf1 (by rw [← hNN]; exact hn0) hL13, fun h => (by cases h)⟩
        · exact absurd d1 (by omega)
      · have hlw := hlw (by omega)
        have hLL : L = ((13 + NN * lo + NN + 4096 / 2 ^ lo : Nat) : Int) := by rw [c2, hBT, if_neg (by omega), ← hlw]
        have LP : ∀ (k : Nat) (kk h a : Nat) (f : Nat → Int32), (L - ((13 + NL + kk + h : Nat) : Int) < (k : Int)) → (((13 + NL + kk + h : Nat) : Int) ≤ L) → (a ≤ 4096) → (pI (tb tf L) L NN lo (mem f) a h kk) → hm_V p l e (hm_rm 5 0 0) s m args below meth c D (hm_A w s.heap.size) 10 0 0 (MQ below (hm_Qi D w s.heap.size (fun r w2 => ∃ (y : Bool) (f2 : Nat → Int32) (P2 : Int), r = bI y ∧ w2 = uM K w t tw wn tf L P2 f2 ∧ (y = true → isC (tb tf L) L (cdP (mem f2))) ∧ (y = false → ∀ S, ¬ isC (tb tf L) L (cdP S)))) args s 0 0 (hm_A w s.heap.size)) (uM K w t tw wn tf L (P0) f) 56 [(8, .int (iI (((13 + NL + kk + h : Nat) : Int)))), (7, .int (iI ((a : Int) - 1))), (6, .int (iI ((h : Int)))), (5, .int (iI ((kk : Int)))), (4, .int (iI ((lo : Int)))), (3, .int (iI ((NN : Int)))), (0, .ref (a0)), (1, .ref (t)), (2, .ref (qn))] [] := by
          intro k
          induction k with
          | zero =>
            intro kk h a f hk hi a4 hpI
            exact absurd hk (by omega)
          | succ k ih =>
            intro kk h a f hk hi a4 hpI
            clear hT hN
            have hT : tAt K (uM K w t tw wn tf L (P0) f) t tw tf L (P0) := tAt_uM ht hn
            have hN : nAt K (uM K w t tw wn tf L (P0) f) qn wn f := nAt_uM ht hn
            have hkn := hpI.1
            refine hv_iload E dX5_learn_56 0 rfl rfl ?_
            refine hv_aload_n E dX5_learn_58 rfl 7 rfl rfl ?_
            refine hv_callVI (na := 0) (As := []) (st := [.int (iI (((13 + NL + kk + h : Nat) : Int)))]) E (c4_held l D K hT) dX5_learn_59 hT.1 (show vwCl[3]? = some (RX4, TX4, 3) from rfl) gL_X5_41 gV_X4_held gI_X4_held gC_X4_held gZ_X4 (by decide +kernel) rfl ⟨Nat.le_of_ble_eq_true rfl, Nat.le_of_ble_eq_true rfl⟩ (Nat.le_of_ble_eq_true rfl) ⟨Nat.zero_le _, Nat.zero_le _⟩ rfl rfl (fun r w2 hp => ?_)
            rw [hp.1, hp.2]
            show hm_V p l e (hm_rm 5 0 0) s m args below meth c D (hm_A w s.heap.size) 10 0 0 (MQ below (hm_Qi D w s.heap.size (fun r w2 => ∃ (y : Bool) (f2 : Nat → Int32) (P2 : Int), r = bI y ∧ w2 = uM K w t tw wn tf L P2 f2 ∧ (y = true → isC (tb tf L) L (cdP (mem f2))) ∧ (y = false → ∀ S, ¬ isC (tb tf L) L (cdP S)))) args s 0 0 (hm_A w s.heap.size)) (uM K w t tw wn tf L (P0) f) 62 [(8, .int (iI (((13 + NL + kk + h : Nat) : Int)))), (7, .int (iI ((a : Int) - 1))), (6, .int (iI ((h : Int)))), (5, .int (iI ((kk : Int)))), (4, .int (iI ((lo : Int)))), (3, .int (iI ((NN : Int)))), (0, .ref (a0)), (1, .ref (t)), (2, .ref (qn))] [.int (iI (L)), .int (iI (((13 + NL + kk + h : Nat) : Int)))]
            refine hv_icmp_ge E 144 dX5_learn_62 (by decide) ⟨by omega, by omega⟩ ⟨by omega, by omega⟩ rfl (fun c3 => ?_) (fun c3 => ?_)
            · refine hv_iload E dX5_learn_144 3 rfl rfl ?_
              refine hv_iload_n E dX5_learn_146 rfl 5 rfl rfl ?_
              refine hv_icmp_ne E 154 dX5_learn_147 (by decide) ⟨by omega, by omega⟩ ⟨by omega, by omega⟩ rfl (fun c4 => ?_) (fun c4 => ?_)
              · refine hv_iconst E dX5_learn_154 rfl ?_
                refine hv_topi (show iI (0) = bI (false) from rfl) ?_
                exact hv_zret E dX5_learn_155 hr ⟨false, _, _, rfl, rfl, fun h => (by cases h), fun _ S => pI_fail hpI hNN hn1 hlw (by rw [← hNL]; omega) (by omega) S⟩
              · refine hv_iconst E dX5_learn_150 rfl ?_
                refine hv_goto E 155 dX5_learn_151 (by decide) ?_
                refine hv_topi (show iI (1) = bI (true) from rfl) ?_
                have hkk : kk = NN := by omega
                rw [hkk] at hpI
                exact hv_zret E dX5_learn_155 hr ⟨true, f, P0, rfl, rfl, fun _ => pI_end hpI hNN hn1 (by omega) hlw hLL (by rw [← hNL]; omega), fun h => (by cases h)⟩
            · have hlt : ((13 + NN * lo + kk + h : Nat) : Int) < L := by rw [← hNL]; omega
              refine hv_aload_n E dX5_learn_65 rfl 7 rfl rfl ?_
              refine hv_iload E dX5_learn_66 0 rfl rfl ?_
              refine hv_callVI (na := 1) (As := [.int (iI (((13 + NL + kk + h : Nat) : Int)))]) (st := []) E (c4_bitAt l D K ((13 + NL + kk + h : Nat) : Int) ⟨by omega, by omega⟩ hT hL0 hL1) dX5_learn_68 hT.1 (show vwCl[3]? = some (RX4, TX4, 3) from rfl) gL_X5_47 gV_X4_bitAt gI_X4_bitAt gC_X4_bitAt gZ_X4 (by decide +kernel) rfl ⟨Nat.le_of_ble_eq_true rfl, Nat.le_of_ble_eq_true rfl⟩ (Nat.le_of_ble_eq_true rfl) ⟨Nat.zero_le _, Nat.zero_le _⟩ rfl rfl (fun r w2 hp => ?_)
              rw [hp.1, hp.2, decide_eq_true (show (0 : Int) ≤ ((13 + NL + kk + h : Nat) : Int) by omega), Bool.true_and, Int.toNat_natCast]
              show hm_V p l e (hm_rm 5 0 0) s m args below meth c D (hm_A w s.heap.size) 10 0 0 (MQ below (hm_Qi D w s.heap.size (fun r w2 => ∃ (y : Bool) (f2 : Nat → Int32) (P2 : Int), r = bI y ∧ w2 = uM K w t tw wn tf L P2 f2 ∧ (y = true → isC (tb tf L) L (cdP (mem f2))) ∧ (y = false → ∀ S, ¬ isC (tb tf L) L (cdP S)))) args s 0 0 (hm_A w s.heap.size)) (uM K w t tw wn tf L (P0) f) 71 [(8, .int (iI (((13 + NL + kk + h : Nat) : Int)))), (7, .int (iI ((a : Int) - 1))), (6, .int (iI ((h : Int)))), (5, .int (iI ((kk : Int)))), (4, .int (iI ((lo : Int)))), (3, .int (iI ((NN : Int)))), (0, .ref (a0)), (1, .ref (t)), (2, .ref (qn))] [.int (bI (tb tf L (13 + NL + kk + h)))]
              refine hv_if_neB E 80 dX5_learn_71 (by decide) rfl (fun c5 => ?_) (fun c5 => ?_)
              · rw [hNL] at c5
                refine hv_iload E dX5_learn_80 2 rfl rfl ?_
                refine hv_iload E dX5_learn_82 4 rfl rfl ?_
                refine hv_ishlR E dX5_learn_84 rfl rfl ?_
                obtain ⟨HL, hHL⟩ : ∃ z, z = h * 2 ^ lo := ⟨_, rfl⟩
                have hpw : 2 ^ lo ≤ 2 ^ 12 := Nat.pow_le_pow_right (by omega) hlo
                have hHLb : HL ≤ 8210 * 2 ^ 12 := by rw [hHL]; exact Nat.mul_le_mul (by omega) hpw
                refine hv_topi (show (iI ((h : Int))) <<< ((iI ((lo : Int))) &&& 31) = iI (((HL : Nat) : Int)) from (by
                      have h9 := iI_shlN (h : Int) (k := (lo : Int)) (by omega) (by omega)
                      rw [Int.toNat_natCast] at h9
                      rw [h9, hHL]; push_cast; rfl)) ?_
                refine hv_aload_n E dX5_learn_85 rfl 7 rfl rfl ?_
                refine hv_bipush E dX5_learn_86 (by decide +kernel) rfl ?_
                refine hv_iload E dX5_learn_88 3 rfl rfl ?_
                refine hv_iload E dX5_learn_90 4 rfl rfl ?_
                refine hv_imul E dX5_learn_92 rfl ?_
                obtain ⟨KL, hKL⟩ : ∃ z, z = kk * lo := ⟨_, rfl⟩
                have hKLb : KL ≤ 4096 * 12 := by rw [hKL]; exact Nat.mul_le_mul (by omega) hlo
                refine hv_topi (show iI (((kk : Int)) * ((lo : Int))) = iI (((KL : Nat) : Int)) from (by rw [hKL]; push_cast; rfl)) ?_
                refine hv_iadd E dX5_learn_93 rfl ?_
                refine hv_iload E dX5_learn_94 4 rfl rfl ?_
                refine hv_callVI (na := 2) (As := [.int (iI (13 + (((KL : Nat) : Int)))), .int (iI ((lo : Int)))]) (st := [.int (iI (((HL : Nat) : Int)))]) E (c4_valueAt l D K (13 + (KL : Int)) (lo : Int) (by omega) (by omega) (by omega) (by omega) hT hL0 hL1) dX5_learn_96 hT.1 (show vwCl[3]? = some (RX4, TX4, 3) from rfl) gL_X5_37 gV_X4_valueAt gI_X4_valueAt gC_X4_valueAt gZ_X4 (by decide +kernel) rfl ⟨Nat.le_of_ble_eq_true rfl, Nat.le_of_ble_eq_true rfl⟩ (Nat.le_of_ble_eq_true rfl) ⟨Nat.zero_le _, Nat.zero_le _⟩ rfl rfl (fun r w2 hp => ?_)
                rw [show (13 + (KL : Int)).toNat = 13 + KL by omega, Int.toNat_natCast] at hp
                obtain ⟨B, hB⟩ : ∃ zz, zz = bv (tb tf L) (13 + KL) lo := ⟨_, rfl⟩
                have hBb := bv_lt (tb tf L) (13 + KL) lo
                rw [← hB] at hp hBb
                have hBb2 : B < 4096 := Nat.lt_of_lt_of_le hBb hpw
                rw [hp.1, hp.2]
                show hm_V p l e (hm_rm 5 0 0) s m args below meth c D (hm_A w s.heap.size) 10 0 0 (MQ below (hm_Qi D w s.heap.size (fun r w2 => ∃ (y : Bool) (f2 : Nat → Int32) (P2 : Int), r = bI y ∧ w2 = uM K w t tw wn tf L P2 f2 ∧ (y = true → isC (tb tf L) L (cdP (mem f2))) ∧ (y = false → ∀ S, ¬ isC (tb tf L) L (cdP S)))) args s 0 0 (hm_A w s.heap.size)) (uM K w t tw wn tf L (P0) f) 99 [(8, .int (iI (((13 + NL + kk + h : Nat) : Int)))), (7, .int (iI ((a : Int) - 1))), (6, .int (iI ((h : Int)))), (5, .int (iI ((kk : Int)))), (4, .int (iI ((lo : Int)))), (3, .int (iI ((NN : Int)))), (0, .ref (a0)), (1, .ref (t)), (2, .ref (qn))] [.int (iI ((B : Int))), .int (iI (((HL : Nat) : Int)))]
                have hv : HL + B = h * 2 ^ lo + bv (tb tf L) (13 + kk * lo) lo := by rw [hHL, hB, hKL]
                refine hv_iadd E dX5_learn_99 rfl ?_
                refine hv_istore (lv2 := [(9, .int (iI ((((HL : Nat) : Int)) + ((B : Int))))), (8, .int (iI (((13 + NL + kk + h : Nat) : Int)))), (7, .int (iI ((a : Int) - 1))), (6, .int (iI ((h : Int)))), (5, .int (iI ((kk : Int)))), (4, .int (iI ((lo : Int)))), (3, .int (iI ((NN : Int)))), (0, .ref (a0)), (1, .ref (t)), (2, .ref (qn))]) E dX5_learn_100 (by decide) rfl rfl ?_
                refine hv_iload E dX5_learn_102 4 rfl rfl ?_
                refine hv_iload_n E dX5_learn_104 rfl 6 rfl rfl ?_
                refine hv_icmp_eq E 123 dX5_learn_105 (by decide) ⟨by omega, by omega⟩ ⟨by omega, by omega⟩ rfl (fun c6 => ?_) (fun c6 => ?_)
                · refine hv_iconst E dX5_learn_123 rfl ?_
                  refine hv_topi (show iI (0) = bI (false) from rfl) ?_
                  exact hv_zret E dX5_learn_124 hr ⟨false, _, _, rfl, rfl, fun h => (by cases h), fun _ S hS => (by
                        have h9 := pI_ok hpI hNN hn1 hlw hlt c5 hS
                        rw [← hv] at h9
                        omega)⟩
                · refine hv_iload E dX5_learn_108 0 rfl rfl ?_
                  refine hv_iload E dX5_learn_110 2 rfl rfl ?_
                  refine hv_icmp_le E 123 dX5_learn_112 (by decide) ⟨by omega, by omega⟩ ⟨by omega, by omega⟩ rfl (fun c7 => ?_) (fun c7 => ?_)
                  · refine hv_iconst E dX5_learn_123 rfl ?_
                    refine hv_topi (show iI (0) = bI (false) from rfl) ?_
                    exact hv_zret E dX5_learn_124 hr ⟨false, _, _, rfl, rfl, fun h => (by cases h), fun _ S hS => (by
                          have h9 := pI_ok hpI hNN hn1 hlw hlt c5 hS
                          rw [← hv] at h9
                          omega)⟩
                  · refine hv_iload E dX5_learn_115 0 rfl rfl ?_
                    refine hv_sipush E dX5_learn_117 (by decide +kernel) rfl ?_
                    refine hv_icmp_lt E 125 dX5_learn_120 (by decide) ⟨by omega, by omega⟩ ⟨by omega, by omega⟩ rfl (fun c8 => ?_) (fun c8 => ?_)
                    · refine hv_aload_n E dX5_learn_125 rfl 9 rfl rfl ?_
                      refine hv_iload E dX5_learn_126 0 rfl rfl ?_
                      refine hv_callVV (na := 1) (As := [.int (iI ((((HL : Nat) : Int)) + ((B : Int))))]) (st := []) E (c2_add l D K ((HL : Int) + (B : Int)) (by omega) (by omega) hN) dX5_learn_128 hN.1 (show vwCl[1]? = some (RX2, TX2, 1) from rfl) gL_X5_50 gV_X2_add gI_X2_add gC_X2_add gZ_X2 (by decide +kernel) rfl ⟨Nat.le_of_ble_eq_true rfl, Nat.le_of_ble_eq_true rfl⟩ (Nat.le_of_ble_eq_true rfl) ⟨Nat.zero_le _, Nat.zero_le _⟩ rfl rfl (fun w2 hp => ?_)
                      obtain ⟨f2, e3, hf2⟩ := hp
                      rw [uM_up] at e3
                      rw [e3]
                      show hm_V p l e (hm_rm 5 0 0) s m args below meth c D (hm_A w s.heap.size) 10 0 0 (MQ below (hm_Qi D w s.heap.size (fun r w2 => ∃ (y : Bool) (f2 : Nat → Int32) (P2 : Int), r = bI y ∧ w2 = uM K w t tw wn tf L P2 f2 ∧ (y = true → isC (tb tf L) L (cdP (mem f2))) ∧ (y = false → ∀ S, ¬ isC (tb tf L) L (cdP S)))) args s 0 0 (hm_A w s.heap.size)) (uM K w t tw wn tf L (P0) f2) 131 [(9, .int (iI ((((HL : Nat) : Int)) + ((B : Int))))), (8, .int (iI (((13 + NL + kk + h : Nat) : Int)))), (7, .int (iI ((a : Int) - 1))), (6, .int (iI ((h : Int)))), (5, .int (iI ((kk : Int)))), (4, .int (iI ((lo : Int)))), (3, .int (iI ((NN : Int)))), (0, .ref (a0)), (1, .ref (t)), (2, .ref (qn))] []
                      refine hv_iload E dX5_learn_131 0 rfl rfl ?_
                      refine hv_istore (lv2 := [(7, .int (iI ((((HL : Nat) : Int)) + ((B : Int))))), (9, .int (iI ((((HL : Nat) : Int)) + ((B : Int))))), (8, .int (iI (((13 + NL + kk + h : Nat) : Int)))), (6, .int (iI ((h : Int)))), (5, .int (iI ((kk : Int)))), (4, .int (iI ((lo : Int)))), (3, .int (iI ((NN : Int)))), (0, .ref (a0)), (1, .ref (t)), (2, .ref (qn))]) E dX5_learn_133 (by decide) rfl rfl ?_
                      refine hv_iinc (lv2 := [(5, .int (iI (((kk : Int)) + 1))), (7, .int (iI ((((HL : Nat) : Int)) + ((B : Int))))), (9, .int (iI ((((HL : Nat) : Int)) + ((B : Int))))), (8, .int (iI (((13 + NL + kk + h : Nat) : Int)))), (6, .int (iI ((h : Int)))), (4, .int (iI ((lo : Int)))), (3, .int (iI ((NN : Int)))), (0, .ref (a0)), (1, .ref (t)), (2, .ref (qn))]) E dX5_learn_135 4 rfl rfl (by decide) rfl rfl ?_
                      refine hv_iinc (lv2 := [(8, .int (iI ((((13 + NL + kk + h : Nat) : Int)) + 1))), (5, .int (iI (((kk : Int)) + 1))), (7, .int (iI ((((HL : Nat) : Int)) + ((B : Int))))), (9, .int (iI ((((HL : Nat) : Int)) + ((B : Int))))), (6, .int (iI ((h : Int)))), (4, .int (iI ((lo : Int)))), (3, .int (iI ((NN : Int)))), (0, .ref (a0)), (1, .ref (t)), (2, .ref (qn))]) E dX5_learn_138 3 rfl rfl (by decide) rfl rfl ?_
                      refine hv_goto E 56 dX5_learn_141 (by decide) ?_
                      have hst := pI_one (U2 := mem f2) (v := HL + B) hpI hNN hn1 hlw hlt c5 hv (by omega) (by omega) (by omega) (fun u => by rw [hf2 u, show ((HL : Int) + (B : Int)).toNat = HL + B by omega])
                      rw [show ((13 + NL + kk + h : Nat) : Int) + 1 = ((13 + NL + (kk + 1) + h : Nat) : Int) by omega, show (HL : Int) + (B : Int) = ((HL + B + 1 : Nat) : Int) - 1 by omega]
                      show hm_V p l e (hm_rm 5 0 0) s m args below meth c D (hm_A w s.heap.size) 10 0 0 (MQ below (hm_Qi D w s.heap.size (fun r w2 => ∃ (y : Bool) (f2 : Nat → Int32) (P2 : Int), r = bI y ∧ w2 = uM K w t tw wn tf L P2 f2 ∧ (y = true → isC (tb tf L) L (cdP (mem f2))) ∧ (y = false → ∀ S, ¬ isC (tb tf L) L (cdP S)))) args s 0 0 (hm_A w s.heap.size)) (uM K w t tw wn tf L (P0) f2) 56 [(8, .int (iI (((13 + NL + (kk + 1) + h : Nat) : Int)))), (5, .int (iI (((kk + 1 : Nat) : Int)))), (7, .int (iI (((HL + B + 1 : Nat) : Int) - 1))), (9, .int (iI (((HL + B + 1 : Nat) : Int) - 1))), (6, .int (iI ((h : Int)))), (4, .int (iI ((lo : Int)))), (3, .int (iI ((NN : Int)))), (0, .ref (a0)), (1, .ref (t)), (2, .ref (qn))] []
                      refine hv_sub (lv2 := [(8, .int (iI (((13 + NL + (kk + 1) + h : Nat) : Int)))), (7, .int (iI (((HL + B + 1 : Nat) : Int) - 1))), (6, .int (iI ((h : Int)))), (5, .int (iI (((kk + 1 : Nat) : Int)))), (4, .int (iI ((lo : Int)))), (3, .int (iI ((NN : Int)))), (0, .ref (a0)), (1, .ref (t)), (2, .ref (qn))]) [0, 2, 4, 1, 5, 6, 7, 8, 9] rfl ?_
                      exact ih (kk + 1) h (HL + B + 1) f2 (by omega) (by omega) (by omega) hst
                    · refine hv_iconst E dX5_learn_123 rfl ?_
                      refine hv_topi (show iI (0) = bI (false) from rfl) ?_
                      exact hv_zret E dX5_learn_124 hr ⟨false, _, _, rfl, rfl, fun h => (by cases h), fun _ S hS => (by
                            have h9 := pI_ok hpI hNN hn1 hlw hlt c5 hS
                            rw [← hv] at h9
                            omega)⟩
              · rw [hNL] at c5
                refine hv_iinc (lv2 := [(6, .int (iI (((h : Int)) + 1))), (8, .int (iI (((13 + NL + kk + h : Nat) : Int)))), (7, .int (iI ((a : Int) - 1))), (5, .int (iI ((kk : Int)))), (4, .int (iI ((lo : Int)))), (3, .int (iI ((NN : Int)))), (0, .ref (a0)), (1, .ref (t)), (2, .ref (qn))]) E dX5_learn_74 2 rfl rfl (by decide) rfl rfl ?_
                refine hv_goto E 138 dX5_learn_77 (by decide) ?_
                refine hv_iinc (lv2 := [(8, .int (iI ((((13 + NL + kk + h : Nat) : Int)) + 1))), (6, .int (iI (((h : Int)) + 1))), (7, .int (iI ((a : Int) - 1))), (5, .int (iI ((kk : Int)))), (4, .int (iI ((lo : Int)))), (3, .int (iI ((NN : Int)))), (0, .ref (a0)), (1, .ref (t)), (2, .ref (qn))]) E dX5_learn_138 1 rfl rfl (by decide) rfl rfl ?_
                refine hv_goto E 56 dX5_learn_141 (by decide) ?_
                have hst := pI_zero hpI hNN hn1 hlw hlt c5
                rw [show ((13 + NL + kk + h : Nat) : Int) + 1 = ((13 + NL + kk + (h + 1) : Nat) : Int) by omega]
                show hm_V p l e (hm_rm 5 0 0) s m args below meth c D (hm_A w s.heap.size) 10 0 0 (MQ below (hm_Qi D w s.heap.size (fun r w2 => ∃ (y : Bool) (f2 : Nat → Int32) (P2 : Int), r = bI y ∧ w2 = uM K w t tw wn tf L P2 f2 ∧ (y = true → isC (tb tf L) L (cdP (mem f2))) ∧ (y = false → ∀ S, ¬ isC (tb tf L) L (cdP S)))) args s 0 0 (hm_A w s.heap.size)) (uM K w t tw wn tf L (P0) f) 56 [(8, .int (iI (((13 + NL + kk + (h + 1) : Nat) : Int)))), (6, .int (iI (((h + 1 : Nat) : Int)))), (7, .int (iI ((a : Int) - 1))), (5, .int (iI ((kk : Int)))), (4, .int (iI ((lo : Int)))), (3, .int (iI ((NN : Int)))), (0, .ref (a0)), (1, .ref (t)), (2, .ref (qn))] []
                refine hv_sub (lv2 := [(8, .int (iI (((13 + NL + kk + (h + 1) : Nat) : Int)))), (7, .int (iI ((a : Int) - 1))), (6, .int (iI (((h + 1 : Nat) : Int)))), (5, .int (iI ((kk : Int)))), (4, .int (iI ((lo : Int)))), (3, .int (iI ((NN : Int)))), (0, .ref (a0)), (1, .ref (t)), (2, .ref (qn))]) [0, 2, 1, 3, 4, 5, 6, 7, 8] rfl ?_
                exact ih kk (h + 1) a f (by omega) (by omega) (by omega) hst
        refine hv_sub (lv2 := [(8, .int (iI (((13 + NL + 0 + 0 : Nat) : Int)))), (7, .int (iI (((0 : Nat) : Int) - 1))), (6, .int (iI (((0 : Nat) : Int)))), (5, .int (iI (((0 : Nat) : Int)))), (4, .int (iI ((lo : Int)))), (3, .int (iI ((NN : Int)))), (0, .ref (a0)), (1, .ref (t)), (2, .ref (qn))]) [0, 1, 2, 3, 4, 5, 6, 7, 8] rfl ?_
        exact LP ((L - ((13 + NL + 0 + 0 : Nat) : Int)).toNat + 1) 0 0 0 f1 (by omega) (by
          have h9 := hLL
          rw [← hNL] at h9
          generalize 4096 / 2 ^ lo = zz at h9
          omega) (by omega) (pI_0 hf1)
    · refine hv_iconst E dX5_learn_30 rfl ?_
      refine hv_topi (show iI (0) = bI (false) from rfl) ?_
      exact hv_zret E dX5_learn_31 hr ⟨false, _, _, rfl, rfl, fun h => (by cases h), fun _ S => pI_len hNN (by rw [← hBT]; exact c2) S⟩
