theorem uM_uM {K : Nat → ClassId} {w : hm_M} {t tw qn wn : Nat} {tf f0 f g : Nat → Int32} {L P0 P P2 : Int} (ht : tAt K w t tw tf L P0) (hn : nAt K w qn wn f0) : uM K (uM K w t tw wn tf L P f) t tw wn tf L P2 g = uM K w t tw wn tf L P2 g := by
  have h := uM_tM (f := f) (P := P) (P2 := P2) ht hn
  show hm_up (tM K (uM K w t tw wn tf L P f) t tw tf L P2) wn _ = _
  rw [h, uM_up]
set_option maxHeartbeats 4000000 in
set_option maxRecDepth 100000 in
theorem c3_learn (l : Launch) (D : va_G) (K : Nat → ClassId) {w : hm_M} {a0 : Nat} {t tw qn wn : Nat} {tf f0 : Nat → Int32} {L P0 : Int} (ht : tAt K w t tw tf L P0) (hn : nAt K w qn wn f0) (hL0 : 0 ≤ L) (hL1 : L ≤ 8210)  : hm_Ci l D K yX3_learn cX3_learn 8 .boolean 5 [.ref (a0), .ref (t), .ref (qn)] w 0 0 (fun r w2 => ∃ (y : Bool) (f2 : Nat → Int32) (P2 : Int), r = bI y ∧ w2 = uM K w t tw wn tf L P2 f2 ∧ (y = true → isC (tb tf L) L (cdC (mem f2))) ∧ (y = false → ∀ S, ¬ isC (tb tf L) L (cdC S))) := by
  refine hm_enterI (by decide) (Nat.le_of_ble_eq_true rfl) ?_
  intro p e s m args below meth c E hr hnm
  show hm_V p l e (hm_rm 5 0 0) s m args below meth c D (hm_A w s.heap.size) 8 0 0 (MQ below (hm_Qi D w s.heap.size (fun r w2 => ∃ (y : Bool) (f2 : Nat → Int32) (P2 : Int), r = bI y ∧ w2 = uM K w t tw wn tf L P2 f2 ∧ (y = true → isC (tb tf L) L (cdC (mem f2))) ∧ (y = false → ∀ S, ¬ isC (tb tf L) L (cdC S)))) args s 0 0 (hm_A w s.heap.size)) w 0 [(0, .ref (a0)), (1, .ref (t)), (2, .ref (qn))] []
  refine hv_mem (show w = uM K w t tw wn tf L (P0) f0 from uM_id ht hn) ?_
  have hT : tAt K (uM K w t tw wn tf L (P0) f0) t tw tf L (P0) := tAt_uM ht hn
  have hN : nAt K (uM K w t tw wn tf L (P0) f0) qn wn f0 := nAt_uM ht hn
  refine hv_aload_n E dX3_learn_0 rfl 2 rfl rfl ?_
  refine hv_callVV (na := 0) (As := []) (st := []) E (c2_clear l D K hN) dX3_learn_1 hN.1 (show vwCl[1]? = some (RX2, TX2, 1) from rfl) gL_X3_43 gV_X2_clear gI_X2_clear gC_X2_clear gZ_X2 (by decide +kernel) rfl ⟨Nat.le_of_ble_eq_true rfl, Nat.le_of_ble_eq_true rfl⟩ (Nat.le_of_ble_eq_true rfl) ⟨Nat.zero_le _, Nat.zero_le _⟩ rfl rfl (fun w2 hp => ?_)
  obtain ⟨f1, e1, hf1⟩ := hp
  rw [uM_up] at e1
  rw [e1]
  show hm_V p l e (hm_rm 5 0 0) s m args below meth c D (hm_A w s.heap.size) 8 0 0 (MQ below (hm_Qi D w s.heap.size (fun r w2 => ∃ (y : Bool) (f2 : Nat → Int32) (P2 : Int), r = bI y ∧ w2 = uM K w t tw wn tf L P2 f2 ∧ (y = true → isC (tb tf L) L (cdC (mem f2))) ∧ (y = false → ∀ S, ¬ isC (tb tf L) L (cdC S)))) args s 0 0 (hm_A w s.heap.size)) (uM K w t tw wn tf L (P0) f1) 4 [(0, .ref (a0)), (1, .ref (t)), (2, .ref (qn))] []
  clear hT hN
  have hT : tAt K (uM K w t tw wn tf L (P0) f1) t tw tf L (P0) := tAt_uM ht hn
  have hN : nAt K (uM K w t tw wn tf L (P0) f1) qn wn f1 := nAt_uM ht hn
  refine hv_aload_n E dX3_learn_4 rfl 1 rfl rfl ?_
  refine hv_callVV (na := 0) (As := []) (st := []) E (c4_rewind l D K hT) dX3_learn_5 hT.1 (show vwCl[3]? = some (RX4, TX4, 3) from rfl) gL_X3_46 gV_X4_rewind gI_X4_rewind gC_X4_rewind gZ_X4 (by decide +kernel) rfl ⟨Nat.le_of_ble_eq_true rfl, Nat.le_of_ble_eq_true rfl⟩ (Nat.le_of_ble_eq_true rfl) ⟨Nat.zero_le _, Nat.zero_le _⟩ rfl rfl (fun w2 hp => ?_)
  rw [uM_tM ht hn] at hp
  rw [hp]
  show hm_V p l e (hm_rm 5 0 0) s m args below meth c D (hm_A w s.heap.size) 8 0 0 (MQ below (hm_Qi D w s.heap.size (fun r w2 => ∃ (y : Bool) (f2 : Nat → Int32) (P2 : Int), r = bI y ∧ w2 = uM K w t tw wn tf L P2 f2 ∧ (y = true → isC (tb tf L) L (cdC (mem f2))) ∧ (y = false → ∀ S, ¬ isC (tb tf L) L (cdC S)))) args s 0 0 (hm_A w s.heap.size)) (uM K w t tw wn tf L (((0 : Nat) : Int)) f1) 8 [(0, .ref (a0)), (1, .ref (t)), (2, .ref (qn))] []
  clear hT hN
  refine hv_iconst E dX3_learn_8 rfl ?_
  refine hv_istore_n (lv2 := [(3, .int (iI (0))), (0, .ref (a0)), (1, .ref (t)), (2, .ref (qn))]) E dX3_learn_9 rfl (by decide) rfl rfl ?_
  show hm_V p l e (hm_rm 5 0 0) s m args below meth c D (hm_A w s.heap.size) 8 0 0 (MQ below (hm_Qi D w s.heap.size (fun r w2 => ∃ (y : Bool) (f2 : Nat → Int32) (P2 : Int), r = bI y ∧ w2 = uM K w t tw wn tf L P2 f2 ∧ (y = true → isC (tb tf L) L (cdC (mem f2))) ∧ (y = false → ∀ S, ¬ isC (tb tf L) L (cdC S)))) args s 0 0 (hm_A w s.heap.size)) (uM K w t tw wn tf L (((0 : Nat) : Int)) f1) 10 [(3, .int (iI (((0 : Nat) : Int)))), (0, .ref (a0)), (1, .ref (t)), (2, .ref (qn))] []
  have LP : ∀ (k : Nat) (h P : Nat) (f : Nat → Int32), ((16 : Int) - h < (k : Int)) → (h ≤ 16) → (cI (tb tf L) L (mem f) h P) → hm_V p l e (hm_rm 5 0 0) s m args below meth c D (hm_A w s.heap.size) 8 0 0 (MQ below (hm_Qi D w s.heap.size (fun r w2 => ∃ (y : Bool) (f2 : Nat → Int32) (P2 : Int), r = bI y ∧ w2 = uM K w t tw wn tf L P2 f2 ∧ (y = true → isC (tb tf L) L (cdC (mem f2))) ∧ (y = false → ∀ S, ¬ isC (tb tf L) L (cdC S)))) args s 0 0 (hm_A w s.heap.size)) (uM K w t tw wn tf L (((P : Nat) : Int)) f) 10 [(3, .int (iI ((h : Int)))), (0, .ref (a0)), (1, .ref (t)), (2, .ref (qn))] [] := by
    intro k
    induction k with
    | zero =>
      intro h P f hk h16 hc
      exact absurd hk (by omega)
    | succ k ih =>
      intro h P f hk h16 hc
      have hT : tAt K (uM K w t tw wn tf L (((P : Nat) : Int)) f) t tw tf L (((P : Nat) : Int)) := tAt_uM ht hn
      have hN : nAt K (uM K w t tw wn tf L (((P : Nat) : Int)) f) qn wn f := nAt_uM ht hn
      have hPb := cI_P hc
      refine hv_iload_n E dX3_learn_10 rfl 0 rfl rfl ?_
      refine hv_bipush E dX3_learn_11 (by decide +kernel) rfl ?_
      refine hv_icmp_ge E 118 dX3_learn_13 (by decide) ⟨by omega, by omega⟩ ⟨by omega, by omega⟩ rfl (fun c1 => ?_) (fun c1 => ?_)
      · refine hv_aload_n E dX3_learn_118 rfl 2 rfl rfl ?_
        refine hv_callVI (na := 0) (As := []) (st := []) E (c4_isReadToItsEnd l D K ⟨by omega, by omega⟩ hT hL0 hL1) dX3_learn_119 hT.1 (show vwCl[3]? = some (RX4, TX4, 3) from rfl) gL_X3_63 gV_X4_isReadToItsEnd gI_X4_isReadToItsEnd gC_X4_isReadToItsEnd gZ_X4 (by decide +kernel) rfl ⟨Nat.le_of_ble_eq_true rfl, Nat.le_of_ble_eq_true rfl⟩ (Nat.le_of_ble_eq_true rfl) ⟨Nat.zero_le _, Nat.zero_le _⟩ rfl rfl (fun r w2 hp => ?_)
        rw [hp.1, hp.2]
        show hm_V p l e (hm_rm 5 0 0) s m args below meth c D (hm_A w s.heap.size) 8 0 0 (MQ below (hm_Qi D w s.heap.size (fun r w2 => ∃ (y : Bool) (f2 : Nat → Int32) (P2 : Int), r = bI y ∧ w2 = uM K w t tw wn tf L P2 f2 ∧ (y = true → isC (tb tf L) L (cdC (mem f2))) ∧ (y = false → ∀ S, ¬ isC (tb tf L) L (cdC S)))) args s 0 0 (hm_A w s.heap.size)) (uM K w t tw wn tf L (((P : Nat) : Int)) f) 122 [(3, .int (iI ((h : Int)))), (0, .ref (a0)), (1, .ref (t)), (2, .ref (qn))] [.int (bI (decide (((P : Nat) : Int) = L)))]
        have hh : h = 16 := by omega
        rw [hh] at hc
        exact hv_zret E dX3_learn_122 hr ⟨_, f, _, rfl, rfl, fun h => cI_end hc (of_decide_eq_true h), fun h => cI_fail hc (of_decide_eq_false h)⟩
      · refine hv_aload_n E dX3_learn_16 rfl 2 rfl rfl ?_
        refine hv_iconst E dX3_learn_17 rfl ?_
        refine hv_callVI (na := 1) (As := [.int (iI (2))]) (st := []) E (c4_take l D K (2) (by omega) (by omega) (by omega) (by omega) hT hL0 hL1) dX3_learn_18 hT.1 (show vwCl[3]? = some (RX4, TX4, 3) from rfl) gL_X3_49 gV_X4_take gI_X4_take gC_X4_take gZ_X4 (by decide +kernel) rfl ⟨Nat.le_of_ble_eq_true rfl, Nat.le_of_ble_eq_true rfl⟩ (Nat.le_of_ble_eq_true rfl) ⟨Nat.zero_le _, Nat.zero_le _⟩ rfl rfl (fun r w2 hp => ?_)
        rw [uM_tM ht hn, show (((P : Nat) : Int) + 2) = ((P + 2 : Nat) : Int) by omega, Int.toNat_natCast] at hp
        rw [show (2 : Int).toNat = 2 by omega] at hp
        obtain ⟨FM, hFM⟩ : ∃ zz, zz = bv (tb tf L) (P) (2) := ⟨_, rfl⟩
        have hFMb := bv_lt (tb tf L) (P) (2)
        rw [← hFM] at hp hFMb
        rw [hp.1, hp.2]
        show hm_V p l e (hm_rm 5 0 0) s m args below meth c D (hm_A w s.heap.size) 8 0 0 (MQ below (hm_Qi D w s.heap.size (fun r w2 => ∃ (y : Bool) (f2 : Nat → Int32) (P2 : Int), r = bI y ∧ w2 = uM K w t tw wn tf L P2 f2 ∧ (y = true → isC (tb tf L) L (cdC (mem f2))) ∧ (y = false → ∀ S, ¬ isC (tb tf L) L (cdC S)))) args s 0 0 (hm_A w s.heap.size)) (uM K w t tw wn tf L (((P + 2 : Nat) : Int)) f) 21 [(3, .int (iI ((h : Int)))), (0, .ref (a0)), (1, .ref (t)), (2, .ref (qn))] [.int (iI ((FM : Int)))]
        clear hT hN
        have hT : tAt K (uM K w t tw wn tf L (((P + 2 : Nat) : Int)) f) t tw tf L (((P + 2 : Nat) : Int)) := tAt_uM ht hn
        have hN : nAt K (uM K w t tw wn tf L (((P + 2 : Nat) : Int)) f) qn wn f := nAt_uM ht hn
        have hFM := hFM.symm
        refine hv_istore (lv2 := [(4, .int (iI ((FM : Int)))), (3, .int (iI ((h : Int)))), (0, .ref (a0)), (1, .ref (t)), (2, .ref (qn))]) E dX3_learn_21 (by decide) rfl rfl ?_
        refine hv_iload_n E dX3_learn_23 rfl 1 rfl rfl ?_
        refine hv_sipush E dX3_learn_24 (by decide +kernel) rfl ?_
        refine hv_imul E dX3_learn_27 rfl ?_
        rw [show (h : Int) * 256 = ((256 * h : Nat) : Int) by omega]
        show hm_V p l e (hm_rm 5 0 0) s m args below meth c D (hm_A w s.heap.size) 8 0 0 (MQ below (hm_Qi D w s.heap.size (fun r w2 => ∃ (y : Bool) (f2 : Nat → Int32) (P2 : Int), r = bI y ∧ w2 = uM K w t tw wn tf L P2 f2 ∧ (y = true → isC (tb tf L) L (cdC (mem f2))) ∧ (y = false → ∀ S, ¬ isC (tb tf L) L (cdC S)))) args s 0 0 (hm_A w s.heap.size)) (uM K w t tw wn tf L (((P + 2 : Nat) : Int)) f) 28 [(4, .int (iI ((FM : Int)))), (3, .int (iI ((h : Int)))), (0, .ref (a0)), (1, .ref (t)), (2, .ref (qn))] [.int (iI (((256 * h : Nat) : Int)))]
        refine hv_istore (lv2 := [(5, .int (iI (((256 * h : Nat) : Int)))), (4, .int (iI ((FM : Int)))), (3, .int (iI ((h : Int)))), (0, .ref (a0)), (1, .ref (t)), (2, .ref (qn))]) E dX3_learn_28 (by decide) rfl rfl ?_
        refine hv_iconst E dX3_learn_30 rfl ?_
        refine hv_topi (show iI (1) = bI (true) from rfl) ?_
        refine hv_istore (lv2 := [(6, .int (bI (true))), (5, .int (iI (((256 * h : Nat) : Int)))), (4, .int (iI ((FM : Int)))), (3, .int (iI ((h : Int)))), (0, .ref (a0)), (1, .ref (t)), (2, .ref (qn))]) E dX3_learn_31 (by decide) rfl rfl ?_
        rcases (show FM = 0 ∨ FM = 1 ∨ FM = 2 ∨ FM = 3 by rw [show (2 : Nat) ^ 2 = 4 from rfl] at hFMb; omega) with hF | hF | hF | hF
        · rw [hF]
          show hm_V p l e (hm_rm 5 0 0) s m args below meth c D (hm_A w s.heap.size) 8 0 0 (MQ below (hm_Qi D w s.heap.size (fun r w2 => ∃ (y : Bool) (f2 : Nat → Int32) (P2 : Int), r = bI y ∧ w2 = uM K w t tw wn tf L P2 f2 ∧ (y = true → isC (tb tf L) L (cdC (mem f2))) ∧ (y = false → ∀ S, ¬ isC (tb tf L) L (cdC S)))) args s 0 0 (hm_A w s.heap.size)) (uM K w t tw wn tf L (((P + 2 : Nat) : Int)) f) 33 [(6, .int (bI (true))), (5, .int (iI (((256 * h : Nat) : Int)))), (4, .int (iI (((0 : Nat) : Int)))), (3, .int (iI ((h : Int)))), (0, .ref (a0)), (1, .ref (t)), (2, .ref (qn))] []
          refine hv_iload E dX3_learn_33 2 rfl rfl ?_
          refine hv_if_ne E 50 dX3_learn_35 (by decide) ⟨by omega, by omega⟩ rfl (fun d1 => ?_) (fun d1 => ?_)
          · exact absurd d1 (by omega)
          · have hb : bv (tb tf L) P 2 = 0 := by omega
            refine hv_aload_n E dX3_learn_38 rfl 5 rfl rfl ?_
            refine hv_aload_n E dX3_learn_39 rfl 6 rfl rfl ?_
            refine hv_iload E dX3_learn_40 1 rfl rfl ?_
            refine hv_callSI (na := 3) (As := [.ref (t), .ref (qn), .int (iI (((256 * h : Nat) : Int)))]) (st := []) E (c3_learnList l D K (a := 256 * h) (P := P + 2) (by omega) (by omega) (by omega) hc.1 hT hN hL0 hL1) dX3_learn_42 gL_X3_52 gS_X3_learnList gC_X3_learnList gZ_X3 (by decide +kernel) rfl ⟨Nat.le_of_ble_eq_true rfl, Nat.le_of_ble_eq_true rfl⟩ (Nat.le_of_ble_eq_true rfl) ⟨Nat.zero_le _, Nat.zero_le _⟩ rfl rfl (fun r w2 hp => ?_)
            obtain ⟨y, f2, P2, hr1, e2, hP2b, hyt, hyf⟩ := hp
            rw [uM_uM ht hn] at e2
            rw [hr1, e2]
            show hm_V p l e (hm_rm 5 0 0) s m args below meth c D (hm_A w s.heap.size) 8 0 0 (MQ below (hm_Qi D w s.heap.size (fun r w2 => ∃ (y : Bool) (f2 : Nat → Int32) (P2 : Int), r = bI y ∧ w2 = uM K w t tw wn tf L P2 f2 ∧ (y = true → isC (tb tf L) L (cdC (mem f2))) ∧ (y = false → ∀ S, ¬ isC (tb tf L) L (cdC S)))) args s 0 0 (hm_A w s.heap.size)) (uM K w t tw wn tf L (((P2 : Nat) : Int)) f2) 45 [(6, .int (bI (true))), (5, .int (iI (((256 * h : Nat) : Int)))), (4, .int (iI (((0 : Nat) : Int)))), (3, .int (iI ((h : Int)))), (0, .ref (a0)), (1, .ref (t)), (2, .ref (qn))] [.int (bI (y))]
            refine hv_istore (lv2 := [(6, .int (bI (y))), (5, .int (iI (((256 * h : Nat) : Int)))), (4, .int (iI (((0 : Nat) : Int)))), (3, .int (iI ((h : Int)))), (0, .ref (a0)), (1, .ref (t)), (2, .ref (qn))]) E dX3_learn_45 (by decide) rfl rfl ?_
            refine hv_goto E 81 dX3_learn_47 (by decide) ?_
            clear hT hN
            have hT : tAt K (uM K w t tw wn tf L (((P2 : Nat) : Int)) f2) t tw tf L (((P2 : Nat) : Int)) := tAt_uM ht hn
            have hN : nAt K (uM K w t tw wn tf L (((P2 : Nat) : Int)) f2) qn wn f2 := nAt_uM ht hn
            refine hv_aload_n E dX3_learn_81 rfl 6 rfl rfl ?_
            refine hv_iload_n E dX3_learn_82 rfl 3 rfl rfl ?_
            refine hv_callVI (na := 1) (As := [.int (iI ((h : Int)))]) (st := []) E (c2_pieceForm l D K (h : Int) (by omega) (by omega) hN) dX3_learn_83 hN.1 (show vwCl[1]? = some (RX2, TX2, 1) from rfl) gL_X3_9 gV_X2_pieceForm gI_X2_pieceForm gC_X2_pieceForm gZ_X2 (by decide +kernel) rfl ⟨Nat.le_of_ble_eq_true rfl, Nat.le_of_ble_eq_true rfl⟩ (Nat.le_of_ble_eq_true rfl) ⟨Nat.zero_le _, Nat.zero_le _⟩ rfl rfl (fun r w2 hp => ?_)
            have hpb := pF_b (mem f2) (h : Int)
            have hfm : ((fm (mem f2) h : Nat) : Int) = if pF (mem f2) (h : Int) = -1 then 3 else pF (mem f2) (h : Int) := by unfold fm; split <;> omega
            obtain ⟨DU, hDU⟩ : ∃ z, z = pF (mem f2) (h : Int) := ⟨_, rfl⟩
            rw [← hDU] at hp hpb hfm
            rw [hp.1, hp.2]
            show hm_V p l e (hm_rm 5 0 0) s m args below meth c D (hm_A w s.heap.size) 8 0 0 (MQ below (hm_Qi D w s.heap.size (fun r w2 => ∃ (y : Bool) (f2 : Nat → Int32) (P2 : Int), r = bI y ∧ w2 = uM K w t tw wn tf L P2 f2 ∧ (y = true → isC (tb tf L) L (cdC (mem f2))) ∧ (y = false → ∀ S, ¬ isC (tb tf L) L (cdC S)))) args s 0 0 (hm_A w s.heap.size)) (uM K w t tw wn tf L (((P2 : Nat) : Int)) f2) 86 [(6, .int (bI (y))), (5, .int (iI (((256 * h : Nat) : Int)))), (4, .int (iI (((0 : Nat) : Int)))), (3, .int (iI ((h : Int)))), (0, .ref (a0)), (1, .ref (t)), (2, .ref (qn))] [.int (iI (DU))]
            refine hv_istore (lv2 := [(7, .int (iI (DU))), (6, .int (bI (y))), (5, .int (iI (((256 * h : Nat) : Int)))), (4, .int (iI (((0 : Nat) : Int)))), (3, .int (iI ((h : Int)))), (0, .ref (a0)), (1, .ref (t)), (2, .ref (qn))]) E dX3_learn_86 (by decide) rfl rfl ?_
            refine hv_iload E dX3_learn_88 1 rfl rfl ?_
            refine hv_if_eqB E 110 dX3_learn_90 (by decide) rfl (fun d2 => ?_) (fun d2 => ?_)
            · refine hv_iconst E dX3_learn_110 rfl ?_
              refine hv_topi (show iI (0) = bI (false) from rfl) ?_
              exact hv_zret E dX3_learn_111 hr ⟨false, _, _, rfl, rfl, fun h => (by cases h), fun _ S => cI_no hc (by omega) (fun S hS => (by obtain ⟨s1, s2⟩ := pS_0 hS (by omega); exact hyf d2 S s1 s2)) S⟩
            · obtain ⟨hlE, hP2⟩ := hyt d2
              have hpE := pE_0 hb hlE hP2
              refine hv_iload E dX3_learn_93 3 rfl rfl ?_
              refine hv_iload E dX3_learn_95 0 rfl rfl ?_
              refine hv_iconst E dX3_learn_97 rfl ?_
              refine hv_icmp_ne E 105 dX3_learn_98 (by decide) ⟨by omega, by omega⟩ ⟨by omega, by omega⟩ rfl (fun c5 => ?_) (fun c5 => ?_)
              · rw [if_neg (by omega)] at hfm
                refine hv_iload E dX3_learn_105 0 rfl rfl ?_
                refine hv_icmp_eq E 112 dX3_learn_107 (by decide) ⟨by omega, by omega⟩ ⟨by omega, by omega⟩ rfl (fun c6 => ?_) (fun c6 => ?_)
                · refine hv_iinc (lv2 := [(3, .int (iI (((h : Int)) + 1))), (7, .int (iI (DU))), (6, .int (bI (y))), (5, .int (iI (((256 * h : Nat) : Int)))), (4, .int (iI (((0 : Nat) : Int)))), (0, .ref (a0)), (1, .ref (t)), (2, .ref (qn))]) E dX3_learn_112 4 rfl rfl (by decide) rfl rfl ?_
                  refine hv_goto E 10 dX3_learn_115 (by decide) ?_
                  show hm_V p l e (hm_rm 5 0 0) s m args below meth c D (hm_A w s.heap.size) 8 0 0 (MQ below (hm_Qi D w s.heap.size (fun r w2 => ∃ (y : Bool) (f2 : Nat → Int32) (P2 : Int), r = bI y ∧ w2 = uM K w t tw wn tf L P2 f2 ∧ (y = true → isC (tb tf L) L (cdC (mem f2))) ∧ (y = false → ∀ S, ¬ isC (tb tf L) L (cdC S)))) args s 0 0 (hm_A w s.heap.size)) (uM K w t tw wn tf L (((P2 : Nat) : Int)) f2) 10 [(3, .int (iI (((h + 1 : Nat) : Int)))), (7, .int (iI (DU))), (6, .int (bI (y))), (5, .int (iI (((256 * h : Nat) : Int)))), (4, .int (iI (((0 : Nat) : Int)))), (0, .ref (a0)), (1, .ref (t)), (2, .ref (qn))] []
                  refine hv_sub (lv2 := [(3, .int (iI (((h + 1 : Nat) : Int)))), (0, .ref (a0)), (1, .ref (t)), (2, .ref (qn))]) [0, 5, 6, 7] rfl ?_
                  exact ih (h + 1) (P2) f2 (by omega) (by omega) (cI_step hc (by omega) hpE (by omega))
                · refine hv_iconst E dX3_learn_110 rfl ?_
                  refine hv_topi (show iI (0) = bI (false) from rfl) ?_
                  exact hv_zret E dX3_learn_111 hr ⟨false, _, _, rfl, rfl, fun h => (by cases h), fun _ S => cI_bad hc (by omega) hpE (by omega) S⟩
              · rw [if_pos (by omega)] at hfm
                refine hv_iconst E dX3_learn_101 rfl ?_
                refine hv_goto E 107 dX3_learn_102 (by decide) ?_
                refine hv_icmp_eq E 112 dX3_learn_107 (by decide) ⟨by omega, by omega⟩ ⟨by omega, by omega⟩ rfl (fun c6 => ?_) (fun c6 => ?_)
                · refine hv_iinc (lv2 := [(3, .int (iI (((h : Int)) + 1))), (7, .int (iI (DU))), (6, .int (bI (y))), (5, .int (iI (((256 * h : Nat) : Int)))), (4, .int (iI (((0 : Nat) : Int)))), (0, .ref (a0)), (1, .ref (t)), (2, .ref (qn))]) E dX3_learn_112 4 rfl rfl (by decide) rfl rfl ?_
                  refine hv_goto E 10 dX3_learn_115 (by decide) ?_
                  show hm_V p l e (hm_rm 5 0 0) s m args below meth c D (hm_A w s.heap.size) 8 0 0 (MQ below (hm_Qi D w s.heap.size (fun r w2 => ∃ (y : Bool) (f2 : Nat → Int32) (P2 : Int), r = bI y ∧ w2 = uM K w t tw wn tf L P2 f2 ∧ (y = true → isC (tb tf L) L (cdC (mem f2))) ∧ (y = false → ∀ S, ¬ isC (tb tf L) L (cdC S)))) args s 0 0 (hm_A w s.heap.size)) (uM K w t tw wn tf L (((P2 : Nat) : Int)) f2) 10 [(3, .int (iI (((h + 1 : Nat) : Int)))), (7, .int (iI (DU))), (6, .int (bI (y))), (5, .int (iI (((256 * h : Nat) : Int)))), (4, .int (iI (((0 : Nat) : Int)))), (0, .ref (a0)), (1, .ref (t)), (2, .ref (qn))] []
                  refine hv_sub (lv2 := [(3, .int (iI (((h + 1 : Nat) : Int)))), (0, .ref (a0)), (1, .ref (t)), (2, .ref (qn))]) [0, 5, 6, 7] rfl ?_
                  exact ih (h + 1) (P2) f2 (by omega) (by omega) (cI_step hc (by omega) hpE (by omega))
                · refine hv_iconst E dX3_learn_110 rfl ?_
                  refine hv_topi (show iI (0) = bI (false) from rfl) ?_
                  exact hv_zret E dX3_learn_111 hr ⟨false, _, _, rfl, rfl, fun h => (by cases h), fun _ S => cI_bad hc (by omega) hpE (by omega) S⟩
        · rw [hF]
          show hm_V p l e (hm_rm 5 0 0) s m args below meth c D (hm_A w s.heap.size) 8 0 0 (MQ below (hm_Qi D w s.heap.size (fun r w2 => ∃ (y : Bool) (f2 : Nat → Int32) (P2 : Int), r = bI y ∧ w2 = uM K w t tw wn tf L P2 f2 ∧ (y = true → isC (tb tf L) L (cdC (mem f2))) ∧ (y = false → ∀ S, ¬ isC (tb tf L) L (cdC S)))) args s 0 0 (hm_A w s.heap.size)) (uM K w t tw wn tf L (((P + 2 : Nat) : Int)) f) 33 [(6, .int (bI (true))), (5, .int (iI (((256 * h : Nat) : Int)))), (4, .int (iI (((1 : Nat) : Int)))), (3, .int (iI ((h : Int)))), (0, .ref (a0)), (1, .ref (t)), (2, .ref (qn))] []
          refine hv_iload E dX3_learn_33 2 rfl rfl ?_
          refine hv_if_ne E 50 dX3_learn_35 (by decide) ⟨by omega, by omega⟩ rfl (fun d3 => ?_) (fun d3 => ?_)
          · refine hv_iload E dX3_learn_50 2 rfl rfl ?_
            refine hv_iconst E dX3_learn_52 rfl ?_
            refine hv_icmp_ne E 66 dX3_learn_53 (by decide) ⟨by omega, by omega⟩ ⟨by omega, by omega⟩ rfl (fun d4 => ?_) (fun d4 => ?_)
            · exact absurd d4 (by omega)
            · have hb : bv (tb tf L) P 2 = 1 := by omega
              refine hv_aload_n E dX3_learn_56 rfl 5 rfl rfl ?_
              refine hv_aload_n E dX3_learn_57 rfl 6 rfl rfl ?_
              refine hv_iload E dX3_learn_58 1 rfl rfl ?_
              refine hv_callSV (na := 3) (As := [.ref (t), .ref (qn), .int (iI (((256 * h : Nat) : Int)))]) (st := []) E (c3_learnBits l D K (a := 256 * h) (P := P + 2) (by omega) (by omega) (by omega) hc.1 hT hN hL0 hL1) dX3_learn_60 gL_X3_56 gS_X3_learnBits gC_X3_learnBits gZ_X3 (by decide +kernel) rfl ⟨Nat.le_of_ble_eq_true rfl, Nat.le_of_ble_eq_true rfl⟩ (Nat.le_of_ble_eq_true rfl) ⟨Nat.zero_le _, Nat.zero_le _⟩ rfl rfl (fun w2 hp => ?_)
              obtain ⟨f2, e2, hlE⟩ := hp
              rw [uM_uM ht hn] at e2
              rw [e2]
              show hm_V p l e (hm_rm 5 0 0) s m args below meth c D (hm_A w s.heap.size) 8 0 0 (MQ below (hm_Qi D w s.heap.size (fun r w2 => ∃ (y : Bool) (f2 : Nat → Int32) (P2 : Int), r = bI y ∧ w2 = uM K w t tw wn tf L P2 f2 ∧ (y = true → isC (tb tf L) L (cdC (mem f2))) ∧ (y = false → ∀ S, ¬ isC (tb tf L) L (cdC S)))) args s 0 0 (hm_A w s.heap.size)) (uM K w t tw wn tf L (((P + 2 + 256 : Nat) : Int)) f2) 63 [(6, .int (bI (true))), (5, .int (iI (((256 * h : Nat) : Int)))), (4, .int (iI (((1 : Nat) : Int)))), (3, .int (iI ((h : Int)))), (0, .ref (a0)), (1, .ref (t)), (2, .ref (qn))] []
              refine hv_goto E 81 dX3_learn_63 (by decide) ?_
              clear hT hN
              have hT : tAt K (uM K w t tw wn tf L (((P + 2 + 256 : Nat) : Int)) f2) t tw tf L (((P + 2 + 256 : Nat) : Int)) := tAt_uM ht hn
              have hN : nAt K (uM K w t tw wn tf L (((P + 2 + 256 : Nat) : Int)) f2) qn wn f2 := nAt_uM ht hn
              refine hv_aload_n E dX3_learn_81 rfl 6 rfl rfl ?_
              refine hv_iload_n E dX3_learn_82 rfl 3 rfl rfl ?_
              refine hv_callVI (na := 1) (As := [.int (iI ((h : Int)))]) (st := []) E (c2_pieceForm l D K (h : Int) (by omega) (by omega) hN) dX3_learn_83 hN.1 (show vwCl[1]? = some (RX2, TX2, 1) from rfl) gL_X3_9 gV_X2_pieceForm gI_X2_pieceForm gC_X2_pieceForm gZ_X2 (by decide +kernel) rfl ⟨Nat.le_of_ble_eq_true rfl, Nat.le_of_ble_eq_true rfl⟩ (Nat.le_of_ble_eq_true rfl) ⟨Nat.zero_le _, Nat.zero_le _⟩ rfl rfl (fun r w2 hp => ?_)
              have hpb := pF_b (mem f2) (h : Int)
              have hfm : ((fm (mem f2) h : Nat) : Int) = if pF (mem f2) (h : Int) = -1 then 3 else pF (mem f2) (h : Int) := by unfold fm; split <;> omega
              obtain ⟨DU, hDU⟩ : ∃ z, z = pF (mem f2) (h : Int) := ⟨_, rfl⟩
              rw [← hDU] at hp hpb hfm
              rw [hp.1, hp.2]
              show hm_V p l e (hm_rm 5 0 0) s m args below meth c D (hm_A w s.heap.size) 8 0 0 (MQ below (hm_Qi D w s.heap.size (fun r w2 => ∃ (y : Bool) (f2 : Nat → Int32) (P2 : Int), r = bI y ∧ w2 = uM K w t tw wn tf L P2 f2 ∧ (y = true → isC (tb tf L) L (cdC (mem f2))) ∧ (y = false → ∀ S, ¬ isC (tb tf L) L (cdC S)))) args s 0 0 (hm_A w s.heap.size)) (uM K w t tw wn tf L (((P + 2 + 256 : Nat) : Int)) f2) 86 [(6, .int (bI (true))), (5, .int (iI (((256 * h : Nat) : Int)))), (4, .int (iI (((1 : Nat) : Int)))), (3, .int (iI ((h : Int)))), (0, .ref (a0)), (1, .ref (t)), (2, .ref (qn))] [.int (iI (DU))]
              refine hv_istore (lv2 := [(7, .int (iI (DU))), (6, .int (bI (true))), (5, .int (iI (((256 * h : Nat) : Int)))), (4, .int (iI (((1 : Nat) : Int)))), (3, .int (iI ((h : Int)))), (0, .ref (a0)), (1, .ref (t)), (2, .ref (qn))]) E dX3_learn_86 (by decide) rfl rfl ?_
              refine hv_iload E dX3_learn_88 1 rfl rfl ?_
              refine hv_if_eqB E 110 dX3_learn_90 (by decide) rfl (fun d5 => ?_) (fun d5 => ?_)
              · exact absurd d5 (by decide)
              · have hpE := pE_1 hb hlE rfl
                refine hv_iload E dX3_learn_93 3 rfl rfl ?_
                refine hv_iload E dX3_learn_95 0 rfl rfl ?_
                refine hv_iconst E dX3_learn_97 rfl ?_
                refine hv_icmp_ne E 105 dX3_learn_98 (by decide) ⟨by omega, by omega⟩ ⟨by omega, by omega⟩ rfl (fun c5 => ?_) (fun c5 => ?_)
                · rw [if_neg (by omega)] at hfm
                  refine hv_iload E dX3_learn_105 0 rfl rfl ?_
                  refine hv_icmp_eq E 112 dX3_learn_107 (by decide) ⟨by omega, by omega⟩ ⟨by omega, by omega⟩ rfl (fun c6 => ?_) (fun c6 => ?_)
                  · refine hv_iinc (lv2 := [(3, .int (iI (((h : Int)) + 1))), (7, .int (iI (DU))), (6, .int (bI (true))), (5, .int (iI (((256 * h : Nat) : Int)))), (4, .int (iI (((1 : Nat) : Int)))), (0, .ref (a0)), (1, .ref (t)), (2, .ref (qn))]) E dX3_learn_112 4 rfl rfl (by decide) rfl rfl ?_
                    refine hv_goto E 10 dX3_learn_115 (by decide) ?_
                    show hm_V p l e (hm_rm 5 0 0) s m args below meth c D (hm_A w s.heap.size) 8 0 0 (MQ below (hm_Qi D w s.heap.size (fun r w2 => ∃ (y : Bool) (f2 : Nat → Int32) (P2 : Int), r = bI y ∧ w2 = uM K w t tw wn tf L P2 f2 ∧ (y = true → isC (tb tf L) L (cdC (mem f2))) ∧ (y = false → ∀ S, ¬ isC (tb tf L) L (cdC S)))) args s 0 0 (hm_A w s.heap.size)) (uM K w t tw wn tf L (((P + 2 + 256 : Nat) : Int)) f2) 10 [(3, .int (iI (((h + 1 : Nat) : Int)))), (7, .int (iI (DU))), (6, .int (bI (true))), (5, .int (iI (((256 * h : Nat) : Int)))), (4, .int (iI (((1 : Nat) : Int)))), (0, .ref (a0)), (1, .ref (t)), (2, .ref (qn))] []
                    refine hv_sub (lv2 := [(3, .int (iI (((h + 1 : Nat) : Int)))), (0, .ref (a0)), (1, .ref (t)), (2, .ref (qn))]) [0, 5, 6, 7] rfl ?_
                    exact ih (h + 1) (P + 2 + 256) f2 (by omega) (by omega) (cI_step hc (by omega) hpE (by omega))
                  · refine hv_iconst E dX3_learn_110 rfl ?_
                    refine hv_topi (show iI (0) = bI (false) from rfl) ?_
                    exact hv_zret E dX3_learn_111 hr ⟨false, _, _, rfl, rfl, fun h => (by cases h), fun _ S => cI_bad hc (by omega) hpE (by omega) S⟩
                · rw [if_pos (by omega)] at hfm
                  refine hv_iconst E dX3_learn_101 rfl ?_
                  refine hv_goto E 107 dX3_learn_102 (by decide) ?_
                  refine hv_icmp_eq E 112 dX3_learn_107 (by decide) ⟨by omega, by omega⟩ ⟨by omega, by omega⟩ rfl (fun c6 => ?_) (fun c6 => ?_)
                  · refine hv_iinc (lv2 := [(3, .int (iI (((h : Int)) + 1))), (7, .int (iI (DU))), (6, .int (bI (true))), (5, .int (iI (((256 * h : Nat) : Int)))), (4, .int (iI (((1 : Nat) : Int)))), (0, .ref (a0)), (1, .ref (t)), (2, .ref (qn))]) E dX3_learn_112 4 rfl rfl (by decide) rfl rfl ?_
                    refine hv_goto E 10 dX3_learn_115 (by decide) ?_
                    show hm_V p l e (hm_rm 5 0 0) s m args below meth c D (hm_A w s.heap.size) 8 0 0 (MQ below (hm_Qi D w s.heap.size (fun r w2 => ∃ (y : Bool) (f2 : Nat → Int32) (P2 : Int), r = bI y ∧ w2 = uM K w t tw wn tf L P2 f2 ∧ (y = true → isC (tb tf L) L (cdC (mem f2))) ∧ (y = false → ∀ S, ¬ isC (tb tf L) L (cdC S)))) args s 0 0 (hm_A w s.heap.size)) (uM K w t tw wn tf L (((P + 2 + 256 : Nat) : Int)) f2) 10 [(3, .int (iI (((h + 1 : Nat) : Int)))), (7, .int (iI (DU))), (6, .int (bI (true))), (5, .int (iI (((256 * h : Nat) : Int)))), (4, .int (iI (((1 : Nat) : Int)))), (0, .ref (a0)), (1, .ref (t)), (2, .ref (qn))] []
                    refine hv_sub (lv2 := [(3, .int (iI (((h + 1 : Nat) : Int)))), (0, .ref (a0)), (1, .ref (t)), (2, .ref (qn))]) [0, 5, 6, 7] rfl ?_
                    exact ih (h + 1) (P + 2 + 256) f2 (by omega) (by omega) (cI_step hc (by omega) hpE (by omega))
                  · refine hv_iconst E dX3_learn_110 rfl ?_
                    refine hv_topi (show iI (0) = bI (false) from rfl) ?_
                    exact hv_zret E dX3_learn_111 hr ⟨false, _, _, rfl, rfl, fun h => (by cases h), fun _ S => cI_bad hc (by omega) hpE (by omega) S⟩
          · exact absurd d3 (by omega)
        · rw [hF]
          show hm_V p l e (hm_rm 5 0 0) s m args below meth c D (hm_A w s.heap.size) 8 0 0 (MQ below (hm_Qi D w s.heap.size (fun r w2 => ∃ (y : Bool) (f2 : Nat → Int32) (P2 : Int), r = bI y ∧ w2 = uM K w t tw wn tf L P2 f2 ∧ (y = true → isC (tb tf L) L (cdC (mem f2))) ∧ (y = false → ∀ S, ¬ isC (tb tf L) L (cdC S)))) args s 0 0 (hm_A w s.heap.size)) (uM K w t tw wn tf L (((P + 2 : Nat) : Int)) f) 33 [(6, .int (bI (true))), (5, .int (iI (((256 * h : Nat) : Int)))), (4, .int (iI (((2 : Nat) : Int)))), (3, .int (iI ((h : Int)))), (0, .ref (a0)), (1, .ref (t)), (2, .ref (qn))] []
          refine hv_iload E dX3_learn_33 2 rfl rfl ?_
          refine hv_if_ne E 50 dX3_learn_35 (by decide) ⟨by omega, by omega⟩ rfl (fun d6 => ?_) (fun d6 => ?_)
          · refine hv_iload E dX3_learn_50 2 rfl rfl ?_
            refine hv_iconst E dX3_learn_52 rfl ?_
            refine hv_icmp_ne E 66 dX3_learn_53 (by decide) ⟨by omega, by omega⟩ ⟨by omega, by omega⟩ rfl (fun d7 => ?_) (fun d7 => ?_)
            · refine hv_iload E dX3_learn_66 2 rfl rfl ?_
              refine hv_iconst E dX3_learn_68 rfl ?_
              refine hv_icmp_ne E 81 dX3_learn_69 (by decide) ⟨by omega, by omega⟩ ⟨by omega, by omega⟩ rfl (fun d8 => ?_) (fun d8 => ?_)
              · exact absurd d8 (by omega)
              · have hb : bv (tb tf L) P 2 = 2 := by omega
                refine hv_aload_n E dX3_learn_72 rfl 5 rfl rfl ?_
                refine hv_aload_n E dX3_learn_73 rfl 6 rfl rfl ?_
                refine hv_iload E dX3_learn_74 1 rfl rfl ?_
                refine hv_callSI (na := 3) (As := [.ref (t), .ref (qn), .int (iI (((256 * h : Nat) : Int)))]) (st := []) E (c3_learnRuns l D K (a := 256 * h) (P := P + 2) (by omega) (by omega) (by omega) hc.1 hT hN hL0 hL1) dX3_learn_76 gL_X3_60 gS_X3_learnRuns gC_X3_learnRuns gZ_X3 (by decide +kernel) rfl ⟨Nat.le_of_ble_eq_true rfl, Nat.le_of_ble_eq_true rfl⟩ (Nat.le_of_ble_eq_true rfl) ⟨Nat.zero_le _, Nat.zero_le _⟩ rfl rfl (fun r w2 hp => ?_)
                obtain ⟨y, f2, P2, hr1, e2, hP2b, hyt, hyf⟩ := hp
                rw [uM_uM ht hn] at e2
                rw [hr1, e2]
                show hm_V p l e (hm_rm 5 0 0) s m args below meth c D (hm_A w s.heap.size) 8 0 0 (MQ below (hm_Qi D w s.heap.size (fun r w2 => ∃ (y : Bool) (f2 : Nat → Int32) (P2 : Int), r = bI y ∧ w2 = uM K w t tw wn tf L P2 f2 ∧ (y = true → isC (tb tf L) L (cdC (mem f2))) ∧ (y = false → ∀ S, ¬ isC (tb tf L) L (cdC S)))) args s 0 0 (hm_A w s.heap.size)) (uM K w t tw wn tf L (((P2 : Nat) : Int)) f2) 79 [(6, .int (bI (true))), (5, .int (iI (((256 * h : Nat) : Int)))), (4, .int (iI (((2 : Nat) : Int)))), (3, .int (iI ((h : Int)))), (0, .ref (a0)), (1, .ref (t)), (2, .ref (qn))] [.int (bI (y))]
                refine hv_istore (lv2 := [(6, .int (bI (y))), (5, .int (iI (((256 * h : Nat) : Int)))), (4, .int (iI (((2 : Nat) : Int)))), (3, .int (iI ((h : Int)))), (0, .ref (a0)), (1, .ref (t)), (2, .ref (qn))]) E dX3_learn_79 (by decide) rfl rfl ?_
                clear hT hN
                have hT : tAt K (uM K w t tw wn tf L (((P2 : Nat) : Int)) f2) t tw tf L (((P2 : Nat) : Int)) := tAt_uM ht hn
                have hN : nAt K (uM K w t tw wn tf L (((P2 : Nat) : Int)) f2) qn wn f2 := nAt_uM ht hn
                refine hv_aload_n E dX3_learn_81 rfl 6 rfl rfl ?_
                refine hv_iload_n E dX3_learn_82 rfl 3 rfl rfl ?_
                refine hv_callVI (na := 1) (As := [.int (iI ((h : Int)))]) (st := []) E (c2_pieceForm l D K (h : Int) (by omega) (by omega) hN) dX3_learn_83 hN.1 (show vwCl[1]? = some (RX2, TX2, 1) from rfl) gL_X3_9 gV_X2_pieceForm gI_X2_pieceForm gC_X2_pieceForm gZ_X2 (by decide +kernel) rfl ⟨Nat.le_of_ble_eq_true rfl, Nat.le_of_ble_eq_true rfl⟩ (Nat.le_of_ble_eq_true rfl) ⟨Nat.zero_le _, Nat.zero_le _⟩ rfl rfl (fun r w2 hp => ?_)
                have hpb := pF_b (mem f2) (h : Int)
                have hfm : ((fm (mem f2) h : Nat) : Int) = if pF (mem f2) (h : Int) = -1 then 3 else pF (mem f2) (h : Int) := by unfold fm; split <;> omega
                obtain ⟨DU, hDU⟩ : ∃ z, z = pF (mem f2) (h : Int) := ⟨_, rfl⟩
                rw [← hDU] at hp hpb hfm
                rw [hp.1, hp.2]
                show hm_V p l e (hm_rm 5 0 0) s m args below meth c D (hm_A w s.heap.size) 8 0 0 (MQ below (hm_Qi D w s.heap.size (fun r w2 => ∃ (y : Bool) (f2 : Nat → Int32) (P2 : Int), r = bI y ∧ w2 = uM K w t tw wn tf L P2 f2 ∧ (y = true → isC (tb tf L) L (cdC (mem f2))) ∧ (y = false → ∀ S, ¬ isC (tb tf L) L (cdC S)))) args s 0 0 (hm_A w s.heap.size)) (uM K w t tw wn tf L (((P2 : Nat) : Int)) f2) 86 [(6, .int (bI (y))), (5, .int (iI (((256 * h : Nat) : Int)))), (4, .int (iI (((2 : Nat) : Int)))), (3, .int (iI ((h : Int)))), (0, .ref (a0)), (1, .ref (t)), (2, .ref (qn))] [.int (iI (DU))]
                refine hv_istore (lv2 := [(7, .int (iI (DU))), (6, .int (bI (y))), (5, .int (iI (((256 * h : Nat) : Int)))), (4, .int (iI (((2 : Nat) : Int)))), (3, .int (iI ((h : Int)))), (0, .ref (a0)), (1, .ref (t)), (2, .ref (qn))]) E dX3_learn_86 (by decide) rfl rfl ?_
                refine hv_iload E dX3_learn_88 1 rfl rfl ?_
                refine hv_if_eqB E 110 dX3_learn_90 (by decide) rfl (fun d9 => ?_) (fun d9 => ?_)
                · refine hv_iconst E dX3_learn_110 rfl ?_
                  refine hv_topi (show iI (0) = bI (false) from rfl) ?_
                  exact hv_zret E dX3_learn_111 hr ⟨false, _, _, rfl, rfl, fun h => (by cases h), fun _ S => cI_no hc (by omega) (fun S hS => (by obtain ⟨s1, s2⟩ := pS_2 hS (by omega); exact hyf d9 S s1 s2)) S⟩
                · obtain ⟨hlE, hP2⟩ := hyt d9
                  have hpE := pE_2 hb hlE hP2
                  refine hv_iload E dX3_learn_93 3 rfl rfl ?_
                  refine hv_iload E dX3_learn_95 0 rfl rfl ?_
                  refine hv_iconst E dX3_learn_97 rfl ?_
                  refine hv_icmp_ne E 105 dX3_learn_98 (by decide) ⟨by omega, by omega⟩ ⟨by omega, by omega⟩ rfl (fun c5 => ?_) (fun c5 => ?_)
                  · rw [if_neg (by omega)] at hfm
                    refine hv_iload E dX3_learn_105 0 rfl rfl ?_
                    refine hv_icmp_eq E 112 dX3_learn_107 (by decide) ⟨by omega, by omega⟩ ⟨by omega, by omega⟩ rfl (fun c6 => ?_) (fun c6 => ?_)
                    · refine hv_iinc (lv2 := [(3, .int (iI (((h : Int)) + 1))), (7, .int (iI (DU))), (6, .int (bI (y))), (5, .int (iI (((256 * h : Nat) : Int)))), (4, .int (iI (((2 : Nat) : Int)))), (0, .ref (a0)), (1, .ref (t)), (2, .ref (qn))]) E dX3_learn_112 4 rfl rfl (by decide) rfl rfl ?_
                      refine hv_goto E 10 dX3_learn_115 (by decide) ?_
                      show hm_V p l e (hm_rm 5 0 0) s m args below meth c D (hm_A w s.heap.size) 8 0 0 (MQ below (hm_Qi D w s.heap.size (fun r w2 => ∃ (y : Bool) (f2 : Nat → Int32) (P2 : Int), r = bI y ∧ w2 = uM K w t tw wn tf L P2 f2 ∧ (y = true → isC (tb tf L) L (cdC (mem f2))) ∧ (y = false → ∀ S, ¬ isC (tb tf L) L (cdC S)))) args s 0 0 (hm_A w s.heap.size)) (uM K w t tw wn tf L (((P2 : Nat) : Int)) f2) 10 [(3, .int (iI (((h + 1 : Nat) : Int)))), (7, .int (iI (DU))), (6, .int (bI (y))), (5, .int (iI (((256 * h : Nat) : Int)))), (4, .int (iI (((2 : Nat) : Int)))), (0, .ref (a0)), (1, .ref (t)), (2, .ref (qn))] []
                      refine hv_sub (lv2 := [(3, .int (iI (((h + 1 : Nat) : Int)))), (0, .ref (a0)), (1, .ref (t)), (2, .ref (qn))]) [0, 5, 6, 7] rfl ?_
                      exact ih (h + 1) (P2) f2 (by omega) (by omega) (cI_step hc (by omega) hpE (by omega))
                    · refine hv_iconst E dX3_learn_110 rfl ?_
                      refine hv_topi (show iI (0) = bI (false) from rfl) ?_
                      exact hv_zret E dX3_learn_111 hr ⟨false, _, _, rfl, rfl, fun h => (by cases h), fun _ S => cI_bad hc (by omega) hpE (by omega) S⟩
                  · rw [if_pos (by omega)] at hfm
                    refine hv_iconst E dX3_learn_101 rfl ?_
                    refine hv_goto E 107 dX3_learn_102 (by decide) ?_
                    refine hv_icmp_eq E 112 dX3_learn_107 (by decide) ⟨by omega, by omega⟩ ⟨by omega, by omega⟩ rfl (fun c6 => ?_) (fun c6 => ?_)
                    · refine hv_iinc (lv2 := [(3, .int (iI (((h : Int)) + 1))), (7, .int (iI (DU))), (6, .int (bI (y))), (5, .int (iI (((256 * h : Nat) : Int)))), (4, .int (iI (((2 : Nat) : Int)))), (0, .ref (a0)), (1, .ref (t)), (2, .ref (qn))]) E dX3_learn_112 4 rfl rfl (by decide) rfl rfl ?_
                      refine hv_goto E 10 dX3_learn_115 (by decide) ?_
                      show hm_V p l e (hm_rm 5 0 0) s m args below meth c D (hm_A w s.heap.size) 8 0 0 (MQ below (hm_Qi D w s.heap.size (fun r w2 => ∃ (y : Bool) (f2 : Nat → Int32) (P2 : Int), r = bI y ∧ w2 = uM K w t tw wn tf L P2 f2 ∧ (y = true → isC (tb tf L) L (cdC (mem f2))) ∧ (y = false → ∀ S, ¬ isC (tb tf L) L (cdC S)))) args s 0 0 (hm_A w s.heap.size)) (uM K w t tw wn tf L (((P2 : Nat) : Int)) f2) 10 [(3, .int (iI (((h + 1 : Nat) : Int)))), (7, .int (iI (DU))), (6, .int (bI (y))), (5, .int (iI (((256 * h : Nat) : Int)))), (4, .int (iI (((2 : Nat) : Int)))), (0, .ref (a0)), (1, .ref (t)), (2, .ref (qn))] []
                      refine hv_sub (lv2 := [(3, .int (iI (((h + 1 : Nat) : Int)))), (0, .ref (a0)), (1, .ref (t)), (2, .ref (qn))]) [0, 5, 6, 7] rfl ?_
                      exact ih (h + 1) (P2) f2 (by omega) (by omega) (cI_step hc (by omega) hpE (by omega))
                    · refine hv_iconst E dX3_learn_110 rfl ?_
                      refine hv_topi (show iI (0) = bI (false) from rfl) ?_
                      exact hv_zret E dX3_learn_111 hr ⟨false, _, _, rfl, rfl, fun h => (by cases h), fun _ S => cI_bad hc (by omega) hpE (by omega) S⟩
            · exact absurd d7 (by omega)
          · exact absurd d6 (by omega)
        · rw [hF]
          show hm_V p l e (hm_rm 5 0 0) s m args below meth c D (hm_A w s.heap.size) 8 0 0 (MQ below (hm_Qi D w s.heap.size (fun r w2 => ∃ (y : Bool) (f2 : Nat → Int32) (P2 : Int), r = bI y ∧ w2 = uM K w t tw wn tf L P2 f2 ∧ (y = true → isC (tb tf L) L (cdC (mem f2))) ∧ (y = false → ∀ S, ¬ isC (tb tf L) L (cdC S)))) args s 0 0 (hm_A w s.heap.size)) (uM K w t tw wn tf L (((P + 2 : Nat) : Int)) f) 33 [(6, .int (bI (true))), (5, .int (iI (((256 * h : Nat) : Int)))), (4, .int (iI (((3 : Nat) : Int)))), (3, .int (iI ((h : Int)))), (0, .ref (a0)), (1, .ref (t)), (2, .ref (qn))] []
          refine hv_iload E dX3_learn_33 2 rfl rfl ?_
          refine hv_if_ne E 50 dX3_learn_35 (by decide) ⟨by omega, by omega⟩ rfl (fun d10 => ?_) (fun d10 => ?_)
          · refine hv_iload E dX3_learn_50 2 rfl rfl ?_
            refine hv_iconst E dX3_learn_52 rfl ?_
            refine hv_icmp_ne E 66 dX3_learn_53 (by decide) ⟨by omega, by omega⟩ ⟨by omega, by omega⟩ rfl (fun d11 => ?_) (fun d11 => ?_)
            · refine hv_iload E dX3_learn_66 2 rfl rfl ?_
              refine hv_iconst E dX3_learn_68 rfl ?_
              refine hv_icmp_ne E 81 dX3_learn_69 (by decide) ⟨by omega, by omega⟩ ⟨by omega, by omega⟩ rfl (fun d12 => ?_) (fun d12 => ?_)
              · have hb : bv (tb tf L) P 2 = 3 := by omega
                clear hT hN
                have hT : tAt K (uM K w t tw wn tf L (((P + 2 : Nat) : Int)) f) t tw tf L (((P + 2 : Nat) : Int)) := tAt_uM ht hn
                have hN : nAt K (uM K w t tw wn tf L (((P + 2 : Nat) : Int)) f) qn wn f := nAt_uM ht hn
                refine hv_aload_n E dX3_learn_81 rfl 6 rfl rfl ?_
                refine hv_iload_n E dX3_learn_82 rfl 3 rfl rfl ?_
                refine hv_callVI (na := 1) (As := [.int (iI ((h : Int)))]) (st := []) E (c2_pieceForm l D K (h : Int) (by omega) (by omega) hN) dX3_learn_83 hN.1 (show vwCl[1]? = some (RX2, TX2, 1) from rfl) gL_X3_9 gV_X2_pieceForm gI_X2_pieceForm gC_X2_pieceForm gZ_X2 (by decide +kernel) rfl ⟨Nat.le_of_ble_eq_true rfl, Nat.le_of_ble_eq_true rfl⟩ (Nat.le_of_ble_eq_true rfl) ⟨Nat.zero_le _, Nat.zero_le _⟩ rfl rfl (fun r w2 hp => ?_)
                have hpb := pF_b (mem f) (h : Int)
                have hfm : ((fm (mem f) h : Nat) : Int) = if pF (mem f) (h : Int) = -1 then 3 else pF (mem f) (h : Int) := by unfold fm; split <;> omega
                obtain ⟨DU, hDU⟩ : ∃ z, z = pF (mem f) (h : Int) := ⟨_, rfl⟩
                rw [← hDU] at hp hpb hfm
                rw [hp.1, hp.2]
                show hm_V p l e (hm_rm 5 0 0) s m args below meth c D (hm_A w s.heap.size) 8 0 0 (MQ below (hm_Qi D w s.heap.size (fun r w2 => ∃ (y : Bool) (f2 : Nat → Int32) (P2 : Int), r = bI y ∧ w2 = uM K w t tw wn tf L P2 f2 ∧ (y = true → isC (tb tf L) L (cdC (mem f2))) ∧ (y = false → ∀ S, ¬ isC (tb tf L) L (cdC S)))) args s 0 0 (hm_A w s.heap.size)) (uM K w t tw wn tf L (((P + 2 : Nat) : Int)) f) 86 [(6, .int (bI (true))), (5, .int (iI (((256 * h : Nat) : Int)))), (4, .int (iI (((3 : Nat) : Int)))), (3, .int (iI ((h : Int)))), (0, .ref (a0)), (1, .ref (t)), (2, .ref (qn))] [.int (iI (DU))]
                refine hv_istore (lv2 := [(7, .int (iI (DU))), (6, .int (bI (true))), (5, .int (iI (((256 * h : Nat) : Int)))), (4, .int (iI (((3 : Nat) : Int)))), (3, .int (iI ((h : Int)))), (0, .ref (a0)), (1, .ref (t)), (2, .ref (qn))]) E dX3_learn_86 (by decide) rfl rfl ?_
                refine hv_iload E dX3_learn_88 1 rfl rfl ?_
                refine hv_if_eqB E 110 dX3_learn_90 (by decide) rfl (fun d13 => ?_) (fun d13 => ?_)
                · exact absurd d13 (by decide)
                · have hpE := pE_3 hb hc.1 (by omega) rfl
                  refine hv_iload E dX3_learn_93 3 rfl rfl ?_
                  refine hv_iload E dX3_learn_95 0 rfl rfl ?_
                  refine hv_iconst E dX3_learn_97 rfl ?_
                  refine hv_icmp_ne E 105 dX3_learn_98 (by decide) ⟨by omega, by omega⟩ ⟨by omega, by omega⟩ rfl (fun c5 => ?_) (fun c5 => ?_)
                  · rw [if_neg (by omega)] at hfm
                    refine hv_iload E dX3_learn_105 0 rfl rfl ?_
                    refine hv_icmp_eq E 112 dX3_learn_107 (by decide) ⟨by omega, by omega⟩ ⟨by omega, by omega⟩ rfl (fun c6 => ?_) (fun c6 => ?_)
                    · refine hv_iinc (lv2 := [(3, .int (iI (((h : Int)) + 1))), (7, .int (iI (DU))), (6, .int (bI (true))), (5, .int (iI (((256 * h : Nat) : Int)))), (4, .int (iI (((3 : Nat) : Int)))), (0, .ref (a0)), (1, .ref (t)), (2, .ref (qn))]) E dX3_learn_112 4 rfl rfl (by decide) rfl rfl ?_
                      refine hv_goto E 10 dX3_learn_115 (by decide) ?_
                      show hm_V p l e (hm_rm 5 0 0) s m args below meth c D (hm_A w s.heap.size) 8 0 0 (MQ below (hm_Qi D w s.heap.size (fun r w2 => ∃ (y : Bool) (f2 : Nat → Int32) (P2 : Int), r = bI y ∧ w2 = uM K w t tw wn tf L P2 f2 ∧ (y = true → isC (tb tf L) L (cdC (mem f2))) ∧ (y = false → ∀ S, ¬ isC (tb tf L) L (cdC S)))) args s 0 0 (hm_A w s.heap.size)) (uM K w t tw wn tf L (((P + 2 : Nat) : Int)) f) 10 [(3, .int (iI (((h + 1 : Nat) : Int)))), (7, .int (iI (DU))), (6, .int (bI (true))), (5, .int (iI (((256 * h : Nat) : Int)))), (4, .int (iI (((3 : Nat) : Int)))), (0, .ref (a0)), (1, .ref (t)), (2, .ref (qn))] []
                      refine hv_sub (lv2 := [(3, .int (iI (((h + 1 : Nat) : Int)))), (0, .ref (a0)), (1, .ref (t)), (2, .ref (qn))]) [0, 5, 6, 7] rfl ?_
                      exact ih (h + 1) (P + 2) f (by omega) (by omega) (cI_step hc (by omega) hpE (by omega))
                    · refine hv_iconst E dX3_learn_110 rfl ?_
                      refine hv_topi (show iI (0) = bI (false) from rfl) ?_
                      exact hv_zret E dX3_learn_111 hr ⟨false, _, _, rfl, rfl, fun h => (by cases h), fun _ S => cI_bad hc (by omega) hpE (by omega) S⟩
                  · rw [if_pos (by omega)] at hfm
                    refine hv_iconst E dX3_learn_101 rfl ?_
                    refine hv_goto E 107 dX3_learn_102 (by decide) ?_
                    refine hv_icmp_eq E 112 dX3_learn_107 (by decide) ⟨by omega, by omega⟩ ⟨by omega, by omega⟩ rfl (fun c6 => ?_) (fun c6 => ?_)
                    · refine hv_iinc (lv2 := [(3, .int (iI (((h : Int)) + 1))), (7, .int (iI (DU))), (6, .int (bI (true))), (5, .int (iI (((256 * h : Nat) : Int)))), (4, .int (iI (((3 : Nat) : Int)))), (0, .ref (a0)), (1, .ref (t)), (2, .ref (qn))]) E dX3_learn_112 4 rfl rfl (by decide) rfl rfl ?_
                      refine hv_goto E 10 dX3_learn_115 (by decide) ?_
                      show hm_V p l e (hm_rm 5 0 0) s m args below meth c D (hm_A w s.heap.size) 8 0 0 (MQ below (hm_Qi D w s.heap.size (fun r w2 => ∃ (y : Bool) (f2 : Nat → Int32) (P2 : Int), r = bI y ∧ w2 = uM K w t tw wn tf L P2 f2 ∧ (y = true → isC (tb tf L) L (cdC (mem f2))) ∧ (y = false → ∀ S, ¬ isC (tb tf L) L (cdC S)))) args s 0 0 (hm_A w s.heap.size)) (uM K w t tw wn tf L (((P + 2 : Nat) : Int)) f) 10 [(3, .int (iI (((h + 1 : Nat) : Int)))), (7, .int (iI (DU))), (6, .int (bI (true))), (5, .int (iI (((256 * h : Nat) : Int)))), (4, .int (iI (((3 : Nat) : Int)))), (0, .ref (a0)), (1, .ref (t)), (2, .ref (qn))] []
                      refine hv_sub (lv2 := [(3, .int (iI (((h + 1 : Nat) : Int)))), (0, .ref (a0)), (1, .ref (t)), (2, .ref (qn))]) [0, 5, 6, 7] rfl ?_
                      exact ih (h + 1) (P + 2) f (by omega) (by omega) (cI_step hc (by omega) hpE (by omega))
                    · refine hv_iconst E dX3_learn_110 rfl ?_
                      refine hv_topi (show iI (0) = bI (false) from rfl) ?_
                      exact hv_zret E dX3_learn_111 hr ⟨false, _, _, rfl, rfl, fun h => (by cases h), fun _ S => cI_bad hc (by omega) hpE (by omega) S⟩
              · exact absurd d12 (by omega)
            · exact absurd d11 (by omega)
          · exact absurd d10 (by omega)
  refine hv_sub (lv2 := [(3, .int (iI (((0 : Nat) : Int)))), (0, .ref (a0)), (1, .ref (t)), (2, .ref (qn))]) [0, 1, 2, 3] rfl ?_
  exact LP 17 0 0 f1 (by omega) (by omega) (cI_0 hf1)
