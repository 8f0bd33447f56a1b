theorem pc_mono (S : Nat → Bool) {a b : Nat} (h : a ≤ b) : (pcP S a).length ≤ (pcP S b).length := by
  obtain ⟨d, rfl⟩ : ∃ d, b = a + d := ⟨b - a, by omega⟩
  induction d with
  | zero => exact Nat.le_refl _
  | succ d ih =>
    have := ih (by omega)
    rw [← Nat.add_assoc]
    simp only [pcP, List.length_append]
    omega
theorem pcP_s (S : Nat → Bool) {j : Int} (h : 0 ≤ j) : pcP S (j + 1).toNat = pcP S j.toNat ++ p1P S j := by
  rw [show (j + 1).toNat = j.toNat + 1 by omega]
  simp only [pcP]
  rw [Int.toNat_of_nonneg h]
theorem p1P_m (S : Nat → Bool) (h : Int) (z : pF S h = -1) : p1P S h = nb (3 : Int).toNat 2 := by unfold p1P; rw [z]; simp
theorem p1P_0 (S : Nat → Bool) (h : Int) (z : pF S h = 0) : p1P S h = nb (0 : Int).toNat 2 ++ (nb (pN S h - 1).toNat 8 ++ bdP S 0 (256 * h.toNat) 256) := by unfold p1P; rw [z]; simp
theorem p1P_1 (S : Nat → Bool) (h : Int) (z : pF S h = 1) : p1P S h = nb (1 : Int).toNat 2 ++ bdP S 1 (256 * h.toNat) 256 := by unfold p1P; rw [z]; simp
theorem p1P_2 (S : Nat → Bool) (h : Int) (z : pF S h = 2) : p1P S h = nb (2 : Int).toNat 2 ++ (nb (pR S h - 1).toNat 8 ++ bdP S 2 (256 * h.toNat) 256) := by unfold p1P; rw [z]; simp
theorem pF_pos (S : Nat → Bool) (h : Int) (z : pF S h ≠ -1) : 1 ≤ pN S h ∧ 1 ≤ pR S h := by
  have h1 := pN_b S h
  have h2 : pN S h ≠ 0 := fun e => z (by unfold pF pfm; rw [if_pos e])
  have h3 := pR_pos (S := S) (h := h) (by omega)
  omega
set_option maxHeartbeats 4000000 in
set_option maxRecDepth 100000 in
theorem c3_bitsFor (l : Launch) (D : va_G) (K : Nat → ClassId) {w : hm_M} {a qn wn : Nat} {f : Nat → Int32} (hn : nAt K w qn wn f)  : hm_Ci l D K yX3_bitsFor cX3_bitsFor 6 .int 4 [.ref (a), .ref (qn)] w 0 0 (fun r w2 => r = iI ((cdC (mem f)).length : Nat) ∧ w2 = w) := by
  refine hm_enterI (by decide) (Nat.le_of_ble_eq_true rfl) ?_
  intro p e s m args below meth c E hr hnm
  show hm_V p l e (hm_rm 4 0 0) s m args below meth c D (hm_A w s.heap.size) 6 0 0 (MQ below (hm_Qi D w s.heap.size (fun r w2 => r = iI ((cdC (mem f)).length : Nat) ∧ w2 = w)) args s 0 0 (hm_A w s.heap.size)) w 0 [(0, .ref (a)), (1, .ref (qn))] []
  obtain ⟨PC, hPC⟩ : ∃ z, z = cdC (mem f) := ⟨_, rfl⟩
  rw [← hPC]
  show hm_V p l e (hm_rm 4 0 0) s m args below meth c D (hm_A w s.heap.size) 6 0 0 (MQ below (hm_Qi D w s.heap.size (fun r w2 => r = iI ((PC).length : Nat) ∧ w2 = w)) args s 0 0 (hm_A w s.heap.size)) w 0 [(0, .ref (a)), (1, .ref (qn))] []
  refine hv_iconst E dX3_bitsFor_0 rfl ?_
  refine hv_istore_n (lv2 := [(2, .int (iI (0))), (0, .ref (a)), (1, .ref (qn))]) E dX3_bitsFor_1 rfl (by decide) rfl rfl ?_
  refine hv_iconst E dX3_bitsFor_2 rfl ?_
  refine hv_istore_n (lv2 := [(3, .int (iI (0))), (2, .int (iI (0))), (0, .ref (a)), (1, .ref (qn))]) E dX3_bitsFor_3 rfl (by decide) rfl rfl ?_
  have LP : ∀ (k : Nat) (j sm : Int), (16 - j < (k : Int)) → (0 ≤ j) → (j ≤ 16) → (sm = ((pcP (mem f) j.toNat).length : Nat)) → hm_V p l e (hm_rm 4 0 0) s m args below meth c D (hm_A w s.heap.size) 6 0 0 (MQ below (hm_Qi D w s.heap.size (fun r w2 => r = iI ((PC).length : Nat) ∧ w2 = w)) args s 0 0 (hm_A w s.heap.size)) w 4 [(3, .int (iI (j))), (2, .int (iI (sm))), (0, .ref (a)), (1, .ref (qn))] [] := by
    intro k
    induction k with
    | zero =>
      intro j sm hk g0 g1 hs
      exact absurd hk (by omega)
    | succ k ih =>
      intro j sm hk g0 g1 hs
      have hB := pB_b (mem f) j
      have hF := pF_b (mem f) j
      have hl := p1P_length (mem f) j
      have hps := pcP_s (mem f) g0
      refine hv_iload_n E dX3_bitsFor_4 rfl 0 rfl rfl ?_
      refine hv_bipush E dX3_bitsFor_5 (by decide +kernel) rfl ?_
      refine hv_icmp_ge E 63 dX3_bitsFor_7 (by decide) ⟨by omega, by omega⟩ ⟨by omega, by omega⟩ rfl (fun c1 => ?_) (fun c1 => ?_)
      · skip
        refine hv_iload_n E dX3_bitsFor_63 rfl 1 rfl rfl ?_
        exact hv_iret E dX3_bitsFor_64 hr ⟨by rw [hs, show j.toNat = 16 by omega, hPC]; rfl, rfl⟩
      · skip
        refine hv_aload_n E dX3_bitsFor_10 rfl 3 rfl rfl ?_
        refine hv_iload_n E dX3_bitsFor_11 rfl 0 rfl rfl ?_
        refine hv_callVI (na := 1) (As := [.int (iI (j))]) (st := []) E (c2_pieceForm l D K j (by omega) (by omega) hn) dX3_bitsFor_12 hn.1 (show vwCl[1]? = some (RX2, TX2, 1) from rfl) gL_X3_9 gV_X2_pieceForm gI_X2_pieceForm gC_X2_pieceForm gZ_X2 (by decide +kernel) rfl ⟨Nat.le_of_ble_eq_true rfl, Nat.le_of_ble_eq_true rfl⟩ (Nat.le_of_ble_eq_true rfl) ⟨Nat.zero_le _, Nat.zero_le _⟩ rfl rfl (fun r w2 hp => ?_)
        rw [hp.1, hp.2]
        show hm_V p l e (hm_rm 4 0 0) s m args below meth c D (hm_A w s.heap.size) 6 0 0 (MQ below (hm_Qi D w s.heap.size (fun r w2 => r = iI ((PC).length : Nat) ∧ w2 = w)) args s 0 0 (hm_A w s.heap.size)) w 15 [(3, .int (iI (j))), (2, .int (iI (sm))), (0, .ref (a)), (1, .ref (qn))] [.int (iI (pF (mem f) j))]
        refine hv_istore (lv2 := [(4, .int (iI (pF (mem f) j))), (3, .int (iI (j))), (2, .int (iI (sm))), (0, .ref (a)), (1, .ref (qn))]) E dX3_bitsFor_15 (by decide) rfl rfl ?_
        refine hv_iload E dX3_bitsFor_17 0 rfl rfl ?_
        refine hv_if_eq E 28 dX3_bitsFor_19 (by decide) ⟨by omega, by omega⟩ rfl (fun c2 => ?_) (fun c2 => ?_)
        · skip
          refine hv_iconst E dX3_bitsFor_28 rfl ?_
          refine hv_goto E 33 dX3_bitsFor_29 (by decide) ?_
          refine hv_topi (show iI (1) = bI (true) from rfl) ?_
          refine hv_istore (lv2 := [(5, .int (bI (true))), (4, .int (iI (pF (mem f) j))), (3, .int (iI (j))), (2, .int (iI (sm))), (0, .ref (a)), (1, .ref (qn))]) E dX3_bitsFor_33 (by decide) rfl rfl ?_
          refine hv_iload_n E dX3_bitsFor_35 rfl 3 rfl rfl ?_
          refine hv_iconst E dX3_bitsFor_36 rfl ?_
          refine hv_aload_n E dX3_bitsFor_37 rfl 5 rfl rfl ?_
          refine hv_iload_n E dX3_bitsFor_38 rfl 2 rfl rfl ?_
          refine hv_callVI (na := 1) (As := [.int (iI (j))]) (st := [.int (iI (2)), .int (iI (sm))]) E (c2_pieceBits l D K j (by omega) (by omega) hn) dX3_bitsFor_39 hn.1 (show vwCl[1]? = some (RX2, TX2, 1) from rfl) gL_X3_15 gV_X2_pieceBits gI_X2_pieceBits gC_X2_pieceBits gZ_X2 (by decide +kernel) rfl ⟨Nat.le_of_ble_eq_true rfl, Nat.le_of_ble_eq_true rfl⟩ (Nat.le_of_ble_eq_true rfl) ⟨Nat.zero_le _, Nat.zero_le _⟩ rfl rfl (fun r w2 hp => ?_)
          rw [hp.1, hp.2]
          show hm_V p l e (hm_rm 4 0 0) s m args below meth c D (hm_A w s.heap.size) 6 0 0 (MQ below (hm_Qi D w s.heap.size (fun r w2 => r = iI ((PC).length : Nat) ∧ w2 = w)) args s 0 0 (hm_A w s.heap.size)) w 42 [(5, .int (bI (true))), (4, .int (iI (pF (mem f) j))), (3, .int (iI (j))), (2, .int (iI (sm))), (0, .ref (a)), (1, .ref (qn))] [.int (iI (pB (mem f) j)), .int (iI (2)), .int (iI (sm))]
          refine hv_iadd E dX3_bitsFor_42 rfl ?_
          refine hv_iload E dX3_bitsFor_43 0 rfl rfl ?_
          refine hv_if_eqB E 53 dX3_bitsFor_45 (by decide) rfl (fun c3 => ?_) (fun c3 => ?_)
          · refine hv_iconst E dX3_bitsFor_53 rfl ?_
            refine hv_iadd E dX3_bitsFor_54 rfl ?_
            refine hv_iadd E dX3_bitsFor_55 rfl ?_
            refine hv_istore_n (lv2 := [(2, .int (iI (sm + ((2 + (pB (mem f) j)) + 0)))), (5, .int (bI (true))), (4, .int (iI (pF (mem f) j))), (3, .int (iI (j))), (0, .ref (a)), (1, .ref (qn))]) E dX3_bitsFor_56 rfl (by decide) rfl rfl ?_
            refine hv_iinc (lv2 := [(3, .int (iI (j + 1))), (2, .int (iI (sm + ((2 + (pB (mem f) j)) + 0)))), (5, .int (bI (true))), (4, .int (iI (pF (mem f) j))), (0, .ref (a)), (1, .ref (qn))]) E dX3_bitsFor_57 3 rfl rfl (by decide) rfl rfl ?_
            refine hv_goto E 4 dX3_bitsFor_60 (by decide) ?_
            refine hv_sub (lv2 := [(3, .int (iI (j + 1))), (2, .int (iI (sm + ((2 + (pB (mem f) j)) + 0)))), (0, .ref (a)), (1, .ref (qn))]) [0, 1, 4, 5] rfl ?_
            exact ih (j + 1) _ (by omega) (by omega) (by omega) (by
                  first
                  | exact absurd c3 (by decide)
                  | (rw [hps, List.length_append, hs]
                     have hl2 := hl
                     split at hl2 <;> omega))
          · refine hv_bipush E dX3_bitsFor_48 (by decide +kernel) rfl ?_
            refine hv_goto E 54 dX3_bitsFor_50 (by decide) ?_
            refine hv_iadd E dX3_bitsFor_54 rfl ?_
            refine hv_iadd E dX3_bitsFor_55 rfl ?_
            refine hv_istore_n (lv2 := [(2, .int (iI (sm + ((2 + (pB (mem f) j)) + 8)))), (5, .int (bI (true))), (4, .int (iI (pF (mem f) j))), (3, .int (iI (j))), (0, .ref (a)), (1, .ref (qn))]) E dX3_bitsFor_56 rfl (by decide) rfl rfl ?_
            refine hv_iinc (lv2 := [(3, .int (iI (j + 1))), (2, .int (iI (sm + ((2 + (pB (mem f) j)) + 8)))), (5, .int (bI (true))), (4, .int (iI (pF (mem f) j))), (0, .ref (a)), (1, .ref (qn))]) E dX3_bitsFor_57 3 rfl rfl (by decide) rfl rfl ?_
            refine hv_goto E 4 dX3_bitsFor_60 (by decide) ?_
            refine hv_sub (lv2 := [(3, .int (iI (j + 1))), (2, .int (iI (sm + ((2 + (pB (mem f) j)) + 8)))), (0, .ref (a)), (1, .ref (qn))]) [0, 1, 4, 5] rfl ?_
            exact ih (j + 1) _ (by omega) (by omega) (by omega) (by
                  first
                  | exact absurd c3 (by decide)
                  | (rw [hps, List.length_append, hs]
                     have hl2 := hl
                     split at hl2 <;> omega))
        · skip
          refine hv_iload E dX3_bitsFor_22 0 rfl rfl ?_
          refine hv_iconst E dX3_bitsFor_24 rfl ?_
          refine hv_icmp_ne E 32 dX3_bitsFor_25 (by decide) ⟨by omega, by omega⟩ ⟨by omega, by omega⟩ rfl (fun c4 => ?_) (fun c4 => ?_)
          · skip
            refine hv_iconst E dX3_bitsFor_32 rfl ?_
            refine hv_topi (show iI (0) = bI (false) from rfl) ?_
            refine hv_istore (lv2 := [(5, .int (bI (false))), (4, .int (iI (pF (mem f) j))), (3, .int (iI (j))), (2, .int (iI (sm))), (0, .ref (a)), (1, .ref (qn))]) E dX3_bitsFor_33 (by decide) rfl rfl ?_
            refine hv_iload_n E dX3_bitsFor_35 rfl 3 rfl rfl ?_
            refine hv_iconst E dX3_bitsFor_36 rfl ?_
            refine hv_aload_n E dX3_bitsFor_37 rfl 5 rfl rfl ?_
            refine hv_iload_n E dX3_bitsFor_38 rfl 2 rfl rfl ?_
            refine hv_callVI (na := 1) (As := [.int (iI (j))]) (st := [.int (iI (2)), .int (iI (sm))]) E (c2_pieceBits l D K j (by omega) (by omega) hn) dX3_bitsFor_39 hn.1 (show vwCl[1]? = some (RX2, TX2, 1) from rfl) gL_X3_15 gV_X2_pieceBits gI_X2_pieceBits gC_X2_pieceBits gZ_X2 (by decide +kernel) rfl ⟨Nat.le_of_ble_eq_true rfl, Nat.le_of_ble_eq_true rfl⟩ (Nat.le_of_ble_eq_true rfl) ⟨Nat.zero_le _, Nat.zero_le _⟩ rfl rfl (fun r w2 hp => ?_)
            rw [hp.1, hp.2]
            show hm_V p l e (hm_rm 4 0 0) s m args below meth c D (hm_A w s.heap.size) 6 0 0 (MQ below (hm_Qi D w s.heap.size (fun r w2 => r = iI ((PC).length : Nat) ∧ w2 = w)) args s 0 0 (hm_A w s.heap.size)) w 42 [(5, .int (bI (false))), (4, .int (iI (pF (mem f) j))), (3, .int (iI (j))), (2, .int (iI (sm))), (0, .ref (a)), (1, .ref (qn))] [.int (iI (pB (mem f) j)), .int (iI (2)), .int (iI (sm))]
            refine hv_iadd E dX3_bitsFor_42 rfl ?_
            refine hv_iload E dX3_bitsFor_43 0 rfl rfl ?_
            refine hv_if_eqB E 53 dX3_bitsFor_45 (by decide) rfl (fun c5 => ?_) (fun c5 => ?_)
            · refine hv_iconst E dX3_bitsFor_53 rfl ?_
              refine hv_iadd E dX3_bitsFor_54 rfl ?_
              refine hv_iadd E dX3_bitsFor_55 rfl ?_
              refine hv_istore_n (lv2 := [(2, .int (iI (sm + ((2 + (pB (mem f) j)) + 0)))), (5, .int (bI (false))), (4, .int (iI (pF (mem f) j))), (3, .int (iI (j))), (0, .ref (a)), (1, .ref (qn))]) E dX3_bitsFor_56 rfl (by decide) rfl rfl ?_
              refine hv_iinc (lv2 := [(3, .int (iI (j + 1))), (2, .int (iI (sm + ((2 + (pB (mem f) j)) + 0)))), (5, .int (bI (false))), (4, .int (iI (pF (mem f) j))), (0, .ref (a)), (1, .ref (qn))]) E dX3_bitsFor_57 3 rfl rfl (by decide) rfl rfl ?_
              refine hv_goto E 4 dX3_bitsFor_60 (by decide) ?_
              refine hv_sub (lv2 := [(3, .int (iI (j + 1))), (2, .int (iI (sm + ((2 + (pB (mem f) j)) + 0)))), (0, .ref (a)), (1, .ref (qn))]) [0, 1, 4, 5] rfl ?_
              exact ih (j + 1) _ (by omega) (by omega) (by omega) (by
                    first
                    | exact absurd c5 (by decide)
                    | (rw [hps, List.length_append, hs]
                       have hl2 := hl
                       split at hl2 <;> omega))
            · refine hv_bipush E dX3_bitsFor_48 (by decide +kernel) rfl ?_
              refine hv_goto E 54 dX3_bitsFor_50 (by decide) ?_
              refine hv_iadd E dX3_bitsFor_54 rfl ?_
              refine hv_iadd E dX3_bitsFor_55 rfl ?_
              refine hv_istore_n (lv2 := [(2, .int (iI (sm + ((2 + (pB (mem f) j)) + 8)))), (5, .int (bI (false))), (4, .int (iI (pF (mem f) j))), (3, .int (iI (j))), (0, .ref (a)), (1, .ref (qn))]) E dX3_bitsFor_56 rfl (by decide) rfl rfl ?_
              refine hv_iinc (lv2 := [(3, .int (iI (j + 1))), (2, .int (iI (sm + ((2 + (pB (mem f) j)) + 8)))), (5, .int (bI (false))), (4, .int (iI (pF (mem f) j))), (0, .ref (a)), (1, .ref (qn))]) E dX3_bitsFor_57 3 rfl rfl (by decide) rfl rfl ?_
              refine hv_goto E 4 dX3_bitsFor_60 (by decide) ?_
              refine hv_sub (lv2 := [(3, .int (iI (j + 1))), (2, .int (iI (sm + ((2 + (pB (mem f) j)) + 8)))), (0, .ref (a)), (1, .ref (qn))]) [0, 1, 4, 5] rfl ?_
              exact ih (j + 1) _ (by omega) (by omega) (by omega) (by
                    first
                    | exact absurd c5 (by decide)
                    | (rw [hps, List.length_append, hs]
                       have hl2 := hl
                       split at hl2 <;> omega))
          · skip
            refine hv_iconst E dX3_bitsFor_28 rfl ?_
            refine hv_goto E 33 dX3_bitsFor_29 (by decide) ?_
            refine hv_topi (show iI (1) = bI (true) from rfl) ?_
            refine hv_istore (lv2 := [(5, .int (bI (true))), (4, .int (iI (pF (mem f) j))), (3, .int (iI (j))), (2, .int (iI (sm))), (0, .ref (a)), (1, .ref (qn))]) E dX3_bitsFor_33 (by decide) rfl rfl ?_
            refine hv_iload_n E dX3_bitsFor_35 rfl 3 rfl rfl ?_
            refine hv_iconst E dX3_bitsFor_36 rfl ?_
            refine hv_aload_n E dX3_bitsFor_37 rfl 5 rfl rfl ?_
            refine hv_iload_n E dX3_bitsFor_38 rfl 2 rfl rfl ?_
            refine hv_callVI (na := 1) (As := [.int (iI (j))]) (st := [.int (iI (2)), .int (iI (sm))]) E (c2_pieceBits l D K j (by omega) (by omega) hn) dX3_bitsFor_39 hn.1 (show vwCl[1]? = some (RX2, TX2, 1) from rfl) gL_X3_15 gV_X2_pieceBits gI_X2_pieceBits gC_X2_pieceBits gZ_X2 (by decide +kernel) rfl ⟨Nat.le_of_ble_eq_true rfl, Nat.le_of_ble_eq_true rfl⟩ (Nat.le_of_ble_eq_true rfl) ⟨Nat.zero_le _, Nat.zero_le _⟩ rfl rfl (fun r w2 hp => ?_)
            rw [hp.1, hp.2]
            show hm_V p l e (hm_rm 4 0 0) s m args below meth c D (hm_A w s.heap.size) 6 0 0 (MQ below (hm_Qi D w s.heap.size (fun r w2 => r = iI ((PC).length : Nat) ∧ w2 = w)) args s 0 0 (hm_A w s.heap.size)) w 42 [(5, .int (bI (true))), (4, .int (iI (pF (mem f) j))), (3, .int (iI (j))), (2, .int (iI (sm))), (0, .ref (a)), (1, .ref (qn))] [.int (iI (pB (mem f) j)), .int (iI (2)), .int (iI (sm))]
            refine hv_iadd E dX3_bitsFor_42 rfl ?_
            refine hv_iload E dX3_bitsFor_43 0 rfl rfl ?_
            refine hv_if_eqB E 53 dX3_bitsFor_45 (by decide) rfl (fun c6 => ?_) (fun c6 => ?_)
            · refine hv_iconst E dX3_bitsFor_53 rfl ?_
              refine hv_iadd E dX3_bitsFor_54 rfl ?_
              refine hv_iadd E dX3_bitsFor_55 rfl ?_
              refine hv_istore_n (lv2 := [(2, .int (iI (sm + ((2 + (pB (mem f) j)) + 0)))), (5, .int (bI (true))), (4, .int (iI (pF (mem f) j))), (3, .int (iI (j))), (0, .ref (a)), (1, .ref (qn))]) E dX3_bitsFor_56 rfl (by decide) rfl rfl ?_
              refine hv_iinc (lv2 := [(3, .int (iI (j + 1))), (2, .int (iI (sm + ((2 + (pB (mem f) j)) + 0)))), (5, .int (bI (true))), (4, .int (iI (pF (mem f) j))), (0, .ref (a)), (1, .ref (qn))]) E dX3_bitsFor_57 3 rfl rfl (by decide) rfl rfl ?_
              refine hv_goto E 4 dX3_bitsFor_60 (by decide) ?_
              refine hv_sub (lv2 := [(3, .int (iI (j + 1))), (2, .int (iI (sm + ((2 + (pB (mem f) j)) + 0)))), (0, .ref (a)), (1, .ref (qn))]) [0, 1, 4, 5] rfl ?_
              exact ih (j + 1) _ (by omega) (by omega) (by omega) (by
                    first
                    | exact absurd c6 (by decide)
                    | (rw [hps, List.length_append, hs]
                       have hl2 := hl
                       split at hl2 <;> omega))
            · refine hv_bipush E dX3_bitsFor_48 (by decide +kernel) rfl ?_
              refine hv_goto E 54 dX3_bitsFor_50 (by decide) ?_
              refine hv_iadd E dX3_bitsFor_54 rfl ?_
              refine hv_iadd E dX3_bitsFor_55 rfl ?_
              refine hv_istore_n (lv2 := [(2, .int (iI (sm + ((2 + (pB (mem f) j)) + 8)))), (5, .int (bI (true))), (4, .int (iI (pF (mem f) j))), (3, .int (iI (j))), (0, .ref (a)), (1, .ref (qn))]) E dX3_bitsFor_56 rfl (by decide) rfl rfl ?_
              refine hv_iinc (lv2 := [(3, .int (iI (j + 1))), (2, .int (iI (sm + ((2 + (pB (mem f) j)) + 8)))), (5, .int (bI (true))), (4, .int (iI (pF (mem f) j))), (0, .ref (a)), (1, .ref (qn))]) E dX3_bitsFor_57 3 rfl rfl (by decide) rfl rfl ?_
              refine hv_goto E 4 dX3_bitsFor_60 (by decide) ?_
              refine hv_sub (lv2 := [(3, .int (iI (j + 1))), (2, .int (iI (sm + ((2 + (pB (mem f) j)) + 8)))), (0, .ref (a)), (1, .ref (qn))]) [0, 1, 4, 5] rfl ?_
              exact ih (j + 1) _ (by omega) (by omega) (by omega) (by
                    first
                    | exact absurd c6 (by decide)
                    | (rw [hps, List.length_append, hs]
                       have hl2 := hl
                       split at hl2 <;> omega))
  refine hv_sub (lv2 := [(3, .int (iI (0))), (2, .int (iI (0))), (0, .ref (a)), (1, .ref (qn))]) [0, 1, 2, 3] rfl ?_
  exact LP 17 0 0 (by omega) (by omega) (by omega) rfl
set_option maxHeartbeats 4000000 in
set_option maxRecDepth 100000 in
theorem c3_tell (l : Launch) (D : va_G) (K : Nat → ClassId) {w : hm_M} {a qn wn t tw : Nat} {f tf : Nat → Int32} {P : Int} (hn : nAt K w qn wn f) (ht : tAt K w t tw tf 0 P)  : hm_Cv l D K yX3_tell cX3_tell 6 4 [.ref (a), .ref (qn), .ref (t)] w 0 0 (fun w2 => ∃ g : Nat → Int32, w2 = tM K w t tw g ((cdC (mem f)).length : Nat) P ∧ tX tf 0 g (cdC (mem f))) := by
  refine hm_enterV (by decide) (Nat.le_of_ble_eq_true rfl) ?_
  intro p e s m args below meth c E hr hnm
  show hm_V p l e (hm_rm 4 0 0) s m args below meth c D (hm_A w s.heap.size) 6 0 0 (MQ below (hm_Qv D w s.heap.size (fun w2 => ∃ g : Nat → Int32, w2 = tM K w t tw g ((cdC (mem f)).length : Nat) P ∧ tX tf 0 g (cdC (mem f)))) args s 0 0 (hm_A w s.heap.size)) w 0 [(0, .ref (a)), (1, .ref (qn)), (2, .ref (t))] []
  obtain ⟨PC, hPC⟩ : ∃ z, z = cdC (mem f) := ⟨_, rfl⟩
  rw [← hPC]
  show hm_V p l e (hm_rm 4 0 0) s m args below meth c D (hm_A w s.heap.size) 6 0 0 (MQ below (hm_Qv D w s.heap.size (fun w2 => ∃ g : Nat → Int32, w2 = tM K w t tw g ((PC).length : Nat) P ∧ tX tf 0 g (PC))) args s 0 0 (hm_A w s.heap.size)) w 0 [(0, .ref (a)), (1, .ref (qn)), (2, .ref (t))] []
  have hPC2 : PC = pcP (mem f) 16 := hPC
  have hle := pcP_le (mem f) 16
  rw [← hPC2] at hle
  refine hv_iconst E dX3_tell_0 rfl ?_
  refine hv_istore_n (lv2 := [(3, .int (iI (0))), (0, .ref (a)), (1, .ref (qn)), (2, .ref (t))]) E dX3_tell_1 rfl (by decide) rfl rfl ?_
  refine hv_mem (show w = tM K w t tw tf (((pcP (mem f) (0 : Int).toNat).length : Nat)) P from (by rw [show (((pcP (mem f) (0 : Int).toNat).length : Nat) : Int) = 0 from rfl]; exact tM_id ht)) ?_
  have LP : ∀ (k : Nat) (j : Int) (g : Nat → Int32), (16 - j < (k : Int)) → (0 ≤ j) → (j ≤ 16) → (tX tf 0 g (pcP (mem f) j.toNat)) → hm_V p l e (hm_rm 4 0 0) s m args below meth c D (hm_A w s.heap.size) 6 0 0 (MQ below (hm_Qv D w s.heap.size (fun w2 => ∃ g : Nat → Int32, w2 = tM K w t tw g ((PC).length : Nat) P ∧ tX tf 0 g (PC))) args s 0 0 (hm_A w s.heap.size)) (tM K w t tw g (((pcP (mem f) j.toNat).length : Nat)) P) 2 [(3, .int (iI (j))), (0, .ref (a)), (1, .ref (qn)), (2, .ref (t))] [] := by
    intro k
    induction k with
    | zero =>
      intro j g hk g0 g1 hx
      exact absurd hk (by omega)
    | succ k ih =>
      intro j g hk g0 g1 hx
      have hT : tAt K (tM K w t tw g (((pcP (mem f) j.toNat).length : Nat)) P) t tw g (((pcP (mem f) j.toNat).length : Nat)) P := tAt_tM ht.ne
      have hN : nAt K (tM K w t tw g (((pcP (mem f) j.toNat).length : Nat)) P) qn wn f := hn.tm ht
      have hmb := pc_mono (mem f) (show j.toNat ≤ 16 by omega)
      rw [← hPC2] at hmb
      refine hv_iload_n E dX3_tell_2 rfl 0 rfl rfl ?_
      refine hv_bipush E dX3_tell_3 (by decide +kernel) rfl ?_
      refine hv_icmp_ge E 99 dX3_tell_5 (by decide) ⟨by omega, by omega⟩ ⟨by omega, by omega⟩ rfl (fun c1 => ?_) (fun c1 => ?_)
      · exact hv_vret E dX3_tell_99 hr ⟨g, by rw [hPC2, show 16 = j.toNat by omega], by rw [hPC2, show 16 = j.toNat by omega]; exact hx⟩
      · have hF := pF_b (mem f) j
        have hl := p1P_length (mem f) j
        have hps := pcP_s (mem f) g0
        have hpp := pF_pos (mem f) j
        have hmz := pc_mono (mem f) (show (j + 1).toNat ≤ 16 by omega)
        rw [← hPC2] at hmz
        have hpl : (pcP (mem f) (j + 1).toNat).length = (pcP (mem f) j.toNat).length + (p1P (mem f) j).length := by rw [hps, List.length_append]
        refine hv_aload_n E dX3_tell_8 rfl 2 rfl rfl ?_
        refine hv_iload_n E dX3_tell_9 rfl 0 rfl rfl ?_
        refine hv_callVI (na := 1) (As := [.int (iI (j))]) (st := []) E (c2_pieceForm l D K j (by omega) (by omega) hN) dX3_tell_10 hN.1 (show vwCl[1]? = some (RX2, TX2, 1) from rfl) gL_X3_9 gV_X2_pieceForm gI_X2_pieceForm gC_X2_pieceForm gZ_X2 (by decide +kernel) rfl ⟨Nat.le_of_ble_eq_true rfl, Nat.le_of_ble_eq_true rfl⟩ (Nat.le_of_ble_eq_true rfl) ⟨Nat.zero_le _, Nat.zero_le _⟩ rfl rfl (fun r w2 hp => ?_)
        rw [hp.1, hp.2]
        obtain ⟨FM, hFM⟩ : ∃ z, z = pF (mem f) j := ⟨_, rfl⟩
        rw [← hFM] at hF hpp ⊢
        show hm_V p l e (hm_rm 4 0 0) s m args below meth c D (hm_A w s.heap.size) 6 0 0 (MQ below (hm_Qv D w s.heap.size (fun w2 => ∃ g : Nat → Int32, w2 = tM K w t tw g ((PC).length : Nat) P ∧ tX tf 0 g (PC))) args s 0 0 (hm_A w s.heap.size)) (tM K w t tw g (((pcP (mem f) j.toNat).length : Nat)) P) 13 [(3, .int (iI (j))), (0, .ref (a)), (1, .ref (qn)), (2, .ref (t))] [.int (iI (FM))]
        rcases (show FM = -1 ∨ FM = 0 ∨ FM = 1 ∨ FM = 2 by omega) with ee | ee | ee | ee
        · have e9 := ee
          have hp1 := p1P_m (mem f) j (by rw [← hFM]; exact e9)
          refine hv_istore (lv2 := [(4, .int (iI (FM))), (3, .int (iI (j))), (0, .ref (a)), (1, .ref (qn)), (2, .ref (t))]) E dX3_tell_13 (by decide) rfl rfl ?_
          refine hv_aload_n E dX3_tell_15 rfl 4 rfl rfl ?_
          refine hv_iload E dX3_tell_16 0 rfl rfl ?_
          refine hv_iconst E dX3_tell_18 rfl ?_
          refine hv_icmp_ne E 26 dX3_tell_19 (by decide) ⟨by omega, by omega⟩ ⟨by omega, by omega⟩ rfl (fun d1 => ?_) (fun d1 => ?_)
          · exact absurd d1 (by omega)
          · refine hv_iconst E dX3_tell_22 rfl ?_
            refine hv_goto E 28 dX3_tell_23 (by decide) ?_
            refine hv_iconst E dX3_tell_28 rfl ?_
            rw [show FM = (-1) from e9]
            show hm_V p l e (hm_rm 4 0 0) s m args below meth c D (hm_A w s.heap.size) 6 0 0 (MQ below (hm_Qv D w s.heap.size (fun w2 => ∃ g : Nat → Int32, w2 = tM K w t tw g ((PC).length : Nat) P ∧ tX tf 0 g (PC))) args s 0 0 (hm_A w s.heap.size)) (tM K w t tw g (((pcP (mem f) j.toNat).length : Nat)) P) 29 [(4, .int (iI ((-1)))), (3, .int (iI (j))), (0, .ref (a)), (1, .ref (qn)), (2, .ref (t))] [.int (iI (2)), .int (iI (3)), .ref (t)]
            refine hv_callVV (na := 2) (As := [.int (iI (3)), .int (iI (2))]) (st := []) E (c4_append l D K (iI (3)) (2) (by omega) (by omega) (by rw [hp1] at hpl; simp only [List.length_append, nb_length] at hpl; omega) hT (by omega) (by omega)) dX3_tell_29 hT.1 (show vwCl[3]? = some (RX4, TX4, 3) from rfl) gL_X3_18 gV_X4_append gI_X4_append gC_X4_append gZ_X4 (by decide +kernel) rfl ⟨Nat.le_of_ble_eq_true rfl, Nat.le_of_ble_eq_true rfl⟩ (Nat.le_of_ble_eq_true rfl) ⟨Nat.zero_le _, Nat.zero_le _⟩ rfl rfl (fun w2 hp => ?_)
            obtain ⟨g1x, e2, hf2, hf3⟩ := hp
            rw [tM_tM ht.ne] at e2
            rw [e2]
            show hm_V p l e (hm_rm 4 0 0) s m args below meth c D (hm_A w s.heap.size) 6 0 0 (MQ below (hm_Qv D w s.heap.size (fun w2 => ∃ g : Nat → Int32, w2 = tM K w t tw g ((PC).length : Nat) P ∧ tX tf 0 g (PC))) args s 0 0 (hm_A w s.heap.size)) (tM K w t tw g1x ((((pcP (mem f) j.toNat).length : Nat)) + 2) P) 32 [(4, .int (iI ((-1)))), (3, .int (iI (j))), (0, .ref (a)), (1, .ref (qn)), (2, .ref (t))] []
            have hq := tX.nb (f := g) (g := g1x) (z := 3) (n := 2) (by omega) (by omega) (by omega) (by omega) (by omega) hf2 hf3
            have hq1 := hq
            have hpl2 := hpl
            rw [hp1] at hpl2
            simp only [List.length_append, nb_length] at hpl2
            refine hv_iload_n E dX3_tell_32 rfl 1 rfl rfl ?_
            refine hv_sipush E dX3_tell_33 (by decide +kernel) rfl ?_
            refine hv_imul E dX3_tell_36 rfl ?_
            refine hv_istore (lv2 := [(5, .int (iI (j * 256))), (4, .int (iI ((-1)))), (3, .int (iI (j))), (0, .ref (a)), (1, .ref (qn)), (2, .ref (t))]) E dX3_tell_37 (by decide) rfl rfl ?_
            refine hv_iload E dX3_tell_39 1 rfl rfl ?_
            refine hv_if_ne E 59 dX3_tell_41 (by decide) ⟨by omega, by omega⟩ rfl (fun d2 => ?_) (fun d2 => ?_)
            · refine hv_iload E dX3_tell_59 1 rfl rfl ?_
              refine hv_iconst E dX3_tell_61 rfl ?_
              refine hv_icmp_ne E 75 dX3_tell_62 (by decide) ⟨by omega, by omega⟩ ⟨by omega, by omega⟩ rfl (fun d3 => ?_) (fun d3 => ?_)
              · refine hv_iload E dX3_tell_75 1 rfl rfl ?_
                refine hv_iconst E dX3_tell_77 rfl ?_
                refine hv_icmp_ne E 93 dX3_tell_78 (by decide) ⟨by omega, by omega⟩ ⟨by omega, by omega⟩ rfl (fun d4 => ?_) (fun d4 => ?_)
                · refine hv_iinc (lv2 := [(3, .int (iI (j + 1))), (5, .int (iI (j * 256))), (4, .int (iI ((-1)))), (0, .ref (a)), (1, .ref (qn)), (2, .ref (t))]) E dX3_tell_93 2 rfl rfl (by decide) rfl rfl ?_
                  refine hv_goto E 2 dX3_tell_96 (by decide) ?_
                  rw [show (((pcP (mem f) j.toNat).length : Nat) : Int) + 2 = (((pcP (mem f) (j + 1).toNat).length : Nat) : Int) by omega]
                  show hm_V p l e (hm_rm 4 0 0) s m args below meth c D (hm_A w s.heap.size) 6 0 0 (MQ below (hm_Qv D w s.heap.size (fun w2 => ∃ g : Nat → Int32, w2 = tM K w t tw g ((PC).length : Nat) P ∧ tX tf 0 g (PC))) args s 0 0 (hm_A w s.heap.size)) (tM K w t tw g1x (((pcP (mem f) (j + 1).toNat).length : Nat)) P) 2 [(3, .int (iI (j + 1))), (5, .int (iI (j * 256))), (4, .int (iI ((-1)))), (0, .ref (a)), (1, .ref (qn)), (2, .ref (t))] []
                  refine hv_sub (lv2 := [(3, .int (iI (j + 1))), (0, .ref (a)), (1, .ref (qn)), (2, .ref (t))]) [0, 3, 4, 5] rfl ?_
                  exact ih (j + 1) g1x (by omega) (by omega) (by omega) (by rw [hps, hp1]; exact hx.app (by omega) (by rw [Int.zero_add]; exact hq1))
                · exact absurd d4 (by omega)
              · exact absurd d3 (by omega)
            · exact absurd d2 (by omega)
        · have e9 := ee
          have hp1 := p1P_0 (mem f) j (by rw [← hFM]; exact e9)
          refine hv_istore (lv2 := [(4, .int (iI (FM))), (3, .int (iI (j))), (0, .ref (a)), (1, .ref (qn)), (2, .ref (t))]) E dX3_tell_13 (by decide) rfl rfl ?_
          refine hv_aload_n E dX3_tell_15 rfl 4 rfl rfl ?_
          refine hv_iload E dX3_tell_16 0 rfl rfl ?_
          refine hv_iconst E dX3_tell_18 rfl ?_
          refine hv_icmp_ne E 26 dX3_tell_19 (by decide) ⟨by omega, by omega⟩ ⟨by omega, by omega⟩ rfl (fun d5 => ?_) (fun d5 => ?_)
          · refine hv_iload E dX3_tell_26 0 rfl rfl ?_
            refine hv_iconst E dX3_tell_28 rfl ?_
            rw [show FM = 0 from e9]
            show hm_V p l e (hm_rm 4 0 0) s m args below meth c D (hm_A w s.heap.size) 6 0 0 (MQ below (hm_Qv D w s.heap.size (fun w2 => ∃ g : Nat → Int32, w2 = tM K w t tw g ((PC).length : Nat) P ∧ tX tf 0 g (PC))) args s 0 0 (hm_A w s.heap.size)) (tM K w t tw g (((pcP (mem f) j.toNat).length : Nat)) P) 29 [(4, .int (iI (0))), (3, .int (iI (j))), (0, .ref (a)), (1, .ref (qn)), (2, .ref (t))] [.int (iI (2)), .int (iI (0)), .ref (t)]
            refine hv_callVV (na := 2) (As := [.int (iI (0)), .int (iI (2))]) (st := []) E (c4_append l D K (iI (0)) (2) (by omega) (by omega) (by rw [hp1] at hpl; simp only [List.length_append, nb_length] at hpl; omega) hT (by omega) (by omega)) dX3_tell_29 hT.1 (show vwCl[3]? = some (RX4, TX4, 3) from rfl) gL_X3_18 gV_X4_append gI_X4_append gC_X4_append gZ_X4 (by decide +kernel) rfl ⟨Nat.le_of_ble_eq_true rfl, Nat.le_of_ble_eq_true rfl⟩ (Nat.le_of_ble_eq_true rfl) ⟨Nat.zero_le _, Nat.zero_le _⟩ rfl rfl (fun w2 hp => ?_)
            obtain ⟨g1x, e2, hf2, hf3⟩ := hp
            rw [tM_tM ht.ne] at e2
            rw [e2]
            show hm_V p l e (hm_rm 4 0 0) s m args below meth c D (hm_A w s.heap.size) 6 0 0 (MQ below (hm_Qv D w s.heap.size (fun w2 => ∃ g : Nat → Int32, w2 = tM K w t tw g ((PC).length : Nat) P ∧ tX tf 0 g (PC))) args s 0 0 (hm_A w s.heap.size)) (tM K w t tw g1x ((((pcP (mem f) j.toNat).length : Nat)) + 2) P) 32 [(4, .int (iI (0))), (3, .int (iI (j))), (0, .ref (a)), (1, .ref (qn)), (2, .ref (t))] []
            have hq := tX.nb (f := g) (g := g1x) (z := 0) (n := 2) (by omega) (by omega) (by omega) (by omega) (by omega) hf2 hf3
            have hq1 := hq
            have hpl2 := hpl
            rw [hp1] at hpl2
            simp only [List.length_append, nb_length] at hpl2
            refine hv_iload_n E dX3_tell_32 rfl 1 rfl rfl ?_
            refine hv_sipush E dX3_tell_33 (by decide +kernel) rfl ?_
            refine hv_imul E dX3_tell_36 rfl ?_
            refine hv_istore (lv2 := [(5, .int (iI (j * 256))), (4, .int (iI (0))), (3, .int (iI (j))), (0, .ref (a)), (1, .ref (qn)), (2, .ref (t))]) E dX3_tell_37 (by decide) rfl rfl ?_
            refine hv_iload E dX3_tell_39 1 rfl rfl ?_
            refine hv_if_ne E 59 dX3_tell_41 (by decide) ⟨by omega, by omega⟩ rfl (fun d6 => ?_) (fun d6 => ?_)
            · exact absurd d6 (by omega)
            · refine hv_aload_n E dX3_tell_44 rfl 4 rfl rfl ?_
              refine hv_iload E dX3_tell_45 0 rfl rfl ?_
              refine hv_aload_n E dX3_tell_47 rfl 4 rfl rfl ?_
              refine hv_iload_n E dX3_tell_48 rfl 2 rfl rfl ?_
              have hT : tAt K (tM K w t tw g1x ((((pcP (mem f) j.toNat).length : Nat)) + 2) P) t tw g1x ((((pcP (mem f) j.toNat).length : Nat)) + 2) P := tAt_tM ht.ne
              have hN : nAt K (tM K w t tw g1x ((((pcP (mem f) j.toNat).length : Nat)) + 2) P) qn wn f := hn.tm ht
              refine hv_callVI (na := 1) (As := [.int (iI (j))]) (st := [.int (iI (j * 256)), .ref (qn)]) E (c2_pieceAmount l D K j (by omega) (by omega) hN) dX3_tell_49 hN.1 (show vwCl[1]? = some (RX2, TX2, 1) from rfl) gL_X3_24 gV_X2_pieceAmount gI_X2_pieceAmount gC_X2_pieceAmount gZ_X2 (by decide +kernel) rfl ⟨Nat.le_of_ble_eq_true rfl, Nat.le_of_ble_eq_true rfl⟩ (Nat.le_of_ble_eq_true rfl) ⟨Nat.zero_le _, Nat.zero_le _⟩ rfl rfl (fun r w2 hp => ?_)
              rw [hp.1, hp.2]
              show hm_V p l e (hm_rm 4 0 0) s m args below meth c D (hm_A w s.heap.size) 6 0 0 (MQ below (hm_Qv D w s.heap.size (fun w2 => ∃ g : Nat → Int32, w2 = tM K w t tw g ((PC).length : Nat) P ∧ tX tf 0 g (PC))) args s 0 0 (hm_A w s.heap.size)) (tM K w t tw g1x ((((pcP (mem f) j.toNat).length : Nat)) + 2) P) 52 [(5, .int (iI (j * 256))), (4, .int (iI (0))), (3, .int (iI (j))), (0, .ref (a)), (1, .ref (qn)), (2, .ref (t))] [.int (iI (pN (mem f) j)), .int (iI (j * 256)), .ref (qn)]
              refine hv_aload_n E dX3_tell_52 rfl 5 rfl rfl ?_
              obtain ⟨BD, hBD⟩ : ∃ z, z = bdP (mem f) 0 (256 * j.toNat) 256 := ⟨_, rfl⟩
              rw [← hBD] at hp1 hpl2
              have C1 := c3_tellList l D K j g0 (by omega) (pN (mem f) j) rfl (by have := hpp (by omega); omega) (by rw [← hBD]; omega) hN hT (by omega)
              rw [← hBD] at C1
              refine hv_callSV (na := 4) (As := [.ref (qn), .int (iI (j * 256)), .int (iI (pN (mem f) j)), .ref (t)]) (st := []) E C1 dX3_tell_53 gL_X3_27 gS_X3_tellList gC_X3_tellList gZ_X3 (by decide +kernel) rfl ⟨Nat.le_of_ble_eq_true rfl, Nat.le_of_ble_eq_true rfl⟩ (Nat.le_of_ble_eq_true rfl) ⟨Nat.zero_le _, Nat.zero_le _⟩ rfl rfl (fun w2 hp => ?_)
              obtain ⟨g2x, e2, hq2⟩ := hp
              rw [tM_tM ht.ne] at e2
              rw [e2]
              show hm_V p l e (hm_rm 4 0 0) s m args below meth c D (hm_A w s.heap.size) 6 0 0 (MQ below (hm_Qv D w s.heap.size (fun w2 => ∃ g : Nat → Int32, w2 = tM K w t tw g ((PC).length : Nat) P ∧ tX tf 0 g (PC))) args s 0 0 (hm_A w s.heap.size)) (tM K w t tw g2x ((((pcP (mem f) j.toNat).length : Nat) : Int) + 2 + 8 + (BD.length : Nat)) P) 56 [(5, .int (iI (j * 256))), (4, .int (iI (0))), (3, .int (iI (j))), (0, .ref (a)), (1, .ref (qn)), (2, .ref (t))] []
              refine hv_goto E 93 dX3_tell_56 (by decide) ?_
              refine hv_iinc (lv2 := [(3, .int (iI (j + 1))), (5, .int (iI (j * 256))), (4, .int (iI (0))), (0, .ref (a)), (1, .ref (qn)), (2, .ref (t))]) E dX3_tell_93 2 rfl rfl (by decide) rfl rfl ?_
              refine hv_goto E 2 dX3_tell_96 (by decide) ?_
              rw [show (((pcP (mem f) j.toNat).length : Nat) : Int) + 2 + 8 + (BD.length : Nat) = (((pcP (mem f) (j + 1).toNat).length : Nat) : Int) by omega]
              show hm_V p l e (hm_rm 4 0 0) s m args below meth c D (hm_A w s.heap.size) 6 0 0 (MQ below (hm_Qv D w s.heap.size (fun w2 => ∃ g : Nat → Int32, w2 = tM K w t tw g ((PC).length : Nat) P ∧ tX tf 0 g (PC))) args s 0 0 (hm_A w s.heap.size)) (tM K w t tw g2x (((pcP (mem f) (j + 1).toNat).length : Nat)) P) 2 [(3, .int (iI (j + 1))), (5, .int (iI (j * 256))), (4, .int (iI (0))), (0, .ref (a)), (1, .ref (qn)), (2, .ref (t))] []
              refine hv_sub (lv2 := [(3, .int (iI (j + 1))), (0, .ref (a)), (1, .ref (qn)), (2, .ref (t))]) [0, 3, 4, 5] rfl ?_
              exact ih (j + 1) g2x (by omega) (by omega) (by omega) (by rw [hps, hp1]; exact hx.app (by omega) (by rw [Int.zero_add]; exact hq1.app (by omega) (by rw [nb_length]; exact hq2)))
          · exact absurd d5 (by omega)
        · have e9 := ee
          have hp1 := p1P_1 (mem f) j (by rw [← hFM]; exact e9)
          refine hv_istore (lv2 := [(4, .int (iI (FM))), (3, .int (iI (j))), (0, .ref (a)), (1, .ref (qn)), (2, .ref (t))]) E dX3_tell_13 (by decide) rfl rfl ?_
          refine hv_aload_n E dX3_tell_15 rfl 4 rfl rfl ?_
          refine hv_iload E dX3_tell_16 0 rfl rfl ?_
          refine hv_iconst E dX3_tell_18 rfl ?_
          refine hv_icmp_ne E 26 dX3_tell_19 (by decide) ⟨by omega, by omega⟩ ⟨by omega, by omega⟩ rfl (fun d7 => ?_) (fun d7 => ?_)
          · refine hv_iload E dX3_tell_26 0 rfl rfl ?_
            refine hv_iconst E dX3_tell_28 rfl ?_
            rw [show FM = 1 from e9]
            show hm_V p l e (hm_rm 4 0 0) s m args below meth c D (hm_A w s.heap.size) 6 0 0 (MQ below (hm_Qv D w s.heap.size (fun w2 => ∃ g : Nat → Int32, w2 = tM K w t tw g ((PC).length : Nat) P ∧ tX tf 0 g (PC))) args s 0 0 (hm_A w s.heap.size)) (tM K w t tw g (((pcP (mem f) j.toNat).length : Nat)) P) 29 [(4, .int (iI (1))), (3, .int (iI (j))), (0, .ref (a)), (1, .ref (qn)), (2, .ref (t))] [.int (iI (2)), .int (iI (1)), .ref (t)]
            refine hv_callVV (na := 2) (As := [.int (iI (1)), .int (iI (2))]) (st := []) E (c4_append l D K (iI (1)) (2) (by omega) (by omega) (by rw [hp1] at hpl; simp only [List.length_append, nb_length] at hpl; omega) hT (by omega) (by omega)) dX3_tell_29 hT.1 (show vwCl[3]? = some (RX4, TX4, 3) from rfl) gL_X3_18 gV_X4_append gI_X4_append gC_X4_append gZ_X4 (by decide +kernel) rfl ⟨Nat.le_of_ble_eq_true rfl, Nat.le_of_ble_eq_true rfl⟩ (Nat.le_of_ble_eq_true rfl) ⟨Nat.zero_le _, Nat.zero_le _⟩ rfl rfl (fun w2 hp => ?_)
            obtain ⟨g1x, e2, hf2, hf3⟩ := hp
            rw [tM_tM ht.ne] at e2
            rw [e2]
            show hm_V p l e (hm_rm 4 0 0) s m args below meth c D (hm_A w s.heap.size) 6 0 0 (MQ below (hm_Qv D w s.heap.size (fun w2 => ∃ g : Nat → Int32, w2 = tM K w t tw g ((PC).length : Nat) P ∧ tX tf 0 g (PC))) args s 0 0 (hm_A w s.heap.size)) (tM K w t tw g1x ((((pcP (mem f) j.toNat).length : Nat)) + 2) P) 32 [(4, .int (iI (1))), (3, .int (iI (j))), (0, .ref (a)), (1, .ref (qn)), (2, .ref (t))] []
            have hq := tX.nb (f := g) (g := g1x) (z := 1) (n := 2) (by omega) (by omega) (by omega) (by omega) (by omega) hf2 hf3
            have hq1 := hq
            have hpl2 := hpl
            rw [hp1] at hpl2
            simp only [List.length_append, nb_length] at hpl2
            refine hv_iload_n E dX3_tell_32 rfl 1 rfl rfl ?_
            refine hv_sipush E dX3_tell_33 (by decide +kernel) rfl ?_
            refine hv_imul E dX3_tell_36 rfl ?_
            refine hv_istore (lv2 := [(5, .int (iI (j * 256))), (4, .int (iI (1))), (3, .int (iI (j))), (0, .ref (a)), (1, .ref (qn)), (2, .ref (t))]) E dX3_tell_37 (by decide) rfl rfl ?_
            refine hv_iload E dX3_tell_39 1 rfl rfl ?_
            refine hv_if_ne E 59 dX3_tell_41 (by decide) ⟨by omega, by omega⟩ rfl (fun d8 => ?_) (fun d8 => ?_)
            · refine hv_iload E dX3_tell_59 1 rfl rfl ?_
              refine hv_iconst E dX3_tell_61 rfl ?_
              refine hv_icmp_ne E 75 dX3_tell_62 (by decide) ⟨by omega, by omega⟩ ⟨by omega, by omega⟩ rfl (fun d9 => ?_) (fun d9 => ?_)
              · exact absurd d9 (by omega)
              · refine hv_aload_n E dX3_tell_65 rfl 4 rfl rfl ?_
                refine hv_iload E dX3_tell_66 0 rfl rfl ?_
                refine hv_aload_n E dX3_tell_68 rfl 5 rfl rfl ?_
                have hT : tAt K (tM K w t tw g1x ((((pcP (mem f) j.toNat).length : Nat)) + 2) P) t tw g1x ((((pcP (mem f) j.toNat).length : Nat)) + 2) P := tAt_tM ht.ne
                have hN : nAt K (tM K w t tw g1x ((((pcP (mem f) j.toNat).length : Nat)) + 2) P) qn wn f := hn.tm ht
                obtain ⟨BD, hBD⟩ : ∃ z, z = bdP (mem f) 1 (256 * j.toNat) 256 := ⟨_, rfl⟩
                have hbl : BD.length = 256 := by rw [hBD, bdP_length _ _ _ (by omega), if_pos rfl]
                rw [← hBD] at hp1 hpl2
                have C1 := c3_tellBits l D K j g0 (by omega) (by omega) hN hT (by omega)
                rw [← hBD] at C1
                refine hv_callSV (na := 3) (As := [.ref (qn), .int (iI (j * 256)), .ref (t)]) (st := []) E C1 dX3_tell_69 gL_X3_33 gS_X3_tellBits gC_X3_tellBits gZ_X3 (by decide +kernel) rfl ⟨Nat.le_of_ble_eq_true rfl, Nat.le_of_ble_eq_true rfl⟩ (Nat.le_of_ble_eq_true rfl) ⟨Nat.zero_le _, Nat.zero_le _⟩ rfl rfl (fun w2 hp => ?_)
                obtain ⟨g2x, e2, hq2⟩ := hp
                rw [tM_tM ht.ne] at e2
                rw [e2]
                show hm_V p l e (hm_rm 4 0 0) s m args below meth c D (hm_A w s.heap.size) 6 0 0 (MQ below (hm_Qv D w s.heap.size (fun w2 => ∃ g : Nat → Int32, w2 = tM K w t tw g ((PC).length : Nat) P ∧ tX tf 0 g (PC))) args s 0 0 (hm_A w s.heap.size)) (tM K w t tw g2x ((((pcP (mem f) j.toNat).length : Nat) : Int) + 2 + 256) P) 72 [(5, .int (iI (j * 256))), (4, .int (iI (1))), (3, .int (iI (j))), (0, .ref (a)), (1, .ref (qn)), (2, .ref (t))] []
                refine hv_goto E 93 dX3_tell_72 (by decide) ?_
                refine hv_iinc (lv2 := [(3, .int (iI (j + 1))), (5, .int (iI (j * 256))), (4, .int (iI (1))), (0, .ref (a)), (1, .ref (qn)), (2, .ref (t))]) E dX3_tell_93 2 rfl rfl (by decide) rfl rfl ?_
                refine hv_goto E 2 dX3_tell_96 (by decide) ?_
                rw [show (((pcP (mem f) j.toNat).length : Nat) : Int) + 2 + 256 = (((pcP (mem f) (j + 1).toNat).length : Nat) : Int) by omega]
                show hm_V p l e (hm_rm 4 0 0) s m args below meth c D (hm_A w s.heap.size) 6 0 0 (MQ below (hm_Qv D w s.heap.size (fun w2 => ∃ g : Nat → Int32, w2 = tM K w t tw g ((PC).length : Nat) P ∧ tX tf 0 g (PC))) args s 0 0 (hm_A w s.heap.size)) (tM K w t tw g2x (((pcP (mem f) (j + 1).toNat).length : Nat)) P) 2 [(3, .int (iI (j + 1))), (5, .int (iI (j * 256))), (4, .int (iI (1))), (0, .ref (a)), (1, .ref (qn)), (2, .ref (t))] []
                refine hv_sub (lv2 := [(3, .int (iI (j + 1))), (0, .ref (a)), (1, .ref (qn)), (2, .ref (t))]) [0, 3, 4, 5] rfl ?_
                exact ih (j + 1) g2x (by omega) (by omega) (by omega) (by rw [hps, hp1]; exact hx.app (by omega) (by rw [Int.zero_add]; exact hq1.app (by omega) (by rw [nb_length]; exact hq2)))
            · exact absurd d8 (by omega)
          · exact absurd d7 (by omega)
        · have e9 := ee
          have hp1 := p1P_2 (mem f) j (by rw [← hFM]; exact e9)
          refine hv_istore (lv2 := [(4, .int (iI (FM))), (3, .int (iI (j))), (0, .ref (a)), (1, .ref (qn)), (2, .ref (t))]) E dX3_tell_13 (by decide) rfl rfl ?_
          refine hv_aload_n E dX3_tell_15 rfl 4 rfl rfl ?_
          refine hv_iload E dX3_tell_16 0 rfl rfl ?_
          refine hv_iconst E dX3_tell_18 rfl ?_
          refine hv_icmp_ne E 26 dX3_tell_19 (by decide) ⟨by omega, by omega⟩ ⟨by omega, by omega⟩ rfl (fun d10 => ?_) (fun d10 => ?_)
          · refine hv_iload E dX3_tell_26 0 rfl rfl ?_
            refine hv_iconst E dX3_tell_28 rfl ?_
            rw [show FM = 2 from e9]
            show hm_V p l e (hm_rm 4 0 0) s m args below meth c D (hm_A w s.heap.size) 6 0 0 (MQ below (hm_Qv D w s.heap.size (fun w2 => ∃ g : Nat → Int32, w2 = tM K w t tw g ((PC).length : Nat) P ∧ tX tf 0 g (PC))) args s 0 0 (hm_A w s.heap.size)) (tM K w t tw g (((pcP (mem f) j.toNat).length : Nat)) P) 29 [(4, .int (iI (2))), (3, .int (iI (j))), (0, .ref (a)), (1, .ref (qn)), (2, .ref (t))] [.int (iI (2)), .int (iI (2)), .ref (t)]
            refine hv_callVV (na := 2) (As := [.int (iI (2)), .int (iI (2))]) (st := []) E (c4_append l D K (iI (2)) (2) (by omega) (by omega) (by rw [hp1] at hpl; simp only [List.length_append, nb_length] at hpl; omega) hT (by omega) (by omega)) dX3_tell_29 hT.1 (show vwCl[3]? = some (RX4, TX4, 3) from rfl) gL_X3_18 gV_X4_append gI_X4_append gC_X4_append gZ_X4 (by decide +kernel) rfl ⟨Nat.le_of_ble_eq_true rfl, Nat.le_of_ble_eq_true rfl⟩ (Nat.le_of_ble_eq_true rfl) ⟨Nat.zero_le _, Nat.zero_le _⟩ rfl rfl (fun w2 hp => ?_)
            obtain ⟨g1x, e2, hf2, hf3⟩ := hp
            rw [tM_tM ht.ne] at e2
            rw [e2]
            show hm_V p l e (hm_rm 4 0 0) s m args below meth c D (hm_A w s.heap.size) 6 0 0 (MQ below (hm_Qv D w s.heap.size (fun w2 => ∃ g : Nat → Int32, w2 = tM K w t tw g ((PC).length : Nat) P ∧ tX tf 0 g (PC))) args s 0 0 (hm_A w s.heap.size)) (tM K w t tw g1x ((((pcP (mem f) j.toNat).length : Nat)) + 2) P) 32 [(4, .int (iI (2))), (3, .int (iI (j))), (0, .ref (a)), (1, .ref (qn)), (2, .ref (t))] []
            have hq := tX.nb (f := g) (g := g1x) (z := 2) (n := 2) (by omega) (by omega) (by omega) (by omega) (by omega) hf2 hf3
            have hq1 := hq
            have hpl2 := hpl
            rw [hp1] at hpl2
            simp only [List.length_append, nb_length] at hpl2
            refine hv_iload_n E dX3_tell_32 rfl 1 rfl rfl ?_
            refine hv_sipush E dX3_tell_33 (by decide +kernel) rfl ?_
            refine hv_imul E dX3_tell_36 rfl ?_
            refine hv_istore (lv2 := [(5, .int (iI (j * 256))), (4, .int (iI (2))), (3, .int (iI (j))), (0, .ref (a)), (1, .ref (qn)), (2, .ref (t))]) E dX3_tell_37 (by decide) rfl rfl ?_
            refine hv_iload E dX3_tell_39 1 rfl rfl ?_
            refine hv_if_ne E 59 dX3_tell_41 (by decide) ⟨by omega, by omega⟩ rfl (fun d11 => ?_) (fun d11 => ?_)
            · refine hv_iload E dX3_tell_59 1 rfl rfl ?_
              refine hv_iconst E dX3_tell_61 rfl ?_
              refine hv_icmp_ne E 75 dX3_tell_62 (by decide) ⟨by omega, by omega⟩ ⟨by omega, by omega⟩ rfl (fun d12 => ?_) (fun d12 => ?_)
              · refine hv_iload E dX3_tell_75 1 rfl rfl ?_
                refine hv_iconst E dX3_tell_77 rfl ?_
                refine hv_icmp_ne E 93 dX3_tell_78 (by decide) ⟨by omega, by omega⟩ ⟨by omega, by omega⟩ rfl (fun d13 => ?_) (fun d13 => ?_)
                · exact absurd d13 (by omega)
                · refine hv_aload_n E dX3_tell_81 rfl 4 rfl rfl ?_
                  refine hv_iload E dX3_tell_82 0 rfl rfl ?_
                  refine hv_aload_n E dX3_tell_84 rfl 4 rfl rfl ?_
                  refine hv_iload_n E dX3_tell_85 rfl 2 rfl rfl ?_
                  have hT : tAt K (tM K w t tw g1x ((((pcP (mem f) j.toNat).length : Nat)) + 2) P) t tw g1x ((((pcP (mem f) j.toNat).length : Nat)) + 2) P := tAt_tM ht.ne
                  have hN : nAt K (tM K w t tw g1x ((((pcP (mem f) j.toNat).length : Nat)) + 2) P) qn wn f := hn.tm ht
                  refine hv_callVI (na := 1) (As := [.int (iI (j))]) (st := [.int (iI (j * 256)), .ref (qn)]) E (c2_pieceRuns l D K j (by omega) (by omega) hN) dX3_tell_86 hN.1 (show vwCl[1]? = some (RX2, TX2, 1) from rfl) gL_X3_37 gV_X2_pieceRuns gI_X2_pieceRuns gC_X2_pieceRuns gZ_X2 (by decide +kernel) rfl ⟨Nat.le_of_ble_eq_true rfl, Nat.le_of_ble_eq_true rfl⟩ (Nat.le_of_ble_eq_true rfl) ⟨Nat.zero_le _, Nat.zero_le _⟩ rfl rfl (fun r w2 hp => ?_)
                  rw [hp.1, hp.2]
                  show hm_V p l e (hm_rm 4 0 0) s m args below meth c D (hm_A w s.heap.size) 6 0 0 (MQ below (hm_Qv D w s.heap.size (fun w2 => ∃ g : Nat → Int32, w2 = tM K w t tw g ((PC).length : Nat) P ∧ tX tf 0 g (PC))) args s 0 0 (hm_A w s.heap.size)) (tM K w t tw g1x ((((pcP (mem f) j.toNat).length : Nat)) + 2) P) 89 [(5, .int (iI (j * 256))), (4, .int (iI (2))), (3, .int (iI (j))), (0, .ref (a)), (1, .ref (qn)), (2, .ref (t))] [.int (iI (pR (mem f) j)), .int (iI (j * 256)), .ref (qn)]
                  refine hv_aload_n E dX3_tell_89 rfl 5 rfl rfl ?_
                  obtain ⟨BD, hBD⟩ : ∃ z, z = bdP (mem f) 2 (256 * j.toNat) 256 := ⟨_, rfl⟩
                  rw [← hBD] at hp1 hpl2
                  have C1 := c3_tellRuns l D K j g0 (by omega) (pR (mem f) j) rfl (by have := hpp (by omega); omega) (by rw [← hBD]; omega) hN hT (by omega)
                  rw [← hBD] at C1
                  refine hv_callSV (na := 4) (As := [.ref (qn), .int (iI (j * 256)), .int (iI (pR (mem f) j)), .ref (t)]) (st := []) E C1 dX3_tell_90 gL_X3_40 gS_X3_tellRuns gC_X3_tellRuns gZ_X3 (by decide +kernel) rfl ⟨Nat.le_of_ble_eq_true rfl, Nat.le_of_ble_eq_true rfl⟩ (Nat.le_of_ble_eq_true rfl) ⟨Nat.zero_le _, Nat.zero_le _⟩ rfl rfl (fun w2 hp => ?_)
                  obtain ⟨g2x, e2, hq2⟩ := hp
                  rw [tM_tM ht.ne] at e2
                  rw [e2]
                  show hm_V p l e (hm_rm 4 0 0) s m args below meth c D (hm_A w s.heap.size) 6 0 0 (MQ below (hm_Qv D w s.heap.size (fun w2 => ∃ g : Nat → Int32, w2 = tM K w t tw g ((PC).length : Nat) P ∧ tX tf 0 g (PC))) args s 0 0 (hm_A w s.heap.size)) (tM K w t tw g2x ((((pcP (mem f) j.toNat).length : Nat) : Int) + 2 + 8 + (BD.length : Nat)) P) 93 [(5, .int (iI (j * 256))), (4, .int (iI (2))), (3, .int (iI (j))), (0, .ref (a)), (1, .ref (qn)), (2, .ref (t))] []
                  refine hv_iinc (lv2 := [(3, .int (iI (j + 1))), (5, .int (iI (j * 256))), (4, .int (iI (2))), (0, .ref (a)), (1, .ref (qn)), (2, .ref (t))]) E dX3_tell_93 2 rfl rfl (by decide) rfl rfl ?_
                  refine hv_goto E 2 dX3_tell_96 (by decide) ?_
                  rw [show (((pcP (mem f) j.toNat).length : Nat) : Int) + 2 + 8 + (BD.length : Nat) = (((pcP (mem f) (j + 1).toNat).length : Nat) : Int) by omega]
                  show hm_V p l e (hm_rm 4 0 0) s m args below meth c D (hm_A w s.heap.size) 6 0 0 (MQ below (hm_Qv D w s.heap.size (fun w2 => ∃ g : Nat → Int32, w2 = tM K w t tw g ((PC).length : Nat) P ∧ tX tf 0 g (PC))) args s 0 0 (hm_A w s.heap.size)) (tM K w t tw g2x (((pcP (mem f) (j + 1).toNat).length : Nat)) P) 2 [(3, .int (iI (j + 1))), (5, .int (iI (j * 256))), (4, .int (iI (2))), (0, .ref (a)), (1, .ref (qn)), (2, .ref (t))] []
                  refine hv_sub (lv2 := [(3, .int (iI (j + 1))), (0, .ref (a)), (1, .ref (qn)), (2, .ref (t))]) [0, 3, 4, 5] rfl ?_
                  exact ih (j + 1) g2x (by omega) (by omega) (by omega) (by rw [hps, hp1]; exact hx.app (by omega) (by rw [Int.zero_add]; exact hq1.app (by omega) (by rw [nb_length]; exact hq2)))
              · exact absurd d12 (by omega)
            · exact absurd d11 (by omega)
          · exact absurd d10 (by omega)
  refine hv_sub (lv2 := [(3, .int (iI (0))), (0, .ref (a)), (1, .ref (qn)), (2, .ref (t))]) [0, 1, 2, 3] rfl ?_
  exact LP 17 0 tf (by omega) (by omega) (by omega) tX.nil
