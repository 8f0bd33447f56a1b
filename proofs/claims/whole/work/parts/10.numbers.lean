/-- an object of Numbers at q with the words f at wd -/
def nAt (K : Nat → ClassId) (w : hm_M) (q wd : Nat) (f : Nat → Int32) : Prop := w q = some (.inr (1, [.ref wd])) ∧ w wd = some (.inl (K 0, 128, .inl f))
theorem iI_shr5 {z : Int} (hz : iB z) : iI z >>> (iI 5 &&& 31) = iI (z / 32) := iI_shr 5 (by omega) hz
theorem mem_bit (f : Nat → Int32) {v : Int} (h0 : 0 ≤ v) : ((f (v / 32).toNat).toUInt32 >>> ((iI (v % 32)).toUInt32 &&& Int32.toUInt32 31)).toInt32 &&& iI 1 = bI (mem f v.toNat) := by
  have h := bt_bit (f (v / 32).toNat) (v % 32).toNat (by omega)
  rw [Int.toNat_of_nonneg (by omega)] at h
  rw [h]
  unfold mem
  rw [show (v / 32).toNat = v.toNat / 32 by omega, show (v % 32).toNat = v.toNat % 32 by omega]
theorem bI_ite (b : Bool) : bI b = iI (if b then 1 else 0) := rfl
set_option maxHeartbeats 4000000 in
set_option maxRecDepth 100000 in
theorem c2_holds (l : Launch) (D : va_G) (K : Nat → ClassId) {w : hm_M} {q wd : Nat} {f : Nat → Int32} (v : Int) (hv : iB v) (hn : nAt K w q wd f)  : hm_Ci l D K yX2_holds cX2_holds 2 .boolean 1 [.ref (q), .int (iI (v))] w 0 0 (fun r w2 => r = bI (decide (0 ≤ v ∧ v < 4096) && mem f v.toNat) ∧ w2 = w) := by
  refine hm_enterI (by decide) (Nat.le_of_ble_eq_true rfl) ?_
  intro p e s m args below meth c E hr hnm
  show hm_V p l e (hm_rm 1 0 0) s m args below meth c D (hm_A w s.heap.size) 2 0 0 (MQ below (hm_Qi D w s.heap.size (fun r w2 => r = bI (decide (0 ≤ v ∧ v < 4096) && mem f v.toNat) ∧ w2 = w)) args s 0 0 (hm_A w s.heap.size)) w 0 [(0, .ref (q)), (1, .int (iI (v)))] []
  refine hv_iload_n E dX2_holds_0 rfl 1 rfl rfl ?_
  refine hv_callSNI (na := 1) (As := [.int (iI (v))]) (st := []) E (c6_isNumber l D K v hv) dX2_holds_1 gN_X2_15 gS_X6_isNumber gC_X6_isNumber gZ_X6 (by decide +kernel) rfl ⟨Nat.le_of_ble_eq_true rfl, Nat.le_of_ble_eq_true rfl⟩ (Nat.le_of_ble_eq_true rfl) ⟨Nat.zero_le _, Nat.zero_le _⟩ rfl rfl (fun r w2 hp => ?_)
  rw [hp.1, hp.2]
  show hm_V p l e (hm_rm 1 0 0) s m args below meth c D (hm_A w s.heap.size) 2 0 0 (MQ below (hm_Qi D w s.heap.size (fun r w2 => r = bI (decide (0 ≤ v ∧ v < 4096) && mem f v.toNat) ∧ w2 = w)) args s 0 0 (hm_A w s.heap.size)) w 4 [(0, .ref (q)), (1, .int (iI (v)))] [.int (bI (decide (0 ≤ v ∧ v < 4096)))]
  refine hv_if_eqB E 30 dX2_holds_4 (by decide) rfl (fun h1 => ?_) (fun h1 => ?_)
  · refine hv_iconst E dX2_holds_30 rfl ?_
    refine hv_topi (show iI (0) = bI (false) from rfl) ?_
    exact hv_zret E dX2_holds_31 hr ⟨by rw [h1]; rfl, rfl⟩
  · have h2 : 0 ≤ v ∧ v < 4096 := of_decide_eq_true h1
    refine hv_aload_n E dX2_holds_7 rfl 0 rfl rfl ?_
    refine hv_get (kf := 0) E dX2_holds_8 (show vwCl[1]? = some (RX2, TX2, 1) from rfl) (by decide) gW_X2 gF_X2_9 rfl hn.1 rfl rfl ?_
    refine hv_iload_n E dX2_holds_11 rfl 1 rfl rfl ?_
    refine hv_iconst E dX2_holds_12 rfl ?_
    refine hv_ishrR E dX2_holds_13 rfl rfl ?_
    refine hv_topi (show (iI (v)) >>> ((iI (5)) &&& 31) = iI (v / 32) from iI_shr5 hv) ?_
    refine hv_iald E dX2_holds_14 hn.2 (by omega) (by omega) (by decide) rfl ?_
    refine hv_iload_n E dX2_holds_15 rfl 1 rfl rfl ?_
    refine hv_bipush E dX2_holds_16 (by decide +kernel) rfl ?_
    refine hv_iandR E dX2_holds_18 rfl ?_
    refine hv_topi (show (iI (v)) &&& (iI (31)) = iI (v % 32) from iI_and31 v) ?_
    refine hv_iushrR E dX2_holds_19 rfl rfl ?_
    refine hv_iconst E dX2_holds_20 rfl ?_
    refine hv_iandR E dX2_holds_21 rfl ?_
    refine hv_topi (show (((f (v / 32).toNat).toUInt32 >>> ((iI (v % 32)).toUInt32 &&& Int32.toUInt32 31)).toInt32) &&& (iI (1)) = bI (mem f v.toNat) from mem_bit f h2.1) ?_
    refine hv_iconst E dX2_holds_22 rfl ?_
    refine hv_topi (show iI (1) = bI (true) from rfl) ?_
    refine hv_icmp_neB E 30 dX2_holds_23 (by decide) rfl (fun h3 => ?_) (fun h3 => ?_)
    · refine hv_iconst E dX2_holds_30 rfl ?_
      refine hv_topi (show iI (0) = bI (false) from rfl) ?_
      exact hv_zret E dX2_holds_31 hr ⟨by rw [h1, eq_false_of_ne_true h3]; rfl, rfl⟩
    · refine hv_iconst E dX2_holds_26 rfl ?_
      refine hv_goto E 31 dX2_holds_27 (by decide) ?_
      refine hv_topi (show iI (1) = bI (true) from rfl) ?_
      exact hv_zret E dX2_holds_31 hr ⟨by rw [h1, h3]; rfl, rfl⟩
set_option maxHeartbeats 4000000 in
set_option maxRecDepth 100000 in
theorem c2_amountBelow (l : Launch) (D : va_G) (K : Nat → ClassId) {w : hm_M} {q wd : Nat} {f : Nat → Int32} (v : Int) (h0 : 0 ≤ v) (h1 : v ≤ 4096) (hn : nAt K w q wd f)  : hm_Ci l D K yX2_amountBelow cX2_amountBelow 5 .int 1 [.ref (q), .int (iI (v))] w 0 0 (fun r w2 => r = iI (ct (mem f) 0 v.toNat : Nat) ∧ w2 = w) := by
  refine hm_enterI (by decide) (Nat.le_of_ble_eq_true rfl) ?_
  intro p e s m args below meth c E hr hnm
  show hm_V p l e (hm_rm 1 0 0) s m args below meth c D (hm_A w s.heap.size) 5 0 0 (MQ below (hm_Qi D w s.heap.size (fun r w2 => r = iI (ct (mem f) 0 v.toNat : Nat) ∧ w2 = w)) args s 0 0 (hm_A w s.heap.size)) w 0 [(0, .ref (q)), (1, .int (iI (v)))] []
  refine hv_iload_n E dX2_amountBelow_0 rfl 1 rfl rfl ?_
  refine hv_callSNI (na := 1) (As := [.int (iI (v))]) (st := []) E (c6_isBorder l D K v ⟨by omega, by omega⟩) dX2_amountBelow_1 gN_X2_23 gS_X6_isBorder gC_X6_isBorder gZ_X6 (by decide +kernel) rfl ⟨Nat.le_of_ble_eq_true rfl, Nat.le_of_ble_eq_true rfl⟩ (Nat.le_of_ble_eq_true rfl) ⟨Nat.zero_le _, Nat.zero_le _⟩ rfl rfl (fun r w2 hp => ?_)
  rw [hp.1, hp.2]
  show hm_V p l e (hm_rm 1 0 0) s m args below meth c D (hm_A w s.heap.size) 5 0 0 (MQ below (hm_Qi D w s.heap.size (fun r w2 => r = iI (ct (mem f) 0 v.toNat : Nat) ∧ w2 = w)) args s 0 0 (hm_A w s.heap.size)) w 4 [(0, .ref (q)), (1, .int (iI (v)))] [.int (bI (decide (0 ≤ v ∧ v ≤ 4096)))]
  refine hv_if_neB E 9 dX2_amountBelow_4 (by decide) rfl (fun h2 => ?_) (fun h2 => ?_)
  · refine hv_iload_n E dX2_amountBelow_9 rfl 1 rfl rfl ?_
    refine hv_iconst E dX2_amountBelow_10 rfl ?_
    refine hv_ishrR E dX2_amountBelow_11 rfl rfl ?_
    refine hv_topi (show (iI (v)) >>> ((iI (5)) &&& 31) = iI (v / 32) from iI_shr5 ⟨by omega, by omega⟩) ?_
    refine hv_istore_n (lv2 := [(2, .int (iI (v / 32))), (0, .ref (q)), (1, .int (iI (v)))]) E dX2_amountBelow_12 rfl (by decide) rfl rfl ?_
    refine hv_iconst E dX2_amountBelow_13 rfl ?_
    refine hv_istore_n (lv2 := [(3, .int (iI (0))), (2, .int (iI (v / 32))), (0, .ref (q)), (1, .int (iI (v)))]) E dX2_amountBelow_14 rfl (by decide) rfl rfl ?_
    refine hv_iconst E dX2_amountBelow_15 rfl ?_
    refine hv_istore (lv2 := [(4, .int (iI (0))), (3, .int (iI (0))), (2, .int (iI (v / 32))), (0, .ref (q)), (1, .int (iI (v)))]) E dX2_amountBelow_16 (by decide) rfl rfl ?_
    have LP : ∀ (k : Nat) (j : Int), (v / 32 - j < (k : Int)) → (0 ≤ j) → (j ≤ v / 32) → hm_V p l e (hm_rm 1 0 0) s m args below meth c D (hm_A w s.heap.size) 5 0 0 (MQ below (hm_Qi D w s.heap.size (fun r w2 => r = iI (ct (mem f) 0 v.toNat : Nat) ∧ w2 = w)) args s 0 0 (hm_A w s.heap.size)) w 18 [(4, .int (iI (j))), (3, .int (iI ((ct (mem f) 0 (32 * j.toNat) : Nat)))), (2, .int (iI (v / 32))), (0, .ref (q)), (1, .int (iI (v)))] [] := by
      intro k
      induction k with
      | zero =>
        intro j hk g0 g1
        exact absurd hk (by omega)
      | succ k ih =>
        intro j hk g0 g1
        have hc := ct_le (mem f) 0 (32 * j.toNat)
        refine hv_iload E dX2_amountBelow_18 0 rfl rfl ?_
        refine hv_iload_n E dX2_amountBelow_20 rfl 2 rfl rfl ?_
        refine hv_icmp_ge E 43 dX2_amountBelow_21 (by decide) ⟨by omega, by omega⟩ ⟨by omega, by omega⟩ rfl (fun h3 => ?_) (fun h3 => ?_)
        · have ej : j = v / 32 := by omega
          refine hv_iload_n E dX2_amountBelow_43 rfl 2 rfl rfl ?_
          refine hv_sipush E dX2_amountBelow_44 (by decide +kernel) rfl ?_
          refine hv_icmp_ge E 71 dX2_amountBelow_47 (by decide) ⟨by omega, by omega⟩ ⟨by omega, by omega⟩ rfl (fun h4 => ?_) (fun h4 => ?_)
          · refine hv_iload_n E dX2_amountBelow_71 rfl 1 rfl rfl ?_
            exact hv_iret E dX2_amountBelow_72 hr ⟨by rw [show 32 * j.toNat = v.toNat by omega], rfl⟩
          · refine hv_iload_n E dX2_amountBelow_50 rfl 1 rfl rfl ?_
            refine hv_aload_n E dX2_amountBelow_51 rfl 3 rfl rfl ?_
            refine hv_get (kf := 0) E dX2_amountBelow_52 (show vwCl[1]? = some (RX2, TX2, 1) from rfl) (by decide) gW_X2 gF_X2_9 rfl hn.1 rfl rfl ?_
            refine hv_iload_n E dX2_amountBelow_55 rfl 2 rfl rfl ?_
            refine hv_iald E dX2_amountBelow_56 hn.2 (by omega) (by omega) (by decide) rfl ?_
            refine hv_iconst E dX2_amountBelow_57 rfl ?_
            refine hv_iload_n E dX2_amountBelow_58 rfl 4 rfl rfl ?_
            refine hv_bipush E dX2_amountBelow_59 (by decide +kernel) rfl ?_
            refine hv_iandR E dX2_amountBelow_61 rfl ?_
            refine hv_topi (show (iI (v)) &&& (iI (31)) = iI (v % 32) from iI_and31 v) ?_
            refine hv_ishlR E dX2_amountBelow_62 rfl rfl ?_
            refine hv_iconst E dX2_amountBelow_63 rfl ?_
            refine hv_ixorR E dX2_amountBelow_64 rfl ?_
            refine hv_iandR E dX2_amountBelow_65 rfl ?_
            refine hv_callSI (na := 1) (As := [.int ((f (v / 32).toNat) &&& (((iI ((-1))) <<< ((iI (v % 32)) &&& 31)) ^^^ (iI ((-1)))))]) (st := [.int (iI ((ct (mem f) 0 (32 * j.toNat) : Nat)))]) E (cJ_bitCount l D K ((f (v / 32).toNat) &&& (((iI ((-1))) <<< ((iI (v % 32)) &&& 31)) ^^^ (iI ((-1)))))) dX2_amountBelow_66 gL_X2_26 gS_J6_bitCount_0f7a4 gC_J6_bitCount_0f7a4 gZ_J6 (by decide +kernel) rfl ⟨Nat.le_of_ble_eq_true rfl, Nat.le_of_ble_eq_true rfl⟩ (Nat.le_of_ble_eq_true rfl) ⟨Nat.zero_le _, Nat.zero_le _⟩ rfl rfl (fun r w2 hp => ?_)
            rw [hp.1, hp.2]
            show hm_V p l e (hm_rm 1 0 0) s m args below meth c D (hm_A w s.heap.size) 5 0 0 (MQ below (hm_Qi D w s.heap.size (fun r w2 => r = iI (ct (mem f) 0 v.toNat : Nat) ∧ w2 = w)) args s 0 0 (hm_A w s.heap.size)) w 69 [(4, .int (iI (j))), (3, .int (iI ((ct (mem f) 0 (32 * j.toNat) : Nat)))), (2, .int (iI (v / 32))), (0, .ref (q)), (1, .int (iI (v)))] [.int (iI ((ct (bt ((f (v / 32).toNat) &&& (((iI ((-1))) <<< ((iI (v % 32)) &&& 31)) ^^^ (iI ((-1)))))) 0 32 : Nat))), .int (iI ((ct (mem f) 0 (32 * j.toNat) : Nat)))]
            refine hv_topi (show iI ((ct (bt ((f (v / 32).toNat) &&& (((iI ((-1))) <<< ((iI (v % 32)) &&& 31)) ^^^ (iI ((-1)))))) 0 32 : Nat)) = iI ((ct (bt (f (v / 32).toNat)) 0 (v % 32).toNat : Nat)) from (by
                  have hm := ct_mask (f (v / 32).toNat) (v % 32).toNat (by omega)
                  rw [Int.toNat_of_nonneg (show 0 ≤ v % 32 by omega)] at hm
                  rw [hm])) ?_
            refine hv_iadd E dX2_amountBelow_69 rfl ?_
            refine hv_istore_n (lv2 := [(3, .int (iI (((ct (mem f) 0 (32 * j.toNat) : Nat)) + ((ct (bt (f (v / 32).toNat)) 0 (v % 32).toNat : Nat))))), (4, .int (iI (j))), (2, .int (iI (v / 32))), (0, .ref (q)), (1, .int (iI (v)))]) E dX2_amountBelow_70 rfl (by decide) rfl rfl ?_
            refine hv_iload_n E dX2_amountBelow_71 rfl 0 rfl rfl ?_
            exact hv_iret E dX2_amountBelow_72 hr ⟨by
                  have e1 := ct_add (mem f) 0 (32 * (v / 32).toNat) (v % 32).toNat
                  rw [Nat.zero_add, ct_word f _ _ (by omega), show 32 * (v / 32).toNat + (v % 32).toNat = v.toNat by omega] at e1
                  rw [e1, ej]; congr 1, rfl⟩
        · refine hv_iload_n E dX2_amountBelow_24 rfl 1 rfl rfl ?_
          refine hv_aload_n E dX2_amountBelow_25 rfl 3 rfl rfl ?_
          refine hv_get (kf := 0) E dX2_amountBelow_26 (show vwCl[1]? = some (RX2, TX2, 1) from rfl) (by decide) gW_X2 gF_X2_9 rfl hn.1 rfl rfl ?_
          refine hv_iload E dX2_amountBelow_29 0 rfl rfl ?_
          refine hv_iald E dX2_amountBelow_31 hn.2 (by omega) (by omega) (by decide) rfl ?_
          refine hv_callSI (na := 1) (As := [.int (f j.toNat)]) (st := [.int (iI ((ct (mem f) 0 (32 * j.toNat) : Nat)))]) E (cJ_bitCount l D K (f j.toNat)) dX2_amountBelow_32 gL_X2_26 gS_J6_bitCount_0f7a4 gC_J6_bitCount_0f7a4 gZ_J6 (by decide +kernel) rfl ⟨Nat.le_of_ble_eq_true rfl, Nat.le_of_ble_eq_true rfl⟩ (Nat.le_of_ble_eq_true rfl) ⟨Nat.zero_le _, Nat.zero_le _⟩ rfl rfl (fun r w2 hp => ?_)
          rw [hp.1, hp.2]
          show hm_V p l e (hm_rm 1 0 0) s m args below meth c D (hm_A w s.heap.size) 5 0 0 (MQ below (hm_Qi D w s.heap.size (fun r w2 => r = iI (ct (mem f) 0 v.toNat : Nat) ∧ w2 = w)) args s 0 0 (hm_A w s.heap.size)) w 35 [(4, .int (iI (j))), (3, .int (iI ((ct (mem f) 0 (32 * j.toNat) : Nat)))), (2, .int (iI (v / 32))), (0, .ref (q)), (1, .int (iI (v)))] [.int (iI ((ct (bt (f j.toNat)) 0 32 : Nat))), .int (iI ((ct (mem f) 0 (32 * j.toNat) : Nat)))]
          refine hv_iadd E dX2_amountBelow_35 rfl ?_
          refine hv_topi (show iI (((ct (mem f) 0 (32 * j.toNat) : Nat)) + ((ct (bt (f j.toNat)) 0 32 : Nat))) = iI ((ct (mem f) 0 (32 * (j + 1).toNat) : Nat)) from (by
                rw [show 32 * (j + 1).toNat = 32 * j.toNat + 32 by omega, ct_add, Nat.zero_add, ct_word f _ _ (by omega)]
                congr 1)) ?_
          refine hv_istore_n (lv2 := [(3, .int (iI ((ct (mem f) 0 (32 * (j + 1).toNat) : Nat)))), (4, .int (iI (j))), (2, .int (iI (v / 32))), (0, .ref (q)), (1, .int (iI (v)))]) E dX2_amountBelow_36 rfl (by decide) rfl rfl ?_
          refine hv_iinc (lv2 := [(4, .int (iI (j + 1))), (3, .int (iI ((ct (mem f) 0 (32 * (j + 1).toNat) : Nat)))), (2, .int (iI (v / 32))), (0, .ref (q)), (1, .int (iI (v)))]) E dX2_amountBelow_37 1 rfl rfl (by decide) rfl rfl ?_
          refine hv_goto E 18 dX2_amountBelow_40 (by decide) ?_
          refine hv_sub (lv2 := [(4, .int (iI (j + 1))), (3, .int (iI ((ct (mem f) 0 (32 * (j + 1).toNat) : Nat)))), (2, .int (iI (v / 32))), (0, .ref (q)), (1, .int (iI (v)))]) [0, 1, 2, 3, 4] rfl ?_
          exact ih (j + 1) (by omega) (by omega) (by omega)
    refine hv_sub (lv2 := [(4, .int (iI (0))), (3, .int (iI (0))), (2, .int (iI (v / 32))), (0, .ref (q)), (1, .int (iI (v)))]) [0, 1, 2, 3, 4] rfl ?_
    exact LP (v / 32 + 1).toNat 0 (by omega) (by omega) (by omega)
  · exact absurd (of_decide_eq_false h2) (fun z => z ⟨h0, h1⟩)
set_option maxHeartbeats 4000000 in
set_option maxRecDepth 100000 in
theorem c2_amount (l : Launch) (D : va_G) (K : Nat → ClassId) {w : hm_M} {q wd : Nat} {f : Nat → Int32} (hn : nAt K w q wd f)  : hm_Ci l D K yX2_amount cX2_amount 1 .int 2 [.ref (q)] w 0 0 (fun r w2 => r = iI (ct (mem f) 0 4096 : Nat) ∧ w2 = w) := by
  refine hm_enterI (by decide) (Nat.le_of_ble_eq_true rfl) ?_
  intro p e s m args below meth c E hr hnm
  show hm_V p l e (hm_rm 2 0 0) s m args below meth c D (hm_A w s.heap.size) 1 0 0 (MQ below (hm_Qi D w s.heap.size (fun r w2 => r = iI (ct (mem f) 0 4096 : Nat) ∧ w2 = w)) args s 0 0 (hm_A w s.heap.size)) w 0 [(0, .ref (q))] []
  refine hv_aload_n E dX2_amount_0 rfl 0 rfl rfl ?_
  refine hv_sipush E dX2_amount_1 (by decide +kernel) rfl ?_
  refine hv_callVI (na := 1) (As := [.int (iI (4096))]) (st := []) E (c2_amountBelow l D K 4096 (by omega) (by omega) hn) dX2_amount_4 hn.1 (show vwCl[1]? = some (RX2, TX2, 1) from rfl) gL_X2_19 gV_X2_amountBelow gI_X2_amountBelow gC_X2_amountBelow gZ_X2 (by decide +kernel) rfl ⟨Nat.le_of_ble_eq_true rfl, Nat.le_of_ble_eq_true rfl⟩ (Nat.le_of_ble_eq_true rfl) ⟨Nat.zero_le _, Nat.zero_le _⟩ rfl rfl (fun r w2 hp => ?_)
  rw [hp.1, hp.2]
  show hm_V p l e (hm_rm 2 0 0) s m args below meth c D (hm_A w s.heap.size) 1 0 0 (MQ below (hm_Qi D w s.heap.size (fun r w2 => r = iI (ct (mem f) 0 4096 : Nat) ∧ w2 = w)) args s 0 0 (hm_A w s.heap.size)) w 7 [(0, .ref (q))] [.int (iI ((ct (mem f) 0 (4096 : Int).toNat : Nat)))]
  exact hv_iret E dX2_amount_7 hr ⟨rfl, rfl⟩
set_option maxHeartbeats 4000000 in
set_option maxRecDepth 100000 in
theorem c2_amountIn (l : Launch) (D : va_G) (K : Nat → ClassId) {w : hm_M} {q wd : Nat} {f : Nat → Int32} (x y : Int) (h0 : 0 ≤ x) (h1 : x ≤ y) (h2 : y < 4096) (hn : nAt K w q wd f)  : hm_Ci l D K yX2_amountIn cX2_amountIn 3 .int 2 [.ref (q), .int (iI (x)), .int (iI (y))] w 0 0 (fun r w2 => r = iI ((ct (mem f) x.toNat (y - x + 1).toNat : Nat) : Int) ∧ w2 = w) := by
  refine hm_enterI (by decide) (Nat.le_of_ble_eq_true rfl) ?_
  intro p e s m args below meth c E hr hnm
  show hm_V p l e (hm_rm 2 0 0) s m args below meth c D (hm_A w s.heap.size) 3 0 0 (MQ below (hm_Qi D w s.heap.size (fun r w2 => r = iI ((ct (mem f) x.toNat (y - x + 1).toNat : Nat) : Int) ∧ w2 = w)) args s 0 0 (hm_A w s.heap.size)) w 0 [(0, .ref (q)), (1, .int (iI (x))), (2, .int (iI (y)))] []
  refine hv_aload_n E dX2_amountIn_0 rfl 0 rfl rfl ?_
  refine hv_iload_n E dX2_amountIn_1 rfl 2 rfl rfl ?_
  refine hv_iconst E dX2_amountIn_2 rfl ?_
  refine hv_iadd E dX2_amountIn_3 rfl ?_
  refine hv_callVI (na := 1) (As := [.int (iI (y + 1))]) (st := []) E (c2_amountBelow l D K (y + 1) (by omega) (by omega) hn) dX2_amountIn_4 hn.1 (show vwCl[1]? = some (RX2, TX2, 1) from rfl) gL_X2_19 gV_X2_amountBelow gI_X2_amountBelow gC_X2_amountBelow gZ_X2 (by decide +kernel) rfl ⟨Nat.le_of_ble_eq_true rfl, Nat.le_of_ble_eq_true rfl⟩ (Nat.le_of_ble_eq_true rfl) ⟨Nat.zero_le _, Nat.zero_le _⟩ rfl rfl (fun r w2 hp => ?_)
  rw [hp.1, hp.2]
  show hm_V p l e (hm_rm 2 0 0) s m args below meth c D (hm_A w s.heap.size) 3 0 0 (MQ below (hm_Qi D w s.heap.size (fun r w2 => r = iI ((ct (mem f) x.toNat (y - x + 1).toNat : Nat) : Int) ∧ w2 = w)) args s 0 0 (hm_A w s.heap.size)) w 7 [(0, .ref (q)), (1, .int (iI (x))), (2, .int (iI (y)))] [.int (iI ((ct (mem f) 0 (y + 1).toNat : Nat)))]
  refine hv_aload_n E dX2_amountIn_7 rfl 0 rfl rfl ?_
  refine hv_iload_n E dX2_amountIn_8 rfl 1 rfl rfl ?_
  refine hv_callVI (na := 1) (As := [.int (iI (x))]) (st := [.int (iI ((ct (mem f) 0 (y + 1).toNat : Nat)))]) E (c2_amountBelow l D K x (by omega) (by omega) hn) dX2_amountIn_9 hn.1 (show vwCl[1]? = some (RX2, TX2, 1) from rfl) gL_X2_19 gV_X2_amountBelow gI_X2_amountBelow gC_X2_amountBelow gZ_X2 (by decide +kernel) rfl ⟨Nat.le_of_ble_eq_true rfl, Nat.le_of_ble_eq_true rfl⟩ (Nat.le_of_ble_eq_true rfl) ⟨Nat.zero_le _, Nat.zero_le _⟩ rfl rfl (fun r w2 hp => ?_)
  rw [hp.1, hp.2]
  show hm_V p l e (hm_rm 2 0 0) s m args below meth c D (hm_A w s.heap.size) 3 0 0 (MQ below (hm_Qi D w s.heap.size (fun r w2 => r = iI ((ct (mem f) x.toNat (y - x + 1).toNat : Nat) : Int) ∧ w2 = w)) args s 0 0 (hm_A w s.heap.size)) w 12 [(0, .ref (q)), (1, .int (iI (x))), (2, .int (iI (y)))] [.int (iI ((ct (mem f) 0 x.toNat : Nat))), .int (iI ((ct (mem f) 0 (y + 1).toNat : Nat)))]
  refine hv_isub E dX2_amountIn_12 rfl ?_
  exact hv_iret E dX2_amountIn_13 hr ⟨by
      have e1 := ct_add (mem f) 0 x.toNat (y - x + 1).toNat
      rw [Nat.zero_add, show x.toNat + (y - x + 1).toNat = (y + 1).toNat by omega] at e1
      rw [e1]; congr 1; omega, rfl⟩
