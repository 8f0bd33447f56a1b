set_option maxHeartbeats 4000000 in
set_option maxRecDepth 100000 in
theorem c7_has (l : Launch) (D : va_G) (K : Nat → ClassId) {w : hm_M} {q ia : Nat} {fs : List Value} {I : Nat → Bool} (x v : Int) (hx : iB x) (hv : iB v) (hm : mI K w q ia fs I)  : hm_Ci l D K yX7_has cX7_has 3 .int 2 [.ref (q), .int (iI (x)), .int (iI (v))] w 0 0 (fun r w2 => r = iI (if 0 ≤ x ∧ x < 8 then (if 0 ≤ v ∧ v < 4096 then (if mS I x v.toNat then 1 else 0) else -3) else -2) ∧ w2 = w) := by
  refine hm_enterI (by decide) (Nat.le_of_ble_eq_true rfl) ?_
  intro p e s m args below meth c E hr hnm
  show hm_V p l e (hm_rm 2 0 0) s m args below meth c D (hm_A w s.heap.size) 3 0 0 (MQ below (hm_Qi D w s.heap.size (fun r w2 => r = iI (if 0 ≤ x ∧ x < 8 then (if 0 ≤ v ∧ v < 4096 then (if mS I x v.toNat then 1 else 0) else -3) else -2) ∧ w2 = w)) args s 0 0 (hm_A w s.heap.size)) w 0 [(0, .ref (q)), (1, .int (iI (x))), (2, .int (iI (v)))] []
  refine hv_iload_n E dX7_has_0 rfl 1 rfl rfl ?_
  refine hv_callSI (na := 1) (As := [.int (iI (x))]) (st := []) E (c7_isSet l D K x hx) dX7_has_1 gL_X7_21 gS_X7_isSet gC_X7_isSet gZ_X7 (by decide +kernel) rfl ⟨Nat.le_of_ble_eq_true rfl, Nat.le_of_ble_eq_true rfl⟩ (Nat.le_of_ble_eq_true rfl) ⟨Nat.zero_le _, Nat.zero_le _⟩ rfl rfl (fun r w2 hp => ?_)
  rw [hp.1, hp.2]
  show hm_V p l e (hm_rm 2 0 0) s m args below meth c D (hm_A w s.heap.size) 3 0 0 (MQ below (hm_Qi D w s.heap.size (fun r w2 => r = iI (if 0 ≤ x ∧ x < 8 then (if 0 ≤ v ∧ v < 4096 then (if mS I x v.toNat then 1 else 0) else -3) else -2) ∧ w2 = w)) args s 0 0 (hm_A w s.heap.size)) w 4 [(0, .ref (q)), (1, .int (iI (x))), (2, .int (iI (v)))] [.int (bI (decide (0 ≤ x ∧ x ≤ 7)))]
  refine hv_if_neB E 10 dX7_has_4 (by decide) rfl (fun c1 => ?_) (fun c1 => ?_)
  · have c1 := of_decide_eq_true c1
    refine hv_iload_n E dX7_has_10 rfl 2 rfl rfl ?_
    refine hv_callSI (na := 1) (As := [.int (iI (v))]) (st := []) E (c7_isNumber l D K v hv) dX7_has_11 gL_X7_25 gS_X7_isNumber gC_X7_isNumber gZ_X7 (by decide +kernel) rfl ⟨Nat.le_of_ble_eq_true rfl, Nat.le_of_ble_eq_true rfl⟩ (Nat.le_of_ble_eq_true rfl) ⟨Nat.zero_le _, Nat.zero_le _⟩ rfl rfl (fun r w2 hp => ?_)
    rw [hp.1, hp.2]
    show hm_V p l e (hm_rm 2 0 0) s m args below meth c D (hm_A w s.heap.size) 3 0 0 (MQ below (hm_Qi D w s.heap.size (fun r w2 => r = iI (if 0 ≤ x ∧ x < 8 then (if 0 ≤ v ∧ v < 4096 then (if mS I x v.toNat then 1 else 0) else -3) else -2) ∧ w2 = w)) args s 0 0 (hm_A w s.heap.size)) w 14 [(0, .ref (q)), (1, .int (iI (x))), (2, .int (iI (v)))] [.int (bI (decide (0 ≤ v ∧ v ≤ 4095)))]
    refine hv_if_neB E 22 dX7_has_14 (by decide) rfl (fun c2 => ?_) (fun c2 => ?_)
    · have c2 := of_decide_eq_true c2
      refine hv_aload_n E dX7_has_22 rfl 0 rfl rfl ?_
      refine hv_iload_n E dX7_has_23 rfl 1 rfl rfl ?_
      refine hv_iload_n E dX7_has_24 rfl 2 rfl rfl ?_
      refine hv_callVI (na := 2) (As := [.int (iI (x)), .int (iI (v))]) (st := []) E (c7_is l D K x v (by omega) (by omega) (by omega) (by omega) hm) dX7_has_25 hm.1 (show vwCl[6]? = some (RX7, TX7, 7) from rfl) gL_X7_28 gV_X7_is gI_X7_is gC_X7_is gZ_X7 (by decide +kernel) rfl ⟨Nat.le_of_ble_eq_true rfl, Nat.le_of_ble_eq_true rfl⟩ (Nat.le_of_ble_eq_true rfl) ⟨Nat.zero_le _, Nat.zero_le _⟩ rfl rfl (fun r w2 hp => ?_)
      rw [hp.1, hp.2]
      show hm_V p l e (hm_rm 2 0 0) s m args below meth c D (hm_A w s.heap.size) 3 0 0 (MQ below (hm_Qi D w s.heap.size (fun r w2 => r = iI (if 0 ≤ x ∧ x < 8 then (if 0 ≤ v ∧ v < 4096 then (if mS I x v.toNat then 1 else 0) else -3) else -2) ∧ w2 = w)) args s 0 0 (hm_A w s.heap.size)) w 28 [(0, .ref (q)), (1, .int (iI (x))), (2, .int (iI (v)))] [.int (bI (mS I x (v).toNat))]
      refine hv_if_eqB E 35 dX7_has_28 (by decide) rfl (fun c3 => ?_) (fun c3 => ?_)
      · refine hv_iconst E dX7_has_35 rfl ?_
        exact hv_iret E dX7_has_36 hr ⟨by rw [if_pos (by omega), if_pos (by omega), c3]; rfl, rfl⟩
      · refine hv_iconst E dX7_has_31 rfl ?_
        refine hv_goto E 36 dX7_has_32 (by decide) ?_
        exact hv_iret E dX7_has_36 hr ⟨by rw [if_pos (by omega), if_pos (by omega), c3]; rfl, rfl⟩
    · have c2 := of_decide_eq_false c2
      refine hv_bipush E dX7_has_17 (by decide +kernel) rfl ?_
      refine hv_goto E 36 dX7_has_19 (by decide) ?_
      exact hv_iret E dX7_has_36 hr ⟨(by (repeat (first | rw [if_pos (by omega)] | rw [if_neg (by omega)])) <;> first | done | rfl), rfl⟩
  · have c1 := of_decide_eq_false c1
    refine hv_bipush E dX7_has_7 (by decide +kernel) rfl ?_
    exact hv_iret E dX7_has_9 hr ⟨(by (repeat (first | rw [if_pos (by omega)] | rw [if_neg (by omega)])) <;> first | done | rfl), rfl⟩
set_option maxHeartbeats 4000000 in
set_option maxRecDepth 100000 in
theorem c7_count (l : Launch) (D : va_G) (K : Nat → ClassId) {w : hm_M} {q ia : Nat} {fs : List Value} {I : Nat → Bool} (x : Int) (hx : iB x) (hm : mI K w q ia fs I)  : hm_Ci l D K yX7_count cX7_count 2 .int 2 [.ref (q), .int (iI (x))] w 0 0 (fun r w2 => r = iI (if 0 ≤ x ∧ x < 8 then (ct (mS I x) 0 4096 : Nat) else -2) ∧ w2 = w) := by
  refine hm_enterI (by decide) (Nat.le_of_ble_eq_true rfl) ?_
  intro p e s m args below meth c E hr hnm
  show hm_V p l e (hm_rm 2 0 0) s m args below meth c D (hm_A w s.heap.size) 2 0 0 (MQ below (hm_Qi D w s.heap.size (fun r w2 => r = iI (if 0 ≤ x ∧ x < 8 then (ct (mS I x) 0 4096 : Nat) else -2) ∧ w2 = w)) args s 0 0 (hm_A w s.heap.size)) w 0 [(0, .ref (q)), (1, .int (iI (x)))] []
  refine hv_iload_n E dX7_count_0 rfl 1 rfl rfl ?_
  refine hv_callSI (na := 1) (As := [.int (iI (x))]) (st := []) E (c7_isSet l D K x hx) dX7_count_1 gL_X7_21 gS_X7_isSet gC_X7_isSet gZ_X7 (by decide +kernel) rfl ⟨Nat.le_of_ble_eq_true rfl, Nat.le_of_ble_eq_true rfl⟩ (Nat.le_of_ble_eq_true rfl) ⟨Nat.zero_le _, Nat.zero_le _⟩ rfl rfl (fun r w2 hp => ?_)
  rw [hp.1, hp.2]
  show hm_V p l e (hm_rm 2 0 0) s m args below meth c D (hm_A w s.heap.size) 2 0 0 (MQ below (hm_Qi D w s.heap.size (fun r w2 => r = iI (if 0 ≤ x ∧ x < 8 then (ct (mS I x) 0 4096 : Nat) else -2) ∧ w2 = w)) args s 0 0 (hm_A w s.heap.size)) w 4 [(0, .ref (q)), (1, .int (iI (x)))] [.int (bI (decide (0 ≤ x ∧ x ≤ 7)))]
  refine hv_if_eqB E 19 dX7_count_4 (by decide) rfl (fun c1 => ?_) (fun c1 => ?_)
  · have c1 := of_decide_eq_false c1
    refine hv_bipush E dX7_count_19 (by decide +kernel) rfl ?_
    exact hv_iret E dX7_count_21 hr ⟨(by (repeat (first | rw [if_pos (by omega)] | rw [if_neg (by omega)])) <;> first | done | rfl), rfl⟩
  · have c1 := of_decide_eq_true c1
    refine hv_aload_n E dX7_count_7 rfl 0 rfl rfl ?_
    refine hv_iload_n E dX7_count_8 rfl 1 rfl rfl ?_
    refine hv_iconst E dX7_count_9 rfl ?_
    refine hv_sipush E dX7_count_10 (by decide +kernel) rfl ?_
    refine hv_callVI (na := 3) (As := [.int (iI (x)), .int (iI (0)), .int (iI (4096))]) (st := []) E (c7_many l D K x 0 4096 (by omega) (by omega) (by omega) (by omega) (by omega) hm) dX7_count_13 hm.1 (show vwCl[6]? = some (RX7, TX7, 7) from rfl) gL_X7_36 gV_X7_many gI_X7_many gC_X7_many gZ_X7 (by decide +kernel) rfl ⟨Nat.le_of_ble_eq_true rfl, Nat.le_of_ble_eq_true rfl⟩ (Nat.le_of_ble_eq_true rfl) ⟨Nat.zero_le _, Nat.zero_le _⟩ rfl rfl (fun r w2 hp => ?_)
    rw [hp.1, hp.2]
    show hm_V p l e (hm_rm 2 0 0) s m args below meth c D (hm_A w s.heap.size) 2 0 0 (MQ below (hm_Qi D w s.heap.size (fun r w2 => r = iI (if 0 ≤ x ∧ x < 8 then (ct (mS I x) 0 4096 : Nat) else -2) ∧ w2 = w)) args s 0 0 (hm_A w s.heap.size)) w 16 [(0, .ref (q)), (1, .int (iI (x)))] [.int (iI ((ct (mS I x) (0 : Int).toNat (4096 - 0 : Int).toNat : Nat)))]
    refine hv_goto E 21 dX7_count_16 (by decide) ?_
    exact hv_iret E dX7_count_21 hr ⟨(by (repeat (first | rw [if_pos (by omega)] | rw [if_neg (by omega)])) <;> first | done | rfl), rfl⟩
set_option maxHeartbeats 4000000 in
set_option maxRecDepth 100000 in
theorem c7_rank (l : Launch) (D : va_G) (K : Nat → ClassId) {w : hm_M} {q ia : Nat} {fs : List Value} {I : Nat → Bool} (x v : Int) (hx : iB x) (hv : iB v) (hm : mI K w q ia fs I)  : hm_Ci l D K yX7_rank cX7_rank 3 .int 2 [.ref (q), .int (iI (x)), .int (iI (v))] w 0 0 (fun r w2 => r = iI (if 0 ≤ x ∧ x < 8 then (if 0 ≤ v ∧ v ≤ 4096 then (ct (mS I x) 0 v.toNat : Nat) else -3) else -2) ∧ w2 = w) := by
  refine hm_enterI (by decide) (Nat.le_of_ble_eq_true rfl) ?_
  intro p e s m args below meth c E hr hnm
  show hm_V p l e (hm_rm 2 0 0) s m args below meth c D (hm_A w s.heap.size) 3 0 0 (MQ below (hm_Qi D w s.heap.size (fun r w2 => r = iI (if 0 ≤ x ∧ x < 8 then (if 0 ≤ v ∧ v ≤ 4096 then (ct (mS I x) 0 v.toNat : Nat) else -3) else -2) ∧ w2 = w)) args s 0 0 (hm_A w s.heap.size)) w 0 [(0, .ref (q)), (1, .int (iI (x))), (2, .int (iI (v)))] []
  refine hv_iload_n E dX7_rank_0 rfl 1 rfl rfl ?_
  refine hv_callSI (na := 1) (As := [.int (iI (x))]) (st := []) E (c7_isSet l D K x hx) dX7_rank_1 gL_X7_21 gS_X7_isSet gC_X7_isSet gZ_X7 (by decide +kernel) rfl ⟨Nat.le_of_ble_eq_true rfl, Nat.le_of_ble_eq_true rfl⟩ (Nat.le_of_ble_eq_true rfl) ⟨Nat.zero_le _, Nat.zero_le _⟩ rfl rfl (fun r w2 hp => ?_)
  rw [hp.1, hp.2]
  show hm_V p l e (hm_rm 2 0 0) s m args below meth c D (hm_A w s.heap.size) 3 0 0 (MQ below (hm_Qi D w s.heap.size (fun r w2 => r = iI (if 0 ≤ x ∧ x < 8 then (if 0 ≤ v ∧ v ≤ 4096 then (ct (mS I x) 0 v.toNat : Nat) else -3) else -2) ∧ w2 = w)) args s 0 0 (hm_A w s.heap.size)) w 4 [(0, .ref (q)), (1, .int (iI (x))), (2, .int (iI (v)))] [.int (bI (decide (0 ≤ x ∧ x ≤ 7)))]
  refine hv_if_neB E 10 dX7_rank_4 (by decide) rfl (fun c1 => ?_) (fun c1 => ?_)
  · have c1 := of_decide_eq_true c1
    refine hv_iload_n E dX7_rank_10 rfl 2 rfl rfl ?_
    refine hv_iconst E dX7_rank_11 rfl ?_
    refine hv_sipush E dX7_rank_12 (by decide +kernel) rfl ?_
    refine hv_callSI (na := 3) (As := [.int (iI (v)), .int (iI (0)), .int (iI (4096))]) (st := []) E (c7_within l D K v 0 4096 hv ⟨by omega, by omega⟩ ⟨by omega, by omega⟩) dX7_rank_15 gL_X7_17 gS_X7_within gC_X7_within gZ_X7 (by decide +kernel) rfl ⟨Nat.le_of_ble_eq_true rfl, Nat.le_of_ble_eq_true rfl⟩ (Nat.le_of_ble_eq_true rfl) ⟨Nat.zero_le _, Nat.zero_le _⟩ rfl rfl (fun r w2 hp => ?_)
    rw [hp.1, hp.2]
    show hm_V p l e (hm_rm 2 0 0) s m args below meth c D (hm_A w s.heap.size) 3 0 0 (MQ below (hm_Qi D w s.heap.size (fun r w2 => r = iI (if 0 ≤ x ∧ x < 8 then (if 0 ≤ v ∧ v ≤ 4096 then (ct (mS I x) 0 v.toNat : Nat) else -3) else -2) ∧ w2 = w)) args s 0 0 (hm_A w s.heap.size)) w 18 [(0, .ref (q)), (1, .int (iI (x))), (2, .int (iI (v)))] [.int (bI (decide (0 ≤ v ∧ v ≤ 4096)))]
    refine hv_if_eqB E 31 dX7_rank_18 (by decide) rfl (fun c2 => ?_) (fun c2 => ?_)
    · have c2 := of_decide_eq_false c2
      refine hv_bipush E dX7_rank_31 (by decide +kernel) rfl ?_
      exact hv_iret E dX7_rank_33 hr ⟨(by (repeat (first | rw [if_pos (by omega)] | rw [if_neg (by omega)])) <;> first | done | rfl), rfl⟩
    · have c2 := of_decide_eq_true c2
      refine hv_aload_n E dX7_rank_21 rfl 0 rfl rfl ?_
      refine hv_iload_n E dX7_rank_22 rfl 1 rfl rfl ?_
      refine hv_iconst E dX7_rank_23 rfl ?_
      refine hv_iload_n E dX7_rank_24 rfl 2 rfl rfl ?_
      refine hv_callVI (na := 3) (As := [.int (iI (x)), .int (iI (0)), .int (iI (v))]) (st := []) E (c7_many l D K x 0 v (by omega) (by omega) (by omega) (by omega) (by omega) hm) dX7_rank_25 hm.1 (show vwCl[6]? = some (RX7, TX7, 7) from rfl) gL_X7_36 gV_X7_many gI_X7_many gC_X7_many gZ_X7 (by decide +kernel) rfl ⟨Nat.le_of_ble_eq_true rfl, Nat.le_of_ble_eq_true rfl⟩ (Nat.le_of_ble_eq_true rfl) ⟨Nat.zero_le _, Nat.zero_le _⟩ rfl rfl (fun r w2 hp => ?_)
      rw [hp.1, hp.2]
      show hm_V p l e (hm_rm 2 0 0) s m args below meth c D (hm_A w s.heap.size) 3 0 0 (MQ below (hm_Qi D w s.heap.size (fun r w2 => r = iI (if 0 ≤ x ∧ x < 8 then (if 0 ≤ v ∧ v ≤ 4096 then (ct (mS I x) 0 v.toNat : Nat) else -3) else -2) ∧ w2 = w)) args s 0 0 (hm_A w s.heap.size)) w 28 [(0, .ref (q)), (1, .int (iI (x))), (2, .int (iI (v)))] [.int (iI ((ct (mS I x) (0 : Int).toNat (v - 0 : Int).toNat : Nat)))]
      refine hv_goto E 33 dX7_rank_28 (by decide) ?_
      exact hv_iret E dX7_rank_33 hr ⟨by rw [if_pos (by omega), if_pos (by omega), show v - 0 = v by omega]; rfl, rfl⟩
  · have c1 := of_decide_eq_false c1
    refine hv_bipush E dX7_rank_7 (by decide +kernel) rfl ?_
    exact hv_iret E dX7_rank_9 hr ⟨(by (repeat (first | rw [if_pos (by omega)] | rw [if_neg (by omega)])) <;> first | done | rfl), rfl⟩
set_option maxHeartbeats 4000000 in
set_option maxRecDepth 100000 in
theorem c7_nth (l : Launch) (D : va_G) (K : Nat → ClassId) {w : hm_M} {q ia : Nat} {fs : List Value} {I : Nat → Bool} (x n : Int) (hb : iB n) (h0 : 0 ≤ x) (h1 : x ≤ 8) (hm : mI K w q ia fs I)  : hm_Ci l D K yX7_nth cX7_nth 5 .int 1 [.ref (q), .int (iI (x)), .int (iI (n))] w 0 0 (fun r w2 => (∃ z : Int, isNth (mS I x) 4096 n z ∧ r = iI z) ∧ w2 = w) := by
  refine hm_enterI (by decide) (Nat.le_of_ble_eq_true rfl) ?_
  intro p e s m args below meth c E hr hnm
  show hm_V p l e (hm_rm 1 0 0) s m args below meth c D (hm_A w s.heap.size) 5 0 0 (MQ below (hm_Qi D w s.heap.size (fun r w2 => (∃ z : Int, isNth (mS I x) 4096 n z ∧ r = iI z) ∧ w2 = w)) args s 0 0 (hm_A w s.heap.size)) w 0 [(0, .ref (q)), (1, .int (iI (x))), (2, .int (iI (n)))] []
  have hb1 := hb.1
  have hb2 := hb.2
  refine hv_iload_n E dX7_nth_0 rfl 2 rfl rfl ?_
  refine hv_istore_n (lv2 := [(3, .int (iI (n))), (0, .ref (q)), (1, .int (iI (x))), (2, .int (iI (n)))]) E dX7_nth_1 rfl (by decide) rfl rfl ?_
  refine hv_iconst E dX7_nth_2 rfl ?_
  refine hv_istore (lv2 := [(4, .int (iI (0))), (3, .int (iI (n))), (0, .ref (q)), (1, .int (iI (x))), (2, .int (iI (n)))]) E dX7_nth_3 (by decide) rfl rfl ?_
  have LP : ∀ (k : Nat) (j lf : Int), (4096 - j < (k : Int)) → (0 ≤ j) → (j ≤ 4096) → (lf = n - (ct (mS I x) 0 j.toNat : Nat)) → (0 ≤ n → 0 ≤ lf) → hm_V p l e (hm_rm 1 0 0) s m args below meth c D (hm_A w s.heap.size) 5 0 0 (MQ below (hm_Qi D w s.heap.size (fun r w2 => (∃ z : Int, isNth (mS I x) 4096 n z ∧ r = iI z) ∧ w2 = w)) args s 0 0 (hm_A w s.heap.size)) w 5 [(4, .int (iI (j))), (3, .int (iI (lf))), (0, .ref (q)), (1, .int (iI (x))), (2, .int (iI (n)))] [] := by
    intro k
    induction k with
    | zero =>
      intro j lf hk g0 g1 hs hq
      exact absurd hk (by omega)
    | succ k ih =>
      intro j lf hk g0 g1 hs hq
      have hc := ct_le (mS I x) 0 j.toNat
      refine hv_iload E dX7_nth_5 0 rfl rfl ?_
      refine hv_sipush E dX7_nth_7 (by decide +kernel) rfl ?_
      refine hv_icmp_ge E 43 dX7_nth_10 (by decide) ⟨by omega, by omega⟩ ⟨by omega, by omega⟩ rfl (fun c1 => ?_) (fun c1 => ?_)
      · skip
        refine hv_iconst E dX7_nth_43 rfl ?_
        exact hv_iret E dX7_nth_44 hr ⟨⟨-1, Or.inl ⟨rfl, by
                  rcases (show n < 0 ∨ 0 ≤ n by omega) with z | z
                  · exact Or.inl z
                  · have := hq z
                    rw [show j.toNat = 4096 by omega] at hs
                    exact Or.inr (by omega)⟩, rfl⟩, rfl⟩
      · skip
        refine hv_iload_n E dX7_nth_13 rfl 4 rfl rfl ?_
        refine hv_if_lt E 43 dX7_nth_14 (by decide) hb rfl (fun c2 => ?_) (fun c2 => ?_)
        · skip
          refine hv_iconst E dX7_nth_43 rfl ?_
          exact hv_iret E dX7_nth_44 hr ⟨⟨-1, Or.inl ⟨rfl, Or.inl (by omega)⟩, rfl⟩, rfl⟩
        · skip
          refine hv_aload_n E dX7_nth_17 rfl 2 rfl rfl ?_
          refine hv_iload_n E dX7_nth_18 rfl 3 rfl rfl ?_
          refine hv_iload E dX7_nth_19 0 rfl rfl ?_
          refine hv_callVI (na := 2) (As := [.int (iI (x)), .int (iI (j))]) (st := []) E (c7_is l D K x j (by omega) (by omega) (by omega) (by omega) hm) dX7_nth_21 hm.1 (show vwCl[6]? = some (RX7, TX7, 7) from rfl) gL_X7_28 gV_X7_is gI_X7_is gC_X7_is gZ_X7 (by decide +kernel) rfl ⟨Nat.le_of_ble_eq_true rfl, Nat.le_of_ble_eq_true rfl⟩ (Nat.le_of_ble_eq_true rfl) ⟨Nat.zero_le _, Nat.zero_le _⟩ rfl rfl (fun r w2 hp => ?_)
          rw [hp.1, hp.2]
          show hm_V p l e (hm_rm 1 0 0) s m args below meth c D (hm_A w s.heap.size) 5 0 0 (MQ below (hm_Qi D w s.heap.size (fun r w2 => (∃ z : Int, isNth (mS I x) 4096 n z ∧ r = iI z) ∧ w2 = w)) args s 0 0 (hm_A w s.heap.size)) w 24 [(4, .int (iI (j))), (3, .int (iI (lf))), (0, .ref (q)), (1, .int (iI (x))), (2, .int (iI (n)))] [.int (bI (mS I x (j).toNat))]
          refine hv_if_eqB E 37 dX7_nth_24 (by decide) rfl (fun c3 => ?_) (fun c3 => ?_)
          · refine hv_iinc (lv2 := [(4, .int (iI (j + 1))), (3, .int (iI (lf))), (0, .ref (q)), (1, .int (iI (x))), (2, .int (iI (n)))]) E dX7_nth_37 0 rfl rfl (by decide) rfl rfl ?_
            refine hv_goto E 5 dX7_nth_40 (by decide) ?_
            refine hv_sub (lv2 := [(4, .int (iI (j + 1))), (3, .int (iI (lf))), (0, .ref (q)), (1, .int (iI (x))), (2, .int (iI (n)))]) [0, 1, 2, 3, 4] rfl ?_
            exact ih (j + 1) _ (by omega) (by omega) (by omega) (by rw [show (j + 1).toNat = j.toNat + 1 by omega, ct_succ, Nat.zero_add, c3]; exact hs) hq
          · refine hv_iload_n E dX7_nth_27 rfl 1 rfl rfl ?_
            refine hv_if_ne E 34 dX7_nth_28 (by decide) ⟨by omega, by omega⟩ rfl (fun c4 => ?_) (fun c4 => ?_)
            · skip
              refine hv_iinc (lv2 := [(3, .int (iI (lf + (-1)))), (4, .int (iI (j))), (0, .ref (q)), (1, .int (iI (x))), (2, .int (iI (n)))]) E dX7_nth_34 1 rfl rfl (by decide) rfl rfl ?_
              refine hv_iinc (lv2 := [(4, .int (iI (j + 1))), (3, .int (iI (lf + (-1)))), (0, .ref (q)), (1, .int (iI (x))), (2, .int (iI (n)))]) E dX7_nth_37 1 rfl rfl (by decide) rfl rfl ?_
              refine hv_goto E 5 dX7_nth_40 (by decide) ?_
              refine hv_sub (lv2 := [(4, .int (iI (j + 1))), (3, .int (iI (lf + (-1)))), (0, .ref (q)), (1, .int (iI (x))), (2, .int (iI (n)))]) [0, 1, 2, 3, 4] rfl ?_
              exact ih (j + 1) _ (by omega) (by omega) (by omega) (by rw [show (j + 1).toNat = j.toNat + 1 by omega, ct_succ, Nat.zero_add, c3, hs]; simp; omega) (by omega)
            · skip
              refine hv_iload E dX7_nth_31 0 rfl rfl ?_
              exact hv_iret E dX7_nth_33 hr ⟨⟨j, Or.inr ⟨g0, by omega, c3, by omega⟩, rfl⟩, rfl⟩
  refine hv_sub (lv2 := [(4, .int (iI (0))), (3, .int (iI (n))), (0, .ref (q)), (1, .int (iI (x))), (2, .int (iI (n)))]) [0, 1, 2, 3, 4] rfl ?_
  exact LP 4097 0 n (by omega) (by omega) (by omega) (by show n = n - ((0 : Nat) : Int); omega) (fun z => z)
set_option maxHeartbeats 4000000 in
set_option maxRecDepth 100000 in
theorem c7_select (l : Launch) (D : va_G) (K : Nat → ClassId) {w : hm_M} {q ia : Nat} {fs : List Value} {I : Nat → Bool} (x n : Int) (hx : iB x) (hb : iB n) (hm : mI K w q ia fs I)  : hm_Ci l D K yX7_select cX7_select 3 .int 2 [.ref (q), .int (iI (x)), .int (iI (n))] w 0 0 (fun r w2 => (∃ z : Int, (0 ≤ x ∧ x < 8 → isNth (mS I x) 4096 n z) ∧ (¬ (0 ≤ x ∧ x < 8) → z = -2) ∧ r = iI z) ∧ w2 = w) := by
  refine hm_enterI (by decide) (Nat.le_of_ble_eq_true rfl) ?_
  intro p e s m args below meth c E hr hnm
  show hm_V p l e (hm_rm 2 0 0) s m args below meth c D (hm_A w s.heap.size) 3 0 0 (MQ below (hm_Qi D w s.heap.size (fun r w2 => (∃ z : Int, (0 ≤ x ∧ x < 8 → isNth (mS I x) 4096 n z) ∧ (¬ (0 ≤ x ∧ x < 8) → z = -2) ∧ r = iI z) ∧ w2 = w)) args s 0 0 (hm_A w s.heap.size)) w 0 [(0, .ref (q)), (1, .int (iI (x))), (2, .int (iI (n)))] []
  refine hv_iload_n E dX7_select_0 rfl 1 rfl rfl ?_
  refine hv_callSI (na := 1) (As := [.int (iI (x))]) (st := []) E (c7_isSet l D K x hx) dX7_select_1 gL_X7_21 gS_X7_isSet gC_X7_isSet gZ_X7 (by decide +kernel) rfl ⟨Nat.le_of_ble_eq_true rfl, Nat.le_of_ble_eq_true rfl⟩ (Nat.le_of_ble_eq_true rfl) ⟨Nat.zero_le _, Nat.zero_le _⟩ rfl rfl (fun r w2 hp => ?_)
  rw [hp.1, hp.2]
  show hm_V p l e (hm_rm 2 0 0) s m args below meth c D (hm_A w s.heap.size) 3 0 0 (MQ below (hm_Qi D w s.heap.size (fun r w2 => (∃ z : Int, (0 ≤ x ∧ x < 8 → isNth (mS I x) 4096 n z) ∧ (¬ (0 ≤ x ∧ x < 8) → z = -2) ∧ r = iI z) ∧ w2 = w)) args s 0 0 (hm_A w s.heap.size)) w 4 [(0, .ref (q)), (1, .int (iI (x))), (2, .int (iI (n)))] [.int (bI (decide (0 ≤ x ∧ x ≤ 7)))]
  refine hv_if_eqB E 16 dX7_select_4 (by decide) rfl (fun c1 => ?_) (fun c1 => ?_)
  · have c1 := of_decide_eq_false c1
    refine hv_bipush E dX7_select_16 (by decide +kernel) rfl ?_
    exact hv_iret E dX7_select_18 hr ⟨⟨-2, fun h => absurd h (by omega), fun _ => rfl, rfl⟩, rfl⟩
  · have c1 := of_decide_eq_true c1
    refine hv_aload_n E dX7_select_7 rfl 0 rfl rfl ?_
    refine hv_iload_n E dX7_select_8 rfl 1 rfl rfl ?_
    refine hv_iload_n E dX7_select_9 rfl 2 rfl rfl ?_
    refine hv_callVI (na := 2) (As := [.int (iI (x)), .int (iI (n))]) (st := []) E (c7_nth l D K x n hb (by omega) (by omega) hm) dX7_select_10 hm.1 (show vwCl[6]? = some (RX7, TX7, 7) from rfl) gL_X7_40 gV_X7_nth gI_X7_nth gC_X7_nth gZ_X7 (by decide +kernel) rfl ⟨Nat.le_of_ble_eq_true rfl, Nat.le_of_ble_eq_true rfl⟩ (Nat.le_of_ble_eq_true rfl) ⟨Nat.zero_le _, Nat.zero_le _⟩ rfl rfl (fun r w2 hp => ?_)
    obtain ⟨⟨z, p1, p2⟩, p3⟩ := hp
    rw [p2, p3]
    show hm_V p l e (hm_rm 2 0 0) s m args below meth c D (hm_A w s.heap.size) 3 0 0 (MQ below (hm_Qi D w s.heap.size (fun r w2 => (∃ z : Int, (0 ≤ x ∧ x < 8 → isNth (mS I x) 4096 n z) ∧ (¬ (0 ≤ x ∧ x < 8) → z = -2) ∧ r = iI z) ∧ w2 = w)) args s 0 0 (hm_A w s.heap.size)) w 13 [(0, .ref (q)), (1, .int (iI (x))), (2, .int (iI (n)))] [.int (iI (z))]
    refine hv_goto E 18 dX7_select_13 (by decide) ?_
    exact hv_iret E dX7_select_18 hr ⟨⟨z, fun _ => p1, fun h => absurd h (by omega), rfl⟩, rfl⟩
set_option maxHeartbeats 4000000 in
set_option maxRecDepth 100000 in
theorem c7_next (l : Launch) (D : va_G) (K : Nat → ClassId) {w : hm_M} {q ia : Nat} {fs : List Value} {I : Nat → Bool} (x v : Int) (hx : iB x) (hv : iB v) (hm : mI K w q ia fs I)  : hm_Ci l D K yX7_next cX7_next 4 .int 2 [.ref (q), .int (iI (x)), .int (iI (v))] w 0 0 (fun r w2 => (∃ z : Int, ((0 ≤ x ∧ x < 8) → (0 ≤ v ∧ v ≤ 4096) → isNext (mS I x) 4096 v z) ∧ (¬ (0 ≤ x ∧ x < 8) → z = -2) ∧ ((0 ≤ x ∧ x < 8) → ¬ (0 ≤ v ∧ v ≤ 4096) → z = -3) ∧ r = iI z) ∧ w2 = w) := by
  refine hm_enterI (by decide) (Nat.le_of_ble_eq_true rfl) ?_
  intro p e s m args below meth c E hr hnm
  show hm_V p l e (hm_rm 2 0 0) s m args below meth c D (hm_A w s.heap.size) 4 0 0 (MQ below (hm_Qi D w s.heap.size (fun r w2 => (∃ z : Int, ((0 ≤ x ∧ x < 8) → (0 ≤ v ∧ v ≤ 4096) → isNext (mS I x) 4096 v z) ∧ (¬ (0 ≤ x ∧ x < 8) → z = -2) ∧ ((0 ≤ x ∧ x < 8) → ¬ (0 ≤ v ∧ v ≤ 4096) → z = -3) ∧ r = iI z) ∧ w2 = w)) args s 0 0 (hm_A w s.heap.size)) w 0 [(0, .ref (q)), (1, .int (iI (x))), (2, .int (iI (v)))] []
  refine hv_iload_n E dX7_next_0 rfl 1 rfl rfl ?_
  refine hv_callSI (na := 1) (As := [.int (iI (x))]) (st := []) E (c7_isSet l D K x hx) dX7_next_1 gL_X7_21 gS_X7_isSet gC_X7_isSet gZ_X7 (by decide +kernel) rfl ⟨Nat.le_of_ble_eq_true rfl, Nat.le_of_ble_eq_true rfl⟩ (Nat.le_of_ble_eq_true rfl) ⟨Nat.zero_le _, Nat.zero_le _⟩ rfl rfl (fun r w2 hp => ?_)
  rw [hp.1, hp.2]
  show hm_V p l e (hm_rm 2 0 0) s m args below meth c D (hm_A w s.heap.size) 4 0 0 (MQ below (hm_Qi D w s.heap.size (fun r w2 => (∃ z : Int, ((0 ≤ x ∧ x < 8) → (0 ≤ v ∧ v ≤ 4096) → isNext (mS I x) 4096 v z) ∧ (¬ (0 ≤ x ∧ x < 8) → z = -2) ∧ ((0 ≤ x ∧ x < 8) → ¬ (0 ≤ v ∧ v ≤ 4096) → z = -3) ∧ r = iI z) ∧ w2 = w)) args s 0 0 (hm_A w s.heap.size)) w 4 [(0, .ref (q)), (1, .int (iI (x))), (2, .int (iI (v)))] [.int (bI (decide (0 ≤ x ∧ x ≤ 7)))]
  refine hv_if_neB E 10 dX7_next_4 (by decide) rfl (fun c1 => ?_) (fun c1 => ?_)
  · have c1 := of_decide_eq_true c1
    refine hv_iload_n E dX7_next_10 rfl 2 rfl rfl ?_
    refine hv_iconst E dX7_next_11 rfl ?_
    refine hv_sipush E dX7_next_12 (by decide +kernel) rfl ?_
    refine hv_callSI (na := 3) (As := [.int (iI (v)), .int (iI (0)), .int (iI (4096))]) (st := []) E (c7_within l D K v 0 4096 hv ⟨by omega, by omega⟩ ⟨by omega, by omega⟩) dX7_next_15 gL_X7_17 gS_X7_within gC_X7_within gZ_X7 (by decide +kernel) rfl ⟨Nat.le_of_ble_eq_true rfl, Nat.le_of_ble_eq_true rfl⟩ (Nat.le_of_ble_eq_true rfl) ⟨Nat.zero_le _, Nat.zero_le _⟩ rfl rfl (fun r w2 hp => ?_)
    rw [hp.1, hp.2]
    show hm_V p l e (hm_rm 2 0 0) s m args below meth c D (hm_A w s.heap.size) 4 0 0 (MQ below (hm_Qi D w s.heap.size (fun r w2 => (∃ z : Int, ((0 ≤ x ∧ x < 8) → (0 ≤ v ∧ v ≤ 4096) → isNext (mS I x) 4096 v z) ∧ (¬ (0 ≤ x ∧ x < 8) → z = -2) ∧ ((0 ≤ x ∧ x < 8) → ¬ (0 ≤ v ∧ v ≤ 4096) → z = -3) ∧ r = iI z) ∧ w2 = w)) args s 0 0 (hm_A w s.heap.size)) w 18 [(0, .ref (q)), (1, .int (iI (x))), (2, .int (iI (v)))] [.int (bI (decide (0 ≤ v ∧ v ≤ 4096)))]
    refine hv_if_neB E 24 dX7_next_18 (by decide) rfl (fun c2 => ?_) (fun c2 => ?_)
    · have c2 := of_decide_eq_true c2
      refine hv_iload_n E dX7_next_24 rfl 2 rfl rfl ?_
      refine hv_istore_n (lv2 := [(3, .int (iI (v))), (0, .ref (q)), (1, .int (iI (x))), (2, .int (iI (v)))]) E dX7_next_25 rfl (by decide) rfl rfl ?_
      have hX : 0 ≤ x ∧ x < 8 := by omega
      have hV : 0 ≤ v ∧ v ≤ 4096 := by omega
      have LP : ∀ (k : Nat) (j : Int), (4096 - j < (k : Int)) → (v ≤ j) → (j ≤ 4096) → (∀ u : Nat, v ≤ (u : Int) → (u : Int) < j → mS I x u = false) → hm_V p l e (hm_rm 2 0 0) s m args below meth c D (hm_A w s.heap.size) 4 0 0 (MQ below (hm_Qi D w s.heap.size (fun r w2 => (∃ z : Int, ((0 ≤ x ∧ x < 8) → (0 ≤ v ∧ v ≤ 4096) → isNext (mS I x) 4096 v z) ∧ (¬ (0 ≤ x ∧ x < 8) → z = -2) ∧ ((0 ≤ x ∧ x < 8) → ¬ (0 ≤ v ∧ v ≤ 4096) → z = -3) ∧ r = iI z) ∧ w2 = w)) args s 0 0 (hm_A w s.heap.size)) w 26 [(3, .int (iI (j))), (0, .ref (q)), (1, .int (iI (x))), (2, .int (iI (v)))] [] := by
        intro k
        induction k with
        | zero =>
          intro j hk g0 g1 hz
          exact absurd hk (by omega)
        | succ k ih =>
          intro j hk g0 g1 hz
          refine hv_iload_n E dX7_next_26 rfl 0 rfl rfl ?_
          refine hv_sipush E dX7_next_27 (by decide +kernel) rfl ?_
          refine hv_icmp_ge E 48 dX7_next_30 (by decide) ⟨by omega, by omega⟩ ⟨by omega, by omega⟩ rfl (fun c3 => ?_) (fun c3 => ?_)
          · skip
            refine hv_iload_n E dX7_next_48 rfl 0 rfl rfl ?_
            refine hv_sipush E dX7_next_49 (by decide +kernel) rfl ?_
            refine hv_icmp_ge E 59 dX7_next_52 (by decide) ⟨by omega, by omega⟩ ⟨by omega, by omega⟩ rfl (fun c4 => ?_) (fun c4 => ?_)
            · skip
              refine hv_iconst E dX7_next_59 rfl ?_
              exact hv_iret E dX7_next_60 hr ⟨⟨-1, fun _ _ => Or.inl ⟨rfl, fun u a b => hz u a (by omega)⟩, fun h => absurd hX h, fun _ h => absurd hV h, rfl⟩, rfl⟩
            · skip
              refine hv_iload_n E dX7_next_55 rfl 0 rfl rfl ?_
              refine hv_goto E 60 dX7_next_56 (by decide) ?_
              exact hv_iret E dX7_next_60 hr ⟨⟨j, fun _ _ => Or.inr ⟨g0, by omega, by omega, (by first | assumption | (exfalso; omega)), hz⟩, fun h => absurd hX h, fun _ h => absurd hV h, rfl⟩, rfl⟩
          · skip
            refine hv_aload_n E dX7_next_33 rfl 1 rfl rfl ?_
            refine hv_iload_n E dX7_next_34 rfl 2 rfl rfl ?_
            refine hv_iload_n E dX7_next_35 rfl 0 rfl rfl ?_
            refine hv_callVI (na := 2) (As := [.int (iI (x)), .int (iI (j))]) (st := []) E (c7_is l D K x j (by omega) (by omega) (by omega) (by omega) hm) dX7_next_36 hm.1 (show vwCl[6]? = some (RX7, TX7, 7) from rfl) gL_X7_28 gV_X7_is gI_X7_is gC_X7_is gZ_X7 (by decide +kernel) rfl ⟨Nat.le_of_ble_eq_true rfl, Nat.le_of_ble_eq_true rfl⟩ (Nat.le_of_ble_eq_true rfl) ⟨Nat.zero_le _, Nat.zero_le _⟩ rfl rfl (fun r w2 hp => ?_)
            rw [hp.1, hp.2]
            show hm_V p l e (hm_rm 2 0 0) s m args below meth c D (hm_A w s.heap.size) 4 0 0 (MQ below (hm_Qi D w s.heap.size (fun r w2 => (∃ z : Int, ((0 ≤ x ∧ x < 8) → (0 ≤ v ∧ v ≤ 4096) → isNext (mS I x) 4096 v z) ∧ (¬ (0 ≤ x ∧ x < 8) → z = -2) ∧ ((0 ≤ x ∧ x < 8) → ¬ (0 ≤ v ∧ v ≤ 4096) → z = -3) ∧ r = iI z) ∧ w2 = w)) args s 0 0 (hm_A w s.heap.size)) w 39 [(3, .int (iI (j))), (0, .ref (q)), (1, .int (iI (x))), (2, .int (iI (v)))] [.int (bI (mS I x (j).toNat))]
            refine hv_if_neB E 48 dX7_next_39 (by decide) rfl (fun c5 => ?_) (fun c5 => ?_)
            · refine hv_iload_n E dX7_next_48 rfl 0 rfl rfl ?_
              refine hv_sipush E dX7_next_49 (by decide +kernel) rfl ?_
              refine hv_icmp_ge E 59 dX7_next_52 (by decide) ⟨by omega, by omega⟩ ⟨by omega, by omega⟩ rfl (fun c6 => ?_) (fun c6 => ?_)
              · skip
                refine hv_iconst E dX7_next_59 rfl ?_
                exact hv_iret E dX7_next_60 hr ⟨⟨-1, fun _ _ => Or.inl ⟨rfl, fun u a b => hz u a (by omega)⟩, fun h => absurd hX h, fun _ h => absurd hV h, rfl⟩, rfl⟩
              · skip
                refine hv_iload_n E dX7_next_55 rfl 0 rfl rfl ?_
                refine hv_goto E 60 dX7_next_56 (by decide) ?_
                exact hv_iret E dX7_next_60 hr ⟨⟨j, fun _ _ => Or.inr ⟨g0, by omega, by omega, (by first | assumption | (exfalso; omega)), hz⟩, fun h => absurd hX h, fun _ h => absurd hV h, rfl⟩, rfl⟩
            · refine hv_iinc (lv2 := [(3, .int (iI (j + 1))), (0, .ref (q)), (1, .int (iI (x))), (2, .int (iI (v)))]) E dX7_next_42 0 rfl rfl (by decide) rfl rfl ?_
              refine hv_goto E 26 dX7_next_45 (by decide) ?_
              refine hv_sub (lv2 := [(3, .int (iI (j + 1))), (0, .ref (q)), (1, .int (iI (x))), (2, .int (iI (v)))]) [0, 1, 2, 3] rfl ?_
              exact ih (j + 1) (by omega) (by omega) (by omega) (fun u a b => by
                      rcases (show (u : Int) < j ∨ u = j.toNat by omega) with z | z
                      · exact hz u a z
                      · rw [z]; assumption)
      refine hv_sub (lv2 := [(3, .int (iI (v))), (0, .ref (q)), (1, .int (iI (x))), (2, .int (iI (v)))]) [0, 1, 2, 3] rfl ?_
      exact LP 4097 v (by omega) (by omega) (by omega) (fun u a b => by omega)
    · have c2 := of_decide_eq_false c2
      refine hv_bipush E dX7_next_21 (by decide +kernel) rfl ?_
      exact hv_iret E dX7_next_23 hr ⟨⟨-3, fun _ h => absurd h (by omega), fun h => absurd (show 0 ≤ x ∧ x < 8 by omega) h, fun _ _ => rfl, rfl⟩, rfl⟩
  · have c1 := of_decide_eq_false c1
    refine hv_bipush E dX7_next_7 (by decide +kernel) rfl ?_
    exact hv_iret E dX7_next_9 hr ⟨⟨-2, fun h => absurd h (by omega), fun _ => rfl, fun h => absurd h (by omega), rfl⟩, rfl⟩
/-- z is the greatest of S below v, or -1 -/
def isBefore (S : Nat → Bool) (v z : Int) : Prop := (z = -1 ∧ ∀ u : Nat, (u : Int) < v → S u = false) ∨ (0 ≤ z ∧ z < v ∧ S z.toNat = true ∧ ∀ u : Nat, z < (u : Int) → (u : Int) < v → S u = false)
set_option maxHeartbeats 4000000 in
set_option maxRecDepth 100000 in
theorem c7_before (l : Launch) (D : va_G) (K : Nat → ClassId) {w : hm_M} {q ia : Nat} {fs : List Value} {I : Nat → Bool} (x v : Int) (hx : iB x) (hv : iB v) (hm : mI K w q ia fs I)  : hm_Ci l D K yX7_before cX7_before 4 .int 2 [.ref (q), .int (iI (x)), .int (iI (v))] w 0 0 (fun r w2 => (∃ z : Int, ((0 ≤ x ∧ x < 8) → (0 ≤ v ∧ v ≤ 4096) → isBefore (mS I x) v z) ∧ (¬ (0 ≤ x ∧ x < 8) → z = -2) ∧ ((0 ≤ x ∧ x < 8) → ¬ (0 ≤ v ∧ v ≤ 4096) → z = -3) ∧ r = iI z) ∧ w2 = w) := by
  refine hm_enterI (by decide) (Nat.le_of_ble_eq_true rfl) ?_
  intro p e s m args below meth c E hr hnm
  show hm_V p l e (hm_rm 2 0 0) s m args below meth c D (hm_A w s.heap.size) 4 0 0 (MQ below (hm_Qi D w s.heap.size (fun r w2 => (∃ z : Int, ((0 ≤ x ∧ x < 8) → (0 ≤ v ∧ v ≤ 4096) → isBefore (mS I x) v z) ∧ (¬ (0 ≤ x ∧ x < 8) → z = -2) ∧ ((0 ≤ x ∧ x < 8) → ¬ (0 ≤ v ∧ v ≤ 4096) → z = -3) ∧ r = iI z) ∧ w2 = w)) args s 0 0 (hm_A w s.heap.size)) w 0 [(0, .ref (q)), (1, .int (iI (x))), (2, .int (iI (v)))] []
  refine hv_iload_n E dX7_before_0 rfl 1 rfl rfl ?_
  refine hv_callSI (na := 1) (As := [.int (iI (x))]) (st := []) E (c7_isSet l D K x hx) dX7_before_1 gL_X7_21 gS_X7_isSet gC_X7_isSet gZ_X7 (by decide +kernel) rfl ⟨Nat.le_of_ble_eq_true rfl, Nat.le_of_ble_eq_true rfl⟩ (Nat.le_of_ble_eq_true rfl) ⟨Nat.zero_le _, Nat.zero_le _⟩ rfl rfl (fun r w2 hp => ?_)
  rw [hp.1, hp.2]
  show hm_V p l e (hm_rm 2 0 0) s m args below meth c D (hm_A w s.heap.size) 4 0 0 (MQ below (hm_Qi D w s.heap.size (fun r w2 => (∃ z : Int, ((0 ≤ x ∧ x < 8) → (0 ≤ v ∧ v ≤ 4096) → isBefore (mS I x) v z) ∧ (¬ (0 ≤ x ∧ x < 8) → z = -2) ∧ ((0 ≤ x ∧ x < 8) → ¬ (0 ≤ v ∧ v ≤ 4096) → z = -3) ∧ r = iI z) ∧ w2 = w)) args s 0 0 (hm_A w s.heap.size)) w 4 [(0, .ref (q)), (1, .int (iI (x))), (2, .int (iI (v)))] [.int (bI (decide (0 ≤ x ∧ x ≤ 7)))]
  refine hv_if_neB E 10 dX7_before_4 (by decide) rfl (fun c1 => ?_) (fun c1 => ?_)
  · have c1 := of_decide_eq_true c1
    refine hv_iload_n E dX7_before_10 rfl 2 rfl rfl ?_
    refine hv_iconst E dX7_before_11 rfl ?_
    refine hv_sipush E dX7_before_12 (by decide +kernel) rfl ?_
    refine hv_callSI (na := 3) (As := [.int (iI (v)), .int (iI (0)), .int (iI (4096))]) (st := []) E (c7_within l D K v 0 4096 hv ⟨by omega, by omega⟩ ⟨by omega, by omega⟩) dX7_before_15 gL_X7_17 gS_X7_within gC_X7_within gZ_X7 (by decide +kernel) rfl ⟨Nat.le_of_ble_eq_true rfl, Nat.le_of_ble_eq_true rfl⟩ (Nat.le_of_ble_eq_true rfl) ⟨Nat.zero_le _, Nat.zero_le _⟩ rfl rfl (fun r w2 hp => ?_)
    rw [hp.1, hp.2]
    show hm_V p l e (hm_rm 2 0 0) s m args below meth c D (hm_A w s.heap.size) 4 0 0 (MQ below (hm_Qi D w s.heap.size (fun r w2 => (∃ z : Int, ((0 ≤ x ∧ x < 8) → (0 ≤ v ∧ v ≤ 4096) → isBefore (mS I x) v z) ∧ (¬ (0 ≤ x ∧ x < 8) → z = -2) ∧ ((0 ≤ x ∧ x < 8) → ¬ (0 ≤ v ∧ v ≤ 4096) → z = -3) ∧ r = iI z) ∧ w2 = w)) args s 0 0 (hm_A w s.heap.size)) w 18 [(0, .ref (q)), (1, .int (iI (x))), (2, .int (iI (v)))] [.int (bI (decide (0 ≤ v ∧ v ≤ 4096)))]
    refine hv_if_neB E 24 dX7_before_18 (by decide) rfl (fun c2 => ?_) (fun c2 => ?_)
    · have c2 := of_decide_eq_true c2
      refine hv_iload_n E dX7_before_24 rfl 2 rfl rfl ?_
      refine hv_iconst E dX7_before_25 rfl ?_
      refine hv_isub E dX7_before_26 rfl ?_
      refine hv_istore_n (lv2 := [(3, .int (iI (v - 1))), (0, .ref (q)), (1, .int (iI (x))), (2, .int (iI (v)))]) E dX7_before_27 rfl (by decide) rfl rfl ?_
      have hX : 0 ≤ x ∧ x < 8 := by omega
      have hV : 0 ≤ v ∧ v ≤ 4096 := by omega
      have LP : ∀ (k : Nat) (j : Int), (j + 1 < (k : Int)) → (-1 ≤ j) → (j < v) → (∀ u : Nat, j < (u : Int) → (u : Int) < v → mS I x u = false) → hm_V p l e (hm_rm 2 0 0) s m args below meth c D (hm_A w s.heap.size) 4 0 0 (MQ below (hm_Qi D w s.heap.size (fun r w2 => (∃ z : Int, ((0 ≤ x ∧ x < 8) → (0 ≤ v ∧ v ≤ 4096) → isBefore (mS I x) v z) ∧ (¬ (0 ≤ x ∧ x < 8) → z = -2) ∧ ((0 ≤ x ∧ x < 8) → ¬ (0 ≤ v ∧ v ≤ 4096) → z = -3) ∧ r = iI z) ∧ w2 = w)) args s 0 0 (hm_A w s.heap.size)) w 28 [(3, .int (iI (j))), (0, .ref (q)), (1, .int (iI (x))), (2, .int (iI (v)))] [] := by
        intro k
        induction k with
        | zero =>
          intro j hk g0 g1 hz
          exact absurd hk (by omega)
        | succ k ih =>
          intro j hk g0 g1 hz
          refine hv_iload_n E dX7_before_28 rfl 0 rfl rfl ?_
          refine hv_if_lt E 47 dX7_before_29 (by decide) ⟨by omega, by omega⟩ rfl (fun d1 => ?_) (fun d1 => ?_)
          · refine hv_iload_n E dX7_before_47 rfl 0 rfl rfl ?_
            exact hv_iret E dX7_before_48 hr ⟨⟨j, fun _ _ => Or.inl ⟨by omega, fun u b => hz u (by omega) b⟩, fun h => absurd hX h, fun _ h => absurd hV h, rfl⟩, rfl⟩
          · refine hv_aload_n E dX7_before_32 rfl 1 rfl rfl ?_
            refine hv_iload_n E dX7_before_33 rfl 2 rfl rfl ?_
            refine hv_iload_n E dX7_before_34 rfl 0 rfl rfl ?_
            refine hv_callVI (na := 2) (As := [.int (iI (x)), .int (iI (j))]) (st := []) E (c7_is l D K x j (by omega) (by omega) (by omega) (by omega) hm) dX7_before_35 hm.1 (show vwCl[6]? = some (RX7, TX7, 7) from rfl) gL_X7_28 gV_X7_is gI_X7_is gC_X7_is gZ_X7 (by decide +kernel) rfl ⟨Nat.le_of_ble_eq_true rfl, Nat.le_of_ble_eq_true rfl⟩ (Nat.le_of_ble_eq_true rfl) ⟨Nat.zero_le _, Nat.zero_le _⟩ rfl rfl (fun r w2 hp => ?_)
            rw [hp.1, hp.2]
            show hm_V p l e (hm_rm 2 0 0) s m args below meth c D (hm_A w s.heap.size) 4 0 0 (MQ below (hm_Qi D w s.heap.size (fun r w2 => (∃ z : Int, ((0 ≤ x ∧ x < 8) → (0 ≤ v ∧ v ≤ 4096) → isBefore (mS I x) v z) ∧ (¬ (0 ≤ x ∧ x < 8) → z = -2) ∧ ((0 ≤ x ∧ x < 8) → ¬ (0 ≤ v ∧ v ≤ 4096) → z = -3) ∧ r = iI z) ∧ w2 = w)) args s 0 0 (hm_A w s.heap.size)) w 38 [(3, .int (iI (j))), (0, .ref (q)), (1, .int (iI (x))), (2, .int (iI (v)))] [.int (bI (mS I x (j).toNat))]
            refine hv_if_neB E 47 dX7_before_38 (by decide) rfl (fun c3 => ?_) (fun c3 => ?_)
            · refine hv_iload_n E dX7_before_47 rfl 0 rfl rfl ?_
              exact hv_iret E dX7_before_48 hr ⟨⟨j, fun _ _ => Or.inr ⟨by omega, g1, by assumption, hz⟩, fun h => absurd hX h, fun _ h => absurd hV h, rfl⟩, rfl⟩
            · refine hv_iinc (lv2 := [(3, .int (iI (j + (-1)))), (0, .ref (q)), (1, .int (iI (x))), (2, .int (iI (v)))]) E dX7_before_41 0 rfl rfl (by decide) rfl rfl ?_
              refine hv_goto E 28 dX7_before_44 (by decide) ?_
              refine hv_sub (lv2 := [(3, .int (iI (j + (-1)))), (0, .ref (q)), (1, .int (iI (x))), (2, .int (iI (v)))]) [0, 1, 2, 3] rfl ?_
              exact ih (j + -1) (by omega) (by omega) (by omega) (fun u a b => by
                      rcases (show j < (u : Int) ∨ u = j.toNat by omega) with z | z
                      · exact hz u z b
                      · rw [z]; assumption)
      refine hv_sub (lv2 := [(3, .int (iI (v - 1))), (0, .ref (q)), (1, .int (iI (x))), (2, .int (iI (v)))]) [0, 1, 2, 3] rfl ?_
      exact LP 4097 (v - 1) (by omega) (by omega) (by omega) (fun u a b => by omega)
    · have c2 := of_decide_eq_false c2
      refine hv_bipush E dX7_before_21 (by decide +kernel) rfl ?_
      exact hv_iret E dX7_before_23 hr ⟨⟨-3, fun _ h => absurd h (by omega), fun h => absurd (show 0 ≤ x ∧ x < 8 by omega) h, fun _ _ => rfl, rfl⟩, rfl⟩
  · have c1 := of_decide_eq_false c1
    refine hv_bipush E dX7_before_7 (by decide +kernel) rfl ?_
    exact hv_iret E dX7_before_9 hr ⟨⟨-2, fun h => absurd h (by omega), fun _ => rfl, fun h => absurd h (by omega), rfl⟩, rfl⟩
set_option maxHeartbeats 4000000 in
set_option maxRecDepth 100000 in
theorem c7_common (l : Launch) (D : va_G) (K : Nat → ClassId) {w : hm_M} {q ia : Nat} {fs : List Value} {I : Nat → Bool} (x y : Int) (hx : iB x) (hy : iB y) (hm : mI K w q ia fs I)  : hm_Ci l D K yX7_common cX7_common 5 .int 2 [.ref (q), .int (iI (x)), .int (iI (y))] w 0 0 (fun r w2 => r = iI (if (0 ≤ x ∧ x < 8) ∧ 0 ≤ y ∧ y < 8 then (ct (fun v => mS I x v && mS I y v) 0 4096 : Nat) else -2) ∧ w2 = w) := by
  refine hm_enterI (by decide) (Nat.le_of_ble_eq_true rfl) ?_
  intro p e s m args below meth c E hr hnm
  show hm_V p l e (hm_rm 2 0 0) s m args below meth c D (hm_A w s.heap.size) 5 0 0 (MQ below (hm_Qi D w s.heap.size (fun r w2 => r = iI (if (0 ≤ x ∧ x < 8) ∧ 0 ≤ y ∧ y < 8 then (ct (fun v => mS I x v && mS I y v) 0 4096 : Nat) else -2) ∧ w2 = w)) args s 0 0 (hm_A w s.heap.size)) w 0 [(0, .ref (q)), (1, .int (iI (x))), (2, .int (iI (y)))] []
  refine hv_iload_n E dX7_common_0 rfl 1 rfl rfl ?_
  refine hv_callSI (na := 1) (As := [.int (iI (x))]) (st := []) E (c7_isSet l D K x hx) dX7_common_1 gL_X7_21 gS_X7_isSet gC_X7_isSet gZ_X7 (by decide +kernel) rfl ⟨Nat.le_of_ble_eq_true rfl, Nat.le_of_ble_eq_true rfl⟩ (Nat.le_of_ble_eq_true rfl) ⟨Nat.zero_le _, Nat.zero_le _⟩ rfl rfl (fun r w2 hp => ?_)
  rw [hp.1, hp.2]
  show hm_V p l e (hm_rm 2 0 0) s m args below meth c D (hm_A w s.heap.size) 5 0 0 (MQ below (hm_Qi D w s.heap.size (fun r w2 => r = iI (if (0 ≤ x ∧ x < 8) ∧ 0 ≤ y ∧ y < 8 then (ct (fun v => mS I x v && mS I y v) 0 4096 : Nat) else -2) ∧ w2 = w)) args s 0 0 (hm_A w s.heap.size)) w 4 [(0, .ref (q)), (1, .int (iI (x))), (2, .int (iI (y)))] [.int (bI (decide (0 ≤ x ∧ x ≤ 7)))]
  refine hv_if_eqB E 14 dX7_common_4 (by decide) rfl (fun c1 => ?_) (fun c1 => ?_)
  · have c1 := of_decide_eq_false c1
    refine hv_bipush E dX7_common_14 (by decide +kernel) rfl ?_
    exact hv_iret E dX7_common_16 hr ⟨(by (repeat (first | rw [if_pos (by omega)] | rw [if_neg (by omega)])) <;> first | done | rfl), rfl⟩
  · have c1 := of_decide_eq_true c1
    refine hv_iload_n E dX7_common_7 rfl 2 rfl rfl ?_
    refine hv_callSI (na := 1) (As := [.int (iI (y))]) (st := []) E (c7_isSet l D K y hy) dX7_common_8 gL_X7_21 gS_X7_isSet gC_X7_isSet gZ_X7 (by decide +kernel) rfl ⟨Nat.le_of_ble_eq_true rfl, Nat.le_of_ble_eq_true rfl⟩ (Nat.le_of_ble_eq_true rfl) ⟨Nat.zero_le _, Nat.zero_le _⟩ rfl rfl (fun r w2 hp => ?_)
    rw [hp.1, hp.2]
    show hm_V p l e (hm_rm 2 0 0) s m args below meth c D (hm_A w s.heap.size) 5 0 0 (MQ below (hm_Qi D w s.heap.size (fun r w2 => r = iI (if (0 ≤ x ∧ x < 8) ∧ 0 ≤ y ∧ y < 8 then (ct (fun v => mS I x v && mS I y v) 0 4096 : Nat) else -2) ∧ w2 = w)) args s 0 0 (hm_A w s.heap.size)) w 11 [(0, .ref (q)), (1, .int (iI (x))), (2, .int (iI (y)))] [.int (bI (decide (0 ≤ y ∧ y ≤ 7)))]
    refine hv_if_neB E 17 dX7_common_11 (by decide) rfl (fun c2 => ?_) (fun c2 => ?_)
    · have c2 := of_decide_eq_true c2
      refine hv_iconst E dX7_common_17 rfl ?_
      refine hv_istore_n (lv2 := [(3, .int (iI (0))), (0, .ref (q)), (1, .int (iI (x))), (2, .int (iI (y)))]) E dX7_common_18 rfl (by decide) rfl rfl ?_
      refine hv_iconst E dX7_common_19 rfl ?_
      refine hv_istore (lv2 := [(4, .int (iI (0))), (3, .int (iI (0))), (0, .ref (q)), (1, .int (iI (x))), (2, .int (iI (y)))]) E dX7_common_20 (by decide) rfl rfl ?_
      have hX : 0 ≤ x ∧ x < 8 := by omega
      have hY : 0 ≤ y ∧ y < 8 := by omega
      have LP : ∀ (k : Nat) (j sm : Int), (4096 - j < (k : Int)) → (0 ≤ j) → (j ≤ 4096) → (sm = (ct (fun v => mS I x v && mS I y v) 0 j.toNat : Nat)) → hm_V p l e (hm_rm 2 0 0) s m args below meth c D (hm_A w s.heap.size) 5 0 0 (MQ below (hm_Qi D w s.heap.size (fun r w2 => r = iI (if (0 ≤ x ∧ x < 8) ∧ 0 ≤ y ∧ y < 8 then (ct (fun v => mS I x v && mS I y v) 0 4096 : Nat) else -2) ∧ w2 = w)) args s 0 0 (hm_A w s.heap.size)) w 22 [(4, .int (iI (j))), (3, .int (iI (sm))), (0, .ref (q)), (1, .int (iI (x))), (2, .int (iI (y)))] [] := by
        intro k
        induction k with
        | zero =>
          intro j sm hk g0 g1 hs
          exact absurd hk (by omega)
        | succ k ih =>
          intro j sm hk g0 g1 hs
          refine hv_iload E dX7_common_22 0 rfl rfl ?_
          refine hv_sipush E dX7_common_24 (by decide +kernel) rfl ?_
          refine hv_icmp_ge E 64 dX7_common_27 (by decide) ⟨by omega, by omega⟩ ⟨by omega, by omega⟩ rfl (fun c3 => ?_) (fun c3 => ?_)
          · skip
            refine hv_iload_n E dX7_common_64 rfl 1 rfl rfl ?_
            exact hv_iret E dX7_common_65 hr ⟨by rw [if_pos (by omega), hs, show j.toNat = 4096 by omega], rfl⟩
          · skip
            refine hv_iload_n E dX7_common_30 rfl 1 rfl rfl ?_
            refine hv_aload_n E dX7_common_31 rfl 2 rfl rfl ?_
            refine hv_iload_n E dX7_common_32 rfl 3 rfl rfl ?_
            refine hv_iload E dX7_common_33 0 rfl rfl ?_
            refine hv_callVI (na := 2) (As := [.int (iI (x)), .int (iI (j))]) (st := [.int (iI (sm))]) E (c7_is l D K x j (by omega) (by omega) (by omega) (by omega) hm) dX7_common_35 hm.1 (show vwCl[6]? = some (RX7, TX7, 7) from rfl) gL_X7_28 gV_X7_is gI_X7_is gC_X7_is gZ_X7 (by decide +kernel) rfl ⟨Nat.le_of_ble_eq_true rfl, Nat.le_of_ble_eq_true rfl⟩ (Nat.le_of_ble_eq_true rfl) ⟨Nat.zero_le _, Nat.zero_le _⟩ rfl rfl (fun r w2 hp => ?_)
            rw [hp.1, hp.2]
            show hm_V p l e (hm_rm 2 0 0) s m args below meth c D (hm_A w s.heap.size) 5 0 0 (MQ below (hm_Qi D w s.heap.size (fun r w2 => r = iI (if (0 ≤ x ∧ x < 8) ∧ 0 ≤ y ∧ y < 8 then (ct (fun v => mS I x v && mS I y v) 0 4096 : Nat) else -2) ∧ w2 = w)) args s 0 0 (hm_A w s.heap.size)) w 38 [(4, .int (iI (j))), (3, .int (iI (sm))), (0, .ref (q)), (1, .int (iI (x))), (2, .int (iI (y)))] [.int (bI (mS I x (j).toNat)), .int (iI (sm))]
            refine hv_if_eqB E 55 dX7_common_38 (by decide) rfl (fun c4 => ?_) (fun c4 => ?_)
            · refine hv_iconst E dX7_common_55 rfl ?_
              refine hv_iadd E dX7_common_56 rfl ?_
              refine hv_istore_n (lv2 := [(3, .int (iI (sm + 0))), (4, .int (iI (j))), (0, .ref (q)), (1, .int (iI (x))), (2, .int (iI (y)))]) E dX7_common_57 rfl (by decide) rfl rfl ?_
              refine hv_iinc (lv2 := [(4, .int (iI (j + 1))), (3, .int (iI (sm + 0))), (0, .ref (q)), (1, .int (iI (x))), (2, .int (iI (y)))]) E dX7_common_58 1 rfl rfl (by decide) rfl rfl ?_
              refine hv_goto E 22 dX7_common_61 (by decide) ?_
              refine hv_sub (lv2 := [(4, .int (iI (j + 1))), (3, .int (iI (sm + 0))), (0, .ref (q)), (1, .int (iI (x))), (2, .int (iI (y)))]) [0, 1, 2, 3, 4] rfl ?_
              exact ih (j + 1) _ (by omega) (by omega) (by omega) (by
                      rw [show (j + 1).toNat = j.toNat + 1 by omega, ct_succ, Nat.zero_add, hs]
                      simp [*])
            · refine hv_aload_n E dX7_common_41 rfl 2 rfl rfl ?_
              refine hv_iload_n E dX7_common_42 rfl 4 rfl rfl ?_
              refine hv_iload E dX7_common_43 0 rfl rfl ?_
              refine hv_callVI (na := 2) (As := [.int (iI (y)), .int (iI (j))]) (st := [.int (iI (sm))]) E (c7_is l D K y j (by omega) (by omega) (by omega) (by omega) hm) dX7_common_45 hm.1 (show vwCl[6]? = some (RX7, TX7, 7) from rfl) gL_X7_28 gV_X7_is gI_X7_is gC_X7_is gZ_X7 (by decide +kernel) rfl ⟨Nat.le_of_ble_eq_true rfl, Nat.le_of_ble_eq_true rfl⟩ (Nat.le_of_ble_eq_true rfl) ⟨Nat.zero_le _, Nat.zero_le _⟩ rfl rfl (fun r w2 hp => ?_)
              rw [hp.1, hp.2]
              show hm_V p l e (hm_rm 2 0 0) s m args below meth c D (hm_A w s.heap.size) 5 0 0 (MQ below (hm_Qi D w s.heap.size (fun r w2 => r = iI (if (0 ≤ x ∧ x < 8) ∧ 0 ≤ y ∧ y < 8 then (ct (fun v => mS I x v && mS I y v) 0 4096 : Nat) else -2) ∧ w2 = w)) args s 0 0 (hm_A w s.heap.size)) w 48 [(4, .int (iI (j))), (3, .int (iI (sm))), (0, .ref (q)), (1, .int (iI (x))), (2, .int (iI (y)))] [.int (bI (mS I y (j).toNat)), .int (iI (sm))]
              refine hv_if_eqB E 55 dX7_common_48 (by decide) rfl (fun c5 => ?_) (fun c5 => ?_)
              · refine hv_iconst E dX7_common_55 rfl ?_
                refine hv_iadd E dX7_common_56 rfl ?_
                refine hv_istore_n (lv2 := [(3, .int (iI (sm + 0))), (4, .int (iI (j))), (0, .ref (q)), (1, .int (iI (x))), (2, .int (iI (y)))]) E dX7_common_57 rfl (by decide) rfl rfl ?_
                refine hv_iinc (lv2 := [(4, .int (iI (j + 1))), (3, .int (iI (sm + 0))), (0, .ref (q)), (1, .int (iI (x))), (2, .int (iI (y)))]) E dX7_common_58 1 rfl rfl (by decide) rfl rfl ?_
                refine hv_goto E 22 dX7_common_61 (by decide) ?_
                refine hv_sub (lv2 := [(4, .int (iI (j + 1))), (3, .int (iI (sm + 0))), (0, .ref (q)), (1, .int (iI (x))), (2, .int (iI (y)))]) [0, 1, 2, 3, 4] rfl ?_
                exact ih (j + 1) _ (by omega) (by omega) (by omega) (by
                        rw [show (j + 1).toNat = j.toNat + 1 by omega, ct_succ, Nat.zero_add, hs]
                        simp [*])
              · refine hv_iconst E dX7_common_51 rfl ?_
                refine hv_goto E 56 dX7_common_52 (by decide) ?_
                refine hv_iadd E dX7_common_56 rfl ?_
                refine hv_istore_n (lv2 := [(3, .int (iI (sm + 1))), (4, .int (iI (j))), (0, .ref (q)), (1, .int (iI (x))), (2, .int (iI (y)))]) E dX7_common_57 rfl (by decide) rfl rfl ?_
                refine hv_iinc (lv2 := [(4, .int (iI (j + 1))), (3, .int (iI (sm + 1))), (0, .ref (q)), (1, .int (iI (x))), (2, .int (iI (y)))]) E dX7_common_58 1 rfl rfl (by decide) rfl rfl ?_
                refine hv_goto E 22 dX7_common_61 (by decide) ?_
                refine hv_sub (lv2 := [(4, .int (iI (j + 1))), (3, .int (iI (sm + 1))), (0, .ref (q)), (1, .int (iI (x))), (2, .int (iI (y)))]) [0, 1, 2, 3, 4] rfl ?_
                exact ih (j + 1) _ (by omega) (by omega) (by omega) (by
                        rw [show (j + 1).toNat = j.toNat + 1 by omega, ct_succ, Nat.zero_add, hs]
                        simp [*])
      refine hv_sub (lv2 := [(4, .int (iI (0))), (3, .int (iI (0))), (0, .ref (q)), (1, .int (iI (x))), (2, .int (iI (y)))]) [0, 1, 2, 3, 4] rfl ?_
      exact LP 4097 0 0 (by omega) (by omega) (by omega) rfl
    · have c2 := of_decide_eq_false c2
      refine hv_bipush E dX7_common_14 (by decide +kernel) rfl ?_
      exact hv_iret E dX7_common_16 hr ⟨(by (repeat (first | rw [if_pos (by omega)] | rw [if_neg (by omega)])) <;> first | done | rfl), rfl⟩
