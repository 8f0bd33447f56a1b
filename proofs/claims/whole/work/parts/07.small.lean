set_option maxHeartbeats 4000000 in
set_option maxRecDepth 100000 in
theorem c6_isSet (l : Launch) (D : va_G) (K : Nat → ClassId) {w : hm_M} (z : Int) (hz : iB z)  : hm_Ci l D K yX6_isSet cX6_isSet 1 .boolean 0 [.int (iI (z))] w 0 0 (fun r w2 => r = bI (decide (0 ≤ z ∧ z < 8)) ∧ w2 = w) := by
  refine hm_enterI (by decide) (Nat.le_of_ble_eq_true rfl) ?_
  intro p e s m args below meth c E hr hnm
  show hm_V p l e (hm_rm 0 0 0) s m args below meth c D (hm_A w s.heap.size) 1 0 0 (MQ below (hm_Qi D w s.heap.size (fun r w2 => r = bI (decide (0 ≤ z ∧ z < 8)) ∧ w2 = w)) args s 0 0 (hm_A w s.heap.size)) w 0 [(0, .int (iI (z)))] []
  refine hv_iload_n E dX6_isSet_0 rfl 0 rfl rfl ?_
  refine hv_if_lt E 14 dX6_isSet_1 (by decide) hz rfl (fun c1 => ?_) (fun c1 => ?_)
  · refine hv_iconst E dX6_isSet_14 rfl ?_
    refine hv_topi (show iI (0) = bI (false) from rfl) ?_
    exact hv_zret E dX6_isSet_15 hr ⟨by rw [bI_eq]; symm; simp only [decide_eq_false_iff_not]; omega, rfl⟩
  · refine hv_iload_n E dX6_isSet_4 rfl 0 rfl rfl ?_
    refine hv_bipush E dX6_isSet_5 (by decide +kernel) rfl ?_
    refine hv_icmp_ge E 14 dX6_isSet_7 (by decide) hz ⟨by omega, by omega⟩ rfl (fun c2 => ?_) (fun c2 => ?_)
    · refine hv_iconst E dX6_isSet_14 rfl ?_
      refine hv_topi (show iI (0) = bI (false) from rfl) ?_
      exact hv_zret E dX6_isSet_15 hr ⟨by rw [bI_eq]; symm; simp only [decide_eq_false_iff_not]; omega, rfl⟩
    · refine hv_iconst E dX6_isSet_10 rfl ?_
      refine hv_goto E 15 dX6_isSet_11 (by decide) ?_
      refine hv_topi (show iI (1) = bI (true) from rfl) ?_
      exact hv_zret E dX6_isSet_15 hr ⟨by rw [bI_eq]; symm; simp only [decide_eq_true_eq]; omega, rfl⟩
set_option maxHeartbeats 4000000 in
set_option maxRecDepth 100000 in
theorem c6_isNumber (l : Launch) (D : va_G) (K : Nat → ClassId) {w : hm_M} (z : Int) (hz : iB z)  : hm_Ci l D K yX6_isNumber cX6_isNumber 1 .boolean 0 [.int (iI (z))] w 0 0 (fun r w2 => r = bI (decide (0 ≤ z ∧ z < 4096)) ∧ w2 = w) := by
  refine hm_enterI (by decide) (Nat.le_of_ble_eq_true rfl) ?_
  intro p e s m args below meth c E hr hnm
  show hm_V p l e (hm_rm 0 0 0) s m args below meth c D (hm_A w s.heap.size) 1 0 0 (MQ below (hm_Qi D w s.heap.size (fun r w2 => r = bI (decide (0 ≤ z ∧ z < 4096)) ∧ w2 = w)) args s 0 0 (hm_A w s.heap.size)) w 0 [(0, .int (iI (z)))] []
  refine hv_iload_n E dX6_isNumber_0 rfl 0 rfl rfl ?_
  refine hv_if_lt E 15 dX6_isNumber_1 (by decide) hz rfl (fun c1 => ?_) (fun c1 => ?_)
  · refine hv_iconst E dX6_isNumber_15 rfl ?_
    refine hv_topi (show iI (0) = bI (false) from rfl) ?_
    exact hv_zret E dX6_isNumber_16 hr ⟨by rw [bI_eq]; symm; simp only [decide_eq_false_iff_not]; omega, rfl⟩
  · refine hv_iload_n E dX6_isNumber_4 rfl 0 rfl rfl ?_
    refine hv_sipush E dX6_isNumber_5 (by decide +kernel) rfl ?_
    refine hv_icmp_ge E 15 dX6_isNumber_8 (by decide) hz ⟨by omega, by omega⟩ rfl (fun c2 => ?_) (fun c2 => ?_)
    · refine hv_iconst E dX6_isNumber_15 rfl ?_
      refine hv_topi (show iI (0) = bI (false) from rfl) ?_
      exact hv_zret E dX6_isNumber_16 hr ⟨by rw [bI_eq]; symm; simp only [decide_eq_false_iff_not]; omega, rfl⟩
    · refine hv_iconst E dX6_isNumber_11 rfl ?_
      refine hv_goto E 16 dX6_isNumber_12 (by decide) ?_
      refine hv_topi (show iI (1) = bI (true) from rfl) ?_
      exact hv_zret E dX6_isNumber_16 hr ⟨by rw [bI_eq]; symm; simp only [decide_eq_true_eq]; omega, rfl⟩
set_option maxHeartbeats 4000000 in
set_option maxRecDepth 100000 in
theorem c6_isBorder (l : Launch) (D : va_G) (K : Nat → ClassId) {w : hm_M} (z : Int) (hz : iB z)  : hm_Ci l D K yX6_isBorder cX6_isBorder 1 .boolean 0 [.int (iI (z))] w 0 0 (fun r w2 => r = bI (decide (0 ≤ z ∧ z ≤ 4096)) ∧ w2 = w) := by
  refine hm_enterI (by decide) (Nat.le_of_ble_eq_true rfl) ?_
  intro p e s m args below meth c E hr hnm
  show hm_V p l e (hm_rm 0 0 0) s m args below meth c D (hm_A w s.heap.size) 1 0 0 (MQ below (hm_Qi D w s.heap.size (fun r w2 => r = bI (decide (0 ≤ z ∧ z ≤ 4096)) ∧ w2 = w)) args s 0 0 (hm_A w s.heap.size)) w 0 [(0, .int (iI (z)))] []
  refine hv_iload_n E dX6_isBorder_0 rfl 0 rfl rfl ?_
  refine hv_if_lt E 15 dX6_isBorder_1 (by decide) hz rfl (fun c1 => ?_) (fun c1 => ?_)
  · refine hv_iconst E dX6_isBorder_15 rfl ?_
    refine hv_topi (show iI (0) = bI (false) from rfl) ?_
    exact hv_zret E dX6_isBorder_16 hr ⟨by rw [bI_eq]; symm; simp only [decide_eq_false_iff_not]; omega, rfl⟩
  · refine hv_iload_n E dX6_isBorder_4 rfl 0 rfl rfl ?_
    refine hv_sipush E dX6_isBorder_5 (by decide +kernel) rfl ?_
    refine hv_icmp_gt E 15 dX6_isBorder_8 (by decide) hz ⟨by omega, by omega⟩ rfl (fun c2 => ?_) (fun c2 => ?_)
    · refine hv_iconst E dX6_isBorder_15 rfl ?_
      refine hv_topi (show iI (0) = bI (false) from rfl) ?_
      exact hv_zret E dX6_isBorder_16 hr ⟨by rw [bI_eq]; symm; simp only [decide_eq_false_iff_not]; omega, rfl⟩
    · refine hv_iconst E dX6_isBorder_11 rfl ?_
      refine hv_goto E 16 dX6_isBorder_12 (by decide) ?_
      refine hv_topi (show iI (1) = bI (true) from rfl) ?_
      exact hv_zret E dX6_isBorder_16 hr ⟨by rw [bI_eq]; symm; simp only [decide_eq_true_eq]; omega, rfl⟩
set_option maxHeartbeats 4000000 in
set_option maxRecDepth 100000 in
theorem c6_isKind (l : Launch) (D : va_G) (K : Nat → ClassId) {w : hm_M} (z : Int) (hz : iB z)  : hm_Ci l D K yX6_isKind cX6_isKind 1 .boolean 0 [.int (iI (z))] w 0 0 (fun r w2 => r = bI (decide (0 ≤ z ∧ z < 3)) ∧ w2 = w) := by
  refine hm_enterI (by decide) (Nat.le_of_ble_eq_true rfl) ?_
  intro p e s m args below meth c E hr hnm
  show hm_V p l e (hm_rm 0 0 0) s m args below meth c D (hm_A w s.heap.size) 1 0 0 (MQ below (hm_Qi D w s.heap.size (fun r w2 => r = bI (decide (0 ≤ z ∧ z < 3)) ∧ w2 = w)) args s 0 0 (hm_A w s.heap.size)) w 0 [(0, .int (iI (z)))] []
  refine hv_iload_n E dX6_isKind_0 rfl 0 rfl rfl ?_
  refine hv_if_lt E 13 dX6_isKind_1 (by decide) hz rfl (fun c1 => ?_) (fun c1 => ?_)
  · refine hv_iconst E dX6_isKind_13 rfl ?_
    refine hv_topi (show iI (0) = bI (false) from rfl) ?_
    exact hv_zret E dX6_isKind_14 hr ⟨by rw [bI_eq]; symm; simp only [decide_eq_false_iff_not]; omega, rfl⟩
  · refine hv_iload_n E dX6_isKind_4 rfl 0 rfl rfl ?_
    refine hv_iconst E dX6_isKind_5 rfl ?_
    refine hv_icmp_ge E 13 dX6_isKind_6 (by decide) hz ⟨by omega, by omega⟩ rfl (fun c2 => ?_) (fun c2 => ?_)
    · refine hv_iconst E dX6_isKind_13 rfl ?_
      refine hv_topi (show iI (0) = bI (false) from rfl) ?_
      exact hv_zret E dX6_isKind_14 hr ⟨by rw [bI_eq]; symm; simp only [decide_eq_false_iff_not]; omega, rfl⟩
    · refine hv_iconst E dX6_isKind_9 rfl ?_
      refine hv_goto E 14 dX6_isKind_10 (by decide) ?_
      refine hv_topi (show iI (1) = bI (true) from rfl) ?_
      exact hv_zret E dX6_isKind_14 hr ⟨by rw [bI_eq]; symm; simp only [decide_eq_true_eq]; omega, rfl⟩
set_option maxHeartbeats 4000000 in
set_option maxRecDepth 100000 in
theorem c6_isSpan (l : Launch) (D : va_G) (K : Nat → ClassId) {w : hm_M} (x y : Int) (hx : iB x) (hy : iB y)  : hm_Ci l D K yX6_isSpan cX6_isSpan 2 .boolean 0 [.int (iI (x)), .int (iI (y))] w 0 0 (fun r w2 => r = bI (decide (0 ≤ x ∧ x ≤ y ∧ y < 4096)) ∧ w2 = w) := by
  refine hm_enterI (by decide) (Nat.le_of_ble_eq_true rfl) ?_
  intro p e s m args below meth c E hr hnm
  show hm_V p l e (hm_rm 0 0 0) s m args below meth c D (hm_A w s.heap.size) 2 0 0 (MQ below (hm_Qi D w s.heap.size (fun r w2 => r = bI (decide (0 ≤ x ∧ x ≤ y ∧ y < 4096)) ∧ w2 = w)) args s 0 0 (hm_A w s.heap.size)) w 0 [(0, .int (iI (x))), (1, .int (iI (y)))] []
  refine hv_iload_n E dX6_isSpan_0 rfl 0 rfl rfl ?_
  refine hv_if_lt E 20 dX6_isSpan_1 (by decide) hx rfl (fun c1 => ?_) (fun c1 => ?_)
  · refine hv_iconst E dX6_isSpan_20 rfl ?_
    refine hv_topi (show iI (0) = bI (false) from rfl) ?_
    exact hv_zret E dX6_isSpan_21 hr ⟨by rw [bI_eq]; symm; simp only [decide_eq_false_iff_not]; omega, rfl⟩
  · refine hv_iload_n E dX6_isSpan_4 rfl 0 rfl rfl ?_
    refine hv_iload_n E dX6_isSpan_5 rfl 1 rfl rfl ?_
    refine hv_icmp_gt E 20 dX6_isSpan_6 (by decide) hx hy rfl (fun c2 => ?_) (fun c2 => ?_)
    · refine hv_iconst E dX6_isSpan_20 rfl ?_
      refine hv_topi (show iI (0) = bI (false) from rfl) ?_
      exact hv_zret E dX6_isSpan_21 hr ⟨by rw [bI_eq]; symm; simp only [decide_eq_false_iff_not]; omega, rfl⟩
    · refine hv_iload_n E dX6_isSpan_9 rfl 1 rfl rfl ?_
      refine hv_sipush E dX6_isSpan_10 (by decide +kernel) rfl ?_
      refine hv_icmp_ge E 20 dX6_isSpan_13 (by decide) hy ⟨by omega, by omega⟩ rfl (fun c3 => ?_) (fun c3 => ?_)
      · refine hv_iconst E dX6_isSpan_20 rfl ?_
        refine hv_topi (show iI (0) = bI (false) from rfl) ?_
        exact hv_zret E dX6_isSpan_21 hr ⟨by rw [bI_eq]; symm; simp only [decide_eq_false_iff_not]; omega, rfl⟩
      · refine hv_iconst E dX6_isSpan_16 rfl ?_
        refine hv_goto E 21 dX6_isSpan_17 (by decide) ?_
        refine hv_topi (show iI (1) = bI (true) from rfl) ?_
        exact hv_zret E dX6_isSpan_21 hr ⟨by rw [bI_eq]; symm; simp only [decide_eq_true_eq]; omega, rfl⟩
set_option maxHeartbeats 4000000 in
set_option maxRecDepth 100000 in
theorem c7_within (l : Launch) (D : va_G) (K : Nat → ClassId) {w : hm_M} (x y z : Int) (hx : iB x) (hy : iB y) (hz : iB z)  : hm_Ci l D K yX7_within cX7_within 3 .boolean 0 [.int (iI (x)), .int (iI (y)), .int (iI (z))] w 0 0 (fun r w2 => r = bI (decide (y ≤ x ∧ x ≤ z)) ∧ w2 = w) := by
  refine hm_enterI (by decide) (Nat.le_of_ble_eq_true rfl) ?_
  intro p e s m args below meth c E hr hnm
  show hm_V p l e (hm_rm 0 0 0) s m args below meth c D (hm_A w s.heap.size) 3 0 0 (MQ below (hm_Qi D w s.heap.size (fun r w2 => r = bI (decide (y ≤ x ∧ x ≤ z)) ∧ w2 = w)) args s 0 0 (hm_A w s.heap.size)) w 0 [(0, .int (iI (x))), (1, .int (iI (y))), (2, .int (iI (z)))] []
  refine hv_iload_n E dX7_within_0 rfl 0 rfl rfl ?_
  refine hv_iload_n E dX7_within_1 rfl 1 rfl rfl ?_
  refine hv_icmp_lt E 14 dX7_within_2 (by decide) hx hy rfl (fun c1 => ?_) (fun c1 => ?_)
  · refine hv_iconst E dX7_within_14 rfl ?_
    refine hv_topi (show iI (0) = bI (false) from rfl) ?_
    exact hv_zret E dX7_within_15 hr ⟨by rw [bI_eq]; symm; simp only [decide_eq_false_iff_not]; omega, rfl⟩
  · refine hv_iload_n E dX7_within_5 rfl 0 rfl rfl ?_
    refine hv_iload_n E dX7_within_6 rfl 2 rfl rfl ?_
    refine hv_icmp_gt E 14 dX7_within_7 (by decide) hx hz rfl (fun c2 => ?_) (fun c2 => ?_)
    · refine hv_iconst E dX7_within_14 rfl ?_
      refine hv_topi (show iI (0) = bI (false) from rfl) ?_
      exact hv_zret E dX7_within_15 hr ⟨by rw [bI_eq]; symm; simp only [decide_eq_false_iff_not]; omega, rfl⟩
    · refine hv_iconst E dX7_within_10 rfl ?_
      refine hv_goto E 15 dX7_within_11 (by decide) ?_
      refine hv_topi (show iI (1) = bI (true) from rfl) ?_
      exact hv_zret E dX7_within_15 hr ⟨by rw [bI_eq]; symm; simp only [decide_eq_true_eq]; omega, rfl⟩
set_option maxHeartbeats 4000000 in
set_option maxRecDepth 100000 in
theorem c7_isSet (l : Launch) (D : va_G) (K : Nat → ClassId) {w : hm_M} (z : Int) (hz : iB z)  : hm_Ci l D K yX7_isSet cX7_isSet 1 .boolean 1 [.int (iI (z))] w 0 0 (fun r w2 => r = bI (decide (0 ≤ z ∧ z ≤ 7)) ∧ w2 = w) := by
  refine hm_enterI (by decide) (Nat.le_of_ble_eq_true rfl) ?_
  intro p e s m args below meth c E hr hnm
  show hm_V p l e (hm_rm 1 0 0) s m args below meth c D (hm_A w s.heap.size) 1 0 0 (MQ below (hm_Qi D w s.heap.size (fun r w2 => r = bI (decide (0 ≤ z ∧ z ≤ 7)) ∧ w2 = w)) args s 0 0 (hm_A w s.heap.size)) w 0 [(0, .int (iI (z)))] []
  refine hv_iload_n E dX7_isSet_0 rfl 0 rfl rfl ?_
  refine hv_iconst E dX7_isSet_1 rfl ?_
  refine hv_bipush E dX7_isSet_2 (by decide +kernel) rfl ?_
  refine hv_callSI (na := 3) (As := [.int (iI (z)), .int (iI (0)), .int (iI (7))]) (st := []) E (c7_within l D K z 0 7 hz ⟨by omega, by omega⟩ ⟨by omega, by omega⟩) dX7_isSet_4 gL_X7_17 gS_X7_within gC_X7_within gZ_X7 (by decide +kernel) rfl ⟨Nat.le_of_ble_eq_true rfl, Nat.le_of_ble_eq_true rfl⟩ (Nat.le_of_ble_eq_true rfl) ⟨Nat.zero_le _, Nat.zero_le _⟩ rfl rfl (fun r w2 hp => ?_)
  rw [hp.1, hp.2]
  show hm_V p l e (hm_rm 1 0 0) s m args below meth c D (hm_A w s.heap.size) 1 0 0 (MQ below (hm_Qi D w s.heap.size (fun r w2 => r = bI (decide (0 ≤ z ∧ z ≤ 7)) ∧ w2 = w)) args s 0 0 (hm_A w s.heap.size)) w 7 [(0, .int (iI (z)))] [.int (bI (decide (0 ≤ z ∧ z ≤ 7)))]
  exact hv_zret E dX7_isSet_7 hr ⟨rfl, rfl⟩
set_option maxHeartbeats 4000000 in
set_option maxRecDepth 100000 in
theorem c7_isNumber (l : Launch) (D : va_G) (K : Nat → ClassId) {w : hm_M} (z : Int) (hz : iB z)  : hm_Ci l D K yX7_isNumber cX7_isNumber 1 .boolean 1 [.int (iI (z))] w 0 0 (fun r w2 => r = bI (decide (0 ≤ z ∧ z ≤ 4095)) ∧ w2 = w) := by
  refine hm_enterI (by decide) (Nat.le_of_ble_eq_true rfl) ?_
  intro p e s m args below meth c E hr hnm
  show hm_V p l e (hm_rm 1 0 0) s m args below meth c D (hm_A w s.heap.size) 1 0 0 (MQ below (hm_Qi D w s.heap.size (fun r w2 => r = bI (decide (0 ≤ z ∧ z ≤ 4095)) ∧ w2 = w)) args s 0 0 (hm_A w s.heap.size)) w 0 [(0, .int (iI (z)))] []
  refine hv_iload_n E dX7_isNumber_0 rfl 0 rfl rfl ?_
  refine hv_iconst E dX7_isNumber_1 rfl ?_
  refine hv_sipush E dX7_isNumber_2 (by decide +kernel) rfl ?_
  refine hv_callSI (na := 3) (As := [.int (iI (z)), .int (iI (0)), .int (iI (4095))]) (st := []) E (c7_within l D K z 0 4095 hz ⟨by omega, by omega⟩ ⟨by omega, by omega⟩) dX7_isNumber_5 gL_X7_17 gS_X7_within gC_X7_within gZ_X7 (by decide +kernel) rfl ⟨Nat.le_of_ble_eq_true rfl, Nat.le_of_ble_eq_true rfl⟩ (Nat.le_of_ble_eq_true rfl) ⟨Nat.zero_le _, Nat.zero_le _⟩ rfl rfl (fun r w2 hp => ?_)
  rw [hp.1, hp.2]
  show hm_V p l e (hm_rm 1 0 0) s m args below meth c D (hm_A w s.heap.size) 1 0 0 (MQ below (hm_Qi D w s.heap.size (fun r w2 => r = bI (decide (0 ≤ z ∧ z ≤ 4095)) ∧ w2 = w)) args s 0 0 (hm_A w s.heap.size)) w 8 [(0, .int (iI (z)))] [.int (bI (decide (0 ≤ z ∧ z ≤ 4095)))]
  exact hv_zret E dX7_isNumber_8 hr ⟨rfl, rfl⟩
