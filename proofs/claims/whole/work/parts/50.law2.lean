set_option maxHeartbeats 4000000 in
set_option maxRecDepth 100000 in
theorem law_next {p : Program} {e : Env} {s : State} {m : MethodId} {below : List Frame} {meth : Method} {c : Code} (l : Launch) {D : va_G} {K : Nat → ClassId} {bs Ls : Nat} {xs : Nat → Int32} {ad : Nat → Nat} {q ia ta : Nat} (hap : apt ad q ia ta) (E : hm_E p s m #[Value.ref bs] meth c cL_law 4 RL D K (fun z => s.heap.size ≤ z)) (hX : va_X bs Ls xs s s.heap) (hbl : bs < s.heap.size) (hbA : ¬ (fun z => s.heap.size ≤ z) bs) (hL : Ls ≤ 320) {i : Nat} (hi : i + 5 ≤ Ls) {w : hm_M} (h : wI K w ad q ia ta) (k : ∀ w2, wI K w2 ad q ia ta → hm_V p l e room_1 s m #[Value.ref bs] below meth c D (fun z => s.heap.size ≤ z) 4 29 46517 (lw_Z below #[Value.ref bs] s) w2 848 [(3, .int (iI (((i : Nat) : Int)))), (0, .ref (bs)), (1, .ref (ad 0)), (2, .ref (q))] []) : hm_V p l e room_1 s m #[Value.ref bs] below meth c D (fun z => s.heap.size ≤ z) 4 29 46517 (lw_Z below #[Value.ref bs] s) w 430 [(3, .int (iI (((i : Nat) : Int)))), (0, .ref (bs)), (1, .ref (ad 0)), (2, .ref (q))] [] := by
  obtain ⟨F, tf, L, P, df, I, T, md, td, ag, pl, hk, hm, hS, hT⟩ := h
  have hL0 := hk.L0
  have hL1 := hk.L1
  obtain ⟨x1, h1, ex1⟩ := iI_of (xs (i + 1))
  obtain ⟨x2, h2, ex2⟩ := iI_of (xs (i + 2))
  refine hv_aload_n E dL_law_430 rfl 2 rfl rfl ?_
  refine hv_aload_n E dL_law_431 rfl 1 rfl rfl ?_
  refine hv_iload_n E dL_law_432 rfl 0 rfl rfl ?_
  refine hv_iconst E dL_law_433 rfl ?_
  refine hv_iadd E dL_law_434 rfl ?_
  refine hv_sld E hX hbl hbA hL (by omega) (by omega) (show xs ((((i : Nat) : Int)) + 1).toNat = iI x1 by rw [show ((((i : Nat) : Int)) + 1).toNat = i + 1 by omega]; exact ex1) dL_law_435 rfl ?_
  refine hv_aload_n E dL_law_436 rfl 1 rfl rfl ?_
  refine hv_iload_n E dL_law_437 rfl 0 rfl rfl ?_
  refine hv_iconst E dL_law_438 rfl ?_
  refine hv_iadd E dL_law_439 rfl ?_
  refine hv_sld E hX hbl hbA hL (by omega) (by omega) (show xs ((((i : Nat) : Int)) + 2).toNat = iI x2 by rw [show ((((i : Nat) : Int)) + 2).toNat = i + 2 by omega]; exact ex2) dL_law_440 rfl ?_
  refine hv_callVI (na := 2) (As := [.int (iI (x1)), .int (iI (x2))]) (st := []) E (c6_next l D K x1 x2 h1 h2 hk) dL_law_441 hk.1 (show vwCl[5]? = some (RX6, TX6, 4) from rfl) gL_L_49 gV_X6_next gI_X6_next gC_X6_next gZ_X6 (by decide +kernel) rfl ⟨Nat.le_of_ble_eq_true rfl, Nat.le_of_ble_eq_true rfl⟩ (Nat.le_of_ble_eq_true rfl) ⟨Nat.le_of_ble_eq_true rfl, Nat.le_of_ble_eq_true rfl⟩ rfl rfl (fun r1 w2 hp => ?_)
  obtain ⟨⟨z1, p1, p2, p3, hr1⟩, e2⟩ := hp
  rw [e2]
  show hm_V p l e room_1 s m #[Value.ref bs] below meth c D (fun z => s.heap.size ≤ z) 4 29 46517 (lw_Z below #[Value.ref bs] s) w 444 [(3, .int (iI (((i : Nat) : Int)))), (0, .ref (bs)), (1, .ref (ad 0)), (2, .ref (q))] [.int (r1)]
  refine hv_aload_n E dL_law_444 rfl 3 rfl rfl ?_
  refine hv_aload_n E dL_law_445 rfl 1 rfl rfl ?_
  refine hv_iload_n E dL_law_446 rfl 0 rfl rfl ?_
  refine hv_iconst E dL_law_447 rfl ?_
  refine hv_iadd E dL_law_448 rfl ?_
  refine hv_sld E hX hbl hbA hL (by omega) (by omega) (show xs ((((i : Nat) : Int)) + 1).toNat = iI x1 by rw [show ((((i : Nat) : Int)) + 1).toNat = i + 1 by omega]; exact ex1) dL_law_449 rfl ?_
  refine hv_aload_n E dL_law_450 rfl 1 rfl rfl ?_
  refine hv_iload_n E dL_law_451 rfl 0 rfl rfl ?_
  refine hv_iconst E dL_law_452 rfl ?_
  refine hv_iadd E dL_law_453 rfl ?_
  refine hv_sld E hX hbl hbA hL (by omega) (by omega) (show xs ((((i : Nat) : Int)) + 2).toNat = iI x2 by rw [show ((((i : Nat) : Int)) + 2).toNat = i + 2 by omega]; exact ex2) dL_law_454 rfl ?_
  refine hv_callVI (na := 2) (As := [.int (iI (x1)), .int (iI (x2))]) (st := [.int (r1)]) E (c7_next l D K x1 x2 h1 h2 hm.i) dL_law_455 hm.1 (show vwCl[6]? = some (RX7, TX7, 7) from rfl) gL_L_52 gV_X7_next gI_X7_next gC_X7_next gZ_X7 (by decide +kernel) rfl ⟨Nat.le_of_ble_eq_true rfl, Nat.le_of_ble_eq_true rfl⟩ (Nat.le_of_ble_eq_true rfl) ⟨Nat.le_of_ble_eq_true rfl, Nat.le_of_ble_eq_true rfl⟩ rfl rfl (fun r2 w3 hp => ?_)
  obtain ⟨⟨z2, q1, q2, q3, hr2⟩, e3⟩ := hp
  show hm_V p l e room_1 s m #[Value.ref bs] below meth c D (fun z => s.heap.size ≤ z) 4 29 46517 (lw_Z below #[Value.ref bs] s) w3 458 [(3, .int (iI (((i : Nat) : Int)))), (0, .ref (bs)), (1, .ref (ad 0)), (2, .ref (q))] [.int (r2), .int (r1)]
  have hEq : r1 = r2 := by
    rw [hr1, hr2]
    by_cases a : 0 ≤ x1 ∧ x1 < 8
    · by_cases b2 : 0 ≤ x2 ∧ x2 ≤ 4096
      · rw [isNext_inj (isNext_cg (hS.x a) (p1 a b2)) (q1 a b2)]
      · rw [p3 a b2, q3 a b2]
    · rw [p2 a, q2 a]
  have hW : wI K w3 ad q ia ta := by
    rw [e3]; exact wI_mk hk hm hS hT
  refine hv_icmp_eqR E 848 dL_law_458 (by decide) rfl (fun c9 => ?_) (fun c9 => ?_)
  · exact k w3 hW
  · exact absurd hEq c9
set_option maxHeartbeats 4000000 in
set_option maxRecDepth 100000 in
theorem law_before {p : Program} {e : Env} {s : State} {m : MethodId} {below : List Frame} {meth : Method} {c : Code} (l : Launch) {D : va_G} {K : Nat → ClassId} {bs Ls : Nat} {xs : Nat → Int32} {ad : Nat → Nat} {q ia ta : Nat} (hap : apt ad q ia ta) (E : hm_E p s m #[Value.ref bs] meth c cL_law 4 RL D K (fun z => s.heap.size ≤ z)) (hX : va_X bs Ls xs s s.heap) (hbl : bs < s.heap.size) (hbA : ¬ (fun z => s.heap.size ≤ z) bs) (hL : Ls ≤ 320) {i : Nat} (hi : i + 5 ≤ Ls) {w : hm_M} (h : wI K w ad q ia ta) (k : ∀ w2, wI K w2 ad q ia ta → hm_V p l e room_1 s m #[Value.ref bs] below meth c D (fun z => s.heap.size ≤ z) 4 29 46517 (lw_Z below #[Value.ref bs] s) w2 848 [(3, .int (iI (((i : Nat) : Int)))), (0, .ref (bs)), (1, .ref (ad 0)), (2, .ref (q))] []) : hm_V p l e room_1 s m #[Value.ref bs] below meth c D (fun z => s.heap.size ≤ z) 4 29 46517 (lw_Z below #[Value.ref bs] s) w 463 [(3, .int (iI (((i : Nat) : Int)))), (0, .ref (bs)), (1, .ref (ad 0)), (2, .ref (q))] [] := by
  obtain ⟨F, tf, L, P, df, I, T, md, td, ag, pl, hk, hm, hS, hT⟩ := h
  have hL0 := hk.L0
  have hL1 := hk.L1
  obtain ⟨x1, h1, ex1⟩ := iI_of (xs (i + 1))
  obtain ⟨x2, h2, ex2⟩ := iI_of (xs (i + 2))
  refine hv_aload_n E dL_law_463 rfl 2 rfl rfl ?_
  refine hv_aload_n E dL_law_464 rfl 1 rfl rfl ?_
  refine hv_iload_n E dL_law_465 rfl 0 rfl rfl ?_
  refine hv_iconst E dL_law_466 rfl ?_
  refine hv_iadd E dL_law_467 rfl ?_
  refine hv_sld E hX hbl hbA hL (by omega) (by omega) (show xs ((((i : Nat) : Int)) + 1).toNat = iI x1 by rw [show ((((i : Nat) : Int)) + 1).toNat = i + 1 by omega]; exact ex1) dL_law_468 rfl ?_
  refine hv_aload_n E dL_law_469 rfl 1 rfl rfl ?_
  refine hv_iload_n E dL_law_470 rfl 0 rfl rfl ?_
  refine hv_iconst E dL_law_471 rfl ?_
  refine hv_iadd E dL_law_472 rfl ?_
  refine hv_sld E hX hbl hbA hL (by omega) (by omega) (show xs ((((i : Nat) : Int)) + 2).toNat = iI x2 by rw [show ((((i : Nat) : Int)) + 2).toNat = i + 2 by omega]; exact ex2) dL_law_473 rfl ?_
  refine hv_callVI (na := 2) (As := [.int (iI (x1)), .int (iI (x2))]) (st := []) E (c6_before l D K x1 x2 h1 h2 hk) dL_law_474 hk.1 (show vwCl[5]? = some (RX6, TX6, 4) from rfl) gL_L_53 gV_X6_before gI_X6_before gC_X6_before gZ_X6 (by decide +kernel) rfl ⟨Nat.le_of_ble_eq_true rfl, Nat.le_of_ble_eq_true rfl⟩ (Nat.le_of_ble_eq_true rfl) ⟨Nat.le_of_ble_eq_true rfl, Nat.le_of_ble_eq_true rfl⟩ rfl rfl (fun r1 w2 hp => ?_)
  obtain ⟨⟨z1, p1, p2, p3, hr1⟩, e2⟩ := hp
  rw [e2]
  show hm_V p l e room_1 s m #[Value.ref bs] below meth c D (fun z => s.heap.size ≤ z) 4 29 46517 (lw_Z below #[Value.ref bs] s) w 477 [(3, .int (iI (((i : Nat) : Int)))), (0, .ref (bs)), (1, .ref (ad 0)), (2, .ref (q))] [.int (r1)]
  refine hv_aload_n E dL_law_477 rfl 3 rfl rfl ?_
  refine hv_aload_n E dL_law_478 rfl 1 rfl rfl ?_
  refine hv_iload_n E dL_law_479 rfl 0 rfl rfl ?_
  refine hv_iconst E dL_law_480 rfl ?_
  refine hv_iadd E dL_law_481 rfl ?_
  refine hv_sld E hX hbl hbA hL (by omega) (by omega) (show xs ((((i : Nat) : Int)) + 1).toNat = iI x1 by rw [show ((((i : Nat) : Int)) + 1).toNat = i + 1 by omega]; exact ex1) dL_law_482 rfl ?_
  refine hv_aload_n E dL_law_483 rfl 1 rfl rfl ?_
  refine hv_iload_n E dL_law_484 rfl 0 rfl rfl ?_
  refine hv_iconst E dL_law_485 rfl ?_
  refine hv_iadd E dL_law_486 rfl ?_
  refine hv_sld E hX hbl hbA hL (by omega) (by omega) (show xs ((((i : Nat) : Int)) + 2).toNat = iI x2 by rw [show ((((i : Nat) : Int)) + 2).toNat = i + 2 by omega]; exact ex2) dL_law_487 rfl ?_
  refine hv_callVI (na := 2) (As := [.int (iI (x1)), .int (iI (x2))]) (st := [.int (r1)]) E (c7_before l D K x1 x2 h1 h2 hm.i) dL_law_488 hm.1 (show vwCl[6]? = some (RX7, TX7, 7) from rfl) gL_L_56 gV_X7_before gI_X7_before gC_X7_before gZ_X7 (by decide +kernel) rfl ⟨Nat.le_of_ble_eq_true rfl, Nat.le_of_ble_eq_true rfl⟩ (Nat.le_of_ble_eq_true rfl) ⟨Nat.le_of_ble_eq_true rfl, Nat.le_of_ble_eq_true rfl⟩ rfl rfl (fun r2 w3 hp => ?_)
  obtain ⟨⟨z2, q1, q2, q3, hr2⟩, e3⟩ := hp
  show hm_V p l e room_1 s m #[Value.ref bs] below meth c D (fun z => s.heap.size ≤ z) 4 29 46517 (lw_Z below #[Value.ref bs] s) w3 491 [(3, .int (iI (((i : Nat) : Int)))), (0, .ref (bs)), (1, .ref (ad 0)), (2, .ref (q))] [.int (r2), .int (r1)]
  have hEq : r1 = r2 := by
    rw [hr1, hr2]
    by_cases a : 0 ≤ x1 ∧ x1 < 8
    · by_cases b2 : 0 ≤ x2 ∧ x2 ≤ 4096
      · rw [isBefore_inj (isBefore_cg b2.2 (hS.x a) (p1 a b2)) (q1 a b2)]
      · rw [p3 a b2, q3 a b2]
    · rw [p2 a, q2 a]
  have hW : wI K w3 ad q ia ta := by
    rw [e3]; exact wI_mk hk hm hS hT
  refine hv_icmp_eqR E 848 dL_law_491 (by decide) rfl (fun c9 => ?_) (fun c9 => ?_)
  · exact k w3 hW
  · exact absurd hEq c9
set_option maxHeartbeats 4000000 in
set_option maxRecDepth 100000 in
theorem law_common {p : Program} {e : Env} {s : State} {m : MethodId} {below : List Frame} {meth : Method} {c : Code} (l : Launch) {D : va_G} {K : Nat → ClassId} {bs Ls : Nat} {xs : Nat → Int32} {ad : Nat → Nat} {q ia ta : Nat} (hap : apt ad q ia ta) (E : hm_E p s m #[Value.ref bs] meth c cL_law 4 RL D K (fun z => s.heap.size ≤ z)) (hX : va_X bs Ls xs s s.heap) (hbl : bs < s.heap.size) (hbA : ¬ (fun z => s.heap.size ≤ z) bs) (hL : Ls ≤ 320) {i : Nat} (hi : i + 5 ≤ Ls) {w : hm_M} (h : wI K w ad q ia ta) (k : ∀ w2, wI K w2 ad q ia ta → hm_V p l e room_1 s m #[Value.ref bs] below meth c D (fun z => s.heap.size ≤ z) 4 29 46517 (lw_Z below #[Value.ref bs] s) w2 848 [(3, .int (iI (((i : Nat) : Int)))), (0, .ref (bs)), (1, .ref (ad 0)), (2, .ref (q))] []) : hm_V p l e room_1 s m #[Value.ref bs] below meth c D (fun z => s.heap.size ≤ z) 4 29 46517 (lw_Z below #[Value.ref bs] s) w 496 [(3, .int (iI (((i : Nat) : Int)))), (0, .ref (bs)), (1, .ref (ad 0)), (2, .ref (q))] [] := by
  obtain ⟨F, tf, L, P, df, I, T, md, td, ag, pl, hk, hm, hS, hT⟩ := h
  have hL0 := hk.L0
  have hL1 := hk.L1
  obtain ⟨x1, h1, ex1⟩ := iI_of (xs (i + 1))
  obtain ⟨x2, h2, ex2⟩ := iI_of (xs (i + 2))
  refine hv_aload_n E dL_law_496 rfl 2 rfl rfl ?_
  refine hv_aload_n E dL_law_497 rfl 1 rfl rfl ?_
  refine hv_iload_n E dL_law_498 rfl 0 rfl rfl ?_
  refine hv_iconst E dL_law_499 rfl ?_
  refine hv_iadd E dL_law_500 rfl ?_
  refine hv_sld E hX hbl hbA hL (by omega) (by omega) (show xs ((((i : Nat) : Int)) + 1).toNat = iI x1 by rw [show ((((i : Nat) : Int)) + 1).toNat = i + 1 by omega]; exact ex1) dL_law_501 rfl ?_
  refine hv_aload_n E dL_law_502 rfl 1 rfl rfl ?_
  refine hv_iload_n E dL_law_503 rfl 0 rfl rfl ?_
  refine hv_iconst E dL_law_504 rfl ?_
  refine hv_iadd E dL_law_505 rfl ?_
  refine hv_sld E hX hbl hbA hL (by omega) (by omega) (show xs ((((i : Nat) : Int)) + 2).toNat = iI x2 by rw [show ((((i : Nat) : Int)) + 2).toNat = i + 2 by omega]; exact ex2) dL_law_506 rfl ?_
  refine hv_callVI (na := 2) (As := [.int (iI (x1)), .int (iI (x2))]) (st := []) E (c6_common l D K x1 x2 h1 h2 hk) dL_law_507 hk.1 (show vwCl[5]? = some (RX6, TX6, 4) from rfl) gL_L_57 gV_X6_common gI_X6_common gC_X6_common gZ_X6 (by decide +kernel) rfl ⟨Nat.le_of_ble_eq_true rfl, Nat.le_of_ble_eq_true rfl⟩ (Nat.le_of_ble_eq_true rfl) ⟨Nat.le_of_ble_eq_true rfl, Nat.le_of_ble_eq_true rfl⟩ rfl rfl (fun r1 w2 hp => ?_)
  obtain ⟨hr1, e2⟩ := hp
  rw [e2]
  show hm_V p l e room_1 s m #[Value.ref bs] below meth c D (fun z => s.heap.size ≤ z) 4 29 46517 (lw_Z below #[Value.ref bs] s) w 510 [(3, .int (iI (((i : Nat) : Int)))), (0, .ref (bs)), (1, .ref (ad 0)), (2, .ref (q))] [.int (r1)]
  refine hv_aload_n E dL_law_510 rfl 3 rfl rfl ?_
  refine hv_aload_n E dL_law_511 rfl 1 rfl rfl ?_
  refine hv_iload_n E dL_law_512 rfl 0 rfl rfl ?_
  refine hv_iconst E dL_law_513 rfl ?_
  refine hv_iadd E dL_law_514 rfl ?_
  refine hv_sld E hX hbl hbA hL (by omega) (by omega) (show xs ((((i : Nat) : Int)) + 1).toNat = iI x1 by rw [show ((((i : Nat) : Int)) + 1).toNat = i + 1 by omega]; exact ex1) dL_law_515 rfl ?_
  refine hv_aload_n E dL_law_516 rfl 1 rfl rfl ?_
  refine hv_iload_n E dL_law_517 rfl 0 rfl rfl ?_
  refine hv_iconst E dL_law_518 rfl ?_
  refine hv_iadd E dL_law_519 rfl ?_
  refine hv_sld E hX hbl hbA hL (by omega) (by omega) (show xs ((((i : Nat) : Int)) + 2).toNat = iI x2 by rw [show ((((i : Nat) : Int)) + 2).toNat = i + 2 by omega]; exact ex2) dL_law_520 rfl ?_
  refine hv_callVI (na := 2) (As := [.int (iI (x1)), .int (iI (x2))]) (st := [.int (r1)]) E (c7_common l D K x1 x2 h1 h2 hm.i) dL_law_521 hm.1 (show vwCl[6]? = some (RX7, TX7, 7) from rfl) gL_L_60 gV_X7_common gI_X7_common gC_X7_common gZ_X7 (by decide +kernel) rfl ⟨Nat.le_of_ble_eq_true rfl, Nat.le_of_ble_eq_true rfl⟩ (Nat.le_of_ble_eq_true rfl) ⟨Nat.le_of_ble_eq_true rfl, Nat.le_of_ble_eq_true rfl⟩ rfl rfl (fun r2 w3 hp => ?_)
  obtain ⟨hr2, e3⟩ := hp
  show hm_V p l e room_1 s m #[Value.ref bs] below meth c D (fun z => s.heap.size ≤ z) 4 29 46517 (lw_Z below #[Value.ref bs] s) w3 524 [(3, .int (iI (((i : Nat) : Int)))), (0, .ref (bs)), (1, .ref (ad 0)), (2, .ref (q))] [.int (r2), .int (r1)]
  have hEq : r1 = r2 := by
    rw [hr1, hr2]
    by_cases a : (0 ≤ x1 ∧ x1 < 8) ∧ 0 ≤ x2 ∧ x2 < 8
    · rw [if_pos a, if_pos a]
      rw [ct_cg (S := fun v => mem (F x1.toNat) v && mem (F x2.toNat) v) (U := fun v => mS I x1 v && mS I x2 v) (fun u hu => by rw [hS.x a.1 u hu, hS.x a.2 u hu]) (by omega)]
    · rw [if_neg a, if_neg a]
  have hW : wI K w3 ad q ia ta := by
    rw [e3]; exact wI_mk hk hm hS hT
  refine hv_icmp_eqR E 848 dL_law_524 (by decide) rfl (fun c9 => ?_) (fun c9 => ?_)
  · exact k w3 hW
  · exact absurd hEq c9
set_option maxHeartbeats 4000000 in
set_option maxRecDepth 100000 in
theorem law_piece {p : Program} {e : Env} {s : State} {m : MethodId} {below : List Frame} {meth : Method} {c : Code} (l : Launch) {D : va_G} {K : Nat → ClassId} {bs Ls : Nat} {xs : Nat → Int32} {ad : Nat → Nat} {q ia ta : Nat} (hap : apt ad q ia ta) (E : hm_E p s m #[Value.ref bs] meth c cL_law 4 RL D K (fun z => s.heap.size ≤ z)) (hX : va_X bs Ls xs s s.heap) (hbl : bs < s.heap.size) (hbA : ¬ (fun z => s.heap.size ≤ z) bs) (hL : Ls ≤ 320) {i : Nat} (hi : i + 5 ≤ Ls) {w : hm_M} (h : wI K w ad q ia ta) (k : ∀ w2, wI K w2 ad q ia ta → hm_V p l e room_1 s m #[Value.ref bs] below meth c D (fun z => s.heap.size ≤ z) 4 29 46517 (lw_Z below #[Value.ref bs] s) w2 848 [(3, .int (iI (((i : Nat) : Int)))), (0, .ref (bs)), (1, .ref (ad 0)), (2, .ref (q))] []) : hm_V p l e room_1 s m #[Value.ref bs] below meth c D (fun z => s.heap.size ≤ z) 4 29 46517 (lw_Z below #[Value.ref bs] s) w 529 [(3, .int (iI (((i : Nat) : Int)))), (0, .ref (bs)), (1, .ref (ad 0)), (2, .ref (q))] [] := by
  obtain ⟨F, tf, L, P, df, I, T, md, td, ag, pl, hk, hm, hS, hT⟩ := h
  have hL0 := hk.L0
  have hL1 := hk.L1
  obtain ⟨x1, h1, ex1⟩ := iI_of (xs (i + 1))
  obtain ⟨x2, h2, ex2⟩ := iI_of (xs (i + 2))
  obtain ⟨x3, h3, ex3⟩ := iI_of (xs (i + 3))
  refine hv_aload_n E dL_law_529 rfl 2 rfl rfl ?_
  refine hv_aload_n E dL_law_530 rfl 1 rfl rfl ?_
  refine hv_iload_n E dL_law_531 rfl 0 rfl rfl ?_
  refine hv_iconst E dL_law_532 rfl ?_
  refine hv_iadd E dL_law_533 rfl ?_
  refine hv_sld E hX hbl hbA hL (by omega) (by omega) (show xs ((((i : Nat) : Int)) + 1).toNat = iI x1 by rw [show ((((i : Nat) : Int)) + 1).toNat = i + 1 by omega]; exact ex1) dL_law_534 rfl ?_
  refine hv_aload_n E dL_law_535 rfl 1 rfl rfl ?_
  refine hv_iload_n E dL_law_536 rfl 0 rfl rfl ?_
  refine hv_iconst E dL_law_537 rfl ?_
  refine hv_iadd E dL_law_538 rfl ?_
  refine hv_sld E hX hbl hbA hL (by omega) (by omega) (show xs ((((i : Nat) : Int)) + 2).toNat = iI x2 by rw [show ((((i : Nat) : Int)) + 2).toNat = i + 2 by omega]; exact ex2) dL_law_539 rfl ?_
  refine hv_aload_n E dL_law_540 rfl 1 rfl rfl ?_
  refine hv_iload_n E dL_law_541 rfl 0 rfl rfl ?_
  refine hv_iconst E dL_law_542 rfl ?_
  refine hv_iadd E dL_law_543 rfl ?_
  refine hv_sld E hX hbl hbA hL (by omega) (by omega) (show xs ((((i : Nat) : Int)) + 3).toNat = iI x3 by rw [show ((((i : Nat) : Int)) + 3).toNat = i + 3 by omega]; exact ex3) dL_law_544 rfl ?_
  refine hv_callVI (na := 3) (As := [.int (iI (x1)), .int (iI (x2)), .int (iI (x3))]) (st := []) E (c6_piece l D K x1 x2 x3 h1 h2 h3 hk) dL_law_545 hk.1 (show vwCl[5]? = some (RX6, TX6, 4) from rfl) gL_L_61 gV_X6_piece gI_X6_piece gC_X6_piece gZ_X6 (by decide +kernel) rfl ⟨Nat.le_of_ble_eq_true rfl, Nat.le_of_ble_eq_true rfl⟩ (Nat.le_of_ble_eq_true rfl) ⟨Nat.le_of_ble_eq_true rfl, Nat.le_of_ble_eq_true rfl⟩ rfl rfl (fun r1 w2 hp => ?_)
  obtain ⟨hr1, e2⟩ := hp
  rw [e2]
  show hm_V p l e room_1 s m #[Value.ref bs] below meth c D (fun z => s.heap.size ≤ z) 4 29 46517 (lw_Z below #[Value.ref bs] s) w 548 [(3, .int (iI (((i : Nat) : Int)))), (0, .ref (bs)), (1, .ref (ad 0)), (2, .ref (q))] [.int (r1)]
  refine hv_aload_n E dL_law_548 rfl 3 rfl rfl ?_
  refine hv_aload_n E dL_law_549 rfl 1 rfl rfl ?_
  refine hv_iload_n E dL_law_550 rfl 0 rfl rfl ?_
  refine hv_iconst E dL_law_551 rfl ?_
  refine hv_iadd E dL_law_552 rfl ?_
  refine hv_sld E hX hbl hbA hL (by omega) (by omega) (show xs ((((i : Nat) : Int)) + 1).toNat = iI x1 by rw [show ((((i : Nat) : Int)) + 1).toNat = i + 1 by omega]; exact ex1) dL_law_553 rfl ?_
  refine hv_aload_n E dL_law_554 rfl 1 rfl rfl ?_
  refine hv_iload_n E dL_law_555 rfl 0 rfl rfl ?_
  refine hv_iconst E dL_law_556 rfl ?_
  refine hv_iadd E dL_law_557 rfl ?_
  refine hv_sld E hX hbl hbA hL (by omega) (by omega) (show xs ((((i : Nat) : Int)) + 2).toNat = iI x2 by rw [show ((((i : Nat) : Int)) + 2).toNat = i + 2 by omega]; exact ex2) dL_law_558 rfl ?_
  refine hv_aload_n E dL_law_559 rfl 1 rfl rfl ?_
  refine hv_iload_n E dL_law_560 rfl 0 rfl rfl ?_
  refine hv_iconst E dL_law_561 rfl ?_
  refine hv_iadd E dL_law_562 rfl ?_
  refine hv_sld E hX hbl hbA hL (by omega) (by omega) (show xs ((((i : Nat) : Int)) + 3).toNat = iI x3 by rw [show ((((i : Nat) : Int)) + 3).toNat = i + 3 by omega]; exact ex3) dL_law_563 rfl ?_
  refine hv_callVI (na := 3) (As := [.int (iI (x1)), .int (iI (x2)), .int (iI (x3))]) (st := [.int (r1)]) E (c7_piece l D K x1 x2 x3 h1 h2 h3 hm.i) dL_law_564 hm.1 (show vwCl[6]? = some (RX7, TX7, 7) from rfl) gL_L_64 gV_X7_piece gI_X7_piece gC_X7_piece gZ_X7 (by decide +kernel) rfl ⟨Nat.le_of_ble_eq_true rfl, Nat.le_of_ble_eq_true rfl⟩ (Nat.le_of_ble_eq_true rfl) ⟨Nat.le_of_ble_eq_true rfl, Nat.le_of_ble_eq_true rfl⟩ rfl rfl (fun r2 w3 hp => ?_)
  obtain ⟨hr2, e3⟩ := hp
  show hm_V p l e room_1 s m #[Value.ref bs] below meth c D (fun z => s.heap.size ≤ z) 4 29 46517 (lw_Z below #[Value.ref bs] s) w3 567 [(3, .int (iI (((i : Nat) : Int)))), (0, .ref (bs)), (1, .ref (ad 0)), (2, .ref (q))] [.int (r2), .int (r1)]
  have hEq : r1 = r2 := by
    rw [hr1, hr2]
    by_cases a : 0 ≤ x1 ∧ x1 < 8
    · rw [if_pos a, if_pos a]
      by_cases b2 : (0 ≤ x2 ∧ x2 < 16) ∧ 0 ≤ x3 ∧ x3 < 4
      · rw [if_pos b2, if_pos b2]
        have hs : ∀ u, u < 256 → mem (F x1.toNat) (256 * x2.toNat + u) = mS I x1 (256 * x2.toNat + u) := fun u hu => hS.x a _ (by omega)
        rw [pF_cg hs, pN_cg hs, pR_cg hs, pB_cg hs]
      · rw [if_neg b2, if_neg b2]
    · rw [if_neg a, if_neg a]
  have hW : wI K w3 ad q ia ta := by
    rw [e3]; exact wI_mk hk hm hS hT
  refine hv_icmp_eqR E 848 dL_law_567 (by decide) rfl (fun c9 => ?_) (fun c9 => ?_)
  · exact k w3 hW
  · exact absurd hEq c9
set_option maxHeartbeats 4000000 in
set_option maxRecDepth 100000 in
theorem law_cost {p : Program} {e : Env} {s : State} {m : MethodId} {below : List Frame} {meth : Method} {c : Code} (l : Launch) {D : va_G} {K : Nat → ClassId} {bs Ls : Nat} {xs : Nat → Int32} {ad : Nat → Nat} {q ia ta : Nat} (hap : apt ad q ia ta) (E : hm_E p s m #[Value.ref bs] meth c cL_law 4 RL D K (fun z => s.heap.size ≤ z)) (hX : va_X bs Ls xs s s.heap) (hbl : bs < s.heap.size) (hbA : ¬ (fun z => s.heap.size ≤ z) bs) (hL : Ls ≤ 320) {i : Nat} (hi : i + 5 ≤ Ls) {w : hm_M} (h : wI K w ad q ia ta) (k : ∀ w2, wI K w2 ad q ia ta → hm_V p l e room_1 s m #[Value.ref bs] below meth c D (fun z => s.heap.size ≤ z) 4 29 46517 (lw_Z below #[Value.ref bs] s) w2 848 [(3, .int (iI (((i : Nat) : Int)))), (0, .ref (bs)), (1, .ref (ad 0)), (2, .ref (q))] []) : hm_V p l e room_1 s m #[Value.ref bs] below meth c D (fun z => s.heap.size ≤ z) 4 29 46517 (lw_Z below #[Value.ref bs] s) w 572 [(3, .int (iI (((i : Nat) : Int)))), (0, .ref (bs)), (1, .ref (ad 0)), (2, .ref (q))] [] := by
  obtain ⟨F, tf, L, P, df, I, T, md, td, ag, pl, hk, hm, hS, hT⟩ := h
  have hL0 := hk.L0
  have hL1 := hk.L1
  obtain ⟨x1, h1, ex1⟩ := iI_of (xs (i + 1))
  refine hv_aload_n E dL_law_572 rfl 2 rfl rfl ?_
  refine hv_aload_n E dL_law_573 rfl 1 rfl rfl ?_
  refine hv_iload_n E dL_law_574 rfl 0 rfl rfl ?_
  refine hv_iconst E dL_law_575 rfl ?_
  refine hv_iadd E dL_law_576 rfl ?_
  refine hv_sld E hX hbl hbA hL (by omega) (by omega) (show xs ((((i : Nat) : Int)) + 1).toNat = iI x1 by rw [show ((((i : Nat) : Int)) + 1).toNat = i + 1 by omega]; exact ex1) dL_law_577 rfl ?_
  refine hv_callVI (na := 1) (As := [.int (iI (x1))]) (st := []) E (c6_cost l D K x1 h1 hk) dL_law_578 hk.1 (show vwCl[5]? = some (RX6, TX6, 4) from rfl) gL_L_65 gV_X6_cost gI_X6_cost gC_X6_cost gZ_X6 (by decide +kernel) rfl ⟨Nat.le_of_ble_eq_true rfl, Nat.le_of_ble_eq_true rfl⟩ (Nat.le_of_ble_eq_true rfl) ⟨Nat.le_of_ble_eq_true rfl, Nat.le_of_ble_eq_true rfl⟩ rfl rfl (fun r1 w2 hp => ?_)
  obtain ⟨hr1, e2⟩ := hp
  rw [e2]
  show hm_V p l e room_1 s m #[Value.ref bs] below meth c D (fun z => s.heap.size ≤ z) 4 29 46517 (lw_Z below #[Value.ref bs] s) w 581 [(3, .int (iI (((i : Nat) : Int)))), (0, .ref (bs)), (1, .ref (ad 0)), (2, .ref (q))] [.int (r1)]
  refine hv_aload_n E dL_law_581 rfl 3 rfl rfl ?_
  refine hv_aload_n E dL_law_582 rfl 1 rfl rfl ?_
  refine hv_iload_n E dL_law_583 rfl 0 rfl rfl ?_
  refine hv_iconst E dL_law_584 rfl ?_
  refine hv_iadd E dL_law_585 rfl ?_
  refine hv_sld E hX hbl hbA hL (by omega) (by omega) (show xs ((((i : Nat) : Int)) + 1).toNat = iI x1 by rw [show ((((i : Nat) : Int)) + 1).toNat = i + 1 by omega]; exact ex1) dL_law_586 rfl ?_
  refine hv_callVI (na := 1) (As := [.int (iI (x1))]) (st := [.int (r1)]) E (c7_cost l D K x1 h1 hm.i) dL_law_587 hm.1 (show vwCl[6]? = some (RX7, TX7, 7) from rfl) gL_L_68 gV_X7_cost gI_X7_cost gC_X7_cost gZ_X7 (by decide +kernel) rfl ⟨Nat.le_of_ble_eq_true rfl, Nat.le_of_ble_eq_true rfl⟩ (Nat.le_of_ble_eq_true rfl) ⟨Nat.le_of_ble_eq_true rfl, Nat.le_of_ble_eq_true rfl⟩ rfl rfl (fun r2 w3 hp => ?_)
  obtain ⟨hr2, e3⟩ := hp
  show hm_V p l e room_1 s m #[Value.ref bs] below meth c D (fun z => s.heap.size ≤ z) 4 29 46517 (lw_Z below #[Value.ref bs] s) w3 590 [(3, .int (iI (((i : Nat) : Int)))), (0, .ref (bs)), (1, .ref (ad 0)), (2, .ref (q))] [.int (r2), .int (r1)]
  have hEq : r1 = r2 := by
    rw [hr1, hr2]
    by_cases a : 0 ≤ x1 ∧ x1 < 8
    · rw [if_pos a, if_pos a]
      rw [cs_cg 16 (by omega) (hS.x a)]
    · rw [if_neg a, if_neg a]
  have hW : wI K w3 ad q ia ta := by
    rw [e3]; exact wI_mk hk hm hS hT
  refine hv_icmp_eqR E 848 dL_law_590 (by decide) rfl (fun c9 => ?_) (fun c9 => ?_)
  · exact k w3 hW
  · exact absurd hEq c9
set_option maxHeartbeats 4000000 in
set_option maxRecDepth 100000 in
theorem law_length {p : Program} {e : Env} {s : State} {m : MethodId} {below : List Frame} {meth : Method} {c : Code} (l : Launch) {D : va_G} {K : Nat → ClassId} {bs Ls : Nat} {xs : Nat → Int32} {ad : Nat → Nat} {q ia ta : Nat} (hap : apt ad q ia ta) (E : hm_E p s m #[Value.ref bs] meth c cL_law 4 RL D K (fun z => s.heap.size ≤ z)) (hX : va_X bs Ls xs s s.heap) (hbl : bs < s.heap.size) (hbA : ¬ (fun z => s.heap.size ≤ z) bs) (hL : Ls ≤ 320) {i : Nat} (hi : i + 5 ≤ Ls) {w : hm_M} (h : wI K w ad q ia ta) (k : ∀ w2, wI K w2 ad q ia ta → hm_V p l e room_1 s m #[Value.ref bs] below meth c D (fun z => s.heap.size ≤ z) 4 29 46517 (lw_Z below #[Value.ref bs] s) w2 848 [(3, .int (iI (((i : Nat) : Int)))), (0, .ref (bs)), (1, .ref (ad 0)), (2, .ref (q))] []) : hm_V p l e room_1 s m #[Value.ref bs] below meth c D (fun z => s.heap.size ≤ z) 4 29 46517 (lw_Z below #[Value.ref bs] s) w 595 [(3, .int (iI (((i : Nat) : Int)))), (0, .ref (bs)), (1, .ref (ad 0)), (2, .ref (q))] [] := by
  obtain ⟨F, tf, L, P, df, I, T, md, td, ag, pl, hk, hm, hS, hT⟩ := h
  have hL0 := hk.L0
  have hL1 := hk.L1
  obtain ⟨x1, h1, ex1⟩ := iI_of (xs (i + 1))
  obtain ⟨x2, h2, ex2⟩ := iI_of (xs (i + 2))
  refine hv_aload_n E dL_law_595 rfl 2 rfl rfl ?_
  refine hv_aload_n E dL_law_596 rfl 1 rfl rfl ?_
  refine hv_iload_n E dL_law_597 rfl 0 rfl rfl ?_
  refine hv_iconst E dL_law_598 rfl ?_
  refine hv_iadd E dL_law_599 rfl ?_
  refine hv_sld E hX hbl hbA hL (by omega) (by omega) (show xs ((((i : Nat) : Int)) + 1).toNat = iI x1 by rw [show ((((i : Nat) : Int)) + 1).toNat = i + 1 by omega]; exact ex1) dL_law_600 rfl ?_
  refine hv_aload_n E dL_law_601 rfl 1 rfl rfl ?_
  refine hv_iload_n E dL_law_602 rfl 0 rfl rfl ?_
  refine hv_iconst E dL_law_603 rfl ?_
  refine hv_iadd E dL_law_604 rfl ?_
  refine hv_sld E hX hbl hbA hL (by omega) (by omega) (show xs ((((i : Nat) : Int)) + 2).toNat = iI x2 by rw [show ((((i : Nat) : Int)) + 2).toNat = i + 2 by omega]; exact ex2) dL_law_605 rfl ?_
  refine hv_callVI (na := 2) (As := [.int (iI (x1)), .int (iI (x2))]) (st := []) E (c6_length l D K x1 x2 h1 h2 hk) dL_law_606 hk.1 (show vwCl[5]? = some (RX6, TX6, 4) from rfl) gL_L_69 gV_X6_length gI_X6_length gC_X6_length gZ_X6 (by decide +kernel) rfl ⟨Nat.le_of_ble_eq_true rfl, Nat.le_of_ble_eq_true rfl⟩ (Nat.le_of_ble_eq_true rfl) ⟨Nat.le_of_ble_eq_true rfl, Nat.le_of_ble_eq_true rfl⟩ rfl rfl (fun r1 w2 hp => ?_)
  obtain ⟨hr1, e2⟩ := hp
  rw [e2]
  show hm_V p l e room_1 s m #[Value.ref bs] below meth c D (fun z => s.heap.size ≤ z) 4 29 46517 (lw_Z below #[Value.ref bs] s) w 609 [(3, .int (iI (((i : Nat) : Int)))), (0, .ref (bs)), (1, .ref (ad 0)), (2, .ref (q))] [.int (r1)]
  refine hv_aload_n E dL_law_609 rfl 3 rfl rfl ?_
  refine hv_aload_n E dL_law_610 rfl 1 rfl rfl ?_
  refine hv_iload_n E dL_law_611 rfl 0 rfl rfl ?_
  refine hv_iconst E dL_law_612 rfl ?_
  refine hv_iadd E dL_law_613 rfl ?_
  refine hv_sld E hX hbl hbA hL (by omega) (by omega) (show xs ((((i : Nat) : Int)) + 1).toNat = iI x1 by rw [show ((((i : Nat) : Int)) + 1).toNat = i + 1 by omega]; exact ex1) dL_law_614 rfl ?_
  refine hv_aload_n E dL_law_615 rfl 1 rfl rfl ?_
  refine hv_iload_n E dL_law_616 rfl 0 rfl rfl ?_
  refine hv_iconst E dL_law_617 rfl ?_
  refine hv_iadd E dL_law_618 rfl ?_
  refine hv_sld E hX hbl hbA hL (by omega) (by omega) (show xs ((((i : Nat) : Int)) + 2).toNat = iI x2 by rw [show ((((i : Nat) : Int)) + 2).toNat = i + 2 by omega]; exact ex2) dL_law_619 rfl ?_
  refine hv_callVI (na := 2) (As := [.int (iI (x1)), .int (iI (x2))]) (st := [.int (r1)]) E (c7_length l D K x1 x2 h1 h2 hm hL0 hL1) dL_law_620 hm.1 (show vwCl[6]? = some (RX7, TX7, 7) from rfl) gL_L_72 gV_X7_length gI_X7_length gC_X7_length gZ_X7 (by decide +kernel) rfl ⟨Nat.le_of_ble_eq_true rfl, Nat.le_of_ble_eq_true rfl⟩ (Nat.le_of_ble_eq_true rfl) ⟨Nat.le_of_ble_eq_true rfl, Nat.le_of_ble_eq_true rfl⟩ rfl rfl (fun r2 w3 hp => ?_)
  obtain ⟨hr2, md2, td2, ag2, e3⟩ := hp
  show hm_V p l e room_1 s m #[Value.ref bs] below meth c D (fun z => s.heap.size ≤ z) 4 29 46517 (lw_Z below #[Value.ref bs] s) w3 623 [(3, .int (iI (((i : Nat) : Int)))), (0, .ref (bs)), (1, .ref (ad 0)), (2, .ref (q))] [.int (r2), .int (r1)]
  have hEq : r1 = r2 := by
    rw [hr1, hr2]
    by_cases a : 0 ≤ x1 ∧ x1 < 8
    · rw [if_pos a, if_pos a]
      by_cases b2 : 0 ≤ x2 ∧ x2 < 3
      · rw [if_pos b2, if_pos b2]
        rw [code_cg x2 (hS.x a)]
      · rw [if_neg b2, if_neg b2]
    · rw [if_neg a, if_neg a]
  have hW : wI K w3 ad q ia ta := by
    rw [e3]; exact wI_mM hap hk hm hS hT
  refine hv_icmp_eqR E 848 dL_law_623 (by decide) rfl (fun c9 => ?_) (fun c9 => ?_)
  · exact k w3 hW
  · exact absurd hEq c9
set_option maxHeartbeats 4000000 in
set_option maxRecDepth 100000 in
theorem law_write {p : Program} {e : Env} {s : State} {m : MethodId} {below : List Frame} {meth : Method} {c : Code} (l : Launch) {D : va_G} {K : Nat → ClassId} {bs Ls : Nat} {xs : Nat → Int32} {ad : Nat → Nat} {q ia ta : Nat} (hap : apt ad q ia ta) (E : hm_E p s m #[Value.ref bs] meth c cL_law 4 RL D K (fun z => s.heap.size ≤ z)) (hX : va_X bs Ls xs s s.heap) (hbl : bs < s.heap.size) (hbA : ¬ (fun z => s.heap.size ≤ z) bs) (hL : Ls ≤ 320) {i : Nat} (hi : i + 5 ≤ Ls) {w : hm_M} (h : wI K w ad q ia ta) (k : ∀ w2, wI K w2 ad q ia ta → hm_V p l e room_1 s m #[Value.ref bs] below meth c D (fun z => s.heap.size ≤ z) 4 29 46517 (lw_Z below #[Value.ref bs] s) w2 848 [(3, .int (iI (((i : Nat) : Int)))), (0, .ref (bs)), (1, .ref (ad 0)), (2, .ref (q))] []) : hm_V p l e room_1 s m #[Value.ref bs] below meth c D (fun z => s.heap.size ≤ z) 4 29 46517 (lw_Z below #[Value.ref bs] s) w 628 [(3, .int (iI (((i : Nat) : Int)))), (0, .ref (bs)), (1, .ref (ad 0)), (2, .ref (q))] [] := by
  obtain ⟨F, tf, L, P, df, I, T, md, td, ag, pl, hk, hm, hS, hT⟩ := h
  have hL0 := hk.L0
  have hL1 := hk.L1
  obtain ⟨x1, h1, ex1⟩ := iI_of (xs (i + 1))
  obtain ⟨x2, h2, ex2⟩ := iI_of (xs (i + 2))
  refine hv_aload_n E dL_law_628 rfl 2 rfl rfl ?_
  refine hv_aload_n E dL_law_629 rfl 1 rfl rfl ?_
  refine hv_iload_n E dL_law_630 rfl 0 rfl rfl ?_
  refine hv_iconst E dL_law_631 rfl ?_
  refine hv_iadd E dL_law_632 rfl ?_
  refine hv_sld E hX hbl hbA hL (by omega) (by omega) (show xs ((((i : Nat) : Int)) + 1).toNat = iI x1 by rw [show ((((i : Nat) : Int)) + 1).toNat = i + 1 by omega]; exact ex1) dL_law_633 rfl ?_
  refine hv_aload_n E dL_law_634 rfl 1 rfl rfl ?_
  refine hv_iload_n E dL_law_635 rfl 0 rfl rfl ?_
  refine hv_iconst E dL_law_636 rfl ?_
  refine hv_iadd E dL_law_637 rfl ?_
  refine hv_sld E hX hbl hbA hL (by omega) (by omega) (show xs ((((i : Nat) : Int)) + 2).toNat = iI x2 by rw [show ((((i : Nat) : Int)) + 2).toNat = i + 2 by omega]; exact ex2) dL_law_638 rfl ?_
  refine hv_callVI (na := 2) (As := [.int (iI (x1)), .int (iI (x2))]) (st := []) E (c6_write l D K x1 x2 h1 h2 hk) dL_law_639 hk.1 (show vwCl[5]? = some (RX6, TX6, 4) from rfl) gL_L_73 gV_X6_write gI_X6_write gC_X6_write gZ_X6 (by decide +kernel) rfl ⟨Nat.le_of_ble_eq_true rfl, Nat.le_of_ble_eq_true rfl⟩ (Nat.le_of_ble_eq_true rfl) ⟨Nat.le_of_ble_eq_true rfl, Nat.le_of_ble_eq_true rfl⟩ rfl rfl (fun r1 w2 hp => ?_)
  obtain ⟨hr1, tf2, hk2, hfr, hF⟩ := hp
  have hm2 := hm.fr hap hfr
  show hm_V p l e room_1 s m #[Value.ref bs] below meth c D (fun z => s.heap.size ≤ z) 4 29 46517 (lw_Z below #[Value.ref bs] s) w2 642 [(3, .int (iI (((i : Nat) : Int)))), (0, .ref (bs)), (1, .ref (ad 0)), (2, .ref (q))] [.int (r1)]
  refine hv_aload_n E dL_law_642 rfl 3 rfl rfl ?_
  refine hv_aload_n E dL_law_643 rfl 1 rfl rfl ?_
  refine hv_iload_n E dL_law_644 rfl 0 rfl rfl ?_
  refine hv_iconst E dL_law_645 rfl ?_
  refine hv_iadd E dL_law_646 rfl ?_
  refine hv_sld E hX hbl hbA hL (by omega) (by omega) (show xs ((((i : Nat) : Int)) + 1).toNat = iI x1 by rw [show ((((i : Nat) : Int)) + 1).toNat = i + 1 by omega]; exact ex1) dL_law_647 rfl ?_
  refine hv_aload_n E dL_law_648 rfl 1 rfl rfl ?_
  refine hv_iload_n E dL_law_649 rfl 0 rfl rfl ?_
  refine hv_iconst E dL_law_650 rfl ?_
  refine hv_iadd E dL_law_651 rfl ?_
  refine hv_sld E hX hbl hbA hL (by omega) (by omega) (show xs ((((i : Nat) : Int)) + 2).toNat = iI x2 by rw [show ((((i : Nat) : Int)) + 2).toNat = i + 2 by omega]; exact ex2) dL_law_652 rfl ?_
  refine hv_callVI (na := 2) (As := [.int (iI (x1)), .int (iI (x2))]) (st := [.int (r1)]) E (c7_write l D K x1 x2 h1 h2 hm2 hL0 hL1) dL_law_653 hm2.1 (show vwCl[6]? = some (RX7, TX7, 7) from rfl) gL_L_76 gV_X7_write gI_X7_write gC_X7_write gZ_X7 (by decide +kernel) rfl ⟨Nat.le_of_ble_eq_true rfl, Nat.le_of_ble_eq_true rfl⟩ (Nat.le_of_ble_eq_true rfl) ⟨Nat.le_of_ble_eq_true rfl, Nat.le_of_ble_eq_true rfl⟩ rfl rfl (fun r2 w3 hp => ?_)
  obtain ⟨hr2, T2, b2, md2, td2, ag2, e3, hb2, hT2⟩ := hp
  show hm_V p l e room_1 s m #[Value.ref bs] below meth c D (fun z => s.heap.size ≤ z) 4 29 46517 (lw_Z below #[Value.ref bs] s) w3 656 [(3, .int (iI (((i : Nat) : Int)))), (0, .ref (bs)), (1, .ref (ad 0)), (2, .ref (q))] [.int (r2), .int (r1)]
  have hEq : r1 = r2 := by
    rw [hr1, hr2]
    by_cases a : 0 ≤ x1 ∧ x1 < 8
    · rw [if_pos a, if_pos a]
      by_cases b2 : 0 ≤ x2 ∧ x2 < 3
      · rw [if_pos b2, if_pos b2]
        rw [code_cg x2 (hS.x a)]
      · rw [if_neg b2, if_neg b2]
    · rw [if_neg a, if_neg a]
  have hW : wI K w3 ad q ia ta := by
    have hLb : (if ((0 ≤ x1 ∧ x1 < 8) ∧ 0 ≤ x2 ∧ x2 < 3) then (((code_ (mem (F x1.toNat)) x2).length : Nat) : Int) else L) = b2 := by
      rw [hb2]
      by_cases a : (0 ≤ x1 ∧ x1 < 8) ∧ 0 ≤ x2 ∧ x2 < 3
      · rw [if_pos a, if_pos a, code_cg x2 (hS.x a.1)]
      · rw [if_neg a, if_neg a]
    rw [hLb] at hk2 hF
    rw [e3]
    refine wI_mM hap hk2 hm2 hS (fun i hi => ?_)
    rw [hF i hi, hT2 i hi]
    by_cases a : (0 ≤ x1 ∧ x1 < 8) ∧ 0 ≤ x2 ∧ x2 < 3
    · rw [if_pos a, if_pos a, code_cg x2 (hS.x a.1)]
    · rw [if_neg a, if_neg a]
      rw [if_neg a] at hb2
      exact hT i (by omega)
  refine hv_icmp_eqR E 848 dL_law_656 (by decide) rfl (fun c9 => ?_) (fun c9 => ?_)
  · exact k w3 hW
  · exact absurd hEq c9
set_option maxHeartbeats 4000000 in
set_option maxRecDepth 100000 in
theorem law_read {p : Program} {e : Env} {s : State} {m : MethodId} {below : List Frame} {meth : Method} {c : Code} (l : Launch) {D : va_G} {K : Nat → ClassId} {bs Ls : Nat} {xs : Nat → Int32} {ad : Nat → Nat} {q ia ta : Nat} (hap : apt ad q ia ta) (E : hm_E p s m #[Value.ref bs] meth c cL_law 4 RL D K (fun z => s.heap.size ≤ z)) (hX : va_X bs Ls xs s s.heap) (hbl : bs < s.heap.size) (hbA : ¬ (fun z => s.heap.size ≤ z) bs) (hL : Ls ≤ 320) {i : Nat} (hi : i + 5 ≤ Ls) {w : hm_M} (h : wI K w ad q ia ta) (k : ∀ w2, wI K w2 ad q ia ta → hm_V p l e room_1 s m #[Value.ref bs] below meth c D (fun z => s.heap.size ≤ z) 4 29 46517 (lw_Z below #[Value.ref bs] s) w2 848 [(3, .int (iI (((i : Nat) : Int)))), (0, .ref (bs)), (1, .ref (ad 0)), (2, .ref (q))] []) : hm_V p l e room_1 s m #[Value.ref bs] below meth c D (fun z => s.heap.size ≤ z) 4 29 46517 (lw_Z below #[Value.ref bs] s) w 661 [(3, .int (iI (((i : Nat) : Int)))), (0, .ref (bs)), (1, .ref (ad 0)), (2, .ref (q))] [] := by
  obtain ⟨F, tf, L, P, df, I, T, md, td, ag, pl, hk, hm, hS, hT⟩ := h
  have hL0 := hk.L0
  have hL1 := hk.L1
  obtain ⟨x1, h1, ex1⟩ := iI_of (xs (i + 1))
  obtain ⟨x2, h2, ex2⟩ := iI_of (xs (i + 2))
  refine hv_aload_n E dL_law_661 rfl 2 rfl rfl ?_
  refine hv_aload_n E dL_law_662 rfl 1 rfl rfl ?_
  refine hv_iload_n E dL_law_663 rfl 0 rfl rfl ?_
  refine hv_iconst E dL_law_664 rfl ?_
  refine hv_iadd E dL_law_665 rfl ?_
  refine hv_sld E hX hbl hbA hL (by omega) (by omega) (show xs ((((i : Nat) : Int)) + 1).toNat = iI x1 by rw [show ((((i : Nat) : Int)) + 1).toNat = i + 1 by omega]; exact ex1) dL_law_666 rfl ?_
  refine hv_aload_n E dL_law_667 rfl 1 rfl rfl ?_
  refine hv_iload_n E dL_law_668 rfl 0 rfl rfl ?_
  refine hv_iconst E dL_law_669 rfl ?_
  refine hv_iadd E dL_law_670 rfl ?_
  refine hv_sld E hX hbl hbA hL (by omega) (by omega) (show xs ((((i : Nat) : Int)) + 2).toNat = iI x2 by rw [show ((((i : Nat) : Int)) + 2).toNat = i + 2 by omega]; exact ex2) dL_law_671 rfl ?_
  refine hv_callVI (na := 2) (As := [.int (iI (x1)), .int (iI (x2))]) (st := []) E (c6_read l D K x1 x2 h1 h2 hk) dL_law_672 hk.1 (show vwCl[5]? = some (RX6, TX6, 4) from rfl) gL_L_77 gV_X6_read gI_X6_read gC_X6_read gZ_X6 (by decide +kernel) rfl ⟨Nat.le_of_ble_eq_true rfl, Nat.le_of_ble_eq_true rfl⟩ (Nat.le_of_ble_eq_true rfl) ⟨Nat.le_of_ble_eq_true rfl, Nat.le_of_ble_eq_true rfl⟩ rfl rfl (fun r1 w2 hp => ?_)
  obtain ⟨F2, P2, df2, z1, hr1, hk2, hfr, hp1⟩ := hp
  have hm2 := hm.fr hap hfr
  show hm_V p l e room_1 s m #[Value.ref bs] below meth c D (fun z => s.heap.size ≤ z) 4 29 46517 (lw_Z below #[Value.ref bs] s) w2 675 [(3, .int (iI (((i : Nat) : Int)))), (0, .ref (bs)), (1, .ref (ad 0)), (2, .ref (q))] [.int (r1)]
  refine hv_aload_n E dL_law_675 rfl 3 rfl rfl ?_
  refine hv_aload_n E dL_law_676 rfl 1 rfl rfl ?_
  refine hv_iload_n E dL_law_677 rfl 0 rfl rfl ?_
  refine hv_iconst E dL_law_678 rfl ?_
  refine hv_iadd E dL_law_679 rfl ?_
  refine hv_sld E hX hbl hbA hL (by omega) (by omega) (show xs ((((i : Nat) : Int)) + 1).toNat = iI x1 by rw [show ((((i : Nat) : Int)) + 1).toNat = i + 1 by omega]; exact ex1) dL_law_680 rfl ?_
  refine hv_aload_n E dL_law_681 rfl 1 rfl rfl ?_
  refine hv_iload_n E dL_law_682 rfl 0 rfl rfl ?_
  refine hv_iconst E dL_law_683 rfl ?_
  refine hv_iadd E dL_law_684 rfl ?_
  refine hv_sld E hX hbl hbA hL (by omega) (by omega) (show xs ((((i : Nat) : Int)) + 2).toNat = iI x2 by rw [show ((((i : Nat) : Int)) + 2).toNat = i + 2 by omega]; exact ex2) dL_law_685 rfl ?_
  refine hv_callVI (na := 2) (As := [.int (iI (x1)), .int (iI (x2))]) (st := [.int (r1)]) E (c7_read l D K x1 x2 h1 h2 hm2 hL0 hL1) dL_law_686 hm2.1 (show vwCl[6]? = some (RX7, TX7, 7) from rfl) gL_L_80 gV_X7_read gI_X7_read gC_X7_read gZ_X7 (by decide +kernel) rfl ⟨Nat.le_of_ble_eq_true rfl, Nat.le_of_ble_eq_true rfl⟩ (Nat.le_of_ble_eq_true rfl) ⟨Nat.le_of_ble_eq_true rfl, Nat.le_of_ble_eq_true rfl⟩ rfl rfl (fun r2 w3 hp => ?_)
  obtain ⟨J, md2, td2, ag2, pl2, z2, hr2, e3, hp2, hu⟩ := hp
  show hm_V p l e room_1 s m #[Value.ref bs] below meth c D (fun z => s.heap.size ≤ z) 4 29 46517 (lw_Z below #[Value.ref bs] s) w3 689 [(3, .int (iI (((i : Nat) : Int)))), (0, .ref (bs)), (1, .ref (ad 0)), (2, .ref (q))] [.int (r2), .int (r1)]
  have hEq : r1 = r2 := by
    rw [tb_tB hT] at hp1
    rw [hr1, hr2, (rdP_eq hp1 hp2 hu hS).1]
  have hW : wI K w3 ad q ia ta := by
    rw [tb_tB hT] at hp1
    rw [e3]
    exact wI_mM hap hk2 hm2 (rdP_eq hp1 hp2 hu hS).2 hT
  refine hv_icmp_eqR E 848 dL_law_689 (by decide) rfl (fun c9 => ?_) (fun c9 => ?_)
  · exact k w3 hW
  · exact absurd hEq c9
