set_option maxHeartbeats 4000000 in
set_option maxRecDepth 100000 in
theorem law_ask {p : Program} {e : Env} {s : State} {m : MethodId} {below : List Frame} {meth : Method} {c : Code} (l : Launch) {D : va_G} {K : Nat → ClassId} {bs Ls : Nat} {xs : Nat → Int32} {ad : Nat → Nat} {q ia ta : Nat} (hap : apt ad q ia ta) (E : hm_E p s m #[Value.ref bs] meth c cL_law 4 RL D K (fun z => s.heap.size ≤ z)) (hX : va_X bs Ls xs s s.heap) (hbl : bs < s.heap.size) (hbA : ¬ (fun z => s.heap.size ≤ z) bs) (hL : Ls ≤ 320) {i : Nat} (hi : i + 5 ≤ Ls) {w : hm_M} (h : wI K w ad q ia ta) (k : ∀ w2, wI K w2 ad q ia ta → hm_V p l e room_1 s m #[Value.ref bs] below meth c D (fun z => s.heap.size ≤ z) 4 29 46517 (lw_Z below #[Value.ref bs] s) w2 848 [(3, .int (iI (((i : Nat) : Int)))), (0, .ref (bs)), (1, .ref (ad 0)), (2, .ref (q))] []) : hm_V p l e room_1 s m #[Value.ref bs] below meth c D (fun z => s.heap.size ≤ z) 4 29 46517 (lw_Z below #[Value.ref bs] s) w 694 [(3, .int (iI (((i : Nat) : Int)))), (0, .ref (bs)), (1, .ref (ad 0)), (2, .ref (q))] [] := by
  obtain ⟨F, tf, L, P, df, I, T, md, td, ag, pl, hk, hm, hS, hT⟩ := h
  have hL0 := hk.L0
  have hL1 := hk.L1
  obtain ⟨x1, h1, ex1⟩ := iI_of (xs (i + 1))
  obtain ⟨x2, h2, ex2⟩ := iI_of (xs (i + 2))
  refine hv_aload_n E dL_law_694 rfl 2 rfl rfl ?_
  refine hv_aload_n E dL_law_695 rfl 1 rfl rfl ?_
  refine hv_iload_n E dL_law_696 rfl 0 rfl rfl ?_
  refine hv_iconst E dL_law_697 rfl ?_
  refine hv_iadd E dL_law_698 rfl ?_
  refine hv_sld E hX hbl hbA hL (by omega) (by omega) (show xs ((((i : Nat) : Int)) + 1).toNat = iI x1 by rw [show ((((i : Nat) : Int)) + 1).toNat = i + 1 by omega]; exact ex1) dL_law_699 rfl ?_
  refine hv_aload_n E dL_law_700 rfl 1 rfl rfl ?_
  refine hv_iload_n E dL_law_701 rfl 0 rfl rfl ?_
  refine hv_iconst E dL_law_702 rfl ?_
  refine hv_iadd E dL_law_703 rfl ?_
  refine hv_sld E hX hbl hbA hL (by omega) (by omega) (show xs ((((i : Nat) : Int)) + 2).toNat = iI x2 by rw [show ((((i : Nat) : Int)) + 2).toNat = i + 2 by omega]; exact ex2) dL_law_704 rfl ?_
  refine hv_callVI (na := 2) (As := [.int (iI (x1)), .int (iI (x2))]) (st := []) E (c6_ask l D K x1 x2 h1 h2 hk) dL_law_705 hk.1 (show vwCl[5]? = some (RX6, TX6, 4) from rfl) gL_L_81 gV_X6_ask gI_X6_ask gC_X6_ask gZ_X6 (by decide +kernel) rfl ⟨Nat.le_of_ble_eq_true rfl, Nat.le_of_ble_eq_true rfl⟩ (Nat.le_of_ble_eq_true rfl) ⟨Nat.le_of_ble_eq_true rfl, Nat.le_of_ble_eq_true rfl⟩ rfl rfl (fun r1 w2 hp => ?_)
  obtain ⟨P2, df2, z1, hr1, hk2, hfr, hp1⟩ := hp
  have hm2 := hm.fr hap hfr
  show hm_V p l e room_1 s m #[Value.ref bs] below meth c D (fun z => s.heap.size ≤ z) 4 29 46517 (lw_Z below #[Value.ref bs] s) w2 708 [(3, .int (iI (((i : Nat) : Int)))), (0, .ref (bs)), (1, .ref (ad 0)), (2, .ref (q))] [.int (r1)]
  refine hv_aload_n E dL_law_708 rfl 3 rfl rfl ?_
  refine hv_aload_n E dL_law_709 rfl 1 rfl rfl ?_
  refine hv_iload_n E dL_law_710 rfl 0 rfl rfl ?_
  refine hv_iconst E dL_law_711 rfl ?_
  refine hv_iadd E dL_law_712 rfl ?_
  refine hv_sld E hX hbl hbA hL (by omega) (by omega) (show xs ((((i : Nat) : Int)) + 1).toNat = iI x1 by rw [show ((((i : Nat) : Int)) + 1).toNat = i + 1 by omega]; exact ex1) dL_law_713 rfl ?_
  refine hv_aload_n E dL_law_714 rfl 1 rfl rfl ?_
  refine hv_iload_n E dL_law_715 rfl 0 rfl rfl ?_
  refine hv_iconst E dL_law_716 rfl ?_
  refine hv_iadd E dL_law_717 rfl ?_
  refine hv_sld E hX hbl hbA hL (by omega) (by omega) (show xs ((((i : Nat) : Int)) + 2).toNat = iI x2 by rw [show ((((i : Nat) : Int)) + 2).toNat = i + 2 by omega]; exact ex2) dL_law_718 rfl ?_
  refine hv_callVI (na := 2) (As := [.int (iI (x1)), .int (iI (x2))]) (st := [.int (r1)]) E (c7_ask l D K x1 x2 h1 h2 hm2 hL0 hL1) dL_law_719 hm2.1 (show vwCl[6]? = some (RX7, TX7, 7) from rfl) gL_L_84 gV_X7_ask gI_X7_ask gC_X7_ask gZ_X7 (by decide +kernel) rfl ⟨Nat.le_of_ble_eq_true rfl, Nat.le_of_ble_eq_true rfl⟩ (Nat.le_of_ble_eq_true rfl) ⟨Nat.le_of_ble_eq_true rfl, Nat.le_of_ble_eq_true rfl⟩ rfl rfl (fun r2 w3 hp => ?_)
  obtain ⟨J, md2, td2, ag2, pl2, z2, hr2, e3, hJ, hp2, hu⟩ := hp
  show hm_V p l e room_1 s m #[Value.ref bs] below meth c D (fun z => s.heap.size ≤ z) 4 29 46517 (lw_Z below #[Value.ref bs] s) w3 722 [(3, .int (iI (((i : Nat) : Int)))), (0, .ref (bs)), (1, .ref (ad 0)), (2, .ref (q))] [.int (r2), .int (r1)]
  have hEq : r1 = r2 := by
    rw [tb_tB hT] at hp1
    rw [hr1, hr2, asP_eq hp1 hp2 hu]
  have hW : wI K w3 ad q ia ta := by
    rw [e3]
    exact wI_mM hap hk2 hm2 (fun s u hs hu => by
      show _ = J (4096 * s + u)
      rw [hJ _ (by omega)]; exact hS s u hs hu) hT
  refine hv_icmp_eqR E 848 dL_law_722 (by decide) rfl (fun c9 => ?_) (fun c9 => ?_)
  · exact k w3 hW
  · exact absurd hEq c9
set_option maxHeartbeats 4000000 in
set_option maxRecDepth 100000 in
theorem law_sign {p : Program} {e : Env} {s : State} {m : MethodId} {below : List Frame} {meth : Method} {c : Code} (l : Launch) {D : va_G} {K : Nat → ClassId} {bs Ls : Nat} {xs : Nat → Int32} {ad : Nat → Nat} {q ia ta : Nat} (hap : apt ad q ia ta) (E : hm_E p s m #[Value.ref bs] meth c cL_law 4 RL D K (fun z => s.heap.size ≤ z)) (hX : va_X bs Ls xs s s.heap) (hbl : bs < s.heap.size) (hbA : ¬ (fun z => s.heap.size ≤ z) bs) (hL : Ls ≤ 320) {i : Nat} (hi : i + 5 ≤ Ls) {w : hm_M} (h : wI K w ad q ia ta) (k : ∀ w2, wI K w2 ad q ia ta → hm_V p l e room_1 s m #[Value.ref bs] below meth c D (fun z => s.heap.size ≤ z) 4 29 46517 (lw_Z below #[Value.ref bs] s) w2 848 [(3, .int (iI (((i : Nat) : Int)))), (0, .ref (bs)), (1, .ref (ad 0)), (2, .ref (q))] []) : hm_V p l e room_1 s m #[Value.ref bs] below meth c D (fun z => s.heap.size ≤ z) 4 29 46517 (lw_Z below #[Value.ref bs] s) w 727 [(3, .int (iI (((i : Nat) : Int)))), (0, .ref (bs)), (1, .ref (ad 0)), (2, .ref (q))] [] := by
  obtain ⟨F, tf, L, P, df, I, T, md, td, ag, pl, hk, hm, hS, hT⟩ := h
  have hL0 := hk.L0
  have hL1 := hk.L1
  obtain ⟨x1, h1, ex1⟩ := iI_of (xs (i + 1))
  refine hv_aload_n E dL_law_727 rfl 2 rfl rfl ?_
  refine hv_aload_n E dL_law_728 rfl 1 rfl rfl ?_
  refine hv_iload_n E dL_law_729 rfl 0 rfl rfl ?_
  refine hv_iconst E dL_law_730 rfl ?_
  refine hv_iadd E dL_law_731 rfl ?_
  refine hv_sld E hX hbl hbA hL (by omega) (by omega) (show xs ((((i : Nat) : Int)) + 1).toNat = iI x1 by rw [show ((((i : Nat) : Int)) + 1).toNat = i + 1 by omega]; exact ex1) dL_law_732 rfl ?_
  refine hv_if_eq E 740 dL_law_733 (by decide) h1 rfl (fun c1 => ?_) (fun c1 => ?_)
  · refine hv_iconst E dL_law_740 rfl ?_
    refine hv_topi (show iI (0) = bI (false) from rfl) ?_
    refine hv_callVI (na := 1) (As := [.int (bI (false))]) (st := []) E (c6_sign l D K false hk) dL_law_741 hk.1 (show vwCl[5]? = some (RX6, TX6, 4) from rfl) gL_L_85 gV_X6_sign gI_X6_sign gC_X6_sign gZ_X6 (by decide +kernel) rfl ⟨Nat.le_of_ble_eq_true rfl, Nat.le_of_ble_eq_true rfl⟩ (Nat.le_of_ble_eq_true rfl) ⟨Nat.le_of_ble_eq_true rfl, Nat.le_of_ble_eq_true rfl⟩ rfl rfl (fun r1 w2 hp => ?_)
    obtain ⟨hr1, tf2, hk2, hfr, hF⟩ := hp
    have hm2 := hm.fr hap hfr
    show hm_V p l e room_1 s m #[Value.ref bs] below meth c D (fun z => s.heap.size ≤ z) 4 29 46517 (lw_Z below #[Value.ref bs] s) w2 744 [(3, .int (iI (((i : Nat) : Int)))), (0, .ref (bs)), (1, .ref (ad 0)), (2, .ref (q))] [.int (r1)]
    refine hv_aload_n E dL_law_744 rfl 3 rfl rfl ?_
    refine hv_aload_n E dL_law_745 rfl 1 rfl rfl ?_
    refine hv_iload_n E dL_law_746 rfl 0 rfl rfl ?_
    refine hv_iconst E dL_law_747 rfl ?_
    refine hv_iadd E dL_law_748 rfl ?_
    refine hv_sld E hX hbl hbA hL (by omega) (by omega) (show xs ((((i : Nat) : Int)) + 1).toNat = iI x1 by rw [show ((((i : Nat) : Int)) + 1).toNat = i + 1 by omega]; exact ex1) dL_law_749 rfl ?_
    refine hv_if_eq E 757 dL_law_750 (by decide) h1 rfl (fun c2 => ?_) (fun c2 => ?_)
    · refine hv_iconst E dL_law_757 rfl ?_
      refine hv_topi (show iI (0) = bI (false) from rfl) ?_
      refine hv_callVI (na := 1) (As := [.int (bI (false))]) (st := [.int (r1)]) E (c7_sign l D K false hm2 hL0 hL1) dL_law_758 hm2.1 (show vwCl[6]? = some (RX7, TX7, 7) from rfl) gL_L_89 gV_X7_sign gI_X7_sign gC_X7_sign gZ_X7 (by decide +kernel) rfl ⟨Nat.le_of_ble_eq_true rfl, Nat.le_of_ble_eq_true rfl⟩ (Nat.le_of_ble_eq_true rfl) ⟨Nat.le_of_ble_eq_true rfl, Nat.le_of_ble_eq_true rfl⟩ rfl rfl (fun r2 w3 hp => ?_)
      obtain ⟨hr2, e3⟩ := hp
      show hm_V p l e room_1 s m #[Value.ref bs] below meth c D (fun z => s.heap.size ≤ z) 4 29 46517 (lw_Z below #[Value.ref bs] s) w3 761 [(3, .int (iI (((i : Nat) : Int)))), (0, .ref (bs)), (1, .ref (ad 0)), (2, .ref (q))] [.int (r2), .int (r1)]
      have hEq : r1 = r2 := by
        rw [hr1, hr2]
      have hW : wI K w3 ad q ia ta := by
        rw [e3]
        refine wI_mM hap hk2 hm2 hS (fun i hi => ?_)
        rw [hF i hi]
        by_cases a : L < 8210
        · rw [if_pos a]
          show _ = (if i = L.toNat then false else T i)
          by_cases b2 : (i : Int) = L
          · rw [if_pos ⟨a, b2⟩, if_pos (by omega)]
          · rw [if_neg (fun h => b2 h.2), if_neg (by omega)]
            rw [if_pos a] at hi
            exact hT i (by omega)
        · rw [if_neg a, if_neg (fun h => a h.1)]
          rw [if_neg a] at hi
          exact hT i hi
      refine hv_icmp_eqR E 848 dL_law_761 (by decide) rfl (fun c9 => ?_) (fun c9 => ?_)
      · exact k w3 hW
      · exact absurd hEq c9
    · exact absurd c1 c2
  · refine hv_iconst E dL_law_736 rfl ?_
    refine hv_goto E 741 dL_law_737 (by decide) ?_
    refine hv_topi (show iI (1) = bI (true) from rfl) ?_
    refine hv_callVI (na := 1) (As := [.int (bI (true))]) (st := []) E (c6_sign l D K true hk) dL_law_741 hk.1 (show vwCl[5]? = some (RX6, TX6, 4) from rfl) gL_L_85 gV_X6_sign gI_X6_sign gC_X6_sign gZ_X6 (by decide +kernel) rfl ⟨Nat.le_of_ble_eq_true rfl, Nat.le_of_ble_eq_true rfl⟩ (Nat.le_of_ble_eq_true rfl) ⟨Nat.le_of_ble_eq_true rfl, Nat.le_of_ble_eq_true rfl⟩ rfl rfl (fun r1 w2 hp => ?_)
    obtain ⟨hr1, tf2, hk2, hfr, hF⟩ := hp
    have hm2 := hm.fr hap hfr
    show hm_V p l e room_1 s m #[Value.ref bs] below meth c D (fun z => s.heap.size ≤ z) 4 29 46517 (lw_Z below #[Value.ref bs] s) w2 744 [(3, .int (iI (((i : Nat) : Int)))), (0, .ref (bs)), (1, .ref (ad 0)), (2, .ref (q))] [.int (r1)]
    refine hv_aload_n E dL_law_744 rfl 3 rfl rfl ?_
    refine hv_aload_n E dL_law_745 rfl 1 rfl rfl ?_
    refine hv_iload_n E dL_law_746 rfl 0 rfl rfl ?_
    refine hv_iconst E dL_law_747 rfl ?_
    refine hv_iadd E dL_law_748 rfl ?_
    refine hv_sld E hX hbl hbA hL (by omega) (by omega) (show xs ((((i : Nat) : Int)) + 1).toNat = iI x1 by rw [show ((((i : Nat) : Int)) + 1).toNat = i + 1 by omega]; exact ex1) dL_law_749 rfl ?_
    refine hv_if_eq E 757 dL_law_750 (by decide) h1 rfl (fun c2 => ?_) (fun c2 => ?_)
    · exact absurd c2 c1
    · refine hv_iconst E dL_law_753 rfl ?_
      refine hv_goto E 758 dL_law_754 (by decide) ?_
      refine hv_topi (show iI (1) = bI (true) from rfl) ?_
      refine hv_callVI (na := 1) (As := [.int (bI (true))]) (st := [.int (r1)]) E (c7_sign l D K true hm2 hL0 hL1) dL_law_758 hm2.1 (show vwCl[6]? = some (RX7, TX7, 7) from rfl) gL_L_89 gV_X7_sign gI_X7_sign gC_X7_sign gZ_X7 (by decide +kernel) rfl ⟨Nat.le_of_ble_eq_true rfl, Nat.le_of_ble_eq_true rfl⟩ (Nat.le_of_ble_eq_true rfl) ⟨Nat.le_of_ble_eq_true rfl, Nat.le_of_ble_eq_true rfl⟩ rfl rfl (fun r2 w3 hp => ?_)
      obtain ⟨hr2, e3⟩ := hp
      show hm_V p l e room_1 s m #[Value.ref bs] below meth c D (fun z => s.heap.size ≤ z) 4 29 46517 (lw_Z below #[Value.ref bs] s) w3 761 [(3, .int (iI (((i : Nat) : Int)))), (0, .ref (bs)), (1, .ref (ad 0)), (2, .ref (q))] [.int (r2), .int (r1)]
      have hEq : r1 = r2 := by
        rw [hr1, hr2]
      have hW : wI K w3 ad q ia ta := by
        rw [e3]
        refine wI_mM hap hk2 hm2 hS (fun i hi => ?_)
        rw [hF i hi]
        by_cases a : L < 8210
        · rw [if_pos a]
          show _ = (if i = L.toNat then true else T i)
          by_cases b2 : (i : Int) = L
          · rw [if_pos ⟨a, b2⟩, if_pos (by omega)]
          · rw [if_neg (fun h => b2 h.2), if_neg (by omega)]
            rw [if_pos a] at hi
            exact hT i (by omega)
        · rw [if_neg a, if_neg (fun h => a h.1)]
          rw [if_neg a] at hi
          exact hT i hi
      refine hv_icmp_eqR E 848 dL_law_761 (by decide) rfl (fun c9 => ?_) (fun c9 => ?_)
      · exact k w3 hW
      · exact absurd hEq c9
set_option maxHeartbeats 4000000 in
set_option maxRecDepth 100000 in
theorem law_cut {p : Program} {e : Env} {s : State} {m : MethodId} {below : List Frame} {meth : Method} {c : Code} (l : Launch) {D : va_G} {K : Nat → ClassId} {bs Ls : Nat} {xs : Nat → Int32} {ad : Nat → Nat} {q ia ta : Nat} (hap : apt ad q ia ta) (E : hm_E p s m #[Value.ref bs] meth c cL_law 4 RL D K (fun z => s.heap.size ≤ z)) (hX : va_X bs Ls xs s s.heap) (hbl : bs < s.heap.size) (hbA : ¬ (fun z => s.heap.size ≤ z) bs) (hL : Ls ≤ 320) {i : Nat} (hi : i + 5 ≤ Ls) {w : hm_M} (h : wI K w ad q ia ta) (k : ∀ w2, wI K w2 ad q ia ta → hm_V p l e room_1 s m #[Value.ref bs] below meth c D (fun z => s.heap.size ≤ z) 4 29 46517 (lw_Z below #[Value.ref bs] s) w2 848 [(3, .int (iI (((i : Nat) : Int)))), (0, .ref (bs)), (1, .ref (ad 0)), (2, .ref (q))] []) : hm_V p l e room_1 s m #[Value.ref bs] below meth c D (fun z => s.heap.size ≤ z) 4 29 46517 (lw_Z below #[Value.ref bs] s) w 766 [(3, .int (iI (((i : Nat) : Int)))), (0, .ref (bs)), (1, .ref (ad 0)), (2, .ref (q))] [] := by
  obtain ⟨F, tf, L, P, df, I, T, md, td, ag, pl, hk, hm, hS, hT⟩ := h
  have hL0 := hk.L0
  have hL1 := hk.L1
  obtain ⟨x1, h1, ex1⟩ := iI_of (xs (i + 1))
  refine hv_aload_n E dL_law_766 rfl 2 rfl rfl ?_
  refine hv_aload_n E dL_law_767 rfl 1 rfl rfl ?_
  refine hv_iload_n E dL_law_768 rfl 0 rfl rfl ?_
  refine hv_iconst E dL_law_769 rfl ?_
  refine hv_iadd E dL_law_770 rfl ?_
  refine hv_sld E hX hbl hbA hL (by omega) (by omega) (show xs ((((i : Nat) : Int)) + 1).toNat = iI x1 by rw [show ((((i : Nat) : Int)) + 1).toNat = i + 1 by omega]; exact ex1) dL_law_771 rfl ?_
  refine hv_callVI (na := 1) (As := [.int (iI (x1))]) (st := []) E (c6_cut l D K x1 h1 hk) dL_law_772 hk.1 (show vwCl[5]? = some (RX6, TX6, 4) from rfl) gL_L_90 gV_X6_cut gI_X6_cut gC_X6_cut gZ_X6 (by decide +kernel) rfl ⟨Nat.le_of_ble_eq_true rfl, Nat.le_of_ble_eq_true rfl⟩ (Nat.le_of_ble_eq_true rfl) ⟨Nat.le_of_ble_eq_true rfl, Nat.le_of_ble_eq_true rfl⟩ rfl rfl (fun r1 w2 hp => ?_)
  obtain ⟨hr1, hk2, hfr⟩ := hp
  have hm2 := hm.fr hap hfr
  show hm_V p l e room_1 s m #[Value.ref bs] below meth c D (fun z => s.heap.size ≤ z) 4 29 46517 (lw_Z below #[Value.ref bs] s) w2 775 [(3, .int (iI (((i : Nat) : Int)))), (0, .ref (bs)), (1, .ref (ad 0)), (2, .ref (q))] [.int (r1)]
  refine hv_aload_n E dL_law_775 rfl 3 rfl rfl ?_
  refine hv_aload_n E dL_law_776 rfl 1 rfl rfl ?_
  refine hv_iload_n E dL_law_777 rfl 0 rfl rfl ?_
  refine hv_iconst E dL_law_778 rfl ?_
  refine hv_iadd E dL_law_779 rfl ?_
  refine hv_sld E hX hbl hbA hL (by omega) (by omega) (show xs ((((i : Nat) : Int)) + 1).toNat = iI x1 by rw [show ((((i : Nat) : Int)) + 1).toNat = i + 1 by omega]; exact ex1) dL_law_780 rfl ?_
  refine hv_callVI (na := 1) (As := [.int (iI (x1))]) (st := [.int (r1)]) E (c7_cut l D K x1 h1 hm2 hL0 hL1) dL_law_781 hm2.1 (show vwCl[6]? = some (RX7, TX7, 7) from rfl) gL_L_93 gV_X7_cut gI_X7_cut gC_X7_cut gZ_X7 (by decide +kernel) rfl ⟨Nat.le_of_ble_eq_true rfl, Nat.le_of_ble_eq_true rfl⟩ (Nat.le_of_ble_eq_true rfl) ⟨Nat.le_of_ble_eq_true rfl, Nat.le_of_ble_eq_true rfl⟩ rfl rfl (fun r2 w3 hp => ?_)
  obtain ⟨hr2, e3⟩ := hp
  show hm_V p l e room_1 s m #[Value.ref bs] below meth c D (fun z => s.heap.size ≤ z) 4 29 46517 (lw_Z below #[Value.ref bs] s) w3 784 [(3, .int (iI (((i : Nat) : Int)))), (0, .ref (bs)), (1, .ref (ad 0)), (2, .ref (q))] [.int (r2), .int (r1)]
  have hEq : r1 = r2 := by
    rw [hr1, hr2]
  have hW : wI K w3 ad q ia ta := by
    rw [e3]
    refine wI_mM hap hk2 hm2 hS (fun i hi => hT i ?_)
    by_cases a : 0 ≤ x1 ∧ x1 ≤ L
    · rw [if_pos a] at hi; omega
    · rw [if_neg a] at hi; exact hi
  refine hv_icmp_eqR E 848 dL_law_784 (by decide) rfl (fun c9 => ?_) (fun c9 => ?_)
  · exact k w3 hW
  · exact absurd hEq c9
set_option maxHeartbeats 4000000 in
set_option maxRecDepth 100000 in
theorem law_flip {p : Program} {e : Env} {s : State} {m : MethodId} {below : List Frame} {meth : Method} {c : Code} (l : Launch) {D : va_G} {K : Nat → ClassId} {bs Ls : Nat} {xs : Nat → Int32} {ad : Nat → Nat} {q ia ta : Nat} (hap : apt ad q ia ta) (E : hm_E p s m #[Value.ref bs] meth c cL_law 4 RL D K (fun z => s.heap.size ≤ z)) (hX : va_X bs Ls xs s s.heap) (hbl : bs < s.heap.size) (hbA : ¬ (fun z => s.heap.size ≤ z) bs) (hL : Ls ≤ 320) {i : Nat} (hi : i + 5 ≤ Ls) {w : hm_M} (h : wI K w ad q ia ta) (k : ∀ w2, wI K w2 ad q ia ta → hm_V p l e room_1 s m #[Value.ref bs] below meth c D (fun z => s.heap.size ≤ z) 4 29 46517 (lw_Z below #[Value.ref bs] s) w2 848 [(3, .int (iI (((i : Nat) : Int)))), (0, .ref (bs)), (1, .ref (ad 0)), (2, .ref (q))] []) : hm_V p l e room_1 s m #[Value.ref bs] below meth c D (fun z => s.heap.size ≤ z) 4 29 46517 (lw_Z below #[Value.ref bs] s) w 789 [(3, .int (iI (((i : Nat) : Int)))), (0, .ref (bs)), (1, .ref (ad 0)), (2, .ref (q))] [] := by
  obtain ⟨F, tf, L, P, df, I, T, md, td, ag, pl, hk, hm, hS, hT⟩ := h
  have hL0 := hk.L0
  have hL1 := hk.L1
  obtain ⟨x1, h1, ex1⟩ := iI_of (xs (i + 1))
  refine hv_aload_n E dL_law_789 rfl 2 rfl rfl ?_
  refine hv_aload_n E dL_law_790 rfl 1 rfl rfl ?_
  refine hv_iload_n E dL_law_791 rfl 0 rfl rfl ?_
  refine hv_iconst E dL_law_792 rfl ?_
  refine hv_iadd E dL_law_793 rfl ?_
  refine hv_sld E hX hbl hbA hL (by omega) (by omega) (show xs ((((i : Nat) : Int)) + 1).toNat = iI x1 by rw [show ((((i : Nat) : Int)) + 1).toNat = i + 1 by omega]; exact ex1) dL_law_794 rfl ?_
  refine hv_callVI (na := 1) (As := [.int (iI (x1))]) (st := []) E (c6_flip l D K x1 h1 hk) dL_law_795 hk.1 (show vwCl[5]? = some (RX6, TX6, 4) from rfl) gL_L_94 gV_X6_flip gI_X6_flip gC_X6_flip gZ_X6 (by decide +kernel) rfl ⟨Nat.le_of_ble_eq_true rfl, Nat.le_of_ble_eq_true rfl⟩ (Nat.le_of_ble_eq_true rfl) ⟨Nat.le_of_ble_eq_true rfl, Nat.le_of_ble_eq_true rfl⟩ rfl rfl (fun r1 w2 hp => ?_)
  obtain ⟨hr1, tf2, hk2, hfr, hF⟩ := hp
  have hm2 := hm.fr hap hfr
  show hm_V p l e room_1 s m #[Value.ref bs] below meth c D (fun z => s.heap.size ≤ z) 4 29 46517 (lw_Z below #[Value.ref bs] s) w2 798 [(3, .int (iI (((i : Nat) : Int)))), (0, .ref (bs)), (1, .ref (ad 0)), (2, .ref (q))] [.int (r1)]
  refine hv_aload_n E dL_law_798 rfl 3 rfl rfl ?_
  refine hv_aload_n E dL_law_799 rfl 1 rfl rfl ?_
  refine hv_iload_n E dL_law_800 rfl 0 rfl rfl ?_
  refine hv_iconst E dL_law_801 rfl ?_
  refine hv_iadd E dL_law_802 rfl ?_
  refine hv_sld E hX hbl hbA hL (by omega) (by omega) (show xs ((((i : Nat) : Int)) + 1).toNat = iI x1 by rw [show ((((i : Nat) : Int)) + 1).toNat = i + 1 by omega]; exact ex1) dL_law_803 rfl ?_
  refine hv_callVI (na := 1) (As := [.int (iI (x1))]) (st := [.int (r1)]) E (c7_flip l D K x1 h1 hm2 hL0 hL1) dL_law_804 hm2.1 (show vwCl[6]? = some (RX7, TX7, 7) from rfl) gL_L_97 gV_X7_flip gI_X7_flip gC_X7_flip gZ_X7 (by decide +kernel) rfl ⟨Nat.le_of_ble_eq_true rfl, Nat.le_of_ble_eq_true rfl⟩ (Nat.le_of_ble_eq_true rfl) ⟨Nat.le_of_ble_eq_true rfl, Nat.le_of_ble_eq_true rfl⟩ rfl rfl (fun r2 w3 hp => ?_)
  obtain ⟨hr2, e3⟩ := hp
  show hm_V p l e room_1 s m #[Value.ref bs] below meth c D (fun z => s.heap.size ≤ z) 4 29 46517 (lw_Z below #[Value.ref bs] s) w3 807 [(3, .int (iI (((i : Nat) : Int)))), (0, .ref (bs)), (1, .ref (ad 0)), (2, .ref (q))] [.int (r2), .int (r1)]
  have hEq : r1 = r2 := by
    rw [hr1, hr2]
    by_cases a : 0 ≤ x1 ∧ x1 < L
    · rw [if_pos a, if_pos a]
      rw [hT x1.toNat (by omega)]
    · rw [if_neg a, if_neg a]
  have hW : wI K w3 ad q ia ta := by
    rw [e3]
    refine wI_mM hap hk2 hm2 hS (fun i hi => ?_)
    rw [hF i hi]
    by_cases a : 0 ≤ x1 ∧ x1 < L
    · rw [if_pos a]
      show _ = (if i = x1.toNat then !T x1.toNat else T i)
      by_cases b2 : i = x1.toNat
      · rw [if_pos ⟨a.1, b2⟩, if_pos b2, hT i hi, b2]
      · rw [if_neg (fun h => b2 h.2), if_neg b2]; exact hT i hi
    · rw [if_neg a, if_neg (by omega)]; exact hT i hi
  refine hv_icmp_eqR E 848 dL_law_807 (by decide) rfl (fun c9 => ?_) (fun c9 => ?_)
  · exact k w3 hW
  · exact absurd hEq c9
set_option maxHeartbeats 4000000 in
set_option maxRecDepth 100000 in
theorem law_bit {p : Program} {e : Env} {s : State} {m : MethodId} {below : List Frame} {meth : Method} {c : Code} (l : Launch) {D : va_G} {K : Nat → ClassId} {bs Ls : Nat} {xs : Nat → Int32} {ad : Nat → Nat} {q ia ta : Nat} (hap : apt ad q ia ta) (E : hm_E p s m #[Value.ref bs] meth c cL_law 4 RL D K (fun z => s.heap.size ≤ z)) (hX : va_X bs Ls xs s s.heap) (hbl : bs < s.heap.size) (hbA : ¬ (fun z => s.heap.size ≤ z) bs) (hL : Ls ≤ 320) {i : Nat} (hi : i + 5 ≤ Ls) {w : hm_M} (h : wI K w ad q ia ta) (k : ∀ w2, wI K w2 ad q ia ta → hm_V p l e room_1 s m #[Value.ref bs] below meth c D (fun z => s.heap.size ≤ z) 4 29 46517 (lw_Z below #[Value.ref bs] s) w2 848 [(3, .int (iI (((i : Nat) : Int)))), (0, .ref (bs)), (1, .ref (ad 0)), (2, .ref (q))] []) : hm_V p l e room_1 s m #[Value.ref bs] below meth c D (fun z => s.heap.size ≤ z) 4 29 46517 (lw_Z below #[Value.ref bs] s) w 812 [(3, .int (iI (((i : Nat) : Int)))), (0, .ref (bs)), (1, .ref (ad 0)), (2, .ref (q))] [] := by
  obtain ⟨F, tf, L, P, df, I, T, md, td, ag, pl, hk, hm, hS, hT⟩ := h
  have hL0 := hk.L0
  have hL1 := hk.L1
  obtain ⟨x1, h1, ex1⟩ := iI_of (xs (i + 1))
  refine hv_aload_n E dL_law_812 rfl 2 rfl rfl ?_
  refine hv_aload_n E dL_law_813 rfl 1 rfl rfl ?_
  refine hv_iload_n E dL_law_814 rfl 0 rfl rfl ?_
  refine hv_iconst E dL_law_815 rfl ?_
  refine hv_iadd E dL_law_816 rfl ?_
  refine hv_sld E hX hbl hbA hL (by omega) (by omega) (show xs ((((i : Nat) : Int)) + 1).toNat = iI x1 by rw [show ((((i : Nat) : Int)) + 1).toNat = i + 1 by omega]; exact ex1) dL_law_817 rfl ?_
  refine hv_callVI (na := 1) (As := [.int (iI (x1))]) (st := []) E (c6_bit l D K x1 h1 hk) dL_law_818 hk.1 (show vwCl[5]? = some (RX6, TX6, 4) from rfl) gL_L_98 gV_X6_bit gI_X6_bit gC_X6_bit gZ_X6 (by decide +kernel) rfl ⟨Nat.le_of_ble_eq_true rfl, Nat.le_of_ble_eq_true rfl⟩ (Nat.le_of_ble_eq_true rfl) ⟨Nat.le_of_ble_eq_true rfl, Nat.le_of_ble_eq_true rfl⟩ rfl rfl (fun r1 w2 hp => ?_)
  obtain ⟨hr1, e2⟩ := hp
  rw [e2]
  show hm_V p l e room_1 s m #[Value.ref bs] below meth c D (fun z => s.heap.size ≤ z) 4 29 46517 (lw_Z below #[Value.ref bs] s) w 821 [(3, .int (iI (((i : Nat) : Int)))), (0, .ref (bs)), (1, .ref (ad 0)), (2, .ref (q))] [.int (r1)]
  refine hv_aload_n E dL_law_821 rfl 3 rfl rfl ?_
  refine hv_aload_n E dL_law_822 rfl 1 rfl rfl ?_
  refine hv_iload_n E dL_law_823 rfl 0 rfl rfl ?_
  refine hv_iconst E dL_law_824 rfl ?_
  refine hv_iadd E dL_law_825 rfl ?_
  refine hv_sld E hX hbl hbA hL (by omega) (by omega) (show xs ((((i : Nat) : Int)) + 1).toNat = iI x1 by rw [show ((((i : Nat) : Int)) + 1).toNat = i + 1 by omega]; exact ex1) dL_law_826 rfl ?_
  refine hv_callVI (na := 1) (As := [.int (iI (x1))]) (st := [.int (r1)]) E (c7_bit l D K x1 h1 hm hL0 hL1) dL_law_827 hm.1 (show vwCl[6]? = some (RX7, TX7, 7) from rfl) gL_L_101 gV_X7_bit gI_X7_bit gC_X7_bit gZ_X7 (by decide +kernel) rfl ⟨Nat.le_of_ble_eq_true rfl, Nat.le_of_ble_eq_true rfl⟩ (Nat.le_of_ble_eq_true rfl) ⟨Nat.le_of_ble_eq_true rfl, Nat.le_of_ble_eq_true rfl⟩ rfl rfl (fun r2 w3 hp => ?_)
  obtain ⟨hr2, e3⟩ := hp
  show hm_V p l e room_1 s m #[Value.ref bs] below meth c D (fun z => s.heap.size ≤ z) 4 29 46517 (lw_Z below #[Value.ref bs] s) w3 830 [(3, .int (iI (((i : Nat) : Int)))), (0, .ref (bs)), (1, .ref (ad 0)), (2, .ref (q))] [.int (r2), .int (r1)]
  have hEq : r1 = r2 := by
    rw [hr1, hr2]
    by_cases a : 0 ≤ x1 ∧ x1 < L
    · rw [if_pos a, if_pos a]
      rw [hT x1.toNat (by omega)]
    · rw [if_neg a, if_neg a]
  have hW : wI K w3 ad q ia ta := by
    rw [e3]; exact wI_mk hk hm hS hT
  refine hv_icmp_eqR E 848 dL_law_830 (by decide) rfl (fun c9 => ?_) (fun c9 => ?_)
  · exact k w3 hW
  · exact absurd hEq c9
set_option maxHeartbeats 4000000 in
set_option maxRecDepth 100000 in
theorem law_size {p : Program} {e : Env} {s : State} {m : MethodId} {below : List Frame} {meth : Method} {c : Code} (l : Launch) {D : va_G} {K : Nat → ClassId} {bs Ls : Nat} {xs : Nat → Int32} {ad : Nat → Nat} {q ia ta : Nat} (hap : apt ad q ia ta) (E : hm_E p s m #[Value.ref bs] meth c cL_law 4 RL D K (fun z => s.heap.size ≤ z)) (hX : va_X bs Ls xs s s.heap) (hbl : bs < s.heap.size) (hbA : ¬ (fun z => s.heap.size ≤ z) bs) (hL : Ls ≤ 320) {i : Nat} (hi : i + 5 ≤ Ls) {w : hm_M} (h : wI K w ad q ia ta) (k : ∀ w2, wI K w2 ad q ia ta → hm_V p l e room_1 s m #[Value.ref bs] below meth c D (fun z => s.heap.size ≤ z) 4 29 46517 (lw_Z below #[Value.ref bs] s) w2 848 [(3, .int (iI (((i : Nat) : Int)))), (0, .ref (bs)), (1, .ref (ad 0)), (2, .ref (q))] []) : hm_V p l e room_1 s m #[Value.ref bs] below meth c D (fun z => s.heap.size ≤ z) 4 29 46517 (lw_Z below #[Value.ref bs] s) w 835 [(3, .int (iI (((i : Nat) : Int)))), (0, .ref (bs)), (1, .ref (ad 0)), (2, .ref (q))] [] := by
  obtain ⟨F, tf, L, P, df, I, T, md, td, ag, pl, hk, hm, hS, hT⟩ := h
  have hL0 := hk.L0
  have hL1 := hk.L1
  refine hv_aload_n E dL_law_835 rfl 2 rfl rfl ?_
  refine hv_callVI (na := 0) (As := []) (st := []) E (c6_size l D K   hk) dL_law_836 hk.1 (show vwCl[5]? = some (RX6, TX6, 4) from rfl) gL_L_102 gV_X6_size gI_X6_size gC_X6_size gZ_X6 (by decide +kernel) rfl ⟨Nat.le_of_ble_eq_true rfl, Nat.le_of_ble_eq_true rfl⟩ (Nat.le_of_ble_eq_true rfl) ⟨Nat.le_of_ble_eq_true rfl, Nat.le_of_ble_eq_true rfl⟩ rfl rfl (fun r1 w2 hp => ?_)
  obtain ⟨hr1, e2⟩ := hp
  rw [e2]
  show hm_V p l e room_1 s m #[Value.ref bs] below meth c D (fun z => s.heap.size ≤ z) 4 29 46517 (lw_Z below #[Value.ref bs] s) w 839 [(3, .int (iI (((i : Nat) : Int)))), (0, .ref (bs)), (1, .ref (ad 0)), (2, .ref (q))] [.int (r1)]
  refine hv_aload_n E dL_law_839 rfl 3 rfl rfl ?_
  refine hv_callVI (na := 0) (As := []) (st := [.int (r1)]) E (c7_size l D K   hm hL0 hL1) dL_law_840 hm.1 (show vwCl[6]? = some (RX7, TX7, 7) from rfl) gL_L_106 gV_X7_size gI_X7_size gC_X7_size gZ_X7 (by decide +kernel) rfl ⟨Nat.le_of_ble_eq_true rfl, Nat.le_of_ble_eq_true rfl⟩ (Nat.le_of_ble_eq_true rfl) ⟨Nat.le_of_ble_eq_true rfl, Nat.le_of_ble_eq_true rfl⟩ rfl rfl (fun r2 w3 hp => ?_)
  obtain ⟨hr2, e3⟩ := hp
  show hm_V p l e room_1 s m #[Value.ref bs] below meth c D (fun z => s.heap.size ≤ z) 4 29 46517 (lw_Z below #[Value.ref bs] s) w3 843 [(3, .int (iI (((i : Nat) : Int)))), (0, .ref (bs)), (1, .ref (ad 0)), (2, .ref (q))] [.int (r2), .int (r1)]
  have hEq : r1 = r2 := by
    rw [hr1, hr2]
  have hW : wI K w3 ad q ia ta := by
    rw [e3]; exact wI_mk hk hm hS hT
  refine hv_icmp_eqR E 848 dL_law_843 (by decide) rfl (fun c9 => ?_) (fun c9 => ?_)
  · exact k w3 hW
  · exact absurd hEq c9
