/-- bit i of the model's tape; 0 behind its end -/
def tB (T : Nat → Bool) (b : Int) (i : Nat) : Bool := decide ((i : Int) < b) && T i
def mk (I : Nat → Bool) (v : Int) : Nat → Bool := if 0 ≤ v ∧ v < 4096 then va_up I (32768 + v.toNat) true else I
theorem mk_lo {I : Nat → Bool} {v : Int} {i : Nat} (h : i < 32768) : mk I v i = I i := by
  unfold mk; split
  · unfold va_up; rw [if_neg (by omega)]
  · rfl
theorem mk_sp {I : Nat → Bool} {v : Nat} (hv : v < 4096) (u : Nat) : mS (mk I (v : Int)) 8 u = (mS I 8 u || decide (u = v)) := by
  unfold mS mk
  rw [if_pos (by omega)]
  unfold va_up
  by_cases q : u = v
  · subst q; rw [if_pos (by omega), decide_eq_true rfl, Bool.or_true]
  · rw [if_neg (by omega), decide_eq_false q, Bool.or_false]
theorem gI_S {X : Nat → Bool} {L : Int} {U : Nat → Bool} {v P : Nat} (h : gI X L U v (bv X 0 13) P) {S : Nat → Bool} (hS : isC X L (cdG S)) (u : Nat) (hu : u < 4096) : U u = S u := by
  obtain ⟨n1, n2, n3⟩ := cdG_n hS
  have hag := h.hS S hS
  have hc : ct S 0 v = ct S 0 4096 := by rw [← n1, ← h.hk]; exact ct_congr (fun i hi => by rw [Nat.zero_add]; exact hag i hi)
  rcases Nat.lt_or_ge u v with q | q
  · exact (hag u q).symm
  · have := ct_none (S := S) (a := 0) (j := v) (n := 4096) (by omega) q hu
    rw [Nat.zero_add] at this
    rw [h.hU u q hu, this]
theorem gI_m {X : Nat → Bool} {L : Int} {U U2 : Nat → Bool} {v k P z G : Nat} (h : gI X L U v k P) (hk : k < bv X 0 13) {S : Nat → Bool} (hS : isC X L (cdG S)) (h1 : ∀ i, i < z → X (P + i) = false) (h2 : X (P + z) = true ∨ z = 12) (hG : G = 2 ^ z + bv X (P + z + 1) z) (hU : v + G ≤ 4096 → ∀ u, U2 u = (U u || decide (u = v + G - 1))) : gI X L U2 (v + G) (k + 1) (P + z + 1 + z) := by
  obtain ⟨g2, z2, a1, a2, a3, a4, a5, a6, a7, a8, a9, a10, a11⟩ := gI_nx h hk hS
  have hz : z2 = z := by
    rcases (show z2 < z ∨ z < z2 ∨ z2 = z by omega) with q | q | q
    · rw [h1 _ q] at a9; cases a9
    · rcases h2 with h2 | h2
      · rw [a8 _ q] at h2; cases h2
      · omega
    · exact q
  subst hz
  have hg : G = g2 := by omega
  subst hg
  have := gI_step (U2 := U2) h hk h1 a9 (by rw [← hG]; exact a2) (by rw [← hG]; exact hU a2)
  rw [← hG, show P + 2 * z2 + 1 = P + z2 + 1 + z2 by omega] at this
  exact this
set_option maxHeartbeats 4000000 in
set_option maxRecDepth 100000 in
theorem c7_take (l : Launch) (D : va_G) (K : Nat → ClassId) {w : hm_M} {q ia ta : Nat} {I T : Nat → Bool} {b md td : Int} {ag : Bool} {P0 : Nat} (hP : P0 < 1000000) (hm : mAt K w q ia ta I T b md td ag ((P0 : Nat) : Int)) (hb0 : 0 ≤ b) (hb1 : b ≤ 8210)  : hm_Ci l D K yX7_take cX7_take 1 .boolean 0 [.ref (q)] w 0 0 (fun r w2 => r = bI (tB T b P0) ∧ w2 = mM K w q ia ta I T b md td ag ((P0 + 1 : Nat) : Int)) := by
  refine hm_enterI (by decide) (Nat.le_of_ble_eq_true rfl) ?_
  intro p e s m args below meth c E hr hnm
  show hm_V p l e (hm_rm 0 0 0) s m args below meth c D (hm_A w s.heap.size) 1 0 0 (MQ below (hm_Qi D w s.heap.size (fun r w2 => r = bI (tB T b P0) ∧ w2 = mM K w q ia ta I T b md td ag ((P0 + 1 : Nat) : Int))) args s 0 0 (hm_A w s.heap.size)) w 0 [(0, .ref (q))] []
  refine hv_mem (show w = mM K w q ia ta I T b md td ag ((P0 : Nat) : Int) from mM_id hm) ?_
  have hM : mAt K (mM K w q ia ta I T b md td ag ((P0 : Nat) : Int)) q ia ta I T b md td ag ((P0 : Nat) : Int) := mAt_mM hm.n1 hm.n2 hm.n3
  refine hv_aload_n E dX7_take_0 rfl 0 rfl rfl ?_
  refine hv_dup E dX7_take_1 rfl rfl ?_
  refine hv_get (kf := 6) E dX7_take_2 (show vwCl[6]? = some (RX7, TX7, 7) from rfl) (by decide) gW_X7 gF_X7_102 rfl hM.1 rfl rfl ?_
  refine hv_iconst E dX7_take_5 rfl ?_
  refine hv_iadd E dX7_take_6 rfl ?_
  show hm_V p l e (hm_rm 0 0 0) s m args below meth c D (hm_A w s.heap.size) 1 0 0 (MQ below (hm_Qi D w s.heap.size (fun r w2 => r = bI (tB T b P0) ∧ w2 = mM K w q ia ta I T b md td ag ((P0 + 1 : Nat) : Int))) args s 0 0 (hm_A w s.heap.size)) (mM K w q ia ta I T b md td ag ((P0 : Nat) : Int)) 7 [(0, .ref (q))] [.int (iI (((P0 + 1 : Nat) : Int))), .ref (q)]
  refine hv_put (kf := 6) (ty0 := tyX7) E dX7_take_7 (show vwCl[6]? = some (RX7, TX7, 7) from rfl) (by decide) gW_X7 tyX7_ok nmX7 gF_X7_102 rfl hM.1 rfl rfl rfl (Nat.le_of_ble_eq_true rfl) rfl ?_
  show hm_V p l e (hm_rm 0 0 0) s m args below meth c D (hm_A w s.heap.size) 1 0 0 (MQ below (hm_Qi D w s.heap.size (fun r w2 => r = bI (tB T b P0) ∧ w2 = mM K w q ia ta I T b md td ag ((P0 + 1 : Nat) : Int))) args s 0 0 (hm_A w s.heap.size)) (hm_up (mM K w q ia ta I T b md td ag ((P0 : Nat) : Int)) q (.inr (6, [.ref ia, .ref ta, .int (iI b), .int (iI md), .int (iI td), .int (bI ag), .int (iI (((P0 + 1 : Nat) : Int)))]))) 10 [(0, .ref (q))] []
  refine hv_mem (show _ = mM K w q ia ta I T b md td ag ((P0 + 1 : Nat) : Int) from mM_O) ?_
  clear hM
  have hM : mAt K (mM K w q ia ta I T b md td ag ((P0 + 1 : Nat) : Int)) q ia ta I T b md td ag ((P0 + 1 : Nat) : Int) := mAt_mM hm.n1 hm.n2 hm.n3
  refine hv_aload_n E dX7_take_10 rfl 0 rfl rfl ?_
  refine hv_get (kf := 6) E dX7_take_11 (show vwCl[6]? = some (RX7, TX7, 7) from rfl) (by decide) gW_X7 gF_X7_102 rfl hM.1 rfl rfl ?_
  refine hv_aload_n E dX7_take_14 rfl 0 rfl rfl ?_
  refine hv_get (kf := 2) E dX7_take_15 (show vwCl[6]? = some (RX7, TX7, 7) from rfl) (by decide) gW_X7 gF_X7_70 rfl hM.1 rfl rfl ?_
  refine hv_icmp_gt E 39 dX7_take_18 (by decide) ⟨by omega, by omega⟩ ⟨by omega, by omega⟩ rfl (fun c1 => ?_) (fun c1 => ?_)
  · refine hv_iconst E dX7_take_39 rfl ?_
    refine hv_topi (show iI (0) = bI (false) from rfl) ?_
    exact hv_zret E dX7_take_40 hr ⟨by unfold tB; rw [decide_eq_false (by omega), Bool.false_and], rfl⟩
  · refine hv_aload_n E dX7_take_21 rfl 0 rfl rfl ?_
    refine hv_get (kf := 1) E dX7_take_22 (show vwCl[6]? = some (RX7, TX7, 7) from rfl) (by decide) gW_X7 gF_X7_14 rfl hM.1 rfl rfl ?_
    refine hv_aload_n E dX7_take_25 rfl 0 rfl rfl ?_
    refine hv_get (kf := 6) E dX7_take_26 (show vwCl[6]? = some (RX7, TX7, 7) from rfl) (by decide) gW_X7 gF_X7_102 rfl hM.1 rfl rfl ?_
    refine hv_iconst E dX7_take_29 rfl ?_
    refine hv_isub E dX7_take_30 rfl ?_
    rw [show ((P0 + 1 : Nat) : Int) - 1 = ((P0 : Nat) : Int) by omega]
    show hm_V p l e (hm_rm 0 0 0) s m args below meth c D (hm_A w s.heap.size) 1 0 0 (MQ below (hm_Qi D w s.heap.size (fun r w2 => r = bI (tB T b P0) ∧ w2 = mM K w q ia ta I T b md td ag ((P0 + 1 : Nat) : Int))) args s 0 0 (hm_A w s.heap.size)) (mM K w q ia ta I T b md td ag ((P0 + 1 : Nat) : Int)) 31 [(0, .ref (q))] [.int (iI (((P0 : Nat) : Int))), .ref (ta)]
    refine hv_zald E dX7_take_31 hM.2.2 (by omega) (by omega) (by decide) rfl ?_
    refine hv_if_eqB E 39 dX7_take_32 (by decide) rfl (fun c2 => ?_) (fun c2 => ?_)
    · refine hv_iconst E dX7_take_39 rfl ?_
      refine hv_topi (show iI (0) = bI (false) from rfl) ?_
      exact hv_zret E dX7_take_40 hr ⟨by unfold tB; rw [show T P0 = false from c2, Bool.and_false], rfl⟩
    · refine hv_iconst E dX7_take_35 rfl ?_
      refine hv_goto E 40 dX7_take_36 (by decide) ?_
      refine hv_topi (show iI (1) = bI (true) from rfl) ?_
      exact hv_zret E dX7_take_40 hr ⟨by unfold tB; rw [show T P0 = true from c2, decide_eq_true (by omega)]; rfl, rfl⟩
set_option maxHeartbeats 4000000 in
set_option maxRecDepth 100000 in
theorem c7_takeNumber (l : Launch) (D : va_G) (K : Nat → ClassId) {w : hm_M} {q ia ta : Nat} {I T : Nat → Bool} {b md td : Int} {ag : Bool} {P0 : Nat} (n : Int) (hn0 : 0 ≤ n) (hn1 : n ≤ 29) (hP : P0 < 900000) (hm : mAt K w q ia ta I T b md td ag ((P0 : Nat) : Int)) (hb0 : 0 ≤ b) (hb1 : b ≤ 8210)  : hm_Ci l D K yX7_takeNumber cX7_takeNumber 4 .int 1 [.ref (q), .int (iI (n))] w 0 0 (fun r w2 => r = iI ((bv (tB T b) P0 n.toNat : Nat) : Int) ∧ w2 = mM K w q ia ta I T b md td ag ((P0 + n.toNat : Nat) : Int)) := by
  refine hm_enterI (by decide) (Nat.le_of_ble_eq_true rfl) ?_
  intro p e s m args below meth c E hr hnm
  show hm_V p l e (hm_rm 1 0 0) s m args below meth c D (hm_A w s.heap.size) 4 0 0 (MQ below (hm_Qi D w s.heap.size (fun r w2 => r = iI ((bv (tB T b) P0 n.toNat : Nat) : Int) ∧ w2 = mM K w q ia ta I T b md td ag ((P0 + n.toNat : Nat) : Int))) args s 0 0 (hm_A w s.heap.size)) w 0 [(0, .ref (q)), (1, .int (iI (n)))] []
  refine hv_mem (show w = mM K w q ia ta I T b md td ag ((P0 + 0 : Nat) : Int) from mM_id hm) ?_
  refine hv_iconst E dX7_takeNumber_0 rfl ?_
  refine hv_istore_n (lv2 := [(2, .int (iI (0))), (0, .ref (q)), (1, .int (iI (n)))]) E dX7_takeNumber_1 rfl (by decide) rfl rfl ?_
  refine hv_iconst E dX7_takeNumber_2 rfl ?_
  refine hv_istore_n (lv2 := [(3, .int (iI (0))), (2, .int (iI (0))), (0, .ref (q)), (1, .int (iI (n)))]) E dX7_takeNumber_3 rfl (by decide) rfl rfl ?_
  show hm_V p l e (hm_rm 1 0 0) s m args below meth c D (hm_A w s.heap.size) 4 0 0 (MQ below (hm_Qi D w s.heap.size (fun r w2 => r = iI ((bv (tB T b) P0 n.toNat : Nat) : Int) ∧ w2 = mM K w q ia ta I T b md td ag ((P0 + n.toNat : Nat) : Int))) args s 0 0 (hm_A w s.heap.size)) (mM K w q ia ta I T b md td ag ((P0 + 0 : Nat) : Int)) 4 [(3, .int (iI (((0 : Nat) : Int)))), (2, .int (iI (((0 : Nat) : Int)))), (0, .ref (q)), (1, .int (iI (n)))] []
  have LP : ∀ (k : Nat) (j v : Nat), (n - j < (k : Int)) → ((j : Int) ≤ n) → (v = bv (tB T b) P0 j) → hm_V p l e (hm_rm 1 0 0) s m args below meth c D (hm_A w s.heap.size) 4 0 0 (MQ below (hm_Qi D w s.heap.size (fun r w2 => r = iI ((bv (tB T b) P0 n.toNat : Nat) : Int) ∧ w2 = mM K w q ia ta I T b md td ag ((P0 + n.toNat : Nat) : Int))) args s 0 0 (hm_A w s.heap.size)) (mM K w q ia ta I T b md td ag ((P0 + j : Nat) : Int)) 4 [(3, .int (iI ((j : Int)))), (2, .int (iI ((v : Int)))), (0, .ref (q)), (1, .int (iI (n)))] [] := by
    intro k
    induction k with
    | zero =>
      intro j v hk j1 hv
      exact absurd hk (by omega)
    | succ k ih =>
      intro j v hk j1 hv
      have hM : mAt K (mM K w q ia ta I T b md td ag ((P0 + j : Nat) : Int)) q ia ta I T b md td ag ((P0 + j : Nat) : Int) := mAt_mM hm.n1 hm.n2 hm.n3
      have hvb := bv_lt (tB T b) P0 j
      rw [← hv] at hvb
      have hvp : 2 ^ j ≤ 2 ^ 29 := Nat.pow_le_pow_right (by omega) (by omega)
      have hvb2 : v < 2 ^ 29 := Nat.lt_of_lt_of_le hvb hvp
      refine hv_iload_n E dX7_takeNumber_4 rfl 0 rfl rfl ?_
      refine hv_iload_n E dX7_takeNumber_5 rfl 3 rfl rfl ?_
      refine hv_icmp_ge E 32 dX7_takeNumber_6 (by decide) ⟨by omega, by omega⟩ ⟨by omega, by omega⟩ rfl (fun c1 => ?_) (fun c1 => ?_)
      · refine hv_iload_n E dX7_takeNumber_32 rfl 1 rfl rfl ?_
        exact hv_iret E dX7_takeNumber_33 hr ⟨by rw [show n.toNat = j by omega, hv], by rw [show n.toNat = j by omega]⟩
      · refine hv_iconst E dX7_takeNumber_9 rfl ?_
        refine hv_iload_n E dX7_takeNumber_10 rfl 1 rfl rfl ?_
        refine hv_imul E dX7_takeNumber_11 rfl ?_
        refine hv_aload_n E dX7_takeNumber_12 rfl 2 rfl rfl ?_
        refine hv_callVI (na := 0) (As := []) (st := [.int (iI (2 * ((v : Int))))]) E (c7_take l D K (P0 := P0 + j) (by omega) hM hb0 hb1) dX7_takeNumber_13 hM.1 (show vwCl[6]? = some (RX7, TX7, 7) from rfl) gL_X7_105 gV_X7_take gI_X7_take gC_X7_take gZ_X7 (by decide +kernel) rfl ⟨Nat.le_of_ble_eq_true rfl, Nat.le_of_ble_eq_true rfl⟩ (Nat.le_of_ble_eq_true rfl) ⟨Nat.zero_le _, Nat.zero_le _⟩ rfl rfl (fun r w2 hp => ?_)
        rw [mM_mM hm.n1 hm.n2 hm.n3] at hp
        rw [hp.1, hp.2]
        show hm_V p l e (hm_rm 1 0 0) s m args below meth c D (hm_A w s.heap.size) 4 0 0 (MQ below (hm_Qi D w s.heap.size (fun r w2 => r = iI ((bv (tB T b) P0 n.toNat : Nat) : Int) ∧ w2 = mM K w q ia ta I T b md td ag ((P0 + n.toNat : Nat) : Int))) args s 0 0 (hm_A w s.heap.size)) (mM K w q ia ta I T b md td ag ((P0 + j + 1 : Nat) : Int)) 16 [(3, .int (iI ((j : Int)))), (2, .int (iI ((v : Int)))), (0, .ref (q)), (1, .int (iI (n)))] [.int (bI (tB T b (P0 + j))), .int (iI (2 * ((v : Int))))]
        refine hv_if_eqB E 23 dX7_takeNumber_16 (by decide) rfl (fun c2 => ?_) (fun c2 => ?_)
        · refine hv_iconst E dX7_takeNumber_23 rfl ?_
          refine hv_iadd E dX7_takeNumber_24 rfl ?_
          refine hv_istore_n (lv2 := [(2, .int (iI ((2 * ((v : Int))) + 0))), (3, .int (iI ((j : Int)))), (0, .ref (q)), (1, .int (iI (n)))]) E dX7_takeNumber_25 rfl (by decide) rfl rfl ?_
          refine hv_iinc (lv2 := [(3, .int (iI (((j : Int)) + 1))), (2, .int (iI ((2 * ((v : Int))) + 0))), (0, .ref (q)), (1, .int (iI (n)))]) E dX7_takeNumber_26 1 rfl rfl (by decide) rfl rfl ?_
          refine hv_goto E 4 dX7_takeNumber_29 (by decide) ?_
          rw [show 2 * (v : Int) + 0 = ((2 * v + 0 : Nat) : Int) by omega]
          show hm_V p l e (hm_rm 1 0 0) s m args below meth c D (hm_A w s.heap.size) 4 0 0 (MQ below (hm_Qi D w s.heap.size (fun r w2 => r = iI ((bv (tB T b) P0 n.toNat : Nat) : Int) ∧ w2 = mM K w q ia ta I T b md td ag ((P0 + n.toNat : Nat) : Int))) args s 0 0 (hm_A w s.heap.size)) (mM K w q ia ta I T b md td ag ((P0 + j + 1 : Nat) : Int)) 4 [(3, .int (iI (((j + 1 : Nat) : Int)))), (2, .int (iI (((2 * v + 0 : Nat) : Int)))), (0, .ref (q)), (1, .int (iI (n)))] []
          rw [show P0 + j + 1 = P0 + (j + 1) by omega]
          show hm_V p l e (hm_rm 1 0 0) s m args below meth c D (hm_A w s.heap.size) 4 0 0 (MQ below (hm_Qi D w s.heap.size (fun r w2 => r = iI ((bv (tB T b) P0 n.toNat : Nat) : Int) ∧ w2 = mM K w q ia ta I T b md td ag ((P0 + n.toNat : Nat) : Int))) args s 0 0 (hm_A w s.heap.size)) (mM K w q ia ta I T b md td ag ((P0 + (j + 1) : Nat) : Int)) 4 [(3, .int (iI (((j + 1 : Nat) : Int)))), (2, .int (iI (((2 * v + 0 : Nat) : Int)))), (0, .ref (q)), (1, .int (iI (n)))] []
          refine hv_sub (lv2 := [(3, .int (iI (((j + 1 : Nat) : Int)))), (2, .int (iI (((2 * v + 0 : Nat) : Int)))), (0, .ref (q)), (1, .int (iI (n)))]) [0, 1, 2, 3] rfl ?_
          exact ih (j + 1) (2 * v + 0) (by omega) (by omega) (by rw [hv]; show _ = 2 * bv (tB T b) P0 j + (if tB T b (P0 + j) then 1 else 0); rw [if_neg (by rw [c2]; exact Bool.false_ne_true)])
        · refine hv_iconst E dX7_takeNumber_19 rfl ?_
          refine hv_goto E 24 dX7_takeNumber_20 (by decide) ?_
          refine hv_iadd E dX7_takeNumber_24 rfl ?_
          refine hv_istore_n (lv2 := [(2, .int (iI ((2 * ((v : Int))) + 1))), (3, .int (iI ((j : Int)))), (0, .ref (q)), (1, .int (iI (n)))]) E dX7_takeNumber_25 rfl (by decide) rfl rfl ?_
          refine hv_iinc (lv2 := [(3, .int (iI (((j : Int)) + 1))), (2, .int (iI ((2 * ((v : Int))) + 1))), (0, .ref (q)), (1, .int (iI (n)))]) E dX7_takeNumber_26 1 rfl rfl (by decide) rfl rfl ?_
          refine hv_goto E 4 dX7_takeNumber_29 (by decide) ?_
          rw [show 2 * (v : Int) + 1 = ((2 * v + 1 : Nat) : Int) by omega]
          show hm_V p l e (hm_rm 1 0 0) s m args below meth c D (hm_A w s.heap.size) 4 0 0 (MQ below (hm_Qi D w s.heap.size (fun r w2 => r = iI ((bv (tB T b) P0 n.toNat : Nat) : Int) ∧ w2 = mM K w q ia ta I T b md td ag ((P0 + n.toNat : Nat) : Int))) args s 0 0 (hm_A w s.heap.size)) (mM K w q ia ta I T b md td ag ((P0 + j + 1 : Nat) : Int)) 4 [(3, .int (iI (((j + 1 : Nat) : Int)))), (2, .int (iI (((2 * v + 1 : Nat) : Int)))), (0, .ref (q)), (1, .int (iI (n)))] []
          rw [show P0 + j + 1 = P0 + (j + 1) by omega]
          show hm_V p l e (hm_rm 1 0 0) s m args below meth c D (hm_A w s.heap.size) 4 0 0 (MQ below (hm_Qi D w s.heap.size (fun r w2 => r = iI ((bv (tB T b) P0 n.toNat : Nat) : Int) ∧ w2 = mM K w q ia ta I T b md td ag ((P0 + n.toNat : Nat) : Int))) args s 0 0 (hm_A w s.heap.size)) (mM K w q ia ta I T b md td ag ((P0 + (j + 1) : Nat) : Int)) 4 [(3, .int (iI (((j + 1 : Nat) : Int)))), (2, .int (iI (((2 * v + 1 : Nat) : Int)))), (0, .ref (q)), (1, .int (iI (n)))] []
          refine hv_sub (lv2 := [(3, .int (iI (((j + 1 : Nat) : Int)))), (2, .int (iI (((2 * v + 1 : Nat) : Int)))), (0, .ref (q)), (1, .int (iI (n)))]) [0, 1, 2, 3] rfl ?_
          exact ih (j + 1) (2 * v + 1) (by omega) (by omega) (by rw [hv]; show _ = 2 * bv (tB T b) P0 j + (if tB T b (P0 + j) then 1 else 0); rw [if_pos c2])
  refine hv_sub (lv2 := [(3, .int (iI (((0 : Nat) : Int)))), (2, .int (iI (((0 : Nat) : Int)))), (0, .ref (q)), (1, .int (iI (n)))]) [0, 1, 2, 3] rfl ?_
  exact LP (n.toNat + 1) 0 0 (by omega) (by omega) rfl
set_option maxHeartbeats 4000000 in
set_option maxRecDepth 100000 in
theorem c7_mark (l : Launch) (D : va_G) (K : Nat → ClassId) {w : hm_M} {q ia ta : Nat} {I T : Nat → Bool} {b md td : Int} {ag : Bool} {pl : Int} (v : Int) (hv : iB v) (hm : mAt K w q ia ta I T b md td ag pl)  : hm_Cv l D K yX7_mark cX7_mark 2 2 [.ref (q), .int (iI (v))] w 0 0 (fun w2 => w2 = mM K w q ia ta (mk I v) T b md td ag pl) := by
  refine hm_enterV (by decide) (Nat.le_of_ble_eq_true rfl) ?_
  intro p e s m args below meth c E hr hnm
  show hm_V p l e (hm_rm 2 0 0) s m args below meth c D (hm_A w s.heap.size) 2 0 0 (MQ below (hm_Qv D w s.heap.size (fun w2 => w2 = mM K w q ia ta (mk I v) T b md td ag pl)) args s 0 0 (hm_A w s.heap.size)) w 0 [(0, .ref (q)), (1, .int (iI (v)))] []
  have hMM := mM_id hm
  refine hv_iload_n E dX7_mark_0 rfl 1 rfl rfl ?_
  refine hv_callSI (na := 1) (As := [.int (iI (v))]) (st := []) E (c7_isNumber l D K v hv) dX7_mark_1 gL_X7_25 gS_X7_isNumber gC_X7_isNumber gZ_X7 (by decide +kernel) rfl ⟨Nat.le_of_ble_eq_true rfl, Nat.le_of_ble_eq_true rfl⟩ (Nat.le_of_ble_eq_true rfl) ⟨Nat.zero_le _, Nat.zero_le _⟩ rfl rfl (fun r w2 hp => ?_)
  rw [hp.1, hp.2]
  show hm_V p l e (hm_rm 2 0 0) s m args below meth c D (hm_A w s.heap.size) 2 0 0 (MQ below (hm_Qv D w s.heap.size (fun w2 => w2 = mM K w q ia ta (mk I v) T b md td ag pl)) args s 0 0 (hm_A w s.heap.size)) w 4 [(0, .ref (q)), (1, .int (iI (v)))] [.int (bI (decide (0 ≤ v ∧ v ≤ 4095)))]
  refine hv_if_eqB E 17 dX7_mark_4 (by decide) rfl (fun c1 => ?_) (fun c1 => ?_)
  · have c1 := of_decide_eq_false c1
    exact hv_vret E dX7_mark_17 hr (by unfold mk; rw [if_neg (by omega)]; exact mM_id hm)
  · have c1 := of_decide_eq_true c1
    refine hv_aload_n E dX7_mark_7 rfl 0 rfl rfl ?_
    refine hv_get (kf := 0) E dX7_mark_8 (show vwCl[6]? = some (RX7, TX7, 7) from rfl) (by decide) gW_X7 gF_X7_8 rfl hm.1 rfl rfl ?_
    refine hv_ldc E dX7_mark_11 gK_X7_109 rfl ?_
    refine hv_topi (show (32768 : Int32) = iI (32768) from rfl) ?_
    refine hv_iload_n E dX7_mark_13 rfl 1 rfl rfl ?_
    refine hv_iadd E dX7_mark_14 rfl ?_
    refine hv_iconst E dX7_mark_15 rfl ?_
    refine hv_topi (show iI (1) = bI (true) from rfl) ?_
    refine hv_zast E dX7_mark_16 hm.2.1 (by omega) (by omega) (by decide) rfl ?_
    exact hv_vret E dX7_mark_17 hr (by
        unfold mk
        rw [if_pos (by omega), show (32768 + v).toNat = 32768 + v.toNat by omega]
        have h9 := mM_I (K := K) (w := w) (q := q) (ia := ia) (ta := ta) (I := I) (T := T) (b := b) (md := md) (td := td) (ag := ag) (pl := pl) (J := va_up I (32768 + v.toNat) true) hm.n1 hm.n3
        rw [← mM_id hm] at h9; exact h9)
set_option maxHeartbeats 4000000 in
set_option maxRecDepth 100000 in
theorem c7_takeGaps (l : Launch) (D : va_G) (K : Nat → ClassId) {w : hm_M} {q ia ta : Nat} {I T : Nat → Bool} {b md td : Int} {ag : Bool} (hU0 : ∀ u, u < 4096 → mS I 8 u = false) (hm : mAt K w q ia ta I T b md td ag ((0 : Nat) : Int)) (hb0 : 0 ≤ b) (hb1 : b ≤ 8210)  : hm_Cv l D K yX7_takeGaps cX7_takeGaps 7 3 [.ref (q)] w 0 0 (fun w2 => ∃ (J : Nat → Bool) (P2 : Nat), w2 = mM K w q ia ta J T b md td ag ((P2 : Nat) : Int) ∧ (∀ i, i < 32768 → J i = I i) ∧ ∀ S, isC (tB T b) b (cdG S) → ∀ u, u < 4096 → mS J 8 u = S u) := by
  refine hm_enterV (by decide) (Nat.le_of_ble_eq_true rfl) ?_
  intro p e s m args below meth c E hr hnm
  show hm_V p l e (hm_rm 3 0 0) s m args below meth c D (hm_A w s.heap.size) 7 0 0 (MQ below (hm_Qv D w s.heap.size (fun w2 => ∃ (J : Nat → Bool) (P2 : Nat), w2 = mM K w q ia ta J T b md td ag ((P2 : Nat) : Int) ∧ (∀ i, i < 32768 → J i = I i) ∧ ∀ S, isC (tB T b) b (cdG S) → ∀ u, u < 4096 → mS J 8 u = S u)) args s 0 0 (hm_A w s.heap.size)) w 0 [(0, .ref (q))] []
  refine hv_mem (show w = mM K w q ia ta I T b md td ag ((0 : Nat) : Int) from mM_id hm) ?_
  have hM : mAt K (mM K w q ia ta I T b md td ag ((0 : Nat) : Int)) q ia ta I T b md td ag ((0 : Nat) : Int) := mAt_mM hm.n1 hm.n2 hm.n3
  refine hv_aload_n E dX7_takeGaps_0 rfl 0 rfl rfl ?_
  refine hv_bipush E dX7_takeGaps_1 (by decide +kernel) rfl ?_
  refine hv_callVI (na := 1) (As := [.int (iI (13))]) (st := []) E (c7_takeNumber l D K (P0 := 0) (13) (by omega) (by omega) (by omega) hM hb0 hb1) dX7_takeGaps_3 hM.1 (show vwCl[6]? = some (RX7, TX7, 7) from rfl) gL_X7_119 gV_X7_takeNumber gI_X7_takeNumber gC_X7_takeNumber gZ_X7 (by decide +kernel) rfl ⟨Nat.le_of_ble_eq_true rfl, Nat.le_of_ble_eq_true rfl⟩ (Nat.le_of_ble_eq_true rfl) ⟨Nat.zero_le _, Nat.zero_le _⟩ rfl rfl (fun r w2 hp => ?_)
  rw [mM_mM hm.n1 hm.n2 hm.n3, show (13 : Int).toNat = 13 by omega] at hp
  obtain ⟨NN, hNN⟩ : ∃ zz, zz = bv (tB T b) (0) (13) := ⟨_, rfl⟩
  have hNNb := bv_lt (tB T b) (0) (13)
  rw [← hNN] at hp hNNb
  rw [hp.1, hp.2]
  show hm_V p l e (hm_rm 3 0 0) s m args below meth c D (hm_A w s.heap.size) 7 0 0 (MQ below (hm_Qv D w s.heap.size (fun w2 => ∃ (J : Nat → Bool) (P2 : Nat), w2 = mM K w q ia ta J T b md td ag ((P2 : Nat) : Int) ∧ (∀ i, i < 32768 → J i = I i) ∧ ∀ S, isC (tB T b) b (cdG S) → ∀ u, u < 4096 → mS J 8 u = S u)) args s 0 0 (hm_A w s.heap.size)) (mM K w q ia ta I T b md td ag ((0 + 13 : Nat) : Int)) 6 [(0, .ref (q))] [.int (iI ((NN : Int)))]
  clear hM
  refine hv_istore_n (lv2 := [(1, .int (iI ((NN : Int)))), (0, .ref (q))]) E dX7_takeGaps_6 rfl (by decide) rfl rfl ?_
  refine hv_iconst E dX7_takeGaps_7 rfl ?_
  refine hv_istore_n (lv2 := [(2, .int (iI ((-1)))), (1, .int (iI ((NN : Int)))), (0, .ref (q))]) E dX7_takeGaps_8 rfl (by decide) rfl rfl ?_
  refine hv_iconst E dX7_takeGaps_9 rfl ?_
  refine hv_istore_n (lv2 := [(3, .int (iI (0))), (2, .int (iI ((-1)))), (1, .int (iI ((NN : Int)))), (0, .ref (q))]) E dX7_takeGaps_10 rfl (by decide) rfl rfl ?_
  show hm_V p l e (hm_rm 3 0 0) s m args below meth c D (hm_A w s.heap.size) 7 0 0 (MQ below (hm_Qv D w s.heap.size (fun w2 => ∃ (J : Nat → Bool) (P2 : Nat), w2 = mM K w q ia ta J T b md td ag ((P2 : Nat) : Int) ∧ (∀ i, i < 32768 → J i = I i) ∧ ∀ S, isC (tB T b) b (cdG S) → ∀ u, u < 4096 → mS J 8 u = S u)) args s 0 0 (hm_A w s.heap.size)) (mM K w q ia ta I T b md td ag ((0 + 13 : Nat) : Int)) 11 [(3, .int (iI (((0 : Nat) : Int)))), (2, .int (iI (((0 : Nat) : Int) - 1))), (1, .int (iI ((NN : Int)))), (0, .ref (q))] []
  rw [show 0 + 13 = 13 from rfl]
  show hm_V p l e (hm_rm 3 0 0) s m args below meth c D (hm_A w s.heap.size) 7 0 0 (MQ below (hm_Qv D w s.heap.size (fun w2 => ∃ (J : Nat → Bool) (P2 : Nat), w2 = mM K w q ia ta J T b md td ag ((P2 : Nat) : Int) ∧ (∀ i, i < 32768 → J i = I i) ∧ ∀ S, isC (tB T b) b (cdG S) → ∀ u, u < 4096 → mS J 8 u = S u)) args s 0 0 (hm_A w s.heap.size)) (mM K w q ia ta I T b md td ag ((13 : Nat) : Int)) 11 [(3, .int (iI (((0 : Nat) : Int)))), (2, .int (iI (((0 : Nat) : Int) - 1))), (1, .int (iI ((NN : Int)))), (0, .ref (q))] []
  have LP : ∀ (k : Nat) (kk v P : Nat) (J : Nat → Bool), ((NN : Int) - kk < (k : Int)) → (kk ≤ NN) → (v ≤ 8191 * kk) → (13 + kk ≤ P) → (P ≤ 8240) → (∀ i, i < 32768 → J i = I i) → (∀ S, isC (tB T b) b (cdG S) → gI (tB T b) b (mS J 8) v kk P) → hm_V p l e (hm_rm 3 0 0) s m args below meth c D (hm_A w s.heap.size) 7 0 0 (MQ below (hm_Qv D w s.heap.size (fun w2 => ∃ (J : Nat → Bool) (P2 : Nat), w2 = mM K w q ia ta J T b md td ag ((P2 : Nat) : Int) ∧ (∀ i, i < 32768 → J i = I i) ∧ ∀ S, isC (tB T b) b (cdG S) → ∀ u, u < 4096 → mS J 8 u = S u)) args s 0 0 (hm_A w s.heap.size)) (mM K w q ia ta J T b md td ag ((P : Nat) : Int)) 11 [(3, .int (iI ((kk : Int)))), (2, .int (iI ((v : Int) - 1))), (1, .int (iI ((NN : Int)))), (0, .ref (q))] [] := by
    intro k
    induction k with
    | zero =>
      intro kk v P J hk k1 hv hP1 hP2 hlo hE
      exact absurd hk (by omega)
    | succ k ih =>
      intro kk v P J hk k1 hv hP1 hP2 hlo hE
      have hM : mAt K (mM K w q ia ta J T b md td ag ((P : Nat) : Int)) q ia ta J T b md td ag ((P : Nat) : Int) := mAt_mM hm.n1 hm.n2 hm.n3
      refine hv_iload_n E dX7_takeGaps_11 rfl 0 rfl rfl ?_
      refine hv_iload_n E dX7_takeGaps_12 rfl 2 rfl rfl ?_
      refine hv_icmp_ge E 121 dX7_takeGaps_13 (by decide) ⟨by omega, by omega⟩ ⟨by omega, by omega⟩ rfl (fun c1 => ?_) (fun c1 => ?_)
      · have hkn : kk = bv (tB T b) 0 13 := by rw [← hNN]; omega
        exact hv_vret E dX7_takeGaps_121 hr ⟨J, P, rfl, hlo, fun S hS u hu => (by
            have hg := hE S hS
            rw [hkn] at hg
            exact gI_S hg hS u hu)⟩
      · have hkn : kk < bv (tB T b) 0 13 := by rw [← hNN]; omega
        refine hv_aload_n E dX7_takeGaps_16 rfl 3 rfl rfl ?_
        refine hv_get (kf := 6) E dX7_takeGaps_17 (show vwCl[6]? = some (RX7, TX7, 7) from rfl) (by decide) gW_X7 gF_X7_102 rfl hM.1 rfl rfl ?_
        refine hv_aload_n E dX7_takeGaps_20 rfl 3 rfl rfl ?_
        refine hv_get (kf := 2) E dX7_takeGaps_21 (show vwCl[6]? = some (RX7, TX7, 7) from rfl) (by decide) gW_X7 gF_X7_70 rfl hM.1 rfl rfl ?_
        refine hv_icmp_ge E 121 dX7_takeGaps_24 (by decide) ⟨by omega, by omega⟩ ⟨by omega, by omega⟩ rfl (fun c2 => ?_) (fun c2 => ?_)
        · exact hv_vret E dX7_takeGaps_121 hr ⟨J, P, rfl, hlo, fun S hS u hu => (by
              obtain ⟨g, z, _, _, _, _, _, _, _, _, _, _, h9⟩ := gI_nx (hE S hS) hkn hS
              omega)⟩
        · have ih0 := ih
          clear hM
          refine hv_iconst E dX7_takeGaps_27 rfl ?_
          refine hv_istore (lv2 := [(4, .int (iI (1))), (3, .int (iI ((kk : Int)))), (2, .int (iI ((v : Int) - 1))), (1, .int (iI ((NN : Int)))), (0, .ref (q))]) E dX7_takeGaps_28 (by decide) rfl rfl ?_
          show hm_V p l e (hm_rm 3 0 0) s m args below meth c D (hm_A w s.heap.size) 7 0 0 (MQ below (hm_Qv D w s.heap.size (fun w2 => ∃ (J : Nat → Bool) (P2 : Nat), w2 = mM K w q ia ta J T b md td ag ((P2 : Nat) : Int) ∧ (∀ i, i < 32768 → J i = I i) ∧ ∀ S, isC (tB T b) b (cdG S) → ∀ u, u < 4096 → mS J 8 u = S u)) args s 0 0 (hm_A w s.heap.size)) (mM K w q ia ta J T b md td ag ((P : Nat) : Int)) 30 [(4, .int (iI (((0 + 1 : Nat) : Int)))), (3, .int (iI ((kk : Int)))), (2, .int (iI ((v : Int) - 1))), (1, .int (iI ((NN : Int)))), (0, .ref (q))] []
          refine hv_mem (show mM K w q ia ta J T b md td ag ((P : Nat) : Int) = mM K w q ia ta J T b md td ag ((P + 0 : Nat) : Int) from rfl) ?_
          have L2 : ∀ (k : Nat) (z : Nat), ((12 : Int) - z < (k : Int)) → (z ≤ 12) → (∀ i, i < z → tB T b (P + i) = false) → hm_V p l e (hm_rm 3 0 0) s m args below meth c D (hm_A w s.heap.size) 7 0 0 (MQ below (hm_Qv D w s.heap.size (fun w2 => ∃ (J : Nat → Bool) (P2 : Nat), w2 = mM K w q ia ta J T b md td ag ((P2 : Nat) : Int) ∧ (∀ i, i < 32768 → J i = I i) ∧ ∀ S, isC (tB T b) b (cdG S) → ∀ u, u < 4096 → mS J 8 u = S u)) args s 0 0 (hm_A w s.heap.size)) (mM K w q ia ta J T b md td ag ((P + z : Nat) : Int)) 30 [(4, .int (iI (((z + 1 : Nat) : Int)))), (3, .int (iI ((kk : Int)))), (2, .int (iI ((v : Int) - 1))), (1, .int (iI ((NN : Int)))), (0, .ref (q))] [] := by
            intro k
            induction k with
            | zero =>
              intro z hk2 z12 hz
              exact absurd hk2 (by omega)
            | succ k ih =>
              intro z hk2 z12 hz
              have hM : mAt K (mM K w q ia ta J T b md td ag ((P + z : Nat) : Int)) q ia ta J T b md td ag ((P + z : Nat) : Int) := mAt_mM hm.n1 hm.n2 hm.n3
              refine hv_iload E dX7_takeGaps_30 0 rfl rfl ?_
              refine hv_bipush E dX7_takeGaps_32 (by decide +kernel) rfl ?_
              refine hv_icmp_ge E 50 dX7_takeGaps_34 (by decide) ⟨by omega, by omega⟩ ⟨by omega, by omega⟩ rfl (fun c3 => ?_) (fun c3 => ?_)
              · have hz12 : z = 12 := by omega
                refine hv_iload E dX7_takeGaps_50 0 rfl rfl ?_
                refine hv_bipush E dX7_takeGaps_52 (by decide +kernel) rfl ?_
                refine hv_icmp_ne E 67 dX7_takeGaps_54 (by decide) ⟨by omega, by omega⟩ ⟨by omega, by omega⟩ rfl (fun d1 => ?_) (fun d1 => ?_)
                · exact absurd d1 (by omega)
                · refine hv_aload_n E dX7_takeGaps_57 rfl 4 rfl rfl ?_
                  refine hv_dup E dX7_takeGaps_58 rfl rfl ?_
                  refine hv_get (kf := 6) E dX7_takeGaps_59 (show vwCl[6]? = some (RX7, TX7, 7) from rfl) (by decide) gW_X7 gF_X7_102 rfl hM.1 rfl rfl ?_
                  refine hv_iconst E dX7_takeGaps_62 rfl ?_
                  refine hv_iadd E dX7_takeGaps_63 rfl ?_
                  rw [show ((P + z : Nat) : Int) + 1 = ((P + z + 1 : Nat) : Int) by omega]
                  show hm_V p l e (hm_rm 3 0 0) s m args below meth c D (hm_A w s.heap.size) 7 0 0 (MQ below (hm_Qv D w s.heap.size (fun w2 => ∃ (J : Nat → Bool) (P2 : Nat), w2 = mM K w q ia ta J T b md td ag ((P2 : Nat) : Int) ∧ (∀ i, i < 32768 → J i = I i) ∧ ∀ S, isC (tB T b) b (cdG S) → ∀ u, u < 4096 → mS J 8 u = S u)) args s 0 0 (hm_A w s.heap.size)) (mM K w q ia ta J T b md td ag ((P + z : Nat) : Int)) 64 [(4, .int (iI (((z + 1 : Nat) : Int)))), (3, .int (iI ((kk : Int)))), (2, .int (iI ((v : Int) - 1))), (1, .int (iI ((NN : Int)))), (0, .ref (q))] [.int (iI (((P + z + 1 : Nat) : Int))), .ref (q)]
                  refine hv_put (kf := 6) (ty0 := tyX7) E dX7_takeGaps_64 (show vwCl[6]? = some (RX7, TX7, 7) from rfl) (by decide) gW_X7 tyX7_ok nmX7 gF_X7_102 rfl hM.1 rfl rfl rfl (Nat.le_of_ble_eq_true rfl) rfl ?_
                  show hm_V p l e (hm_rm 3 0 0) s m args below meth c D (hm_A w s.heap.size) 7 0 0 (MQ below (hm_Qv D w s.heap.size (fun w2 => ∃ (J : Nat → Bool) (P2 : Nat), w2 = mM K w q ia ta J T b md td ag ((P2 : Nat) : Int) ∧ (∀ i, i < 32768 → J i = I i) ∧ ∀ S, isC (tB T b) b (cdG S) → ∀ u, u < 4096 → mS J 8 u = S u)) args s 0 0 (hm_A w s.heap.size)) (hm_up (mM K w q ia ta J T b md td ag ((P + z : Nat) : Int)) q (.inr (6, [.ref ia, .ref ta, .int (iI b), .int (iI md), .int (iI td), .int (bI ag), .int (iI (((P + z + 1 : Nat) : Int)))]))) 67 [(4, .int (iI (((z + 1 : Nat) : Int)))), (3, .int (iI ((kk : Int)))), (2, .int (iI ((v : Int) - 1))), (1, .int (iI ((NN : Int)))), (0, .ref (q))] []
                  refine hv_mem (show _ = mM K w q ia ta J T b md td ag ((P + z + 1 : Nat) : Int) from mM_O) ?_
                  have hone : tB T b (P + z) = true ∨ z = 12 := Or.inr hz12
                  clear hM
                  refine hv_iconst E dX7_takeGaps_67 rfl ?_
                  refine hv_istore (lv2 := [(5, .int (iI (1))), (4, .int (iI (((z + 1 : Nat) : Int)))), (3, .int (iI ((kk : Int)))), (2, .int (iI ((v : Int) - 1))), (1, .int (iI ((NN : Int)))), (0, .ref (q))]) E dX7_takeGaps_68 (by decide) rfl rfl ?_
                  refine hv_iconst E dX7_takeGaps_70 rfl ?_
                  refine hv_istore (lv2 := [(6, .int (iI (1))), (5, .int (iI (1))), (4, .int (iI (((z + 1 : Nat) : Int)))), (3, .int (iI ((kk : Int)))), (2, .int (iI ((v : Int) - 1))), (1, .int (iI ((NN : Int)))), (0, .ref (q))]) E dX7_takeGaps_71 (by decide) rfl rfl ?_
                  show hm_V p l e (hm_rm 3 0 0) s m args below meth c D (hm_A w s.heap.size) 7 0 0 (MQ below (hm_Qv D w s.heap.size (fun w2 => ∃ (J : Nat → Bool) (P2 : Nat), w2 = mM K w q ia ta J T b md td ag ((P2 : Nat) : Int) ∧ (∀ i, i < 32768 → J i = I i) ∧ ∀ S, isC (tB T b) b (cdG S) → ∀ u, u < 4096 → mS J 8 u = S u)) args s 0 0 (hm_A w s.heap.size)) (mM K w q ia ta J T b md td ag ((P + z + 1 : Nat) : Int)) 73 [(6, .int (iI (((0 + 1 : Nat) : Int)))), (5, .int (iI (((1 : Nat) : Int)))), (4, .int (iI (((z + 1 : Nat) : Int)))), (3, .int (iI ((kk : Int)))), (2, .int (iI ((v : Int) - 1))), (1, .int (iI ((NN : Int)))), (0, .ref (q))] []
                  refine hv_mem (show mM K w q ia ta J T b md td ag ((P + z + 1 : Nat) : Int) = mM K w q ia ta J T b md td ag ((P + z + 1 + 0 : Nat) : Int) from rfl) ?_
                  have L3 : ∀ (k : Nat) (j G : Nat), ((z : Int) - j < (k : Int)) → (j ≤ z) → (G = 2 ^ j + bv (tB T b) (P + z + 1) j) → hm_V p l e (hm_rm 3 0 0) s m args below meth c D (hm_A w s.heap.size) 7 0 0 (MQ below (hm_Qv D w s.heap.size (fun w2 => ∃ (J : Nat → Bool) (P2 : Nat), w2 = mM K w q ia ta J T b md td ag ((P2 : Nat) : Int) ∧ (∀ i, i < 32768 → J i = I i) ∧ ∀ S, isC (tB T b) b (cdG S) → ∀ u, u < 4096 → mS J 8 u = S u)) args s 0 0 (hm_A w s.heap.size)) (mM K w q ia ta J T b md td ag ((P + z + 1 + j : Nat) : Int)) 73 [(6, .int (iI (((j + 1 : Nat) : Int)))), (5, .int (iI ((G : Int)))), (4, .int (iI (((z + 1 : Nat) : Int)))), (3, .int (iI ((kk : Int)))), (2, .int (iI ((v : Int) - 1))), (1, .int (iI ((NN : Int)))), (0, .ref (q))] [] := by
                    intro k
                    induction k with
                    | zero =>
                      intro j G hk3 j1 hG
                      exact absurd hk3 (by omega)
                    | succ k ih =>
                      intro j G hk3 j1 hG
                      have hM : mAt K (mM K w q ia ta J T b md td ag ((P + z + 1 + j : Nat) : Int)) q ia ta J T b md td ag ((P + z + 1 + j : Nat) : Int) := mAt_mM hm.n1 hm.n2 hm.n3
                      have hbb := bv_lt (tB T b) (P + z + 1) j
                      have hpp : 2 ^ j ≤ 2 ^ 12 := Nat.pow_le_pow_right (by omega) (by omega)
                      have hGb : G < 8192 := by omega
                      have hpo := Nat.two_pow_pos j
                      refine hv_iload E dX7_takeGaps_73 0 rfl rfl ?_
                      refine hv_iload E dX7_takeGaps_75 2 rfl rfl ?_
                      refine hv_icmp_ge E 105 dX7_takeGaps_77 (by decide) ⟨by omega, by omega⟩ ⟨by omega, by omega⟩ rfl (fun c7 => ?_) (fun c7 => ?_)
                      · have hjz : j = z := by omega
                        have hG2 := hG
                        rw [hjz] at hG2
                        refine hv_iload_n E dX7_takeGaps_105 rfl 4 rfl rfl ?_
                        refine hv_iload E dX7_takeGaps_106 1 rfl rfl ?_
                        refine hv_iadd E dX7_takeGaps_108 rfl ?_
                        refine hv_istore_n (lv2 := [(2, .int (iI (((v : Int) - 1) + ((G : Int))))), (6, .int (iI (((j + 1 : Nat) : Int)))), (5, .int (iI ((G : Int)))), (4, .int (iI (((z + 1 : Nat) : Int)))), (3, .int (iI ((kk : Int)))), (1, .int (iI ((NN : Int)))), (0, .ref (q))]) E dX7_takeGaps_109 rfl (by decide) rfl rfl ?_
                        refine hv_aload_n E dX7_takeGaps_110 rfl 6 rfl rfl ?_
                        refine hv_iload_n E dX7_takeGaps_111 rfl 0 rfl rfl ?_
                        refine hv_callVV (na := 1) (As := [.int (iI (((v : Int) - 1) + ((G : Int))))]) (st := []) E (c7_mark l D K ((v : Int) - 1 + (G : Int)) ⟨by omega, by omega⟩ hM) dX7_takeGaps_112 hM.1 (show vwCl[6]? = some (RX7, TX7, 7) from rfl) gL_X7_122 gV_X7_mark gI_X7_mark gC_X7_mark gZ_X7 (by decide +kernel) rfl ⟨Nat.le_of_ble_eq_true rfl, Nat.le_of_ble_eq_true rfl⟩ (Nat.le_of_ble_eq_true rfl) ⟨Nat.zero_le _, Nat.zero_le _⟩ rfl rfl (fun w2 hp => ?_)
                        rw [mM_mM hm.n1 hm.n2 hm.n3] at hp
                        obtain ⟨J2, hJ2⟩ : ∃ zz, zz = mk J ((v : Int) - 1 + (G : Int)) := ⟨_, rfl⟩
                        rw [← hJ2] at hp
                        rw [hp]
                        show hm_V p l e (hm_rm 3 0 0) s m args below meth c D (hm_A w s.heap.size) 7 0 0 (MQ below (hm_Qv D w s.heap.size (fun w2 => ∃ (J : Nat → Bool) (P2 : Nat), w2 = mM K w q ia ta J T b md td ag ((P2 : Nat) : Int) ∧ (∀ i, i < 32768 → J i = I i) ∧ ∀ S, isC (tB T b) b (cdG S) → ∀ u, u < 4096 → mS J 8 u = S u)) args s 0 0 (hm_A w s.heap.size)) (mM K w q ia ta J2 T b md td ag ((P + z + 1 + j : Nat) : Int)) 115 [(2, .int (iI (((v : Int) - 1) + ((G : Int))))), (6, .int (iI (((j + 1 : Nat) : Int)))), (5, .int (iI ((G : Int)))), (4, .int (iI (((z + 1 : Nat) : Int)))), (3, .int (iI ((kk : Int)))), (1, .int (iI ((NN : Int)))), (0, .ref (q))] []
                        refine hv_iinc (lv2 := [(3, .int (iI (((kk : Int)) + 1))), (2, .int (iI (((v : Int) - 1) + ((G : Int))))), (6, .int (iI (((j + 1 : Nat) : Int)))), (5, .int (iI ((G : Int)))), (4, .int (iI (((z + 1 : Nat) : Int)))), (1, .int (iI ((NN : Int)))), (0, .ref (q))]) E dX7_takeGaps_115 4 rfl rfl (by decide) rfl rfl ?_
                        refine hv_goto E 11 dX7_takeGaps_118 (by decide) ?_
                        rw [show (v : Int) - 1 + (G : Int) = ((v + G : Nat) : Int) - 1 by omega]
                        show hm_V p l e (hm_rm 3 0 0) s m args below meth c D (hm_A w s.heap.size) 7 0 0 (MQ below (hm_Qv D w s.heap.size (fun w2 => ∃ (J : Nat → Bool) (P2 : Nat), w2 = mM K w q ia ta J T b md td ag ((P2 : Nat) : Int) ∧ (∀ i, i < 32768 → J i = I i) ∧ ∀ S, isC (tB T b) b (cdG S) → ∀ u, u < 4096 → mS J 8 u = S u)) args s 0 0 (hm_A w s.heap.size)) (mM K w q ia ta J2 T b md td ag ((P + z + 1 + j : Nat) : Int)) 11 [(3, .int (iI (((kk + 1 : Nat) : Int)))), (2, .int (iI (((v + G : Nat) : Int) - 1))), (6, .int (iI (((j + 1 : Nat) : Int)))), (5, .int (iI ((G : Int)))), (4, .int (iI (((z + 1 : Nat) : Int)))), (1, .int (iI ((NN : Int)))), (0, .ref (q))] []
                        refine hv_sub (lv2 := [(3, .int (iI (((kk + 1 : Nat) : Int)))), (2, .int (iI (((v + G : Nat) : Int) - 1))), (1, .int (iI ((NN : Int)))), (0, .ref (q))]) [0, 1, 5, 6] rfl ?_
                        exact ih0 (kk + 1) (v + G) (P + z + 1 + j) J2 (by omega) (by omega) (by omega) (by omega) (by omega) (fun i hi => by rw [hJ2, mk_lo hi]; exact hlo i hi) (fun S hS => (by
                          rw [hjz]
                          exact gI_m (hE S hS) hkn hS hz hone hG2 (fun hle u => (by
                            rw [hJ2, show (v : Int) - 1 + (G : Int) = ((v + G - 1 : Nat) : Int) by omega, mk_sp (by omega)]))))
                      · refine hv_iconst E dX7_takeGaps_80 rfl ?_
                        refine hv_iload E dX7_takeGaps_81 1 rfl rfl ?_
                        refine hv_imul E dX7_takeGaps_83 rfl ?_
                        refine hv_aload_n E dX7_takeGaps_84 rfl 6 rfl rfl ?_
                        refine hv_callVI (na := 0) (As := []) (st := [.int (iI (2 * ((G : Int))))]) E (c7_take l D K (P0 := P + z + 1 + j) (by omega) hM hb0 hb1) dX7_takeGaps_85 hM.1 (show vwCl[6]? = some (RX7, TX7, 7) from rfl) gL_X7_105 gV_X7_take gI_X7_take gC_X7_take gZ_X7 (by decide +kernel) rfl ⟨Nat.le_of_ble_eq_true rfl, Nat.le_of_ble_eq_true rfl⟩ (Nat.le_of_ble_eq_true rfl) ⟨Nat.zero_le _, Nat.zero_le _⟩ rfl rfl (fun r w2 hp => ?_)
                        rw [mM_mM hm.n1 hm.n2 hm.n3] at hp
                        rw [hp.1, hp.2]
                        show hm_V p l e (hm_rm 3 0 0) s m args below meth c D (hm_A w s.heap.size) 7 0 0 (MQ below (hm_Qv D w s.heap.size (fun w2 => ∃ (J : Nat → Bool) (P2 : Nat), w2 = mM K w q ia ta J T b md td ag ((P2 : Nat) : Int) ∧ (∀ i, i < 32768 → J i = I i) ∧ ∀ S, isC (tB T b) b (cdG S) → ∀ u, u < 4096 → mS J 8 u = S u)) args s 0 0 (hm_A w s.heap.size)) (mM K w q ia ta J T b md td ag ((P + z + 1 + j + 1 : Nat) : Int)) 88 [(6, .int (iI (((j + 1 : Nat) : Int)))), (5, .int (iI ((G : Int)))), (4, .int (iI (((z + 1 : Nat) : Int)))), (3, .int (iI ((kk : Int)))), (2, .int (iI ((v : Int) - 1))), (1, .int (iI ((NN : Int)))), (0, .ref (q))] [.int (bI (tB T b (P + z + 1 + j))), .int (iI (2 * ((G : Int))))]
                        refine hv_if_eqB E 95 dX7_takeGaps_88 (by decide) rfl (fun c8 => ?_) (fun c8 => ?_)
                        · refine hv_iconst E dX7_takeGaps_95 rfl ?_
                          refine hv_iadd E dX7_takeGaps_96 rfl ?_
                          refine hv_istore (lv2 := [(5, .int (iI ((2 * ((G : Int))) + 0))), (6, .int (iI (((j + 1 : Nat) : Int)))), (4, .int (iI (((z + 1 : Nat) : Int)))), (3, .int (iI ((kk : Int)))), (2, .int (iI ((v : Int) - 1))), (1, .int (iI ((NN : Int)))), (0, .ref (q))]) E dX7_takeGaps_97 (by decide) rfl rfl ?_
                          refine hv_iinc (lv2 := [(6, .int (iI ((((j + 1 : Nat) : Int)) + 1))), (5, .int (iI ((2 * ((G : Int))) + 0))), (4, .int (iI (((z + 1 : Nat) : Int)))), (3, .int (iI ((kk : Int)))), (2, .int (iI ((v : Int) - 1))), (1, .int (iI ((NN : Int)))), (0, .ref (q))]) E dX7_takeGaps_99 1 rfl rfl (by decide) rfl rfl ?_
                          refine hv_goto E 73 dX7_takeGaps_102 (by decide) ?_
                          rw [show 2 * (G : Int) + 0 = ((2 * G + 0 : Nat) : Int) by omega]
                          show hm_V p l e (hm_rm 3 0 0) s m args below meth c D (hm_A w s.heap.size) 7 0 0 (MQ below (hm_Qv D w s.heap.size (fun w2 => ∃ (J : Nat → Bool) (P2 : Nat), w2 = mM K w q ia ta J T b md td ag ((P2 : Nat) : Int) ∧ (∀ i, i < 32768 → J i = I i) ∧ ∀ S, isC (tB T b) b (cdG S) → ∀ u, u < 4096 → mS J 8 u = S u)) args s 0 0 (hm_A w s.heap.size)) (mM K w q ia ta J T b md td ag ((P + z + 1 + j + 1 : Nat) : Int)) 73 [(6, .int (iI (((j + 1 + 1 : Nat) : Int)))), (5, .int (iI (((2 * G + 0 : Nat) : Int)))), (4, .int (iI (((z + 1 : Nat) : Int)))), (3, .int (iI ((kk : Int)))), (2, .int (iI ((v : Int) - 1))), (1, .int (iI ((NN : Int)))), (0, .ref (q))] []
                          rw [show P + z + 1 + j + 1 = P + z + 1 + (j + 1) by omega]
                          show hm_V p l e (hm_rm 3 0 0) s m args below meth c D (hm_A w s.heap.size) 7 0 0 (MQ below (hm_Qv D w s.heap.size (fun w2 => ∃ (J : Nat → Bool) (P2 : Nat), w2 = mM K w q ia ta J T b md td ag ((P2 : Nat) : Int) ∧ (∀ i, i < 32768 → J i = I i) ∧ ∀ S, isC (tB T b) b (cdG S) → ∀ u, u < 4096 → mS J 8 u = S u)) args s 0 0 (hm_A w s.heap.size)) (mM K w q ia ta J T b md td ag ((P + z + 1 + (j + 1) : Nat) : Int)) 73 [(6, .int (iI (((j + 1 + 1 : Nat) : Int)))), (5, .int (iI (((2 * G + 0 : Nat) : Int)))), (4, .int (iI (((z + 1 : Nat) : Int)))), (3, .int (iI ((kk : Int)))), (2, .int (iI ((v : Int) - 1))), (1, .int (iI ((NN : Int)))), (0, .ref (q))] []
                          refine hv_sub (lv2 := [(6, .int (iI (((j + 1 + 1 : Nat) : Int)))), (5, .int (iI (((2 * G + 0 : Nat) : Int)))), (4, .int (iI (((z + 1 : Nat) : Int)))), (3, .int (iI ((kk : Int)))), (2, .int (iI ((v : Int) - 1))), (1, .int (iI ((NN : Int)))), (0, .ref (q))]) [0, 1, 2, 3, 4, 5, 6] rfl ?_
                          exact ih (j + 1) (2 * G + 0) (by omega) (by omega) (by
                                show _ = 2 ^ (j + 1) + (2 * bv (tB T b) (P + z + 1) j + (if tB T b (P + z + 1 + j) then 1 else 0))
                                rw [if_neg (by rw [c8]; exact Bool.false_ne_true), Nat.pow_succ]; omega)
                        · refine hv_iconst E dX7_takeGaps_91 rfl ?_
                          refine hv_goto E 96 dX7_takeGaps_92 (by decide) ?_
                          refine hv_iadd E dX7_takeGaps_96 rfl ?_
                          refine hv_istore (lv2 := [(5, .int (iI ((2 * ((G : Int))) + 1))), (6, .int (iI (((j + 1 : Nat) : Int)))), (4, .int (iI (((z + 1 : Nat) : Int)))), (3, .int (iI ((kk : Int)))), (2, .int (iI ((v : Int) - 1))), (1, .int (iI ((NN : Int)))), (0, .ref (q))]) E dX7_takeGaps_97 (by decide) rfl rfl ?_
                          refine hv_iinc (lv2 := [(6, .int (iI ((((j + 1 : Nat) : Int)) + 1))), (5, .int (iI ((2 * ((G : Int))) + 1))), (4, .int (iI (((z + 1 : Nat) : Int)))), (3, .int (iI ((kk : Int)))), (2, .int (iI ((v : Int) - 1))), (1, .int (iI ((NN : Int)))), (0, .ref (q))]) E dX7_takeGaps_99 1 rfl rfl (by decide) rfl rfl ?_
                          refine hv_goto E 73 dX7_takeGaps_102 (by decide) ?_
                          rw [show 2 * (G : Int) + 1 = ((2 * G + 1 : Nat) : Int) by omega]
                          show hm_V p l e (hm_rm 3 0 0) s m args below meth c D (hm_A w s.heap.size) 7 0 0 (MQ below (hm_Qv D w s.heap.size (fun w2 => ∃ (J : Nat → Bool) (P2 : Nat), w2 = mM K w q ia ta J T b md td ag ((P2 : Nat) : Int) ∧ (∀ i, i < 32768 → J i = I i) ∧ ∀ S, isC (tB T b) b (cdG S) → ∀ u, u < 4096 → mS J 8 u = S u)) args s 0 0 (hm_A w s.heap.size)) (mM K w q ia ta J T b md td ag ((P + z + 1 + j + 1 : Nat) : Int)) 73 [(6, .int (iI (((j + 1 + 1 : Nat) : Int)))), (5, .int (iI (((2 * G + 1 : Nat) : Int)))), (4, .int (iI (((z + 1 : Nat) : Int)))), (3, .int (iI ((kk : Int)))), (2, .int (iI ((v : Int) - 1))), (1, .int (iI ((NN : Int)))), (0, .ref (q))] []
                          rw [show P + z + 1 + j + 1 = P + z + 1 + (j + 1) by omega]
                          show hm_V p l e (hm_rm 3 0 0) s m args below meth c D (hm_A w s.heap.size) 7 0 0 (MQ below (hm_Qv D w s.heap.size (fun w2 => ∃ (J : Nat → Bool) (P2 : Nat), w2 = mM K w q ia ta J T b md td ag ((P2 : Nat) : Int) ∧ (∀ i, i < 32768 → J i = I i) ∧ ∀ S, isC (tB T b) b (cdG S) → ∀ u, u < 4096 → mS J 8 u = S u)) args s 0 0 (hm_A w s.heap.size)) (mM K w q ia ta J T b md td ag ((P + z + 1 + (j + 1) : Nat) : Int)) 73 [(6, .int (iI (((j + 1 + 1 : Nat) : Int)))), (5, .int (iI (((2 * G + 1 : Nat) : Int)))), (4, .int (iI (((z + 1 : Nat) : Int)))), (3, .int (iI ((kk : Int)))), (2, .int (iI ((v : Int) - 1))), (1, .int (iI ((NN : Int)))), (0, .ref (q))] []
                          refine hv_sub (lv2 := [(6, .int (iI (((j + 1 + 1 : Nat) : Int)))), (5, .int (iI (((2 * G + 1 : Nat) : Int)))), (4, .int (iI (((z + 1 : Nat) : Int)))), (3, .int (iI ((kk : Int)))), (2, .int (iI ((v : Int) - 1))), (1, .int (iI ((NN : Int)))), (0, .ref (q))]) [0, 1, 2, 3, 4, 5, 6] rfl ?_
                          exact ih (j + 1) (2 * G + 1) (by omega) (by omega) (by
                                show _ = 2 ^ (j + 1) + (2 * bv (tB T b) (P + z + 1) j + (if tB T b (P + z + 1 + j) then 1 else 0))
                                rw [if_pos c8, Nat.pow_succ]; omega)
                  refine hv_sub (lv2 := [(6, .int (iI (((0 + 1 : Nat) : Int)))), (5, .int (iI (((1 : Nat) : Int)))), (4, .int (iI (((z + 1 : Nat) : Int)))), (3, .int (iI ((kk : Int)))), (2, .int (iI ((v : Int) - 1))), (1, .int (iI ((NN : Int)))), (0, .ref (q))]) [0, 1, 2, 3, 4, 5, 6] rfl ?_
                  exact L3 (z + 1) 0 1 (by omega) (by omega) (by simp [bv])
              · refine hv_aload_n E dX7_takeGaps_37 rfl 4 rfl rfl ?_
                refine hv_callVI (na := 0) (As := []) (st := []) E (c7_take l D K (P0 := P + z) (by omega) hM hb0 hb1) dX7_takeGaps_38 hM.1 (show vwCl[6]? = some (RX7, TX7, 7) from rfl) gL_X7_105 gV_X7_take gI_X7_take gC_X7_take gZ_X7 (by decide +kernel) rfl ⟨Nat.le_of_ble_eq_true rfl, Nat.le_of_ble_eq_true rfl⟩ (Nat.le_of_ble_eq_true rfl) ⟨Nat.zero_le _, Nat.zero_le _⟩ rfl rfl (fun r w2 hp => ?_)
                rw [mM_mM hm.n1 hm.n2 hm.n3] at hp
                rw [hp.1, hp.2]
                show hm_V p l e (hm_rm 3 0 0) s m args below meth c D (hm_A w s.heap.size) 7 0 0 (MQ below (hm_Qv D w s.heap.size (fun w2 => ∃ (J : Nat → Bool) (P2 : Nat), w2 = mM K w q ia ta J T b md td ag ((P2 : Nat) : Int) ∧ (∀ i, i < 32768 → J i = I i) ∧ ∀ S, isC (tB T b) b (cdG S) → ∀ u, u < 4096 → mS J 8 u = S u)) args s 0 0 (hm_A w s.heap.size)) (mM K w q ia ta J T b md td ag ((P + z + 1 : Nat) : Int)) 41 [(4, .int (iI (((z + 1 : Nat) : Int)))), (3, .int (iI ((kk : Int)))), (2, .int (iI ((v : Int) - 1))), (1, .int (iI ((NN : Int)))), (0, .ref (q))] [.int (bI (tB T b (P + z)))]
                refine hv_if_neB E 50 dX7_takeGaps_41 (by decide) rfl (fun c4 => ?_) (fun c4 => ?_)
                · have hone : tB T b (P + z) = true ∨ z = 12 := Or.inl c4
                  clear hM
                  refine hv_iload E dX7_takeGaps_50 0 rfl rfl ?_
                  refine hv_bipush E dX7_takeGaps_52 (by decide +kernel) rfl ?_
                  refine hv_icmp_ne E 67 dX7_takeGaps_54 (by decide) ⟨by omega, by omega⟩ ⟨by omega, by omega⟩ rfl (fun d2 => ?_) (fun d2 => ?_)
                  · refine hv_iconst E dX7_takeGaps_67 rfl ?_
                    refine hv_istore (lv2 := [(5, .int (iI (1))), (4, .int (iI (((z + 1 : Nat) : Int)))), (3, .int (iI ((kk : Int)))), (2, .int (iI ((v : Int) - 1))), (1, .int (iI ((NN : Int)))), (0, .ref (q))]) E dX7_takeGaps_68 (by decide) rfl rfl ?_
                    refine hv_iconst E dX7_takeGaps_70 rfl ?_
                    refine hv_istore (lv2 := [(6, .int (iI (1))), (5, .int (iI (1))), (4, .int (iI (((z + 1 : Nat) : Int)))), (3, .int (iI ((kk : Int)))), (2, .int (iI ((v : Int) - 1))), (1, .int (iI ((NN : Int)))), (0, .ref (q))]) E dX7_takeGaps_71 (by decide) rfl rfl ?_
                    show hm_V p l e (hm_rm 3 0 0) s m args below meth c D (hm_A w s.heap.size) 7 0 0 (MQ below (hm_Qv D w s.heap.size (fun w2 => ∃ (J : Nat → Bool) (P2 : Nat), w2 = mM K w q ia ta J T b md td ag ((P2 : Nat) : Int) ∧ (∀ i, i < 32768 → J i = I i) ∧ ∀ S, isC (tB T b) b (cdG S) → ∀ u, u < 4096 → mS J 8 u = S u)) args s 0 0 (hm_A w s.heap.size)) (mM K w q ia ta J T b md td ag ((P + z + 1 : Nat) : Int)) 73 [(6, .int (iI (((0 + 1 : Nat) : Int)))), (5, .int (iI (((1 : Nat) : Int)))), (4, .int (iI (((z + 1 : Nat) : Int)))), (3, .int (iI ((kk : Int)))), (2, .int (iI ((v : Int) - 1))), (1, .int (iI ((NN : Int)))), (0, .ref (q))] []
                    refine hv_mem (show mM K w q ia ta J T b md td ag ((P + z + 1 : Nat) : Int) = mM K w q ia ta J T b md td ag ((P + z + 1 + 0 : Nat) : Int) from rfl) ?_
                    have L3 : ∀ (k : Nat) (j G : Nat), ((z : Int) - j < (k : Int)) → (j ≤ z) → (G = 2 ^ j + bv (tB T b) (P + z + 1) j) → hm_V p l e (hm_rm 3 0 0) s m args below meth c D (hm_A w s.heap.size) 7 0 0 (MQ below (hm_Qv D w s.heap.size (fun w2 => ∃ (J : Nat → Bool) (P2 : Nat), w2 = mM K w q ia ta J T b md td ag ((P2 : Nat) : Int) ∧ (∀ i, i < 32768 → J i = I i) ∧ ∀ S, isC (tB T b) b (cdG S) → ∀ u, u < 4096 → mS J 8 u = S u)) args s 0 0 (hm_A w s.heap.size)) (mM K w q ia ta J T b md td ag ((P + z + 1 + j : Nat) : Int)) 73 [(6, .int (iI (((j + 1 : Nat) : Int)))), (5, .int (iI ((G : Int)))), (4, .int (iI (((z + 1 : Nat) : Int)))), (3, .int (iI ((kk : Int)))), (2, .int (iI ((v : Int) - 1))), (1, .int (iI ((NN : Int)))), (0, .ref (q))] [] := by
                      intro k
                      induction k with
                      | zero =>
                        intro j G hk3 j1 hG
                        exact absurd hk3 (by omega)
                      | succ k ih =>
                        intro j G hk3 j1 hG
                        have hM : mAt K (mM K w q ia ta J T b md td ag ((P + z + 1 + j : Nat) : Int)) q ia ta J T b md td ag ((P + z + 1 + j : Nat) : Int) := mAt_mM hm.n1 hm.n2 hm.n3
                        have hbb := bv_lt (tB T b) (P + z + 1) j
                        have hpp : 2 ^ j ≤ 2 ^ 12 := Nat.pow_le_pow_right (by omega) (by omega)
                        have hGb : G < 8192 := by omega
                        have hpo := Nat.two_pow_pos j
                        refine hv_iload E dX7_takeGaps_73 0 rfl rfl ?_
                        refine hv_iload E dX7_takeGaps_75 2 rfl rfl ?_
                        refine hv_icmp_ge E 105 dX7_takeGaps_77 (by decide) ⟨by omega, by omega⟩ ⟨by omega, by omega⟩ rfl (fun c7 => ?_) (fun c7 => ?_)
                        · have hjz : j = z := by omega
                          have hG2 := hG
                          rw [hjz] at hG2
                          refine hv_iload_n E dX7_takeGaps_105 rfl 4 rfl rfl ?_
                          refine hv_iload E dX7_takeGaps_106 1 rfl rfl ?_
                          refine hv_iadd E dX7_takeGaps_108 rfl ?_
                          refine hv_istore_n (lv2 := [(2, .int (iI (((v : Int) - 1) + ((G : Int))))), (6, .int (iI (((j + 1 : Nat) : Int)))), (5, .int (iI ((G : Int)))), (4, .int (iI (((z + 1 : Nat) : Int)))), (3, .int (iI ((kk : Int)))), (1, .int (iI ((NN : Int)))), (0, .ref (q))]) E dX7_takeGaps_109 rfl (by decide) rfl rfl ?_
                          refine hv_aload_n E dX7_takeGaps_110 rfl 6 rfl rfl ?_
                          refine hv_iload_n E dX7_takeGaps_111 rfl 0 rfl rfl ?_
                          refine hv_callVV (na := 1) (As := [.int (iI (((v : Int) - 1) + ((G : Int))))]) (st := []) E (c7_mark l D K ((v : Int) - 1 + (G : Int)) ⟨by omega, by omega⟩ hM) dX7_takeGaps_112 hM.1 (show vwCl[6]? = some (RX7, TX7, 7) from rfl) gL_X7_122 gV_X7_mark gI_X7_mark gC_X7_mark gZ_X7 (by decide +kernel) rfl ⟨Nat.le_of_ble_eq_true rfl, Nat.le_of_ble_eq_true rfl⟩ (Nat.le_of_ble_eq_true rfl) ⟨Nat.zero_le _, Nat.zero_le _⟩ rfl rfl (fun w2 hp => ?_)
                          rw [mM_mM hm.n1 hm.n2 hm.n3] at hp
                          obtain ⟨J2, hJ2⟩ : ∃ zz, zz = mk J ((v : Int) - 1 + (G : Int)) := ⟨_, rfl⟩
                          rw [← hJ2] at hp
                          rw [hp]
                          show hm_V p l e (hm_rm 3 0 0) s m args below meth c D (hm_A w s.heap.size) 7 0 0 (MQ below (hm_Qv D w s.heap.size (fun w2 => ∃ (J : Nat → Bool) (P2 : Nat), w2 = mM K w q ia ta J T b md td ag ((P2 : Nat) : Int) ∧ (∀ i, i < 32768 → J i = I i) ∧ ∀ S, isC (tB T b) b (cdG S) → ∀ u, u < 4096 → mS J 8 u = S u)) args s 0 0 (hm_A w s.heap.size)) (mM K w q ia ta J2 T b md td ag ((P + z + 1 + j : Nat) : Int)) 115 [(2, .int (iI (((v : Int) - 1) + ((G : Int))))), (6, .int (iI (((j + 1 : Nat) : Int)))), (5, .int (iI ((G : Int)))), (4, .int (iI (((z + 1 : Nat) : Int)))), (3, .int (iI ((kk : Int)))), (1, .int (iI ((NN : Int)))), (0, .ref (q))] []
                          refine hv_iinc (lv2 := [(3, .int (iI (((kk : Int)) + 1))), (2, .int (iI (((v : Int) - 1) + ((G : Int))))), (6, .int (iI (((j + 1 : Nat) : Int)))), (5, .int (iI ((G : Int)))), (4, .int (iI (((z + 1 : Nat) : Int)))), (1, .int (iI ((NN : Int)))), (0, .ref (q))]) E dX7_takeGaps_115 4 rfl rfl (by decide) rfl rfl ?_
                          refine hv_goto E 11 dX7_takeGaps_118 (by decide) ?_
                          rw [show (v : Int) - 1 + (G : Int) = ((v + G : Nat) : Int) - 1 by omega]
                          show hm_V p l e (hm_rm 3 0 0) s m args below meth c D (hm_A w s.heap.size) 7 0 0 (MQ below (hm_Qv D w s.heap.size (fun w2 => ∃ (J : Nat → Bool) (P2 : Nat), w2 = mM K w q ia ta J T b md td ag ((P2 : Nat) : Int) ∧ (∀ i, i < 32768 → J i = I i) ∧ ∀ S, isC (tB T b) b (cdG S) → ∀ u, u < 4096 → mS J 8 u = S u)) args s 0 0 (hm_A w s.heap.size)) (mM K w q ia ta J2 T b md td ag ((P + z + 1 + j : Nat) : Int)) 11 [(3, .int (iI (((kk + 1 : Nat) : Int)))), (2, .int (iI (((v + G : Nat) : Int) - 1))), (6, .int (iI (((j + 1 : Nat) : Int)))), (5, .int (iI ((G : Int)))), (4, .int (iI (((z + 1 : Nat) : Int)))), (1, .int (iI ((NN : Int)))), (0, .ref (q))] []
                          refine hv_sub (lv2 := [(3, .int (iI (((kk + 1 : Nat) : Int)))), (2, .int (iI (((v + G : Nat) : Int) - 1))), (1, .int (iI ((NN : Int)))), (0, .ref (q))]) [0, 1, 5, 6] rfl ?_
                          exact ih0 (kk + 1) (v + G) (P + z + 1 + j) J2 (by omega) (by omega) (by omega) (by omega) (by omega) (fun i hi => by rw [hJ2, mk_lo hi]; exact hlo i hi) (fun S hS => (by
                            rw [hjz]
                            exact gI_m (hE S hS) hkn hS hz hone hG2 (fun hle u => (by
                              rw [hJ2, show (v : Int) - 1 + (G : Int) = ((v + G - 1 : Nat) : Int) by omega, mk_sp (by omega)]))))
                        · refine hv_iconst E dX7_takeGaps_80 rfl ?_
                          refine hv_iload E dX7_takeGaps_81 1 rfl rfl ?_
                          refine hv_imul E dX7_takeGaps_83 rfl ?_
                          refine hv_aload_n E dX7_takeGaps_84 rfl 6 rfl rfl ?_
                          refine hv_callVI (na := 0) (As := []) (st := [.int (iI (2 * ((G : Int))))]) E (c7_take l D K (P0 := P + z + 1 + j) (by omega) hM hb0 hb1) dX7_takeGaps_85 hM.1 (show vwCl[6]? = some (RX7, TX7, 7) from rfl) gL_X7_105 gV_X7_take gI_X7_take gC_X7_take gZ_X7 (by decide +kernel) rfl ⟨Nat.le_of_ble_eq_true rfl, Nat.le_of_ble_eq_true rfl⟩ (Nat.le_of_ble_eq_true rfl) ⟨Nat.zero_le _, Nat.zero_le _⟩ rfl rfl (fun r w2 hp => ?_)
                          rw [mM_mM hm.n1 hm.n2 hm.n3] at hp
                          rw [hp.1, hp.2]
                          show hm_V p l e (hm_rm 3 0 0) s m args below meth c D (hm_A w s.heap.size) 7 0 0 (MQ below (hm_Qv D w s.heap.size (fun w2 => ∃ (J : Nat → Bool) (P2 : Nat), w2 = mM K w q ia ta J T b md td ag ((P2 : Nat) : Int) ∧ (∀ i, i < 32768 → J i = I i) ∧ ∀ S, isC (tB T b) b (cdG S) → ∀ u, u < 4096 → mS J 8 u = S u)) args s 0 0 (hm_A w s.heap.size)) (mM K w q ia ta J T b md td ag ((P + z + 1 + j + 1 : Nat) : Int)) 88 [(6, .int (iI (((j + 1 : Nat) : Int)))), (5, .int (iI ((G : Int)))), (4, .int (iI (((z + 1 : Nat) : Int)))), (3, .int (iI ((kk : Int)))), (2, .int (iI ((v : Int) - 1))), (1, .int (iI ((NN : Int)))), (0, .ref (q))] [.int (bI (tB T b (P + z + 1 + j))), .int (iI (2 * ((G : Int))))]
                          refine hv_if_eqB E 95 dX7_takeGaps_88 (by decide) rfl (fun c8 => ?_) (fun c8 => ?_)
                          · refine hv_iconst E dX7_takeGaps_95 rfl ?_
                            refine hv_iadd E dX7_takeGaps_96 rfl ?_
                            refine hv_istore (lv2 := [(5, .int (iI ((2 * ((G : Int))) + 0))), (6, .int (iI (((j + 1 : Nat) : Int)))), (4, .int (iI (((z + 1 : Nat) : Int)))), (3, .int (iI ((kk : Int)))), (2, .int (iI ((v : Int) - 1))), (1, .int (iI ((NN : Int)))), (0, .ref (q))]) E dX7_takeGaps_97 (by decide) rfl rfl ?_
                            refine hv_iinc (lv2 := [(6, .int (iI ((((j + 1 : Nat) : Int)) + 1))), (5, .int (iI ((2 * ((G : Int))) + 0))), (4, .int (iI (((z + 1 : Nat) : Int)))), (3, .int (iI ((kk : Int)))), (2, .int (iI ((v : Int) - 1))), (1, .int (iI ((NN : Int)))), (0, .ref (q))]) E dX7_takeGaps_99 1 rfl rfl (by decide) rfl rfl ?_
                            refine hv_goto E 73 dX7_takeGaps_102 (by decide) ?_
                            rw [show 2 * (G : Int) + 0 = ((2 * G + 0 : Nat) : Int) by omega]
                            show hm_V p l e (hm_rm 3 0 0) s m args below meth c D (hm_A w s.heap.size) 7 0 0 (MQ below (hm_Qv D w s.heap.size (fun w2 => ∃ (J : Nat → Bool) (P2 : Nat), w2 = mM K w q ia ta J T b md td ag ((P2 : Nat) : Int) ∧ (∀ i, i < 32768 → J i = I i) ∧ ∀ S, isC (tB T b) b (cdG S) → ∀ u, u < 4096 → mS J 8 u = S u)) args s 0 0 (hm_A w s.heap.size)) (mM K w q ia ta J T b md td ag ((P + z + 1 + j + 1 : Nat) : Int)) 73 [(6, .int (iI (((j + 1 + 1 : Nat) : Int)))), (5, .int (iI (((2 * G + 0 : Nat) : Int)))), (4, .int (iI (((z + 1 : Nat) : Int)))), (3, .int (iI ((kk : Int)))), (2, .int (iI ((v : Int) - 1))), (1, .int (iI ((NN : Int)))), (0, .ref (q))] []
                            rw [show P + z + 1 + j + 1 = P + z + 1 + (j + 1) by omega]
                            show hm_V p l e (hm_rm 3 0 0) s m args below meth c D (hm_A w s.heap.size) 7 0 0 (MQ below (hm_Qv D w s.heap.size (fun w2 => ∃ (J : Nat → Bool) (P2 : Nat), w2 = mM K w q ia ta J T b md td ag ((P2 : Nat) : Int) ∧ (∀ i, i < 32768 → J i = I i) ∧ ∀ S, isC (tB T b) b (cdG S) → ∀ u, u < 4096 → mS J 8 u = S u)) args s 0 0 (hm_A w s.heap.size)) (mM K w q ia ta J T b md td ag ((P + z + 1 + (j + 1) : Nat) : Int)) 73 [(6, .int (iI (((j + 1 + 1 : Nat) : Int)))), (5, .int (iI (((2 * G + 0 : Nat) : Int)))), (4, .int (iI (((z + 1 : Nat) : Int)))), (3, .int (iI ((kk : Int)))), (2, .int (iI ((v : Int) - 1))), (1, .int (iI ((NN : Int)))), (0, .ref (q))] []
                            refine hv_sub (lv2 := [(6, .int (iI (((j + 1 + 1 : Nat) : Int)))), (5, .int (iI (((2 * G + 0 : Nat) : Int)))), (4, .int (iI (((z + 1 : Nat) : Int)))), (3, .int (iI ((kk : Int)))), (2, .int (iI ((v : Int) - 1))), (1, .int (iI ((NN : Int)))), (0, .ref (q))]) [0, 1, 2, 3, 4, 5, 6] rfl ?_
                            exact ih (j + 1) (2 * G + 0) (by omega) (by omega) (by
                                  show _ = 2 ^ (j + 1) + (2 * bv (tB T b) (P + z + 1) j + (if tB T b (P + z + 1 + j) then 1 else 0))
                                  rw [if_neg (by rw [c8]; exact Bool.false_ne_true), Nat.pow_succ]; omega)
                          · refine hv_iconst E dX7_takeGaps_91 rfl ?_
                            refine hv_goto E 96 dX7_takeGaps_92 (by decide) ?_
                            refine hv_iadd E dX7_takeGaps_96 rfl ?_
                            refine hv_istore (lv2 := [(5, .int (iI ((2 * ((G : Int))) + 1))), (6, .int (iI (((j + 1 : Nat) : Int)))), (4, .int (iI (((z + 1 : Nat) : Int)))), (3, .int (iI ((kk : Int)))), (2, .int (iI ((v : Int) - 1))), (1, .int (iI ((NN : Int)))), (0, .ref (q))]) E dX7_takeGaps_97 (by decide) rfl rfl ?_
                            refine hv_iinc (lv2 := [(6, .int (iI ((((j + 1 : Nat) : Int)) + 1))), (5, .int (iI ((2 * ((G : Int))) + 1))), (4, .int (iI (((z + 1 : Nat) : Int)))), (3, .int (iI ((kk : Int)))), (2, .int (iI ((v : Int) - 1))), (1, .int (iI ((NN : Int)))), (0, .ref (q))]) E dX7_takeGaps_99 1 rfl rfl (by decide) rfl rfl ?_
                            refine hv_goto E 73 dX7_takeGaps_102 (by decide) ?_
                            rw [show 2 * (G : Int) + 1 = ((2 * G + 1 : Nat) : Int) by omega]
                            show hm_V p l e (hm_rm 3 0 0) s m args below meth c D (hm_A w s.heap.size) 7 0 0 (MQ below (hm_Qv D w s.heap.size (fun w2 => ∃ (J : Nat → Bool) (P2 : Nat), w2 = mM K w q ia ta J T b md td ag ((P2 : Nat) : Int) ∧ (∀ i, i < 32768 → J i = I i) ∧ ∀ S, isC (tB T b) b (cdG S) → ∀ u, u < 4096 → mS J 8 u = S u)) args s 0 0 (hm_A w s.heap.size)) (mM K w q ia ta J T b md td ag ((P + z + 1 + j + 1 : Nat) : Int)) 73 [(6, .int (iI (((j + 1 + 1 : Nat) : Int)))), (5, .int (iI (((2 * G + 1 : Nat) : Int)))), (4, .int (iI (((z + 1 : Nat) : Int)))), (3, .int (iI ((kk : Int)))), (2, .int (iI ((v : Int) - 1))), (1, .int (iI ((NN : Int)))), (0, .ref (q))] []
                            rw [show P + z + 1 + j + 1 = P + z + 1 + (j + 1) by omega]
                            show hm_V p l e (hm_rm 3 0 0) s m args below meth c D (hm_A w s.heap.size) 7 0 0 (MQ below (hm_Qv D w s.heap.size (fun w2 => ∃ (J : Nat → Bool) (P2 : Nat), w2 = mM K w q ia ta J T b md td ag ((P2 : Nat) : Int) ∧ (∀ i, i < 32768 → J i = I i) ∧ ∀ S, isC (tB T b) b (cdG S) → ∀ u, u < 4096 → mS J 8 u = S u)) args s 0 0 (hm_A w s.heap.size)) (mM K w q ia ta J T b md td ag ((P + z + 1 + (j + 1) : Nat) : Int)) 73 [(6, .int (iI (((j + 1 + 1 : Nat) : Int)))), (5, .int (iI (((2 * G + 1 : Nat) : Int)))), (4, .int (iI (((z + 1 : Nat) : Int)))), (3, .int (iI ((kk : Int)))), (2, .int (iI ((v : Int) - 1))), (1, .int (iI ((NN : Int)))), (0, .ref (q))] []
                            refine hv_sub (lv2 := [(6, .int (iI (((j + 1 + 1 : Nat) : Int)))), (5, .int (iI (((2 * G + 1 : Nat) : Int)))), (4, .int (iI (((z + 1 : Nat) : Int)))), (3, .int (iI ((kk : Int)))), (2, .int (iI ((v : Int) - 1))), (1, .int (iI ((NN : Int)))), (0, .ref (q))]) [0, 1, 2, 3, 4, 5, 6] rfl ?_
                            exact ih (j + 1) (2 * G + 1) (by omega) (by omega) (by
                                  show _ = 2 ^ (j + 1) + (2 * bv (tB T b) (P + z + 1) j + (if tB T b (P + z + 1 + j) then 1 else 0))
                                  rw [if_pos c8, Nat.pow_succ]; omega)
                    refine hv_sub (lv2 := [(6, .int (iI (((0 + 1 : Nat) : Int)))), (5, .int (iI (((1 : Nat) : Int)))), (4, .int (iI (((z + 1 : Nat) : Int)))), (3, .int (iI ((kk : Int)))), (2, .int (iI ((v : Int) - 1))), (1, .int (iI ((NN : Int)))), (0, .ref (q))]) [0, 1, 2, 3, 4, 5, 6] rfl ?_
                    exact L3 (z + 1) 0 1 (by omega) (by omega) (by simp [bv])
                  · exact absurd d2 (by omega)
                · refine hv_iinc (lv2 := [(4, .int (iI ((((z + 1 : Nat) : Int)) + 1))), (3, .int (iI ((kk : Int)))), (2, .int (iI ((v : Int) - 1))), (1, .int (iI ((NN : Int)))), (0, .ref (q))]) E dX7_takeGaps_44 0 rfl rfl (by decide) rfl rfl ?_
                  refine hv_goto E 30 dX7_takeGaps_47 (by decide) ?_
                  show hm_V p l e (hm_rm 3 0 0) s m args below meth c D (hm_A w s.heap.size) 7 0 0 (MQ below (hm_Qv D w s.heap.size (fun w2 => ∃ (J : Nat → Bool) (P2 : Nat), w2 = mM K w q ia ta J T b md td ag ((P2 : Nat) : Int) ∧ (∀ i, i < 32768 → J i = I i) ∧ ∀ S, isC (tB T b) b (cdG S) → ∀ u, u < 4096 → mS J 8 u = S u)) args s 0 0 (hm_A w s.heap.size)) (mM K w q ia ta J T b md td ag ((P + z + 1 : Nat) : Int)) 30 [(4, .int (iI (((z + 1 + 1 : Nat) : Int)))), (3, .int (iI ((kk : Int)))), (2, .int (iI ((v : Int) - 1))), (1, .int (iI ((NN : Int)))), (0, .ref (q))] []
                  rw [show P + z + 1 = P + (z + 1) by omega]
                  show hm_V p l e (hm_rm 3 0 0) s m args below meth c D (hm_A w s.heap.size) 7 0 0 (MQ below (hm_Qv D w s.heap.size (fun w2 => ∃ (J : Nat → Bool) (P2 : Nat), w2 = mM K w q ia ta J T b md td ag ((P2 : Nat) : Int) ∧ (∀ i, i < 32768 → J i = I i) ∧ ∀ S, isC (tB T b) b (cdG S) → ∀ u, u < 4096 → mS J 8 u = S u)) args s 0 0 (hm_A w s.heap.size)) (mM K w q ia ta J T b md td ag ((P + (z + 1) : Nat) : Int)) 30 [(4, .int (iI (((z + 1 + 1 : Nat) : Int)))), (3, .int (iI ((kk : Int)))), (2, .int (iI ((v : Int) - 1))), (1, .int (iI ((NN : Int)))), (0, .ref (q))] []
                  refine hv_sub (lv2 := [(4, .int (iI (((z + 1 + 1 : Nat) : Int)))), (3, .int (iI ((kk : Int)))), (2, .int (iI ((v : Int) - 1))), (1, .int (iI ((NN : Int)))), (0, .ref (q))]) [0, 1, 2, 3, 4] rfl ?_
                  exact ih (z + 1) (by omega) (by omega) (fun i hi => by
                        rcases (show i < z ∨ i = z by omega) with q | q
                        · exact hz i q
                        · rw [q]; exact c4)
          refine hv_sub (lv2 := [(4, .int (iI (((0 + 1 : Nat) : Int)))), (3, .int (iI ((kk : Int)))), (2, .int (iI ((v : Int) - 1))), (1, .int (iI ((NN : Int)))), (0, .ref (q))]) [0, 1, 2, 3, 4] rfl ?_
          exact L2 13 0 (by omega) (by omega) (fun i hi => absurd hi (by omega))
  refine hv_sub (lv2 := [(3, .int (iI (((0 : Nat) : Int)))), (2, .int (iI (((0 : Nat) : Int) - 1))), (1, .int (iI ((NN : Int)))), (0, .ref (q))]) [0, 1, 2, 3] rfl ?_
  exact LP (NN + 1) 0 0 13 I (by omega) (by omega) (by omega) (by omega) (by omega) (fun _ _ => rfl) (fun S _ => gI_0 hU0)
