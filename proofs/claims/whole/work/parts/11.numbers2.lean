theorem ct_both (f g : Nat → Int32) (j : Nat) : ct (fun v => mem f v && mem g v) (32 * j) 32 = ct (bt (f j &&& g j)) 0 32 := ct_congr (fun i hi => by
  show (mem f (32 * j + i) && mem g (32 * j + i)) = _
  rw [mem_at f j i hi, mem_at g j i hi, Nat.zero_add, b_and])
theorem ct_ne0 {x : Int32} (h : ¬ x = 0) : 0 < ct (bt x) 0 32 := by
  rcases Nat.eq_zero_or_pos (ct (bt x) 0 32) with q | q
  · exfalso
    apply h
    apply b_ext
    intro i hi
    rw [b_0]
    cases e : bt x i with
    | false => rfl
    | true => have := ct_step (S := bt x) (a := 0) hi (by rw [Nat.zero_add]; exact e); omega
  · exact q
set_option maxHeartbeats 4000000 in
set_option maxRecDepth 100000 in
theorem c2_amountShared (l : Launch) (D : va_G) (K : Nat → ClassId) {w : hm_M} {q wd : Nat} {f : Nat → Int32} {q2 wd2 : Nat} {g : Nat → Int32} (hn : nAt K w q wd f) (hn2 : nAt K w q2 wd2 g)  : hm_Ci l D K yX2_amountShared cX2_amountShared 4 .int 1 [.ref (q), .ref (q2)] w 0 0 (fun r w2 => r = iI (ct (fun v => mem f v && mem g v) 0 4096 : Nat) ∧ w2 = w) := by
  refine hm_enterI (by decide) (Nat.le_of_ble_eq_true rfl) ?_
  intro p e s m args below meth c E hr hnm
  show hm_V p l e (hm_rm 1 0 0) s m args below meth c D (hm_A w s.heap.size) 4 0 0 (MQ below (hm_Qi D w s.heap.size (fun r w2 => r = iI (ct (fun v => mem f v && mem g v) 0 4096 : Nat) ∧ w2 = w)) args s 0 0 (hm_A w s.heap.size)) w 0 [(0, .ref (q)), (1, .ref (q2))] []
  refine hv_iconst E dX2_amountShared_0 rfl ?_
  refine hv_istore_n (lv2 := [(2, .int (iI (0))), (0, .ref (q)), (1, .ref (q2))]) E dX2_amountShared_1 rfl (by decide) rfl rfl ?_
  refine hv_iconst E dX2_amountShared_2 rfl ?_
  refine hv_istore_n (lv2 := [(3, .int (iI (0))), (2, .int (iI (0))), (0, .ref (q)), (1, .ref (q2))]) E dX2_amountShared_3 rfl (by decide) rfl rfl ?_
  have LP : ∀ (k : Nat) (j : Int), (128 - j < (k : Int)) → (0 ≤ j) → (j ≤ 128) → hm_V p l e (hm_rm 1 0 0) s m args below meth c D (hm_A w s.heap.size) 4 0 0 (MQ below (hm_Qi D w s.heap.size (fun r w2 => r = iI (ct (fun v => mem f v && mem g v) 0 4096 : Nat) ∧ w2 = w)) args s 0 0 (hm_A w s.heap.size)) w 4 [(3, .int (iI (j))), (2, .int (iI ((ct (fun v => mem f v && mem g v) 0 (32 * j.toNat) : Nat)))), (0, .ref (q)), (1, .ref (q2))] [] := by
    intro k
    induction k with
    | zero =>
      intro j hk g0 g1
      exact absurd hk (by omega)
    | succ k ih =>
      intro j hk g0 g1
      refine hv_iload_n E dX2_amountShared_4 rfl 0 rfl rfl ?_
      refine hv_sipush E dX2_amountShared_5 (by decide +kernel) rfl ?_
      refine hv_icmp_ge E 36 dX2_amountShared_8 (by decide) ⟨by omega, by omega⟩ ⟨by omega, by omega⟩ rfl (fun h3 => ?_) (fun h3 => ?_)
      · refine hv_iload_n E dX2_amountShared_36 rfl 1 rfl rfl ?_
        exact hv_iret E dX2_amountShared_37 hr ⟨by rw [show 32 * j.toNat = 4096 by omega], rfl⟩
      · refine hv_iload_n E dX2_amountShared_11 rfl 1 rfl rfl ?_
        refine hv_aload_n E dX2_amountShared_12 rfl 2 rfl rfl ?_
        refine hv_get (kf := 0) E dX2_amountShared_13 (show vwCl[1]? = some (RX2, TX2, 1) from rfl) (by decide) gW_X2 gF_X2_9 rfl hn.1 rfl rfl ?_
        refine hv_iload_n E dX2_amountShared_16 rfl 0 rfl rfl ?_
        refine hv_iald E dX2_amountShared_17 hn.2 (by omega) (by omega) (by decide) rfl ?_
        refine hv_aload_n E dX2_amountShared_18 rfl 3 rfl rfl ?_
        refine hv_get (kf := 0) E dX2_amountShared_19 (show vwCl[1]? = some (RX2, TX2, 1) from rfl) (by decide) gW_X2 gF_X2_9 rfl hn2.1 rfl rfl ?_
        refine hv_iload_n E dX2_amountShared_22 rfl 0 rfl rfl ?_
        refine hv_iald E dX2_amountShared_23 hn2.2 (by omega) (by omega) (by decide) rfl ?_
        refine hv_iandR E dX2_amountShared_24 rfl ?_
        refine hv_callSI (na := 1) (As := [.int ((f j.toNat) &&& (g j.toNat))]) (st := [.int (iI ((ct (fun v => mem f v && mem g v) 0 (32 * j.toNat) : Nat)))]) E (cJ_bitCount l D K ((f j.toNat) &&& (g j.toNat))) dX2_amountShared_25 gL_X2_26 gS_J6_bitCount_0f7a4 gC_J6_bitCount_0f7a4 gZ_J6 (by decide +kernel) rfl ⟨Nat.le_of_ble_eq_true rfl, Nat.le_of_ble_eq_true rfl⟩ (Nat.le_of_ble_eq_true rfl) ⟨Nat.zero_le _, Nat.zero_le _⟩ rfl rfl (fun r w2 hp => ?_)
        rw [hp.1, hp.2]
        show hm_V p l e (hm_rm 1 0 0) s m args below meth c D (hm_A w s.heap.size) 4 0 0 (MQ below (hm_Qi D w s.heap.size (fun r w2 => r = iI (ct (fun v => mem f v && mem g v) 0 4096 : Nat) ∧ w2 = w)) args s 0 0 (hm_A w s.heap.size)) w 28 [(3, .int (iI (j))), (2, .int (iI ((ct (fun v => mem f v && mem g v) 0 (32 * j.toNat) : Nat)))), (0, .ref (q)), (1, .ref (q2))] [.int (iI ((ct (bt ((f j.toNat) &&& (g j.toNat))) 0 32 : Nat))), .int (iI ((ct (fun v => mem f v && mem g v) 0 (32 * j.toNat) : Nat)))]
        refine hv_iadd E dX2_amountShared_28 rfl ?_
        refine hv_topi (show iI (((ct (fun v => mem f v && mem g v) 0 (32 * j.toNat) : Nat)) + ((ct (bt ((f j.toNat) &&& (g j.toNat))) 0 32 : Nat))) = iI ((ct (fun v => mem f v && mem g v) 0 (32 * (j + 1).toNat) : Nat)) from (by
              rw [show 32 * (j + 1).toNat = 32 * j.toNat + 32 by omega, ct_add, Nat.zero_add, ct_both]
              congr 1)) ?_
        refine hv_istore_n (lv2 := [(2, .int (iI ((ct (fun v => mem f v && mem g v) 0 (32 * (j + 1).toNat) : Nat)))), (3, .int (iI (j))), (0, .ref (q)), (1, .ref (q2))]) E dX2_amountShared_29 rfl (by decide) rfl rfl ?_
        refine hv_iinc (lv2 := [(3, .int (iI (j + 1))), (2, .int (iI ((ct (fun v => mem f v && mem g v) 0 (32 * (j + 1).toNat) : Nat)))), (0, .ref (q)), (1, .ref (q2))]) E dX2_amountShared_30 1 rfl rfl (by decide) rfl rfl ?_
        refine hv_goto E 4 dX2_amountShared_33 (by decide) ?_
        refine hv_sub (lv2 := [(3, .int (iI (j + 1))), (2, .int (iI ((ct (fun v => mem f v && mem g v) 0 (32 * (j + 1).toNat) : Nat)))), (0, .ref (q)), (1, .ref (q2))]) [0, 1, 2, 3] rfl ?_
        exact ih (j + 1) (by omega) (by omega) (by omega)
  refine hv_sub (lv2 := [(3, .int (iI (0))), (2, .int (iI (0))), (0, .ref (q)), (1, .ref (q2))]) [0, 1, 2, 3] rfl ?_
  exact LP 129 0 (by omega) (by omega) (by omega)
set_option maxHeartbeats 4000000 in
set_option maxRecDepth 100000 in
theorem c2_nthOne (l : Launch) (D : va_G) (K : Nat → ClassId) {w : hm_M} (x : Int32) (n : Int) (h0 : 0 ≤ n) (h1 : n < (ct (bt x) 0 32 : Nat))  : hm_Ci l D K yX2_nthOne cX2_nthOne 4 .int 1 [.int (x), .int (iI (n))] w 0 0 (fun r w2 => (∃ p : Nat, p < 32 ∧ bt x p = true ∧ (ct (bt x) 0 p : Int) = n ∧ r = iI (p : Int)) ∧ w2 = w) := by
  refine hm_enterI (by decide) (Nat.le_of_ble_eq_true rfl) ?_
  intro p e s m args below meth c E hr hnm
  show hm_V p l e (hm_rm 1 0 0) s m args below meth c D (hm_A w s.heap.size) 4 0 0 (MQ below (hm_Qi D w s.heap.size (fun r w2 => (∃ p : Nat, p < 32 ∧ bt x p = true ∧ (ct (bt x) 0 p : Int) = n ∧ r = iI (p : Int)) ∧ w2 = w)) args s 0 0 (hm_A w s.heap.size)) w 0 [(0, .int (x)), (1, .int (iI (n)))] []
  have hle := ct_le (bt x) 0 32
  refine hv_iload_n E dX2_nthOne_0 rfl 0 rfl rfl ?_
  refine hv_istore_n (lv2 := [(2, .int (x)), (0, .int (x)), (1, .int (iI (n)))]) E dX2_nthOne_1 rfl (by decide) rfl rfl ?_
  refine hv_iconst E dX2_nthOne_2 rfl ?_
  refine hv_istore_n (lv2 := [(3, .int (iI (0))), (2, .int (x)), (0, .int (x)), (1, .int (iI (n)))]) E dX2_nthOne_3 rfl (by decide) rfl rfl ?_
  have LP : ∀ (k : Nat) (j : Int) (y : Int32), (n - j < (k : Int)) → (0 ≤ j) → (j ≤ n) → (∀ i, bt y i = (bt x i && decide (j.toNat ≤ ct (bt x) 0 i))) → hm_V p l e (hm_rm 1 0 0) s m args below meth c D (hm_A w s.heap.size) 4 0 0 (MQ below (hm_Qi D w s.heap.size (fun r w2 => (∃ p : Nat, p < 32 ∧ bt x p = true ∧ (ct (bt x) 0 p : Int) = n ∧ r = iI (p : Int)) ∧ w2 = w)) args s 0 0 (hm_A w s.heap.size)) w 4 [(3, .int (iI (j))), (2, .int (y)), (0, .int (x)), (1, .int (iI (n)))] [] := by
    intro k
    induction k with
    | zero =>
      intro j y hk g0 g1 hy
      exact absurd hk (by omega)
    | succ k ih =>
      intro j y hk g0 g1 hy
      obtain ⟨pp, hp1, hp2, hp3⟩ := ct_lt_of (S := bt x) (n := 32) (i := j.toNat) (by omega)
      have hl1 : bt y pp = true := by rw [hy, hp2, decide_eq_true (by omega)]; rfl
      have hl2 : ∀ i, i < pp → bt y i = false := fun i hi => by
        rw [hy]
        cases e2 : bt x i with
        | false => rfl
        | true =>
          have := ct_step (S := bt x) (a := 0) hi (by rw [Nat.zero_add]; exact e2)
          rw [decide_eq_false (by omega)]; rfl
      refine hv_iload_n E dX2_nthOne_4 rfl 0 rfl rfl ?_
      refine hv_iload_n E dX2_nthOne_5 rfl 3 rfl rfl ?_
      refine hv_icmp_ge E 21 dX2_nthOne_6 (by decide) ⟨by omega, by omega⟩ ⟨by omega, by omega⟩ rfl (fun h3 => ?_) (fun h3 => ?_)
      · refine hv_iload_n E dX2_nthOne_21 rfl 1 rfl rfl ?_
        refine hv_iload_n E dX2_nthOne_22 rfl 1 rfl rfl ?_
        refine hv_inegR E dX2_nthOne_23 rfl ?_
        refine hv_iandR E dX2_nthOne_24 rfl ?_
        refine hv_iconst E dX2_nthOne_25 rfl ?_
        refine hv_isubR E dX2_nthOne_26 rfl ?_
        refine hv_callSI (na := 1) (As := [.int ((y &&& (-y)) - (iI (1)))]) (st := []) E (cJ_bitCount l D K ((y &&& (-y)) - (iI (1)))) dX2_nthOne_27 gL_X2_26 gS_J6_bitCount_0f7a4 gC_J6_bitCount_0f7a4 gZ_J6 (by decide +kernel) rfl ⟨Nat.le_of_ble_eq_true rfl, Nat.le_of_ble_eq_true rfl⟩ (Nat.le_of_ble_eq_true rfl) ⟨Nat.zero_le _, Nat.zero_le _⟩ rfl rfl (fun r w2 hp => ?_)
        rw [hp.1, hp.2]
        show hm_V p l e (hm_rm 1 0 0) s m args below meth c D (hm_A w s.heap.size) 4 0 0 (MQ below (hm_Qi D w s.heap.size (fun r w2 => (∃ p : Nat, p < 32 ∧ bt x p = true ∧ (ct (bt x) 0 p : Int) = n ∧ r = iI (p : Int)) ∧ w2 = w)) args s 0 0 (hm_A w s.heap.size)) w 30 [(3, .int (iI (j))), (2, .int (y)), (0, .int (x)), (1, .int (iI (n)))] [.int (iI ((ct (bt ((y &&& (-y)) - (iI (1)))) 0 32 : Nat)))]
        exact hv_iret E dX2_nthOne_30 hr ⟨⟨pp, hp1, hp2, by omega, by rw [low_neg hp1 hl1 hl2, low_ct hp1]⟩, rfl⟩
      · refine hv_iload_n E dX2_nthOne_9 rfl 1 rfl rfl ?_
        refine hv_iload_n E dX2_nthOne_10 rfl 1 rfl rfl ?_
        refine hv_iconst E dX2_nthOne_11 rfl ?_
        refine hv_isubR E dX2_nthOne_12 rfl ?_
        refine hv_iandR E dX2_nthOne_13 rfl ?_
        refine hv_istore_n (lv2 := [(2, .int (y &&& (y - (iI (1))))), (3, .int (iI (j))), (0, .int (x)), (1, .int (iI (n)))]) E dX2_nthOne_14 rfl (by decide) rfl rfl ?_
        refine hv_iinc (lv2 := [(3, .int (iI (j + 1))), (2, .int (y &&& (y - (iI (1))))), (0, .int (x)), (1, .int (iI (n)))]) E dX2_nthOne_15 1 rfl rfl (by decide) rfl rfl ?_
        refine hv_goto E 4 dX2_nthOne_18 (by decide) ?_
        refine hv_sub (lv2 := [(3, .int (iI (j + 1))), (2, .int (y &&& (y - (iI (1))))), (0, .int (x)), (1, .int (iI (n)))]) [0, 1, 2, 3] rfl ?_
        exact ih (j + 1) (y &&& (y - iI 1)) (by omega) (by omega) (by omega) (fun i => by
            rw [low_and hl1 hl2, hy]
            cases e2 : bt x i with
            | false => rfl
            | true =>
              rcases (show i < pp ∨ i = pp ∨ pp < i by omega) with z | z | z
              · have := ct_step (S := bt x) (a := 0) z (by rw [Nat.zero_add]; exact e2)
                rw [decide_eq_false (show ¬ j.toNat ≤ ct (bt x) 0 i by omega), decide_eq_false (show ¬ (j + 1).toNat ≤ ct (bt x) 0 i by omega)]; rfl
              · subst z
                rw [decide_eq_false (show ¬ (j + 1).toNat ≤ ct (bt x) 0 i by omega)]; simp
              · have := ct_step (S := bt x) (a := 0) z (by rw [Nat.zero_add]; exact hp2)
                rw [decide_eq_true (show j.toNat ≤ ct (bt x) 0 i by omega), decide_eq_true (show (j + 1).toNat ≤ ct (bt x) 0 i by omega), decide_eq_true (show i ≠ pp by omega)]; rfl)
  refine hv_sub (lv2 := [(3, .int (iI (0))), (2, .int (x)), (0, .int (x)), (1, .int (iI (n)))]) [0, 1, 2, 3] rfl ?_
  exact LP (n + 1).toNat 0 x (by omega) (by omega) (by omega) (fun i => by simp)
set_option maxHeartbeats 4000000 in
set_option maxRecDepth 100000 in
theorem c2_nth (l : Launch) (D : va_G) (K : Nat → ClassId) {w : hm_M} {q wd : Nat} {f : Nat → Int32} (n : Int) (hb : iB n) (hn : nAt K w q wd f)  : hm_Ci l D K yX2_nth cX2_nth 5 .int 2 [.ref (q), .int (iI (n))] w 0 0 (fun r w2 => (∃ z : Int, isNth (mem f) 4096 n z ∧ r = iI z) ∧ w2 = w) := by
  refine hm_enterI (by decide) (Nat.le_of_ble_eq_true rfl) ?_
  intro p e s m args below meth c E hr hnm
  show hm_V p l e (hm_rm 2 0 0) s m args below meth c D (hm_A w s.heap.size) 5 0 0 (MQ below (hm_Qi D w s.heap.size (fun r w2 => (∃ z : Int, isNth (mem f) 4096 n z ∧ r = iI z) ∧ w2 = w)) args s 0 0 (hm_A w s.heap.size)) w 0 [(0, .ref (q)), (1, .int (iI (n)))] []
  have hb1 := hb.1
  have hb2 := hb.2
  refine hv_iload_n E dX2_nth_0 rfl 1 rfl rfl ?_
  refine hv_if_ge E 6 dX2_nth_1 (by decide) ⟨by omega, by omega⟩ rfl (fun h1 => ?_) (fun h1 => ?_)
  · refine hv_iconst E dX2_nth_6 rfl ?_
    refine hv_istore_n (lv2 := [(2, .int (iI (0))), (0, .ref (q)), (1, .int (iI (n)))]) E dX2_nth_7 rfl (by decide) rfl rfl ?_
    refine hv_iconst E dX2_nth_8 rfl ?_
    refine hv_istore_n (lv2 := [(3, .int (iI (0))), (2, .int (iI (0))), (0, .ref (q)), (1, .int (iI (n)))]) E dX2_nth_9 rfl (by decide) rfl rfl ?_
    have LP : ∀ (k : Nat) (j : Int), (128 - j < (k : Int)) → (0 ≤ j) → (j ≤ 128) → ((ct (mem f) 0 (32 * j.toNat) : Int) ≤ n) → hm_V p l e (hm_rm 2 0 0) s m args below meth c D (hm_A w s.heap.size) 5 0 0 (MQ below (hm_Qi D w s.heap.size (fun r w2 => (∃ z : Int, isNth (mem f) 4096 n z ∧ r = iI z) ∧ w2 = w)) args s 0 0 (hm_A w s.heap.size)) w 10 [(3, .int (iI (j))), (2, .int (iI ((ct (mem f) 0 (32 * j.toNat) : Nat)))), (0, .ref (q)), (1, .int (iI (n)))] [] := by
      intro k
      induction k with
      | zero =>
        intro j hk g0 g1 g2
        exact absurd hk (by omega)
      | succ k ih =>
        intro j hk g0 g1 g2
        have hc := ct_le (mem f) 0 (32 * j.toNat)
        refine hv_iload_n E dX2_nth_10 rfl 0 rfl rfl ?_
        refine hv_sipush E dX2_nth_11 (by decide +kernel) rfl ?_
        refine hv_icmp_ge E 65 dX2_nth_14 (by decide) ⟨by omega, by omega⟩ ⟨by omega, by omega⟩ rfl (fun h3 => ?_) (fun h3 => ?_)
        · refine hv_iconst E dX2_nth_65 rfl ?_
          exact hv_iret E dX2_nth_66 hr ⟨⟨-1, Or.inl ⟨rfl, Or.inr (by rw [show 32 * j.toNat = 4096 by omega] at g2; exact g2)⟩, rfl⟩, rfl⟩
        · refine hv_aload_n E dX2_nth_17 rfl 2 rfl rfl ?_
          refine hv_get (kf := 0) E dX2_nth_18 (show vwCl[1]? = some (RX2, TX2, 1) from rfl) (by decide) gW_X2 gF_X2_9 rfl hn.1 rfl rfl ?_
          refine hv_iload_n E dX2_nth_21 rfl 0 rfl rfl ?_
          refine hv_iald E dX2_nth_22 hn.2 (by omega) (by omega) (by decide) rfl ?_
          refine hv_callSI (na := 1) (As := [.int (f j.toNat)]) (st := []) E (cJ_bitCount l D K (f j.toNat)) dX2_nth_23 gL_X2_26 gS_J6_bitCount_0f7a4 gC_J6_bitCount_0f7a4 gZ_J6 (by decide +kernel) rfl ⟨Nat.le_of_ble_eq_true rfl, Nat.le_of_ble_eq_true rfl⟩ (Nat.le_of_ble_eq_true rfl) ⟨Nat.zero_le _, Nat.zero_le _⟩ rfl rfl (fun r w2 hp => ?_)
          rw [hp.1, hp.2]
          show hm_V p l e (hm_rm 2 0 0) s m args below meth c D (hm_A w s.heap.size) 5 0 0 (MQ below (hm_Qi D w s.heap.size (fun r w2 => (∃ z : Int, isNth (mem f) 4096 n z ∧ r = iI z) ∧ w2 = w)) args s 0 0 (hm_A w s.heap.size)) w 26 [(3, .int (iI (j))), (2, .int (iI ((ct (mem f) 0 (32 * j.toNat) : Nat)))), (0, .ref (q)), (1, .int (iI (n)))] [.int (iI ((ct (bt (f j.toNat)) 0 32 : Nat)))]
          have hd := ct_le (bt (f j.toNat)) 0 32
          have he := ct_add (mem f) 0 (32 * j.toNat) 32
          rw [Nat.zero_add, ct_word f j.toNat 32 (by omega)] at he
          refine hv_istore (lv2 := [(4, .int (iI ((ct (bt (f j.toNat)) 0 32 : Nat)))), (3, .int (iI (j))), (2, .int (iI ((ct (mem f) 0 (32 * j.toNat) : Nat)))), (0, .ref (q)), (1, .int (iI (n)))]) E dX2_nth_26 (by decide) rfl rfl ?_
          refine hv_iload_n E dX2_nth_28 rfl 4 rfl rfl ?_
          refine hv_iload_n E dX2_nth_29 rfl 2 rfl rfl ?_
          refine hv_isub E dX2_nth_30 rfl ?_
          refine hv_iload E dX2_nth_31 0 rfl rfl ?_
          refine hv_icmp_ge E 54 dX2_nth_33 (by decide) ⟨by omega, by omega⟩ ⟨by omega, by omega⟩ rfl (fun h4 => ?_) (fun h4 => ?_)
          · refine hv_iload_n E dX2_nth_54 rfl 2 rfl rfl ?_
            refine hv_iload E dX2_nth_55 0 rfl rfl ?_
            refine hv_iadd E dX2_nth_57 rfl ?_
            refine hv_topi (show iI (((ct (mem f) 0 (32 * j.toNat) : Nat)) + ((ct (bt (f j.toNat)) 0 32 : Nat))) = iI ((ct (mem f) 0 (32 * (j + 1).toNat) : Nat)) from (by rw [show 32 * (j + 1).toNat = 32 * j.toNat + 32 by omega, he]; congr 1)) ?_
            refine hv_istore_n (lv2 := [(2, .int (iI ((ct (mem f) 0 (32 * (j + 1).toNat) : Nat)))), (4, .int (iI ((ct (bt (f j.toNat)) 0 32 : Nat)))), (3, .int (iI (j))), (0, .ref (q)), (1, .int (iI (n)))]) E dX2_nth_58 rfl (by decide) rfl rfl ?_
            refine hv_iinc (lv2 := [(3, .int (iI (j + 1))), (2, .int (iI ((ct (mem f) 0 (32 * (j + 1).toNat) : Nat)))), (4, .int (iI ((ct (bt (f j.toNat)) 0 32 : Nat)))), (0, .ref (q)), (1, .int (iI (n)))]) E dX2_nth_59 2 rfl rfl (by decide) rfl rfl ?_
            refine hv_goto E 10 dX2_nth_62 (by decide) ?_
            refine hv_sub (lv2 := [(3, .int (iI (j + 1))), (2, .int (iI ((ct (mem f) 0 (32 * (j + 1).toNat) : Nat)))), (0, .ref (q)), (1, .int (iI (n)))]) [0, 1, 3, 4] rfl ?_
            exact ih (j + 1) (by omega) (by omega) (by omega) (by rw [show 32 * (j + 1).toNat = 32 * j.toNat + 32 by omega, he]; omega)
          · refine hv_iload_n E dX2_nth_36 rfl 1 rfl rfl ?_
            refine hv_bipush E dX2_nth_37 (by decide +kernel) rfl ?_
            refine hv_imul E dX2_nth_39 rfl ?_
            refine hv_aload_n E dX2_nth_40 rfl 3 rfl rfl ?_
            refine hv_get (kf := 0) E dX2_nth_41 (show vwCl[1]? = some (RX2, TX2, 1) from rfl) (by decide) gW_X2 gF_X2_9 rfl hn.1 rfl rfl ?_
            refine hv_iload_n E dX2_nth_44 rfl 1 rfl rfl ?_
            refine hv_iald E dX2_nth_45 hn.2 (by omega) (by omega) (by decide) rfl ?_
            refine hv_iload_n E dX2_nth_46 rfl 4 rfl rfl ?_
            refine hv_iload_n E dX2_nth_47 rfl 2 rfl rfl ?_
            refine hv_isub E dX2_nth_48 rfl ?_
            refine hv_callSI (na := 2) (As := [.int (f j.toNat), .int (iI (n - ((ct (mem f) 0 (32 * j.toNat) : Nat))))]) (st := [.int (iI (j * 32))]) E (c2_nthOne l D K (f j.toNat) (n - (ct (mem f) 0 (32 * j.toNat) : Nat)) (by omega) (by omega)) dX2_nth_49 gL_X2_31 gS_X2_nthOne gC_X2_nthOne gZ_X2 (by decide +kernel) rfl ⟨Nat.le_of_ble_eq_true rfl, Nat.le_of_ble_eq_true rfl⟩ (Nat.le_of_ble_eq_true rfl) ⟨Nat.zero_le _, Nat.zero_le _⟩ rfl rfl (fun r w2 hp => ?_)
            obtain ⟨⟨pp, p1, p2, p3, p4⟩, p5⟩ := hp
            rw [p4, p5]
            show hm_V p l e (hm_rm 2 0 0) s m args below meth c D (hm_A w s.heap.size) 5 0 0 (MQ below (hm_Qi D w s.heap.size (fun r w2 => (∃ z : Int, isNth (mem f) 4096 n z ∧ r = iI z) ∧ w2 = w)) args s 0 0 (hm_A w s.heap.size)) w 52 [(4, .int (iI ((ct (bt (f j.toNat)) 0 32 : Nat)))), (3, .int (iI (j))), (2, .int (iI ((ct (mem f) 0 (32 * j.toNat) : Nat)))), (0, .ref (q)), (1, .int (iI (n)))] [.int (iI ((pp : Int))), .int (iI (j * 32))]
            refine hv_iadd E dX2_nth_52 rfl ?_
            exact hv_iret E dX2_nth_53 hr ⟨⟨j * 32 + pp, Or.inr ⟨by omega, by omega, by
                    rw [show (j * 32 + (pp : Int)).toNat = 32 * j.toNat + pp by omega, mem_at f _ _ p1]; exact p2, by
                    rw [show (j * 32 + (pp : Int)).toNat = 32 * j.toNat + pp by omega, ct_add, Nat.zero_add, ct_word f _ _ (by omega)]; omega⟩, rfl⟩, rfl⟩
    refine hv_sub (lv2 := [(3, .int (iI (0))), (2, .int (iI (0))), (0, .ref (q)), (1, .int (iI (n)))]) [0, 1, 2, 3] rfl ?_
    exact LP 129 0 (by omega) (by omega) (by omega) (by show ((0 : Nat) : Int) ≤ n; omega)
  · refine hv_iconst E dX2_nth_4 rfl ?_
    exact hv_iret E dX2_nth_5 hr ⟨⟨-1, Or.inl ⟨rfl, Or.inl h1⟩, rfl⟩, rfl⟩
set_option maxHeartbeats 4000000 in
set_option maxRecDepth 100000 in
theorem c2_leastFrom (l : Launch) (D : va_G) (K : Nat → ClassId) {w : hm_M} {q wd : Nat} {f : Nat → Int32} (v : Int) (h0 : 0 ≤ v) (h1 : v ≤ 4096) (hn : nAt K w q wd f)  : hm_Ci l D K yX2_leastFrom cX2_leastFrom 5 .int 2 [.ref (q), .int (iI (v))] w 0 0 (fun r w2 => (∃ z : Int, isNext (mem f) 4096 v z ∧ r = iI z) ∧ w2 = w) := by
  refine hm_enterI (by decide) (Nat.le_of_ble_eq_true rfl) ?_
  intro p e s m args below meth c E hr hnm
  show hm_V p l e (hm_rm 2 0 0) s m args below meth c D (hm_A w s.heap.size) 5 0 0 (MQ below (hm_Qi D w s.heap.size (fun r w2 => (∃ z : Int, isNext (mem f) 4096 v z ∧ r = iI z) ∧ w2 = w)) args s 0 0 (hm_A w s.heap.size)) w 0 [(0, .ref (q)), (1, .int (iI (v)))] []
  refine hv_iload_n E dX2_leastFrom_0 rfl 1 rfl rfl ?_
  refine hv_callSNI (na := 1) (As := [.int (iI (v))]) (st := []) E (c6_isNumber l D K v ⟨by omega, by omega⟩) dX2_leastFrom_1 gN_X2_15 gS_X6_isNumber gC_X6_isNumber gZ_X6 (by decide +kernel) rfl ⟨Nat.le_of_ble_eq_true rfl, Nat.le_of_ble_eq_true rfl⟩ (Nat.le_of_ble_eq_true rfl) ⟨Nat.zero_le _, Nat.zero_le _⟩ rfl rfl (fun r w2 hp => ?_)
  rw [hp.1, hp.2]
  show hm_V p l e (hm_rm 2 0 0) s m args below meth c D (hm_A w s.heap.size) 5 0 0 (MQ below (hm_Qi D w s.heap.size (fun r w2 => (∃ z : Int, isNext (mem f) 4096 v z ∧ r = iI z) ∧ w2 = w)) args s 0 0 (hm_A w s.heap.size)) w 4 [(0, .ref (q)), (1, .int (iI (v)))] [.int (bI (decide (0 ≤ v ∧ v < 4096)))]
  refine hv_if_neB E 9 dX2_leastFrom_4 (by decide) rfl (fun h2 => ?_) (fun h2 => ?_)
  · have h3 := of_decide_eq_true h2
    refine hv_iconst E dX2_leastFrom_9 rfl ?_
    refine hv_iload_n E dX2_leastFrom_10 rfl 1 rfl rfl ?_
    refine hv_bipush E dX2_leastFrom_11 (by decide +kernel) rfl ?_
    refine hv_iandR E dX2_leastFrom_13 rfl ?_
    refine hv_topi (show (iI (v)) &&& (iI (31)) = iI (v % 32) from iI_and31 v) ?_
    refine hv_ishlR E dX2_leastFrom_14 rfl rfl ?_
    refine hv_topi (show (iI ((-1))) <<< ((iI (v % 32)) &&& 31) = iI (-1) <<< (iI (((v % 32).toNat : Nat) : Int) &&& 31) from (by rw [Int.toNat_of_nonneg (show 0 ≤ v % 32 by omega)])) ?_
    refine hv_istore_n (lv2 := [(2, .int (iI (-1) <<< (iI (((v % 32).toNat : Nat) : Int) &&& 31))), (0, .ref (q)), (1, .int (iI (v)))]) E dX2_leastFrom_15 rfl (by decide) rfl rfl ?_
    refine hv_iload_n E dX2_leastFrom_16 rfl 2 rfl rfl ?_
    refine hv_iconst E dX2_leastFrom_17 rfl ?_
    refine hv_ishrR E dX2_leastFrom_18 rfl rfl ?_
    refine hv_topi (show (iI (v)) >>> ((iI (5)) &&& 31) = iI (v / 32) from iI_shr5 ⟨by omega, by omega⟩) ?_
    refine hv_istore_n (lv2 := [(3, .int (iI (v / 32))), (2, .int (iI (-1) <<< (iI (((v % 32).toNat : Nat) : Int) &&& 31))), (0, .ref (q)), (1, .int (iI (v)))]) E dX2_leastFrom_19 rfl (by decide) rfl rfl ?_
    have LP : ∀ (k : Nat) (j : Int) (mk : Int32), (128 - j < (k : Int)) → (v / 32 ≤ j) → (j ≤ 128) → (∀ i, i < 32 → bt mk i = decide (v ≤ 32 * j + (i : Int))) → (∀ u : Nat, v ≤ (u : Int) → (u : Int) < 32 * j → mem f u = false) → hm_V p l e (hm_rm 2 0 0) s m args below meth c D (hm_A w s.heap.size) 5 0 0 (MQ below (hm_Qi D w s.heap.size (fun r w2 => (∃ z : Int, isNext (mem f) 4096 v z ∧ r = iI z) ∧ w2 = w)) args s 0 0 (hm_A w s.heap.size)) w 20 [(3, .int (iI (j))), (2, .int (mk)), (0, .ref (q)), (1, .int (iI (v)))] [] := by
      intro k
      induction k with
      | zero =>
        intro j mk hk g0 g1 hm hz
        exact absurd hk (by omega)
      | succ k ih =>
        intro j mk hk g0 g1 hm hz
        refine hv_iload_n E dX2_leastFrom_20 rfl 0 rfl rfl ?_
        refine hv_sipush E dX2_leastFrom_21 (by decide +kernel) rfl ?_
        refine hv_icmp_ge E 62 dX2_leastFrom_24 (by decide) ⟨by omega, by omega⟩ ⟨by omega, by omega⟩ rfl (fun h4 => ?_) (fun h4 => ?_)
        · refine hv_iconst E dX2_leastFrom_62 rfl ?_
          exact hv_iret E dX2_leastFrom_63 hr ⟨⟨-1, Or.inl ⟨rfl, fun u a b => hz u a (by omega)⟩, rfl⟩, rfl⟩
        · refine hv_aload_n E dX2_leastFrom_27 rfl 2 rfl rfl ?_
          refine hv_get (kf := 0) E dX2_leastFrom_28 (show vwCl[1]? = some (RX2, TX2, 1) from rfl) (by decide) gW_X2 gF_X2_9 rfl hn.1 rfl rfl ?_
          refine hv_iload_n E dX2_leastFrom_31 rfl 0 rfl rfl ?_
          refine hv_iald E dX2_leastFrom_32 hn.2 (by omega) (by omega) (by decide) rfl ?_
          refine hv_iload_n E dX2_leastFrom_33 rfl 1 rfl rfl ?_
          refine hv_iandR E dX2_leastFrom_34 rfl ?_
          refine hv_istore (lv2 := [(4, .int ((f j.toNat) &&& mk)), (3, .int (iI (j))), (2, .int (mk)), (0, .ref (q)), (1, .int (iI (v)))]) E dX2_leastFrom_35 (by decide) rfl rfl ?_
          refine hv_iload E dX2_leastFrom_37 0 rfl rfl ?_
          have hbt : ∀ i, i < 32 → bt ((f j.toNat) &&& mk) i = (mem f (32 * j.toNat + i) && decide (v ≤ 32 * j + (i : Int))) := fun i hi => by rw [b_and, hm i hi, mem_at f _ _ hi]
          refine hv_if_eqR E 54 dX2_leastFrom_39 (by decide) rfl (fun h5 => ?_) (fun h5 => ?_)
          · refine hv_iconst E dX2_leastFrom_54 rfl ?_
            refine hv_istore_n (lv2 := [(2, .int (iI ((-1)))), (4, .int ((f j.toNat) &&& mk)), (3, .int (iI (j))), (0, .ref (q)), (1, .int (iI (v)))]) E dX2_leastFrom_55 rfl (by decide) rfl rfl ?_
            refine hv_iinc (lv2 := [(3, .int (iI (j + 1))), (2, .int (iI ((-1)))), (4, .int ((f j.toNat) &&& mk)), (0, .ref (q)), (1, .int (iI (v)))]) E dX2_leastFrom_56 2 rfl rfl (by decide) rfl rfl ?_
            refine hv_goto E 20 dX2_leastFrom_59 (by decide) ?_
            refine hv_sub (lv2 := [(3, .int (iI (j + 1))), (2, .int (iI ((-1)))), (0, .ref (q)), (1, .int (iI (v)))]) [0, 1, 3, 4] rfl ?_
            exact ih (j + 1) (iI (-1)) (by omega) (by omega) (by omega) (fun i hi => by rw [bt_m1 hi, decide_eq_true (by omega)]) (fun u a b => by
                  rcases (show (u : Int) < 32 * j ∨ 32 * j ≤ (u : Int) by omega) with c1 | c1
                  · exact hz u a c1
                  · have h6 := hbt (u - 32 * j.toNat) (by omega)
                    rw [h5, b_0, show 32 * j.toNat + (u - 32 * j.toNat) = u by omega, decide_eq_true (by omega), Bool.and_true] at h6
                    exact h6.symm)
          · refine hv_iload_n E dX2_leastFrom_42 rfl 1 rfl rfl ?_
            refine hv_bipush E dX2_leastFrom_43 (by decide +kernel) rfl ?_
            refine hv_imul E dX2_leastFrom_45 rfl ?_
            refine hv_iload E dX2_leastFrom_46 0 rfl rfl ?_
            refine hv_iconst E dX2_leastFrom_48 rfl ?_
            refine hv_callSI (na := 2) (As := [.int ((f j.toNat) &&& mk), .int (iI (0))]) (st := [.int (iI (j * 32))]) E (c2_nthOne l D K ((f j.toNat) &&& mk) 0 (by omega) (by have := ct_ne0 h5; omega)) dX2_leastFrom_49 gL_X2_31 gS_X2_nthOne gC_X2_nthOne gZ_X2 (by decide +kernel) rfl ⟨Nat.le_of_ble_eq_true rfl, Nat.le_of_ble_eq_true rfl⟩ (Nat.le_of_ble_eq_true rfl) ⟨Nat.zero_le _, Nat.zero_le _⟩ rfl rfl (fun r w2 hp => ?_)
            obtain ⟨⟨pp, p1, p2, p3, p4⟩, p5⟩ := hp
            rw [p4, p5]
            show hm_V p l e (hm_rm 2 0 0) s m args below meth c D (hm_A w s.heap.size) 5 0 0 (MQ below (hm_Qi D w s.heap.size (fun r w2 => (∃ z : Int, isNext (mem f) 4096 v z ∧ r = iI z) ∧ w2 = w)) args s 0 0 (hm_A w s.heap.size)) w 52 [(4, .int ((f j.toNat) &&& mk)), (3, .int (iI (j))), (2, .int (mk)), (0, .ref (q)), (1, .int (iI (v)))] [.int (iI ((pp : Int))), .int (iI (j * 32))]
            refine hv_iadd E dX2_leastFrom_52 rfl ?_
            rw [hbt pp p1, Bool.and_eq_true] at p2
            have p6 := of_decide_eq_true p2.2
            exact hv_iret E dX2_leastFrom_53 hr ⟨⟨j * 32 + pp, Or.inr ⟨by omega, by omega, by omega, by
                    rw [show (j * 32 + (pp : Int)).toNat = 32 * j.toNat + pp by omega]; exact p2.1, fun u a b => by
                    rcases (show (u : Int) < 32 * j ∨ 32 * j ≤ (u : Int) by omega) with c1 | c1
                    · exact hz u a c1
                    · have h6 := hbt (u - 32 * j.toNat) (by omega)
                      rw [show 32 * j.toNat + (u - 32 * j.toNat) = u by omega, decide_eq_true (show v ≤ 32 * j + ((u - 32 * j.toNat : Nat) : Int) by omega), Bool.and_true] at h6
                      rw [← h6]
                      cases e2 : bt ((f j.toNat) &&& mk) (u - 32 * j.toNat) with
                      | false => rfl
                      | true =>
                        have := ct_step (S := bt ((f j.toNat) &&& mk)) (a := 0) (n := u - 32 * j.toNat) (k := pp) (by omega) (by rw [Nat.zero_add]; exact e2)
                        omega⟩, rfl⟩, rfl⟩
    refine hv_sub (lv2 := [(3, .int (iI (v / 32))), (2, .int (iI (-1) <<< (iI (((v % 32).toNat : Nat) : Int) &&& 31))), (0, .ref (q)), (1, .int (iI (v)))]) [0, 1, 2, 3] rfl ?_
    exact LP 129 (v / 32) _ (by omega) (by omega) (by omega) (fun i hi => by
      rw [bt_hi (by omega) hi]
      congr 1
      apply propext
      omega) (fun u a b => by omega)
  · have h3 := of_decide_eq_false h2
    refine hv_iconst E dX2_leastFrom_7 rfl ?_
    exact hv_iret E dX2_leastFrom_8 hr ⟨⟨-1, Or.inl ⟨rfl, fun u a b => by omega⟩, rfl⟩, rfl⟩
