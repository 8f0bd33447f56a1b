abbrev mE (K : Nat → ClassId) (I : Nat → Bool) : va_E := .inl (K 1, 36864, .inl (fun j => bI (I j)))
/-- the model's object at q, what is in its sets: I, at ia -/
def mI (K : Nat → ClassId) (w : hm_M) (q ia : Nat) (fs : List Value) (I : Nat → Bool) : Prop := w q = some (.inr (6, .ref ia :: fs)) ∧ w ia = some (.inl (K 1, 36864, .inl (fun j => bI (I j))))
def mS (I : Nat → Bool) (s : Int) (v : Nat) : Bool := I (4096 * s.toNat + v)
theorem mI.ne {K : Nat → ClassId} {w : hm_M} {q ia : Nat} {fs : List Value} {I : Nat → Bool} (h : mI K w q ia fs I) : q ≠ ia := fun e => by
  have h1 := h.1
  rw [e, h.2] at h1
  cases h1
theorem mI.up {K : Nat → ClassId} {w : hm_M} {q ia : Nat} {fs : List Value} {I : Nat → Bool} (h : mI K w q ia fs I) (J : Nat → Bool) : mI K (hm_up w ia (mE K J)) q ia fs J := ⟨by rw [hm_un h.ne]; exact h.1, hm_us⟩
theorem ct_succ (S : Nat → Bool) (a n : Nat) : ct S a (n + 1) = ct S a n + (if S (a + n) then 1 else 0) := rfl
set_option maxHeartbeats 4000000 in
set_option maxRecDepth 100000 in
theorem c7_is (l : Launch) (D : va_G) (K : Nat → ClassId) {w : hm_M} {q ia : Nat} {fs : List Value} {I : Nat → Bool} (x v : Int) (h0 : 0 ≤ x) (h1 : x ≤ 8) (h2 : 0 ≤ v) (h3 : v < 4096) (hm : mI K w q ia fs I)  : hm_Ci l D K yX7_is cX7_is 3 .boolean 0 [.ref (q), .int (iI (x)), .int (iI (v))] w 0 0 (fun r w2 => r = bI (mS I x v.toNat) ∧ w2 = w) := by
  refine hm_enterI (by decide) (Nat.le_of_ble_eq_true rfl) ?_
  intro p e s m args below meth c E hr hnm
  show hm_V p l e (hm_rm 0 0 0) s m args below meth c D (hm_A w s.heap.size) 3 0 0 (MQ below (hm_Qi D w s.heap.size (fun r w2 => r = bI (mS I x v.toNat) ∧ w2 = w)) args s 0 0 (hm_A w s.heap.size)) w 0 [(0, .ref (q)), (1, .int (iI (x))), (2, .int (iI (v)))] []
  refine hv_aload_n E dX7_is_0 rfl 0 rfl rfl ?_
  refine hv_get (kf := 0) E dX7_is_1 (show vwCl[6]? = some (RX7, TX7, 7) from rfl) (by decide) gW_X7 gF_X7_8 rfl hm.1 rfl rfl ?_
  refine hv_sipush E dX7_is_4 (by decide +kernel) rfl ?_
  refine hv_iload_n E dX7_is_7 rfl 1 rfl rfl ?_
  refine hv_imul E dX7_is_8 rfl ?_
  refine hv_iload_n E dX7_is_9 rfl 2 rfl rfl ?_
  refine hv_iadd E dX7_is_10 rfl ?_
  refine hv_zald E dX7_is_11 hm.2 (by omega) (by omega) (by decide) rfl ?_
  exact hv_zret E dX7_is_12 hr ⟨by unfold mS; rw [show (4096 * x + v).toNat = 4096 * x.toNat + v.toNat by omega], rfl⟩
set_option maxHeartbeats 4000000 in
set_option maxRecDepth 100000 in
theorem c7_many (l : Launch) (D : va_G) (K : Nat → ClassId) {w : hm_M} {q ia : Nat} {fs : List Value} {I : Nat → Bool} (x a b : Int) (h0 : 0 ≤ x) (h1 : x ≤ 8) (h2 : 0 ≤ a) (h3 : a ≤ b) (h4 : b ≤ 4096) (hm : mI K w q ia fs I)  : hm_Ci l D K yX7_many cX7_many 6 .int 1 [.ref (q), .int (iI (x)), .int (iI (a)), .int (iI (b))] w 0 0 (fun r w2 => r = iI (ct (mS I x) a.toNat (b - a).toNat : Nat) ∧ w2 = w) := by
  refine hm_enterI (by decide) (Nat.le_of_ble_eq_true rfl) ?_
  intro p e s m args below meth c E hr hnm
  show hm_V p l e (hm_rm 1 0 0) s m args below meth c D (hm_A w s.heap.size) 6 0 0 (MQ below (hm_Qi D w s.heap.size (fun r w2 => r = iI (ct (mS I x) a.toNat (b - a).toNat : Nat) ∧ w2 = w)) args s 0 0 (hm_A w s.heap.size)) w 0 [(0, .ref (q)), (1, .int (iI (x))), (2, .int (iI (a))), (3, .int (iI (b)))] []
  refine hv_iconst E dX7_many_0 rfl ?_
  refine hv_istore (lv2 := [(4, .int (iI (0))), (0, .ref (q)), (1, .int (iI (x))), (2, .int (iI (a))), (3, .int (iI (b)))]) E dX7_many_1 (by decide) rfl rfl ?_
  refine hv_iload_n E dX7_many_3 rfl 3 rfl rfl ?_
  refine hv_istore (lv2 := [(5, .int (iI (a))), (4, .int (iI (0))), (0, .ref (q)), (1, .int (iI (x))), (2, .int (iI (a))), (3, .int (iI (b)))]) E dX7_many_4 (by decide) rfl rfl ?_
  have LP : ∀ (k : Nat) (j sm : Int), (b - j < (k : Int)) → (a ≤ j) → (j ≤ b) → (sm = (ct (mS I x) a.toNat (j - a).toNat : Nat)) → hm_V p l e (hm_rm 1 0 0) s m args below meth c D (hm_A w s.heap.size) 6 0 0 (MQ below (hm_Qi D w s.heap.size (fun r w2 => r = iI (ct (mS I x) a.toNat (b - a).toNat : Nat) ∧ w2 = w)) args s 0 0 (hm_A w s.heap.size)) w 6 [(5, .int (iI (j))), (4, .int (iI (sm))), (0, .ref (q)), (1, .int (iI (x))), (2, .int (iI (a))), (3, .int (iI (b)))] [] := by
    intro k
    induction k with
    | zero =>
      intro j sm hk g0 g1 hs
      exact absurd hk (by omega)
    | succ k ih =>
      intro j sm hk g0 g1 hs
      refine hv_iload E dX7_many_6 0 rfl rfl ?_
      refine hv_iload_n E dX7_many_8 rfl 5 rfl rfl ?_
      refine hv_icmp_ge E 38 dX7_many_9 (by decide) ⟨by omega, by omega⟩ ⟨by omega, by omega⟩ rfl (fun c1 => ?_) (fun c1 => ?_)
      · skip
        refine hv_iload E dX7_many_38 1 rfl rfl ?_
        exact hv_iret E dX7_many_40 hr ⟨by rw [hs, show j = b by omega], rfl⟩
      · skip
        refine hv_iload E dX7_many_12 1 rfl rfl ?_
        refine hv_aload_n E dX7_many_14 rfl 2 rfl rfl ?_
        refine hv_iload_n E dX7_many_15 rfl 3 rfl rfl ?_
        refine hv_iload E dX7_many_16 0 rfl rfl ?_
        refine hv_callVI (na := 2) (As := [.int (iI (x)), .int (iI (j))]) (st := [.int (iI (sm))]) E (c7_is l D K x j (by omega) (by omega) (by omega) (by omega) hm) dX7_many_18 hm.1 (show vwCl[6]? = some (RX7, TX7, 7) from rfl) gL_X7_28 gV_X7_is gI_X7_is gC_X7_is gZ_X7 (by decide +kernel) rfl ⟨Nat.le_of_ble_eq_true rfl, Nat.le_of_ble_eq_true rfl⟩ (Nat.le_of_ble_eq_true rfl) ⟨Nat.zero_le _, Nat.zero_le _⟩ rfl rfl (fun r w2 hp => ?_)
        rw [hp.1, hp.2]
        show hm_V p l e (hm_rm 1 0 0) s m args below meth c D (hm_A w s.heap.size) 6 0 0 (MQ below (hm_Qi D w s.heap.size (fun r w2 => r = iI (ct (mS I x) a.toNat (b - a).toNat : Nat) ∧ w2 = w)) args s 0 0 (hm_A w s.heap.size)) w 21 [(5, .int (iI (j))), (4, .int (iI (sm))), (0, .ref (q)), (1, .int (iI (x))), (2, .int (iI (a))), (3, .int (iI (b)))] [.int (bI (mS I x (j).toNat)), .int (iI (sm))]
        refine hv_if_eqB E 28 dX7_many_21 (by decide) rfl (fun c2 => ?_) (fun c2 => ?_)
        · refine hv_iconst E dX7_many_28 rfl ?_
          refine hv_iadd E dX7_many_29 rfl ?_
          refine hv_istore (lv2 := [(4, .int (iI (sm + 0))), (5, .int (iI (j))), (0, .ref (q)), (1, .int (iI (x))), (2, .int (iI (a))), (3, .int (iI (b)))]) E dX7_many_30 (by decide) rfl rfl ?_
          refine hv_iinc (lv2 := [(5, .int (iI (j + 1))), (4, .int (iI (sm + 0))), (0, .ref (q)), (1, .int (iI (x))), (2, .int (iI (a))), (3, .int (iI (b)))]) E dX7_many_32 1 rfl rfl (by decide) rfl rfl ?_
          refine hv_goto E 6 dX7_many_35 (by decide) ?_
          refine hv_sub (lv2 := [(5, .int (iI (j + 1))), (4, .int (iI (sm + 0))), (0, .ref (q)), (1, .int (iI (x))), (2, .int (iI (a))), (3, .int (iI (b)))]) [0, 1, 2, 3, 4, 5] rfl ?_
          exact ih (j + 1) _ (by omega) (by omega) (by omega) (by
            rw [show (j + 1 - a).toNat = (j - a).toNat + 1 by omega, ct_succ, show a.toNat + (j - a).toNat = j.toNat by omega, c2, hs]; rfl)
        · refine hv_iconst E dX7_many_24 rfl ?_
          refine hv_goto E 29 dX7_many_25 (by decide) ?_
          refine hv_iadd E dX7_many_29 rfl ?_
          refine hv_istore (lv2 := [(4, .int (iI (sm + 1))), (5, .int (iI (j))), (0, .ref (q)), (1, .int (iI (x))), (2, .int (iI (a))), (3, .int (iI (b)))]) E dX7_many_30 (by decide) rfl rfl ?_
          refine hv_iinc (lv2 := [(5, .int (iI (j + 1))), (4, .int (iI (sm + 1))), (0, .ref (q)), (1, .int (iI (x))), (2, .int (iI (a))), (3, .int (iI (b)))]) E dX7_many_32 1 rfl rfl (by decide) rfl rfl ?_
          refine hv_goto E 6 dX7_many_35 (by decide) ?_
          refine hv_sub (lv2 := [(5, .int (iI (j + 1))), (4, .int (iI (sm + 1))), (0, .ref (q)), (1, .int (iI (x))), (2, .int (iI (a))), (3, .int (iI (b)))]) [0, 1, 2, 3, 4, 5] rfl ?_
          exact ih (j + 1) _ (by omega) (by omega) (by omega) (by
            rw [show (j + 1 - a).toNat = (j - a).toNat + 1 by omega, ct_succ, show a.toNat + (j - a).toNat = j.toNat by omega, c2, hs]; rfl)
  refine hv_sub (lv2 := [(5, .int (iI (a))), (4, .int (iI (0))), (0, .ref (q)), (1, .int (iI (x))), (2, .int (iI (a))), (3, .int (iI (b)))]) [0, 1, 2, 3, 4, 5] rfl ?_
  exact LP (b - a + 1).toNat a 0 (by omega) (by omega) (by omega) (by rw [show (a - a).toNat = 0 by omega]; rfl)
set_option maxHeartbeats 4000000 in
set_option maxRecDepth 100000 in
theorem c7_put (l : Launch) (D : va_G) (K : Nat → ClassId) {w : hm_M} {q ia : Nat} {fs : List Value} {I : Nat → Bool} (x v : Int) (hx : iB x) (hv : iB v) (hm : mI K w q ia fs I)  : hm_Ci l D K yX7_put cX7_put 4 .int 2 [.ref (q), .int (iI (x)), .int (iI (v))] w 0 0 (fun r w2 => r = iI (if 0 ≤ x ∧ x < 8 then (if 0 ≤ v ∧ v < 4096 then (if mS I x v.toNat then 0 else 1) else -3) else -2) ∧ w2 = if (0 ≤ x ∧ x < 8) ∧ 0 ≤ v ∧ v < 4096 then hm_up w ia (mE K (va_up I (4096 * x + v).toNat true)) else w) := by
  refine hm_enterI (by decide) (Nat.le_of_ble_eq_true rfl) ?_
  intro p e s m args below meth c E hr hnm
  show hm_V p l e (hm_rm 2 0 0) s m args below meth c D (hm_A w s.heap.size) 4 0 0 (MQ below (hm_Qi D w s.heap.size (fun r w2 => r = iI (if 0 ≤ x ∧ x < 8 then (if 0 ≤ v ∧ v < 4096 then (if mS I x v.toNat then 0 else 1) else -3) else -2) ∧ w2 = if (0 ≤ x ∧ x < 8) ∧ 0 ≤ v ∧ v < 4096 then hm_up w ia (mE K (va_up I (4096 * x + v).toNat true)) else w)) args s 0 0 (hm_A w s.heap.size)) w 0 [(0, .ref (q)), (1, .int (iI (x))), (2, .int (iI (v)))] []
  refine hv_iload_n E dX7_put_0 rfl 1 rfl rfl ?_
  refine hv_callSI (na := 1) (As := [.int (iI (x))]) (st := []) E (c7_isSet l D K x hx) dX7_put_1 gL_X7_21 gS_X7_isSet gC_X7_isSet gZ_X7 (by decide +kernel) rfl ⟨Nat.le_of_ble_eq_true rfl, Nat.le_of_ble_eq_true rfl⟩ (Nat.le_of_ble_eq_true rfl) ⟨Nat.zero_le _, Nat.zero_le _⟩ rfl rfl (fun r w2 hp => ?_)
  rw [hp.1, hp.2]
  show hm_V p l e (hm_rm 2 0 0) s m args below meth c D (hm_A w s.heap.size) 4 0 0 (MQ below (hm_Qi D w s.heap.size (fun r w2 => r = iI (if 0 ≤ x ∧ x < 8 then (if 0 ≤ v ∧ v < 4096 then (if mS I x v.toNat then 0 else 1) else -3) else -2) ∧ w2 = if (0 ≤ x ∧ x < 8) ∧ 0 ≤ v ∧ v < 4096 then hm_up w ia (mE K (va_up I (4096 * x + v).toNat true)) else w)) args s 0 0 (hm_A w s.heap.size)) w 4 [(0, .ref (q)), (1, .int (iI (x))), (2, .int (iI (v)))] [.int (bI (decide (0 ≤ x ∧ x ≤ 7)))]
  refine hv_if_neB E 10 dX7_put_4 (by decide) rfl (fun c1 => ?_) (fun c1 => ?_)
  · have c1 := of_decide_eq_true c1
    refine hv_iload_n E dX7_put_10 rfl 2 rfl rfl ?_
    refine hv_callSI (na := 1) (As := [.int (iI (v))]) (st := []) E (c7_isNumber l D K v hv) dX7_put_11 gL_X7_25 gS_X7_isNumber gC_X7_isNumber gZ_X7 (by decide +kernel) rfl ⟨Nat.le_of_ble_eq_true rfl, Nat.le_of_ble_eq_true rfl⟩ (Nat.le_of_ble_eq_true rfl) ⟨Nat.zero_le _, Nat.zero_le _⟩ rfl rfl (fun r w2 hp => ?_)
    rw [hp.1, hp.2]
    show hm_V p l e (hm_rm 2 0 0) s m args below meth c D (hm_A w s.heap.size) 4 0 0 (MQ below (hm_Qi D w s.heap.size (fun r w2 => r = iI (if 0 ≤ x ∧ x < 8 then (if 0 ≤ v ∧ v < 4096 then (if mS I x v.toNat then 0 else 1) else -3) else -2) ∧ w2 = if (0 ≤ x ∧ x < 8) ∧ 0 ≤ v ∧ v < 4096 then hm_up w ia (mE K (va_up I (4096 * x + v).toNat true)) else w)) args s 0 0 (hm_A w s.heap.size)) w 14 [(0, .ref (q)), (1, .int (iI (x))), (2, .int (iI (v)))] [.int (bI (decide (0 ≤ v ∧ v ≤ 4095)))]
    refine hv_if_neB E 20 dX7_put_14 (by decide) rfl (fun c2 => ?_) (fun c2 => ?_)
    · have c2 := of_decide_eq_true c2
      refine hv_aload_n E dX7_put_20 rfl 0 rfl rfl ?_
      refine hv_iload_n E dX7_put_21 rfl 1 rfl rfl ?_
      refine hv_iload_n E dX7_put_22 rfl 2 rfl rfl ?_
      refine hv_callVI (na := 2) (As := [.int (iI (x)), .int (iI (v))]) (st := []) E (c7_is l D K x v (by omega) (by omega) (by omega) (by omega) hm) dX7_put_23 hm.1 (show vwCl[6]? = some (RX7, TX7, 7) from rfl) gL_X7_28 gV_X7_is gI_X7_is gC_X7_is gZ_X7 (by decide +kernel) rfl ⟨Nat.le_of_ble_eq_true rfl, Nat.le_of_ble_eq_true rfl⟩ (Nat.le_of_ble_eq_true rfl) ⟨Nat.zero_le _, Nat.zero_le _⟩ rfl rfl (fun r w2 hp => ?_)
      rw [hp.1, hp.2]
      show hm_V p l e (hm_rm 2 0 0) s m args below meth c D (hm_A w s.heap.size) 4 0 0 (MQ below (hm_Qi D w s.heap.size (fun r w2 => r = iI (if 0 ≤ x ∧ x < 8 then (if 0 ≤ v ∧ v < 4096 then (if mS I x v.toNat then 0 else 1) else -3) else -2) ∧ w2 = if (0 ≤ x ∧ x < 8) ∧ 0 ≤ v ∧ v < 4096 then hm_up w ia (mE K (va_up I (4096 * x + v).toNat true)) else w)) args s 0 0 (hm_A w s.heap.size)) w 26 [(0, .ref (q)), (1, .int (iI (x))), (2, .int (iI (v)))] [.int (bI (mS I x (v).toNat))]
      refine hv_istore_n (lv2 := [(3, .int (bI (mS I x (v).toNat))), (0, .ref (q)), (1, .int (iI (x))), (2, .int (iI (v)))]) E dX7_put_26 rfl (by decide) rfl rfl ?_
      refine hv_aload_n E dX7_put_27 rfl 1 rfl rfl ?_
      refine hv_get (kf := 0) E dX7_put_28 (show vwCl[6]? = some (RX7, TX7, 7) from rfl) (by decide) gW_X7 gF_X7_8 rfl hm.1 rfl rfl ?_
      refine hv_sipush E dX7_put_31 (by decide +kernel) rfl ?_
      refine hv_iload_n E dX7_put_34 rfl 2 rfl rfl ?_
      refine hv_imul E dX7_put_35 rfl ?_
      refine hv_iload_n E dX7_put_36 rfl 3 rfl rfl ?_
      refine hv_iadd E dX7_put_37 rfl ?_
      refine hv_iconst E dX7_put_38 rfl ?_
      refine hv_topi (show iI (1) = bI (true) from rfl) ?_
      refine hv_zast E dX7_put_39 hm.2 (by omega) (by omega) (by decide) rfl ?_
      refine hv_iload_n E dX7_put_40 rfl 0 rfl rfl ?_
      refine hv_if_eqB E 48 dX7_put_41 (by decide) rfl (fun c3 => ?_) (fun c3 => ?_)
      · refine hv_iconst E dX7_put_48 rfl ?_
        exact hv_iret E dX7_put_49 hr ⟨by rw [if_pos (by omega), if_pos (by omega), c3]; rfl, by rw [if_pos (by omega)]⟩
      · refine hv_iconst E dX7_put_44 rfl ?_
        refine hv_goto E 49 dX7_put_45 (by decide) ?_
        exact hv_iret E dX7_put_49 hr ⟨by rw [if_pos (by omega), if_pos (by omega), c3]; rfl, by rw [if_pos (by omega)]⟩
    · have c2 := of_decide_eq_false c2
      refine hv_bipush E dX7_put_17 (by decide +kernel) rfl ?_
      exact hv_iret E dX7_put_19 hr ⟨(by (repeat (first | rw [if_pos (by omega)] | rw [if_neg (by omega)])) <;> first | done | rfl), (by (repeat (first | rw [if_pos (by omega)] | rw [if_neg (by omega)])) <;> first | done | rfl)⟩
  · have c1 := of_decide_eq_false c1
    refine hv_bipush E dX7_put_7 (by decide +kernel) rfl ?_
    exact hv_iret E dX7_put_9 hr ⟨(by (repeat (first | rw [if_pos (by omega)] | rw [if_neg (by omega)])) <;> first | done | rfl), (by (repeat (first | rw [if_pos (by omega)] | rw [if_neg (by omega)])) <;> first | done | rfl)⟩
set_option maxHeartbeats 4000000 in
set_option maxRecDepth 100000 in
theorem c7_change (l : Launch) (D : va_G) (K : Nat → ClassId) {w : hm_M} {q ia : Nat} {fs : List Value} {I : Nat → Bool} (x a b : Int) (y : Bool) (hx : iB x) (ha : iB a) (hb : iB b) (hm : mI K w q ia fs I)  : hm_Ci l D K yX7_change cX7_change 7 .int 2 [.ref (q), .int (iI (x)), .int (iI (a)), .int (iI (b)), .int (bI (y))] w 0 0 (fun r w2 => r = iI (if 0 ≤ x ∧ x < 8 then (if 0 ≤ a ∧ a ≤ b ∧ b < 4096 then (ct (fun v => mS I x v ^^ y) a.toNat (b - a + 1).toNat : Nat) else -3) else -2) ∧ w2 = if (0 ≤ x ∧ x < 8) ∧ 0 ≤ a ∧ a ≤ b ∧ b < 4096 then hm_up w ia (mE K (fun (j : Nat) => if 4096 * x + a ≤ (j : Int) ∧ (j : Int) ≤ 4096 * x + b then y else I j)) else w) := by
  refine hm_enterI (by decide) (Nat.le_of_ble_eq_true rfl) ?_
  intro p e s m args below meth c E hr hnm
  show hm_V p l e (hm_rm 2 0 0) s m args below meth c D (hm_A w s.heap.size) 7 0 0 (MQ below (hm_Qi D w s.heap.size (fun r w2 => r = iI (if 0 ≤ x ∧ x < 8 then (if 0 ≤ a ∧ a ≤ b ∧ b < 4096 then (ct (fun v => mS I x v ^^ y) a.toNat (b - a + 1).toNat : Nat) else -3) else -2) ∧ w2 = if (0 ≤ x ∧ x < 8) ∧ 0 ≤ a ∧ a ≤ b ∧ b < 4096 then hm_up w ia (mE K (fun (j : Nat) => if 4096 * x + a ≤ (j : Int) ∧ (j : Int) ≤ 4096 * x + b then y else I j)) else w)) args s 0 0 (hm_A w s.heap.size)) w 0 [(0, .ref (q)), (1, .int (iI (x))), (2, .int (iI (a))), (3, .int (iI (b))), (4, .int (bI (y)))] []
  refine hv_iload_n E dX7_change_0 rfl 1 rfl rfl ?_
  refine hv_callSI (na := 1) (As := [.int (iI (x))]) (st := []) E (c7_isSet l D K x hx) dX7_change_1 gL_X7_21 gS_X7_isSet gC_X7_isSet gZ_X7 (by decide +kernel) rfl ⟨Nat.le_of_ble_eq_true rfl, Nat.le_of_ble_eq_true rfl⟩ (Nat.le_of_ble_eq_true rfl) ⟨Nat.zero_le _, Nat.zero_le _⟩ rfl rfl (fun r w2 hp => ?_)
  rw [hp.1, hp.2]
  show hm_V p l e (hm_rm 2 0 0) s m args below meth c D (hm_A w s.heap.size) 7 0 0 (MQ below (hm_Qi D w s.heap.size (fun r w2 => r = iI (if 0 ≤ x ∧ x < 8 then (if 0 ≤ a ∧ a ≤ b ∧ b < 4096 then (ct (fun v => mS I x v ^^ y) a.toNat (b - a + 1).toNat : Nat) else -3) else -2) ∧ w2 = if (0 ≤ x ∧ x < 8) ∧ 0 ≤ a ∧ a ≤ b ∧ b < 4096 then hm_up w ia (mE K (fun (j : Nat) => if 4096 * x + a ≤ (j : Int) ∧ (j : Int) ≤ 4096 * x + b then y else I j)) else w)) args s 0 0 (hm_A w s.heap.size)) w 4 [(0, .ref (q)), (1, .int (iI (x))), (2, .int (iI (a))), (3, .int (iI (b))), (4, .int (bI (y)))] [.int (bI (decide (0 ≤ x ∧ x ≤ 7)))]
  refine hv_if_neB E 10 dX7_change_4 (by decide) rfl (fun c1 => ?_) (fun c1 => ?_)
  · have c1 := of_decide_eq_true c1
    refine hv_iload_n E dX7_change_10 rfl 2 rfl rfl ?_
    refine hv_callSI (na := 1) (As := [.int (iI (a))]) (st := []) E (c7_isNumber l D K a ha) dX7_change_11 gL_X7_25 gS_X7_isNumber gC_X7_isNumber gZ_X7 (by decide +kernel) rfl ⟨Nat.le_of_ble_eq_true rfl, Nat.le_of_ble_eq_true rfl⟩ (Nat.le_of_ble_eq_true rfl) ⟨Nat.zero_le _, Nat.zero_le _⟩ rfl rfl (fun r w2 hp => ?_)
    rw [hp.1, hp.2]
    show hm_V p l e (hm_rm 2 0 0) s m args below meth c D (hm_A w s.heap.size) 7 0 0 (MQ below (hm_Qi D w s.heap.size (fun r w2 => r = iI (if 0 ≤ x ∧ x < 8 then (if 0 ≤ a ∧ a ≤ b ∧ b < 4096 then (ct (fun v => mS I x v ^^ y) a.toNat (b - a + 1).toNat : Nat) else -3) else -2) ∧ w2 = if (0 ≤ x ∧ x < 8) ∧ 0 ≤ a ∧ a ≤ b ∧ b < 4096 then hm_up w ia (mE K (fun (j : Nat) => if 4096 * x + a ≤ (j : Int) ∧ (j : Int) ≤ 4096 * x + b then y else I j)) else w)) args s 0 0 (hm_A w s.heap.size)) w 14 [(0, .ref (q)), (1, .int (iI (x))), (2, .int (iI (a))), (3, .int (iI (b))), (4, .int (bI (y)))] [.int (bI (decide (0 ≤ a ∧ a ≤ 4095)))]
    refine hv_if_eqB E 29 dX7_change_14 (by decide) rfl (fun c2 => ?_) (fun c2 => ?_)
    · have c2 := of_decide_eq_false c2
      refine hv_bipush E dX7_change_29 (by decide +kernel) rfl ?_
      exact hv_iret E dX7_change_31 hr ⟨(by (repeat (first | rw [if_pos (by omega)] | rw [if_neg (by omega)])) <;> first | done | rfl), (by (repeat (first | rw [if_pos (by omega)] | rw [if_neg (by omega)])) <;> first | done | rfl)⟩
    · have c2 := of_decide_eq_true c2
      refine hv_iload_n E dX7_change_17 rfl 3 rfl rfl ?_
      refine hv_callSI (na := 1) (As := [.int (iI (b))]) (st := []) E (c7_isNumber l D K b hb) dX7_change_18 gL_X7_25 gS_X7_isNumber gC_X7_isNumber gZ_X7 (by decide +kernel) rfl ⟨Nat.le_of_ble_eq_true rfl, Nat.le_of_ble_eq_true rfl⟩ (Nat.le_of_ble_eq_true rfl) ⟨Nat.zero_le _, Nat.zero_le _⟩ rfl rfl (fun r w2 hp => ?_)
      rw [hp.1, hp.2]
      show hm_V p l e (hm_rm 2 0 0) s m args below meth c D (hm_A w s.heap.size) 7 0 0 (MQ below (hm_Qi D w s.heap.size (fun r w2 => r = iI (if 0 ≤ x ∧ x < 8 then (if 0 ≤ a ∧ a ≤ b ∧ b < 4096 then (ct (fun v => mS I x v ^^ y) a.toNat (b - a + 1).toNat : Nat) else -3) else -2) ∧ w2 = if (0 ≤ x ∧ x < 8) ∧ 0 ≤ a ∧ a ≤ b ∧ b < 4096 then hm_up w ia (mE K (fun (j : Nat) => if 4096 * x + a ≤ (j : Int) ∧ (j : Int) ≤ 4096 * x + b then y else I j)) else w)) args s 0 0 (hm_A w s.heap.size)) w 21 [(0, .ref (q)), (1, .int (iI (x))), (2, .int (iI (a))), (3, .int (iI (b))), (4, .int (bI (y)))] [.int (bI (decide (0 ≤ b ∧ b ≤ 4095)))]
      refine hv_if_eqB E 29 dX7_change_21 (by decide) rfl (fun c3 => ?_) (fun c3 => ?_)
      · have c3 := of_decide_eq_false c3
        refine hv_bipush E dX7_change_29 (by decide +kernel) rfl ?_
        exact hv_iret E dX7_change_31 hr ⟨(by (repeat (first | rw [if_pos (by omega)] | rw [if_neg (by omega)])) <;> first | done | rfl), (by (repeat (first | rw [if_pos (by omega)] | rw [if_neg (by omega)])) <;> first | done | rfl)⟩
      · have c3 := of_decide_eq_true c3
        refine hv_iload_n E dX7_change_24 rfl 2 rfl rfl ?_
        refine hv_iload_n E dX7_change_25 rfl 3 rfl rfl ?_
        refine hv_icmp_le E 32 dX7_change_26 (by decide) ha hb rfl (fun c4 => ?_) (fun c4 => ?_)
        · skip
          refine hv_iconst E dX7_change_32 rfl ?_
          refine hv_istore (lv2 := [(5, .int (iI (0))), (0, .ref (q)), (1, .int (iI (x))), (2, .int (iI (a))), (3, .int (iI (b))), (4, .int (bI (y)))]) E dX7_change_33 (by decide) rfl rfl ?_
          refine hv_iload_n E dX7_change_35 rfl 3 rfl rfl ?_
          refine hv_istore (lv2 := [(6, .int (iI (a))), (5, .int (iI (0))), (0, .ref (q)), (1, .int (iI (x))), (2, .int (iI (a))), (3, .int (iI (b))), (4, .int (bI (y)))]) E dX7_change_36 (by decide) rfl rfl ?_
          have hX : 0 ≤ x ∧ x ≤ 7 := by omega
          have hAB : 0 ≤ a ∧ a ≤ b ∧ b < 4096 := by omega
          refine hv_mem (show w = hm_up w ia (mE K (fun (i : Nat) => if 4096 * x + a ≤ (i : Int) ∧ (i : Int) < 4096 * x + a then y else I i)) from (by
                rw [show (fun i : Nat => if 4096 * x + a ≤ (i : Int) ∧ (i : Int) < 4096 * x + a then y else I i) = I from funext fun i => by rw [if_neg (by omega)]]
                exact (hm_uid hm.2).symm)) ?_
          have LP : ∀ (k : Nat) (j sm : Int), (b + 1 - j < (k : Int)) → (a ≤ j) → (j ≤ b + 1) → (sm = (ct (fun v => mS I x v ^^ y) a.toNat (j - a).toNat : Nat)) → hm_V p l e (hm_rm 2 0 0) s m args below meth c D (hm_A w s.heap.size) 7 0 0 (MQ below (hm_Qi D w s.heap.size (fun r w2 => r = iI (if 0 ≤ x ∧ x < 8 then (if 0 ≤ a ∧ a ≤ b ∧ b < 4096 then (ct (fun v => mS I x v ^^ y) a.toNat (b - a + 1).toNat : Nat) else -3) else -2) ∧ w2 = if (0 ≤ x ∧ x < 8) ∧ 0 ≤ a ∧ a ≤ b ∧ b < 4096 then hm_up w ia (mE K (fun (j : Nat) => if 4096 * x + a ≤ (j : Int) ∧ (j : Int) ≤ 4096 * x + b then y else I j)) else w)) args s 0 0 (hm_A w s.heap.size)) (hm_up w ia (mE K (fun (i : Nat) => if 4096 * x + a ≤ (i : Int) ∧ (i : Int) < 4096 * x + j then y else I i))) 38 [(6, .int (iI (j))), (5, .int (iI (sm))), (0, .ref (q)), (1, .int (iI (x))), (2, .int (iI (a))), (3, .int (iI (b))), (4, .int (bI (y)))] [] := by
            intro k
            induction k with
            | zero =>
              intro j sm hk g0 g1 hs
              exact absurd hk (by omega)
            | succ k ih =>
              intro j sm hk g0 g1 hs
              have hm2 := hm.up (fun (i : Nat) => if 4096 * x + a ≤ (i : Int) ∧ (i : Int) < 4096 * x + j then y else I i)
              have hc := ct_le (fun v => mS I x v ^^ y) a.toNat (j - a).toNat
              have hJ : mS (fun (i : Nat) => if 4096 * x + a ≤ (i : Int) ∧ (i : Int) < 4096 * x + j then y else I i) x j.toNat = mS I x j.toNat := by show (if _ then _ else _) = _; rw [if_neg (by omega)]; rfl
              refine hv_iload E dX7_change_38 0 rfl rfl ?_
              refine hv_iload_n E dX7_change_40 rfl 5 rfl rfl ?_
              refine hv_icmp_gt E 87 dX7_change_41 (by decide) ⟨by omega, by omega⟩ ⟨by omega, by omega⟩ rfl (fun c5 => ?_) (fun c5 => ?_)
              · skip
                refine hv_iload E dX7_change_87 1 rfl rfl ?_
                exact hv_iret E dX7_change_89 hr ⟨by rw [if_pos (by omega), if_pos (by omega), hs, show j - a = b - a + 1 by omega], by
                        rw [if_pos (by omega)]
                        congr 2
                        funext i
                        congr 1
                        apply propext; omega⟩
              · skip
                refine hv_iload E dX7_change_44 1 rfl rfl ?_
                refine hv_aload_n E dX7_change_46 rfl 2 rfl rfl ?_
                refine hv_iload_n E dX7_change_47 rfl 3 rfl rfl ?_
                refine hv_iload E dX7_change_48 0 rfl rfl ?_
                refine hv_callVI (na := 2) (As := [.int (iI (x)), .int (iI (j))]) (st := [.int (iI (sm))]) E (c7_is l D K x j (by omega) (by omega) (by omega) (by omega) hm2) dX7_change_50 hm2.1 (show vwCl[6]? = some (RX7, TX7, 7) from rfl) gL_X7_28 gV_X7_is gI_X7_is gC_X7_is gZ_X7 (by decide +kernel) rfl ⟨Nat.le_of_ble_eq_true rfl, Nat.le_of_ble_eq_true rfl⟩ (Nat.le_of_ble_eq_true rfl) ⟨Nat.zero_le _, Nat.zero_le _⟩ rfl rfl (fun r w2 hp => ?_)
                rw [hp.1, hp.2]
                show hm_V p l e (hm_rm 2 0 0) s m args below meth c D (hm_A w s.heap.size) 7 0 0 (MQ below (hm_Qi D w s.heap.size (fun r w2 => r = iI (if 0 ≤ x ∧ x < 8 then (if 0 ≤ a ∧ a ≤ b ∧ b < 4096 then (ct (fun v => mS I x v ^^ y) a.toNat (b - a + 1).toNat : Nat) else -3) else -2) ∧ w2 = if (0 ≤ x ∧ x < 8) ∧ 0 ≤ a ∧ a ≤ b ∧ b < 4096 then hm_up w ia (mE K (fun (j : Nat) => if 4096 * x + a ≤ (j : Int) ∧ (j : Int) ≤ 4096 * x + b then y else I j)) else w)) args s 0 0 (hm_A w s.heap.size)) (hm_up w ia (mE K (fun (i : Nat) => if 4096 * x + a ≤ (i : Int) ∧ (i : Int) < 4096 * x + j then y else I i))) 53 [(6, .int (iI (j))), (5, .int (iI (sm))), (0, .ref (q)), (1, .int (iI (x))), (2, .int (iI (a))), (3, .int (iI (b))), (4, .int (bI (y)))] [.int (bI (mS (fun (i : Nat) => if 4096 * x + a ≤ (i : Int) ∧ (i : Int) < 4096 * x + j then y else I i) x (j).toNat)), .int (iI (sm))]
                refine hv_iload E dX7_change_53 6 rfl rfl ?_
                refine hv_icmp_eqB E 62 dX7_change_55 (by decide) rfl (fun c6 => ?_) (fun c6 => ?_)
                · skip
                  refine hv_iconst E dX7_change_62 rfl ?_
                  refine hv_iadd E dX7_change_63 rfl ?_
                  refine hv_istore (lv2 := [(5, .int (iI (sm + 0))), (6, .int (iI (j))), (0, .ref (q)), (1, .int (iI (x))), (2, .int (iI (a))), (3, .int (iI (b))), (4, .int (bI (y)))]) E dX7_change_64 (by decide) rfl rfl ?_
                  refine hv_aload_n E dX7_change_66 rfl 2 rfl rfl ?_
                  refine hv_get (kf := 0) E dX7_change_67 (show vwCl[6]? = some (RX7, TX7, 7) from rfl) (by decide) gW_X7 gF_X7_8 rfl hm2.1 rfl rfl ?_
                  refine hv_sipush E dX7_change_70 (by decide +kernel) rfl ?_
                  refine hv_iload_n E dX7_change_73 rfl 3 rfl rfl ?_
                  refine hv_imul E dX7_change_74 rfl ?_
                  refine hv_iload E dX7_change_75 1 rfl rfl ?_
                  refine hv_iadd E dX7_change_77 rfl ?_
                  refine hv_iload E dX7_change_78 6 rfl rfl ?_
                  refine hv_zast E dX7_change_80 hm2.2 (by omega) (by omega) (by decide) rfl ?_
                  refine hv_mem (show hm_up (hm_up w ia (mE K (fun (i : Nat) => if 4096 * x + a ≤ (i : Int) ∧ (i : Int) < 4096 * x + j then y else I i))) ia (mE K (va_up (fun (i : Nat) => if 4096 * x + a ≤ (i : Int) ∧ (i : Int) < 4096 * x + j then y else I i) (4096 * x + j).toNat y)) = hm_up w ia (mE K (fun (i : Nat) => if 4096 * x + a ≤ (i : Int) ∧ (i : Int) < 4096 * x + (j + 1) then y else I i)) from (by
                            rw [hm_uu]
                            congr 2
                            funext i
                            show (if i = _ then y else _) = _
                            by_cases hi : i = (4096 * x + j).toNat
                            · rw [if_pos hi, if_pos (by omega)]
                            · rw [if_neg hi]
                              show (if _ then _ else _) = _
                              by_cases hi2 : 4096 * x + a ≤ (i : Int) ∧ (i : Int) < 4096 * x + j
                              · rw [if_pos hi2, if_pos (by omega)]
                              · rw [if_neg hi2, if_neg (by omega)])) ?_
                  refine hv_iinc (lv2 := [(6, .int (iI (j + 1))), (5, .int (iI (sm + 0))), (0, .ref (q)), (1, .int (iI (x))), (2, .int (iI (a))), (3, .int (iI (b))), (4, .int (bI (y)))]) E dX7_change_81 1 rfl rfl (by decide) rfl rfl ?_
                  refine hv_goto E 38 dX7_change_84 (by decide) ?_
                  refine hv_sub (lv2 := [(6, .int (iI (j + 1))), (5, .int (iI (sm + 0))), (0, .ref (q)), (1, .int (iI (x))), (2, .int (iI (a))), (3, .int (iI (b))), (4, .int (bI (y)))]) [0, 1, 2, 3, 4, 5, 6] rfl ?_
                  exact ih (j + 1) _ (by omega) (by omega) (by omega) (by
                            rw [show (j + 1 - a).toNat = (j - a).toNat + 1 by omega, ct_succ, show a.toNat + (j - a).toNat = j.toNat by omega, hs]
                            rw [hJ] at c6
                            cases e1 : mS I x j.toNat <;> cases e2 : y <;> simp [e1, e2] at c6 ⊢)
                · skip
                  refine hv_iconst E dX7_change_58 rfl ?_
                  refine hv_goto E 63 dX7_change_59 (by decide) ?_
                  refine hv_iadd E dX7_change_63 rfl ?_
                  refine hv_istore (lv2 := [(5, .int (iI (sm + 1))), (6, .int (iI (j))), (0, .ref (q)), (1, .int (iI (x))), (2, .int (iI (a))), (3, .int (iI (b))), (4, .int (bI (y)))]) E dX7_change_64 (by decide) rfl rfl ?_
                  refine hv_aload_n E dX7_change_66 rfl 2 rfl rfl ?_
                  refine hv_get (kf := 0) E dX7_change_67 (show vwCl[6]? = some (RX7, TX7, 7) from rfl) (by decide) gW_X7 gF_X7_8 rfl hm2.1 rfl rfl ?_
                  refine hv_sipush E dX7_change_70 (by decide +kernel) rfl ?_
                  refine hv_iload_n E dX7_change_73 rfl 3 rfl rfl ?_
                  refine hv_imul E dX7_change_74 rfl ?_
                  refine hv_iload E dX7_change_75 1 rfl rfl ?_
                  refine hv_iadd E dX7_change_77 rfl ?_
                  refine hv_iload E dX7_change_78 6 rfl rfl ?_
                  refine hv_zast E dX7_change_80 hm2.2 (by omega) (by omega) (by decide) rfl ?_
                  refine hv_mem (show hm_up (hm_up w ia (mE K (fun (i : Nat) => if 4096 * x + a ≤ (i : Int) ∧ (i : Int) < 4096 * x + j then y else I i))) ia (mE K (va_up (fun (i : Nat) => if 4096 * x + a ≤ (i : Int) ∧ (i : Int) < 4096 * x + j then y else I i) (4096 * x + j).toNat y)) = hm_up w ia (mE K (fun (i : Nat) => if 4096 * x + a ≤ (i : Int) ∧ (i : Int) < 4096 * x + (j + 1) then y else I i)) from (by
                            rw [hm_uu]
                            congr 2
                            funext i
                            show (if i = _ then y else _) = _
                            by_cases hi : i = (4096 * x + j).toNat
                            · rw [if_pos hi, if_pos (by omega)]
                            · rw [if_neg hi]
                              show (if _ then _ else _) = _
                              by_cases hi2 : 4096 * x + a ≤ (i : Int) ∧ (i : Int) < 4096 * x + j
                              · rw [if_pos hi2, if_pos (by omega)]
                              · rw [if_neg hi2, if_neg (by omega)])) ?_
                  refine hv_iinc (lv2 := [(6, .int (iI (j + 1))), (5, .int (iI (sm + 1))), (0, .ref (q)), (1, .int (iI (x))), (2, .int (iI (a))), (3, .int (iI (b))), (4, .int (bI (y)))]) E dX7_change_81 1 rfl rfl (by decide) rfl rfl ?_
                  refine hv_goto E 38 dX7_change_84 (by decide) ?_
                  refine hv_sub (lv2 := [(6, .int (iI (j + 1))), (5, .int (iI (sm + 1))), (0, .ref (q)), (1, .int (iI (x))), (2, .int (iI (a))), (3, .int (iI (b))), (4, .int (bI (y)))]) [0, 1, 2, 3, 4, 5, 6] rfl ?_
                  exact ih (j + 1) _ (by omega) (by omega) (by omega) (by
                            rw [show (j + 1 - a).toNat = (j - a).toNat + 1 by omega, ct_succ, show a.toNat + (j - a).toNat = j.toNat by omega, hs]
                            rw [hJ] at c6
                            cases e1 : mS I x j.toNat <;> cases e2 : y <;> simp [e1, e2] at c6 ⊢)
          refine hv_sub (lv2 := [(6, .int (iI (a))), (5, .int (iI (0))), (0, .ref (q)), (1, .int (iI (x))), (2, .int (iI (a))), (3, .int (iI (b))), (4, .int (bI (y)))]) [0, 1, 2, 3, 4, 5, 6] rfl ?_
          exact LP (b - a + 2).toNat a 0 (by omega) (by omega) (by omega) (by rw [show (a - a).toNat = 0 by omega]; rfl)
        · skip
          refine hv_bipush E dX7_change_29 (by decide +kernel) rfl ?_
          exact hv_iret E dX7_change_31 hr ⟨(by (repeat (first | rw [if_pos (by omega)] | rw [if_neg (by omega)])) <;> first | done | rfl), (by (repeat (first | rw [if_pos (by omega)] | rw [if_neg (by omega)])) <;> first | done | rfl)⟩
  · have c1 := of_decide_eq_false c1
    refine hv_bipush E dX7_change_7 (by decide +kernel) rfl ?_
    exact hv_iret E dX7_change_9 hr ⟨(by (repeat (first | rw [if_pos (by omega)] | rw [if_neg (by omega)])) <;> first | done | rfl), (by (repeat (first | rw [if_pos (by omega)] | rw [if_neg (by omega)])) <;> first | done | rfl)⟩
set_option maxHeartbeats 4000000 in
set_option maxRecDepth 100000 in
theorem c7_fill (l : Launch) (D : va_G) (K : Nat → ClassId) {w : hm_M} {q ia : Nat} {fs : List Value} {I : Nat → Bool} (x a b : Int) (hx : iB x) (ha : iB a) (hb : iB b) (hm : mI K w q ia fs I)  : hm_Ci l D K yX7_fill cX7_fill 4 .int 3 [.ref (q), .int (iI (x)), .int (iI (a)), .int (iI (b))] w 0 0 (fun r w2 => r = iI (if 0 ≤ x ∧ x < 8 then (if 0 ≤ a ∧ a ≤ b ∧ b < 4096 then (ct (fun v => mS I x v ^^ true) a.toNat (b - a + 1).toNat : Nat) else -3) else -2) ∧ w2 = if (0 ≤ x ∧ x < 8) ∧ 0 ≤ a ∧ a ≤ b ∧ b < 4096 then hm_up w ia (mE K (fun (j : Nat) => if 4096 * x + a ≤ (j : Int) ∧ (j : Int) ≤ 4096 * x + b then true else I j)) else w) := by
  refine hm_enterI (by decide) (Nat.le_of_ble_eq_true rfl) ?_
  intro p e s m args below meth c E hr hnm
  show hm_V p l e (hm_rm 3 0 0) s m args below meth c D (hm_A w s.heap.size) 4 0 0 (MQ below (hm_Qi D w s.heap.size (fun r w2 => r = iI (if 0 ≤ x ∧ x < 8 then (if 0 ≤ a ∧ a ≤ b ∧ b < 4096 then (ct (fun v => mS I x v ^^ true) a.toNat (b - a + 1).toNat : Nat) else -3) else -2) ∧ w2 = if (0 ≤ x ∧ x < 8) ∧ 0 ≤ a ∧ a ≤ b ∧ b < 4096 then hm_up w ia (mE K (fun (j : Nat) => if 4096 * x + a ≤ (j : Int) ∧ (j : Int) ≤ 4096 * x + b then true else I j)) else w)) args s 0 0 (hm_A w s.heap.size)) w 0 [(0, .ref (q)), (1, .int (iI (x))), (2, .int (iI (a))), (3, .int (iI (b)))] []
  refine hv_aload_n E dX7_fill_0 rfl 0 rfl rfl ?_
  refine hv_iload_n E dX7_fill_1 rfl 1 rfl rfl ?_
  refine hv_iload_n E dX7_fill_2 rfl 2 rfl rfl ?_
  refine hv_iload_n E dX7_fill_3 rfl 3 rfl rfl ?_
  refine hv_iconst E dX7_fill_4 rfl ?_
  refine hv_topi (show iI (1) = bI (true) from rfl) ?_
  refine hv_callVI (na := 4) (As := [.int (iI (x)), .int (iI (a)), .int (iI (b)), .int (bI (true))]) (st := []) E (c7_change l D K x a b true hx ha hb hm) dX7_fill_5 hm.1 (show vwCl[6]? = some (RX7, TX7, 7) from rfl) gL_X7_32 gV_X7_change gI_X7_change gC_X7_change gZ_X7 (by decide +kernel) rfl ⟨Nat.le_of_ble_eq_true rfl, Nat.le_of_ble_eq_true rfl⟩ (Nat.le_of_ble_eq_true rfl) ⟨Nat.zero_le _, Nat.zero_le _⟩ rfl rfl (fun r w2 hp => ?_)
  exact hv_iret E dX7_fill_8 hr hp
set_option maxHeartbeats 4000000 in
set_option maxRecDepth 100000 in
theorem c7_drop (l : Launch) (D : va_G) (K : Nat → ClassId) {w : hm_M} {q ia : Nat} {fs : List Value} {I : Nat → Bool} (x a b : Int) (hx : iB x) (ha : iB a) (hb : iB b) (hm : mI K w q ia fs I)  : hm_Ci l D K yX7_drop cX7_drop 4 .int 3 [.ref (q), .int (iI (x)), .int (iI (a)), .int (iI (b))] w 0 0 (fun r w2 => r = iI (if 0 ≤ x ∧ x < 8 then (if 0 ≤ a ∧ a ≤ b ∧ b < 4096 then (ct (fun v => mS I x v ^^ false) a.toNat (b - a + 1).toNat : Nat) else -3) else -2) ∧ w2 = if (0 ≤ x ∧ x < 8) ∧ 0 ≤ a ∧ a ≤ b ∧ b < 4096 then hm_up w ia (mE K (fun (j : Nat) => if 4096 * x + a ≤ (j : Int) ∧ (j : Int) ≤ 4096 * x + b then false else I j)) else w) := by
  refine hm_enterI (by decide) (Nat.le_of_ble_eq_true rfl) ?_
  intro p e s m args below meth c E hr hnm
  show hm_V p l e (hm_rm 3 0 0) s m args below meth c D (hm_A w s.heap.size) 4 0 0 (MQ below (hm_Qi D w s.heap.size (fun r w2 => r = iI (if 0 ≤ x ∧ x < 8 then (if 0 ≤ a ∧ a ≤ b ∧ b < 4096 then (ct (fun v => mS I x v ^^ false) a.toNat (b - a + 1).toNat : Nat) else -3) else -2) ∧ w2 = if (0 ≤ x ∧ x < 8) ∧ 0 ≤ a ∧ a ≤ b ∧ b < 4096 then hm_up w ia (mE K (fun (j : Nat) => if 4096 * x + a ≤ (j : Int) ∧ (j : Int) ≤ 4096 * x + b then false else I j)) else w)) args s 0 0 (hm_A w s.heap.size)) w 0 [(0, .ref (q)), (1, .int (iI (x))), (2, .int (iI (a))), (3, .int (iI (b)))] []
  refine hv_aload_n E dX7_drop_0 rfl 0 rfl rfl ?_
  refine hv_iload_n E dX7_drop_1 rfl 1 rfl rfl ?_
  refine hv_iload_n E dX7_drop_2 rfl 2 rfl rfl ?_
  refine hv_iload_n E dX7_drop_3 rfl 3 rfl rfl ?_
  refine hv_iconst E dX7_drop_4 rfl ?_
  refine hv_topi (show iI (0) = bI (false) from rfl) ?_
  refine hv_callVI (na := 4) (As := [.int (iI (x)), .int (iI (a)), .int (iI (b)), .int (bI (false))]) (st := []) E (c7_change l D K x a b false hx ha hb hm) dX7_drop_5 hm.1 (show vwCl[6]? = some (RX7, TX7, 7) from rfl) gL_X7_32 gV_X7_change gI_X7_change gC_X7_change gZ_X7 (by decide +kernel) rfl ⟨Nat.le_of_ble_eq_true rfl, Nat.le_of_ble_eq_true rfl⟩ (Nat.le_of_ble_eq_true rfl) ⟨Nat.zero_le _, Nat.zero_le _⟩ rfl rfl (fun r w2 hp => ?_)
  exact hv_iret E dX7_drop_8 hr hp
