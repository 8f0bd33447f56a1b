set_option maxHeartbeats 4000000 in
set_option maxRecDepth 100000 in
theorem c6_put (l : Launch) (D : va_G) (K : Nat → ClassId) {w : hm_M} {ad : Nat → Nat} {F : Nat → Nat → Int32} {tf : Nat → Int32} {L P : Int} {df : Nat → Int32} (x v : Int) (hx : iB x) (hv : iB v) (hk : kAt K w ad F tf L P df)  : hm_Ci l D K yX6_put cX6_put 3 .int 2 [.ref (ad 0), .int (iI (x)), .int (iI (v))] w 0 0 (fun r w2 => r = iI (if 0 ≤ x ∧ x < 8 then (if 0 ≤ v ∧ v < 4096 then (if mem (F x.toNat) v.toNat then 0 else 1) else -3) else -2) ∧ ∃ F2 : Nat → Nat → Int32, kAt K w2 ad F2 tf L P df ∧ kFr ad w w2 ∧ ∀ s u : Nat, s < 8 → u < 4096 → mem (F2 s) u = if ((0 ≤ x ∧ x < 8) ∧ 0 ≤ v ∧ v < 4096) ∧ s = x.toNat ∧ u = v.toNat then true else mem (F s) u) := by
  refine hm_enterI (by decide) (Nat.le_of_ble_eq_true rfl) ?_
  intro p e s m args below meth c E hr hnm
  show hm_V p l e (hm_rm 2 0 0) s m args below meth c D (hm_A w s.heap.size) 3 0 0 (MQ below (hm_Qi D w s.heap.size (fun r w2 => r = iI (if 0 ≤ x ∧ x < 8 then (if 0 ≤ v ∧ v < 4096 then (if mem (F x.toNat) v.toNat then 0 else 1) else -3) else -2) ∧ ∃ F2 : Nat → Nat → Int32, kAt K w2 ad F2 tf L P df ∧ kFr ad w w2 ∧ ∀ s u : Nat, s < 8 → u < 4096 → mem (F2 s) u = if ((0 ≤ x ∧ x < 8) ∧ 0 ≤ v ∧ v < 4096) ∧ s = x.toNat ∧ u = v.toNat then true else mem (F s) u)) args s 0 0 (hm_A w s.heap.size)) w 0 [(0, .ref (ad 0)), (1, .int (iI (x))), (2, .int (iI (v)))] []
  refine hv_iload_n E dX6_put_0 rfl 1 rfl rfl ?_
  refine hv_callSI (na := 1) (As := [.int (iI (x))]) (st := []) E (c6_isSet l D K x hx) dX6_put_1 gL_X6_42 gS_X6_isSet gC_X6_isSet gZ_X6 (by decide +kernel) rfl ⟨Nat.le_of_ble_eq_true rfl, Nat.le_of_ble_eq_true rfl⟩ (Nat.le_of_ble_eq_true rfl) ⟨Nat.zero_le _, Nat.zero_le _⟩ rfl rfl (fun r w2 hp => ?_)
  rw [hp.1, hp.2]
  show hm_V p l e (hm_rm 2 0 0) s m args below meth c D (hm_A w s.heap.size) 3 0 0 (MQ below (hm_Qi D w s.heap.size (fun r w2 => r = iI (if 0 ≤ x ∧ x < 8 then (if 0 ≤ v ∧ v < 4096 then (if mem (F x.toNat) v.toNat then 0 else 1) else -3) else -2) ∧ ∃ F2 : Nat → Nat → Int32, kAt K w2 ad F2 tf L P df ∧ kFr ad w w2 ∧ ∀ s u : Nat, s < 8 → u < 4096 → mem (F2 s) u = if ((0 ≤ x ∧ x < 8) ∧ 0 ≤ v ∧ v < 4096) ∧ s = x.toNat ∧ u = v.toNat then true else mem (F s) u)) args s 0 0 (hm_A w s.heap.size)) w 4 [(0, .ref (ad 0)), (1, .int (iI (x))), (2, .int (iI (v)))] [.int (bI (decide (0 ≤ x ∧ x < 8)))]
  refine hv_if_neB E 10 dX6_put_4 (by decide) rfl (fun c1 => ?_) (fun c1 => ?_)
  · have c1 := of_decide_eq_true c1
    refine hv_iload_n E dX6_put_10 rfl 2 rfl rfl ?_
    refine hv_callSI (na := 1) (As := [.int (iI (v))]) (st := []) E (c6_isNumber l D K v hv) dX6_put_11 gL_X6_46 gS_X6_isNumber gC_X6_isNumber gZ_X6 (by decide +kernel) rfl ⟨Nat.le_of_ble_eq_true rfl, Nat.le_of_ble_eq_true rfl⟩ (Nat.le_of_ble_eq_true rfl) ⟨Nat.zero_le _, Nat.zero_le _⟩ rfl rfl (fun r w2 hp => ?_)
    rw [hp.1, hp.2]
    show hm_V p l e (hm_rm 2 0 0) s m args below meth c D (hm_A w s.heap.size) 3 0 0 (MQ below (hm_Qi D w s.heap.size (fun r w2 => r = iI (if 0 ≤ x ∧ x < 8 then (if 0 ≤ v ∧ v < 4096 then (if mem (F x.toNat) v.toNat then 0 else 1) else -3) else -2) ∧ ∃ F2 : Nat → Nat → Int32, kAt K w2 ad F2 tf L P df ∧ kFr ad w w2 ∧ ∀ s u : Nat, s < 8 → u < 4096 → mem (F2 s) u = if ((0 ≤ x ∧ x < 8) ∧ 0 ≤ v ∧ v < 4096) ∧ s = x.toNat ∧ u = v.toNat then true else mem (F s) u)) args s 0 0 (hm_A w s.heap.size)) w 14 [(0, .ref (ad 0)), (1, .int (iI (x))), (2, .int (iI (v)))] [.int (bI (decide (0 ≤ v ∧ v < 4096)))]
    refine hv_if_neB E 20 dX6_put_14 (by decide) rfl (fun c2 => ?_) (fun c2 => ?_)
    · have c2 := of_decide_eq_true c2
      refine hv_aload_n E dX6_put_20 rfl 0 rfl rfl ?_
      refine hv_get (kf := 0) E dX6_put_21 (show vwCl[5]? = some (RX6, TX6, 4) from rfl) (by decide) gW_X6 gF_X6_11 rfl hk.o rfl rfl ?_
      refine hv_iload_n E dX6_put_24 rfl 1 rfl rfl ?_
      obtain ⟨fa, hfa, hfb⟩ := hk.2.1
      refine hv_aaldN E dX6_put_25 hfa (by omega) (by omega) (by decide) (hfb (x).toNat (by omega)) rfl ?_
      refine hv_iload_n E dX6_put_26 rfl 2 rfl rfl ?_
      refine hv_callVI (na := 1) (As := [.int (iI (v))]) (st := []) E (c2_holds l D K v hv (hk.n (show (x).toNat < 8 by omega))) dX6_put_27 (hk.n (show (x).toNat < 8 by omega)).1 (show vwCl[1]? = some (RX2, TX2, 1) from rfl) gL_X6_49 gV_X2_holds gI_X2_holds gC_X2_holds gZ_X2 (by decide +kernel) rfl ⟨Nat.le_of_ble_eq_true rfl, Nat.le_of_ble_eq_true rfl⟩ (Nat.le_of_ble_eq_true rfl) ⟨Nat.zero_le _, Nat.zero_le _⟩ rfl rfl (fun r w2 hp => ?_)
      rw [hp.1, hp.2]
      show hm_V p l e (hm_rm 2 0 0) s m args below meth c D (hm_A w s.heap.size) 3 0 0 (MQ below (hm_Qi D w s.heap.size (fun r w2 => r = iI (if 0 ≤ x ∧ x < 8 then (if 0 ≤ v ∧ v < 4096 then (if mem (F x.toNat) v.toNat then 0 else 1) else -3) else -2) ∧ ∃ F2 : Nat → Nat → Int32, kAt K w2 ad F2 tf L P df ∧ kFr ad w w2 ∧ ∀ s u : Nat, s < 8 → u < 4096 → mem (F2 s) u = if ((0 ≤ x ∧ x < 8) ∧ 0 ≤ v ∧ v < 4096) ∧ s = x.toNat ∧ u = v.toNat then true else mem (F s) u)) args s 0 0 (hm_A w s.heap.size)) w 30 [(0, .ref (ad 0)), (1, .int (iI (x))), (2, .int (iI (v)))] [.int (bI (decide (0 ≤ v ∧ v < 4096) && mem (F x.toNat) v.toNat))]
      refine hv_if_eqB E 35 dX6_put_30 (by decide) rfl (fun c3 => ?_) (fun c3 => ?_)
      · refine hv_aload_n E dX6_put_35 rfl 0 rfl rfl ?_
        refine hv_get (kf := 0) E dX6_put_36 (show vwCl[5]? = some (RX6, TX6, 4) from rfl) (by decide) gW_X6 gF_X6_11 rfl hk.o rfl rfl ?_
        refine hv_iload_n E dX6_put_39 rfl 1 rfl rfl ?_
        obtain ⟨fa, hfa, hfb⟩ := hk.2.1
        refine hv_aaldN E dX6_put_40 hfa (by omega) (by omega) (by decide) (hfb (x).toNat (by omega)) rfl ?_
        refine hv_iload_n E dX6_put_41 rfl 2 rfl rfl ?_
        refine hv_callVV (na := 1) (As := [.int (iI (v))]) (st := []) E (c2_add l D K v (by omega) (by omega) (hk.n (show (x).toNat < 8 by omega))) dX6_put_42 (hk.n (show (x).toNat < 8 by omega)).1 (show vwCl[1]? = some (RX2, TX2, 1) from rfl) gL_X6_52 gV_X2_add gI_X2_add gC_X2_add gZ_X2 (by decide +kernel) rfl ⟨Nat.le_of_ble_eq_true rfl, Nat.le_of_ble_eq_true rfl⟩ (Nat.le_of_ble_eq_true rfl) ⟨Nat.zero_le _, Nat.zero_le _⟩ rfl rfl (fun w2 hp => ?_)
        obtain ⟨f2, e2, hf2⟩ := hp
        rw [e2]
        show hm_V p l e (hm_rm 2 0 0) s m args below meth c D (hm_A w s.heap.size) 3 0 0 (MQ below (hm_Qi D w s.heap.size (fun r w2 => r = iI (if 0 ≤ x ∧ x < 8 then (if 0 ≤ v ∧ v < 4096 then (if mem (F x.toNat) v.toNat then 0 else 1) else -3) else -2) ∧ ∃ F2 : Nat → Nat → Int32, kAt K w2 ad F2 tf L P df ∧ kFr ad w w2 ∧ ∀ s u : Nat, s < 8 → u < 4096 → mem (F2 s) u = if ((0 ≤ x ∧ x < 8) ∧ 0 ≤ v ∧ v < 4096) ∧ s = x.toNat ∧ u = v.toNat then true else mem (F s) u)) args s 0 0 (hm_A w s.heap.size)) (hm_up w (ad (20 + (x).toNat)) (.inl (K 0, 128, .inl f2))) 45 [(0, .ref (ad 0)), (1, .int (iI (x))), (2, .int (iI (v)))] []
        refine hv_iconst E dX6_put_45 rfl ?_
        exact hv_iret E dX6_put_46 hr ⟨by
              have hh := c3
              rw [decide_eq_true (show 0 ≤ v ∧ v < 4096 by omega), Bool.true_and] at hh
              rw [if_pos (by omega), if_pos (by omega), hh]; rfl, _, hk.set (show x.toNat < 8 by omega) f2, kFr.up _ (by omega), fun s u hs hu => by
              by_cases hx2 : s = x.toNat
              · rw [if_pos hx2, hf2, hx2]
                by_cases hu2 : u = v.toNat
                · rw [if_pos ⟨by omega, rfl, hu2⟩, decide_eq_true hu2, Bool.or_true]
                · rw [if_neg (by omega), decide_eq_false hu2, Bool.or_false]
              · rw [if_neg hx2, if_neg (by omega)]⟩
      · refine hv_iconst E dX6_put_33 rfl ?_
        exact hv_iret E dX6_put_34 hr ⟨by
              have hh := c3
              rw [decide_eq_true (show 0 ≤ v ∧ v < 4096 by omega), Bool.true_and] at hh
              rw [if_pos (by omega), if_pos (by omega), hh]; rfl, F, hk, kFr.rf, fun s u _ _ => by
              have hh := c3
              rw [decide_eq_true (show 0 ≤ v ∧ v < 4096 by omega), Bool.true_and] at hh
              split
              · rename_i hc
                rw [hc.2.1, hc.2.2]; exact hh
              · rfl⟩
    · have c2 := of_decide_eq_false c2
      refine hv_bipush E dX6_put_17 (by decide +kernel) rfl ?_
      exact hv_iret E dX6_put_19 hr ⟨(by (repeat (first | rw [if_pos (by omega)] | rw [if_neg (by omega)])) <;> first | done | rfl), F, hk, kFr.rf, fun s u _ _ => by rw [if_neg (by omega)]⟩
  · have c1 := of_decide_eq_false c1
    refine hv_bipush E dX6_put_7 (by decide +kernel) rfl ?_
    exact hv_iret E dX6_put_9 hr ⟨(by (repeat (first | rw [if_pos (by omega)] | rw [if_neg (by omega)])) <;> first | done | rfl), F, hk, kFr.rf, fun s u _ _ => by rw [if_neg (by omega)]⟩
set_option maxHeartbeats 4000000 in
set_option maxRecDepth 100000 in
theorem c6_fill (l : Launch) (D : va_G) (K : Nat → ClassId) {w : hm_M} {ad : Nat → Nat} {F : Nat → Nat → Int32} {tf : Nat → Int32} {L P : Int} {df : Nat → Int32} (x a b : Int) (hx : iB x) (ha : iB a) (hb : iB b) (hk : kAt K w ad F tf L P df)  : hm_Ci l D K yX6_fill cX6_fill 5 .int 3 [.ref (ad 0), .int (iI (x)), .int (iI (a)), .int (iI (b))] w 0 0 (fun r w2 => r = iI (if 0 ≤ x ∧ x < 8 then (if 0 ≤ a ∧ a ≤ b ∧ b < 4096 then (b - a + 1 - (ct (mem (F x.toNat)) a.toNat (b - a + 1).toNat : Nat)) else -3) else -2) ∧ ∃ F2 : Nat → Nat → Int32, kAt K w2 ad F2 tf L P df ∧ kFr ad w w2 ∧ ∀ s u : Nat, s < 8 → u < 4096 → mem (F2 s) u = if ((0 ≤ x ∧ x < 8) ∧ 0 ≤ a ∧ a ≤ b ∧ b < 4096) ∧ s = x.toNat ∧ a ≤ (u : Int) ∧ (u : Int) ≤ b then true else mem (F s) u) := by
  refine hm_enterI (by decide) (Nat.le_of_ble_eq_true rfl) ?_
  intro p e s m args below meth c E hr hnm
  show hm_V p l e (hm_rm 3 0 0) s m args below meth c D (hm_A w s.heap.size) 5 0 0 (MQ below (hm_Qi D w s.heap.size (fun r w2 => r = iI (if 0 ≤ x ∧ x < 8 then (if 0 ≤ a ∧ a ≤ b ∧ b < 4096 then (b - a + 1 - (ct (mem (F x.toNat)) a.toNat (b - a + 1).toNat : Nat)) else -3) else -2) ∧ ∃ F2 : Nat → Nat → Int32, kAt K w2 ad F2 tf L P df ∧ kFr ad w w2 ∧ ∀ s u : Nat, s < 8 → u < 4096 → mem (F2 s) u = if ((0 ≤ x ∧ x < 8) ∧ 0 ≤ a ∧ a ≤ b ∧ b < 4096) ∧ s = x.toNat ∧ a ≤ (u : Int) ∧ (u : Int) ≤ b then true else mem (F s) u)) args s 0 0 (hm_A w s.heap.size)) w 0 [(0, .ref (ad 0)), (1, .int (iI (x))), (2, .int (iI (a))), (3, .int (iI (b)))] []
  refine hv_iload_n E dX6_fill_0 rfl 1 rfl rfl ?_
  refine hv_callSI (na := 1) (As := [.int (iI (x))]) (st := []) E (c6_isSet l D K x hx) dX6_fill_1 gL_X6_42 gS_X6_isSet gC_X6_isSet gZ_X6 (by decide +kernel) rfl ⟨Nat.le_of_ble_eq_true rfl, Nat.le_of_ble_eq_true rfl⟩ (Nat.le_of_ble_eq_true rfl) ⟨Nat.zero_le _, Nat.zero_le _⟩ rfl rfl (fun r w2 hp => ?_)
  rw [hp.1, hp.2]
  show hm_V p l e (hm_rm 3 0 0) s m args below meth c D (hm_A w s.heap.size) 5 0 0 (MQ below (hm_Qi D w s.heap.size (fun r w2 => r = iI (if 0 ≤ x ∧ x < 8 then (if 0 ≤ a ∧ a ≤ b ∧ b < 4096 then (b - a + 1 - (ct (mem (F x.toNat)) a.toNat (b - a + 1).toNat : Nat)) else -3) else -2) ∧ ∃ F2 : Nat → Nat → Int32, kAt K w2 ad F2 tf L P df ∧ kFr ad w w2 ∧ ∀ s u : Nat, s < 8 → u < 4096 → mem (F2 s) u = if ((0 ≤ x ∧ x < 8) ∧ 0 ≤ a ∧ a ≤ b ∧ b < 4096) ∧ s = x.toNat ∧ a ≤ (u : Int) ∧ (u : Int) ≤ b then true else mem (F s) u)) args s 0 0 (hm_A w s.heap.size)) w 4 [(0, .ref (ad 0)), (1, .int (iI (x))), (2, .int (iI (a))), (3, .int (iI (b)))] [.int (bI (decide (0 ≤ x ∧ x < 8)))]
  refine hv_if_neB E 10 dX6_fill_4 (by decide) rfl (fun c1 => ?_) (fun c1 => ?_)
  · have c1 := of_decide_eq_true c1
    refine hv_iload_n E dX6_fill_10 rfl 2 rfl rfl ?_
    refine hv_iload_n E dX6_fill_11 rfl 3 rfl rfl ?_
    refine hv_callSI (na := 2) (As := [.int (iI (a)), .int (iI (b))]) (st := []) E (c6_isSpan l D K a b ha hb) dX6_fill_12 gL_X6_56 gS_X6_isSpan gC_X6_isSpan gZ_X6 (by decide +kernel) rfl ⟨Nat.le_of_ble_eq_true rfl, Nat.le_of_ble_eq_true rfl⟩ (Nat.le_of_ble_eq_true rfl) ⟨Nat.zero_le _, Nat.zero_le _⟩ rfl rfl (fun r w2 hp => ?_)
    rw [hp.1, hp.2]
    show hm_V p l e (hm_rm 3 0 0) s m args below meth c D (hm_A w s.heap.size) 5 0 0 (MQ below (hm_Qi D w s.heap.size (fun r w2 => r = iI (if 0 ≤ x ∧ x < 8 then (if 0 ≤ a ∧ a ≤ b ∧ b < 4096 then (b - a + 1 - (ct (mem (F x.toNat)) a.toNat (b - a + 1).toNat : Nat)) else -3) else -2) ∧ ∃ F2 : Nat → Nat → Int32, kAt K w2 ad F2 tf L P df ∧ kFr ad w w2 ∧ ∀ s u : Nat, s < 8 → u < 4096 → mem (F2 s) u = if ((0 ≤ x ∧ x < 8) ∧ 0 ≤ a ∧ a ≤ b ∧ b < 4096) ∧ s = x.toNat ∧ a ≤ (u : Int) ∧ (u : Int) ≤ b then true else mem (F s) u)) args s 0 0 (hm_A w s.heap.size)) w 15 [(0, .ref (ad 0)), (1, .int (iI (x))), (2, .int (iI (a))), (3, .int (iI (b)))] [.int (bI (decide (0 ≤ a ∧ a ≤ b ∧ b < 4096)))]
    refine hv_if_neB E 21 dX6_fill_15 (by decide) rfl (fun c2 => ?_) (fun c2 => ?_)
    · have c2 := of_decide_eq_true c2
      refine hv_iload_n E dX6_fill_21 rfl 3 rfl rfl ?_
      refine hv_iload_n E dX6_fill_22 rfl 2 rfl rfl ?_
      refine hv_isub E dX6_fill_23 rfl ?_
      refine hv_iconst E dX6_fill_24 rfl ?_
      refine hv_iadd E dX6_fill_25 rfl ?_
      refine hv_aload_n E dX6_fill_26 rfl 0 rfl rfl ?_
      refine hv_get (kf := 0) E dX6_fill_27 (show vwCl[5]? = some (RX6, TX6, 4) from rfl) (by decide) gW_X6 gF_X6_11 rfl hk.o rfl rfl ?_
      refine hv_iload_n E dX6_fill_30 rfl 1 rfl rfl ?_
      obtain ⟨fa, hfa, hfb⟩ := hk.2.1
      refine hv_aaldN E dX6_fill_31 hfa (by omega) (by omega) (by decide) (hfb (x).toNat (by omega)) rfl ?_
      refine hv_iload_n E dX6_fill_32 rfl 2 rfl rfl ?_
      refine hv_iload_n E dX6_fill_33 rfl 3 rfl rfl ?_
      refine hv_callVI (na := 2) (As := [.int (iI (a)), .int (iI (b))]) (st := [.int (iI ((b - a) + 1))]) E (c2_amountIn l D K a b (by omega) (by omega) (by omega) (hk.n (show (x).toNat < 8 by omega))) dX6_fill_34 (hk.n (show (x).toNat < 8 by omega)).1 (show vwCl[1]? = some (RX2, TX2, 1) from rfl) gL_X6_60 gV_X2_amountIn gI_X2_amountIn gC_X2_amountIn gZ_X2 (by decide +kernel) rfl ⟨Nat.le_of_ble_eq_true rfl, Nat.le_of_ble_eq_true rfl⟩ (Nat.le_of_ble_eq_true rfl) ⟨Nat.zero_le _, Nat.zero_le _⟩ rfl rfl (fun r w2 hp => ?_)
      rw [hp.1, hp.2]
      show hm_V p l e (hm_rm 3 0 0) s m args below meth c D (hm_A w s.heap.size) 5 0 0 (MQ below (hm_Qi D w s.heap.size (fun r w2 => r = iI (if 0 ≤ x ∧ x < 8 then (if 0 ≤ a ∧ a ≤ b ∧ b < 4096 then (b - a + 1 - (ct (mem (F x.toNat)) a.toNat (b - a + 1).toNat : Nat)) else -3) else -2) ∧ ∃ F2 : Nat → Nat → Int32, kAt K w2 ad F2 tf L P df ∧ kFr ad w w2 ∧ ∀ s u : Nat, s < 8 → u < 4096 → mem (F2 s) u = if ((0 ≤ x ∧ x < 8) ∧ 0 ≤ a ∧ a ≤ b ∧ b < 4096) ∧ s = x.toNat ∧ a ≤ (u : Int) ∧ (u : Int) ≤ b then true else mem (F s) u)) args s 0 0 (hm_A w s.heap.size)) w 37 [(0, .ref (ad 0)), (1, .int (iI (x))), (2, .int (iI (a))), (3, .int (iI (b)))] [.int (iI (((ct (mem (F x.toNat)) a.toNat (b - a + 1).toNat : Nat) : Int))), .int (iI ((b - a) + 1))]
      refine hv_isub E dX6_fill_37 rfl ?_
      refine hv_istore (lv2 := [(4, .int (iI (((b - a) + 1) - (((ct (mem (F x.toNat)) a.toNat (b - a + 1).toNat : Nat) : Int))))), (0, .ref (ad 0)), (1, .int (iI (x))), (2, .int (iI (a))), (3, .int (iI (b)))]) E dX6_fill_38 (by decide) rfl rfl ?_
      refine hv_aload_n E dX6_fill_40 rfl 1 rfl rfl ?_
      refine hv_get (kf := 0) E dX6_fill_41 (show vwCl[5]? = some (RX6, TX6, 4) from rfl) (by decide) gW_X6 gF_X6_11 rfl hk.o rfl rfl ?_
      refine hv_iload_n E dX6_fill_44 rfl 2 rfl rfl ?_
      obtain ⟨fa, hfa, hfb⟩ := hk.2.1
      refine hv_aaldN E dX6_fill_45 hfa (by omega) (by omega) (by decide) (hfb (x).toNat (by omega)) rfl ?_
      refine hv_iload_n E dX6_fill_46 rfl 3 rfl rfl ?_
      refine hv_iload_n E dX6_fill_47 rfl 4 rfl rfl ?_
      refine hv_callVV (na := 2) (As := [.int (iI (a)), .int (iI (b))]) (st := []) E (c2_include l D K a b (by omega) (by omega) (by omega) (hk.n (show (x).toNat < 8 by omega))) dX6_fill_48 (hk.n (show (x).toNat < 8 by omega)).1 (show vwCl[1]? = some (RX2, TX2, 1) from rfl) gL_X6_64 gV_X2_include gI_X2_include gC_X2_include gZ_X2 (by decide +kernel) rfl ⟨Nat.le_of_ble_eq_true rfl, Nat.le_of_ble_eq_true rfl⟩ (Nat.le_of_ble_eq_true rfl) ⟨Nat.zero_le _, Nat.zero_le _⟩ rfl rfl (fun w2 hp => ?_)
      obtain ⟨f2, e2, hf2⟩ := hp
      rw [e2]
      show hm_V p l e (hm_rm 3 0 0) s m args below meth c D (hm_A w s.heap.size) 5 0 0 (MQ below (hm_Qi D w s.heap.size (fun r w2 => r = iI (if 0 ≤ x ∧ x < 8 then (if 0 ≤ a ∧ a ≤ b ∧ b < 4096 then (b - a + 1 - (ct (mem (F x.toNat)) a.toNat (b - a + 1).toNat : Nat)) else -3) else -2) ∧ ∃ F2 : Nat → Nat → Int32, kAt K w2 ad F2 tf L P df ∧ kFr ad w w2 ∧ ∀ s u : Nat, s < 8 → u < 4096 → mem (F2 s) u = if ((0 ≤ x ∧ x < 8) ∧ 0 ≤ a ∧ a ≤ b ∧ b < 4096) ∧ s = x.toNat ∧ a ≤ (u : Int) ∧ (u : Int) ≤ b then true else mem (F s) u)) args s 0 0 (hm_A w s.heap.size)) (hm_up w (ad (20 + (x).toNat)) (.inl (K 0, 128, .inl f2))) 51 [(4, .int (iI (((b - a) + 1) - (((ct (mem (F x.toNat)) a.toNat (b - a + 1).toNat : Nat) : Int))))), (0, .ref (ad 0)), (1, .int (iI (x))), (2, .int (iI (a))), (3, .int (iI (b)))] []
      refine hv_iload E dX6_fill_51 0 rfl rfl ?_
      exact hv_iret E dX6_fill_53 hr ⟨(by (repeat (first | rw [if_pos (by omega)] | rw [if_neg (by omega)])) <;> first | done | rfl), _, hk.set (show x.toNat < 8 by omega) f2, kFr.up _ (by omega), fun s u hs hu => by
            by_cases hx2 : s = x.toNat
            · rw [if_pos hx2, hf2, hx2]
              by_cases hu2 : a ≤ (u : Int) ∧ (u : Int) ≤ b
              · rw [if_pos ⟨by omega, rfl, hu2⟩, decide_eq_true hu2]; simp
              · rw [if_neg (by omega), decide_eq_false hu2]; simp
            · rw [if_neg hx2, if_neg (by omega)]⟩
    · have c2 := of_decide_eq_false c2
      refine hv_bipush E dX6_fill_18 (by decide +kernel) rfl ?_
      exact hv_iret E dX6_fill_20 hr ⟨(by (repeat (first | rw [if_pos (by omega)] | rw [if_neg (by omega)])) <;> first | done | rfl), F, hk, kFr.rf, fun s u _ _ => by rw [if_neg (by omega)]⟩
  · have c1 := of_decide_eq_false c1
    refine hv_bipush E dX6_fill_7 (by decide +kernel) rfl ?_
    exact hv_iret E dX6_fill_9 hr ⟨(by (repeat (first | rw [if_pos (by omega)] | rw [if_neg (by omega)])) <;> first | done | rfl), F, hk, kFr.rf, fun s u _ _ => by rw [if_neg (by omega)]⟩
set_option maxHeartbeats 4000000 in
set_option maxRecDepth 100000 in
theorem c6_drop (l : Launch) (D : va_G) (K : Nat → ClassId) {w : hm_M} {ad : Nat → Nat} {F : Nat → Nat → Int32} {tf : Nat → Int32} {L P : Int} {df : Nat → Int32} (x a b : Int) (hx : iB x) (ha : iB a) (hb : iB b) (hk : kAt K w ad F tf L P df)  : hm_Ci l D K yX6_drop cX6_drop 5 .int 3 [.ref (ad 0), .int (iI (x)), .int (iI (a)), .int (iI (b))] w 0 0 (fun r w2 => r = iI (if 0 ≤ x ∧ x < 8 then (if 0 ≤ a ∧ a ≤ b ∧ b < 4096 then ((ct (mem (F x.toNat)) a.toNat (b - a + 1).toNat : Nat)) else -3) else -2) ∧ ∃ F2 : Nat → Nat → Int32, kAt K w2 ad F2 tf L P df ∧ kFr ad w w2 ∧ ∀ s u : Nat, s < 8 → u < 4096 → mem (F2 s) u = if ((0 ≤ x ∧ x < 8) ∧ 0 ≤ a ∧ a ≤ b ∧ b < 4096) ∧ s = x.toNat ∧ a ≤ (u : Int) ∧ (u : Int) ≤ b then false else mem (F s) u) := by
  refine hm_enterI (by decide) (Nat.le_of_ble_eq_true rfl) ?_
  intro p e s m args below meth c E hr hnm
  show hm_V p l e (hm_rm 3 0 0) s m args below meth c D (hm_A w s.heap.size) 5 0 0 (MQ below (hm_Qi D w s.heap.size (fun r w2 => r = iI (if 0 ≤ x ∧ x < 8 then (if 0 ≤ a ∧ a ≤ b ∧ b < 4096 then ((ct (mem (F x.toNat)) a.toNat (b - a + 1).toNat : Nat)) else -3) else -2) ∧ ∃ F2 : Nat → Nat → Int32, kAt K w2 ad F2 tf L P df ∧ kFr ad w w2 ∧ ∀ s u : Nat, s < 8 → u < 4096 → mem (F2 s) u = if ((0 ≤ x ∧ x < 8) ∧ 0 ≤ a ∧ a ≤ b ∧ b < 4096) ∧ s = x.toNat ∧ a ≤ (u : Int) ∧ (u : Int) ≤ b then false else mem (F s) u)) args s 0 0 (hm_A w s.heap.size)) w 0 [(0, .ref (ad 0)), (1, .int (iI (x))), (2, .int (iI (a))), (3, .int (iI (b)))] []
  refine hv_iload_n E dX6_drop_0 rfl 1 rfl rfl ?_
  refine hv_callSI (na := 1) (As := [.int (iI (x))]) (st := []) E (c6_isSet l D K x hx) dX6_drop_1 gL_X6_42 gS_X6_isSet gC_X6_isSet gZ_X6 (by decide +kernel) rfl ⟨Nat.le_of_ble_eq_true rfl, Nat.le_of_ble_eq_true rfl⟩ (Nat.le_of_ble_eq_true rfl) ⟨Nat.zero_le _, Nat.zero_le _⟩ rfl rfl (fun r w2 hp => ?_)
  rw [hp.1, hp.2]
  show hm_V p l e (hm_rm 3 0 0) s m args below meth c D (hm_A w s.heap.size) 5 0 0 (MQ below (hm_Qi D w s.heap.size (fun r w2 => r = iI (if 0 ≤ x ∧ x < 8 then (if 0 ≤ a ∧ a ≤ b ∧ b < 4096 then ((ct (mem (F x.toNat)) a.toNat (b - a + 1).toNat : Nat)) else -3) else -2) ∧ ∃ F2 : Nat → Nat → Int32, kAt K w2 ad F2 tf L P df ∧ kFr ad w w2 ∧ ∀ s u : Nat, s < 8 → u < 4096 → mem (F2 s) u = if ((0 ≤ x ∧ x < 8) ∧ 0 ≤ a ∧ a ≤ b ∧ b < 4096) ∧ s = x.toNat ∧ a ≤ (u : Int) ∧ (u : Int) ≤ b then false else mem (F s) u)) args s 0 0 (hm_A w s.heap.size)) w 4 [(0, .ref (ad 0)), (1, .int (iI (x))), (2, .int (iI (a))), (3, .int (iI (b)))] [.int (bI (decide (0 ≤ x ∧ x < 8)))]
  refine hv_if_neB E 10 dX6_drop_4 (by decide) rfl (fun c1 => ?_) (fun c1 => ?_)
  · have c1 := of_decide_eq_true c1
    refine hv_iload_n E dX6_drop_10 rfl 2 rfl rfl ?_
    refine hv_iload_n E dX6_drop_11 rfl 3 rfl rfl ?_
    refine hv_callSI (na := 2) (As := [.int (iI (a)), .int (iI (b))]) (st := []) E (c6_isSpan l D K a b ha hb) dX6_drop_12 gL_X6_56 gS_X6_isSpan gC_X6_isSpan gZ_X6 (by decide +kernel) rfl ⟨Nat.le_of_ble_eq_true rfl, Nat.le_of_ble_eq_true rfl⟩ (Nat.le_of_ble_eq_true rfl) ⟨Nat.zero_le _, Nat.zero_le _⟩ rfl rfl (fun r w2 hp => ?_)
    rw [hp.1, hp.2]
    show hm_V p l e (hm_rm 3 0 0) s m args below meth c D (hm_A w s.heap.size) 5 0 0 (MQ below (hm_Qi D w s.heap.size (fun r w2 => r = iI (if 0 ≤ x ∧ x < 8 then (if 0 ≤ a ∧ a ≤ b ∧ b < 4096 then ((ct (mem (F x.toNat)) a.toNat (b - a + 1).toNat : Nat)) else -3) else -2) ∧ ∃ F2 : Nat → Nat → Int32, kAt K w2 ad F2 tf L P df ∧ kFr ad w w2 ∧ ∀ s u : Nat, s < 8 → u < 4096 → mem (F2 s) u = if ((0 ≤ x ∧ x < 8) ∧ 0 ≤ a ∧ a ≤ b ∧ b < 4096) ∧ s = x.toNat ∧ a ≤ (u : Int) ∧ (u : Int) ≤ b then false else mem (F s) u)) args s 0 0 (hm_A w s.heap.size)) w 15 [(0, .ref (ad 0)), (1, .int (iI (x))), (2, .int (iI (a))), (3, .int (iI (b)))] [.int (bI (decide (0 ≤ a ∧ a ≤ b ∧ b < 4096)))]
    refine hv_if_neB E 21 dX6_drop_15 (by decide) rfl (fun c2 => ?_) (fun c2 => ?_)
    · have c2 := of_decide_eq_true c2
      refine hv_aload_n E dX6_drop_21 rfl 0 rfl rfl ?_
      refine hv_get (kf := 0) E dX6_drop_22 (show vwCl[5]? = some (RX6, TX6, 4) from rfl) (by decide) gW_X6 gF_X6_11 rfl hk.o rfl rfl ?_
      refine hv_iload_n E dX6_drop_25 rfl 1 rfl rfl ?_
      obtain ⟨fa, hfa, hfb⟩ := hk.2.1
      refine hv_aaldN E dX6_drop_26 hfa (by omega) (by omega) (by decide) (hfb (x).toNat (by omega)) rfl ?_
      refine hv_iload_n E dX6_drop_27 rfl 2 rfl rfl ?_
      refine hv_iload_n E dX6_drop_28 rfl 3 rfl rfl ?_
      refine hv_callVI (na := 2) (As := [.int (iI (a)), .int (iI (b))]) (st := []) E (c2_amountIn l D K a b (by omega) (by omega) (by omega) (hk.n (show (x).toNat < 8 by omega))) dX6_drop_29 (hk.n (show (x).toNat < 8 by omega)).1 (show vwCl[1]? = some (RX2, TX2, 1) from rfl) gL_X6_60 gV_X2_amountIn gI_X2_amountIn gC_X2_amountIn gZ_X2 (by decide +kernel) rfl ⟨Nat.le_of_ble_eq_true rfl, Nat.le_of_ble_eq_true rfl⟩ (Nat.le_of_ble_eq_true rfl) ⟨Nat.zero_le _, Nat.zero_le _⟩ rfl rfl (fun r w2 hp => ?_)
      rw [hp.1, hp.2]
      show hm_V p l e (hm_rm 3 0 0) s m args below meth c D (hm_A w s.heap.size) 5 0 0 (MQ below (hm_Qi D w s.heap.size (fun r w2 => r = iI (if 0 ≤ x ∧ x < 8 then (if 0 ≤ a ∧ a ≤ b ∧ b < 4096 then ((ct (mem (F x.toNat)) a.toNat (b - a + 1).toNat : Nat)) else -3) else -2) ∧ ∃ F2 : Nat → Nat → Int32, kAt K w2 ad F2 tf L P df ∧ kFr ad w w2 ∧ ∀ s u : Nat, s < 8 → u < 4096 → mem (F2 s) u = if ((0 ≤ x ∧ x < 8) ∧ 0 ≤ a ∧ a ≤ b ∧ b < 4096) ∧ s = x.toNat ∧ a ≤ (u : Int) ∧ (u : Int) ≤ b then false else mem (F s) u)) args s 0 0 (hm_A w s.heap.size)) w 32 [(0, .ref (ad 0)), (1, .int (iI (x))), (2, .int (iI (a))), (3, .int (iI (b)))] [.int (iI (((ct (mem (F x.toNat)) a.toNat (b - a + 1).toNat : Nat) : Int)))]
      refine hv_istore (lv2 := [(4, .int (iI (((ct (mem (F x.toNat)) a.toNat (b - a + 1).toNat : Nat) : Int)))), (0, .ref (ad 0)), (1, .int (iI (x))), (2, .int (iI (a))), (3, .int (iI (b)))]) E dX6_drop_32 (by decide) rfl rfl ?_
      refine hv_aload_n E dX6_drop_34 rfl 1 rfl rfl ?_
      refine hv_get (kf := 0) E dX6_drop_35 (show vwCl[5]? = some (RX6, TX6, 4) from rfl) (by decide) gW_X6 gF_X6_11 rfl hk.o rfl rfl ?_
      refine hv_iload_n E dX6_drop_38 rfl 2 rfl rfl ?_
      obtain ⟨fa, hfa, hfb⟩ := hk.2.1
      refine hv_aaldN E dX6_drop_39 hfa (by omega) (by omega) (by decide) (hfb (x).toNat (by omega)) rfl ?_
      refine hv_iload_n E dX6_drop_40 rfl 3 rfl rfl ?_
      refine hv_iload_n E dX6_drop_41 rfl 4 rfl rfl ?_
      refine hv_callVV (na := 2) (As := [.int (iI (a)), .int (iI (b))]) (st := []) E (c2_exclude l D K a b (by omega) (by omega) (by omega) (hk.n (show (x).toNat < 8 by omega))) dX6_drop_42 (hk.n (show (x).toNat < 8 by omega)).1 (show vwCl[1]? = some (RX2, TX2, 1) from rfl) gL_X6_68 gV_X2_exclude gI_X2_exclude gC_X2_exclude gZ_X2 (by decide +kernel) rfl ⟨Nat.le_of_ble_eq_true rfl, Nat.le_of_ble_eq_true rfl⟩ (Nat.le_of_ble_eq_true rfl) ⟨Nat.zero_le _, Nat.zero_le _⟩ rfl rfl (fun w2 hp => ?_)
      obtain ⟨f2, e2, hf2⟩ := hp
      rw [e2]
      show hm_V p l e (hm_rm 3 0 0) s m args below meth c D (hm_A w s.heap.size) 5 0 0 (MQ below (hm_Qi D w s.heap.size (fun r w2 => r = iI (if 0 ≤ x ∧ x < 8 then (if 0 ≤ a ∧ a ≤ b ∧ b < 4096 then ((ct (mem (F x.toNat)) a.toNat (b - a + 1).toNat : Nat)) else -3) else -2) ∧ ∃ F2 : Nat → Nat → Int32, kAt K w2 ad F2 tf L P df ∧ kFr ad w w2 ∧ ∀ s u : Nat, s < 8 → u < 4096 → mem (F2 s) u = if ((0 ≤ x ∧ x < 8) ∧ 0 ≤ a ∧ a ≤ b ∧ b < 4096) ∧ s = x.toNat ∧ a ≤ (u : Int) ∧ (u : Int) ≤ b then false else mem (F s) u)) args s 0 0 (hm_A w s.heap.size)) (hm_up w (ad (20 + (x).toNat)) (.inl (K 0, 128, .inl f2))) 45 [(4, .int (iI (((ct (mem (F x.toNat)) a.toNat (b - a + 1).toNat : Nat) : Int)))), (0, .ref (ad 0)), (1, .int (iI (x))), (2, .int (iI (a))), (3, .int (iI (b)))] []
      refine hv_iload E dX6_drop_45 0 rfl rfl ?_
      exact hv_iret E dX6_drop_47 hr ⟨(by (repeat (first | rw [if_pos (by omega)] | rw [if_neg (by omega)])) <;> first | done | rfl), _, hk.set (show x.toNat < 8 by omega) f2, kFr.up _ (by omega), fun s u hs hu => by
            by_cases hx2 : s = x.toNat
            · rw [if_pos hx2, hf2, hx2]
              by_cases hu2 : a ≤ (u : Int) ∧ (u : Int) ≤ b
              · rw [if_pos ⟨by omega, rfl, hu2⟩, decide_eq_true hu2]; simp
              · rw [if_neg (by omega), decide_eq_false hu2]; simp
            · rw [if_neg hx2, if_neg (by omega)]⟩
    · have c2 := of_decide_eq_false c2
      refine hv_bipush E dX6_drop_18 (by decide +kernel) rfl ?_
      exact hv_iret E dX6_drop_20 hr ⟨(by (repeat (first | rw [if_pos (by omega)] | rw [if_neg (by omega)])) <;> first | done | rfl), F, hk, kFr.rf, fun s u _ _ => by rw [if_neg (by omega)]⟩
  · have c1 := of_decide_eq_false c1
    refine hv_bipush E dX6_drop_7 (by decide +kernel) rfl ?_
    exact hv_iret E dX6_drop_9 hr ⟨(by (repeat (first | rw [if_pos (by omega)] | rw [if_neg (by omega)])) <;> first | done | rfl), F, hk, kFr.rf, fun s u _ _ => by rw [if_neg (by omega)]⟩
set_option maxHeartbeats 4000000 in
set_option maxRecDepth 100000 in
theorem c6_join (l : Launch) (D : va_G) (K : Nat → ClassId) {w : hm_M} {ad : Nat → Nat} {F : Nat → Nat → Int32} {tf : Nat → Int32} {L P : Int} {df : Nat → Int32} (x y z n : Int) (hx : iB x) (hy : iB y) (hz : iB z) (hn : iB n) (hk : kAt K w ad F tf L P df)  : hm_Ci l D K yX6_join cX6_join 5 .int 3 [.ref (ad 0), .int (iI (x)), .int (iI (y)), .int (iI (z)), .int (iI (n))] w 0 0 (fun r w2 => r = iI (if ((0 ≤ x ∧ x < 8) ∧ (0 ≤ y ∧ y < 8) ∧ 0 ≤ z ∧ z < 8) then (if 0 ≤ n ∧ n < 4 then (ct (fun v => jb n (mem (F y.toNat) v) (mem (F z.toNat) v)) 0 4096 : Nat) else -3) else -2) ∧ ∃ F2 : Nat → Nat → Int32, kAt K w2 ad F2 tf L P df ∧ kFr ad w w2 ∧ ∀ s u : Nat, s < 8 → u < 4096 → mem (F2 s) u = if (((0 ≤ x ∧ x < 8) ∧ (0 ≤ y ∧ y < 8) ∧ 0 ≤ z ∧ z < 8) ∧ 0 ≤ n ∧ n < 4) ∧ s = x.toNat then jb n (mem (F y.toNat) u) (mem (F z.toNat) u) else mem (F s) u) := by
  refine hm_enterI (by decide) (Nat.le_of_ble_eq_true rfl) ?_
  intro p e s m args below meth c E hr hnm
  show hm_V p l e (hm_rm 3 0 0) s m args below meth c D (hm_A w s.heap.size) 5 0 0 (MQ below (hm_Qi D w s.heap.size (fun r w2 => r = iI (if ((0 ≤ x ∧ x < 8) ∧ (0 ≤ y ∧ y < 8) ∧ 0 ≤ z ∧ z < 8) then (if 0 ≤ n ∧ n < 4 then (ct (fun v => jb n (mem (F y.toNat) v) (mem (F z.toNat) v)) 0 4096 : Nat) else -3) else -2) ∧ ∃ F2 : Nat → Nat → Int32, kAt K w2 ad F2 tf L P df ∧ kFr ad w w2 ∧ ∀ s u : Nat, s < 8 → u < 4096 → mem (F2 s) u = if (((0 ≤ x ∧ x < 8) ∧ (0 ≤ y ∧ y < 8) ∧ 0 ≤ z ∧ z < 8) ∧ 0 ≤ n ∧ n < 4) ∧ s = x.toNat then jb n (mem (F y.toNat) u) (mem (F z.toNat) u) else mem (F s) u)) args s 0 0 (hm_A w s.heap.size)) w 0 [(0, .ref (ad 0)), (1, .int (iI (x))), (2, .int (iI (y))), (3, .int (iI (z))), (4, .int (iI (n)))] []
  refine hv_iload_n E dX6_join_0 rfl 1 rfl rfl ?_
  refine hv_callSI (na := 1) (As := [.int (iI (x))]) (st := []) E (c6_isSet l D K x hx) dX6_join_1 gL_X6_42 gS_X6_isSet gC_X6_isSet gZ_X6 (by decide +kernel) rfl ⟨Nat.le_of_ble_eq_true rfl, Nat.le_of_ble_eq_true rfl⟩ (Nat.le_of_ble_eq_true rfl) ⟨Nat.zero_le _, Nat.zero_le _⟩ rfl rfl (fun r w2 hp => ?_)
  rw [hp.1, hp.2]
  show hm_V p l e (hm_rm 3 0 0) s m args below meth c D (hm_A w s.heap.size) 5 0 0 (MQ below (hm_Qi D w s.heap.size (fun r w2 => r = iI (if ((0 ≤ x ∧ x < 8) ∧ (0 ≤ y ∧ y < 8) ∧ 0 ≤ z ∧ z < 8) then (if 0 ≤ n ∧ n < 4 then (ct (fun v => jb n (mem (F y.toNat) v) (mem (F z.toNat) v)) 0 4096 : Nat) else -3) else -2) ∧ ∃ F2 : Nat → Nat → Int32, kAt K w2 ad F2 tf L P df ∧ kFr ad w w2 ∧ ∀ s u : Nat, s < 8 → u < 4096 → mem (F2 s) u = if (((0 ≤ x ∧ x < 8) ∧ (0 ≤ y ∧ y < 8) ∧ 0 ≤ z ∧ z < 8) ∧ 0 ≤ n ∧ n < 4) ∧ s = x.toNat then jb n (mem (F y.toNat) u) (mem (F z.toNat) u) else mem (F s) u)) args s 0 0 (hm_A w s.heap.size)) w 4 [(0, .ref (ad 0)), (1, .int (iI (x))), (2, .int (iI (y))), (3, .int (iI (z))), (4, .int (iI (n)))] [.int (bI (decide (0 ≤ x ∧ x < 8)))]
  refine hv_if_eqB E 21 dX6_join_4 (by decide) rfl (fun c1 => ?_) (fun c1 => ?_)
  · have c1 := of_decide_eq_false c1
    refine hv_bipush E dX6_join_21 (by decide +kernel) rfl ?_
    exact hv_iret E dX6_join_23 hr ⟨(by (repeat (first | rw [if_pos (by omega)] | rw [if_neg (by omega)])) <;> first | done | rfl), F, hk, kFr.rf, fun s u _ _ => by rw [if_neg (by omega)]⟩
  · have c1 := of_decide_eq_true c1
    refine hv_iload_n E dX6_join_7 rfl 2 rfl rfl ?_
    refine hv_callSI (na := 1) (As := [.int (iI (y))]) (st := []) E (c6_isSet l D K y hy) dX6_join_8 gL_X6_42 gS_X6_isSet gC_X6_isSet gZ_X6 (by decide +kernel) rfl ⟨Nat.le_of_ble_eq_true rfl, Nat.le_of_ble_eq_true rfl⟩ (Nat.le_of_ble_eq_true rfl) ⟨Nat.zero_le _, Nat.zero_le _⟩ rfl rfl (fun r w2 hp => ?_)
    rw [hp.1, hp.2]
    show hm_V p l e (hm_rm 3 0 0) s m args below meth c D (hm_A w s.heap.size) 5 0 0 (MQ below (hm_Qi D w s.heap.size (fun r w2 => r = iI (if ((0 ≤ x ∧ x < 8) ∧ (0 ≤ y ∧ y < 8) ∧ 0 ≤ z ∧ z < 8) then (if 0 ≤ n ∧ n < 4 then (ct (fun v => jb n (mem (F y.toNat) v) (mem (F z.toNat) v)) 0 4096 : Nat) else -3) else -2) ∧ ∃ F2 : Nat → Nat → Int32, kAt K w2 ad F2 tf L P df ∧ kFr ad w w2 ∧ ∀ s u : Nat, s < 8 → u < 4096 → mem (F2 s) u = if (((0 ≤ x ∧ x < 8) ∧ (0 ≤ y ∧ y < 8) ∧ 0 ≤ z ∧ z < 8) ∧ 0 ≤ n ∧ n < 4) ∧ s = x.toNat then jb n (mem (F y.toNat) u) (mem (F z.toNat) u) else mem (F s) u)) args s 0 0 (hm_A w s.heap.size)) w 11 [(0, .ref (ad 0)), (1, .int (iI (x))), (2, .int (iI (y))), (3, .int (iI (z))), (4, .int (iI (n)))] [.int (bI (decide (0 ≤ y ∧ y < 8)))]
    refine hv_if_eqB E 21 dX6_join_11 (by decide) rfl (fun c2 => ?_) (fun c2 => ?_)
    · have c2 := of_decide_eq_false c2
      refine hv_bipush E dX6_join_21 (by decide +kernel) rfl ?_
      exact hv_iret E dX6_join_23 hr ⟨(by (repeat (first | rw [if_pos (by omega)] | rw [if_neg (by omega)])) <;> first | done | rfl), F, hk, kFr.rf, fun s u _ _ => by rw [if_neg (by omega)]⟩
    · have c2 := of_decide_eq_true c2
      refine hv_iload_n E dX6_join_14 rfl 3 rfl rfl ?_
      refine hv_callSI (na := 1) (As := [.int (iI (z))]) (st := []) E (c6_isSet l D K z hz) dX6_join_15 gL_X6_42 gS_X6_isSet gC_X6_isSet gZ_X6 (by decide +kernel) rfl ⟨Nat.le_of_ble_eq_true rfl, Nat.le_of_ble_eq_true rfl⟩ (Nat.le_of_ble_eq_true rfl) ⟨Nat.zero_le _, Nat.zero_le _⟩ rfl rfl (fun r w2 hp => ?_)
      rw [hp.1, hp.2]
      show hm_V p l e (hm_rm 3 0 0) s m args below meth c D (hm_A w s.heap.size) 5 0 0 (MQ below (hm_Qi D w s.heap.size (fun r w2 => r = iI (if ((0 ≤ x ∧ x < 8) ∧ (0 ≤ y ∧ y < 8) ∧ 0 ≤ z ∧ z < 8) then (if 0 ≤ n ∧ n < 4 then (ct (fun v => jb n (mem (F y.toNat) v) (mem (F z.toNat) v)) 0 4096 : Nat) else -3) else -2) ∧ ∃ F2 : Nat → Nat → Int32, kAt K w2 ad F2 tf L P df ∧ kFr ad w w2 ∧ ∀ s u : Nat, s < 8 → u < 4096 → mem (F2 s) u = if (((0 ≤ x ∧ x < 8) ∧ (0 ≤ y ∧ y < 8) ∧ 0 ≤ z ∧ z < 8) ∧ 0 ≤ n ∧ n < 4) ∧ s = x.toNat then jb n (mem (F y.toNat) u) (mem (F z.toNat) u) else mem (F s) u)) args s 0 0 (hm_A w s.heap.size)) w 18 [(0, .ref (ad 0)), (1, .int (iI (x))), (2, .int (iI (y))), (3, .int (iI (z))), (4, .int (iI (n)))] [.int (bI (decide (0 ≤ z ∧ z < 8)))]
      refine hv_if_neB E 24 dX6_join_18 (by decide) rfl (fun c3 => ?_) (fun c3 => ?_)
      · have c3 := of_decide_eq_true c3
        refine hv_iload E dX6_join_24 4 rfl rfl ?_
        refine hv_if_lt E 35 dX6_join_26 (by decide) hn rfl (fun c4 => ?_) (fun c4 => ?_)
        · skip
          refine hv_bipush E dX6_join_35 (by decide +kernel) rfl ?_
          exact hv_iret E dX6_join_37 hr ⟨(by (repeat (first | rw [if_pos (by omega)] | rw [if_neg (by omega)])) <;> first | done | rfl), F, hk, kFr.rf, fun s u _ _ => by rw [if_neg (by omega)]⟩
        · skip
          refine hv_iload E dX6_join_29 4 rfl rfl ?_
          refine hv_iconst E dX6_join_31 rfl ?_
          refine hv_icmp_lt E 38 dX6_join_32 (by decide) hn ⟨by omega, by omega⟩ rfl (fun c5 => ?_) (fun c5 => ?_)
          · skip
            refine hv_aload_n E dX6_join_38 rfl 0 rfl rfl ?_
            refine hv_get (kf := 0) E dX6_join_39 (show vwCl[5]? = some (RX6, TX6, 4) from rfl) (by decide) gW_X6 gF_X6_11 rfl hk.o rfl rfl ?_
            refine hv_iload_n E dX6_join_42 rfl 1 rfl rfl ?_
            obtain ⟨fa, hfa, hfb⟩ := hk.2.1
            refine hv_aaldN E dX6_join_43 hfa (by omega) (by omega) (by decide) (hfb (x).toNat (by omega)) rfl ?_
            refine hv_aload_n E dX6_join_44 rfl 0 rfl rfl ?_
            refine hv_get (kf := 0) E dX6_join_45 (show vwCl[5]? = some (RX6, TX6, 4) from rfl) (by decide) gW_X6 gF_X6_11 rfl hk.o rfl rfl ?_
            refine hv_iload_n E dX6_join_48 rfl 2 rfl rfl ?_
            obtain ⟨fa, hfa, hfb⟩ := hk.2.1
            refine hv_aaldN E dX6_join_49 hfa (by omega) (by omega) (by decide) (hfb (y).toNat (by omega)) rfl ?_
            refine hv_aload_n E dX6_join_50 rfl 0 rfl rfl ?_
            refine hv_get (kf := 0) E dX6_join_51 (show vwCl[5]? = some (RX6, TX6, 4) from rfl) (by decide) gW_X6 gF_X6_11 rfl hk.o rfl rfl ?_
            refine hv_iload_n E dX6_join_54 rfl 3 rfl rfl ?_
            obtain ⟨fa, hfa, hfb⟩ := hk.2.1
            refine hv_aaldN E dX6_join_55 hfa (by omega) (by omega) (by decide) (hfb (z).toNat (by omega)) rfl ?_
            refine hv_iload E dX6_join_56 4 rfl rfl ?_
            refine hv_callVV (na := 3) (As := [.ref (ad (10 + (y).toNat)), .ref (ad (10 + (z).toNat)), .int (iI (n))]) (st := []) E (c2_become l D K n (by omega) (by omega) (hk.n (show (x).toNat < 8 by omega)) (hk.n (show (y).toNat < 8 by omega)) (hk.n (show (z).toNat < 8 by omega))) dX6_join_58 (hk.n (show (x).toNat < 8 by omega)).1 (show vwCl[1]? = some (RX2, TX2, 1) from rfl) gL_X6_71 gV_X2_become gI_X2_become gC_X2_become gZ_X2 (by decide +kernel) rfl ⟨Nat.le_of_ble_eq_true rfl, Nat.le_of_ble_eq_true rfl⟩ (Nat.le_of_ble_eq_true rfl) ⟨Nat.zero_le _, Nat.zero_le _⟩ rfl rfl (fun w2 hp => ?_)
            obtain ⟨f2, e2, hf2⟩ := hp
            rw [e2]
            have hk2 := hk.set (show x.toNat < 8 by omega) f2
            show hm_V p l e (hm_rm 3 0 0) s m args below meth c D (hm_A w s.heap.size) 5 0 0 (MQ below (hm_Qi D w s.heap.size (fun r w2 => r = iI (if ((0 ≤ x ∧ x < 8) ∧ (0 ≤ y ∧ y < 8) ∧ 0 ≤ z ∧ z < 8) then (if 0 ≤ n ∧ n < 4 then (ct (fun v => jb n (mem (F y.toNat) v) (mem (F z.toNat) v)) 0 4096 : Nat) else -3) else -2) ∧ ∃ F2 : Nat → Nat → Int32, kAt K w2 ad F2 tf L P df ∧ kFr ad w w2 ∧ ∀ s u : Nat, s < 8 → u < 4096 → mem (F2 s) u = if (((0 ≤ x ∧ x < 8) ∧ (0 ≤ y ∧ y < 8) ∧ 0 ≤ z ∧ z < 8) ∧ 0 ≤ n ∧ n < 4) ∧ s = x.toNat then jb n (mem (F y.toNat) u) (mem (F z.toNat) u) else mem (F s) u)) args s 0 0 (hm_A w s.heap.size)) (hm_up w (ad (20 + (x).toNat)) (.inl (K 0, 128, .inl f2))) 61 [(0, .ref (ad 0)), (1, .int (iI (x))), (2, .int (iI (y))), (3, .int (iI (z))), (4, .int (iI (n)))] []
            refine hv_aload_n E dX6_join_61 rfl 0 rfl rfl ?_
            refine hv_get (kf := 0) E dX6_join_62 (show vwCl[5]? = some (RX6, TX6, 4) from rfl) (by decide) gW_X6 gF_X6_11 rfl hk2.o rfl rfl ?_
            refine hv_iload_n E dX6_join_65 rfl 1 rfl rfl ?_
            obtain ⟨fa, hfa, hfb⟩ := hk2.2.1
            refine hv_aaldN E dX6_join_66 hfa (by omega) (by omega) (by decide) (hfb (x).toNat (by omega)) rfl ?_
            have hn2 := hk2.n (show x.toNat < 8 by omega)
            rw [if_pos rfl] at hn2
            refine hv_callVI (na := 0) (As := []) (st := []) E (c2_amount l D K hn2) dX6_join_67 hn2.1 (show vwCl[1]? = some (RX2, TX2, 1) from rfl) gL_X6_75 gV_X2_amount gI_X2_amount gC_X2_amount gZ_X2 (by decide +kernel) rfl ⟨Nat.le_of_ble_eq_true rfl, Nat.le_of_ble_eq_true rfl⟩ (Nat.le_of_ble_eq_true rfl) ⟨Nat.zero_le _, Nat.zero_le _⟩ rfl rfl (fun r w2 hp => ?_)
            rw [hp.1, hp.2]
            show hm_V p l e (hm_rm 3 0 0) s m args below meth c D (hm_A w s.heap.size) 5 0 0 (MQ below (hm_Qi D w s.heap.size (fun r w2 => r = iI (if ((0 ≤ x ∧ x < 8) ∧ (0 ≤ y ∧ y < 8) ∧ 0 ≤ z ∧ z < 8) then (if 0 ≤ n ∧ n < 4 then (ct (fun v => jb n (mem (F y.toNat) v) (mem (F z.toNat) v)) 0 4096 : Nat) else -3) else -2) ∧ ∃ F2 : Nat → Nat → Int32, kAt K w2 ad F2 tf L P df ∧ kFr ad w w2 ∧ ∀ s u : Nat, s < 8 → u < 4096 → mem (F2 s) u = if (((0 ≤ x ∧ x < 8) ∧ (0 ≤ y ∧ y < 8) ∧ 0 ≤ z ∧ z < 8) ∧ 0 ≤ n ∧ n < 4) ∧ s = x.toNat then jb n (mem (F y.toNat) u) (mem (F z.toNat) u) else mem (F s) u)) args s 0 0 (hm_A w s.heap.size)) (hm_up w (ad (20 + (x).toNat)) (.inl (K 0, 128, .inl f2))) 70 [(0, .ref (ad 0)), (1, .int (iI (x))), (2, .int (iI (y))), (3, .int (iI (z))), (4, .int (iI (n)))] [.int (iI ((ct (mem f2) 0 4096 : Nat)))]
            exact hv_iret E dX6_join_70 hr ⟨by
                  rw [if_pos (by omega), if_pos (by omega)]
                  congr 2
                  exact ct_congr (fun i hi => hf2 (0 + i) (by omega)), _, hk2, kFr.up _ (by omega), fun s u hs hu => by
                  by_cases hx2 : s = x.toNat
                  · rw [if_pos hx2, hf2 u hu, if_pos ⟨by omega, hx2⟩]
                  · rw [if_neg hx2, if_neg (by omega)]⟩
          · skip
            refine hv_bipush E dX6_join_35 (by decide +kernel) rfl ?_
            exact hv_iret E dX6_join_37 hr ⟨(by (repeat (first | rw [if_pos (by omega)] | rw [if_neg (by omega)])) <;> first | done | rfl), F, hk, kFr.rf, fun s u _ _ => by rw [if_neg (by omega)]⟩
      · have c3 := of_decide_eq_false c3
        refine hv_bipush E dX6_join_21 (by decide +kernel) rfl ?_
        exact hv_iret E dX6_join_23 hr ⟨(by (repeat (first | rw [if_pos (by omega)] | rw [if_neg (by omega)])) <;> first | done | rfl), F, hk, kFr.rf, fun s u _ _ => by rw [if_neg (by omega)]⟩
set_option maxHeartbeats 4000000 in
set_option maxRecDepth 100000 in
theorem c6_size (l : Launch) (D : va_G) (K : Nat → ClassId) {w : hm_M} {ad : Nat → Nat} {F : Nat → Nat → Int32} {tf : Nat → Int32} {L P : Int} {df : Nat → Int32} (hk : kAt K w ad F tf L P df)  : hm_Ci l D K yX6_size cX6_size 1 .int 1 [.ref (ad 0)] w 0 0 (fun r w2 => r = iI L ∧ w2 = w) := by
  refine hm_enterI (by decide) (Nat.le_of_ble_eq_true rfl) ?_
  intro p e s m args below meth c E hr hnm
  show hm_V p l e (hm_rm 1 0 0) s m args below meth c D (hm_A w s.heap.size) 1 0 0 (MQ below (hm_Qi D w s.heap.size (fun r w2 => r = iI L ∧ w2 = w)) args s 0 0 (hm_A w s.heap.size)) w 0 [(0, .ref (ad 0))] []
  refine hv_aload_n E dX6_size_0 rfl 0 rfl rfl ?_
  refine hv_get (kf := 2) E dX6_size_1 (show vwCl[5]? = some (RX6, TX6, 4) from rfl) (by decide) gW_X6 gF_X6_24 rfl hk.o rfl rfl ?_
  refine hv_callVI (na := 0) (As := []) (st := []) E (c4_held l D K hk.t) dX6_size_4 hk.t.1 (show vwCl[3]? = some (RX4, TX4, 3) from rfl) gL_X6_121 gV_X4_held gI_X4_held gC_X4_held gZ_X4 (by decide +kernel) rfl ⟨Nat.le_of_ble_eq_true rfl, Nat.le_of_ble_eq_true rfl⟩ (Nat.le_of_ble_eq_true rfl) ⟨Nat.zero_le _, Nat.zero_le _⟩ rfl rfl (fun r w2 hp => ?_)
  rw [hp.1, hp.2]
  show hm_V p l e (hm_rm 1 0 0) s m args below meth c D (hm_A w s.heap.size) 1 0 0 (MQ below (hm_Qi D w s.heap.size (fun r w2 => r = iI L ∧ w2 = w)) args s 0 0 (hm_A w s.heap.size)) w 7 [(0, .ref (ad 0))] [.int (iI (L))]
  exact hv_iret E dX6_size_7 hr ⟨rfl, rfl⟩
set_option maxHeartbeats 4000000 in
set_option maxRecDepth 100000 in
theorem c6_bit (l : Launch) (D : va_G) (K : Nat → ClassId) {w : hm_M} {ad : Nat → Nat} {F : Nat → Nat → Int32} {tf : Nat → Int32} {L P : Int} {df : Nat → Int32} (i : Int) (hi : iB i) (hk : kAt K w ad F tf L P df)  : hm_Ci l D K yX6_bit cX6_bit 2 .int 2 [.ref (ad 0), .int (iI (i))] w 0 0 (fun r w2 => r = iI (if 0 ≤ i ∧ i < L then (if mem tf i.toNat then 1 else 0) else -1) ∧ w2 = w) := by
  refine hm_enterI (by decide) (Nat.le_of_ble_eq_true rfl) ?_
  intro p e s m args below meth c E hr hnm
  show hm_V p l e (hm_rm 2 0 0) s m args below meth c D (hm_A w s.heap.size) 2 0 0 (MQ below (hm_Qi D w s.heap.size (fun r w2 => r = iI (if 0 ≤ i ∧ i < L then (if mem tf i.toNat then 1 else 0) else -1) ∧ w2 = w)) args s 0 0 (hm_A w s.heap.size)) w 0 [(0, .ref (ad 0)), (1, .int (iI (i)))] []
  refine hv_aload_n E dX6_bit_0 rfl 0 rfl rfl ?_
  refine hv_get (kf := 2) E dX6_bit_1 (show vwCl[5]? = some (RX6, TX6, 4) from rfl) (by decide) gW_X6 gF_X6_24 rfl hk.o rfl rfl ?_
  refine hv_iload_n E dX6_bit_4 rfl 1 rfl rfl ?_
  refine hv_callVI (na := 1) (As := [.int (iI (i))]) (st := []) E (c4_reaches l D K i hi hk.t hk.L0 hk.L1) dX6_bit_5 hk.t.1 (show vwCl[3]? = some (RX4, TX4, 3) from rfl) gL_X6_135 gV_X4_reaches gI_X4_reaches gC_X4_reaches gZ_X4 (by decide +kernel) rfl ⟨Nat.le_of_ble_eq_true rfl, Nat.le_of_ble_eq_true rfl⟩ (Nat.le_of_ble_eq_true rfl) ⟨Nat.zero_le _, Nat.zero_le _⟩ rfl rfl (fun r w2 hp => ?_)
  rw [hp.1, hp.2]
  show hm_V p l e (hm_rm 2 0 0) s m args below meth c D (hm_A w s.heap.size) 2 0 0 (MQ below (hm_Qi D w s.heap.size (fun r w2 => r = iI (if 0 ≤ i ∧ i < L then (if mem tf i.toNat then 1 else 0) else -1) ∧ w2 = w)) args s 0 0 (hm_A w s.heap.size)) w 8 [(0, .ref (ad 0)), (1, .int (iI (i)))] [.int (bI (decide (0 ≤ i ∧ i < L)))]
  refine hv_if_eqB E 22 dX6_bit_8 (by decide) rfl (fun c1 => ?_) (fun c1 => ?_)
  · have c1 := of_decide_eq_false c1
    refine hv_iconst E dX6_bit_22 rfl ?_
    exact hv_iret E dX6_bit_23 hr ⟨(by (repeat (first | rw [if_pos (by omega)] | rw [if_neg (by omega)])) <;> first | done | rfl), rfl⟩
  · have c1 := of_decide_eq_true c1
    refine hv_aload_n E dX6_bit_11 rfl 0 rfl rfl ?_
    refine hv_get (kf := 2) E dX6_bit_12 (show vwCl[5]? = some (RX6, TX6, 4) from rfl) (by decide) gW_X6 gF_X6_24 rfl hk.o rfl rfl ?_
    refine hv_iload_n E dX6_bit_15 rfl 1 rfl rfl ?_
    refine hv_callVI (na := 1) (As := [.int (iI (i))]) (st := []) E (c4_bitAt l D K i hi hk.t hk.L0 hk.L1) dX6_bit_16 hk.t.1 (show vwCl[3]? = some (RX4, TX4, 3) from rfl) gL_X6_141 gV_X4_bitAt gI_X4_bitAt gC_X4_bitAt gZ_X4 (by decide +kernel) rfl ⟨Nat.le_of_ble_eq_true rfl, Nat.le_of_ble_eq_true rfl⟩ (Nat.le_of_ble_eq_true rfl) ⟨Nat.zero_le _, Nat.zero_le _⟩ rfl rfl (fun r w2 hp => ?_)
    rw [hp.1, hp.2]
    show hm_V p l e (hm_rm 2 0 0) s m args below meth c D (hm_A w s.heap.size) 2 0 0 (MQ below (hm_Qi D w s.heap.size (fun r w2 => r = iI (if 0 ≤ i ∧ i < L then (if mem tf i.toNat then 1 else 0) else -1) ∧ w2 = w)) args s 0 0 (hm_A w s.heap.size)) w 19 [(0, .ref (ad 0)), (1, .int (iI (i)))] [.int (bI (decide (0 ≤ i) && tb tf L i.toNat))]
    refine hv_goto E 23 dX6_bit_19 (by decide) ?_
    exact hv_iret E dX6_bit_23 hr ⟨by unfold tb; rw [if_pos (by omega), decide_eq_true (show 0 ≤ i by omega), decide_eq_true (show (i.toNat : Int) < L by omega)]; rfl, rfl⟩
set_option maxHeartbeats 4000000 in
set_option maxRecDepth 100000 in
theorem c6_flip (l : Launch) (D : va_G) (K : Nat → ClassId) {w : hm_M} {ad : Nat → Nat} {F : Nat → Nat → Int32} {tf : Nat → Int32} {L P : Int} {df : Nat → Int32} (i : Int) (hi : iB i) (hk : kAt K w ad F tf L P df)  : hm_Ci l D K yX6_flip cX6_flip 2 .int 2 [.ref (ad 0), .int (iI (i))] w 0 0 (fun r w2 => r = iI (if 0 ≤ i ∧ i < L then (if mem tf i.toNat then 0 else 1) else -1) ∧ ∃ tf2 : Nat → Int32, kAt K w2 ad F tf2 L P df ∧ kFr ad w w2 ∧ ∀ j : Nat, (j : Int) < L → mem tf2 j = if 0 ≤ i ∧ j = i.toNat then !mem tf j else mem tf j) := by
  refine hm_enterI (by decide) (Nat.le_of_ble_eq_true rfl) ?_
  intro p e s m args below meth c E hr hnm
  show hm_V p l e (hm_rm 2 0 0) s m args below meth c D (hm_A w s.heap.size) 2 0 0 (MQ below (hm_Qi D w s.heap.size (fun r w2 => r = iI (if 0 ≤ i ∧ i < L then (if mem tf i.toNat then 0 else 1) else -1) ∧ ∃ tf2 : Nat → Int32, kAt K w2 ad F tf2 L P df ∧ kFr ad w w2 ∧ ∀ j : Nat, (j : Int) < L → mem tf2 j = if 0 ≤ i ∧ j = i.toNat then !mem tf j else mem tf j)) args s 0 0 (hm_A w s.heap.size)) w 0 [(0, .ref (ad 0)), (1, .int (iI (i)))] []
  refine hv_aload_n E dX6_flip_0 rfl 0 rfl rfl ?_
  refine hv_get (kf := 2) E dX6_flip_1 (show vwCl[5]? = some (RX6, TX6, 4) from rfl) (by decide) gW_X6 gF_X6_24 rfl hk.o rfl rfl ?_
  refine hv_iload_n E dX6_flip_4 rfl 1 rfl rfl ?_
  refine hv_callVI (na := 1) (As := [.int (iI (i))]) (st := []) E (c4_reaches l D K i hi hk.t hk.L0 hk.L1) dX6_flip_5 hk.t.1 (show vwCl[3]? = some (RX4, TX4, 3) from rfl) gL_X6_135 gV_X4_reaches gI_X4_reaches gC_X4_reaches gZ_X4 (by decide +kernel) rfl ⟨Nat.le_of_ble_eq_true rfl, Nat.le_of_ble_eq_true rfl⟩ (Nat.le_of_ble_eq_true rfl) ⟨Nat.zero_le _, Nat.zero_le _⟩ rfl rfl (fun r w2 hp => ?_)
  rw [hp.1, hp.2]
  show hm_V p l e (hm_rm 2 0 0) s m args below meth c D (hm_A w s.heap.size) 2 0 0 (MQ below (hm_Qi D w s.heap.size (fun r w2 => r = iI (if 0 ≤ i ∧ i < L then (if mem tf i.toNat then 0 else 1) else -1) ∧ ∃ tf2 : Nat → Int32, kAt K w2 ad F tf2 L P df ∧ kFr ad w w2 ∧ ∀ j : Nat, (j : Int) < L → mem tf2 j = if 0 ≤ i ∧ j = i.toNat then !mem tf j else mem tf j)) args s 0 0 (hm_A w s.heap.size)) w 8 [(0, .ref (ad 0)), (1, .int (iI (i)))] [.int (bI (decide (0 ≤ i ∧ i < L)))]
  refine hv_if_neB E 13 dX6_flip_8 (by decide) rfl (fun c1 => ?_) (fun c1 => ?_)
  · have c1 := of_decide_eq_true c1
    refine hv_aload_n E dX6_flip_13 rfl 0 rfl rfl ?_
    refine hv_get (kf := 2) E dX6_flip_14 (show vwCl[5]? = some (RX6, TX6, 4) from rfl) (by decide) gW_X6 gF_X6_24 rfl hk.o rfl rfl ?_
    refine hv_iload_n E dX6_flip_17 rfl 1 rfl rfl ?_
    refine hv_callVV (na := 1) (As := [.int (iI (i))]) (st := []) E (c4_turn l D K i (by omega) (by omega) hk.t hk.L0 hk.L1) dX6_flip_18 hk.t.1 (show vwCl[3]? = some (RX4, TX4, 3) from rfl) gL_X6_138 gV_X4_turn gI_X4_turn gC_X4_turn gZ_X4 (by decide +kernel) rfl ⟨Nat.le_of_ble_eq_true rfl, Nat.le_of_ble_eq_true rfl⟩ (Nat.le_of_ble_eq_true rfl) ⟨Nat.zero_le _, Nat.zero_le _⟩ rfl rfl (fun w2 hp => ?_)
    obtain ⟨f2, e2, hf2⟩ := hp
    rw [e2]
    have hk2 := hk.tape f2 (P2 := P) hk.L0 hk.L1
    show hm_V p l e (hm_rm 2 0 0) s m args below meth c D (hm_A w s.heap.size) 2 0 0 (MQ below (hm_Qi D w s.heap.size (fun r w2 => r = iI (if 0 ≤ i ∧ i < L then (if mem tf i.toNat then 0 else 1) else -1) ∧ ∃ tf2 : Nat → Int32, kAt K w2 ad F tf2 L P df ∧ kFr ad w w2 ∧ ∀ j : Nat, (j : Int) < L → mem tf2 j = if 0 ≤ i ∧ j = i.toNat then !mem tf j else mem tf j)) args s 0 0 (hm_A w s.heap.size)) (tM K w (ad 3) (ad 5) f2 L P) 21 [(0, .ref (ad 0)), (1, .int (iI (i)))] []
    refine hv_aload_n E dX6_flip_21 rfl 0 rfl rfl ?_
    refine hv_get (kf := 2) E dX6_flip_22 (show vwCl[5]? = some (RX6, TX6, 4) from rfl) (by decide) gW_X6 gF_X6_24 rfl hk2.o rfl rfl ?_
    refine hv_iload_n E dX6_flip_25 rfl 1 rfl rfl ?_
    refine hv_callVI (na := 1) (As := [.int (iI (i))]) (st := []) E (c4_bitAt l D K i hi hk2.t hk.L0 hk.L1) dX6_flip_26 hk2.t.1 (show vwCl[3]? = some (RX4, TX4, 3) from rfl) gL_X6_141 gV_X4_bitAt gI_X4_bitAt gC_X4_bitAt gZ_X4 (by decide +kernel) rfl ⟨Nat.le_of_ble_eq_true rfl, Nat.le_of_ble_eq_true rfl⟩ (Nat.le_of_ble_eq_true rfl) ⟨Nat.zero_le _, Nat.zero_le _⟩ rfl rfl (fun r w2 hp => ?_)
    rw [hp.1, hp.2]
    show hm_V p l e (hm_rm 2 0 0) s m args below meth c D (hm_A w s.heap.size) 2 0 0 (MQ below (hm_Qi D w s.heap.size (fun r w2 => r = iI (if 0 ≤ i ∧ i < L then (if mem tf i.toNat then 0 else 1) else -1) ∧ ∃ tf2 : Nat → Int32, kAt K w2 ad F tf2 L P df ∧ kFr ad w w2 ∧ ∀ j : Nat, (j : Int) < L → mem tf2 j = if 0 ≤ i ∧ j = i.toNat then !mem tf j else mem tf j)) args s 0 0 (hm_A w s.heap.size)) (tM K w (ad 3) (ad 5) f2 L P) 29 [(0, .ref (ad 0)), (1, .int (iI (i)))] [.int (bI (decide (0 ≤ i) && tb f2 L i.toNat))]
    exact hv_iret E dX6_flip_29 hr ⟨by
          unfold tb
          rw [if_pos (by omega), decide_eq_true (show 0 ≤ i by omega), decide_eq_true (show (i.toNat : Int) < L by omega), hf2, decide_eq_true rfl]
          cases mem tf i.toNat <;> rfl, f2, hk2, kFr.tM, fun j hj => by
          rw [hf2]
          by_cases hj2 : j = i.toNat
          · rw [if_pos (by omega), decide_eq_true hj2, Bool.xor_true]
          · rw [if_neg (by omega), decide_eq_false hj2, Bool.xor_false]⟩
  · have c1 := of_decide_eq_false c1
    refine hv_iconst E dX6_flip_11 rfl ?_
    exact hv_iret E dX6_flip_12 hr ⟨(by (repeat (first | rw [if_pos (by omega)] | rw [if_neg (by omega)])) <;> first | done | rfl), tf, hk, kFr.rf, fun j hj => by rw [if_neg (by omega)]⟩
set_option maxHeartbeats 4000000 in
set_option maxRecDepth 100000 in
theorem c6_cut (l : Launch) (D : va_G) (K : Nat → ClassId) {w : hm_M} {ad : Nat → Nat} {F : Nat → Nat → Int32} {tf : Nat → Int32} {L P : Int} {df : Nat → Int32} (n : Int) (hn : iB n) (hk : kAt K w ad F tf L P df)  : hm_Ci l D K yX6_cut cX6_cut 3 .int 1 [.ref (ad 0), .int (iI (n))] w 0 0 (fun r w2 => r = iI (if 0 ≤ n ∧ n ≤ L then L - n else -3) ∧ kAt K w2 ad F tf (if 0 ≤ n ∧ n ≤ L then n else L) P df ∧ kFr ad w w2) := by
  refine hm_enterI (by decide) (Nat.le_of_ble_eq_true rfl) ?_
  intro p e s m args below meth c E hr hnm
  show hm_V p l e (hm_rm 1 0 0) s m args below meth c D (hm_A w s.heap.size) 3 0 0 (MQ below (hm_Qi D w s.heap.size (fun r w2 => r = iI (if 0 ≤ n ∧ n ≤ L then L - n else -3) ∧ kAt K w2 ad F tf (if 0 ≤ n ∧ n ≤ L then n else L) P df ∧ kFr ad w w2)) args s 0 0 (hm_A w s.heap.size)) w 0 [(0, .ref (ad 0)), (1, .int (iI (n)))] []
  have hL0 := hk.L0
  have hL1 := hk.L1
  refine hv_aload_n E dX6_cut_0 rfl 0 rfl rfl ?_
  refine hv_get (kf := 2) E dX6_cut_1 (show vwCl[5]? = some (RX6, TX6, 4) from rfl) (by decide) gW_X6 gF_X6_24 rfl hk.o rfl rfl ?_
  refine hv_callVI (na := 0) (As := []) (st := []) E (c4_held l D K hk.t) dX6_cut_4 hk.t.1 (show vwCl[3]? = some (RX4, TX4, 3) from rfl) gL_X6_121 gV_X4_held gI_X4_held gC_X4_held gZ_X4 (by decide +kernel) rfl ⟨Nat.le_of_ble_eq_true rfl, Nat.le_of_ble_eq_true rfl⟩ (Nat.le_of_ble_eq_true rfl) ⟨Nat.zero_le _, Nat.zero_le _⟩ rfl rfl (fun r w2 hp => ?_)
  rw [hp.1, hp.2]
  show hm_V p l e (hm_rm 1 0 0) s m args below meth c D (hm_A w s.heap.size) 3 0 0 (MQ below (hm_Qi D w s.heap.size (fun r w2 => r = iI (if 0 ≤ n ∧ n ≤ L then L - n else -3) ∧ kAt K w2 ad F tf (if 0 ≤ n ∧ n ≤ L then n else L) P df ∧ kFr ad w w2)) args s 0 0 (hm_A w s.heap.size)) w 7 [(0, .ref (ad 0)), (1, .int (iI (n)))] [.int (iI (L))]
  refine hv_istore_n (lv2 := [(2, .int (iI (L))), (0, .ref (ad 0)), (1, .int (iI (n)))]) E dX6_cut_7 rfl (by decide) rfl rfl ?_
  refine hv_iload_n E dX6_cut_8 rfl 2 rfl rfl ?_
  refine hv_if_lt E 17 dX6_cut_9 (by decide) hn rfl (fun c1 => ?_) (fun c1 => ?_)
  · skip
    refine hv_bipush E dX6_cut_17 (by decide +kernel) rfl ?_
    exact hv_iret E dX6_cut_19 hr ⟨(by (repeat (first | rw [if_pos (by omega)] | rw [if_neg (by omega)])) <;> first | done | rfl), by rw [if_neg (by omega)]; exact hk, kFr.rf⟩
  · skip
    refine hv_iload_n E dX6_cut_12 rfl 2 rfl rfl ?_
    refine hv_iload_n E dX6_cut_13 rfl 0 rfl rfl ?_
    refine hv_icmp_le E 20 dX6_cut_14 (by decide) hn ⟨by omega, by omega⟩ rfl (fun c2 => ?_) (fun c2 => ?_)
    · skip
      refine hv_aload_n E dX6_cut_20 rfl 1 rfl rfl ?_
      refine hv_get (kf := 2) E dX6_cut_21 (show vwCl[5]? = some (RX6, TX6, 4) from rfl) (by decide) gW_X6 gF_X6_24 rfl hk.o rfl rfl ?_
      refine hv_iload_n E dX6_cut_24 rfl 2 rfl rfl ?_
      refine hv_callVV (na := 1) (As := [.int (iI (n))]) (st := []) E (c4_keepFirst l D K n (by omega) (by omega) hk.t hk.L0 hk.L1) dX6_cut_25 hk.t.1 (show vwCl[3]? = some (RX4, TX4, 3) from rfl) gL_X6_114 gV_X4_keepFirst gI_X4_keepFirst gC_X4_keepFirst gZ_X4 (by decide +kernel) rfl ⟨Nat.le_of_ble_eq_true rfl, Nat.le_of_ble_eq_true rfl⟩ (Nat.le_of_ble_eq_true rfl) ⟨Nat.zero_le _, Nat.zero_le _⟩ rfl rfl (fun w2 hp => ?_)
      rw [hp]
      show hm_V p l e (hm_rm 1 0 0) s m args below meth c D (hm_A w s.heap.size) 3 0 0 (MQ below (hm_Qi D w s.heap.size (fun r w2 => r = iI (if 0 ≤ n ∧ n ≤ L then L - n else -3) ∧ kAt K w2 ad F tf (if 0 ≤ n ∧ n ≤ L then n else L) P df ∧ kFr ad w w2)) args s 0 0 (hm_A w s.heap.size)) (tM K w (ad 3) (ad 5) tf n P) 28 [(2, .int (iI (L))), (0, .ref (ad 0)), (1, .int (iI (n)))] []
      refine hv_iload_n E dX6_cut_28 rfl 0 rfl rfl ?_
      refine hv_iload_n E dX6_cut_29 rfl 2 rfl rfl ?_
      refine hv_isub E dX6_cut_30 rfl ?_
      exact hv_iret E dX6_cut_31 hr ⟨(by (repeat (first | rw [if_pos (by omega)] | rw [if_neg (by omega)])) <;> first | done | rfl), by rw [if_pos (by omega)]; exact hk.tape tf (by omega) (by omega), kFr.tM⟩
    · skip
      refine hv_bipush E dX6_cut_17 (by decide +kernel) rfl ?_
      exact hv_iret E dX6_cut_19 hr ⟨(by (repeat (first | rw [if_pos (by omega)] | rw [if_neg (by omega)])) <;> first | done | rfl), by rw [if_neg (by omega)]; exact hk, kFr.rf⟩
set_option maxHeartbeats 4000000 in
set_option maxRecDepth 100000 in
theorem c6_sign (l : Launch) (D : va_G) (K : Nat → ClassId) {w : hm_M} {ad : Nat → Nat} {F : Nat → Nat → Int32} {tf : Nat → Int32} {L P : Int} {df : Nat → Int32} (y : Bool) (hk : kAt K w ad F tf L P df)  : hm_Ci l D K yX6_sign cX6_sign 2 .int 1 [.ref (ad 0), .int (bI (y))] w 0 0 (fun r w2 => r = iI (if L < 8210 then L + 1 else -4) ∧ ∃ tf2 : Nat → Int32, kAt K w2 ad F tf2 (if L < 8210 then L + 1 else L) P df ∧ kFr ad w w2 ∧ ∀ i : Nat, (i : Int) < (if L < 8210 then L + 1 else L) → mem tf2 i = if L < 8210 ∧ (i : Int) = L then y else mem tf i) := by
  refine hm_enterI (by decide) (Nat.le_of_ble_eq_true rfl) ?_
  intro p e s m args below meth c E hr hnm
  show hm_V p l e (hm_rm 1 0 0) s m args below meth c D (hm_A w s.heap.size) 2 0 0 (MQ below (hm_Qi D w s.heap.size (fun r w2 => r = iI (if L < 8210 then L + 1 else -4) ∧ ∃ tf2 : Nat → Int32, kAt K w2 ad F tf2 (if L < 8210 then L + 1 else L) P df ∧ kFr ad w w2 ∧ ∀ i : Nat, (i : Int) < (if L < 8210 then L + 1 else L) → mem tf2 i = if L < 8210 ∧ (i : Int) = L then y else mem tf i)) args s 0 0 (hm_A w s.heap.size)) w 0 [(0, .ref (ad 0)), (1, .int (bI (y)))] []
  have hL0 := hk.L0
  have hL1 := hk.L1
  refine hv_aload_n E dX6_sign_0 rfl 0 rfl rfl ?_
  refine hv_get (kf := 2) E dX6_sign_1 (show vwCl[5]? = some (RX6, TX6, 4) from rfl) (by decide) gW_X6 gF_X6_24 rfl hk.o rfl rfl ?_
  refine hv_callVI (na := 0) (As := []) (st := []) E (c4_held l D K hk.t) dX6_sign_4 hk.t.1 (show vwCl[3]? = some (RX4, TX4, 3) from rfl) gL_X6_121 gV_X4_held gI_X4_held gC_X4_held gZ_X4 (by decide +kernel) rfl ⟨Nat.le_of_ble_eq_true rfl, Nat.le_of_ble_eq_true rfl⟩ (Nat.le_of_ble_eq_true rfl) ⟨Nat.zero_le _, Nat.zero_le _⟩ rfl rfl (fun r w2 hp => ?_)
  rw [hp.1, hp.2]
  show hm_V p l e (hm_rm 1 0 0) s m args below meth c D (hm_A w s.heap.size) 2 0 0 (MQ below (hm_Qi D w s.heap.size (fun r w2 => r = iI (if L < 8210 then L + 1 else -4) ∧ ∃ tf2 : Nat → Int32, kAt K w2 ad F tf2 (if L < 8210 then L + 1 else L) P df ∧ kFr ad w w2 ∧ ∀ i : Nat, (i : Int) < (if L < 8210 then L + 1 else L) → mem tf2 i = if L < 8210 ∧ (i : Int) = L then y else mem tf i)) args s 0 0 (hm_A w s.heap.size)) w 7 [(0, .ref (ad 0)), (1, .int (bI (y)))] [.int (iI (L))]
  refine hv_sipush E dX6_sign_7 (by decide +kernel) rfl ?_
  refine hv_icmp_lt E 16 dX6_sign_10 (by decide) ⟨by omega, by omega⟩ ⟨by omega, by omega⟩ rfl (fun c1 => ?_) (fun c1 => ?_)
  · skip
    refine hv_aload_n E dX6_sign_16 rfl 0 rfl rfl ?_
    refine hv_get (kf := 2) E dX6_sign_17 (show vwCl[5]? = some (RX6, TX6, 4) from rfl) (by decide) gW_X6 gF_X6_24 rfl hk.o rfl rfl ?_
    refine hv_iload_n E dX6_sign_20 rfl 1 rfl rfl ?_
    refine hv_if_eqB E 28 dX6_sign_21 (by decide) rfl (fun c2 => ?_) (fun c2 => ?_)
    · refine hv_iconst E dX6_sign_28 rfl ?_
      refine hv_iconst E dX6_sign_29 rfl ?_
      refine hv_callVV (na := 2) (As := [.int (iI (0)), .int (iI (1))]) (st := []) E (c4_append l D K (iI 0) 1 (by omega) (by omega) (by omega) hk.t hk.L0 hk.L1) dX6_sign_30 hk.t.1 (show vwCl[3]? = some (RX4, TX4, 3) from rfl) gL_X6_132 gV_X4_append gI_X4_append gC_X4_append gZ_X4 (by decide +kernel) rfl ⟨Nat.le_of_ble_eq_true rfl, Nat.le_of_ble_eq_true rfl⟩ (Nat.le_of_ble_eq_true rfl) ⟨Nat.zero_le _, Nat.zero_le _⟩ rfl rfl (fun w2 hp => ?_)
      obtain ⟨f2, e2, hf2, hf3⟩ := hp
      rw [e2]
      have hk2 := hk.tape f2 (L2 := L + 1) (P2 := P) (by omega) (by omega)
      show hm_V p l e (hm_rm 1 0 0) s m args below meth c D (hm_A w s.heap.size) 2 0 0 (MQ below (hm_Qi D w s.heap.size (fun r w2 => r = iI (if L < 8210 then L + 1 else -4) ∧ ∃ tf2 : Nat → Int32, kAt K w2 ad F tf2 (if L < 8210 then L + 1 else L) P df ∧ kFr ad w w2 ∧ ∀ i : Nat, (i : Int) < (if L < 8210 then L + 1 else L) → mem tf2 i = if L < 8210 ∧ (i : Int) = L then y else mem tf i)) args s 0 0 (hm_A w s.heap.size)) (tM K w (ad 3) (ad 5) f2 (L + 1) P) 33 [(0, .ref (ad 0)), (1, .int (bI (y)))] []
      refine hv_aload_n E dX6_sign_33 rfl 0 rfl rfl ?_
      refine hv_get (kf := 2) E dX6_sign_34 (show vwCl[5]? = some (RX6, TX6, 4) from rfl) (by decide) gW_X6 gF_X6_24 rfl hk2.o rfl rfl ?_
      refine hv_callVI (na := 0) (As := []) (st := []) E (c4_held l D K hk2.t) dX6_sign_37 hk2.t.1 (show vwCl[3]? = some (RX4, TX4, 3) from rfl) gL_X6_121 gV_X4_held gI_X4_held gC_X4_held gZ_X4 (by decide +kernel) rfl ⟨Nat.le_of_ble_eq_true rfl, Nat.le_of_ble_eq_true rfl⟩ (Nat.le_of_ble_eq_true rfl) ⟨Nat.zero_le _, Nat.zero_le _⟩ rfl rfl (fun r w2 hp => ?_)
      rw [hp.1, hp.2]
      show hm_V p l e (hm_rm 1 0 0) s m args below meth c D (hm_A w s.heap.size) 2 0 0 (MQ below (hm_Qi D w s.heap.size (fun r w2 => r = iI (if L < 8210 then L + 1 else -4) ∧ ∃ tf2 : Nat → Int32, kAt K w2 ad F tf2 (if L < 8210 then L + 1 else L) P df ∧ kFr ad w w2 ∧ ∀ i : Nat, (i : Int) < (if L < 8210 then L + 1 else L) → mem tf2 i = if L < 8210 ∧ (i : Int) = L then y else mem tf i)) args s 0 0 (hm_A w s.heap.size)) (tM K w (ad 3) (ad 5) f2 (L + 1) P) 40 [(0, .ref (ad 0)), (1, .int (bI (y)))] [.int (iI (L + 1))]
      exact hv_iret E dX6_sign_40 hr ⟨(by (repeat (first | rw [if_pos (by omega)] | rw [if_neg (by omega)])) <;> first | done | rfl), f2, by rw [if_pos (by omega)]; exact hk2, kFr.tM, fun i hi => by
            rw [if_pos (by omega)] at hi
            by_cases hi2 : (i : Int) = L
            · have h9 := hf3 0 (by omega)
              rw [show L.toNat + 0 = i by omega] at h9
              rw [h9, if_pos ⟨by omega, hi2⟩, c2]; decide +kernel
            · rw [if_neg (by omega)]; exact hf2 i (by omega)⟩
    · refine hv_iconst E dX6_sign_24 rfl ?_
      refine hv_goto E 29 dX6_sign_25 (by decide) ?_
      refine hv_iconst E dX6_sign_29 rfl ?_
      refine hv_callVV (na := 2) (As := [.int (iI (1)), .int (iI (1))]) (st := []) E (c4_append l D K (iI 1) 1 (by omega) (by omega) (by omega) hk.t hk.L0 hk.L1) dX6_sign_30 hk.t.1 (show vwCl[3]? = some (RX4, TX4, 3) from rfl) gL_X6_132 gV_X4_append gI_X4_append gC_X4_append gZ_X4 (by decide +kernel) rfl ⟨Nat.le_of_ble_eq_true rfl, Nat.le_of_ble_eq_true rfl⟩ (Nat.le_of_ble_eq_true rfl) ⟨Nat.zero_le _, Nat.zero_le _⟩ rfl rfl (fun w2 hp => ?_)
      obtain ⟨f2, e2, hf2, hf3⟩ := hp
      rw [e2]
      have hk2 := hk.tape f2 (L2 := L + 1) (P2 := P) (by omega) (by omega)
      show hm_V p l e (hm_rm 1 0 0) s m args below meth c D (hm_A w s.heap.size) 2 0 0 (MQ below (hm_Qi D w s.heap.size (fun r w2 => r = iI (if L < 8210 then L + 1 else -4) ∧ ∃ tf2 : Nat → Int32, kAt K w2 ad F tf2 (if L < 8210 then L + 1 else L) P df ∧ kFr ad w w2 ∧ ∀ i : Nat, (i : Int) < (if L < 8210 then L + 1 else L) → mem tf2 i = if L < 8210 ∧ (i : Int) = L then y else mem tf i)) args s 0 0 (hm_A w s.heap.size)) (tM K w (ad 3) (ad 5) f2 (L + 1) P) 33 [(0, .ref (ad 0)), (1, .int (bI (y)))] []
      refine hv_aload_n E dX6_sign_33 rfl 0 rfl rfl ?_
      refine hv_get (kf := 2) E dX6_sign_34 (show vwCl[5]? = some (RX6, TX6, 4) from rfl) (by decide) gW_X6 gF_X6_24 rfl hk2.o rfl rfl ?_
      refine hv_callVI (na := 0) (As := []) (st := []) E (c4_held l D K hk2.t) dX6_sign_37 hk2.t.1 (show vwCl[3]? = some (RX4, TX4, 3) from rfl) gL_X6_121 gV_X4_held gI_X4_held gC_X4_held gZ_X4 (by decide +kernel) rfl ⟨Nat.le_of_ble_eq_true rfl, Nat.le_of_ble_eq_true rfl⟩ (Nat.le_of_ble_eq_true rfl) ⟨Nat.zero_le _, Nat.zero_le _⟩ rfl rfl (fun r w2 hp => ?_)
      rw [hp.1, hp.2]
      show hm_V p l e (hm_rm 1 0 0) s m args below meth c D (hm_A w s.heap.size) 2 0 0 (MQ below (hm_Qi D w s.heap.size (fun r w2 => r = iI (if L < 8210 then L + 1 else -4) ∧ ∃ tf2 : Nat → Int32, kAt K w2 ad F tf2 (if L < 8210 then L + 1 else L) P df ∧ kFr ad w w2 ∧ ∀ i : Nat, (i : Int) < (if L < 8210 then L + 1 else L) → mem tf2 i = if L < 8210 ∧ (i : Int) = L then y else mem tf i)) args s 0 0 (hm_A w s.heap.size)) (tM K w (ad 3) (ad 5) f2 (L + 1) P) 40 [(0, .ref (ad 0)), (1, .int (bI (y)))] [.int (iI (L + 1))]
      exact hv_iret E dX6_sign_40 hr ⟨(by (repeat (first | rw [if_pos (by omega)] | rw [if_neg (by omega)])) <;> first | done | rfl), f2, by rw [if_pos (by omega)]; exact hk2, kFr.tM, fun i hi => by
            rw [if_pos (by omega)] at hi
            by_cases hi2 : (i : Int) = L
            · have h9 := hf3 0 (by omega)
              rw [show L.toNat + 0 = i by omega] at h9
              rw [h9, if_pos ⟨by omega, hi2⟩, c2]; decide +kernel
            · rw [if_neg (by omega)]; exact hf2 i (by omega)⟩
  · skip
    refine hv_bipush E dX6_sign_13 (by decide +kernel) rfl ?_
    exact hv_iret E dX6_sign_15 hr ⟨(by (repeat (first | rw [if_pos (by omega)] | rw [if_neg (by omega)])) <;> first | done | rfl), tf, by rw [if_neg (by omega)]; exact hk, kFr.rf, fun i hi => by rw [if_neg (by omega)]⟩
