theorem code_0 (S : Nat → Bool) : code_ S 0 = cdP S := rfl
theorem code_1 (S : Nat → Bool) : code_ S 1 = cdG S := rfl
theorem code_2 (S : Nat → Bool) : code_ S 2 = cdC S := rfl
set_option maxHeartbeats 4000000 in
set_option maxRecDepth 100000 in
theorem c6_length (l : Launch) (D : va_G) (K : Nat → ClassId) {w : hm_M} {ad : Nat → Nat} {F : Nat → Nat → Int32} {tf : Nat → Int32} {L P : Int} {df : Nat → Int32} (x v : Int) (hx : iB x) (hv : iB v) (hk : kAt K w ad F tf L P df)  : hm_Ci l D K yX6_length cX6_length 3 .int 5 [.ref (ad 0), .int (iI (x)), .int (iI (v))] w 0 0 (fun r w2 => r = iI (if 0 ≤ x ∧ x < 8 then (if 0 ≤ v ∧ v < 3 then ((code_ (mem (F x.toNat)) v).length : Nat) else -3) else -2) ∧ w2 = w) := by
  refine hm_enterI (by decide) (Nat.le_of_ble_eq_true rfl) ?_
  intro p e s m args below meth c E hr hnm
  show hm_V p l e (hm_rm 5 0 0) s m args below meth c D (hm_A w s.heap.size) 3 0 0 (MQ below (hm_Qi D w s.heap.size (fun r w2 => r = iI (if 0 ≤ x ∧ x < 8 then (if 0 ≤ v ∧ v < 3 then ((code_ (mem (F x.toNat)) v).length : Nat) else -3) else -2) ∧ w2 = w)) args s 0 0 (hm_A w s.heap.size)) w 0 [(0, .ref (ad 0)), (1, .int (iI (x))), (2, .int (iI (v)))] []
  refine hv_iload_n E dX6_length_0 rfl 1 rfl rfl ?_
  refine hv_callSI (na := 1) (As := [.int (iI (x))]) (st := []) E (c6_isSet l D K x hx) dX6_length_1 gL_X6_42 gS_X6_isSet gC_X6_isSet gZ_X6 (by decide +kernel) rfl ⟨Nat.le_of_ble_eq_true rfl, Nat.le_of_ble_eq_true rfl⟩ (Nat.le_of_ble_eq_true rfl) ⟨Nat.zero_le _, Nat.zero_le _⟩ rfl rfl (fun r w2 hp => ?_)
  rw [hp.1, hp.2]
  show hm_V p l e (hm_rm 5 0 0) s m args below meth c D (hm_A w s.heap.size) 3 0 0 (MQ below (hm_Qi D w s.heap.size (fun r w2 => r = iI (if 0 ≤ x ∧ x < 8 then (if 0 ≤ v ∧ v < 3 then ((code_ (mem (F x.toNat)) v).length : Nat) else -3) else -2) ∧ w2 = w)) args s 0 0 (hm_A w s.heap.size)) w 4 [(0, .ref (ad 0)), (1, .int (iI (x))), (2, .int (iI (v)))] [.int (bI (decide (0 ≤ x ∧ x < 8)))]
  refine hv_if_neB E 10 dX6_length_4 (by decide) rfl (fun c1 => ?_) (fun c1 => ?_)
  · have c1 := of_decide_eq_true c1
    refine hv_iload_n E dX6_length_10 rfl 2 rfl rfl ?_
    refine hv_callSI (na := 1) (As := [.int (iI (v))]) (st := []) E (c6_isKind l D K v hv) dX6_length_11 gL_X6_108 gS_X6_isKind gC_X6_isKind gZ_X6 (by decide +kernel) rfl ⟨Nat.le_of_ble_eq_true rfl, Nat.le_of_ble_eq_true rfl⟩ (Nat.le_of_ble_eq_true rfl) ⟨Nat.zero_le _, Nat.zero_le _⟩ rfl rfl (fun r w2 hp => ?_)
    rw [hp.1, hp.2]
    show hm_V p l e (hm_rm 5 0 0) s m args below meth c D (hm_A w s.heap.size) 3 0 0 (MQ below (hm_Qi D w s.heap.size (fun r w2 => r = iI (if 0 ≤ x ∧ x < 8 then (if 0 ≤ v ∧ v < 3 then ((code_ (mem (F x.toNat)) v).length : Nat) else -3) else -2) ∧ w2 = w)) args s 0 0 (hm_A w s.heap.size)) w 14 [(0, .ref (ad 0)), (1, .int (iI (x))), (2, .int (iI (v)))] [.int (bI (decide (0 ≤ v ∧ v < 3)))]
    refine hv_if_neB E 20 dX6_length_14 (by decide) rfl (fun c2 => ?_) (fun c2 => ?_)
    · have c2 := of_decide_eq_true c2
      refine hv_aload_n E dX6_length_20 rfl 0 rfl rfl ?_
      refine hv_get (kf := 1) E dX6_length_21 (show vwCl[5]? = some (RX6, TX6, 4) from rfl) (by decide) gW_X6 gF_X6_17 rfl hk.o rfl rfl ?_
      refine hv_iload_n E dX6_length_24 rfl 2 rfl rfl ?_
      obtain ⟨fc, hfc, hc0, hc1, hc2⟩ := hk.2.2.1
      rcases (show v = 0 ∨ v = 1 ∨ v = 2 by omega) with ev | ev | ev
      · refine hv_aaldC E dX6_length_25 hfc (by omega) (by omega) (by decide) (by rw [ev]; exact hc0) rfl ?_
        obtain ⟨CC, hCC⟩ : ∃ z, z = cdP (mem (F x.toNat)) := ⟨_, rfl⟩
        refine hv_aload_n E dX6_length_26 rfl 0 rfl rfl ?_
        refine hv_get (kf := 0) E dX6_length_27 (show vwCl[5]? = some (RX6, TX6, 4) from rfl) (by decide) gW_X6 gF_X6_11 rfl hk.o rfl rfl ?_
        refine hv_iload_n E dX6_length_30 rfl 1 rfl rfl ?_
        obtain ⟨fa, hfa, hfb⟩ := hk.2.1
        refine hv_aaldN E dX6_length_31 hfa (by omega) (by omega) (by decide) (hfb (x).toNat (by omega)) rfl ?_
        have C1 := c5_bitsFor l D K (a := ad 7) (hk.n (show (x).toNat < 8 by omega))
        rw [← hCC] at C1
        refine hv_callUI (na := 1) (As := [.ref (ad (10 + (x).toNat))]) (st := []) (owner := "KeyRows$Code") E C1 dX6_length_32 hk.2.2.2.1.1 (show vwCl[4]? = some (RX5, TX5, 0) from rfl) gL_X6_111 gM_bitsFor gV_X5_bitsFor gI_X5_bitsFor (by decide) gC_X5_bitsFor gZ_X5 (by decide +kernel) rfl ⟨Nat.le_of_ble_eq_true rfl, Nat.le_of_ble_eq_true rfl⟩ (Nat.le_of_ble_eq_true rfl) ⟨Nat.zero_le _, Nat.zero_le _⟩ rfl rfl (fun r w2 hp => ?_)
        rw [hp.1, hp.2]
        show hm_V p l e (hm_rm 5 0 0) s m args below meth c D (hm_A w s.heap.size) 3 0 0 (MQ below (hm_Qi D w s.heap.size (fun r w2 => r = iI (if 0 ≤ x ∧ x < 8 then (if 0 ≤ v ∧ v < 3 then ((code_ (mem (F x.toNat)) v).length : Nat) else -3) else -2) ∧ w2 = w)) args s 0 0 (hm_A w s.heap.size)) w 35 [(0, .ref (ad 0)), (1, .int (iI (x))), (2, .int (iI (v)))] [.int (iI ((CC.length : Nat)))]
        exact hv_iret E dX6_length_35 hr ⟨by rw [if_pos (by omega), if_pos (by omega), ev, code_0, ← hCC], rfl⟩
      · refine hv_aaldC E dX6_length_25 hfc (by omega) (by omega) (by decide) (by rw [ev]; exact hc1) rfl ?_
        obtain ⟨CC, hCC⟩ : ∃ z, z = cdG (mem (F x.toNat)) := ⟨_, rfl⟩
        refine hv_aload_n E dX6_length_26 rfl 0 rfl rfl ?_
        refine hv_get (kf := 0) E dX6_length_27 (show vwCl[5]? = some (RX6, TX6, 4) from rfl) (by decide) gW_X6 gF_X6_11 rfl hk.o rfl rfl ?_
        refine hv_iload_n E dX6_length_30 rfl 1 rfl rfl ?_
        obtain ⟨fa, hfa, hfb⟩ := hk.2.1
        refine hv_aaldN E dX6_length_31 hfa (by omega) (by omega) (by decide) (hfb (x).toNat (by omega)) rfl ?_
        have C1 := c1_bitsFor l D K (a := ad 8) (hk.n (show (x).toNat < 8 by omega))
        rw [← hCC] at C1
        refine hv_callUI (na := 1) (As := [.ref (ad (10 + (x).toNat))]) (st := []) (owner := "KeyRows$Code") E C1 dX6_length_32 hk.2.2.2.1.2.1 (show vwCl[0]? = some (RX1, TX1, 0) from rfl) gL_X6_111 gM_bitsFor gV_X1_bitsFor gI_X1_bitsFor (by decide) gC_X1_bitsFor gZ_X1 (by decide +kernel) rfl ⟨Nat.le_of_ble_eq_true rfl, Nat.le_of_ble_eq_true rfl⟩ (Nat.le_of_ble_eq_true rfl) ⟨Nat.zero_le _, Nat.zero_le _⟩ rfl rfl (fun r w2 hp => ?_)
        rw [hp.1, hp.2]
        show hm_V p l e (hm_rm 5 0 0) s m args below meth c D (hm_A w s.heap.size) 3 0 0 (MQ below (hm_Qi D w s.heap.size (fun r w2 => r = iI (if 0 ≤ x ∧ x < 8 then (if 0 ≤ v ∧ v < 3 then ((code_ (mem (F x.toNat)) v).length : Nat) else -3) else -2) ∧ w2 = w)) args s 0 0 (hm_A w s.heap.size)) w 35 [(0, .ref (ad 0)), (1, .int (iI (x))), (2, .int (iI (v)))] [.int (iI ((CC.length : Nat)))]
        exact hv_iret E dX6_length_35 hr ⟨by rw [if_pos (by omega), if_pos (by omega), ev, code_1, ← hCC], rfl⟩
      · refine hv_aaldC E dX6_length_25 hfc (by omega) (by omega) (by decide) (by rw [ev]; exact hc2) rfl ?_
        obtain ⟨CC, hCC⟩ : ∃ z, z = cdC (mem (F x.toNat)) := ⟨_, rfl⟩
        refine hv_aload_n E dX6_length_26 rfl 0 rfl rfl ?_
        refine hv_get (kf := 0) E dX6_length_27 (show vwCl[5]? = some (RX6, TX6, 4) from rfl) (by decide) gW_X6 gF_X6_11 rfl hk.o rfl rfl ?_
        refine hv_iload_n E dX6_length_30 rfl 1 rfl rfl ?_
        obtain ⟨fa, hfa, hfb⟩ := hk.2.1
        refine hv_aaldN E dX6_length_31 hfa (by omega) (by omega) (by decide) (hfb (x).toNat (by omega)) rfl ?_
        have C1 := c3_bitsFor l D K (a := ad 9) (hk.n (show (x).toNat < 8 by omega))
        rw [← hCC] at C1
        refine hv_callUI (na := 1) (As := [.ref (ad (10 + (x).toNat))]) (st := []) (owner := "KeyRows$Code") E C1 dX6_length_32 hk.2.2.2.1.2.2 (show vwCl[2]? = some (RX3, TX3, 0) from rfl) gL_X6_111 gM_bitsFor gV_X3_bitsFor gI_X3_bitsFor (by decide) gC_X3_bitsFor gZ_X3 (by decide +kernel) rfl ⟨Nat.le_of_ble_eq_true rfl, Nat.le_of_ble_eq_true rfl⟩ (Nat.le_of_ble_eq_true rfl) ⟨Nat.zero_le _, Nat.zero_le _⟩ rfl rfl (fun r w2 hp => ?_)
        rw [hp.1, hp.2]
        show hm_V p l e (hm_rm 5 0 0) s m args below meth c D (hm_A w s.heap.size) 3 0 0 (MQ below (hm_Qi D w s.heap.size (fun r w2 => r = iI (if 0 ≤ x ∧ x < 8 then (if 0 ≤ v ∧ v < 3 then ((code_ (mem (F x.toNat)) v).length : Nat) else -3) else -2) ∧ w2 = w)) args s 0 0 (hm_A w s.heap.size)) w 35 [(0, .ref (ad 0)), (1, .int (iI (x))), (2, .int (iI (v)))] [.int (iI ((CC.length : Nat)))]
        exact hv_iret E dX6_length_35 hr ⟨by rw [if_pos (by omega), if_pos (by omega), ev, code_2, ← hCC], rfl⟩
    · have c2 := of_decide_eq_false c2
      refine hv_bipush E dX6_length_17 (by decide +kernel) rfl ?_
      exact hv_iret E dX6_length_19 hr ⟨(by (repeat (first | rw [if_pos (by omega)] | rw [if_neg (by omega)])) <;> first | done | rfl), rfl⟩
  · have c1 := of_decide_eq_false c1
    refine hv_bipush E dX6_length_7 (by decide +kernel) rfl ?_
    exact hv_iret E dX6_length_9 hr ⟨(by (repeat (first | rw [if_pos (by omega)] | rw [if_neg (by omega)])) <;> first | done | rfl), rfl⟩
set_option maxHeartbeats 4000000 in
set_option maxRecDepth 100000 in
theorem c6_write (l : Launch) (D : va_G) (K : Nat → ClassId) {w : hm_M} {ad : Nat → Nat} {F : Nat → Nat → Int32} {tf : Nat → Int32} {L P : Int} {df : Nat → Int32} (x v : Int) (hx : iB x) (hv : iB v) (hk : kAt K w ad F tf L P df)  : hm_Ci l D K yX6_write cX6_write 3 .int 5 [.ref (ad 0), .int (iI (x)), .int (iI (v))] w 0 0 (fun r w2 => r = iI (if 0 ≤ x ∧ x < 8 then (if 0 ≤ v ∧ v < 3 then ((code_ (mem (F x.toNat)) v).length : Nat) else -3) else -2) ∧ ∃ tf2 : Nat → Int32, kAt K w2 ad F tf2 (if ((0 ≤ x ∧ x < 8) ∧ 0 ≤ v ∧ v < 3) then ((code_ (mem (F x.toNat)) v).length : Nat) else L) P df ∧ kFr ad w w2 ∧ ∀ i : Nat, (i : Int) < (if ((0 ≤ x ∧ x < 8) ∧ 0 ≤ v ∧ v < 3) then (((code_ (mem (F x.toNat)) v).length : Nat) : Int) else L) → mem tf2 i = if ((0 ≤ x ∧ x < 8) ∧ 0 ≤ v ∧ v < 3) then (code_ (mem (F x.toNat)) v).getD i false else mem tf i) := by
  refine hm_enterI (by decide) (Nat.le_of_ble_eq_true rfl) ?_
  intro p e s m args below meth c E hr hnm
  show hm_V p l e (hm_rm 5 0 0) s m args below meth c D (hm_A w s.heap.size) 3 0 0 (MQ below (hm_Qi D w s.heap.size (fun r w2 => r = iI (if 0 ≤ x ∧ x < 8 then (if 0 ≤ v ∧ v < 3 then ((code_ (mem (F x.toNat)) v).length : Nat) else -3) else -2) ∧ ∃ tf2 : Nat → Int32, kAt K w2 ad F tf2 (if ((0 ≤ x ∧ x < 8) ∧ 0 ≤ v ∧ v < 3) then ((code_ (mem (F x.toNat)) v).length : Nat) else L) P df ∧ kFr ad w w2 ∧ ∀ i : Nat, (i : Int) < (if ((0 ≤ x ∧ x < 8) ∧ 0 ≤ v ∧ v < 3) then (((code_ (mem (F x.toNat)) v).length : Nat) : Int) else L) → mem tf2 i = if ((0 ≤ x ∧ x < 8) ∧ 0 ≤ v ∧ v < 3) then (code_ (mem (F x.toNat)) v).getD i false else mem tf i)) args s 0 0 (hm_A w s.heap.size)) w 0 [(0, .ref (ad 0)), (1, .int (iI (x))), (2, .int (iI (v)))] []
  have hL0 := hk.L0
  have hL1 := hk.L1
  refine hv_iload_n E dX6_write_0 rfl 1 rfl rfl ?_
  refine hv_callSI (na := 1) (As := [.int (iI (x))]) (st := []) E (c6_isSet l D K x hx) dX6_write_1 gL_X6_42 gS_X6_isSet gC_X6_isSet gZ_X6 (by decide +kernel) rfl ⟨Nat.le_of_ble_eq_true rfl, Nat.le_of_ble_eq_true rfl⟩ (Nat.le_of_ble_eq_true rfl) ⟨Nat.zero_le _, Nat.zero_le _⟩ rfl rfl (fun r w2 hp => ?_)
  rw [hp.1, hp.2]
  show hm_V p l e (hm_rm 5 0 0) s m args below meth c D (hm_A w s.heap.size) 3 0 0 (MQ below (hm_Qi D w s.heap.size (fun r w2 => r = iI (if 0 ≤ x ∧ x < 8 then (if 0 ≤ v ∧ v < 3 then ((code_ (mem (F x.toNat)) v).length : Nat) else -3) else -2) ∧ ∃ tf2 : Nat → Int32, kAt K w2 ad F tf2 (if ((0 ≤ x ∧ x < 8) ∧ 0 ≤ v ∧ v < 3) then ((code_ (mem (F x.toNat)) v).length : Nat) else L) P df ∧ kFr ad w w2 ∧ ∀ i : Nat, (i : Int) < (if ((0 ≤ x ∧ x < 8) ∧ 0 ≤ v ∧ v < 3) then (((code_ (mem (F x.toNat)) v).length : Nat) : Int) else L) → mem tf2 i = if ((0 ≤ x ∧ x < 8) ∧ 0 ≤ v ∧ v < 3) then (code_ (mem (F x.toNat)) v).getD i false else mem tf i)) args s 0 0 (hm_A w s.heap.size)) w 4 [(0, .ref (ad 0)), (1, .int (iI (x))), (2, .int (iI (v)))] [.int (bI (decide (0 ≤ x ∧ x < 8)))]
  refine hv_if_neB E 10 dX6_write_4 (by decide) rfl (fun c1 => ?_) (fun c1 => ?_)
  · have c1 := of_decide_eq_true c1
    refine hv_iload_n E dX6_write_10 rfl 2 rfl rfl ?_
    refine hv_callSI (na := 1) (As := [.int (iI (v))]) (st := []) E (c6_isKind l D K v hv) dX6_write_11 gL_X6_108 gS_X6_isKind gC_X6_isKind gZ_X6 (by decide +kernel) rfl ⟨Nat.le_of_ble_eq_true rfl, Nat.le_of_ble_eq_true rfl⟩ (Nat.le_of_ble_eq_true rfl) ⟨Nat.zero_le _, Nat.zero_le _⟩ rfl rfl (fun r w2 hp => ?_)
    rw [hp.1, hp.2]
    show hm_V p l e (hm_rm 5 0 0) s m args below meth c D (hm_A w s.heap.size) 3 0 0 (MQ below (hm_Qi D w s.heap.size (fun r w2 => r = iI (if 0 ≤ x ∧ x < 8 then (if 0 ≤ v ∧ v < 3 then ((code_ (mem (F x.toNat)) v).length : Nat) else -3) else -2) ∧ ∃ tf2 : Nat → Int32, kAt K w2 ad F tf2 (if ((0 ≤ x ∧ x < 8) ∧ 0 ≤ v ∧ v < 3) then ((code_ (mem (F x.toNat)) v).length : Nat) else L) P df ∧ kFr ad w w2 ∧ ∀ i : Nat, (i : Int) < (if ((0 ≤ x ∧ x < 8) ∧ 0 ≤ v ∧ v < 3) then (((code_ (mem (F x.toNat)) v).length : Nat) : Int) else L) → mem tf2 i = if ((0 ≤ x ∧ x < 8) ∧ 0 ≤ v ∧ v < 3) then (code_ (mem (F x.toNat)) v).getD i false else mem tf i)) args s 0 0 (hm_A w s.heap.size)) w 14 [(0, .ref (ad 0)), (1, .int (iI (x))), (2, .int (iI (v)))] [.int (bI (decide (0 ≤ v ∧ v < 3)))]
    refine hv_if_neB E 20 dX6_write_14 (by decide) rfl (fun c2 => ?_) (fun c2 => ?_)
    · have c2 := of_decide_eq_true c2
      refine hv_aload_n E dX6_write_20 rfl 0 rfl rfl ?_
      refine hv_get (kf := 2) E dX6_write_21 (show vwCl[5]? = some (RX6, TX6, 4) from rfl) (by decide) gW_X6 gF_X6_24 rfl hk.o rfl rfl ?_
      refine hv_iconst E dX6_write_24 rfl ?_
      refine hv_callVV (na := 1) (As := [.int (iI (0))]) (st := []) E (c4_keepFirst l D K 0 (by omega) (by omega) hk.t hk.L0 hk.L1) dX6_write_25 hk.t.1 (show vwCl[3]? = some (RX4, TX4, 3) from rfl) gL_X6_114 gV_X4_keepFirst gI_X4_keepFirst gC_X4_keepFirst gZ_X4 (by decide +kernel) rfl ⟨Nat.le_of_ble_eq_true rfl, Nat.le_of_ble_eq_true rfl⟩ (Nat.le_of_ble_eq_true rfl) ⟨Nat.zero_le _, Nat.zero_le _⟩ rfl rfl (fun w2 hp => ?_)
      rw [hp]
      show hm_V p l e (hm_rm 5 0 0) s m args below meth c D (hm_A w s.heap.size) 3 0 0 (MQ below (hm_Qi D w s.heap.size (fun r w2 => r = iI (if 0 ≤ x ∧ x < 8 then (if 0 ≤ v ∧ v < 3 then ((code_ (mem (F x.toNat)) v).length : Nat) else -3) else -2) ∧ ∃ tf2 : Nat → Int32, kAt K w2 ad F tf2 (if ((0 ≤ x ∧ x < 8) ∧ 0 ≤ v ∧ v < 3) then ((code_ (mem (F x.toNat)) v).length : Nat) else L) P df ∧ kFr ad w w2 ∧ ∀ i : Nat, (i : Int) < (if ((0 ≤ x ∧ x < 8) ∧ 0 ≤ v ∧ v < 3) then (((code_ (mem (F x.toNat)) v).length : Nat) : Int) else L) → mem tf2 i = if ((0 ≤ x ∧ x < 8) ∧ 0 ≤ v ∧ v < 3) then (code_ (mem (F x.toNat)) v).getD i false else mem tf i)) args s 0 0 (hm_A w s.heap.size)) (tM K w (ad 3) (ad 5) tf 0 P) 28 [(0, .ref (ad 0)), (1, .int (iI (x))), (2, .int (iI (v)))] []
      have hk2 := hk.tape tf (L2 := 0) (P2 := P) (by omega) (by omega)
      refine hv_aload_n E dX6_write_28 rfl 0 rfl rfl ?_
      refine hv_get (kf := 1) E dX6_write_29 (show vwCl[5]? = some (RX6, TX6, 4) from rfl) (by decide) gW_X6 gF_X6_17 rfl hk2.o rfl rfl ?_
      refine hv_iload_n E dX6_write_32 rfl 2 rfl rfl ?_
      obtain ⟨fc, hfc, hc0, hc1, hc2⟩ := hk2.2.2.1
      rcases (show v = 0 ∨ v = 1 ∨ v = 2 by omega) with ev | ev | ev
      · refine hv_aaldC E dX6_write_33 hfc (by omega) (by omega) (by decide) (by rw [ev]; exact hc0) rfl ?_
        obtain ⟨CC, hCC⟩ : ∃ z, z = cdP (mem (F x.toNat)) := ⟨_, rfl⟩
        have hcc : code_ (mem (F x.toNat)) v = CC := by rw [ev, code_0, hCC]
        have hcl := code_le (mem (F x.toNat)) v
        rw [hcc] at hcl
        refine hv_aload_n E dX6_write_34 rfl 0 rfl rfl ?_
        refine hv_get (kf := 0) E dX6_write_35 (show vwCl[5]? = some (RX6, TX6, 4) from rfl) (by decide) gW_X6 gF_X6_11 rfl hk2.o rfl rfl ?_
        refine hv_iload_n E dX6_write_38 rfl 1 rfl rfl ?_
        obtain ⟨fa, hfa, hfb⟩ := hk2.2.1
        refine hv_aaldN E dX6_write_39 hfa (by omega) (by omega) (by decide) (hfb (x).toNat (by omega)) rfl ?_
        refine hv_aload_n E dX6_write_40 rfl 0 rfl rfl ?_
        refine hv_get (kf := 2) E dX6_write_41 (show vwCl[5]? = some (RX6, TX6, 4) from rfl) (by decide) gW_X6 gF_X6_24 rfl hk2.o rfl rfl ?_
        have C1 := c5_tell l D K (a := ad 7) (hk2.n (show (x).toNat < 8 by omega)) hk2.t
        rw [← hCC] at C1
        refine hv_callUV (na := 2) (As := [.ref (ad (10 + (x).toNat)), .ref (ad 3)]) (st := []) (owner := "KeyRows$Code") E C1 dX6_write_44 hk2.2.2.2.1.1 (show vwCl[4]? = some (RX5, TX5, 0) from rfl) gL_X6_117 gM_tell gV_X5_tell gI_X5_tell (by decide) gC_X5_tell gZ_X5 (by decide +kernel) rfl ⟨Nat.le_of_ble_eq_true rfl, Nat.le_of_ble_eq_true rfl⟩ (Nat.le_of_ble_eq_true rfl) ⟨Nat.zero_le _, Nat.zero_le _⟩ rfl rfl (fun w2 hp => ?_)
        obtain ⟨g, e2, hq⟩ := hp
        rw [tM_tM hk.t.ne] at e2
        rw [e2]
        show hm_V p l e (hm_rm 5 0 0) s m args below meth c D (hm_A w s.heap.size) 3 0 0 (MQ below (hm_Qi D w s.heap.size (fun r w2 => r = iI (if 0 ≤ x ∧ x < 8 then (if 0 ≤ v ∧ v < 3 then ((code_ (mem (F x.toNat)) v).length : Nat) else -3) else -2) ∧ ∃ tf2 : Nat → Int32, kAt K w2 ad F tf2 (if ((0 ≤ x ∧ x < 8) ∧ 0 ≤ v ∧ v < 3) then ((code_ (mem (F x.toNat)) v).length : Nat) else L) P df ∧ kFr ad w w2 ∧ ∀ i : Nat, (i : Int) < (if ((0 ≤ x ∧ x < 8) ∧ 0 ≤ v ∧ v < 3) then (((code_ (mem (F x.toNat)) v).length : Nat) : Int) else L) → mem tf2 i = if ((0 ≤ x ∧ x < 8) ∧ 0 ≤ v ∧ v < 3) then (code_ (mem (F x.toNat)) v).getD i false else mem tf i)) args s 0 0 (hm_A w s.heap.size)) (tM K w (ad 3) (ad 5) g (CC.length : Nat) P) 47 [(0, .ref (ad 0)), (1, .int (iI (x))), (2, .int (iI (v)))] []
        have hk3 := hk.tape g (L2 := (CC.length : Nat)) (P2 := P) (by omega) (by omega)
        refine hv_aload_n E dX6_write_47 rfl 0 rfl rfl ?_
        refine hv_get (kf := 2) E dX6_write_48 (show vwCl[5]? = some (RX6, TX6, 4) from rfl) (by decide) gW_X6 gF_X6_24 rfl hk3.o rfl rfl ?_
        refine hv_callVI (na := 0) (As := []) (st := []) E (c4_held l D K hk3.t) dX6_write_51 hk3.t.1 (show vwCl[3]? = some (RX4, TX4, 3) from rfl) gL_X6_121 gV_X4_held gI_X4_held gC_X4_held gZ_X4 (by decide +kernel) rfl ⟨Nat.le_of_ble_eq_true rfl, Nat.le_of_ble_eq_true rfl⟩ (Nat.le_of_ble_eq_true rfl) ⟨Nat.zero_le _, Nat.zero_le _⟩ rfl rfl (fun r w2 hp => ?_)
        rw [hp.1, hp.2]
        show hm_V p l e (hm_rm 5 0 0) s m args below meth c D (hm_A w s.heap.size) 3 0 0 (MQ below (hm_Qi D w s.heap.size (fun r w2 => r = iI (if 0 ≤ x ∧ x < 8 then (if 0 ≤ v ∧ v < 3 then ((code_ (mem (F x.toNat)) v).length : Nat) else -3) else -2) ∧ ∃ tf2 : Nat → Int32, kAt K w2 ad F tf2 (if ((0 ≤ x ∧ x < 8) ∧ 0 ≤ v ∧ v < 3) then ((code_ (mem (F x.toNat)) v).length : Nat) else L) P df ∧ kFr ad w w2 ∧ ∀ i : Nat, (i : Int) < (if ((0 ≤ x ∧ x < 8) ∧ 0 ≤ v ∧ v < 3) then (((code_ (mem (F x.toNat)) v).length : Nat) : Int) else L) → mem tf2 i = if ((0 ≤ x ∧ x < 8) ∧ 0 ≤ v ∧ v < 3) then (code_ (mem (F x.toNat)) v).getD i false else mem tf i)) args s 0 0 (hm_A w s.heap.size)) (tM K w (ad 3) (ad 5) g (CC.length : Nat) P) 54 [(0, .ref (ad 0)), (1, .int (iI (x))), (2, .int (iI (v)))] [.int (iI ((CC.length : Nat)))]
        exact hv_iret E dX6_write_54 hr ⟨by rw [if_pos (by omega), if_pos (by omega), hcc], g, by rw [if_pos (by omega), hcc]; exact hk3, kFr.tM, fun i hi => by
              rw [if_pos (by omega)] at hi
              rw [if_pos (by omega), hcc]
              rw [hcc] at hi
              have := hq.2 i (by omega)
              rwa [show (0 : Int).toNat + i = i by simp] at this⟩
      · refine hv_aaldC E dX6_write_33 hfc (by omega) (by omega) (by decide) (by rw [ev]; exact hc1) rfl ?_
        obtain ⟨CC, hCC⟩ : ∃ z, z = cdG (mem (F x.toNat)) := ⟨_, rfl⟩
        have hcc : code_ (mem (F x.toNat)) v = CC := by rw [ev, code_1, hCC]
        have hcl := code_le (mem (F x.toNat)) v
        rw [hcc] at hcl
        refine hv_aload_n E dX6_write_34 rfl 0 rfl rfl ?_
        refine hv_get (kf := 0) E dX6_write_35 (show vwCl[5]? = some (RX6, TX6, 4) from rfl) (by decide) gW_X6 gF_X6_11 rfl hk2.o rfl rfl ?_
        refine hv_iload_n E dX6_write_38 rfl 1 rfl rfl ?_
        obtain ⟨fa, hfa, hfb⟩ := hk2.2.1
        refine hv_aaldN E dX6_write_39 hfa (by omega) (by omega) (by decide) (hfb (x).toNat (by omega)) rfl ?_
        refine hv_aload_n E dX6_write_40 rfl 0 rfl rfl ?_
        refine hv_get (kf := 2) E dX6_write_41 (show vwCl[5]? = some (RX6, TX6, 4) from rfl) (by decide) gW_X6 gF_X6_24 rfl hk2.o rfl rfl ?_
        have C1 := c1_tell l D K (a := ad 8) (hk2.n (show (x).toNat < 8 by omega)) hk2.t
        rw [← hCC] at C1
        refine hv_callUV (na := 2) (As := [.ref (ad (10 + (x).toNat)), .ref (ad 3)]) (st := []) (owner := "KeyRows$Code") E C1 dX6_write_44 hk2.2.2.2.1.2.1 (show vwCl[0]? = some (RX1, TX1, 0) from rfl) gL_X6_117 gM_tell gV_X1_tell gI_X1_tell (by decide) gC_X1_tell gZ_X1 (by decide +kernel) rfl ⟨Nat.le_of_ble_eq_true rfl, Nat.le_of_ble_eq_true rfl⟩ (Nat.le_of_ble_eq_true rfl) ⟨Nat.zero_le _, Nat.zero_le _⟩ rfl rfl (fun w2 hp => ?_)
        obtain ⟨g, e2, hq⟩ := hp
        rw [tM_tM hk.t.ne] at e2
        rw [e2]
        show hm_V p l e (hm_rm 5 0 0) s m args below meth c D (hm_A w s.heap.size) 3 0 0 (MQ below (hm_Qi D w s.heap.size (fun r w2 => r = iI (if 0 ≤ x ∧ x < 8 then (if 0 ≤ v ∧ v < 3 then ((code_ (mem (F x.toNat)) v).length : Nat) else -3) else -2) ∧ ∃ tf2 : Nat → Int32, kAt K w2 ad F tf2 (if ((0 ≤ x ∧ x < 8) ∧ 0 ≤ v ∧ v < 3) then ((code_ (mem (F x.toNat)) v).length : Nat) else L) P df ∧ kFr ad w w2 ∧ ∀ i : Nat, (i : Int) < (if ((0 ≤ x ∧ x < 8) ∧ 0 ≤ v ∧ v < 3) then (((code_ (mem (F x.toNat)) v).length : Nat) : Int) else L) → mem tf2 i = if ((0 ≤ x ∧ x < 8) ∧ 0 ≤ v ∧ v < 3) then (code_ (mem (F x.toNat)) v).getD i false else mem tf i)) args s 0 0 (hm_A w s.heap.size)) (tM K w (ad 3) (ad 5) g (CC.length : Nat) P) 47 [(0, .ref (ad 0)), (1, .int (iI (x))), (2, .int (iI (v)))] []
        have hk3 := hk.tape g (L2 := (CC.length : Nat)) (P2 := P) (by omega) (by omega)
        refine hv_aload_n E dX6_write_47 rfl 0 rfl rfl ?_
        refine hv_get (kf := 2) E dX6_write_48 (show vwCl[5]? = some (RX6, TX6, 4) from rfl) (by decide) gW_X6 gF_X6_24 rfl hk3.o rfl rfl ?_
        refine hv_callVI (na := 0) (As := []) (st := []) E (c4_held l D K hk3.t) dX6_write_51 hk3.t.1 (show vwCl[3]? = some (RX4, TX4, 3) from rfl) gL_X6_121 gV_X4_held gI_X4_held gC_X4_held gZ_X4 (by decide +kernel) rfl ⟨Nat.le_of_ble_eq_true rfl, Nat.le_of_ble_eq_true rfl⟩ (Nat.le_of_ble_eq_true rfl) ⟨Nat.zero_le _, Nat.zero_le _⟩ rfl rfl (fun r w2 hp => ?_)
        rw [hp.1, hp.2]
        show hm_V p l e (hm_rm 5 0 0) s m args below meth c D (hm_A w s.heap.size) 3 0 0 (MQ below (hm_Qi D w s.heap.size (fun r w2 => r = iI (if 0 ≤ x ∧ x < 8 then (if 0 ≤ v ∧ v < 3 then ((code_ (mem (F x.toNat)) v).length : Nat) else -3) else -2) ∧ ∃ tf2 : Nat → Int32, kAt K w2 ad F tf2 (if ((0 ≤ x ∧ x < 8) ∧ 0 ≤ v ∧ v < 3) then ((code_ (mem (F x.toNat)) v).length : Nat) else L) P df ∧ kFr ad w w2 ∧ ∀ i : Nat, (i : Int) < (if ((0 ≤ x ∧ x < 8) ∧ 0 ≤ v ∧ v < 3) then (((code_ (mem (F x.toNat)) v).length : Nat) : Int) else L) → mem tf2 i = if ((0 ≤ x ∧ x < 8) ∧ 0 ≤ v ∧ v < 3) then (code_ (mem (F x.toNat)) v).getD i false else mem tf i)) args s 0 0 (hm_A w s.heap.size)) (tM K w (ad 3) (ad 5) g (CC.length : Nat) P) 54 [(0, .ref (ad 0)), (1, .int (iI (x))), (2, .int (iI (v)))] [.int (iI ((CC.length : Nat)))]
        exact hv_iret E dX6_write_54 hr ⟨by rw [if_pos (by omega), if_pos (by omega), hcc], g, by rw [if_pos (by omega), hcc]; exact hk3, kFr.tM, fun i hi => by
              rw [if_pos (by omega)] at hi
              rw [if_pos (by omega), hcc]
              rw [hcc] at hi
              have := hq.2 i (by omega)
              rwa [show (0 : Int).toNat + i = i by simp] at this⟩
      · refine hv_aaldC E dX6_write_33 hfc (by omega) (by omega) (by decide) (by rw [ev]; exact hc2) rfl ?_
        obtain ⟨CC, hCC⟩ : ∃ z, z = cdC (mem (F x.toNat)) := ⟨_, rfl⟩
        have hcc : code_ (mem (F x.toNat)) v = CC := by rw [ev, code_2, hCC]
        have hcl := code_le (mem (F x.toNat)) v
        rw [hcc] at hcl
        refine hv_aload_n E dX6_write_34 rfl 0 rfl rfl ?_
        refine hv_get (kf := 0) E dX6_write_35 (show vwCl[5]? = some (RX6, TX6, 4) from rfl) (by decide) gW_X6 gF_X6_11 rfl hk2.o rfl rfl ?_
        refine hv_iload_n E dX6_write_38 rfl 1 rfl rfl ?_
        obtain ⟨fa, hfa, hfb⟩ := hk2.2.1
        refine hv_aaldN E dX6_write_39 hfa (by omega) (by omega) (by decide) (hfb (x).toNat (by omega)) rfl ?_
        refine hv_aload_n E dX6_write_40 rfl 0 rfl rfl ?_
        refine hv_get (kf := 2) E dX6_write_41 (show vwCl[5]? = some (RX6, TX6, 4) from rfl) (by decide) gW_X6 gF_X6_24 rfl hk2.o rfl rfl ?_
        have C1 := c3_tell l D K (a := ad 9) (hk2.n (show (x).toNat < 8 by omega)) hk2.t
        rw [← hCC] at C1
        refine hv_callUV (na := 2) (As := [.ref (ad (10 + (x).toNat)), .ref (ad 3)]) (st := []) (owner := "KeyRows$Code") E C1 dX6_write_44 hk2.2.2.2.1.2.2 (show vwCl[2]? = some (RX3, TX3, 0) from rfl) gL_X6_117 gM_tell gV_X3_tell gI_X3_tell (by decide) gC_X3_tell gZ_X3 (by decide +kernel) rfl ⟨Nat.le_of_ble_eq_true rfl, Nat.le_of_ble_eq_true rfl⟩ (Nat.le_of_ble_eq_true rfl) ⟨Nat.zero_le _, Nat.zero_le _⟩ rfl rfl (fun w2 hp => ?_)
        obtain ⟨g, e2, hq⟩ := hp
        rw [tM_tM hk.t.ne] at e2
        rw [e2]
        show hm_V p l e (hm_rm 5 0 0) s m args below meth c D (hm_A w s.heap.size) 3 0 0 (MQ below (hm_Qi D w s.heap.size (fun r w2 => r = iI (if 0 ≤ x ∧ x < 8 then (if 0 ≤ v ∧ v < 3 then ((code_ (mem (F x.toNat)) v).length : Nat) else -3) else -2) ∧ ∃ tf2 : Nat → Int32, kAt K w2 ad F tf2 (if ((0 ≤ x ∧ x < 8) ∧ 0 ≤ v ∧ v < 3) then ((code_ (mem (F x.toNat)) v).length : Nat) else L) P df ∧ kFr ad w w2 ∧ ∀ i : Nat, (i : Int) < (if ((0 ≤ x ∧ x < 8) ∧ 0 ≤ v ∧ v < 3) then (((code_ (mem (F x.toNat)) v).length : Nat) : Int) else L) → mem tf2 i = if ((0 ≤ x ∧ x < 8) ∧ 0 ≤ v ∧ v < 3) then (code_ (mem (F x.toNat)) v).getD i false else mem tf i)) args s 0 0 (hm_A w s.heap.size)) (tM K w (ad 3) (ad 5) g (CC.length : Nat) P) 47 [(0, .ref (ad 0)), (1, .int (iI (x))), (2, .int (iI (v)))] []
        have hk3 := hk.tape g (L2 := (CC.length : Nat)) (P2 := P) (by omega) (by omega)
        refine hv_aload_n E dX6_write_47 rfl 0 rfl rfl ?_
        refine hv_get (kf := 2) E dX6_write_48 (show vwCl[5]? = some (RX6, TX6, 4) from rfl) (by decide) gW_X6 gF_X6_24 rfl hk3.o rfl rfl ?_
        refine hv_callVI (na := 0) (As := []) (st := []) E (c4_held l D K hk3.t) dX6_write_51 hk3.t.1 (show vwCl[3]? = some (RX4, TX4, 3) from rfl) gL_X6_121 gV_X4_held gI_X4_held gC_X4_held gZ_X4 (by decide +kernel) rfl ⟨Nat.le_of_ble_eq_true rfl, Nat.le_of_ble_eq_true rfl⟩ (Nat.le_of_ble_eq_true rfl) ⟨Nat.zero_le _, Nat.zero_le _⟩ rfl rfl (fun r w2 hp => ?_)
        rw [hp.1, hp.2]
        show hm_V p l e (hm_rm 5 0 0) s m args below meth c D (hm_A w s.heap.size) 3 0 0 (MQ below (hm_Qi D w s.heap.size (fun r w2 => r = iI (if 0 ≤ x ∧ x < 8 then (if 0 ≤ v ∧ v < 3 then ((code_ (mem (F x.toNat)) v).length : Nat) else -3) else -2) ∧ ∃ tf2 : Nat → Int32, kAt K w2 ad F tf2 (if ((0 ≤ x ∧ x < 8) ∧ 0 ≤ v ∧ v < 3) then ((code_ (mem (F x.toNat)) v).length : Nat) else L) P df ∧ kFr ad w w2 ∧ ∀ i : Nat, (i : Int) < (if ((0 ≤ x ∧ x < 8) ∧ 0 ≤ v ∧ v < 3) then (((code_ (mem (F x.toNat)) v).length : Nat) : Int) else L) → mem tf2 i = if ((0 ≤ x ∧ x < 8) ∧ 0 ≤ v ∧ v < 3) then (code_ (mem (F x.toNat)) v).getD i false else mem tf i)) args s 0 0 (hm_A w s.heap.size)) (tM K w (ad 3) (ad 5) g (CC.length : Nat) P) 54 [(0, .ref (ad 0)), (1, .int (iI (x))), (2, .int (iI (v)))] [.int (iI ((CC.length : Nat)))]
        exact hv_iret E dX6_write_54 hr ⟨by rw [if_pos (by omega), if_pos (by omega), hcc], g, by rw [if_pos (by omega), hcc]; exact hk3, kFr.tM, fun i hi => by
              rw [if_pos (by omega)] at hi
              rw [if_pos (by omega), hcc]
              rw [hcc] at hi
              have := hq.2 i (by omega)
              rwa [show (0 : Int).toNat + i = i by simp] at this⟩
    · have c2 := of_decide_eq_false c2
      refine hv_bipush E dX6_write_17 (by decide +kernel) rfl ?_
      exact hv_iret E dX6_write_19 hr ⟨(by (repeat (first | rw [if_pos (by omega)] | rw [if_neg (by omega)])) <;> first | done | rfl), tf, by rw [if_neg (by omega)]; exact hk, kFr.rf, fun i hi => by rw [if_neg (by omega)]⟩
  · have c1 := of_decide_eq_false c1
    refine hv_bipush E dX6_write_7 (by decide +kernel) rfl ?_
    exact hv_iret E dX6_write_9 hr ⟨(by (repeat (first | rw [if_pos (by omega)] | rw [if_neg (by omega)])) <;> first | done | rfl), tf, by rw [if_neg (by omega)]; exact hk, kFr.rf, fun i hi => by rw [if_neg (by omega)]⟩
