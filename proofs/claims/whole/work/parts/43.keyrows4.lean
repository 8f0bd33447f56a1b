/-- what read answers (z) and leaves (B, from A) -/
def rdP (X : Nat → Bool) (L x v z : Int) (A B : Nat → Nat → Bool) : Prop :=
  (¬ (0 ≤ x ∧ x < 8) ∧ z = -2 ∧ ∀ s u : Nat, s < 8 → u < 4096 → B s u = A s u) ∨
  ((0 ≤ x ∧ x < 8) ∧ ¬ (0 ≤ v ∧ v < 3) ∧ z = -3 ∧ ∀ s u : Nat, s < 8 → u < 4096 → B s u = A s u) ∨
  ((0 ≤ x ∧ x < 8) ∧ (0 ≤ v ∧ v < 3) ∧ z = -1 ∧ (∀ S, ¬ isC X L (code_ S v)) ∧ ∀ s u : Nat, s < 8 → u < 4096 → B s u = A s u) ∨
  ((0 ≤ x ∧ x < 8) ∧ (0 ≤ v ∧ v < 3) ∧ ∃ U : Nat → Bool, isC X L (code_ U v) ∧ z = (ct U 0 4096 : Nat) ∧ ∀ s u : Nat, s < 8 → u < 4096 → B s u = if s = x.toNat then U u else A s u)
def asP (X : Nat → Bool) (L v n z : Int) : Prop :=
  (¬ (0 ≤ v ∧ v < 3) ∧ z = -3) ∨ ((0 ≤ v ∧ v < 3) ∧ z = -1 ∧ ∀ S, ¬ isC X L (code_ S v)) ∨ ((0 ≤ v ∧ v < 3) ∧ ∃ U : Nat → Bool, isC X L (code_ U v) ∧ isNth U 4096 n z)
set_option maxHeartbeats 4000000 in
set_option maxRecDepth 100000 in
theorem c6_read (l : Launch) (D : va_G) (K : Nat → ClassId) {w : hm_M} {ad : Nat → Nat} {F : Nat → Nat → Int32} {tf : Nat → Int32} {L P : Int} {df : Nat → Int32} (x v : Int) (hx : iB x) (hv : iB v) (hk : kAt K w ad F tf L P df)  : hm_Ci l D K yX6_read cX6_read 3 .int 6 [.ref (ad 0), .int (iI (x)), .int (iI (v))] w 0 0 (fun r w2 => ∃ (F2 : Nat → Nat → Int32) (P2 : Int) (df2 : Nat → Int32) (z : Int), r = iI z ∧ kAt K w2 ad F2 tf L P2 df2 ∧ kFr ad w w2 ∧ rdP (tb tf L) L x v z (fun s u => mem (F s) u) (fun s u => mem (F2 s) u)) := by
  refine hm_enterI (by decide) (Nat.le_of_ble_eq_true rfl) ?_
  intro p e s m args below meth c E hr hnm
  show hm_V p l e (hm_rm 6 0 0) s m args below meth c D (hm_A w s.heap.size) 3 0 0 (MQ below (hm_Qi D w s.heap.size (fun r w2 => ∃ (F2 : Nat → Nat → Int32) (P2 : Int) (df2 : Nat → Int32) (z : Int), r = iI z ∧ kAt K w2 ad F2 tf L P2 df2 ∧ kFr ad w w2 ∧ rdP (tb tf L) L x v z (fun s u => mem (F s) u) (fun s u => mem (F2 s) u))) args s 0 0 (hm_A w s.heap.size)) w 0 [(0, .ref (ad 0)), (1, .int (iI (x))), (2, .int (iI (v)))] []
  refine hv_iload_n E dX6_read_0 rfl 1 rfl rfl ?_
  refine hv_callSI (na := 1) (As := [.int (iI (x))]) (st := []) E (c6_isSet l D K x hx) dX6_read_1 gL_X6_42 gS_X6_isSet gC_X6_isSet gZ_X6 (by decide +kernel) rfl ⟨Nat.le_of_ble_eq_true rfl, Nat.le_of_ble_eq_true rfl⟩ (Nat.le_of_ble_eq_true rfl) ⟨Nat.zero_le _, Nat.zero_le _⟩ rfl rfl (fun r w2 hp => ?_)
  rw [hp.1, hp.2]
  show hm_V p l e (hm_rm 6 0 0) s m args below meth c D (hm_A w s.heap.size) 3 0 0 (MQ below (hm_Qi D w s.heap.size (fun r w2 => ∃ (F2 : Nat → Nat → Int32) (P2 : Int) (df2 : Nat → Int32) (z : Int), r = iI z ∧ kAt K w2 ad F2 tf L P2 df2 ∧ kFr ad w w2 ∧ rdP (tb tf L) L x v z (fun s u => mem (F s) u) (fun s u => mem (F2 s) u))) args s 0 0 (hm_A w s.heap.size)) w 4 [(0, .ref (ad 0)), (1, .int (iI (x))), (2, .int (iI (v)))] [.int (bI (decide (0 ≤ x ∧ x < 8)))]
  refine hv_if_neB E 10 dX6_read_4 (by decide) rfl (fun c1 => ?_) (fun c1 => ?_)
  · have c1 := of_decide_eq_true c1
    refine hv_iload_n E dX6_read_10 rfl 2 rfl rfl ?_
    refine hv_callSI (na := 1) (As := [.int (iI (v))]) (st := []) E (c6_isKind l D K v hv) dX6_read_11 gL_X6_108 gS_X6_isKind gC_X6_isKind gZ_X6 (by decide +kernel) rfl ⟨Nat.le_of_ble_eq_true rfl, Nat.le_of_ble_eq_true rfl⟩ (Nat.le_of_ble_eq_true rfl) ⟨Nat.zero_le _, Nat.zero_le _⟩ rfl rfl (fun r w2 hp => ?_)
    rw [hp.1, hp.2]
    show hm_V p l e (hm_rm 6 0 0) s m args below meth c D (hm_A w s.heap.size) 3 0 0 (MQ below (hm_Qi D w s.heap.size (fun r w2 => ∃ (F2 : Nat → Nat → Int32) (P2 : Int) (df2 : Nat → Int32) (z : Int), r = iI z ∧ kAt K w2 ad F2 tf L P2 df2 ∧ kFr ad w w2 ∧ rdP (tb tf L) L x v z (fun s u => mem (F s) u) (fun s u => mem (F2 s) u))) args s 0 0 (hm_A w s.heap.size)) w 14 [(0, .ref (ad 0)), (1, .int (iI (x))), (2, .int (iI (v)))] [.int (bI (decide (0 ≤ v ∧ v < 3)))]
    refine hv_if_neB E 20 dX6_read_14 (by decide) rfl (fun c2 => ?_) (fun c2 => ?_)
    · have c2 := of_decide_eq_true c2
      refine hv_aload_n E dX6_read_20 rfl 0 rfl rfl ?_
      refine hv_get (kf := 1) E dX6_read_21 (show vwCl[5]? = some (RX6, TX6, 4) from rfl) (by decide) gW_X6 gF_X6_17 rfl hk.o rfl rfl ?_
      refine hv_iload_n E dX6_read_24 rfl 2 rfl rfl ?_
      obtain ⟨fc, hfc, hc0, hc1, hc2⟩ := hk.2.2.1
      rcases (show v = 0 ∨ v = 1 ∨ v = 2 by omega) with ev | ev | ev
      · refine hv_aaldC E dX6_read_25 hfc (by omega) (by omega) (by decide) (by rw [ev]; exact hc0) rfl ?_
        refine hv_aload_n E dX6_read_26 rfl 0 rfl rfl ?_
        refine hv_get (kf := 2) E dX6_read_27 (show vwCl[5]? = some (RX6, TX6, 4) from rfl) (by decide) gW_X6 gF_X6_24 rfl hk.o rfl rfl ?_
        refine hv_aload_n E dX6_read_30 rfl 0 rfl rfl ?_
        refine hv_get (kf := 3) E dX6_read_31 (show vwCl[5]? = some (RX6, TX6, 4) from rfl) (by decide) gW_X6 gF_X6_29 rfl hk.o rfl rfl ?_
        refine hv_callUI (na := 2) (As := [.ref (ad 3), .ref (ad 4)]) (st := []) (owner := "KeyRows$Code") E (c5_learn l D K (a0 := ad 7) hk.t hk.d hk.L0 hk.L1) dX6_read_34 hk.2.2.2.1.1 (show vwCl[4]? = some (RX5, TX5, 0) from rfl) gL_X6_124 gM_learn gV_X5_learn gI_X5_learn (by decide) gC_X5_learn gZ_X5 (by decide +kernel) rfl ⟨Nat.le_of_ble_eq_true rfl, Nat.le_of_ble_eq_true rfl⟩ (Nat.le_of_ble_eq_true rfl) ⟨Nat.zero_le _, Nat.zero_le _⟩ rfl rfl (fun r w2 hp => ?_)
        obtain ⟨y, f2, P2, hr1, e2, hyt, hyf⟩ := hp
        rw [hr1, e2]
        show hm_V p l e (hm_rm 6 0 0) s m args below meth c D (hm_A w s.heap.size) 3 0 0 (MQ below (hm_Qi D w s.heap.size (fun r w2 => ∃ (F2 : Nat → Nat → Int32) (P2 : Int) (df2 : Nat → Int32) (z : Int), r = iI z ∧ kAt K w2 ad F2 tf L P2 df2 ∧ kFr ad w w2 ∧ rdP (tb tf L) L x v z (fun s u => mem (F s) u) (fun s u => mem (F2 s) u))) args s 0 0 (hm_A w s.heap.size)) (uM K w (ad 3) (ad 5) (ad 6) tf L P2 f2) 37 [(0, .ref (ad 0)), (1, .int (iI (x))), (2, .int (iI (v)))] [.int (bI (y))]
        rw [← code_0, ← ev] at hyt
        have hyf2 : y = false → ∀ S, ¬ isC (tb tf L) L (code_ S v) := by rw [ev]; exact hyf
        have hk2 : kAt K (uM K w (ad 3) (ad 5) (ad 6) tf L P2 f2) ad F tf L P2 f2 := (hk.tape tf (L2 := L) (P2 := P2) hk.L0 hk.L1).told f2
        have hfr : kFr ad w (uM K w (ad 3) (ad 5) (ad 6) tf L P2 f2) := kFr.tr kFr.tM (kFr.up 6 (by omega))
        have hL0 := hk.L0
        refine hv_if_neB E 42 dX6_read_37 (by decide) rfl (fun cy => ?_) (fun cy => ?_)
        · have hyt2 := hyt cy
          refine hv_aload_n E dX6_read_42 rfl 0 rfl rfl ?_
          refine hv_get (kf := 0) E dX6_read_43 (show vwCl[5]? = some (RX6, TX6, 4) from rfl) (by decide) gW_X6 gF_X6_11 rfl hk2.o rfl rfl ?_
          refine hv_iload_n E dX6_read_46 rfl 1 rfl rfl ?_
          obtain ⟨fa, hfa, hfb⟩ := hk2.2.1
          refine hv_aaldN E dX6_read_47 hfa (by omega) (by omega) (by decide) (hfb (x).toNat (by omega)) rfl ?_
          refine hv_aload_n E dX6_read_48 rfl 0 rfl rfl ?_
          refine hv_get (kf := 3) E dX6_read_49 (show vwCl[5]? = some (RX6, TX6, 4) from rfl) (by decide) gW_X6 gF_X6_29 rfl hk2.o rfl rfl ?_
          refine hv_callVV (na := 1) (As := [.ref (ad 4)]) (st := []) E (c2_copyFrom l D K (hk2.n (show (x).toNat < 8 by omega)) hk2.d (Ne.symm (hk2.2.2.2.2.2.2.2.2.1 x.toNat (by omega)))) dX6_read_52 (hk2.n (show (x).toNat < 8 by omega)).1 (show vwCl[1]? = some (RX2, TX2, 1) from rfl) gL_X6_128 gV_X2_copyFrom gI_X2_copyFrom gC_X2_copyFrom gZ_X2 (by decide +kernel) rfl ⟨Nat.le_of_ble_eq_true rfl, Nat.le_of_ble_eq_true rfl⟩ (Nat.le_of_ble_eq_true rfl) ⟨Nat.zero_le _, Nat.zero_le _⟩ rfl rfl (fun w2 hp => ?_)
          obtain ⟨f3, e3, hf3⟩ := hp
          rw [e3]
          show hm_V p l e (hm_rm 6 0 0) s m args below meth c D (hm_A w s.heap.size) 3 0 0 (MQ below (hm_Qi D w s.heap.size (fun r w2 => ∃ (F2 : Nat → Nat → Int32) (P2 : Int) (df2 : Nat → Int32) (z : Int), r = iI z ∧ kAt K w2 ad F2 tf L P2 df2 ∧ kFr ad w w2 ∧ rdP (tb tf L) L x v z (fun s u => mem (F s) u) (fun s u => mem (F2 s) u))) args s 0 0 (hm_A w s.heap.size)) (hm_up (uM K w (ad 3) (ad 5) (ad 6) tf L P2 f2) (ad (20 + x.toNat)) (.inl (K 0, 128, .inl f3))) 55 [(0, .ref (ad 0)), (1, .int (iI (x))), (2, .int (iI (v)))] []
          have hk3 := hk2.set (show x.toNat < 8 by omega) f3
          refine hv_aload_n E dX6_read_55 rfl 0 rfl rfl ?_
          refine hv_get (kf := 3) E dX6_read_56 (show vwCl[5]? = some (RX6, TX6, 4) from rfl) (by decide) gW_X6 gF_X6_29 rfl hk3.o rfl rfl ?_
          refine hv_callVI (na := 0) (As := []) (st := []) E (c2_amount l D K hk3.d) dX6_read_59 hk3.d.1 (show vwCl[1]? = some (RX2, TX2, 1) from rfl) gL_X6_75 gV_X2_amount gI_X2_amount gC_X2_amount gZ_X2 (by decide +kernel) rfl ⟨Nat.le_of_ble_eq_true rfl, Nat.le_of_ble_eq_true rfl⟩ (Nat.le_of_ble_eq_true rfl) ⟨Nat.zero_le _, Nat.zero_le _⟩ rfl rfl (fun r w2 hp => ?_)
          rw [hp.1, hp.2]
          show hm_V p l e (hm_rm 6 0 0) s m args below meth c D (hm_A w s.heap.size) 3 0 0 (MQ below (hm_Qi D w s.heap.size (fun r w2 => ∃ (F2 : Nat → Nat → Int32) (P2 : Int) (df2 : Nat → Int32) (z : Int), r = iI z ∧ kAt K w2 ad F2 tf L P2 df2 ∧ kFr ad w w2 ∧ rdP (tb tf L) L x v z (fun s u => mem (F s) u) (fun s u => mem (F2 s) u))) args s 0 0 (hm_A w s.heap.size)) (hm_up (uM K w (ad 3) (ad 5) (ad 6) tf L P2 f2) (ad (20 + x.toNat)) (.inl (K 0, 128, .inl f3))) 62 [(0, .ref (ad 0)), (1, .int (iI (x))), (2, .int (iI (v)))] [.int (iI ((ct (mem f2) 0 4096 : Nat)))]
          exact hv_iret E dX6_read_62 hr ⟨_, P2, f2, _, rfl, hk3, kFr.tr hfr (kFr.up _ (by omega)), Or.inr (Or.inr (Or.inr ⟨by omega, by omega, mem f2, hyt2, rfl, fun s u hs hu => (by
                show mem (if s = x.toNat then f3 else F s) u = _
                by_cases hx2 : s = x.toNat
                · rw [if_pos hx2, if_pos hx2, hf3 u hu]
                · rw [if_neg hx2, if_neg hx2])⟩))⟩
        · refine hv_iconst E dX6_read_40 rfl ?_
          exact hv_iret E dX6_read_41 hr ⟨F, P2, f2, -1, rfl, hk2, hfr, Or.inr (Or.inr (Or.inl ⟨by omega, by omega, rfl, hyf2 cy, fun _ _ _ _ => rfl⟩))⟩
      · refine hv_aaldC E dX6_read_25 hfc (by omega) (by omega) (by decide) (by rw [ev]; exact hc1) rfl ?_
        refine hv_aload_n E dX6_read_26 rfl 0 rfl rfl ?_
        refine hv_get (kf := 2) E dX6_read_27 (show vwCl[5]? = some (RX6, TX6, 4) from rfl) (by decide) gW_X6 gF_X6_24 rfl hk.o rfl rfl ?_
        refine hv_aload_n E dX6_read_30 rfl 0 rfl rfl ?_
        refine hv_get (kf := 3) E dX6_read_31 (show vwCl[5]? = some (RX6, TX6, 4) from rfl) (by decide) gW_X6 gF_X6_29 rfl hk.o rfl rfl ?_
        refine hv_callUI (na := 2) (As := [.ref (ad 3), .ref (ad 4)]) (st := []) (owner := "KeyRows$Code") E (c1_learn l D K (a := ad 8) hk.t hk.d hk.L0 hk.L1) dX6_read_34 hk.2.2.2.1.2.1 (show vwCl[0]? = some (RX1, TX1, 0) from rfl) gL_X6_124 gM_learn gV_X1_learn gI_X1_learn (by decide) gC_X1_learn gZ_X1 (by decide +kernel) rfl ⟨Nat.le_of_ble_eq_true rfl, Nat.le_of_ble_eq_true rfl⟩ (Nat.le_of_ble_eq_true rfl) ⟨Nat.zero_le _, Nat.zero_le _⟩ rfl rfl (fun r w2 hp => ?_)
        obtain ⟨y, f2, P2, hr1, e2, hyt, hyf⟩ := hp
        rw [hr1, e2]
        show hm_V p l e (hm_rm 6 0 0) s m args below meth c D (hm_A w s.heap.size) 3 0 0 (MQ below (hm_Qi D w s.heap.size (fun r w2 => ∃ (F2 : Nat → Nat → Int32) (P2 : Int) (df2 : Nat → Int32) (z : Int), r = iI z ∧ kAt K w2 ad F2 tf L P2 df2 ∧ kFr ad w w2 ∧ rdP (tb tf L) L x v z (fun s u => mem (F s) u) (fun s u => mem (F2 s) u))) args s 0 0 (hm_A w s.heap.size)) (uM K w (ad 3) (ad 5) (ad 6) tf L P2 f2) 37 [(0, .ref (ad 0)), (1, .int (iI (x))), (2, .int (iI (v)))] [.int (bI (y))]
        rw [← code_1, ← ev] at hyt
        have hyf2 : y = false → ∀ S, ¬ isC (tb tf L) L (code_ S v) := by rw [ev]; exact hyf
        have hk2 : kAt K (uM K w (ad 3) (ad 5) (ad 6) tf L P2 f2) ad F tf L P2 f2 := (hk.tape tf (L2 := L) (P2 := P2) hk.L0 hk.L1).told f2
        have hfr : kFr ad w (uM K w (ad 3) (ad 5) (ad 6) tf L P2 f2) := kFr.tr kFr.tM (kFr.up 6 (by omega))
        have hL0 := hk.L0
        refine hv_if_neB E 42 dX6_read_37 (by decide) rfl (fun cy => ?_) (fun cy => ?_)
        · have hyt2 := hyt cy
          refine hv_aload_n E dX6_read_42 rfl 0 rfl rfl ?_
          refine hv_get (kf := 0) E dX6_read_43 (show vwCl[5]? = some (RX6, TX6, 4) from rfl) (by decide) gW_X6 gF_X6_11 rfl hk2.o rfl rfl ?_
          refine hv_iload_n E dX6_read_46 rfl 1 rfl rfl ?_
          obtain ⟨fa, hfa, hfb⟩ := hk2.2.1
          refine hv_aaldN E dX6_read_47 hfa (by omega) (by omega) (by decide) (hfb (x).toNat (by omega)) rfl ?_
          refine hv_aload_n E dX6_read_48 rfl 0 rfl rfl ?_
          refine hv_get (kf := 3) E dX6_read_49 (show vwCl[5]? = some (RX6, TX6, 4) from rfl) (by decide) gW_X6 gF_X6_29 rfl hk2.o rfl rfl ?_
          refine hv_callVV (na := 1) (As := [.ref (ad 4)]) (st := []) E (c2_copyFrom l D K (hk2.n (show (x).toNat < 8 by omega)) hk2.d (Ne.symm (hk2.2.2.2.2.2.2.2.2.1 x.toNat (by omega)))) dX6_read_52 (hk2.n (show (x).toNat < 8 by omega)).1 (show vwCl[1]? = some (RX2, TX2, 1) from rfl) gL_X6_128 gV_X2_copyFrom gI_X2_copyFrom gC_X2_copyFrom gZ_X2 (by decide +kernel) rfl ⟨Nat.le_of_ble_eq_true rfl, Nat.le_of_ble_eq_true rfl⟩ (Nat.le_of_ble_eq_true rfl) ⟨Nat.zero_le _, Nat.zero_le _⟩ rfl rfl (fun w2 hp => ?_)
          obtain ⟨f3, e3, hf3⟩ := hp
          rw [e3]
          show hm_V p l e (hm_rm 6 0 0) s m args below meth c D (hm_A w s.heap.size) 3 0 0 (MQ below (hm_Qi D w s.heap.size (fun r w2 => ∃ (F2 : Nat → Nat → Int32) (P2 : Int) (df2 : Nat → Int32) (z : Int), r = iI z ∧ kAt K w2 ad F2 tf L P2 df2 ∧ kFr ad w w2 ∧ rdP (tb tf L) L x v z (fun s u => mem (F s) u) (fun s u => mem (F2 s) u))) args s 0 0 (hm_A w s.heap.size)) (hm_up (uM K w (ad 3) (ad 5) (ad 6) tf L P2 f2) (ad (20 + x.toNat)) (.inl (K 0, 128, .inl f3))) 55 [(0, .ref (ad 0)), (1, .int (iI (x))), (2, .int (iI (v)))] []
          have hk3 := hk2.set (show x.toNat < 8 by omega) f3
          refine hv_aload_n E dX6_read_55 rfl 0 rfl rfl ?_
          refine hv_get (kf := 3) E dX6_read_56 (show vwCl[5]? = some (RX6, TX6, 4) from rfl) (by decide) gW_X6 gF_X6_29 rfl hk3.o rfl rfl ?_
          refine hv_callVI (na := 0) (As := []) (st := []) E (c2_amount l D K hk3.d) dX6_read_59 hk3.d.1 (show vwCl[1]? = some (RX2, TX2, 1) from rfl) gL_X6_75 gV_X2_amount gI_X2_amount gC_X2_amount gZ_X2 (by decide +kernel) rfl ⟨Nat.le_of_ble_eq_true rfl, Nat.le_of_ble_eq_true rfl⟩ (Nat.le_of_ble_eq_true rfl) ⟨Nat.zero_le _, Nat.zero_le _⟩ rfl rfl (fun r w2 hp => ?_)
          rw [hp.1, hp.2]
          show hm_V p l e (hm_rm 6 0 0) s m args below meth c D (hm_A w s.heap.size) 3 0 0 (MQ below (hm_Qi D w s.heap.size (fun r w2 => ∃ (F2 : Nat → Nat → Int32) (P2 : Int) (df2 : Nat → Int32) (z : Int), r = iI z ∧ kAt K w2 ad F2 tf L P2 df2 ∧ kFr ad w w2 ∧ rdP (tb tf L) L x v z (fun s u => mem (F s) u) (fun s u => mem (F2 s) u))) args s 0 0 (hm_A w s.heap.size)) (hm_up (uM K w (ad 3) (ad 5) (ad 6) tf L P2 f2) (ad (20 + x.toNat)) (.inl (K 0, 128, .inl f3))) 62 [(0, .ref (ad 0)), (1, .int (iI (x))), (2, .int (iI (v)))] [.int (iI ((ct (mem f2) 0 4096 : Nat)))]
          exact hv_iret E dX6_read_62 hr ⟨_, P2, f2, _, rfl, hk3, kFr.tr hfr (kFr.up _ (by omega)), Or.inr (Or.inr (Or.inr ⟨by omega, by omega, mem f2, hyt2, rfl, fun s u hs hu => (by
                show mem (if s = x.toNat then f3 else F s) u = _
                by_cases hx2 : s = x.toNat
                · rw [if_pos hx2, if_pos hx2, hf3 u hu]
                · rw [if_neg hx2, if_neg hx2])⟩))⟩
        · refine hv_iconst E dX6_read_40 rfl ?_
          exact hv_iret E dX6_read_41 hr ⟨F, P2, f2, -1, rfl, hk2, hfr, Or.inr (Or.inr (Or.inl ⟨by omega, by omega, rfl, hyf2 cy, fun _ _ _ _ => rfl⟩))⟩
      · refine hv_aaldC E dX6_read_25 hfc (by omega) (by omega) (by decide) (by rw [ev]; exact hc2) rfl ?_
        refine hv_aload_n E dX6_read_26 rfl 0 rfl rfl ?_
        refine hv_get (kf := 2) E dX6_read_27 (show vwCl[5]? = some (RX6, TX6, 4) from rfl) (by decide) gW_X6 gF_X6_24 rfl hk.o rfl rfl ?_
        refine hv_aload_n E dX6_read_30 rfl 0 rfl rfl ?_
        refine hv_get (kf := 3) E dX6_read_31 (show vwCl[5]? = some (RX6, TX6, 4) from rfl) (by decide) gW_X6 gF_X6_29 rfl hk.o rfl rfl ?_
        refine hv_callUI (na := 2) (As := [.ref (ad 3), .ref (ad 4)]) (st := []) (owner := "KeyRows$Code") E (c3_learn l D K (a0 := ad 9) hk.t hk.d hk.L0 hk.L1) dX6_read_34 hk.2.2.2.1.2.2 (show vwCl[2]? = some (RX3, TX3, 0) from rfl) gL_X6_124 gM_learn gV_X3_learn gI_X3_learn (by decide) gC_X3_learn gZ_X3 (by decide +kernel) rfl ⟨Nat.le_of_ble_eq_true rfl, Nat.le_of_ble_eq_true rfl⟩ (Nat.le_of_ble_eq_true rfl) ⟨Nat.zero_le _, Nat.zero_le _⟩ rfl rfl (fun r w2 hp => ?_)
        obtain ⟨y, f2, P2, hr1, e2, hyt, hyf⟩ := hp
        rw [hr1, e2]
        show hm_V p l e (hm_rm 6 0 0) s m args below meth c D (hm_A w s.heap.size) 3 0 0 (MQ below (hm_Qi D w s.heap.size (fun r w2 => ∃ (F2 : Nat → Nat → Int32) (P2 : Int) (df2 : Nat → Int32) (z : Int), r = iI z ∧ kAt K w2 ad F2 tf L P2 df2 ∧ kFr ad w w2 ∧ rdP (tb tf L) L x v z (fun s u => mem (F s) u) (fun s u => mem (F2 s) u))) args s 0 0 (hm_A w s.heap.size)) (uM K w (ad 3) (ad 5) (ad 6) tf L P2 f2) 37 [(0, .ref (ad 0)), (1, .int (iI (x))), (2, .int (iI (v)))] [.int (bI (y))]
        rw [← code_2, ← ev] at hyt
        have hyf2 : y = false → ∀ S, ¬ isC (tb tf L) L (code_ S v) := by rw [ev]; exact hyf
        have hk2 : kAt K (uM K w (ad 3) (ad 5) (ad 6) tf L P2 f2) ad F tf L P2 f2 := (hk.tape tf (L2 := L) (P2 := P2) hk.L0 hk.L1).told f2
        have hfr : kFr ad w (uM K w (ad 3) (ad 5) (ad 6) tf L P2 f2) := kFr.tr kFr.tM (kFr.up 6 (by omega))
        have hL0 := hk.L0
        refine hv_if_neB E 42 dX6_read_37 (by decide) rfl (fun cy => ?_) (fun cy => ?_)
        · have hyt2 := hyt cy
          refine hv_aload_n E dX6_read_42 rfl 0 rfl rfl ?_
          refine hv_get (kf := 0) E dX6_read_43 (show vwCl[5]? = some (RX6, TX6, 4) from rfl) (by decide) gW_X6 gF_X6_11 rfl hk2.o rfl rfl ?_
          refine hv_iload_n E dX6_read_46 rfl 1 rfl rfl ?_
          obtain ⟨fa, hfa, hfb⟩ := hk2.2.1
          refine hv_aaldN E dX6_read_47 hfa (by omega) (by omega) (by decide) (hfb (x).toNat (by omega)) rfl ?_
          refine hv_aload_n E dX6_read_48 rfl 0 rfl rfl ?_
          refine hv_get (kf := 3) E dX6_read_49 (show vwCl[5]? = some (RX6, TX6, 4) from rfl) (by decide) gW_X6 gF_X6_29 rfl hk2.o rfl rfl ?_
          refine hv_callVV (na := 1) (As := [.ref (ad 4)]) (st := []) E (c2_copyFrom l D K (hk2.n (show (x).toNat < 8 by omega)) hk2.d (Ne.symm (hk2.2.2.2.2.2.2.2.2.1 x.toNat (by omega)))) dX6_read_52 (hk2.n (show (x).toNat < 8 by omega)).1 (show vwCl[1]? = some (RX2, TX2, 1) from rfl) gL_X6_128 gV_X2_copyFrom gI_X2_copyFrom gC_X2_copyFrom gZ_X2 (by decide +kernel) rfl ⟨Nat.le_of_ble_eq_true rfl, Nat.le_of_ble_eq_true rfl⟩ (Nat.le_of_ble_eq_true rfl) ⟨Nat.zero_le _, Nat.zero_le _⟩ rfl rfl (fun w2 hp => ?_)
          obtain ⟨f3, e3, hf3⟩ := hp
          rw [e3]
          show hm_V p l e (hm_rm 6 0 0) s m args below meth c D (hm_A w s.heap.size) 3 0 0 (MQ below (hm_Qi D w s.heap.size (fun r w2 => ∃ (F2 : Nat → Nat → Int32) (P2 : Int) (df2 : Nat → Int32) (z : Int), r = iI z ∧ kAt K w2 ad F2 tf L P2 df2 ∧ kFr ad w w2 ∧ rdP (tb tf L) L x v z (fun s u => mem (F s) u) (fun s u => mem (F2 s) u))) args s 0 0 (hm_A w s.heap.size)) (hm_up (uM K w (ad 3) (ad 5) (ad 6) tf L P2 f2) (ad (20 + x.toNat)) (.inl (K 0, 128, .inl f3))) 55 [(0, .ref (ad 0)), (1, .int (iI (x))), (2, .int (iI (v)))] []
          have hk3 := hk2.set (show x.toNat < 8 by omega) f3
          refine hv_aload_n E dX6_read_55 rfl 0 rfl rfl ?_
          refine hv_get (kf := 3) E dX6_read_56 (show vwCl[5]? = some (RX6, TX6, 4) from rfl) (by decide) gW_X6 gF_X6_29 rfl hk3.o rfl rfl ?_
          refine hv_callVI (na := 0) (As := []) (st := []) E (c2_amount l D K hk3.d) dX6_read_59 hk3.d.1 (show vwCl[1]? = some (RX2, TX2, 1) from rfl) gL_X6_75 gV_X2_amount gI_X2_amount gC_X2_amount gZ_X2 (by decide +kernel) rfl ⟨Nat.le_of_ble_eq_true rfl, Nat.le_of_ble_eq_true rfl⟩ (Nat.le_of_ble_eq_true rfl) ⟨Nat.zero_le _, Nat.zero_le _⟩ rfl rfl (fun r w2 hp => ?_)
          rw [hp.1, hp.2]
          show hm_V p l e (hm_rm 6 0 0) s m args below meth c D (hm_A w s.heap.size) 3 0 0 (MQ below (hm_Qi D w s.heap.size (fun r w2 => ∃ (F2 : Nat → Nat → Int32) (P2 : Int) (df2 : Nat → Int32) (z : Int), r = iI z ∧ kAt K w2 ad F2 tf L P2 df2 ∧ kFr ad w w2 ∧ rdP (tb tf L) L x v z (fun s u => mem (F s) u) (fun s u => mem (F2 s) u))) args s 0 0 (hm_A w s.heap.size)) (hm_up (uM K w (ad 3) (ad 5) (ad 6) tf L P2 f2) (ad (20 + x.toNat)) (.inl (K 0, 128, .inl f3))) 62 [(0, .ref (ad 0)), (1, .int (iI (x))), (2, .int (iI (v)))] [.int (iI ((ct (mem f2) 0 4096 : Nat)))]
          exact hv_iret E dX6_read_62 hr ⟨_, P2, f2, _, rfl, hk3, kFr.tr hfr (kFr.up _ (by omega)), Or.inr (Or.inr (Or.inr ⟨by omega, by omega, mem f2, hyt2, rfl, fun s u hs hu => (by
                show mem (if s = x.toNat then f3 else F s) u = _
                by_cases hx2 : s = x.toNat
                · rw [if_pos hx2, if_pos hx2, hf3 u hu]
                · rw [if_neg hx2, if_neg hx2])⟩))⟩
        · refine hv_iconst E dX6_read_40 rfl ?_
          exact hv_iret E dX6_read_41 hr ⟨F, P2, f2, -1, rfl, hk2, hfr, Or.inr (Or.inr (Or.inl ⟨by omega, by omega, rfl, hyf2 cy, fun _ _ _ _ => rfl⟩))⟩
    · have c2 := of_decide_eq_false c2
      refine hv_bipush E dX6_read_17 (by decide +kernel) rfl ?_
      exact hv_iret E dX6_read_19 hr ⟨F, P, df, -3, rfl, hk, kFr.rf, Or.inr (Or.inl ⟨by omega, by omega, rfl, fun _ _ _ _ => rfl⟩)⟩
  · have c1 := of_decide_eq_false c1
    refine hv_bipush E dX6_read_7 (by decide +kernel) rfl ?_
    exact hv_iret E dX6_read_9 hr ⟨F, P, df, -2, rfl, hk, kFr.rf, Or.inl ⟨by omega, rfl, fun _ _ _ _ => rfl⟩⟩
set_option maxHeartbeats 4000000 in
set_option maxRecDepth 100000 in
theorem c6_ask (l : Launch) (D : va_G) (K : Nat → ClassId) {w : hm_M} {ad : Nat → Nat} {F : Nat → Nat → Int32} {tf : Nat → Int32} {L P : Int} {df : Nat → Int32} (v n : Int) (hv : iB v) (hnb : iB n) (hk : kAt K w ad F tf L P df)  : hm_Ci l D K yX6_ask cX6_ask 3 .int 6 [.ref (ad 0), .int (iI (v)), .int (iI (n))] w 0 0 (fun r w2 => ∃ (P2 : Int) (df2 : Nat → Int32) (z : Int), r = iI z ∧ kAt K w2 ad F tf L P2 df2 ∧ kFr ad w w2 ∧ asP (tb tf L) L v n z) := by
  refine hm_enterI (by decide) (Nat.le_of_ble_eq_true rfl) ?_
  intro p e s m args below meth c E hr hnm
  show hm_V p l e (hm_rm 6 0 0) s m args below meth c D (hm_A w s.heap.size) 3 0 0 (MQ below (hm_Qi D w s.heap.size (fun r w2 => ∃ (P2 : Int) (df2 : Nat → Int32) (z : Int), r = iI z ∧ kAt K w2 ad F tf L P2 df2 ∧ kFr ad w w2 ∧ asP (tb tf L) L v n z)) args s 0 0 (hm_A w s.heap.size)) w 0 [(0, .ref (ad 0)), (1, .int (iI (v))), (2, .int (iI (n)))] []
  refine hv_iload_n E dX6_ask_0 rfl 1 rfl rfl ?_
  refine hv_callSI (na := 1) (As := [.int (iI (v))]) (st := []) E (c6_isKind l D K v hv) dX6_ask_1 gL_X6_108 gS_X6_isKind gC_X6_isKind gZ_X6 (by decide +kernel) rfl ⟨Nat.le_of_ble_eq_true rfl, Nat.le_of_ble_eq_true rfl⟩ (Nat.le_of_ble_eq_true rfl) ⟨Nat.zero_le _, Nat.zero_le _⟩ rfl rfl (fun r w2 hp => ?_)
  rw [hp.1, hp.2]
  show hm_V p l e (hm_rm 6 0 0) s m args below meth c D (hm_A w s.heap.size) 3 0 0 (MQ below (hm_Qi D w s.heap.size (fun r w2 => ∃ (P2 : Int) (df2 : Nat → Int32) (z : Int), r = iI z ∧ kAt K w2 ad F tf L P2 df2 ∧ kFr ad w w2 ∧ asP (tb tf L) L v n z)) args s 0 0 (hm_A w s.heap.size)) w 4 [(0, .ref (ad 0)), (1, .int (iI (v))), (2, .int (iI (n)))] [.int (bI (decide (0 ≤ v ∧ v < 3)))]
  refine hv_if_neB E 10 dX6_ask_4 (by decide) rfl (fun c1 => ?_) (fun c1 => ?_)
  · have c1 := of_decide_eq_true c1
    refine hv_aload_n E dX6_ask_10 rfl 0 rfl rfl ?_
    refine hv_get (kf := 1) E dX6_ask_11 (show vwCl[5]? = some (RX6, TX6, 4) from rfl) (by decide) gW_X6 gF_X6_17 rfl hk.o rfl rfl ?_
    refine hv_iload_n E dX6_ask_14 rfl 1 rfl rfl ?_
    obtain ⟨fc, hfc, hc0, hc1, hc2⟩ := hk.2.2.1
    rcases (show v = 0 ∨ v = 1 ∨ v = 2 by omega) with ev | ev | ev
    · refine hv_aaldC E dX6_ask_15 hfc (by omega) (by omega) (by decide) (by rw [ev]; exact hc0) rfl ?_
      refine hv_aload_n E dX6_ask_16 rfl 0 rfl rfl ?_
      refine hv_get (kf := 2) E dX6_ask_17 (show vwCl[5]? = some (RX6, TX6, 4) from rfl) (by decide) gW_X6 gF_X6_24 rfl hk.o rfl rfl ?_
      refine hv_aload_n E dX6_ask_20 rfl 0 rfl rfl ?_
      refine hv_get (kf := 3) E dX6_ask_21 (show vwCl[5]? = some (RX6, TX6, 4) from rfl) (by decide) gW_X6 gF_X6_29 rfl hk.o rfl rfl ?_
      refine hv_callUI (na := 2) (As := [.ref (ad 3), .ref (ad 4)]) (st := []) (owner := "KeyRows$Code") E (c5_learn l D K (a0 := ad 7) hk.t hk.d hk.L0 hk.L1) dX6_ask_24 hk.2.2.2.1.1 (show vwCl[4]? = some (RX5, TX5, 0) from rfl) gL_X6_124 gM_learn gV_X5_learn gI_X5_learn (by decide) gC_X5_learn gZ_X5 (by decide +kernel) rfl ⟨Nat.le_of_ble_eq_true rfl, Nat.le_of_ble_eq_true rfl⟩ (Nat.le_of_ble_eq_true rfl) ⟨Nat.zero_le _, Nat.zero_le _⟩ rfl rfl (fun r w2 hp => ?_)
      obtain ⟨y, f2, P2, hr1, e2, hyt, hyf⟩ := hp
      rw [hr1, e2]
      show hm_V p l e (hm_rm 6 0 0) s m args below meth c D (hm_A w s.heap.size) 3 0 0 (MQ below (hm_Qi D w s.heap.size (fun r w2 => ∃ (P2 : Int) (df2 : Nat → Int32) (z : Int), r = iI z ∧ kAt K w2 ad F tf L P2 df2 ∧ kFr ad w w2 ∧ asP (tb tf L) L v n z)) args s 0 0 (hm_A w s.heap.size)) (uM K w (ad 3) (ad 5) (ad 6) tf L P2 f2) 27 [(0, .ref (ad 0)), (1, .int (iI (v))), (2, .int (iI (n)))] [.int (bI (y))]
      rw [← code_0, ← ev] at hyt
      have hyf2 : y = false → ∀ S, ¬ isC (tb tf L) L (code_ S v) := by rw [ev]; exact hyf
      have hk2 : kAt K (uM K w (ad 3) (ad 5) (ad 6) tf L P2 f2) ad F tf L P2 f2 := (hk.tape tf (L2 := L) (P2 := P2) hk.L0 hk.L1).told f2
      have hfr : kFr ad w (uM K w (ad 3) (ad 5) (ad 6) tf L P2 f2) := kFr.tr kFr.tM (kFr.up 6 (by omega))
      have hL0 := hk.L0
      refine hv_if_neB E 32 dX6_ask_27 (by decide) rfl (fun cy => ?_) (fun cy => ?_)
      · have hyt2 := hyt cy
        refine hv_aload_n E dX6_ask_32 rfl 0 rfl rfl ?_
        refine hv_get (kf := 3) E dX6_ask_33 (show vwCl[5]? = some (RX6, TX6, 4) from rfl) (by decide) gW_X6 gF_X6_29 rfl hk2.o rfl rfl ?_
        refine hv_iload_n E dX6_ask_36 rfl 2 rfl rfl ?_
        refine hv_callVI (na := 1) (As := [.int (iI (n))]) (st := []) E (c2_nth l D K n hnb hk2.d) dX6_ask_37 hk2.d.1 (show vwCl[1]? = some (RX2, TX2, 1) from rfl) gL_X6_86 gV_X2_nth gI_X2_nth gC_X2_nth gZ_X2 (by decide +kernel) rfl ⟨Nat.le_of_ble_eq_true rfl, Nat.le_of_ble_eq_true rfl⟩ (Nat.le_of_ble_eq_true rfl) ⟨Nat.zero_le _, Nat.zero_le _⟩ rfl rfl (fun r w2 hp => ?_)
        obtain ⟨⟨z, p1, p2⟩, p3⟩ := hp
        rw [p2, p3]
        show hm_V p l e (hm_rm 6 0 0) s m args below meth c D (hm_A w s.heap.size) 3 0 0 (MQ below (hm_Qi D w s.heap.size (fun r w2 => ∃ (P2 : Int) (df2 : Nat → Int32) (z : Int), r = iI z ∧ kAt K w2 ad F tf L P2 df2 ∧ kFr ad w w2 ∧ asP (tb tf L) L v n z)) args s 0 0 (hm_A w s.heap.size)) (uM K w (ad 3) (ad 5) (ad 6) tf L P2 f2) 40 [(0, .ref (ad 0)), (1, .int (iI (v))), (2, .int (iI (n)))] [.int (iI (z))]
        exact hv_iret E dX6_ask_40 hr ⟨P2, f2, z, rfl, hk2, hfr, Or.inr (Or.inr ⟨by omega, mem f2, hyt2, p1⟩)⟩
      · refine hv_iconst E dX6_ask_30 rfl ?_
        exact hv_iret E dX6_ask_31 hr ⟨P2, f2, -1, rfl, hk2, hfr, Or.inr (Or.inl ⟨by omega, rfl, hyf2 cy⟩)⟩
    · refine hv_aaldC E dX6_ask_15 hfc (by omega) (by omega) (by decide) (by rw [ev]; exact hc1) rfl ?_
      refine hv_aload_n E dX6_ask_16 rfl 0 rfl rfl ?_
      refine hv_get (kf := 2) E dX6_ask_17 (show vwCl[5]? = some (RX6, TX6, 4) from rfl) (by decide) gW_X6 gF_X6_24 rfl hk.o rfl rfl ?_
      refine hv_aload_n E dX6_ask_20 rfl 0 rfl rfl ?_
      refine hv_get (kf := 3) E dX6_ask_21 (show vwCl[5]? = some (RX6, TX6, 4) from rfl) (by decide) gW_X6 gF_X6_29 rfl hk.o rfl rfl ?_
      refine hv_callUI (na := 2) (As := [.ref (ad 3), .ref (ad 4)]) (st := []) (owner := "KeyRows$Code") E (c1_learn l D K (a := ad 8) hk.t hk.d hk.L0 hk.L1) dX6_ask_24 hk.2.2.2.1.2.1 (show vwCl[0]? = some (RX1, TX1, 0) from rfl) gL_X6_124 gM_learn gV_X1_learn gI_X1_learn (by decide) gC_X1_learn gZ_X1 (by decide +kernel) rfl ⟨Nat.le_of_ble_eq_true rfl, Nat.le_of_ble_eq_true rfl⟩ (Nat.le_of_ble_eq_true rfl) ⟨Nat.zero_le _, Nat.zero_le _⟩ rfl rfl (fun r w2 hp => ?_)
      obtain ⟨y, f2, P2, hr1, e2, hyt, hyf⟩ := hp
      rw [hr1, e2]
      show hm_V p l e (hm_rm 6 0 0) s m args below meth c D (hm_A w s.heap.size) 3 0 0 (MQ below (hm_Qi D w s.heap.size (fun r w2 => ∃ (P2 : Int) (df2 : Nat → Int32) (z : Int), r = iI z ∧ kAt K w2 ad F tf L P2 df2 ∧ kFr ad w w2 ∧ asP (tb tf L) L v n z)) args s 0 0 (hm_A w s.heap.size)) (uM K w (ad 3) (ad 5) (ad 6) tf L P2 f2) 27 [(0, .ref (ad 0)), (1, .int (iI (v))), (2, .int (iI (n)))] [.int (bI (y))]
      rw [← code_1, ← ev] at hyt
      have hyf2 : y = false → ∀ S, ¬ isC (tb tf L) L (code_ S v) := by rw [ev]; exact hyf
      have hk2 : kAt K (uM K w (ad 3) (ad 5) (ad 6) tf L P2 f2) ad F tf L P2 f2 := (hk.tape tf (L2 := L) (P2 := P2) hk.L0 hk.L1).told f2
      have hfr : kFr ad w (uM K w (ad 3) (ad 5) (ad 6) tf L P2 f2) := kFr.tr kFr.tM (kFr.up 6 (by omega))
      have hL0 := hk.L0
      refine hv_if_neB E 32 dX6_ask_27 (by decide) rfl (fun cy => ?_) (fun cy => ?_)
      · have hyt2 := hyt cy
        refine hv_aload_n E dX6_ask_32 rfl 0 rfl rfl ?_
        refine hv_get (kf := 3) E dX6_ask_33 (show vwCl[5]? = some (RX6, TX6, 4) from rfl) (by decide) gW_X6 gF_X6_29 rfl hk2.o rfl rfl ?_
        refine hv_iload_n E dX6_ask_36 rfl 2 rfl rfl ?_
        refine hv_callVI (na := 1) (As := [.int (iI (n))]) (st := []) E (c2_nth l D K n hnb hk2.d) dX6_ask_37 hk2.d.1 (show vwCl[1]? = some (RX2, TX2, 1) from rfl) gL_X6_86 gV_X2_nth gI_X2_nth gC_X2_nth gZ_X2 (by decide +kernel) rfl ⟨Nat.le_of_ble_eq_true rfl, Nat.le_of_ble_eq_true rfl⟩ (Nat.le_of_ble_eq_true rfl) ⟨Nat.zero_le _, Nat.zero_le _⟩ rfl rfl (fun r w2 hp => ?_)
        obtain ⟨⟨z, p1, p2⟩, p3⟩ := hp
        rw [p2, p3]
        show hm_V p l e (hm_rm 6 0 0) s m args below meth c D (hm_A w s.heap.size) 3 0 0 (MQ below (hm_Qi D w s.heap.size (fun r w2 => ∃ (P2 : Int) (df2 : Nat → Int32) (z : Int), r = iI z ∧ kAt K w2 ad F tf L P2 df2 ∧ kFr ad w w2 ∧ asP (tb tf L) L v n z)) args s 0 0 (hm_A w s.heap.size)) (uM K w (ad 3) (ad 5) (ad 6) tf L P2 f2) 40 [(0, .ref (ad 0)), (1, .int (iI (v))), (2, .int (iI (n)))] [.int (iI (z))]
        exact hv_iret E dX6_ask_40 hr ⟨P2, f2, z, rfl, hk2, hfr, Or.inr (Or.inr ⟨by omega, mem f2, hyt2, p1⟩)⟩
      · refine hv_iconst E dX6_ask_30 rfl ?_
        exact hv_iret E dX6_ask_31 hr ⟨P2, f2, -1, rfl, hk2, hfr, Or.inr (Or.inl ⟨by omega, rfl, hyf2 cy⟩)⟩
    · refine hv_aaldC E dX6_ask_15 hfc (by omega) (by omega) (by decide) (by rw [ev]; exact hc2) rfl ?_
      refine hv_aload_n E dX6_ask_16 rfl 0 rfl rfl ?_
      refine hv_get (kf := 2) E dX6_ask_17 (show vwCl[5]? = some (RX6, TX6, 4) from rfl) (by decide) gW_X6 gF_X6_24 rfl hk.o rfl rfl ?_
      refine hv_aload_n E dX6_ask_20 rfl 0 rfl rfl ?_
      refine hv_get (kf := 3) E dX6_ask_21 (show vwCl[5]? = some (RX6, TX6, 4) from rfl) (by decide) gW_X6 gF_X6_29 rfl hk.o rfl rfl ?_
      refine hv_callUI (na := 2) (As := [.ref (ad 3), .ref (ad 4)]) (st := []) (owner := "KeyRows$Code") E (c3_learn l D K (a0 := ad 9) hk.t hk.d hk.L0 hk.L1) dX6_ask_24 hk.2.2.2.1.2.2 (show vwCl[2]? = some (RX3, TX3, 0) from rfl) gL_X6_124 gM_learn gV_X3_learn gI_X3_learn (by decide) gC_X3_learn gZ_X3 (by decide +kernel) rfl ⟨Nat.le_of_ble_eq_true rfl, Nat.le_of_ble_eq_true rfl⟩ (Nat.le_of_ble_eq_true rfl) ⟨Nat.zero_le _, Nat.zero_le _⟩ rfl rfl (fun r w2 hp => ?_)
      obtain ⟨y, f2, P2, hr1, e2, hyt, hyf⟩ := hp
      rw [hr1, e2]
      show hm_V p l e (hm_rm 6 0 0) s m args below meth c D (hm_A w s.heap.size) 3 0 0 (MQ below (hm_Qi D w s.heap.size (fun r w2 => ∃ (P2 : Int) (df2 : Nat → Int32) (z : Int), r = iI z ∧ kAt K w2 ad F tf L P2 df2 ∧ kFr ad w w2 ∧ asP (tb tf L) L v n z)) args s 0 0 (hm_A w s.heap.size)) (uM K w (ad 3) (ad 5) (ad 6) tf L P2 f2) 27 [(0, .ref (ad 0)), (1, .int (iI (v))), (2, .int (iI (n)))] [.int (bI (y))]
      rw [← code_2, ← ev] at hyt
      have hyf2 : y = false → ∀ S, ¬ isC (tb tf L) L (code_ S v) := by rw [ev]; exact hyf
      have hk2 : kAt K (uM K w (ad 3) (ad 5) (ad 6) tf L P2 f2) ad F tf L P2 f2 := (hk.tape tf (L2 := L) (P2 := P2) hk.L0 hk.L1).told f2
      have hfr : kFr ad w (uM K w (ad 3) (ad 5) (ad 6) tf L P2 f2) := kFr.tr kFr.tM (kFr.up 6 (by omega))
      have hL0 := hk.L0
      refine hv_if_neB E 32 dX6_ask_27 (by decide) rfl (fun cy => ?_) (fun cy => ?_)
      · have hyt2 := hyt cy
        refine hv_aload_n E dX6_ask_32 rfl 0 rfl rfl ?_
        refine hv_get (kf := 3) E dX6_ask_33 (show vwCl[5]? = some (RX6, TX6, 4) from rfl) (by decide) gW_X6 gF_X6_29 rfl hk2.o rfl rfl ?_
        refine hv_iload_n E dX6_ask_36 rfl 2 rfl rfl ?_
        refine hv_callVI (na := 1) (As := [.int (iI (n))]) (st := []) E (c2_nth l D K n hnb hk2.d) dX6_ask_37 hk2.d.1 (show vwCl[1]? = some (RX2, TX2, 1) from rfl) gL_X6_86 gV_X2_nth gI_X2_nth gC_X2_nth gZ_X2 (by decide +kernel) rfl ⟨Nat.le_of_ble_eq_true rfl, Nat.le_of_ble_eq_true rfl⟩ (Nat.le_of_ble_eq_true rfl) ⟨Nat.zero_le _, Nat.zero_le _⟩ rfl rfl (fun r w2 hp => ?_)
        obtain ⟨⟨z, p1, p2⟩, p3⟩ := hp
        rw [p2, p3]
        show hm_V p l e (hm_rm 6 0 0) s m args below meth c D (hm_A w s.heap.size) 3 0 0 (MQ below (hm_Qi D w s.heap.size (fun r w2 => ∃ (P2 : Int) (df2 : Nat → Int32) (z : Int), r = iI z ∧ kAt K w2 ad F tf L P2 df2 ∧ kFr ad w w2 ∧ asP (tb tf L) L v n z)) args s 0 0 (hm_A w s.heap.size)) (uM K w (ad 3) (ad 5) (ad 6) tf L P2 f2) 40 [(0, .ref (ad 0)), (1, .int (iI (v))), (2, .int (iI (n)))] [.int (iI (z))]
        exact hv_iret E dX6_ask_40 hr ⟨P2, f2, z, rfl, hk2, hfr, Or.inr (Or.inr ⟨by omega, mem f2, hyt2, p1⟩)⟩
      · refine hv_iconst E dX6_ask_30 rfl ?_
        exact hv_iret E dX6_ask_31 hr ⟨P2, f2, -1, rfl, hk2, hfr, Or.inr (Or.inl ⟨by omega, rfl, hyf2 cy⟩)⟩
  · have c1 := of_decide_eq_false c1
    refine hv_bipush E dX6_ask_7 (by decide +kernel) rfl ?_
    exact hv_iret E dX6_ask_9 hr ⟨P, df, -3, rfl, hk, kFr.rf, Or.inl ⟨by omega, rfl⟩⟩
